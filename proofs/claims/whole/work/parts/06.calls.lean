theorem Wg_good {ν : MR} (h : MOK ν) : GoodIn Wg (wsM ν) := by
  intro w hw
  have hg : w ∈ Wg := by
    rcases List.mem_cons.mp hw with e | e
    · rw [e]; exact h.2.2.1
    · exact e
  exact ⟨hg, good_Wg hg⟩
def wtS : List AV → Nat
  | [] => 0
  | v :: t => (bif isJ (some (some v)) then 2 else 1) + wtS t
theorem wtS_eq {ad : Nat → Nat} {sa : Nat → Option Nat} : ∀ (st : List AV), ((st.map (cv ad sa)).map fun v => v.category).sum = wtS st
  | [] => rfl
  | v :: t => by
    rw [List.map_cons, List.map_cons, List.sum_cons, wtS_eq t]
    show _ = (bif isJ (some (some v)) then 2 else 1) + wtS t
    cases hj : isJ (some (some v)) with
    | true => rw [cv_catJ hj]; rfl
    | false => rw [cv_cat1 hj]; rfl
/-- a method that may be called: what the tables say of it -/
def CA (ν : MR) (n : Nat) : Prop := MOK ν ∧ Cond.initialized (mrY ν).cls ∈ Wg ∧ (mrY ν).cls ≠ "java/lang/invoke/MethodHandle" ∧ (mrY ν).cls ≠ "java/lang/invoke/VarHandle" ∧ (parseMethodDescriptor (mrY ν).desc).map (fun d => d.parameters.length) = some n
def CV (ν : MR) (n : Nat) : Prop := CA ν n ∧ Cond.instanceMethod (mrY ν) ∈ Wg ∧ Cond.selects (mrY ν).cls (mrY ν) (mrY ν) ∈ Wg
def CS (ν : MR) (n : Nat) : Prop := CA ν n ∧ Cond.static (mrY ν) ∈ Wg
def CI (ν : MR) (n : Nat) : Prop := CA ν n ∧ (mrY ν).name = "<init>" ∧ mrT ν = none ∧ Cond.instanceMethod (mrY ν) ∈ Wg
theorem blind {args : List AV} {h : AH} {D : va_G} {tc : Nat → ClassId} {sa : Nat → Option Nat} {ad : Nat → Nat} {sz : Nat} : FrameBlind (PcM args h D tc sa ad sz) := by
  intro a U g mk q
  obtain ⟨q0, q1, q2, q3, q4, q5, q6⟩ := q
  exact ⟨q0, q1, q2, q3, q4, q5, q6.calling g mk a⟩
theorem wo_free {D : va_G} {tc : Nat → ClassId} {ad : Nat → Nat} {h : AH} {A : Nat → Prop} {s : State} {H : Heap} {locs : List Loc} (X : Wo D tc ad h A s H locs) (hA : ∀ q, s.heap.size ≤ q → A q) : ∀ q, va_A (cw ad tc h) H.size q → A q := by
  intro q hq
  rcases hq with ⟨k, e, hk⟩ | hq
  · exact X.2.1.2 k _ hk
  · exact hA q (Nat.le_trans X.2.2.1.1 hq)
theorem wo_pc {D : va_G} {tc : Nat → ClassId} {sa : Nat → Option Nat} {ad : Nat → Nat} {h : AH} {A : Nat → Prop} {s : State} {H : Heap} {locs : List Loc} {as : List AV} (X : Wo D tc ad h A s H locs) (hA : ∀ q, s.heap.size ≤ q → A q) (hK : kW D tc sa A s) (hok : okS h.1.length as) : ∀ U : State, U.heap = H → s.WarmedH U.vm → PcM as h D tc sa ad H.size (as.map (cv ad sa)).toArray U := by
  intro U hU hW
  exact ⟨rfl, by rw [hU], by rw [hU]; exact X.1, X.2.1.weaken (fun _ _ _ _ => trivial), X.2.2.2, hok, (hK.call X.2.2.1 hU hW).narrow (wo_free X hA)⟩
theorem ab_after {μ : MR} {d kc ks pc kc' ks' : Nat} {L : ML} {rest : List AV} {h : AH} {Q Q' : Option AV → AH → Prop} {p : Program} {l : Launch} {e : Env} {s : State} {m : MethodId} {args : Array Value} {below : List Frame} {meth : Method} {c : Code} {A : Nat → Prop} {D : va_G} {tc : Nat → ClassId} {sa : Nat → Option Nat} {ad ad0 : Nat → Nat} {n0 : Nat} {H : Heap} {locs : List Loc} {ls : Array Slot} {cells slots mc ms : Nat} {st0 : List Value} {a : Array Value}
    (F : Fr μ p s m args meth c A D tc sa) (X : Wo D tc ad h A s H locs) (hn : n0 ≤ h.1.length ∧ ∀ q, q < n0 → ad q = ad0 q) (hl : lv_has ls (mrL μ) (lvOf ad sa L)) (hok : okS h.1.length rest ∧ okL h.1.length L) (hc : cells + kc ≤ mc ∧ slots + ks ≤ ms) (hk1 : kc' ≤ kc) (hk2 : ks' ≤ ks)
    (hr : va_Run p l e (rom d mc ms) s m args below meth c H locs cells slots kc' ks' (F0 m pc ls st0) (rest.map (cv ad sa)) (Qp Q' D tc sa ad h.1.length (va_A (cw ad tc h) H.size) a) (va_A (cw ad tc h) H.size))
    (kk : ∀ r h', Q' r h' → Ab μ d (kc - kc') (ks - ks') (pc + 3) L (r.toList ++ rest) h' Q) :
    W p l e (rom d mc ms) s m args below meth c H locs cells slots (MQ below (Qp Q D tc sa ad0 n0 A) args s mc ms A) (F0 m pc ls st0) := by
  intro T hT XX
  obtain ⟨v, st₀, t, T', L', h0, X', hL, e1, e2, ⟨⟨r, h', ad', hq, hv, hn', hokr, hP, hD, hH⟩, hz, hk⟩, st⟩ := hr T hT XX
  have hA := F.2.2.2.2.2.2.2.2.1
  have hfree := wo_free X hA
  rw [h0] at hz hk
  have hv' : v = r.map (cv ad' sa) := by injection hv
  subst hv'
  have hS' : va_S A s.heap T'.heap (locs ++ L') := by
    refine ⟨Nat.le_trans X.2.2.1.1 (by rw [e1]; exact hz), fun q h1 h2 => ?_, fun q hq => ?_⟩
    · rw [e1, hk q (Nat.lt_of_lt_of_le h1 X.2.2.1.1) (fun z => h2 (hfree q z))]
      exact X.2.2.1.2.1 q h1 h2
    · rcases List.mem_append.mp hq with z | z
      · exact X.2.2.1.2.2 q z
      · exact hfree _ (hL q z)
  have hokr2 : okS h'.1.length (r.toList ++ rest) := by
    cases r with
    | none => exact okS_mono hn'.1 hok.1
    | some w => exact ⟨hokr w rfl, okS_mono hn'.1 hok.1⟩
  have hst : (r.toList ++ rest).map (cv ad' sa) = (r.map (cv ad' sa)).toList ++ rest.map (cv ad sa) := by
    cases r with
    | none => exact cvS_same hn'.2 hok.1
    | some w => show cv ad' sa w :: rest.map (cv ad' sa) = cv ad' sa w :: rest.map (cv ad sa); rw [cvS_same hn'.2 hok.1]
  have hk3 := kk r h' hq p l e s m args below meth c A D tc sa ad' ad0 n0 T'.heap (locs ++ L') ls (cells + kc') (slots + ks') mc ms F
    ⟨by rw [e1]; exact hP, hD.weaken (fun _ q _ z => hfree q.1 z), hS', hH⟩ ⟨Nat.le_trans hn.1 hn'.1, fun q hq => by rw [hn'.2 q (Nat.lt_of_lt_of_le hq hn.1)]; exact hn.2 q hq⟩ (lvOf_same hn'.2 hok.2 hl) ⟨hokr2, okL_mono hn'.1 hok.2⟩ ⟨by omega, by omega⟩
  rw [hst] at hk3
  obtain ⟨t2, a1, b1⟩ := hk3 T' rfl X'
  exact ⟨t2, st t2 a1, b1⟩
section ABC
variable {μ ν : MR} {d kc ks pc d' kc' ks' i n : Nat} {L : ML} {st rest : List AV} {h : AH} {Q Q' : Option AV → AH → Prop}
theorem ab_callV {q t nn : Nat} {as : List AV} (hf : fnd (mrC μ) pc = some (.invokevirtual i, 3)) (hlk : Cond.methodLink (rx (mrO μ)) i (mrY ν) ∈ Wg) (hce : CV ν n) (hR : Rn ν d' kc' ks' (aR q :: as) h Q') (hd : d' + 1 ≤ d) (hk1 : kc' ≤ kc) (hk2 : ks' ≤ ks) (hq : h.1[q]? = some (t, nn)) (ht : t < 13) (hcl : (clT t).1 = (mrY ν).cls) (hn9 : as.length = n) (hst : st = as.reverse ++ aR q :: rest) (hw : wtS rest ≤ 8) (kk : ∀ r h', Q' r h' → Ab μ d (kc - kc') (ks - ks') (pc + 3) L (r.toList ++ rest) h' Q) : Ab μ d kc ks pc L st h Q := by
  subst hst
  intro p l e s m args below meth c A D tc sa ad ad0 n0 H locs ls cells slots mc ms F X hn hl hok hc
  obtain ⟨o1, o2⟩ := okS_app hok.1
  have hoa : okS h.1.length (aR q :: as) := ⟨o2.1, okS_of fun v hv => okS_mem o1 v (List.mem_reverse.mpr hv)⟩
  have hM := hce.1.1
  have hml := hM.2.2.2.2
  have hG : GoodIn Wg (wsV (rx (mrO μ)) i (mrY ν).cls (mrY ν) (wsM ν)) := by
    intro w hw
    rcases List.mem_append.mp hw with z | z
    · have hg : w ∈ Wg := by
        simp only [List.mem_cons, List.not_mem_nil, or_false] at z
        rcases z with e | e | e | e <;> rw [e]
        · exact hlk
        · exact hce.2.1
        · exact hce.2.2
        · exact hce.1.2.1
      exact ⟨hg, good_Wg hg⟩
    · exact Wg_good hM w z
  have hrun := va_runV (As := as.map (cv ad sa)) (rest := rest.map (cv ad sa)) (b := ad q) (C := (mrY ν).cls) (locs := locs) (cells := cells) (slots := slots) (e := e) (below := below) (meth := meth) (R := rom d mc ms) (g := F0 m pc ls ((as.reverse ++ aR q :: rest).map (cv ad sa))) ⟨F.1, F.2.1, F.2.2.2.1, F.own, F.hts⟩ (hR l D tc sa ad H.size) (cwV n F.hts hG rfl rfl rfl ⟨rfl, hce.1.2.2.1, hce.1.2.2.2.1, hce.1.2.2.2.2⟩ ⟨hd, by show 8 + (mrL ν + 11) + 40 * d' ≤ 40 * d; omega⟩)
    ⟨blind, by have := va_recv F.kW.1 X.1 (ctok t ht).1 (cw_obj hq (by omega)); rw [hcl] at this; exact this, wo_pc X F.2.2.2.2.2.2.2.2.1 F.kW hoa⟩ rfl (by rw [List.length_map]; exact hn9) hl.1 (by simp [cv]) (lv_room (by rw [wtS_eq]; exact hw)) (Fr.dec F hf) ⟨by show cells + kc' ≤ mc; omega, by show slots + ks' ≤ ms; omega⟩
  exact ab_after F X hn hl ⟨o2.2, hok.2⟩ hc hk1 hk2 hrun kk
theorem ab_callS {as : List AV} (hf : fnd (mrC μ) pc = some (.invokestatic i, 3)) (hlk : Cond.methodLink (rx (mrO μ)) i (mrY ν) ∈ Wg) (hce : CS ν n) (hR : Rn ν d' kc' ks' as h Q') (hd : d' + 1 ≤ d) (hk1 : kc' ≤ kc) (hk2 : ks' ≤ ks) (hn9 : as.length = n) (hst : st = as.reverse ++ rest) (hw : wtS rest ≤ 8) (kk : ∀ r h', Q' r h' → Ab μ d (kc - kc') (ks - ks') (pc + 3) L (r.toList ++ rest) h' Q) : Ab μ d kc ks pc L st h Q := by
  subst hst
  intro p l e s m args below meth c A D tc sa ad ad0 n0 H locs ls cells slots mc ms F X hn hl hok hc
  obtain ⟨o1, o2⟩ := okS_app hok.1
  have hoa : okS h.1.length as := okS_of fun v hv => okS_mem o1 v (List.mem_reverse.mpr hv)
  have hM := hce.1.1
  have hml := hM.2.2.2.2
  have hG : GoodIn Wg (va_wsS (rx (mrO μ)) i (mrY ν) (wsM ν)) := by
    intro w hw
    rcases List.mem_append.mp hw with z | z
    · have hg : w ∈ Wg := by
        simp only [List.mem_cons, List.not_mem_nil, or_false] at z
        rcases z with e | e | e <;> rw [e]
        · exact hlk
        · exact hce.2
        · exact hce.1.2.1
      exact ⟨hg, good_Wg hg⟩
    · exact Wg_good hM w z
  have hrun := va_runS (As := as.map (cv ad sa)) (rest := rest.map (cv ad sa)) (locs := locs) (cells := cells) (slots := slots) (e := e) (below := below) (meth := meth) (R := rom d mc ms) (g := F0 m pc ls ((as.reverse ++ rest).map (cv ad sa))) ⟨F.1, F.2.1, F.2.2.2.1, F.own, F.hts⟩ (hR l D tc sa ad H.size) (va_cwS n F.hts hG rfl rfl rfl ⟨hce.1.2.2.1, hce.1.2.2.2.1, hce.1.2.2.2.2⟩ ⟨hd, by show 8 + (mrL ν + 11) + 40 * d' ≤ 40 * d; omega⟩)
    ⟨blind, wo_pc X F.2.2.2.2.2.2.2.2.1 F.kW hoa⟩ rfl (by rw [List.length_map]; exact hn9) hl.1 (by simp) (lv_room (by rw [wtS_eq]; exact hw)) (Fr.dec F hf) ⟨by show cells + kc' ≤ mc; omega, by show slots + ks' ≤ ms; omega⟩
  exact ab_after F X hn hl ⟨o2, hok.2⟩ hc hk1 hk2 hrun kk
theorem ab_callSN {as : List AV} {host : String} (hf : fnd (mrC μ) pc = some (.invokestatic i, 3)) (hlk : ∃ k : Nat, lw_tbl[k]? = some (Cond.methodLinkNest (rx (mrO μ)) i (mrY ν) host)) (hce : CS ν n) (hR : Rn ν d' kc' ks' as h Q') (hd : d' + 1 ≤ d) (hk1 : kc' ≤ kc) (hk2 : ks' ≤ ks) (hn9 : as.length = n) (hst : st = as.reverse ++ rest) (hw : wtS rest ≤ 8) (kk : ∀ r h', Q' r h' → Ab μ d (kc - kc') (ks - ks') (pc + 3) L (r.toList ++ rest) h' Q) : Ab μ d kc ks pc L st h Q := by
  subst hst
  intro p l e s m args below meth c A D tc sa ad ad0 n0 H locs ls cells slots mc ms F X hn hl hok hc
  obtain ⟨k9, hk9⟩ := hlk
  obtain ⟨o1, o2⟩ := okS_app hok.1
  have hoa : okS h.1.length as := okS_of fun v hv => okS_mem o1 v (List.mem_reverse.mpr hv)
  have hM := hce.1.1
  have hml := hM.2.2.2.2
  have hrun := va_runSN (host := host) (As := as.map (cv ad sa)) (rest := rest.map (cv ad sa)) (locs := locs) (cells := cells) (slots := slots) (e := e) (below := below) (meth := meth) (R := rom d mc ms) (g := F0 m pc ls ((as.reverse ++ rest).map (cv ad sa))) ⟨F.1, F.2.1, F.2.2.2.1, F.own, F.hts⟩ (hR l D tc sa ad H.size) ⟨va_cnB n F.hts (Wg_good hM) rfl rfl rfl (F.kW.2.1 _ (List.mem_of_getElem? hk9) rfl) (F.hts _ hce.1.2.1) ⟨hce.1.2.2.1, hce.1.2.2.2.1, hce.1.2.2.2.2⟩ ⟨hd, by show 8 + (mrL ν + 11) + 40 * d' ≤ 40 * d; omega⟩, F.hts _ hce.2, trivial⟩
    ⟨blind, wo_pc X F.2.2.2.2.2.2.2.2.1 F.kW hoa⟩ rfl (by rw [List.length_map]; exact hn9) hl.1 (by simp) (lv_room (by rw [wtS_eq]; exact hw)) (Fr.dec F hf) ⟨by show cells + kc' ≤ mc; omega, by show slots + ks' ≤ ms; omega⟩
  exact ab_after F X hn hl ⟨o2, hok.2⟩ hc hk1 hk2 hrun kk
theorem ab_callI {q : Nat} {as : List AV} (hf : fnd (mrC μ) pc = some (.invokespecial i, 3)) (hlk : Cond.methodLink (rx (mrO μ)) i (mrY ν) ∈ Wg) (hce : CI ν n) (hR : Rn ν d' kc' ks' (aR q :: as) h Q') (hd : d' + 1 ≤ d) (hk1 : kc' ≤ kc) (hk2 : ks' ≤ ks) (hn9 : as.length = n) (hst : st = as.reverse ++ aR q :: rest) (hw : wtS rest ≤ 8) (kk : ∀ r h', Q' r h' → Ab μ d (kc - kc') (ks - ks') (pc + 3) L (r.toList ++ rest) h' Q) : Ab μ d kc ks pc L st h Q := by
  subst hst
  intro p l e s m args below meth c A D tc sa ad ad0 n0 H locs ls cells slots mc ms F X hn hl hok hc
  obtain ⟨o1, o2⟩ := okS_app hok.1
  have hoa : okS h.1.length (aR q :: as) := ⟨o2.1, okS_of fun v hv => okS_mem o1 v (List.mem_reverse.mpr hv)⟩
  have hM := hce.1.1
  have hml := hM.2.2.2.2
  have hrt := hce.2.2.1
  have hrun := va_runI (As := as.map (cv ad sa)) (rest := rest.map (cv ad sa)) (b := ad q) (locs := locs) (cells := cells) (slots := slots) (e := e) (below := below) (meth := meth) (R := rom d mc ms) (g := F0 m pc ls ((as.reverse ++ aR q :: rest).map (cv ad sa))) ⟨F.1, F.2.1, F.2.2.2.1, F.own, F.hts⟩ (hR l D tc sa ad H.size) (cwI n F.hts (Wg_good hM) (by unfold wsM; rw [hrt]) rfl rfl (F.hts _ hce.1.2.1) (F.hts _ hlk) (F.hts _ hce.2.2.2) hce.2.1 ⟨hce.1.2.2.1, hce.1.2.2.2.1, hce.1.2.2.2.2⟩ ⟨hd, by show 8 + (mrL ν + 11) + 40 * d' ≤ 40 * d; omega⟩)
    ⟨blind, wo_pc X F.2.2.2.2.2.2.2.2.1 F.kW hoa⟩ rfl (by rw [List.length_map]; exact hn9) hl.1 (by simp [cv]) (lv_room (by rw [wtS_eq]; exact hw)) (Fr.dec F hf) ⟨by show cells + kc' ≤ mc; omega, by show slots + ks' ≤ ms; omega⟩
  exact ab_after F X hn hl ⟨o2.2, hok.2⟩ hc hk1 hk2 hrun kk
theorem ab_callIN {q : Nat} {as : List AV} {host : String} (hf : fnd (mrC μ) pc = some (.invokespecial i, 3)) (hlk : ∃ k : Nat, lw_tbl[k]? = some (Cond.methodLinkNest (rx (mrO μ)) i (mrY ν) host)) (hce : CI ν n) (hR : Rn ν d' kc' ks' (aR q :: as) h Q') (hd : d' + 1 ≤ d) (hk1 : kc' ≤ kc) (hk2 : ks' ≤ ks) (hn9 : as.length = n) (hst : st = as.reverse ++ aR q :: rest) (hw : wtS rest ≤ 8) (kk : ∀ r h', Q' r h' → Ab μ d (kc - kc') (ks - ks') (pc + 3) L (r.toList ++ rest) h' Q) : Ab μ d kc ks pc L st h Q := by
  subst hst
  intro p l e s m args below meth c A D tc sa ad ad0 n0 H locs ls cells slots mc ms F X hn hl hok hc
  obtain ⟨k9, hk9⟩ := hlk
  obtain ⟨o1, o2⟩ := okS_app hok.1
  have hoa : okS h.1.length (aR q :: as) := ⟨o2.1, okS_of fun v hv => okS_mem o1 v (List.mem_reverse.mpr hv)⟩
  have hM := hce.1.1
  have hml := hM.2.2.2.2
  have hrt := hce.2.2.1
  have hrun := va_runIN (host := host) (As := as.map (cv ad sa)) (rest := rest.map (cv ad sa)) (b := ad q) (locs := locs) (cells := cells) (slots := slots) (e := e) (below := below) (meth := meth) (R := rom d mc ms) (g := F0 m pc ls ((as.reverse ++ aR q :: rest).map (cv ad sa))) ⟨F.1, F.2.1, F.2.2.2.1, F.own, F.hts⟩ (hR l D tc sa ad H.size) ⟨va_cnB n F.hts (Wg_good hM) (by unfold wsM; rw [hrt]) rfl rfl (F.kW.2.1 _ (List.mem_of_getElem? hk9) rfl) (F.hts _ hce.1.2.1) ⟨hce.1.2.2.1, hce.1.2.2.2.1, hce.1.2.2.2.2⟩ ⟨hd, by show 8 + (mrL ν + 11) + 40 * d' ≤ 40 * d; omega⟩, hce.2.1, F.hts _ hce.2.2.2⟩
    ⟨blind, wo_pc X F.2.2.2.2.2.2.2.2.1 F.kW hoa⟩ rfl (by rw [List.length_map]; exact hn9) hl.1 (by simp [cv]) (lv_room (by rw [wtS_eq]; exact hw)) (Fr.dec F hf) ⟨by show cells + kc' ≤ mc; omega, by show slots + ks' ≤ ms; omega⟩
  exact ab_after F X hn hl ⟨o2.2, hok.2⟩ hc hk1 hk2 hrun kk
end ABC
