/-! ===== what stands outside the world, and is only read ===== -/
def stn (j : Nat) : String := ["FIRST_WORD", "FIRST_LEAST", "FIRST_MOST", "SECOND_WORD", "SECOND_MOST", "SEEN_IN", "SEEN_WORD"].getD j ""
def stl (j : Nat) : List Int := [[1, 4, 8], [0, 2, 0], [99, 4, 9999], [2, 5, 9], [99, 999, 9999], [1, 1, 63, 249], [16, 11, 12, 17, 18, 19, 20, 21]].getD j []
def owt : String := "ware weighs lifts ship holds trims loads berth from to lies water moon rides may gale hour weight lift tip count height if or and not all min max "
def owl : List Int := owt.toList.map (fun c => (c.toNat : Int))
def tyl (tc : Nat → ClassId) : List (ClassId × FieldType) := [(tc 100, .int), (tc 101, .long), (tc 102, .boolean)]
def kStr (sa : Nat → Option Nat) (A : Nat → Prop) (U : State) : Prop := ∃ a b : Nat, sa 7 = some a ∧ sa 8 = some b ∧ vk_R RX1 23 owt a U ∧ va_O "java/lang/String" a A U U.heap ∧ va_OF "java/lang/String" "coder" "B" (.int 0) a A U U.heap ∧ va_OF "java/lang/String" "value" "[B" (.ref b) a A U U.heap ∧ va_T .byte b owl.length (fun j => .int (Int32.ofInt (owl.getD j 0))) A U U.heap ∧ va_Z "java/lang/String" "COMPACT_STRINGS" "Z" (.int 1) A U U.heap ∧ va_Z "jdk/internal/util/Preconditions" "SIOOBE_FORMATTER" "Ljava/util/function/BiFunction;" (va_rf (sa 9)) A U U.heap
def kW (D : va_G) (tc : Nat → ClassId) (sa : Nat → Option Nat) (A : Nat → Prop) (U : State) : Prop :=
  va_K D vwCl (tyl tc) U ∧ (∀ w ∈ lw_tbl, isNest w = true → va_Nw w U) ∧ (∀ j, j < 7 → ∃ a : Nat, sa j = some a ∧ va_Z "WrongTide" (stn j) "[I" (.ref a) A U U.heap ∧ va_T .int a (stl j).length (fun k => .int (Int32.ofInt ((stl j).getD k 0))) A U U.heap) ∧ kStr sa A U
theorem nw_warm {w : Cond} (hn : isNest w = true) {s U : State} (hW : s.WarmedH U.vm) (h : va_Nw w s) : va_Nw w U := by
  cases w with
  | methodLinkNest a i x b => exact va_Nw.warmM hW h
  | fieldLinkNest a i b n d b2 => exact va_Nw.warmF hW h
  | _ => cases hn
theorem nw_same {w : Cond} (hn : isNest w = true) {s U : State} (hv : s.vm = U.vm) (h : va_Nw w s) : va_Nw w U := by
  cases w with
  | methodLinkNest a i x b => exact va_Nw.same rfl hv h
  | fieldLinkNest a i b n d b2 => exact va_Nw.same rfl hv h
  | _ => cases hn
theorem kW.narrow {D : va_G} {tc : Nat → ClassId} {sa : Nat → Option Nat} {A B : Nat → Prop} {U : State} (h : kW D tc sa A U) (hAB : ∀ q, B q → A q) : kW D tc sa B U := by
  obtain ⟨h1, h2, h3, a, b, g1, g2, g3, g4, g5, g6, g7, g8, g9⟩ := h
  refine ⟨h1, h2, fun j hj => ?_, a, b, g1, g2, g3, g4.narrow hAB, g5.narrow hAB, g6.narrow hAB, g7.narrow hAB, g8.narrow hAB, g9.narrow hAB⟩
  obtain ⟨a, q1, q2, q3⟩ := h3 j hj
  exact ⟨a, q1, q2.narrow hAB, q3.narrow hAB⟩
theorem kW.call {D : va_G} {tc : Nat → ClassId} {sa : Nat → Option Nat} {A : Nat → Prop} {s U : State} {H : Heap} {locs : List Loc} (h : kW D tc sa A s) (hS : va_S A s.heap H locs) (hU : U.heap = H) (hW : s.WarmedH U.vm) : kW D tc sa A U := by
  subst hU
  obtain ⟨h1, h2, h3, a, b, g1, g2, g3, g4, g5, g6, g7, g8, g9⟩ := h
  have hv := hW.alike
  refine ⟨va_K.moved hv h1, fun w hw hn => nw_warm hn hW (h2 w hw hn), fun j hj => ?_, a, b, g1, g2, vk_R.warm hW g3, (va_O.moved hv g4).kept hS.2.1, (va_OF.moved hv g5).kept hS.2.1, (va_OF.moved hv g6).kept hS.2.1, (va_T.moved hv g7).kept hS.2.1, (va_Z.moved hv g8).kept hS.2.1, (va_Z.moved hv g9).kept hS.2.1⟩
  obtain ⟨a, q1, q2, q3⟩ := h3 j hj
  exact ⟨a, q1, (va_Z.moved hv q2).kept hS.2.1, (va_T.moved hv q3).kept hS.2.1⟩
theorem kW.calling {D : va_G} {tc : Nat → ClassId} {sa : Nat → Option Nat} {A : Nat → Prop} {U : State} (g : JFrame) (mk : MethodId) (a : Array Value) (h : kW D tc sa A U) : kW D tc sa A (U.calling g mk a) := by
  obtain ⟨h1, h2, h3, x, b, g1, g2, g3, g4, g5, g6, g7, g8, g9⟩ := h
  have hv : U.vm.Alike (U.calling g mk a).vm := Vm.Alike.refl U.vm
  refine ⟨va_K.moved hv h1, fun w hw hn => nw_same hn (s := U) (U := U.calling g mk a) rfl (h2 w hw hn), fun j hj => ?_, x, b, g1, g2, vk_R.same (U := U.calling g mk a) rfl g3, va_O.moved hv g4, va_OF.moved hv g5, va_OF.moved hv g6, va_T.moved hv g7, va_Z.moved hv g8, va_Z.moved hv g9⟩
  obtain ⟨y, q1, q2, q3⟩ := h3 j hj
  exact ⟨y, q1, va_Z.moved hv q2, va_T.moved hv q3⟩
/-! ===== the judgement of a frame, and of a method ===== -/
def Fr (μ : MR) (p : Program) (s : State) (m : MethodId) (args : Array Value) (meth : Method) (c : Code) (A : Nat → Prop) (D : va_G) (tc : Nat → ClassId) (sa : Nat → Option Nat) : Prop :=
  p.tables.exec = Jvm.exec ∧ c.code = mrB μ ∧ meth.sig.returnType = mrT μ ∧ c.maxLocals = mrL μ ∧ s.vm.findClass (rx (mrO μ)) = some m.cls ∧ (∀ w ∈ Wg, w.before args s = true) ∧ meth.locks = false ∧ meth.name = (mrY μ).name ∧ (∀ q, s.heap.size ≤ q → A q) ∧ kW D tc sa A s ∧ MOK μ
def Wo (D : va_G) (tc : Nat → ClassId) (ad : Nat → Nat) (h : AH) (A : Nat → Prop) (s : State) (H : Heap) (locs : List Loc) : Prop :=
  va_P D vwCl (cw ad tc h) H ∧ va_D A (cw ad tc h) ∧ va_S A s.heap H locs ∧ okH h
def Qp (Q : Option AV → AH → Prop) (D : va_G) (tc : Nat → ClassId) (sa : Nat → Option Nat) (ad0 : Nat → Nat) (n0 : Nat) (A : Nat → Prop) : Array Value → State → Outcome → State → Prop := fun _ st oc t =>
  (∃ (r : Option AV) (h : AH) (ad : Nat → Nat), Q r h ∧ oc = .returned (r.map (cv ad sa)) ∧ (n0 ≤ h.1.length ∧ ∀ q, q < n0 → ad q = ad0 q) ∧ okr h.1.length r ∧ va_P D vwCl (cw ad tc h) t.heap ∧ va_D A (cw ad tc h) ∧ okH h) ∧ va_F A st t
def rom (d mc ms : Nat) : Room := { frames := d, cells := mc, slots := ms, locals := 40 * d }
def Ab (μ : MR) (d kc ks : Nat) (pc : Nat) (L : ML) (st : List AV) (h : AH) (Q : Option AV → AH → Prop) : Prop :=
  ∀ (p : Program) (l : Launch) (e : Env) (s : State) (m : MethodId) (args : Array Value) (below : List Frame) (meth : Method) (c : Code) (A : Nat → Prop) (D : va_G) (tc : Nat → ClassId) (sa : Nat → Option Nat) (ad ad0 : Nat → Nat) (n0 : Nat) (H : Heap) (locs : List Loc) (ls : Array Slot) (cells slots mc ms : Nat),
    Fr μ p s m args meth c A D tc sa → Wo D tc ad h A s H locs → (n0 ≤ h.1.length ∧ ∀ q, q < n0 → ad q = ad0 q) → lv_has ls (mrL μ) (lvOf ad sa L) → (okS h.1.length st ∧ okL h.1.length L) → (cells + kc ≤ mc ∧ slots + ks ≤ ms) →
    W p l e (rom d mc ms) s m args below meth c H locs cells slots (MQ below (Qp Q D tc sa ad0 n0 A) args s mc ms A) (F0 m pc ls (st.map (cv ad sa)))
def PcM (args : List AV) (h : AH) (D : va_G) (tc : Nat → ClassId) (sa : Nat → Option Nat) (ad : Nat → Nat) (sz : Nat) : Array Value → State → Prop :=
  va_Pc (args.map (cv ad sa)) (fun U => U.heap.size = sz ∧ va_P D vwCl (cw ad tc h) U.heap ∧ va_D (fun _ => True) (cw ad tc h) ∧ okH h ∧ okS h.1.length args ∧ kW D tc sa (va_A (cw ad tc h) sz) U)
def Rn (μ : MR) (d kc ks : Nat) (args : List AV) (h : AH) (Q : Option AV → AH → Prop) : Prop :=
  ∀ (l : Launch) (D : va_G) (tc : Nat → ClassId) (sa : Nat → Option Nat) (ad : Nat → Nat) (sz : Nat), Met l (mrY μ) (wsM μ) (rom d kc ks) (PcM args h D tc sa ad sz) (Qp Q D tc sa ad h.1.length (va_A (cw ad tc h) sz)) kc ks (va_A (cw ad tc h) sz)
def lfl : List AV → ML
  | [] => []
  | v :: t => bif isJ (some (some v)) then some v :: none :: lfl t else some v :: lfl t
def entL (args : List AV) (n : Nat) : ML := lfl args ++ List.replicate (n - (lfl args).length) none
theorem cv_cat1 {ad : Nat → Nat} {sa : Nat → Option Nat} {v : AV} (h : isJ (some (some v)) = false) : (cv ad sa v).category = 1 := by
  rcases lv_cat (cv ad sa v) with q | q
  · exact q
  · rw [cv_cat2 q] at h; cases h
theorem cv_catJ {ad : Nat → Nat} {sa : Nat → Option Nat} : ∀ {v : AV}, isJ (some (some v)) = true → (cv ad sa v).category = 2
  | .inl _, h => by cases h
  | .inr (.inl _), _ => rfl
  | .inr (.inr (.inl _)), h => by cases h
  | .inr (.inr (.inr _)), h => by cases h
theorem lfl_len {ad : Nat → Nat} {sa : Nat → Option Nat} : ∀ (args : List AV), (lg_sl (args.map (cv ad sa))).length = (lfl args).length
  | [] => rfl
  | v :: t => by
    have ih := lfl_len (ad := ad) (sa := sa) t
    unfold lg_sl at ih ⊢
    rw [List.map_cons, List.flatMap_cons, List.length_append, ih]
    show _ = (bif isJ (some (some v)) then some v :: none :: lfl t else some v :: lfl t).length
    cases hj : isJ (some (some v)) with
    | true => rw [if_pos (cv_catJ hj)]; simp; omega
    | false => rw [if_neg (by rw [cv_cat1 hj]; decide)]; simp; omega
theorem lfl_args {ad : Nat → Nat} {sa : Nat → Option Nat} : ∀ (args : List AV) (o i : Nat) (v : AV), (lfl args)[i]? = some (some v) → (o + i, cv ad sa v) ∈ lv_args o (args.map (cv ad sa))
  | [], _, _, _, h => by cases h
  | a :: t, o, i, v, h => by
    rw [List.map_cons]
    unfold lv_args
    unfold lfl at h
    cases hj : isJ (some (some a)) with
    | true =>
      rw [hj] at h
      rw [if_pos (cv_catJ hj)]
      match i, h with
      | 0, h => cases h; exact List.mem_cons_self
      | 1, h => cases h
      | i + 2, h =>
        have h' : (lfl t)[i]? = some (some v) := h
        have := lfl_args (ad := ad) (sa := sa) t (o + 2) i v h'
        rw [show o + (i + 2) = o + 2 + i by omega]
        exact List.mem_cons_of_mem _ this
    | false =>
      rw [hj] at h
      rw [if_neg (by rw [cv_cat1 hj]; decide)]
      match i, h with
      | 0, h => cases h; exact List.mem_cons_self
      | i + 1, h =>
        have h' : (lfl t)[i]? = some (some v) := h
        have := lfl_args (ad := ad) (sa := sa) t (o + 1) i v h'
        rw [show o + (i + 1) = o + 1 + i by omega]
        exact List.mem_cons_of_mem _ this
theorem lfl_mem : ∀ (args : List AV) (i : Nat) (v : AV), (lfl args)[i]? = some (some v) → v ∈ args
  | [], _, _, h => by cases h
  | a :: t, i, v, h => by
    unfold lfl at h
    cases hj : isJ (some (some a)) with
    | true =>
      rw [hj] at h
      match i, h with
      | 0, h => cases h; exact List.mem_cons_self
      | 1, h => cases h
      | i + 2, h => exact List.mem_cons_of_mem _ (lfl_mem t i v h)
    | false =>
      rw [hj] at h
      match i, h with
      | 0, h => cases h; exact List.mem_cons_self
      | i + 1, h => exact List.mem_cons_of_mem _ (lfl_mem t i v h)
theorem entL_at {args : List AV} {n i : Nat} {v : AV} (h : (entL args n)[i]? = some (some v)) : (lfl args)[i]? = some (some v) := by
  unfold entL at h
  by_cases hi : i < (lfl args).length
  · rw [List.getElem?_append_left hi] at h; exact h
  · rw [List.getElem?_append_right (by omega)] at h
    rw [List.getElem?_replicate] at h
    split at h <;> cases h
/-- a method, from the walk of its body -/
theorem rn_of {μ : MR} {d kc ks : Nat} {args : List AV} {h : AH} {Q : Option AV → AH → Prop} (hM : MOK μ) (hlen : (lfl args).length ≤ mrL μ) (k : Ab μ d kc ks 0 (entL args (mrL μ)) [] h Q) : Rn μ d kc ks args h Q := by
  intro l D tc sa ad sz
  refine Met.ofW (cc := mrB μ) (maxL := mrL μ) (ret := mrT μ) hM.1 rfl ?_
  intro p e s m args' below meth c s₁ B hml hv
  obtain ⟨rfl, hsz, hP, hD0, hH, hA, hK⟩ := hv
  have hts := atoms_spec (ws := wsM μ) B.pre
  have hown : s.vm.findClass (rx (mrO μ)) = some m.cls := by rw [hM.2.1]; exact findClass_of_methodNamed B.named
  have hlocks : meth.locks = false := B.notSynchronized
  subst hsz
  have hD := hD0.self (sz := s.heap.size)
  have hl := lv_entry (args.map (cv ad sa)) (n := mrL μ) (by rw [lfl_len]; exact hlen)
  rw [lg_entry_eq]
  refine k p l e s m _ below meth c (va_A (cw ad tc h) s.heap.size) D tc sa ad ad h.1.length s.heap [] _ 0 0 kc ks
    ⟨B.exec, B.bytes, B.returns, hml, hown, fun w hw => hts w (List.mem_cons_of_mem _ hw), hlocks, (name_of_methodNamed B.named B.method).1, fun q hq => Or.inr hq, hK, hM⟩
    ⟨hP, hD, va_S.rf, hH⟩ ⟨Nat.le_refl _, fun _ _ => rfl⟩ ⟨hl.1, hl.2.1, fun q hq => ?_⟩ ⟨trivial, fun i v hi => ?_⟩ ⟨by omega, by omega⟩
  · obtain ⟨v, h1, h2⟩ := lvOf_mem.mp hq
    have h3 := lfl_args (ad := ad) (sa := sa) args 0 q.1 v (entL_at h1)
    rw [Nat.zero_add, ← h2] at h3
    exact hl.2.2 q h3
  · exact okS_mem hA v (lfl_mem args i v (entL_at hi))
