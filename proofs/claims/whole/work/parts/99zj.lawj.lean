/-! ===== the judgement of the law's frame ===== -/
def FrL (n : Nat) (xs : Nat → Int32) (p : Program) (s : State) (m : MethodId) (meth : Method) (c : Code) (b : Nat) (D : va_G) (tc : Nat → ClassId) (sa : Nat → Option Nat) : Prop :=
  p.tables.exec = Jvm.exec ∧ c.code = code ∧ meth.sig.returnType = ret ∧ c.maxLocals = 4 ∧ s.vm.findClass R_law = some m.cls ∧ (∀ w ∈ Wg, w.before #[Value.ref b] s = true) ∧ va_X b n xs s s.heap ∧ b < s.heap.size ∧ meth.locks = false ∧ kW D tc sa (fun q => s.heap.size ≤ q) s ∧ sa 10 = some b
/-- from here the law comes to its end with 1 -/
def Lw (n : Nat) (xs : Nat → Int32) (kc ks pc : Nat) (L : ML) (st : List AV) (h : AH) : Prop :=
  ∀ (p : Program) (l : Launch) (e : Env) (s : State) (m : MethodId) (below : List Frame) (meth : Method) (c : Code) (b : Nat) (D : va_G) (tc : Nat → ClassId) (sa : Nat → Option Nat) (ad : Nat → Nat) (H : Heap) (locs : List Loc) (ls : Array Slot) (cells slots : Nat),
    FrL n xs p s m meth c b D tc sa → Wo D tc ad h (fun q => s.heap.size ≤ q) s H locs → lv_has ls 4 (lvOf ad sa L) → (okS h.1.length st ∧ okL h.1.length L) → (cells + kc ≤ 600000 ∧ slots + ks ≤ 7302250) →
    W p l e room_1 s m #[Value.ref b] below meth c H locs cells slots (lw_Z below #[Value.ref b] s) (F0 m pc ls (st.map (cv ad sa)))
section LWR
variable {n kc ks pc : Nat} {xs : Nat → Int32} {L : ML} {st : List AV} {h : AH}
theorem lq_iadd {x y : Int} (hd : decode code pc = .ok (.iadd, 1)) (k : Lw n xs kc ks (pc + 1) L (aI (w32 (x + y)) :: st) h) : Lw n xs kc ks pc L (aI y :: aI x :: st) h := by
  intro p l e s m below meth c b D tc sa ad H locs ls cells slots F X hl hok hc
  refine lv_iadd F.1 F.2.1 hd ?_
  refine W.eq (congrArg (fun z : Int32 => F0 m (pc + 1) ls (.int z :: st.map (cv ad sa))) (q_add x y)) ?_
  exact k p l e s m below meth c b D tc sa ad H locs ls cells slots F X hl ⟨⟨w32_in _, hok.1.2.2⟩, hok.2⟩ hc
theorem lq_isub {x y : Int} (hd : decode code pc = .ok (.isub, 1)) (k : Lw n xs kc ks (pc + 1) L (aI (w32 (x - y)) :: st) h) : Lw n xs kc ks pc L (aI y :: aI x :: st) h := by
  intro p l e s m below meth c b D tc sa ad H locs ls cells slots F X hl hok hc
  refine lv_isub F.1 F.2.1 hd ?_
  refine W.eq (congrArg (fun z : Int32 => F0 m (pc + 1) ls (.int z :: st.map (cv ad sa))) (q_sub x y)) ?_
  exact k p l e s m below meth c b D tc sa ad H locs ls cells slots F X hl ⟨⟨w32_in _, hok.1.2.2⟩, hok.2⟩ hc
theorem lq_iand {x y : Int} (hd : decode code pc = .ok (.iand, 1)) (k : Lw n xs kc ks (pc + 1) L (aI (iAnd x y) :: st) h) : Lw n xs kc ks pc L (aI y :: aI x :: st) h := by
  intro p l e s m below meth c b D tc sa ad H locs ls cells slots F X hl hok hc
  refine lv_iand F.1 F.2.1 hd ?_
  refine W.eq (congrArg (fun z : Int32 => F0 m (pc + 1) ls (.int z :: st.map (cv ad sa))) ((Int32.ofInt_toInt _).symm)) ?_
  exact k p l e s m below meth c b D tc sa ad H locs ls cells slots F X hl ⟨⟨t32_in _, hok.1.2.2⟩, hok.2⟩ hc
theorem lq_iconst {z : Int} (hd : decode code pc = .ok (.iconst z, 1)) (h8 : -128 ≤ z ∧ z ≤ 127) (k : Lw n xs kc ks (pc + 1) L (aI z :: st) h) : Lw n xs kc ks pc L st h := by
  intro p l e s m below meth c b D tc sa ad H locs ls cells slots F X hl hok hc
  refine lv_iconst (v := Int32.ofInt z) F.1 F.2.1 hd rfl ?_
  exact k p l e s m below meth c b D tc sa ad H locs ls cells slots F X hl ⟨⟨⟨by omega, by omega⟩, hok.1⟩, hok.2⟩ hc
theorem lq_bipush {z : Int} (hd : decode code pc = .ok (.bipush z, 2)) (h8 : -128 ≤ z ∧ z ≤ 127) (k : Lw n xs kc ks (pc + 2) L (aI z :: st) h) : Lw n xs kc ks pc L st h := by
  intro p l e s m below meth c b D tc sa ad H locs ls cells slots F X hl hok hc
  refine lv_bipush (v := Int32.ofInt z) F.1 F.2.1 hd (q_byte h8.1 h8.2) ?_
  exact k p l e s m below meth c b D tc sa ad H locs ls cells slots F X hl ⟨⟨⟨by omega, by omega⟩, hok.1⟩, hok.2⟩ hc
theorem lq_iload_n {i : Fin 4} {x : Int} (hd : decode code pc = .ok (.iload_n i, 1)) (hL : L[(i : Nat)]? = some (some (aI x))) (kk : Lw n xs kc ks (pc + 1) L (aI x :: st) h) : Lw n xs kc ks pc L st h := by
  intro p l e s m below meth c b D tc sa ad H locs ls cells slots F X hl hok hc
  refine lv_iload_n F.1 F.2.1 hd rfl (lvOf_at hl hL) ?_
  exact kk p l e s m below meth c b D tc sa ad H locs ls cells slots F X hl ⟨⟨hok.2 _ _ hL, hok.1⟩, hok.2⟩ hc
theorem lq_aload_n {i : Fin 4} {x : Nat} (hd : decode code pc = .ok (.aload_n i, 1)) (hL : L[(i : Nat)]? = some (some (aR x))) (kk : Lw n xs kc ks (pc + 1) L (aR x :: st) h) : Lw n xs kc ks pc L st h := by
  intro p l e s m below meth c b D tc sa ad H locs ls cells slots F X hl hok hc
  refine lv_aload_n F.1 F.2.1 hd rfl (lvOf_at hl hL) ?_
  exact kk p l e s m below meth c b D tc sa ad H locs ls cells slots F X hl ⟨⟨hok.2 _ _ hL, hok.1⟩, hok.2⟩ hc
/-- the script -/
theorem lq_sload_n {i : Fin 4} (hd : decode code pc = .ok (.aload_n i, 1)) (hL : L[(i : Nat)]? = some (some (aS 10))) (kk : Lw n xs kc ks (pc + 1) L (aS 10 :: st) h) : Lw n xs kc ks pc L st h := by
  intro p l e s m below meth c b D tc sa ad H locs ls cells slots F X hl hok hc
  have e10 : cv ad sa (aS 10) = .ref b := by show va_rf (sa 10) = _; rw [F.2.2.2.2.2.2.2.2.2.2]; rfl
  have h3 := kk p l e s m below meth c b D tc sa ad H locs ls cells slots F X hl ⟨⟨trivial, hok.1⟩, hok.2⟩ hc
  rw [List.map_cons, e10] at h3
  have h4 := lvOf_at hl hL
  rw [e10] at h4
  exact lv_aload_n F.1 F.2.1 hd rfl h4 h3
theorem lq_slen (hd : decode code pc = .ok (.arraylength, 1)) (hn : n ≤ 3072) (k : Lw n xs kc ks (pc + 1) L (aI (n : Int) :: st) h) : Lw n xs kc ks pc L (aS 10 :: st) h := by
  intro p l e s m below meth c b D tc sa ad H locs ls cells slots F X hl hok hc
  have e10 : cv ad sa (aS 10) = .ref b := by show va_rf (sa 10) = _; rw [F.2.2.2.2.2.2.2.2.2.2]; rfl
  have hin : in32 (n : Int) := by unfold in32; omega
  have h3 := k p l e s m below meth c b D tc sa ad H locs ls cells slots F X hl ⟨⟨hin, hok.1.2⟩, hok.2⟩ hc
  have e11 : cv ad sa (aI (n : Int)) = .int (Int32.ofNat n) := by
    show Value.int (Int32.ofInt (n : Int)) = Value.int (Int32.ofNat n)
    rfl
  rw [List.map_cons, e11] at h3
  rw [List.map_cons, e10]
  exact va_slen F.1 F.2.1 F.2.2.2.2.2.2.1 F.2.2.2.2.2.2.2.1 (Nat.not_le.mpr F.2.2.2.2.2.2.2.1) X.2.2.1 hd h3
theorem lq_sld {x : Int} (hd : decode code pc = .ok (.iaload, 1)) (h0 : 0 ≤ x) (h1 : x < n) (k : Lw n xs kc ks (pc + 1) L (aI (xs x.toNat).toInt :: st) h) : Lw n xs kc ks pc L (aI x :: aS 10 :: st) h := by
  intro p l e s m below meth c b D tc sa ad H locs ls cells slots F X hl hok hc
  have e10 : cv ad sa (aS 10) = .ref b := by show va_rf (sa 10) = _; rw [F.2.2.2.2.2.2.2.2.2.2]; rfl
  have h3 := k p l e s m below meth c b D tc sa ad H locs ls cells slots F X hl ⟨⟨t32_in _, hok.1.2.2⟩, hok.2⟩ hc
  have e11 : cv ad sa (aI (xs x.toNat).toInt) = .int (xs (Int32.ofInt x).toNatClampNeg) := by
    show Value.int (Int32.ofInt (xs x.toNat).toInt) = _
    rw [Int32.ofInt_toInt, q_nat h0 hok.1.1]
  rw [List.map_cons, e11] at h3
  rw [List.map_cons, List.map_cons, e10]
  exact va_sld F.1 F.2.1 F.2.2.2.2.2.2.1 F.2.2.2.2.2.2.2.1 (Nat.not_le.mpr F.2.2.2.2.2.2.2.1) X.2.2.1 (q_in h0 h1 hok.1.1) hd h3
theorem lq_istore_n {i : Fin 4} {x : Int} {L' : ML} (hd : decode code pc = .ok (.istore_n i, 1)) (hL : lset1 L (i : Nat) (aI x) = L') (kk : Lw n xs kc ks (pc + 1) L' st h) : Lw n xs kc ks pc L (aI x :: st) h := by
  subst hL
  intro p l e s m below meth c b D tc sa ad H locs ls cells slots F X hl hok hc
  refine lv_istore_n F.1 F.2.1 hd rfl hl i.isLt rfl fun ls' hl' => ?_
  exact kk p l e s m below meth c b D tc sa ad H locs ls' cells slots F X (lset1_has hl') ⟨hok.1.2, lset1_ok hok.2 hok.1.1⟩ hc
theorem lq_astore_n {i : Fin 4} {x : Nat} {L' : ML} (hd : decode code pc = .ok (.astore_n i, 1)) (hL : lset1 L (i : Nat) (aR x) = L') (kk : Lw n xs kc ks (pc + 1) L' st h) : Lw n xs kc ks pc L (aR x :: st) h := by
  subst hL
  intro p l e s m below meth c b D tc sa ad H locs ls cells slots F X hl hok hc
  refine lv_astore_n F.1 F.2.1 hd rfl hl i.isLt rfl fun ls' hl' => ?_
  exact kk p l e s m below meth c b D tc sa ad H locs ls' cells slots F X (lset1_has (v := aR x) hl') ⟨hok.1.2, lset1_ok hok.2 hok.1.1⟩ hc
theorem lq_iinc {i : Nat} {z x : Int} {L' : ML} (hd : decode code pc = .ok (.iinc i z, 3)) (hL : L[i]? = some (some (aI x))) (h1 : -2147483648 ≤ x + z) (h2 : x + z < 2147483648) (hL' : lset1 L i (aI (x + z)) = L') (kk : Lw n xs kc ks (pc + 3) L' st h) : Lw n xs kc ks pc L st h := by
  subst hL'
  intro p l e s m below meth c b D tc sa ad H locs ls cells slots F X hl hok hc
  have hm : (i, cv ad sa (aI x)) ∈ lvOf ad sa L := lvOf_mem.mpr ⟨aI x, hL, rfl⟩
  obtain ⟨j, hj⟩ := List.getElem?_of_mem hm
  have hb : i < 4 := by
    have := lv_lt (lvOf_at hl hL)
    rw [hl.1] at this
    exact this
  refine lv_iinc (k := j) (v := Int32.ofInt (x + z)) F.1 F.2.1 hd hl hj (by rw [q_add x z, w32_id h1 h2]) hb rfl fun ls' hl' => ?_
  exact kk p l e s m below meth c b D tc sa ad H locs ls' cells slots F X (lset1_has (v := aI (x + z)) hl') ⟨hok.1, lset1_ok hok.2 ⟨h1, h2⟩⟩ hc
theorem lq_dup {v : AV} (hd : decode code pc = .ok (.dup, 1)) (hv : isJ (some (some v)) = false) (k : Lw n xs kc ks (pc + 1) L (v :: v :: st) h) : Lw n xs kc ks pc L (v :: st) h := by
  intro p l e s m below meth c b D tc sa ad H locs ls cells slots F X hl hok hc
  refine lv_dup F.1 F.2.1 hd (cv_cat1 hv) ?_
  exact k p l e s m below meth c b D tc sa ad H locs ls cells slots F X hl ⟨⟨hok.1.1, hok.1⟩, hok.2⟩ hc
theorem lq_goto {off : Int} {tgt : Nat} (hd : decode code pc = .ok (.goto off, 3)) (ht : (pc : Int) + off = (tgt : Int)) (k : Lw n xs kc ks tgt L st h) : Lw n xs kc ks pc L st h := by
  intro p l e s m below meth c b D tc sa ad H locs ls cells slots F X hl hok hc
  refine lv_goto F.1 F.2.1 hd ht ?_
  exact k p l e s m below meth c b D tc sa ad H locs ls cells slots F X hl hok hc
theorem lq_icmp_eq {x y off : Int} {tgt : Nat} (hd : decode code pc = .ok (.if_icmp .eq off, 3)) (ht : (pc : Int) + off = (tgt : Int)) (e : x = y) (kt : Lw n xs kc ks tgt L st h) : Lw n xs kc ks pc L (aI y :: aI x :: st) h := by
  intro p l e9 s m below meth c b D tc sa ad H locs ls cells slots F X hl hok hc
  refine lv_icmp_eq F.1 F.2.1 hd ht (fun q => ?_) (fun q => ?_)
  · exact kt p l e9 s m below meth c b D tc sa ad H locs ls cells slots F X hl ⟨hok.1.2.2, hok.2⟩ hc
  · exact absurd (congrArg Int32.ofInt e) q
theorem lq_icmp_gt {x y off : Int} {tgt : Nat} (hd : decode code pc = .ok (.if_icmp .gt off, 3)) (ht : (pc : Int) + off = (tgt : Int)) (kt : y < x → Lw n xs kc ks tgt L st h) (kf : ¬ y < x → Lw n xs kc ks (pc + 3) L st h) : Lw n xs kc ks pc L (aI y :: aI x :: st) h := by
  intro p l e s m below meth c b D tc sa ad H locs ls cells slots F X hl hok hc
  refine lv_icmp_gt F.1 F.2.1 hd ht (fun q => ?_) (fun q => ?_)
  · exact kt ((c32_lt hok.1.1 hok.1.2.1).mp q) p l e s m below meth c b D tc sa ad H locs ls cells slots F X hl ⟨hok.1.2.2, hok.2⟩ hc
  · exact kf (fun z => q ((c32_lt hok.1.1 hok.1.2.1).mpr z)) p l e s m below meth c b D tc sa ad H locs ls cells slots F X hl ⟨hok.1.2.2, hok.2⟩ hc
theorem lq_tswIn {dflt lo hi x off : Int} {offs : Array Int} {len tgt : Nat} (hd : decode code pc = .ok (.tableswitch dflt lo hi offs, len)) (h1 : lo ≤ x) (h2 : x ≤ hi) (ho : offs[(x - lo).toNat]? = some off) (ht : (pc : Int) + off = (tgt : Int)) (k : Lw n xs kc ks tgt L st h) : Lw n xs kc ks pc L (aI x :: st) h := by
  intro p l e s m below meth c b D tc sa ad H locs ls cells slots F X hl hok hc
  refine lv_tableIn F.1 F.2.1 hd (by rw [t32_of hok.1.1]; omega) (by rw [t32_of hok.1.1]; omega) (by rw [t32_of hok.1.1]; exact ho) ht ?_
  exact k p l e s m below meth c b D tc sa ad H locs ls cells slots F X hl ⟨hok.1.2, hok.2⟩ hc
theorem lq_tswOut {dflt lo hi x : Int} {offs : Array Int} {len tgt : Nat} (hd : decode code pc = .ok (.tableswitch dflt lo hi offs, len)) (h1 : x < lo ∨ hi < x) (ht : (pc : Int) + dflt = (tgt : Int)) (k : Lw n xs kc ks tgt L st h) : Lw n xs kc ks pc L (aI x :: st) h := by
  intro p l e s m below meth c b D tc sa ad H locs ls cells slots F X hl hok hc
  refine lv_tableOut F.1 F.2.1 hd (by rw [t32_of hok.1.1]; exact h1) ht ?_
  exact k p l e s m below meth c b D tc sa ad H locs ls cells slots F X hl ⟨hok.1.2, hok.2⟩ hc
/-- the law's end -/
theorem lq_ret (hd : decode code pc = .ok (.ireturn, 1)) : Lw n xs 0 0 pc L [aI 1] h := by
  intro p l e s m below meth c b D tc sa ad H locs ls cells slots F X hl hok hc
  refine va_forget (fun q hq => X.2.2.1.2.2 q hq) ?_
  refine W.widen (k := 600000) (n := 7302250) (by omega) (by omega) ?_
  refine W.eq (congrArg (fun z : Int32 => F0 m pc ls [.int z]) (show Int32.ofInt 1 = 1 from rfl)) ?_
  exact lw_ret F.1 F.2.1 F.2.2.1 F.2.2.2.2.2.2.2.2.1 hd
theorem lq_after {kc' ks' : Nat} {rest : List AV} {Q' : Option AV → AH → Prop} {p : Program} {l : Launch} {e : Env} {s : State} {m : MethodId} {below : List Frame} {meth : Method} {c : Code} {b : Nat} {D : va_G} {tc : Nat → ClassId} {sa : Nat → Option Nat} {ad : Nat → Nat} {H : Heap} {locs : List Loc} {ls : Array Slot} {cells slots : Nat} {st0 : List Value} {a : Array Value}
    (F : FrL n xs p s m meth c b D tc sa) (X : Wo D tc ad h (fun q => s.heap.size ≤ q) s H locs) (hl : lv_has ls 4 (lvOf ad sa L)) (hok : okS h.1.length rest ∧ okL h.1.length L) (hc : cells + kc ≤ 600000 ∧ slots + ks ≤ 7302250) (hk1 : kc' ≤ kc) (hk2 : ks' ≤ ks)
    (hr : va_Run p l e room_1 s m #[Value.ref b] below meth c H locs cells slots kc' ks' (F0 m pc ls st0) (rest.map (cv ad sa)) (Qp Q' D tc sa ad h.1.length (va_A (cw ad tc h) H.size) a) (va_A (cw ad tc h) H.size))
    (kk : ∀ r h', Q' r h' → Lw n xs (kc - kc') (ks - ks') (pc + 3) L (r.toList ++ rest) h') :
    W p l e room_1 s m #[Value.ref b] below meth c H locs cells slots (lw_Z below #[Value.ref b] s) (F0 m pc ls st0) := by
  intro T hT XX
  obtain ⟨v, st₀, t, T', L', h0, X', hL, e1, e2, ⟨⟨r, h', ad', hq, hv, hn', hokr, hP, hD, hH⟩, hz, hk⟩, st⟩ := hr T hT XX
  have hfree := wo_free X (fun q hq => hq)
  rw [h0] at hz hk
  have hv' : v = r.map (cv ad' sa) := by injection hv
  subst hv'
  have hS' : va_S (fun q => s.heap.size ≤ q) s.heap T'.heap (locs ++ L') := by
    refine ⟨Nat.le_trans X.2.2.1.1 (by rw [e1]; exact hz), fun q h1 h2 => ?_, fun q hq => ?_⟩
    · rw [e1, hk q (Nat.lt_of_lt_of_le h1 X.2.2.1.1) (fun z => h2 (hfree q z))]
      exact X.2.2.1.2.1 q h1 h2
    · rcases List.mem_append.mp hq with z | z
      · exact X.2.2.1.2.2 q z
      · exact hfree _ (hL q z)
  have hokr2 : okS h'.1.length (r.toList ++ rest) := by
    cases r with
    | none => exact okS_mono hn'.1 hok.1
    | some w => exact ⟨hokr w rfl, okS_mono hn'.1 hok.1⟩
  have hst : (r.toList ++ rest).map (cv ad' sa) = (r.map (cv ad' sa)).toList ++ rest.map (cv ad sa) := by
    cases r with
    | none => exact cvS_same hn'.2 hok.1
    | some w => show cv ad' sa w :: rest.map (cv ad' sa) = cv ad' sa w :: rest.map (cv ad sa); rw [cvS_same hn'.2 hok.1]
  have hk3 := kk r h' hq p l e s m below meth c b D tc sa ad' T'.heap (locs ++ L') ls (cells + kc') (slots + ks') F
    ⟨by rw [e1]; exact hP, hD.weaken (fun _ q _ z => hfree q.1 z), hS', hH⟩ (lvOf_same hn'.2 hok.2 hl) ⟨hokr2, okL_mono hn'.1 hok.2⟩ ⟨by omega, by omega⟩
  rw [hst] at hk3
  obtain ⟨t2, a1, b1⟩ := hk3 T' rfl X'
  exact ⟨t2, st t2 a1, b1⟩
theorem lq_callV {ν : MR} {d' kc' ks' i na q t nn : Nat} {as rest : List AV} {Q' : Option AV → AH → Prop} (hd : decode code pc = .ok (.invokevirtual i, 3)) (hlk : Cond.methodLink R_law i (mrY ν) ∈ Wg) (hce : CV ν na) (hR : Rn ν d' kc' ks' (aR q :: as) h Q') (hd' : d' ≤ 2000) (hk1 : kc' ≤ kc) (hk2 : ks' ≤ ks) (hq : h.1[q]? = some (t, nn)) (ht : t < 13) (hcl : (clT t).1 = (mrY ν).cls) (hn9 : as.length = na) (hst : st = as.reverse ++ aR q :: rest) (hw : wtS rest ≤ 8) (kk : ∀ r h', Q' r h' → Lw n xs (kc - kc') (ks - ks') (pc + 3) L (r.toList ++ rest) h') : Lw n xs kc ks pc L st h := by
  subst hst
  intro p l e s m below meth c b D tc sa ad H locs ls cells slots F X hl hok hc
  obtain ⟨o1, o2⟩ := okS_app hok.1
  have hoa : okS h.1.length (aR q :: as) := ⟨o2.1, okS_of fun v hv => okS_mem o1 v (List.mem_reverse.mpr hv)⟩
  have hM := hce.1.1
  have hml := hM.2.2.2.2
  have hG : GoodIn Wg (wsV R_law i (mrY ν).cls (mrY ν) (wsM ν)) := by
    intro w hw
    rcases List.mem_append.mp hw with z | z
    · have hg : w ∈ Wg := by
        simp only [List.mem_cons, List.not_mem_nil, or_false] at z
        rcases z with e | e | e | e <;> rw [e]
        · exact hlk
        · exact hce.2.1
        · exact hce.2.2
        · exact hce.1.2.1
      exact ⟨hg, good_Wg hg⟩
    · exact Wg_good hM w z
  have hrun := va_runV (As := as.map (cv ad sa)) (rest := rest.map (cv ad sa)) (b := ad q) (C := (mrY ν).cls) (locs := locs) (cells := cells) (slots := slots) (e := e) (below := below) (meth := meth) (R := room_1) (g := F0 m pc ls ((as.reverse ++ aR q :: rest).map (cv ad sa))) ⟨F.1, F.2.1, F.2.2.2.1, F.2.2.2.2.1, F.2.2.2.2.2.1⟩ (hR l D tc sa ad H.size) (cwV na F.2.2.2.2.2.1 hG rfl rfl rfl ⟨rfl, hce.1.2.2.1, hce.1.2.2.2.1, hce.1.2.2.2.2⟩ ⟨by show d' + 1 ≤ 2048; omega, by show 8 + (mrL ν + 11) + 40 * d' ≤ 84000; omega⟩)
    ⟨blind, by have := va_recv F.2.2.2.2.2.2.2.2.2.1.1 X.1 (ctok t ht).1 (cw_obj hq (by omega)); rw [hcl] at this; exact this, wo_pc X (fun q hq => hq) F.2.2.2.2.2.2.2.2.2.1 hoa⟩ rfl (by rw [List.length_map]; exact hn9) hl.1 (by simp [cv]) (lv_room (by rw [wtS_eq]; exact hw)) hd ⟨by show cells + kc' ≤ 600000; omega, by show slots + ks' ≤ 7302250; omega⟩
  exact lq_after F X hl ⟨o2.2, hok.2⟩ hc hk1 hk2 hrun kk
theorem lq_callI {ν : MR} {d' kc' ks' i na q : Nat} {as rest : List AV} {Q' : Option AV → AH → Prop} (hd : decode code pc = .ok (.invokespecial i, 3)) (hlk : Cond.methodLink R_law i (mrY ν) ∈ Wg) (hce : CI ν na) (hR : Rn ν d' kc' ks' (aR q :: as) h Q') (hd' : d' ≤ 2000) (hk1 : kc' ≤ kc) (hk2 : ks' ≤ ks) (hn9 : as.length = na) (hst : st = as.reverse ++ aR q :: rest) (hw : wtS rest ≤ 8) (kk : ∀ r h', Q' r h' → Lw n xs (kc - kc') (ks - ks') (pc + 3) L (r.toList ++ rest) h') : Lw n xs kc ks pc L st h := by
  subst hst
  intro p l e s m below meth c b D tc sa ad H locs ls cells slots F X hl hok hc
  obtain ⟨o1, o2⟩ := okS_app hok.1
  have hoa : okS h.1.length (aR q :: as) := ⟨o2.1, okS_of fun v hv => okS_mem o1 v (List.mem_reverse.mpr hv)⟩
  have hM := hce.1.1
  have hml := hM.2.2.2.2
  have hrt := hce.2.2.1
  have hrun := va_runI (As := as.map (cv ad sa)) (rest := rest.map (cv ad sa)) (b := ad q) (locs := locs) (cells := cells) (slots := slots) (e := e) (below := below) (meth := meth) (R := room_1) (g := F0 m pc ls ((as.reverse ++ aR q :: rest).map (cv ad sa))) ⟨F.1, F.2.1, F.2.2.2.1, F.2.2.2.2.1, F.2.2.2.2.2.1⟩ (hR l D tc sa ad H.size) (cwI na F.2.2.2.2.2.1 (Wg_good hM) (by unfold wsM; rw [hrt]) rfl rfl (F.2.2.2.2.2.1 _ hce.1.2.1) (F.2.2.2.2.2.1 _ hlk) (F.2.2.2.2.2.1 _ hce.2.2.2) hce.2.1 ⟨hce.1.2.2.1, hce.1.2.2.2.1, hce.1.2.2.2.2⟩ ⟨by show d' + 1 ≤ 2048; omega, by show 8 + (mrL ν + 11) + 40 * d' ≤ 84000; omega⟩)
    ⟨blind, wo_pc X (fun q hq => hq) F.2.2.2.2.2.2.2.2.2.1 hoa⟩ rfl (by rw [List.length_map]; exact hn9) hl.1 (by simp [cv]) (lv_room (by rw [wtS_eq]; exact hw)) hd ⟨by show cells + kc' ≤ 600000; omega, by show slots + ks' ≤ 7302250; omega⟩
  exact lq_after F X hl ⟨o2.2, hok.2⟩ hc hk1 hk2 hrun kk
theorem lq_new {t nn i : Nat} (hd : decode code pc = .ok (.new i, 3)) (ht : t < 13) (hnn : nn = (clT t).2.2) (hlk : Cond.classLink R_law i (clT t).1 ∈ Wg) (hins : Cond.instantiable (clT t).1 nn ∈ Wg) (hini : Cond.initialized (clT t).1 ∈ Wg) (hty : ∀ k, k < nn → fty t k = .int ∨ fty t k = .boolean ∨ fty t k = .long ∨ refKind (fty t k) = true) (hk1 : 1 ≤ kc) (hk2 : nn ≤ ks) (k : Lw n xs (kc - 1) (ks - nn) (pc + 3) L (aR h.1.length :: st) (mkc h t nn)) : Lw n xs kc ks pc L st h := by
  intro p l e s m below meth c b D tc sa ad H locs ls cells slots F X hl hok hc
  have hct := ctok t ht
  have hlen : (mkc h t nn).1.length = h.1.length + 1 := by show (h.1 ++ [(t, nn)]).length = _; simp
  have zi : ∀ j, (mkc h t nn).2.2 h.1.length j = 0 := fun j => by unfold mkc; dsimp only; rw [if_pos rfl]
  have zr : ∀ j, (mkc h t nn).2.1 h.1.length j = none := fun j => by unfold mkc; dsimp only; rw [if_pos rfl]
  subst hnn
  refine va_new (C := (clT t).1) (T := (clT t).2.1) (N := (clT t).2.2) (ci := t) (fs := fl ad (mkc h t (clT t).2.2) h.1.length t (clT t).2.2) F.1 F.2.1 F.2.2.2.2.2.1 hct.2.1 (fty t) hct.2.2.1 F.2.2.2.2.1 (F.2.2.2.2.2.1 _ hlk) (F.2.2.2.2.2.1 _ hins) (F.2.2.2.2.2.1 _ hini) F.2.2.2.2.2.2.2.2.2.1.1 X.1 X.2.1 X.2.2.1 (fun q hq => hq) hct.1 (fun j hj => ?_) (by show cells + 1 ≤ 600000; omega) (by show slots + (clT t).2.2 ≤ 7302250; omega) hd (fun q H1 hP1 hD1 hS1 => ?_)
  · unfold vp_V
    rw [List.getD_eq_getElem?_getD, fl_at hj, zi, zr]
    show defaultValue (fty t j) = sv ad none 0 (kd t j)
    unfold kd
    rw [if_pos (by omega)]
    exact dv_sv ad _ (hty j hj)
  · have e8 : fl ad (mkc h t (clT t).2.2) h.1.length t (clT t).2.2 = fl (adx ad h.1.length q) (mkc h t (clT t).2.2) h.1.length t (clT t).2.2 := by
      unfold fl
      apply List.map_congr_left
      intro j hj
      rw [zr]
      exact (sv_same adx_lt (fun _ z => by cases z) _ _).symm
    have e7 : ce (adx ad h.1.length q) tc (mkc h t (clT t).2.2) h.1.length (t, (clT t).2.2) = .inr (t, fl ad (mkc h t (clT t).2.2) h.1.length t (clT t).2.2) := by
      unfold ce
      rw [if_pos (by show t < 100; omega), e8]
    rw [← e7, ← cw_mk X.2.2.2] at hP1 hD1
    have hl2 := lvOf_same (ad' := adx ad h.1.length q) adx_lt hok.2 hl
    have hst := cvS_same (sa := sa) (ad' := adx ad h.1.length q) adx_lt hok.1
    have h3 := k p l e s m below meth c b D tc sa (adx ad h.1.length q) H1 locs ls (cells + 1) (slots + (clT t).2.2) F ⟨hP1, hD1, hS1, okH_mk X.2.2.2 _ _⟩ hl2 ⟨⟨by show h.1.length < (mkc h t (clT t).2.2).1.length; rw [hlen]; omega, okS_mono (by rw [hlen]; omega) hok.1⟩, okL_mono (by rw [hlen]; omega) hok.2⟩ ⟨by omega, by omega⟩
    rw [List.map_cons, hst] at h3
    have e9 : cv (adx ad h.1.length q) sa (aR h.1.length) = .ref q := by show Value.ref (adx ad h.1.length q h.1.length) = _; unfold adx; rw [if_pos rfl]
    rw [e9] at h3
    exact h3
end LWR
