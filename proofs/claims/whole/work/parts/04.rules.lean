theorem Fr.dec {μ : MR} {p : Program} {s : State} {m : MethodId} {args : Array Value} {meth : Method} {c : Code} {A : Nat → Prop} {D : va_G} {tc : Nat → ClassId} {sa : Nat → Option Nat} (F : Fr μ p s m args meth c A D tc sa) {pc : Nat} {x : Instr × Nat} (hf : fnd (mrC μ) pc = some x) : decode (mrB μ) pc = .ok x := F.2.2.2.2.2.2.2.2.2.2.2.2.2.1 (pc, x) (fnd_mem hf)
theorem Fr.own {μ : MR} {p : Program} {s : State} {m : MethodId} {args : Array Value} {meth : Method} {c : Code} {A : Nat → Prop} {D : va_G} {tc : Nat → ClassId} {sa : Nat → Option Nat} (F : Fr μ p s m args meth c A D tc sa) : s.vm.findClass (rx (mrO μ)) = some m.cls := F.2.2.2.2.1
theorem Fr.hts {μ : MR} {p : Program} {s : State} {m : MethodId} {args : Array Value} {meth : Method} {c : Code} {A : Nat → Prop} {D : va_G} {tc : Nat → ClassId} {sa : Nat → Option Nat} (F : Fr μ p s m args meth c A D tc sa) : ∀ w ∈ Wg, w.before args s = true := F.2.2.2.2.2.1
section ABR
variable {μ : MR} {d kc ks pc : Nat} {L : ML} {st : List AV} {h : AH} {Q : Option AV → AH → Prop}
theorem ab_iadd {x y : Int} (hf : fnd (mrC μ) pc = some (.iadd, 1)) (k : Ab μ d kc ks (pc + 1) L (aI (w32 (x + y)) :: st) h Q) : Ab μ d kc ks pc L (aI y :: aI x :: st) h Q := by
  intro p l e s m args below meth c A D tc sa ad ad0 n0 H locs ls cells slots mc ms F X hn hl hok hc
  refine lv_iadd F.1 F.2.1 (Fr.dec F hf) ?_
  refine W.eq (congrArg (fun z : Int32 => F0 m (pc + 1) ls (.int z :: st.map (cv ad sa))) (q_add x y)) ?_
  exact k p l e s m args below meth c A D tc sa ad ad0 n0 H locs ls cells slots mc ms F X hn hl ⟨⟨w32_in _, hok.1.2.2⟩, hok.2⟩ hc
theorem ab_isub {x y : Int} (hf : fnd (mrC μ) pc = some (.isub, 1)) (k : Ab μ d kc ks (pc + 1) L (aI (w32 (x - y)) :: st) h Q) : Ab μ d kc ks pc L (aI y :: aI x :: st) h Q := by
  intro p l e s m args below meth c A D tc sa ad ad0 n0 H locs ls cells slots mc ms F X hn hl hok hc
  refine lv_isub F.1 F.2.1 (Fr.dec F hf) ?_
  refine W.eq (congrArg (fun z : Int32 => F0 m (pc + 1) ls (.int z :: st.map (cv ad sa))) (q_sub x y)) ?_
  exact k p l e s m args below meth c A D tc sa ad ad0 n0 H locs ls cells slots mc ms F X hn hl ⟨⟨w32_in _, hok.1.2.2⟩, hok.2⟩ hc
theorem ab_imul {x y : Int} (hf : fnd (mrC μ) pc = some (.imul, 1)) (k : Ab μ d kc ks (pc + 1) L (aI (w32 (x * y)) :: st) h Q) : Ab μ d kc ks pc L (aI y :: aI x :: st) h Q := by
  intro p l e s m args below meth c A D tc sa ad ad0 n0 H locs ls cells slots mc ms F X hn hl hok hc
  refine lv_imul F.1 F.2.1 (Fr.dec F hf) ?_
  refine W.eq (congrArg (fun z : Int32 => F0 m (pc + 1) ls (.int z :: st.map (cv ad sa))) (q_mul x y)) ?_
  exact k p l e s m args below meth c A D tc sa ad ad0 n0 H locs ls cells slots mc ms F X hn hl ⟨⟨w32_in _, hok.1.2.2⟩, hok.2⟩ hc
theorem ab_iand {x y : Int} (hf : fnd (mrC μ) pc = some (.iand, 1)) (k : Ab μ d kc ks (pc + 1) L (aI (iAnd x y) :: st) h Q) : Ab μ d kc ks pc L (aI y :: aI x :: st) h Q := by
  intro p l e s m args below meth c A D tc sa ad ad0 n0 H locs ls cells slots mc ms F X hn hl hok hc
  refine lv_iand F.1 F.2.1 (Fr.dec F hf) ?_
  refine W.eq (congrArg (fun z : Int32 => F0 m (pc + 1) ls (.int z :: st.map (cv ad sa))) ((Int32.ofInt_toInt _).symm)) ?_
  exact k p l e s m args below meth c A D tc sa ad ad0 n0 H locs ls cells slots mc ms F X hn hl ⟨⟨t32_in _, hok.1.2.2⟩, hok.2⟩ hc
theorem ab_ior {x y : Int} (hf : fnd (mrC μ) pc = some (.ior, 1)) (k : Ab μ d kc ks (pc + 1) L (aI (iOr x y) :: st) h Q) : Ab μ d kc ks pc L (aI y :: aI x :: st) h Q := by
  intro p l e s m args below meth c A D tc sa ad ad0 n0 H locs ls cells slots mc ms F X hn hl hok hc
  refine lv_ior F.1 F.2.1 (Fr.dec F hf) ?_
  refine W.eq (congrArg (fun z : Int32 => F0 m (pc + 1) ls (.int z :: st.map (cv ad sa))) ((Int32.ofInt_toInt _).symm)) ?_
  exact k p l e s m args below meth c A D tc sa ad ad0 n0 H locs ls cells slots mc ms F X hn hl ⟨⟨t32_in _, hok.1.2.2⟩, hok.2⟩ hc
theorem ab_ixor {x y : Int} (hf : fnd (mrC μ) pc = some (.ixor, 1)) (k : Ab μ d kc ks (pc + 1) L (aI (iXor x y) :: st) h Q) : Ab μ d kc ks pc L (aI y :: aI x :: st) h Q := by
  intro p l e s m args below meth c A D tc sa ad ad0 n0 H locs ls cells slots mc ms F X hn hl hok hc
  refine lv_ixor F.1 F.2.1 (Fr.dec F hf) ?_
  refine W.eq (congrArg (fun z : Int32 => F0 m (pc + 1) ls (.int z :: st.map (cv ad sa))) ((Int32.ofInt_toInt _).symm)) ?_
  exact k p l e s m args below meth c A D tc sa ad ad0 n0 H locs ls cells slots mc ms F X hn hl ⟨⟨t32_in _, hok.1.2.2⟩, hok.2⟩ hc
theorem ab_ishl {x y : Int} (hf : fnd (mrC μ) pc = some (.ishl, 1)) (k : Ab μ d kc ks (pc + 1) L (aI (iShl x y) :: st) h Q) : Ab μ d kc ks pc L (aI y :: aI x :: st) h Q := by
  intro p l e s m args below meth c A D tc sa ad ad0 n0 H locs ls cells slots mc ms F X hn hl hok hc
  refine lv_ishl F.1 F.2.1 (Fr.dec F hf) ?_
  refine W.eq (congrArg (fun z : Int32 => F0 m (pc + 1) ls (.int z :: st.map (cv ad sa))) ((Int32.ofInt_toInt _).symm)) ?_
  exact k p l e s m args below meth c A D tc sa ad ad0 n0 H locs ls cells slots mc ms F X hn hl ⟨⟨t32_in _, hok.1.2.2⟩, hok.2⟩ hc
theorem ab_ishr {x y : Int} (hf : fnd (mrC μ) pc = some (.ishr, 1)) (k : Ab μ d kc ks (pc + 1) L (aI (iShr x y) :: st) h Q) : Ab μ d kc ks pc L (aI y :: aI x :: st) h Q := by
  intro p l e s m args below meth c A D tc sa ad ad0 n0 H locs ls cells slots mc ms F X hn hl hok hc
  refine lv_ishr F.1 F.2.1 (Fr.dec F hf) ?_
  refine W.eq (congrArg (fun z : Int32 => F0 m (pc + 1) ls (.int z :: st.map (cv ad sa))) ((Int32.ofInt_toInt _).symm)) ?_
  exact k p l e s m args below meth c A D tc sa ad ad0 n0 H locs ls cells slots mc ms F X hn hl ⟨⟨t32_in _, hok.1.2.2⟩, hok.2⟩ hc
theorem ab_ladd {x y : Int} (hf : fnd (mrC μ) pc = some (.ladd, 1)) (k : Ab μ d kc ks (pc + 1) L (aJ (w64 (x + y)) :: st) h Q) : Ab μ d kc ks pc L (aJ y :: aJ x :: st) h Q := by
  intro p l e s m args below meth c A D tc sa ad ad0 n0 H locs ls cells slots mc ms F X hn hl hok hc
  refine lv_ladd F.1 F.2.1 (Fr.dec F hf) ?_
  refine W.eq (congrArg (fun z : Int64 => F0 m (pc + 1) ls (.long z :: st.map (cv ad sa))) (q_ladd x y)) ?_
  exact k p l e s m args below meth c A D tc sa ad ad0 n0 H locs ls cells slots mc ms F X hn hl ⟨⟨w64_in _, hok.1.2.2⟩, hok.2⟩ hc
theorem ab_lsub {x y : Int} (hf : fnd (mrC μ) pc = some (.lsub, 1)) (k : Ab μ d kc ks (pc + 1) L (aJ (w64 (x - y)) :: st) h Q) : Ab μ d kc ks pc L (aJ y :: aJ x :: st) h Q := by
  intro p l e s m args below meth c A D tc sa ad ad0 n0 H locs ls cells slots mc ms F X hn hl hok hc
  refine lv_lsub F.1 F.2.1 (Fr.dec F hf) ?_
  refine W.eq (congrArg (fun z : Int64 => F0 m (pc + 1) ls (.long z :: st.map (cv ad sa))) (q_lsub x y)) ?_
  exact k p l e s m args below meth c A D tc sa ad ad0 n0 H locs ls cells slots mc ms F X hn hl ⟨⟨w64_in _, hok.1.2.2⟩, hok.2⟩ hc
theorem ab_lmul {x y : Int} (hf : fnd (mrC μ) pc = some (.lmul, 1)) (k : Ab μ d kc ks (pc + 1) L (aJ (w64 (x * y)) :: st) h Q) : Ab μ d kc ks pc L (aJ y :: aJ x :: st) h Q := by
  intro p l e s m args below meth c A D tc sa ad ad0 n0 H locs ls cells slots mc ms F X hn hl hok hc
  refine lv_lmul F.1 F.2.1 (Fr.dec F hf) ?_
  refine W.eq (congrArg (fun z : Int64 => F0 m (pc + 1) ls (.long z :: st.map (cv ad sa))) (q_lmul x y)) ?_
  exact k p l e s m args below meth c A D tc sa ad ad0 n0 H locs ls cells slots mc ms F X hn hl ⟨⟨w64_in _, hok.1.2.2⟩, hok.2⟩ hc
theorem ab_land {x y : Int} (hf : fnd (mrC μ) pc = some (.land, 1)) (k : Ab μ d kc ks (pc + 1) L (aJ (lAnd x y) :: st) h Q) : Ab μ d kc ks pc L (aJ y :: aJ x :: st) h Q := by
  intro p l e s m args below meth c A D tc sa ad ad0 n0 H locs ls cells slots mc ms F X hn hl hok hc
  refine lv_land F.1 F.2.1 (Fr.dec F hf) ?_
  refine W.eq (congrArg (fun z : Int64 => F0 m (pc + 1) ls (.long z :: st.map (cv ad sa))) ((Int64.ofInt_toInt _).symm)) ?_
  exact k p l e s m args below meth c A D tc sa ad ad0 n0 H locs ls cells slots mc ms F X hn hl ⟨⟨t64_in _, hok.1.2.2⟩, hok.2⟩ hc
theorem ab_lor {x y : Int} (hf : fnd (mrC μ) pc = some (.lor, 1)) (k : Ab μ d kc ks (pc + 1) L (aJ (lOr x y) :: st) h Q) : Ab μ d kc ks pc L (aJ y :: aJ x :: st) h Q := by
  intro p l e s m args below meth c A D tc sa ad ad0 n0 H locs ls cells slots mc ms F X hn hl hok hc
  refine lv_lor F.1 F.2.1 (Fr.dec F hf) ?_
  refine W.eq (congrArg (fun z : Int64 => F0 m (pc + 1) ls (.long z :: st.map (cv ad sa))) ((Int64.ofInt_toInt _).symm)) ?_
  exact k p l e s m args below meth c A D tc sa ad ad0 n0 H locs ls cells slots mc ms F X hn hl ⟨⟨t64_in _, hok.1.2.2⟩, hok.2⟩ hc
theorem ab_idiv {x y : Int} (hf : fnd (mrC μ) pc = some (.idiv, 1)) (hy : y ≠ 0) (k : Ab μ d kc ks (pc + 1) L (aI (iDiv x y) :: st) h Q) : Ab μ d kc ks pc L (aI y :: aI x :: st) h Q := by
  intro p l e s m args below meth c A D tc sa ad ad0 n0 H locs ls cells slots mc ms F X hn hl hok hc
  refine lv_idiv F.1 F.2.1 (Fr.dec F hf) (fun q => hy ((c32_eq hok.1.1 in32_0).mp q)) ?_
  refine W.eq (congrArg (fun z : Int32 => F0 m (pc + 1) ls (.int z :: st.map (cv ad sa))) (Int32.ofInt_toInt _).symm) ?_
  exact k p l e s m args below meth c A D tc sa ad ad0 n0 H locs ls cells slots mc ms F X hn hl ⟨⟨t32_in _, hok.1.2.2⟩, hok.2⟩ hc
theorem ab_irem {x y : Int} (hf : fnd (mrC μ) pc = some (.irem, 1)) (hy : y ≠ 0) (k : Ab μ d kc ks (pc + 1) L (aI (iRem x y) :: st) h Q) : Ab μ d kc ks pc L (aI y :: aI x :: st) h Q := by
  intro p l e s m args below meth c A D tc sa ad ad0 n0 H locs ls cells slots mc ms F X hn hl hok hc
  refine lv_irem F.1 F.2.1 (Fr.dec F hf) (fun q => hy ((c32_eq hok.1.1 in32_0).mp q)) ?_
  refine W.eq (congrArg (fun z : Int32 => F0 m (pc + 1) ls (.int z :: st.map (cv ad sa))) (Int32.ofInt_toInt _).symm) ?_
  exact k p l e s m args below meth c A D tc sa ad ad0 n0 H locs ls cells slots mc ms F X hn hl ⟨⟨t32_in _, hok.1.2.2⟩, hok.2⟩ hc
theorem c64_eq {x y : Int} (hx : in64 x) (hy : in64 y) : Int64.ofInt x = Int64.ofInt y ↔ x = y := by rw [← Int64.toInt_inj, t64_of hx, t64_of hy]
theorem in64_0 : in64 0 := by unfold in64; omega
theorem ab_ldiv {x y : Int} (hf : fnd (mrC μ) pc = some (.ldiv, 1)) (hy : y ≠ 0) (k : Ab μ d kc ks (pc + 1) L (aJ (lDiv x y) :: st) h Q) : Ab μ d kc ks pc L (aJ y :: aJ x :: st) h Q := by
  intro p l e s m args below meth c A D tc sa ad ad0 n0 H locs ls cells slots mc ms F X hn hl hok hc
  refine lv_ldiv F.1 F.2.1 (Fr.dec F hf) (fun q => hy ((c64_eq hok.1.1 in64_0).mp q)) ?_
  refine W.eq (congrArg (fun z : Int64 => F0 m (pc + 1) ls (.long z :: st.map (cv ad sa))) (Int64.ofInt_toInt _).symm) ?_
  exact k p l e s m args below meth c A D tc sa ad ad0 n0 H locs ls cells slots mc ms F X hn hl ⟨⟨t64_in _, hok.1.2.2⟩, hok.2⟩ hc
theorem ab_lrem {x y : Int} (hf : fnd (mrC μ) pc = some (.lrem, 1)) (hy : y ≠ 0) (k : Ab μ d kc ks (pc + 1) L (aJ (lRem x y) :: st) h Q) : Ab μ d kc ks pc L (aJ y :: aJ x :: st) h Q := by
  intro p l e s m args below meth c A D tc sa ad ad0 n0 H locs ls cells slots mc ms F X hn hl hok hc
  refine lv_lrem F.1 F.2.1 (Fr.dec F hf) (fun q => hy ((c64_eq hok.1.1 in64_0).mp q)) ?_
  refine W.eq (congrArg (fun z : Int64 => F0 m (pc + 1) ls (.long z :: st.map (cv ad sa))) (Int64.ofInt_toInt _).symm) ?_
  exact k p l e s m args below meth c A D tc sa ad ad0 n0 H locs ls cells slots mc ms F X hn hl ⟨⟨t64_in _, hok.1.2.2⟩, hok.2⟩ hc
theorem ab_ineg {x : Int} (hf : fnd (mrC μ) pc = some (.ineg, 1)) (k : Ab μ d kc ks (pc + 1) L (aI (w32 (-x)) :: st) h Q) : Ab μ d kc ks pc L (aI x :: st) h Q := by
  intro p l e s m args below meth c A D tc sa ad ad0 n0 H locs ls cells slots mc ms F X hn hl hok hc
  refine lv_ineg F.1 F.2.1 (Fr.dec F hf) ?_
  refine W.eq (congrArg (fun z : Int32 => F0 m (pc + 1) ls (.int z :: st.map (cv ad sa))) (q_neg x)) ?_
  exact k p l e s m args below meth c A D tc sa ad ad0 n0 H locs ls cells slots mc ms F X hn hl ⟨⟨w32_in _, hok.1.2⟩, hok.2⟩ hc
theorem ab_lshl {x y : Int} (hf : fnd (mrC μ) pc = some (.lshl, 1)) (k : Ab μ d kc ks (pc + 1) L (aJ (lShl x y) :: st) h Q) : Ab μ d kc ks pc L (aI y :: aJ x :: st) h Q := by
  intro p l e s m args below meth c A D tc sa ad ad0 n0 H locs ls cells slots mc ms F X hn hl hok hc
  refine lv_lshl (v := Int64.ofInt (lShl x y)) F.1 F.2.1 (Fr.dec F hf) (Int64.ofInt_toInt _).symm ?_
  exact k p l e s m args below meth c A D tc sa ad ad0 n0 H locs ls cells slots mc ms F X hn hl ⟨⟨t64_in _, hok.1.2.2⟩, hok.2⟩ hc
theorem ab_lshr {x y : Int} (hf : fnd (mrC μ) pc = some (.lshr, 1)) (k : Ab μ d kc ks (pc + 1) L (aJ (lShr x y) :: st) h Q) : Ab μ d kc ks pc L (aI y :: aJ x :: st) h Q := by
  intro p l e s m args below meth c A D tc sa ad ad0 n0 H locs ls cells slots mc ms F X hn hl hok hc
  refine lv_lshr (v := Int64.ofInt (lShr x y)) F.1 F.2.1 (Fr.dec F hf) (Int64.ofInt_toInt _).symm ?_
  exact k p l e s m args below meth c A D tc sa ad ad0 n0 H locs ls cells slots mc ms F X hn hl ⟨⟨t64_in _, hok.1.2.2⟩, hok.2⟩ hc
theorem ab_lcmp {x y : Int} (hf : fnd (mrC μ) pc = some (.lcmp, 1)) (k : Ab μ d kc ks (pc + 1) L (aI (lCmp x y) :: st) h Q) : Ab μ d kc ks pc L (aJ y :: aJ x :: st) h Q := by
  intro p l e s m args below meth c A D tc sa ad ad0 n0 H locs ls cells slots mc ms F X hn hl hok hc
  refine W.lcmp F.1 F.2.1 (Fr.dec F hf) ?_
  refine W.eq (congrArg (fun z : Int32 => F0 m (pc + 1) ls (.int z :: st.map (cv ad sa))) (q_lcmp hok.1.2.1 hok.1.1)) ?_
  exact k p l e s m args below meth c A D tc sa ad ad0 n0 H locs ls cells slots mc ms F X hn hl ⟨⟨lCmp_in _ _, hok.1.2.2⟩, hok.2⟩ hc
theorem ab_i2l {x : Int} (hf : fnd (mrC μ) pc = some (.i2l, 1)) (k : Ab μ d kc ks (pc + 1) L (aJ x :: st) h Q) : Ab μ d kc ks pc L (aI x :: st) h Q := by
  intro p l e s m args below meth c A D tc sa ad ad0 n0 H locs ls cells slots mc ms F X hn hl hok hc
  refine lv_i2l (v := Int64.ofInt x) F.1 F.2.1 (Fr.dec F hf) (q_i2l hok.1.1) ?_
  exact k p l e s m args below meth c A D tc sa ad ad0 n0 H locs ls cells slots mc ms F X hn hl ⟨⟨in32_64 hok.1.1, hok.1.2⟩, hok.2⟩ hc
theorem ab_l2i {x : Int} (hf : fnd (mrC μ) pc = some (.l2i, 1)) (k : Ab μ d kc ks (pc + 1) L (aI (w32 x) :: st) h Q) : Ab μ d kc ks pc L (aJ x :: st) h Q := by
  intro p l e s m args below meth c A D tc sa ad ad0 n0 H locs ls cells slots mc ms F X hn hl hok hc
  refine lv_l2i (v := Int32.ofInt (w32 x)) F.1 F.2.1 (Fr.dec F hf) (q_l2i hok.1.1) ?_
  exact k p l e s m args below meth c A D tc sa ad ad0 n0 H locs ls cells slots mc ms F X hn hl ⟨⟨w32_in _, hok.1.2⟩, hok.2⟩ hc
theorem ab_iconst {n : Int} (hf : fnd (mrC μ) pc = some (.iconst n, 1)) (hn8 : -128 ≤ n ∧ n ≤ 127) (k : Ab μ d kc ks (pc + 1) L (aI n :: st) h Q) : Ab μ d kc ks pc L st h Q := by
  intro p l e s m args below meth c A D tc sa ad ad0 n0 H locs ls cells slots mc ms F X hn hl hok hc
  refine lv_iconst (v := Int32.ofInt n) F.1 F.2.1 (Fr.dec F hf) rfl ?_
  exact k p l e s m args below meth c A D tc sa ad ad0 n0 H locs ls cells slots mc ms F X hn hl ⟨⟨⟨by omega, by omega⟩, hok.1⟩, hok.2⟩ hc
theorem ab_bipush {n : Int} (hf : fnd (mrC μ) pc = some (.bipush n, 2)) (hn8 : -128 ≤ n ∧ n ≤ 127) (k : Ab μ d kc ks (pc + 2) L (aI n :: st) h Q) : Ab μ d kc ks pc L st h Q := by
  intro p l e s m args below meth c A D tc sa ad ad0 n0 H locs ls cells slots mc ms F X hn hl hok hc
  refine lv_bipush (v := Int32.ofInt n) F.1 F.2.1 (Fr.dec F hf) (q_byte hn8.1 hn8.2) ?_
  exact k p l e s m args below meth c A D tc sa ad ad0 n0 H locs ls cells slots mc ms F X hn hl ⟨⟨⟨by omega, by omega⟩, hok.1⟩, hok.2⟩ hc
theorem ab_sipush {n : Int} (hf : fnd (mrC μ) pc = some (.sipush n, 3)) (hn8 : -32768 ≤ n ∧ n ≤ 32767) (k : Ab μ d kc ks (pc + 3) L (aI n :: st) h Q) : Ab μ d kc ks pc L st h Q := by
  intro p l e s m args below meth c A D tc sa ad ad0 n0 H locs ls cells slots mc ms F X hn hl hok hc
  refine lv_sipush (v := Int32.ofInt n) F.1 F.2.1 (Fr.dec F hf) (q_short hn8.1 hn8.2) ?_
  exact k p l e s m args below meth c A D tc sa ad ad0 n0 H locs ls cells slots mc ms F X hn hl ⟨⟨⟨by omega, by omega⟩, hok.1⟩, hok.2⟩ hc
theorem ab_lconst {n : Fin 2} {z : Int} (hf : fnd (mrC μ) pc = some (.lconst n, 1)) (hz : ((n : Nat) : Int) = z) (k : Ab μ d kc ks (pc + 1) L (aJ z :: st) h Q) : Ab μ d kc ks pc L st h Q := by
  subst hz
  intro p l e s m args below meth c A D tc sa ad ad0 n0 H locs ls cells slots mc ms F X hn hl hok hc
  refine lv_lconst (v := Int64.ofInt ((n : Nat) : Int)) F.1 F.2.1 (Fr.dec F hf) rfl ?_
  exact k p l e s m args below meth c A D tc sa ad ad0 n0 H locs ls cells slots mc ms F X hn hl ⟨⟨⟨by omega, by omega⟩, hok.1⟩, hok.2⟩ hc
theorem ab_ldc {i : Nat} {v : Int32} {z : Int} (hf : fnd (mrC μ) pc = some (.ldc i, 2)) (hk : Cond.constant (rx (mrO μ)) i v ∈ Wg) (hz : v.toInt = z) (k : Ab μ d kc ks (pc + 2) L (aI z :: st) h Q) : Ab μ d kc ks pc L st h Q := by
  subst hz
  intro p l e s m args below meth c A D tc sa ad ad0 n0 H locs ls cells slots mc ms F X hn hl hok hc
  refine lv_ldc F.1 F.2.1 F.own (F.hts _ hk) (Fr.dec F hf) ?_
  refine W.eq (congrArg (fun z : Int32 => F0 m (pc + 2) ls (.int z :: st.map (cv ad sa))) (Int32.ofInt_toInt v).symm) ?_
  exact k p l e s m args below meth c A D tc sa ad ad0 n0 H locs ls cells slots mc ms F X hn hl ⟨⟨t32_in _, hok.1⟩, hok.2⟩ hc
theorem ab_ldcw {i : Nat} {v : Int32} {z : Int} (hf : fnd (mrC μ) pc = some (.ldc_w i, 3)) (hk : Cond.constant (rx (mrO μ)) i v ∈ Wg) (hz : v.toInt = z) (k : Ab μ d kc ks (pc + 3) L (aI z :: st) h Q) : Ab μ d kc ks pc L st h Q := by
  subst hz
  intro p l e s m args below meth c A D tc sa ad ad0 n0 H locs ls cells slots mc ms F X hn hl hok hc
  refine lv_ldcw F.1 F.2.1 F.own (F.hts _ hk) (Fr.dec F hf) ?_
  refine W.eq (congrArg (fun z : Int32 => F0 m (pc + 3) ls (.int z :: st.map (cv ad sa))) (Int32.ofInt_toInt v).symm) ?_
  exact k p l e s m args below meth c A D tc sa ad ad0 n0 H locs ls cells slots mc ms F X hn hl ⟨⟨t32_in _, hok.1⟩, hok.2⟩ hc
theorem ab_ldc2 {i : Nat} {v : Int64} {z : Int} (hf : fnd (mrC μ) pc = some (.ldc2_w i, 3)) (hk : Cond.constantLong (rx (mrO μ)) i v ∈ Wg) (hz : v.toInt = z) (k : Ab μ d kc ks (pc + 3) L (aJ z :: st) h Q) : Ab μ d kc ks pc L st h Q := by
  subst hz
  intro p l e s m args below meth c A D tc sa ad ad0 n0 H locs ls cells slots mc ms F X hn hl hok hc
  refine lv_ldc2 F.1 F.2.1 F.own (F.hts _ hk) (Fr.dec F hf) ?_
  refine W.eq (congrArg (fun z : Int64 => F0 m (pc + 3) ls (.long z :: st.map (cv ad sa))) (Int64.ofInt_toInt v).symm) ?_
  exact k p l e s m args below meth c A D tc sa ad ad0 n0 H locs ls cells slots mc ms F X hn hl ⟨⟨t64_in _, hok.1⟩, hok.2⟩ hc
theorem ab_iload_n {k : Fin 4} {x : Int} (hf : fnd (mrC μ) pc = some (.iload_n k, 1)) (hL : L[(k : Nat)]? = some (some (aI x))) (kk : Ab μ d kc ks (pc + 1) L (aI x :: st) h Q) : Ab μ d kc ks pc L st h Q := by
  intro p l e s m args below meth c A D tc sa ad ad0 n0 H locs ls cells slots mc ms F X hn hl hok hc
  refine lv_iload_n F.1 F.2.1 (Fr.dec F hf) rfl (lvOf_at hl hL) ?_
  exact kk p l e s m args below meth c A D tc sa ad ad0 n0 H locs ls cells slots mc ms F X hn hl ⟨⟨hok.2 _ _ hL, hok.1⟩, hok.2⟩ hc
theorem ab_iload {i : Nat} {x : Int} (hf : fnd (mrC μ) pc = some (.iload i, 2)) (hL : L[i]? = some (some (aI x))) (kk : Ab μ d kc ks (pc + 2) L (aI x :: st) h Q) : Ab μ d kc ks pc L st h Q := by
  intro p l e s m args below meth c A D tc sa ad ad0 n0 H locs ls cells slots mc ms F X hn hl hok hc
  refine lv_iload F.1 F.2.1 (Fr.dec F hf) (lvOf_at hl hL) ?_
  exact kk p l e s m args below meth c A D tc sa ad ad0 n0 H locs ls cells slots mc ms F X hn hl ⟨⟨hok.2 _ _ hL, hok.1⟩, hok.2⟩ hc
theorem ab_lload_n {k : Fin 4} {x : Int} (hf : fnd (mrC μ) pc = some (.lload_n k, 1)) (hL : L[(k : Nat)]? = some (some (aJ x))) (kk : Ab μ d kc ks (pc + 1) L (aJ x :: st) h Q) : Ab μ d kc ks pc L st h Q := by
  intro p l e s m args below meth c A D tc sa ad ad0 n0 H locs ls cells slots mc ms F X hn hl hok hc
  refine lv_lload_n F.1 F.2.1 (Fr.dec F hf) rfl (lvOf_at hl hL) ?_
  exact kk p l e s m args below meth c A D tc sa ad ad0 n0 H locs ls cells slots mc ms F X hn hl ⟨⟨hok.2 _ _ hL, hok.1⟩, hok.2⟩ hc
theorem ab_lload {i : Nat} {x : Int} (hf : fnd (mrC μ) pc = some (.lload i, 2)) (hL : L[i]? = some (some (aJ x))) (kk : Ab μ d kc ks (pc + 2) L (aJ x :: st) h Q) : Ab μ d kc ks pc L st h Q := by
  intro p l e s m args below meth c A D tc sa ad ad0 n0 H locs ls cells slots mc ms F X hn hl hok hc
  refine lv_lload F.1 F.2.1 (Fr.dec F hf) (lvOf_at hl hL) ?_
  exact kk p l e s m args below meth c A D tc sa ad ad0 n0 H locs ls cells slots mc ms F X hn hl ⟨⟨hok.2 _ _ hL, hok.1⟩, hok.2⟩ hc
theorem ab_aload_n {k : Fin 4} {x : Nat} (hf : fnd (mrC μ) pc = some (.aload_n k, 1)) (hL : L[(k : Nat)]? = some (some (aR x))) (kk : Ab μ d kc ks (pc + 1) L (aR x :: st) h Q) : Ab μ d kc ks pc L st h Q := by
  intro p l e s m args below meth c A D tc sa ad ad0 n0 H locs ls cells slots mc ms F X hn hl hok hc
  refine lv_aload_n F.1 F.2.1 (Fr.dec F hf) rfl (lvOf_at hl hL) ?_
  exact kk p l e s m args below meth c A D tc sa ad ad0 n0 H locs ls cells slots mc ms F X hn hl ⟨⟨hok.2 _ _ hL, hok.1⟩, hok.2⟩ hc
theorem ab_aload {i : Nat} {x : Nat} (hf : fnd (mrC μ) pc = some (.aload i, 2)) (hL : L[i]? = some (some (aR x))) (kk : Ab μ d kc ks (pc + 2) L (aR x :: st) h Q) : Ab μ d kc ks pc L st h Q := by
  intro p l e s m args below meth c A D tc sa ad ad0 n0 H locs ls cells slots mc ms F X hn hl hok hc
  refine lv_aload F.1 F.2.1 (Fr.dec F hf) (lvOf_at hl hL) ?_
  exact kk p l e s m args below meth c A D tc sa ad ad0 n0 H locs ls cells slots mc ms F X hn hl ⟨⟨hok.2 _ _ hL, hok.1⟩, hok.2⟩ hc
theorem ab_sload_n {k : Fin 4} {x : Nat} (hf : fnd (mrC μ) pc = some (.aload_n k, 1)) (hL : L[(k : Nat)]? = some (some (aS x))) (kk : Ab μ d kc ks (pc + 1) L (aS x :: st) h Q) : Ab μ d kc ks pc L st h Q := by
  intro p l e s m args below meth c A D tc sa ad ad0 n0 H locs ls cells slots mc ms F X hn hl hok hc
  have h1 := lvOf_at hl hL
  have h2 := kk p l e s m args below meth c A D tc sa ad ad0 n0 H locs ls cells slots mc ms F X hn hl ⟨⟨trivial, hok.1⟩, hok.2⟩ hc
  cases hx : sa x with
  | none =>
    have e : cv ad sa (aS x) = .null := by show va_rf (sa x) = _; rw [hx]; rfl
    rw [e] at h1
    rw [List.map_cons, e] at h2
    exact lv_aload_nN F.1 F.2.1 (Fr.dec F hf) rfl h1 h2
  | some a =>
    have e : cv ad sa (aS x) = .ref a := by show va_rf (sa x) = _; rw [hx]; rfl
    rw [e] at h1
    rw [List.map_cons, e] at h2
    exact lv_aload_n F.1 F.2.1 (Fr.dec F hf) rfl h1 h2
theorem ab_istore_n {k : Fin 4} {x : Int} (hf : fnd (mrC μ) pc = some (.istore_n k, 1)) (hb : (k : Nat) < mrL μ) (kk : Ab μ d kc ks (pc + 1) (lset1 L (k : Nat) (aI x)) st h Q) : Ab μ d kc ks pc L (aI x :: st) h Q := by
  intro p l e s m args below meth c A D tc sa ad ad0 n0 H locs ls cells slots mc ms F X hn hl hok hc
  refine lv_istore_n F.1 F.2.1 (Fr.dec F hf) rfl hl hb rfl fun ls' hl' => ?_
  exact kk p l e s m args below meth c A D tc sa ad ad0 n0 H locs ls' cells slots mc ms F X hn (lset1_has hl') ⟨hok.1.2, lset1_ok hok.2 hok.1.1⟩ hc
theorem ab_istore {i : Nat} {x : Int} (hf : fnd (mrC μ) pc = some (.istore i, 2)) (hb : i < mrL μ) (kk : Ab μ d kc ks (pc + 2) (lset1 L i (aI x)) st h Q) : Ab μ d kc ks pc L (aI x :: st) h Q := by
  intro p l e s m args below meth c A D tc sa ad ad0 n0 H locs ls cells slots mc ms F X hn hl hok hc
  refine lv_istore F.1 F.2.1 (Fr.dec F hf) hl hb rfl fun ls' hl' => ?_
  exact kk p l e s m args below meth c A D tc sa ad ad0 n0 H locs ls' cells slots mc ms F X hn (lset1_has hl') ⟨hok.1.2, lset1_ok hok.2 hok.1.1⟩ hc
theorem ab_lstore_n {k : Fin 4} {x : Int} (hf : fnd (mrC μ) pc = some (.lstore_n k, 1)) (hb : (k : Nat) + 1 < mrL μ) (kk : Ab μ d kc ks (pc + 1) (lset2 L (k : Nat) (aJ x)) st h Q) : Ab μ d kc ks pc L (aJ x :: st) h Q := by
  intro p l e s m args below meth c A D tc sa ad ad0 n0 H locs ls cells slots mc ms F X hn hl hok hc
  refine lv_lstore_n F.1 F.2.1 (Fr.dec F hf) rfl hl hb rfl fun ls' hl' => ?_
  exact kk p l e s m args below meth c A D tc sa ad ad0 n0 H locs ls' cells slots mc ms F X hn (lset2_has hl') ⟨hok.1.2, lset2_ok hok.2 hok.1.1⟩ hc
theorem ab_lstore {i : Nat} {x : Int} (hf : fnd (mrC μ) pc = some (.lstore i, 2)) (hb : i + 1 < mrL μ) (kk : Ab μ d kc ks (pc + 2) (lset2 L i (aJ x)) st h Q) : Ab μ d kc ks pc L (aJ x :: st) h Q := by
  intro p l e s m args below meth c A D tc sa ad ad0 n0 H locs ls cells slots mc ms F X hn hl hok hc
  refine lv_lstore F.1 F.2.1 (Fr.dec F hf) hl hb rfl fun ls' hl' => ?_
  exact kk p l e s m args below meth c A D tc sa ad ad0 n0 H locs ls' cells slots mc ms F X hn (lset2_has hl') ⟨hok.1.2, lset2_ok hok.2 hok.1.1⟩ hc
theorem ab_iinc {i : Nat} {n x : Int} (hf : fnd (mrC μ) pc = some (.iinc i n, 3)) (hL : L[i]? = some (some (aI x))) (kk : Ab μ d kc ks (pc + 3) (lset1 L i (aI (w32 (x + n)))) st h Q) : Ab μ d kc ks pc L st h Q := by
  intro p l e s m args below meth c A D tc sa ad ad0 n0 H locs ls cells slots mc ms F X hn hl hok hc
  have hm : (i, cv ad sa (aI x)) ∈ lvOf ad sa L := lvOf_mem.mpr ⟨aI x, hL, rfl⟩
  obtain ⟨j, hj⟩ := List.getElem?_of_mem hm
  have hb : i < mrL μ := by
    have := lv_lt (lvOf_at hl hL)
    rw [hl.1] at this
    exact this
  refine lv_iinc (k := j) (v := Int32.ofInt (w32 (x + n))) F.1 F.2.1 (Fr.dec F hf) hl hj (q_add x n) hb rfl fun ls' hl' => ?_
  exact kk p l e s m args below meth c A D tc sa ad ad0 n0 H locs ls' cells slots mc ms F X hn (lset1_has hl') ⟨hok.1, lset1_ok hok.2 (w32_in _)⟩ hc
theorem ab_dup {v : AV} (hf : fnd (mrC μ) pc = some (.dup, 1)) (hv : isJ (some (some v)) = false) (k : Ab μ d kc ks (pc + 1) L (v :: v :: st) h Q) : Ab μ d kc ks pc L (v :: st) h Q := by
  intro p l e s m args below meth c A D tc sa ad ad0 n0 H locs ls cells slots mc ms F X hn hl hok hc
  refine lv_dup F.1 F.2.1 (Fr.dec F hf) (cv_cat1 hv) ?_
  exact k p l e s m args below meth c A D tc sa ad ad0 n0 H locs ls cells slots mc ms F X hn hl ⟨⟨hok.1.1, hok.1⟩, hok.2⟩ hc
theorem ab_pop {v : AV} (hf : fnd (mrC μ) pc = some (.pop, 1)) (hv : isJ (some (some v)) = false) (k : Ab μ d kc ks (pc + 1) L st h Q) : Ab μ d kc ks pc L (v :: st) h Q := by
  intro p l e s m args below meth c A D tc sa ad ad0 n0 H locs ls cells slots mc ms F X hn hl hok hc
  refine lv_pop F.1 F.2.1 (Fr.dec F hf) (cv_cat1 hv) ?_
  exact k p l e s m args below meth c A D tc sa ad ad0 n0 H locs ls cells slots mc ms F X hn hl ⟨hok.1.2, hok.2⟩ hc
theorem ab_dup2 {v w : AV} (hf : fnd (mrC μ) pc = some (.dup2, 1)) (hv : isJ (some (some v)) = false) (hw : isJ (some (some w)) = false) (k : Ab μ d kc ks (pc + 1) L (v :: w :: v :: w :: st) h Q) : Ab μ d kc ks pc L (v :: w :: st) h Q := by
  intro p l e s m args below meth c A D tc sa ad ad0 n0 H locs ls cells slots mc ms F X hn hl hok hc
  refine lv_dup2_11 F.1 F.2.1 (Fr.dec F hf) (cv_cat1 hv) (cv_cat1 hw) ?_
  exact k p l e s m args below meth c A D tc sa ad ad0 n0 H locs ls cells slots mc ms F X hn hl ⟨⟨hok.1.1, hok.1.2.1, hok.1⟩, hok.2⟩ hc
theorem ab_goto {off : Int} {tgt : Nat} (hf : fnd (mrC μ) pc = some (.goto off, 3)) (ht : (pc : Int) + off = (tgt : Int)) (k : Ab μ d kc ks tgt L st h Q) : Ab μ d kc ks pc L st h Q := by
  intro p l e s m args below meth c A D tc sa ad ad0 n0 H locs ls cells slots mc ms F X hn hl hok hc
  refine lv_goto F.1 F.2.1 (Fr.dec F hf) ht ?_
  exact k p l e s m args below meth c A D tc sa ad ad0 n0 H locs ls cells slots mc ms F X hn hl ⟨hok.1, hok.2⟩ hc
theorem ab_icmp_eq {x y off : Int} {tgt : Nat} (hf : fnd (mrC μ) pc = some (.if_icmp .eq off, 3)) (ht : (pc : Int) + off = (tgt : Int)) (kt : x = y → Ab μ d kc ks tgt L st h Q) (kf : ¬ x = y → Ab μ d kc ks (pc + 3) L st h Q) : Ab μ d kc ks pc L (aI y :: aI x :: st) h Q := by
  intro p l e s m args below meth c A D tc sa ad ad0 n0 H locs ls cells slots mc ms F X hn hl hok hc
  refine lv_icmp_eq F.1 F.2.1 (Fr.dec F hf) ht (fun q => ?_) (fun q => ?_)
  · exact kt ((c32_eq hok.1.2.1 hok.1.1).mp q) p l e s m args below meth c A D tc sa ad ad0 n0 H locs ls cells slots mc ms F X hn hl ⟨hok.1.2.2, hok.2⟩ hc
  · exact kf (fun z => q ((c32_eq hok.1.2.1 hok.1.1).mpr z)) p l e s m args below meth c A D tc sa ad ad0 n0 H locs ls cells slots mc ms F X hn hl ⟨hok.1.2.2, hok.2⟩ hc
theorem ab_if_eq {x off : Int} {tgt : Nat} (hf : fnd (mrC μ) pc = some (.ifCond .eq off, 3)) (ht : (pc : Int) + off = (tgt : Int)) (kt : x = 0 → Ab μ d kc ks tgt L st h Q) (kf : ¬ x = 0 → Ab μ d kc ks (pc + 3) L st h Q) : Ab μ d kc ks pc L (aI x :: st) h Q := by
  intro p l e s m args below meth c A D tc sa ad ad0 n0 H locs ls cells slots mc ms F X hn hl hok hc
  refine lv_if_eq F.1 F.2.1 (Fr.dec F hf) ht (fun q => ?_) (fun q => ?_)
  · exact kt ((c32_eq hok.1.1 in32_0).mp q) p l e s m args below meth c A D tc sa ad ad0 n0 H locs ls cells slots mc ms F X hn hl ⟨hok.1.2, hok.2⟩ hc
  · exact kf (fun z => q ((c32_eq hok.1.1 in32_0).mpr z)) p l e s m args below meth c A D tc sa ad ad0 n0 H locs ls cells slots mc ms F X hn hl ⟨hok.1.2, hok.2⟩ hc
theorem ab_icmp_ne {x y off : Int} {tgt : Nat} (hf : fnd (mrC μ) pc = some (.if_icmp .ne off, 3)) (ht : (pc : Int) + off = (tgt : Int)) (kt : ¬ x = y → Ab μ d kc ks tgt L st h Q) (kf : x = y → Ab μ d kc ks (pc + 3) L st h Q) : Ab μ d kc ks pc L (aI y :: aI x :: st) h Q := by
  intro p l e s m args below meth c A D tc sa ad ad0 n0 H locs ls cells slots mc ms F X hn hl hok hc
  refine lv_icmp_ne F.1 F.2.1 (Fr.dec F hf) ht (fun q => ?_) (fun q => ?_)
  · exact kt (fun z => q ((c32_eq hok.1.2.1 hok.1.1).mpr z)) p l e s m args below meth c A D tc sa ad ad0 n0 H locs ls cells slots mc ms F X hn hl ⟨hok.1.2.2, hok.2⟩ hc
  · exact kf ((c32_eq hok.1.2.1 hok.1.1).mp q) p l e s m args below meth c A D tc sa ad ad0 n0 H locs ls cells slots mc ms F X hn hl ⟨hok.1.2.2, hok.2⟩ hc
theorem ab_if_ne {x off : Int} {tgt : Nat} (hf : fnd (mrC μ) pc = some (.ifCond .ne off, 3)) (ht : (pc : Int) + off = (tgt : Int)) (kt : ¬ x = 0 → Ab μ d kc ks tgt L st h Q) (kf : x = 0 → Ab μ d kc ks (pc + 3) L st h Q) : Ab μ d kc ks pc L (aI x :: st) h Q := by
  intro p l e s m args below meth c A D tc sa ad ad0 n0 H locs ls cells slots mc ms F X hn hl hok hc
  refine lv_if_ne F.1 F.2.1 (Fr.dec F hf) ht (fun q => ?_) (fun q => ?_)
  · exact kt (fun z => q ((c32_eq hok.1.1 in32_0).mpr z)) p l e s m args below meth c A D tc sa ad ad0 n0 H locs ls cells slots mc ms F X hn hl ⟨hok.1.2, hok.2⟩ hc
  · exact kf ((c32_eq hok.1.1 in32_0).mp q) p l e s m args below meth c A D tc sa ad ad0 n0 H locs ls cells slots mc ms F X hn hl ⟨hok.1.2, hok.2⟩ hc
theorem ab_icmp_lt {x y off : Int} {tgt : Nat} (hf : fnd (mrC μ) pc = some (.if_icmp .lt off, 3)) (ht : (pc : Int) + off = (tgt : Int)) (kt : x < y → Ab μ d kc ks tgt L st h Q) (kf : ¬ x < y → Ab μ d kc ks (pc + 3) L st h Q) : Ab μ d kc ks pc L (aI y :: aI x :: st) h Q := by
  intro p l e s m args below meth c A D tc sa ad ad0 n0 H locs ls cells slots mc ms F X hn hl hok hc
  refine lv_icmp_lt F.1 F.2.1 (Fr.dec F hf) ht (fun q => ?_) (fun q => ?_)
  · exact kt ((c32_lt hok.1.2.1 hok.1.1).mp q) p l e s m args below meth c A D tc sa ad ad0 n0 H locs ls cells slots mc ms F X hn hl ⟨hok.1.2.2, hok.2⟩ hc
  · exact kf (fun z => q ((c32_lt hok.1.2.1 hok.1.1).mpr z)) p l e s m args below meth c A D tc sa ad ad0 n0 H locs ls cells slots mc ms F X hn hl ⟨hok.1.2.2, hok.2⟩ hc
theorem ab_if_lt {x off : Int} {tgt : Nat} (hf : fnd (mrC μ) pc = some (.ifCond .lt off, 3)) (ht : (pc : Int) + off = (tgt : Int)) (kt : x < 0 → Ab μ d kc ks tgt L st h Q) (kf : ¬ x < 0 → Ab μ d kc ks (pc + 3) L st h Q) : Ab μ d kc ks pc L (aI x :: st) h Q := by
  intro p l e s m args below meth c A D tc sa ad ad0 n0 H locs ls cells slots mc ms F X hn hl hok hc
  refine lv_if_lt F.1 F.2.1 (Fr.dec F hf) ht (fun q => ?_) (fun q => ?_)
  · exact kt ((c32_lt hok.1.1 in32_0).mp q) p l e s m args below meth c A D tc sa ad ad0 n0 H locs ls cells slots mc ms F X hn hl ⟨hok.1.2, hok.2⟩ hc
  · exact kf (fun z => q ((c32_lt hok.1.1 in32_0).mpr z)) p l e s m args below meth c A D tc sa ad ad0 n0 H locs ls cells slots mc ms F X hn hl ⟨hok.1.2, hok.2⟩ hc
theorem ab_icmp_ge {x y off : Int} {tgt : Nat} (hf : fnd (mrC μ) pc = some (.if_icmp .ge off, 3)) (ht : (pc : Int) + off = (tgt : Int)) (kt : y ≤ x → Ab μ d kc ks tgt L st h Q) (kf : ¬ y ≤ x → Ab μ d kc ks (pc + 3) L st h Q) : Ab μ d kc ks pc L (aI y :: aI x :: st) h Q := by
  intro p l e s m args below meth c A D tc sa ad ad0 n0 H locs ls cells slots mc ms F X hn hl hok hc
  refine lv_icmp_ge F.1 F.2.1 (Fr.dec F hf) ht (fun q => ?_) (fun q => ?_)
  · exact kt ((c32_le hok.1.1 hok.1.2.1).mp q) p l e s m args below meth c A D tc sa ad ad0 n0 H locs ls cells slots mc ms F X hn hl ⟨hok.1.2.2, hok.2⟩ hc
  · exact kf (fun z => q ((c32_le hok.1.1 hok.1.2.1).mpr z)) p l e s m args below meth c A D tc sa ad ad0 n0 H locs ls cells slots mc ms F X hn hl ⟨hok.1.2.2, hok.2⟩ hc
theorem ab_if_ge {x off : Int} {tgt : Nat} (hf : fnd (mrC μ) pc = some (.ifCond .ge off, 3)) (ht : (pc : Int) + off = (tgt : Int)) (kt : 0 ≤ x → Ab μ d kc ks tgt L st h Q) (kf : ¬ 0 ≤ x → Ab μ d kc ks (pc + 3) L st h Q) : Ab μ d kc ks pc L (aI x :: st) h Q := by
  intro p l e s m args below meth c A D tc sa ad ad0 n0 H locs ls cells slots mc ms F X hn hl hok hc
  refine lv_if_ge F.1 F.2.1 (Fr.dec F hf) ht (fun q => ?_) (fun q => ?_)
  · exact kt ((c32_le in32_0 hok.1.1).mp q) p l e s m args below meth c A D tc sa ad ad0 n0 H locs ls cells slots mc ms F X hn hl ⟨hok.1.2, hok.2⟩ hc
  · exact kf (fun z => q ((c32_le in32_0 hok.1.1).mpr z)) p l e s m args below meth c A D tc sa ad ad0 n0 H locs ls cells slots mc ms F X hn hl ⟨hok.1.2, hok.2⟩ hc
theorem ab_icmp_gt {x y off : Int} {tgt : Nat} (hf : fnd (mrC μ) pc = some (.if_icmp .gt off, 3)) (ht : (pc : Int) + off = (tgt : Int)) (kt : y < x → Ab μ d kc ks tgt L st h Q) (kf : ¬ y < x → Ab μ d kc ks (pc + 3) L st h Q) : Ab μ d kc ks pc L (aI y :: aI x :: st) h Q := by
  intro p l e s m args below meth c A D tc sa ad ad0 n0 H locs ls cells slots mc ms F X hn hl hok hc
  refine lv_icmp_gt F.1 F.2.1 (Fr.dec F hf) ht (fun q => ?_) (fun q => ?_)
  · exact kt ((c32_lt hok.1.1 hok.1.2.1).mp q) p l e s m args below meth c A D tc sa ad ad0 n0 H locs ls cells slots mc ms F X hn hl ⟨hok.1.2.2, hok.2⟩ hc
  · exact kf (fun z => q ((c32_lt hok.1.1 hok.1.2.1).mpr z)) p l e s m args below meth c A D tc sa ad ad0 n0 H locs ls cells slots mc ms F X hn hl ⟨hok.1.2.2, hok.2⟩ hc
theorem ab_if_gt {x off : Int} {tgt : Nat} (hf : fnd (mrC μ) pc = some (.ifCond .gt off, 3)) (ht : (pc : Int) + off = (tgt : Int)) (kt : 0 < x → Ab μ d kc ks tgt L st h Q) (kf : ¬ 0 < x → Ab μ d kc ks (pc + 3) L st h Q) : Ab μ d kc ks pc L (aI x :: st) h Q := by
  intro p l e s m args below meth c A D tc sa ad ad0 n0 H locs ls cells slots mc ms F X hn hl hok hc
  refine lv_if_gt F.1 F.2.1 (Fr.dec F hf) ht (fun q => ?_) (fun q => ?_)
  · exact kt ((c32_lt in32_0 hok.1.1).mp q) p l e s m args below meth c A D tc sa ad ad0 n0 H locs ls cells slots mc ms F X hn hl ⟨hok.1.2, hok.2⟩ hc
  · exact kf (fun z => q ((c32_lt in32_0 hok.1.1).mpr z)) p l e s m args below meth c A D tc sa ad ad0 n0 H locs ls cells slots mc ms F X hn hl ⟨hok.1.2, hok.2⟩ hc
theorem ab_icmp_le {x y off : Int} {tgt : Nat} (hf : fnd (mrC μ) pc = some (.if_icmp .le off, 3)) (ht : (pc : Int) + off = (tgt : Int)) (kt : x ≤ y → Ab μ d kc ks tgt L st h Q) (kf : ¬ x ≤ y → Ab μ d kc ks (pc + 3) L st h Q) : Ab μ d kc ks pc L (aI y :: aI x :: st) h Q := by
  intro p l e s m args below meth c A D tc sa ad ad0 n0 H locs ls cells slots mc ms F X hn hl hok hc
  refine lv_icmp_le F.1 F.2.1 (Fr.dec F hf) ht (fun q => ?_) (fun q => ?_)
  · exact kt ((c32_le hok.1.2.1 hok.1.1).mp q) p l e s m args below meth c A D tc sa ad ad0 n0 H locs ls cells slots mc ms F X hn hl ⟨hok.1.2.2, hok.2⟩ hc
  · exact kf (fun z => q ((c32_le hok.1.2.1 hok.1.1).mpr z)) p l e s m args below meth c A D tc sa ad ad0 n0 H locs ls cells slots mc ms F X hn hl ⟨hok.1.2.2, hok.2⟩ hc
theorem ab_if_le {x off : Int} {tgt : Nat} (hf : fnd (mrC μ) pc = some (.ifCond .le off, 3)) (ht : (pc : Int) + off = (tgt : Int)) (kt : x ≤ 0 → Ab μ d kc ks tgt L st h Q) (kf : ¬ x ≤ 0 → Ab μ d kc ks (pc + 3) L st h Q) : Ab μ d kc ks pc L (aI x :: st) h Q := by
  intro p l e s m args below meth c A D tc sa ad ad0 n0 H locs ls cells slots mc ms F X hn hl hok hc
  refine lv_if_le F.1 F.2.1 (Fr.dec F hf) ht (fun q => ?_) (fun q => ?_)
  · exact kt ((c32_le hok.1.1 in32_0).mp q) p l e s m args below meth c A D tc sa ad ad0 n0 H locs ls cells slots mc ms F X hn hl ⟨hok.1.2, hok.2⟩ hc
  · exact kf (fun z => q ((c32_le hok.1.1 in32_0).mpr z)) p l e s m args below meth c A D tc sa ad ad0 n0 H locs ls cells slots mc ms F X hn hl ⟨hok.1.2, hok.2⟩ hc
theorem ab_tswIn {dflt lo hi x off : Int} {offs : Array Int} {len tgt : Nat} (hf : fnd (mrC μ) pc = some (.tableswitch dflt lo hi offs, len)) (h1 : lo ≤ x) (h2 : x ≤ hi) (ho : offs[(x - lo).toNat]? = some off) (ht : (pc : Int) + off = (tgt : Int)) (k : Ab μ d kc ks tgt L st h Q) : Ab μ d kc ks pc L (aI x :: st) h Q := by
  intro p l e s m args below meth c A D tc sa ad ad0 n0 H locs ls cells slots mc ms F X hn hl hok hc
  refine lv_tableIn F.1 F.2.1 (Fr.dec F hf) (by rw [t32_of hok.1.1]; omega) (by rw [t32_of hok.1.1]; omega) (by rw [t32_of hok.1.1]; exact ho) ht ?_
  exact k p l e s m args below meth c A D tc sa ad ad0 n0 H locs ls cells slots mc ms F X hn hl ⟨hok.1.2, hok.2⟩ hc
theorem ab_tswOut {dflt lo hi x : Int} {offs : Array Int} {len tgt : Nat} (hf : fnd (mrC μ) pc = some (.tableswitch dflt lo hi offs, len)) (h1 : x < lo ∨ hi < x) (ht : (pc : Int) + dflt = (tgt : Int)) (k : Ab μ d kc ks tgt L st h Q) : Ab μ d kc ks pc L (aI x :: st) h Q := by
  intro p l e s m args below meth c A D tc sa ad ad0 n0 H locs ls cells slots mc ms F X hn hl hok hc
  refine lv_tableOut F.1 F.2.1 (Fr.dec F hf) (by rw [t32_of hok.1.1]; exact h1) ht ?_
  exact k p l e s m args below meth c A D tc sa ad ad0 n0 H locs ls cells slots mc ms F X hn hl ⟨hok.1.2, hok.2⟩ hc
theorem ab_lsw {dflt x off : Int} {ps : Array (Int × Int)} {len tgt : Nat} (hf : fnd (mrC μ) pc = some (.lookupswitch dflt ps, len)) (hp : (ps.toList.zip (ps.toList.drop 1)).all (fun (a, next) => a.1 < next.1) = true) (ho : Op.lookupswitch.offset ps.toList dflt x = off) (ht : (pc : Int) + off = (tgt : Int)) (k : Ab μ d kc ks tgt L st h Q) : Ab μ d kc ks pc L (aI x :: st) h Q := by
  intro p l e s m args below meth c A D tc sa ad ad0 n0 H locs ls cells slots mc ms F X hn hl hok hc
  refine lv_lookup F.1 F.2.1 (Fr.dec F hf) hp (by rw [t32_of hok.1.1]; exact ho) ht ?_
  exact k p l e s m args below meth c A D tc sa ad ad0 n0 H locs ls cells slots mc ms F X hn hl ⟨hok.1.2, hok.2⟩ hc
theorem ab_ok (k : okS h.1.length st → okL h.1.length L → okH h → Ab μ d kc ks pc L st h Q) : Ab μ d kc ks pc L st h Q := by
  intro p l e s m args below meth c A D tc sa ad ad0 n0 H locs ls cells slots mc ms F X hn hl hok hc
  exact k hok.1 hok.2 X.2.2.2 p l e s m args below meth c A D tc sa ad ad0 n0 H locs ls cells slots mc ms F X hn hl ⟨hok.1, hok.2⟩ hc
theorem ab_eq {L' : ML} {st' : List AV} {h' : AH} (e1 : L = L') (e2 : st = st') (e3 : h = h') (k : Ab μ d kc ks pc L' st' h' Q) : Ab μ d kc ks pc L st h Q := by
  subst e1; subst e2; subst e3; exact k
theorem ab_iret {x : Int} (hf : fnd (mrC μ) pc = some (.ireturn, 1)) (hr : mrT μ = some .int) (hq : Q (some (aI x)) h) : Ab μ d kc ks pc L [aI x] h Q := by
  intro p l e s m args below meth c A D tc sa ad ad0 n0 H locs ls cells slots mc ms F X hn hl hok hc
  refine W.widen (k := mc) (n := ms) (by omega) (by omega) ?_
  refine W.iret F.1 F.2.1 (F.2.2.1.trans hr) (fun t ht hW => ⟨⟨some (aI x), h, ad, hq, rfl, hn, fun v e => by cases e; exact hok.1.1, by rw [ht]; exact X.1, X.2.1, X.2.2.2⟩, X.2.2.1.F ht⟩) X.2.2.1.2.2 (Fr.dec F hf) F.2.2.2.2.2.2.1
theorem ab_zret {x : Int} (hf : fnd (mrC μ) pc = some (.ireturn, 1)) (hr : mrT μ = some .boolean) (hx : x = 0 ∨ x = 1) (hq : Q (some (aI x)) h) : Ab μ d kc ks pc L [aI x] h Q := by
  intro p l e s m args below meth c A D tc sa ad ad0 n0 H locs ls cells slots mc ms F X hn hl hok hc
  refine W.widen (k := mc) (n := ms) (by omega) (by omega) ?_
  refine W.zret F.1 F.2.1 (F.2.2.1.trans hr) (by rcases hx with e | e <;> subst e <;> rfl) (fun t ht hW => ⟨⟨some (aI x), h, ad, hq, rfl, hn, fun v e => by cases e; exact hok.1.1, by rw [ht]; exact X.1, X.2.1, X.2.2.2⟩, X.2.2.1.F ht⟩) X.2.2.1.2.2 (Fr.dec F hf) F.2.2.2.2.2.2.1
theorem ab_lret {x : Int} (hf : fnd (mrC μ) pc = some (.lreturn, 1)) (hr : mrT μ = some .long) (hq : Q (some (aJ x)) h) : Ab μ d kc ks pc L [aJ x] h Q := by
  intro p l e s m args below meth c A D tc sa ad ad0 n0 H locs ls cells slots mc ms F X hn hl hok hc
  refine W.widen (k := mc) (n := ms) (by omega) (by omega) ?_
  refine W.lret F.1 F.2.1 (F.2.2.1.trans hr) (fun t ht hW => ⟨⟨some (aJ x), h, ad, hq, rfl, hn, fun v e => by cases e; exact hok.1.1, by rw [ht]; exact X.1, X.2.1, X.2.2.2⟩, X.2.2.1.F ht⟩) X.2.2.1.2.2 (Fr.dec F hf) F.2.2.2.2.2.2.1
theorem ab_vret (hf : fnd (mrC μ) pc = some (.return_, 1)) (hr : mrT μ = none) (hq : Q none h) : Ab μ d kc ks pc L [] h Q := by
  intro p l e s m args below meth c A D tc sa ad ad0 n0 H locs ls cells slots mc ms F X hn hl hok hc
  refine W.widen (k := mc) (n := ms) (by omega) (by omega) ?_
  refine W.vret F.1 F.2.1 (F.2.2.1.trans hr) (fun t ht hW => ⟨⟨none, h, ad, hq, rfl, hn, fun v e => (by cases e), by rw [ht]; exact X.1, X.2.1, X.2.2.2⟩, X.2.2.1.F ht⟩) X.2.2.1.2.2 (Fr.dec F hf) F.2.2.2.2.2.2.1
end ABR
