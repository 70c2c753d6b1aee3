def SHt : List (Nat × Nat) := [(11, 16), (9, 2), (100, 1600), (3, 10), (100, 3), (100, 18), (100, 18), (100, 18), (100, 1600), (100, 4), (100, 4), (10, 4), (3, 10), (100, 3), (100, 18), (100, 18), (100, 18), (100, 1600), (100, 4), (100, 4), (7, 6), (100, 6), (100, 144), (100, 60), (1, 12), (100, 29), (0, 3), (5, 3), (100, 8), (100, 64), (7, 6), (100, 6), (100, 144), (100, 60), (7, 6), (100, 6), (100, 144), (100, 60), (2, 3), (100, 4260), (4, 5), (100, 6), (100, 6), (100, 448), (6, 13), (100, 144), (100, 6), (100, 6), (100, 6), (102, 64), (100, 10), (100, 10), (8, 9), (100, 144), (100, 6), (100, 6), (100, 153), (12, 71), (100, 1800), (100, 2), (100, 12), (100, 12), (100, 2), (100, 12), (100, 12), (100, 12), (100, 288), (100, 2), (100, 12), (100, 12), (100, 2), (100, 8), (100, 8), (100, 3200), (100, 3200), (101, 12), (101, 12), (101, 12), (100, 20), (100, 20), (102, 20), (100, 20), (100, 20), (100, 500), (100, 6), (100, 22), (100, 132), (100, 3168), (100, 22), (100, 6600), (101, 500), (100, 12), (100, 6), (100, 448), (100, 6), (100, 24), (100, 6), (100, 6), (100, 160)]
def RFt : List (List (Option Nat)) := [[some 1, some 3, some 11, some 27, some 30, some 34, some 38, some 40, some 44, some 52, some 55, some 56, none, none, none, none], [some 2, none], [], [some 4, some 5, some 6, some 7, some 8, some 9, some 10, none, none, none], [], [], [], [], [], [], [], [some 24, some 12, some 20, some 26], [some 13, some 14, some 15, some 16, some 17, some 18, some 19, none, none, none], [], [], [], [], [], [], [], [some 21, some 22, some 23, none, none, none], [], [], [], [some 1, some 25, none, none, none, none, none, none, none, none, none, none], [], [some 24, some 12, none], [some 3, some 28, some 29], [], [], [some 31, some 32, some 33, none, none, none], [], [], [], [some 35, some 36, some 37, none, none, none], [], [], [], [some 39, none, none], [], [some 3, some 27, some 41, some 42, some 43], [], [], [], [some 3, some 27, some 1, some 45, some 46, some 47, some 48, some 49, some 50, some 51, none, none, none], [], [], [], [], [], [], [], [some 3, some 27, some 53, some 54, none, none, none, none, none], [], [], [], [], [some 58, none, none, none, none, none, none, none, none, none, none, none, none, none, some 59, some 60, some 61, some 62, some 63, some 64, some 65, some 66, some 67, some 68, some 69, some 70, some 71, some 72, some 73, some 74, some 75, some 76, some 77, none, none, none, some 78, some 79, some 80, some 81, some 82, none, none, some 83, none, none, some 84, some 85, some 86, some 87, some 88, some 89, none, none, none, some 90, some 91, none, none, none, none, some 92, some 93, none, some 94, some 95, none, some 96, some 97, some 98, none], [], [], [], [], [], [], [], [], [], [], [], [], [], [], [], [], [], [], [], [], [], [], [], [], [], [], [], [], [], [], [], [], [], [], [], [], [], [], [], [], []]
def RFn (p k : Nat) : Option Nat := (RFt.getD p []).getD k none
abbrev HI : Type := Nat → Nat → Int
def Hp (I : HI) : AH := (SHt, RFn, I)
def Bj (μ : MR) (d pc : Nat) (L : ML) (st : List AV) (I : HI) (Q : Option AV → HI → Prop) : Prop := Ab μ d 0 0 pc L st (Hp I) (fun r h => ∃ I', h = Hp I' ∧ Q r I')
def Rj (μ : MR) (d : Nat) (args : List AV) (I : HI) (Q : Option AV → HI → Prop) : Prop := Rn μ d 0 0 args (Hp I) (fun r h => ∃ I', h = Hp I' ∧ Q r I')
section BJ
variable {μ ν : MR} {d d' pc i : Nat} {L : ML} {st rest : List AV} {I : HI} {Q : Option AV → HI → Prop}
theorem rj_of {args : List AV} {L0 : ML} (hM : MOK μ) (hlen : (lfl args).length ≤ mrL μ) (hL : entL args (mrL μ) = L0) (k : Bj μ d 0 L0 [] I Q) : Rj μ d args I Q := by
  subst hL
  exact rn_of hM hlen k
theorem b_L {L' : ML} (e : L = L') (k : Bj μ d pc L' st I Q) : Bj μ d pc L st I Q := by subst e; exact k
theorem b_iadd {x y : Int} (hf : fnd (mrC μ) pc = some (.iadd, 1))  (k : Bj μ d (pc + 1) L (aI (w32 (x + y)) :: st) I Q) : Bj μ d pc L (aI y :: aI x :: st) I Q := ab_iadd hf  k
theorem b_iaddN {x y : Int} (hf : fnd (mrC μ) pc = some (.iadd, 1)) (h1 : -2147483648 ≤ x + y) (h2 : x + y < 2147483648) (k : Bj μ d (pc + 1) L (aI (x + y) :: st) I Q) : Bj μ d pc L (aI y :: aI x :: st) I Q := by
  refine b_iadd hf ?_
  rw [w32_id h1 h2]
  exact k
theorem b_isub {x y : Int} (hf : fnd (mrC μ) pc = some (.isub, 1))  (k : Bj μ d (pc + 1) L (aI (w32 (x - y)) :: st) I Q) : Bj μ d pc L (aI y :: aI x :: st) I Q := ab_isub hf  k
theorem b_isubN {x y : Int} (hf : fnd (mrC μ) pc = some (.isub, 1)) (h1 : -2147483648 ≤ x - y) (h2 : x - y < 2147483648) (k : Bj μ d (pc + 1) L (aI (x - y) :: st) I Q) : Bj μ d pc L (aI y :: aI x :: st) I Q := by
  refine b_isub hf ?_
  rw [w32_id h1 h2]
  exact k
theorem b_imul {x y : Int} (hf : fnd (mrC μ) pc = some (.imul, 1))  (k : Bj μ d (pc + 1) L (aI (w32 (x * y)) :: st) I Q) : Bj μ d pc L (aI y :: aI x :: st) I Q := ab_imul hf  k
theorem b_imulN {x y : Int} (hf : fnd (mrC μ) pc = some (.imul, 1)) (h1 : -2147483648 ≤ x * y) (h2 : x * y < 2147483648) (k : Bj μ d (pc + 1) L (aI (x * y) :: st) I Q) : Bj μ d pc L (aI y :: aI x :: st) I Q := by
  refine b_imul hf ?_
  rw [w32_id h1 h2]
  exact k
theorem b_iand {x y : Int} (hf : fnd (mrC μ) pc = some (.iand, 1))  (k : Bj μ d (pc + 1) L (aI (iAnd x y) :: st) I Q) : Bj μ d pc L (aI y :: aI x :: st) I Q := ab_iand hf  k
theorem b_ior {x y : Int} (hf : fnd (mrC μ) pc = some (.ior, 1))  (k : Bj μ d (pc + 1) L (aI (iOr x y) :: st) I Q) : Bj μ d pc L (aI y :: aI x :: st) I Q := ab_ior hf  k
theorem b_ixor {x y : Int} (hf : fnd (mrC μ) pc = some (.ixor, 1))  (k : Bj μ d (pc + 1) L (aI (iXor x y) :: st) I Q) : Bj μ d pc L (aI y :: aI x :: st) I Q := ab_ixor hf  k
theorem b_ishl {x y : Int} (hf : fnd (mrC μ) pc = some (.ishl, 1))  (k : Bj μ d (pc + 1) L (aI (iShl x y) :: st) I Q) : Bj μ d pc L (aI y :: aI x :: st) I Q := ab_ishl hf  k
theorem b_ishr {x y : Int} (hf : fnd (mrC μ) pc = some (.ishr, 1))  (k : Bj μ d (pc + 1) L (aI (iShr x y) :: st) I Q) : Bj μ d pc L (aI y :: aI x :: st) I Q := ab_ishr hf  k
theorem b_ladd {x y : Int} (hf : fnd (mrC μ) pc = some (.ladd, 1))  (k : Bj μ d (pc + 1) L (aJ (w64 (x + y)) :: st) I Q) : Bj μ d pc L (aJ y :: aJ x :: st) I Q := ab_ladd hf  k
theorem b_laddN {x y : Int} (hf : fnd (mrC μ) pc = some (.ladd, 1)) (h1 : -9223372036854775808 ≤ x + y) (h2 : x + y < 9223372036854775808) (k : Bj μ d (pc + 1) L (aJ (x + y) :: st) I Q) : Bj μ d pc L (aJ y :: aJ x :: st) I Q := by
  refine b_ladd hf ?_
  rw [w64_id h1 h2]
  exact k
theorem b_lsub {x y : Int} (hf : fnd (mrC μ) pc = some (.lsub, 1))  (k : Bj μ d (pc + 1) L (aJ (w64 (x - y)) :: st) I Q) : Bj μ d pc L (aJ y :: aJ x :: st) I Q := ab_lsub hf  k
theorem b_lsubN {x y : Int} (hf : fnd (mrC μ) pc = some (.lsub, 1)) (h1 : -9223372036854775808 ≤ x - y) (h2 : x - y < 9223372036854775808) (k : Bj μ d (pc + 1) L (aJ (x - y) :: st) I Q) : Bj μ d pc L (aJ y :: aJ x :: st) I Q := by
  refine b_lsub hf ?_
  rw [w64_id h1 h2]
  exact k
theorem b_lmul {x y : Int} (hf : fnd (mrC μ) pc = some (.lmul, 1))  (k : Bj μ d (pc + 1) L (aJ (w64 (x * y)) :: st) I Q) : Bj μ d pc L (aJ y :: aJ x :: st) I Q := ab_lmul hf  k
theorem b_lmulN {x y : Int} (hf : fnd (mrC μ) pc = some (.lmul, 1)) (h1 : -9223372036854775808 ≤ x * y) (h2 : x * y < 9223372036854775808) (k : Bj μ d (pc + 1) L (aJ (x * y) :: st) I Q) : Bj μ d pc L (aJ y :: aJ x :: st) I Q := by
  refine b_lmul hf ?_
  rw [w64_id h1 h2]
  exact k
theorem b_land {x y : Int} (hf : fnd (mrC μ) pc = some (.land, 1))  (k : Bj μ d (pc + 1) L (aJ (lAnd x y) :: st) I Q) : Bj μ d pc L (aJ y :: aJ x :: st) I Q := ab_land hf  k
theorem b_lor {x y : Int} (hf : fnd (mrC μ) pc = some (.lor, 1))  (k : Bj μ d (pc + 1) L (aJ (lOr x y) :: st) I Q) : Bj μ d pc L (aJ y :: aJ x :: st) I Q := ab_lor hf  k
theorem b_idiv {x y : Int} (hf : fnd (mrC μ) pc = some (.idiv, 1)) (hy : y ≠ 0) (k : Bj μ d (pc + 1) L (aI (iDiv x y) :: st) I Q) : Bj μ d pc L (aI y :: aI x :: st) I Q := ab_idiv hf hy k
theorem b_irem {x y : Int} (hf : fnd (mrC μ) pc = some (.irem, 1)) (hy : y ≠ 0) (k : Bj μ d (pc + 1) L (aI (iRem x y) :: st) I Q) : Bj μ d pc L (aI y :: aI x :: st) I Q := ab_irem hf hy k
theorem b_ldiv {x y : Int} (hf : fnd (mrC μ) pc = some (.ldiv, 1)) (hy : y ≠ 0) (k : Bj μ d (pc + 1) L (aJ (lDiv x y) :: st) I Q) : Bj μ d pc L (aJ y :: aJ x :: st) I Q := ab_ldiv hf hy k
theorem b_lrem {x y : Int} (hf : fnd (mrC μ) pc = some (.lrem, 1)) (hy : y ≠ 0) (k : Bj μ d (pc + 1) L (aJ (lRem x y) :: st) I Q) : Bj μ d pc L (aJ y :: aJ x :: st) I Q := ab_lrem hf hy k
theorem b_ineg {x : Int} (hf : fnd (mrC μ) pc = some (.ineg, 1))  (k : Bj μ d (pc + 1) L (aI (w32 (-x)) :: st) I Q) : Bj μ d pc L (aI x :: st) I Q := ab_ineg hf  k
theorem b_inegN {x : Int} (hf : fnd (mrC μ) pc = some (.ineg, 1)) (h1 : -2147483648 ≤ -x) (h2 : -x < 2147483648) (k : Bj μ d (pc + 1) L (aI (-x) :: st) I Q) : Bj μ d pc L (aI x :: st) I Q := by
  refine b_ineg hf ?_
  rw [w32_id h1 h2]
  exact k
theorem b_lshl {x y : Int} (hf : fnd (mrC μ) pc = some (.lshl, 1))  (k : Bj μ d (pc + 1) L (aJ (lShl x y) :: st) I Q) : Bj μ d pc L (aI y :: aJ x :: st) I Q := ab_lshl hf  k
theorem b_lshr {x y : Int} (hf : fnd (mrC μ) pc = some (.lshr, 1))  (k : Bj μ d (pc + 1) L (aJ (lShr x y) :: st) I Q) : Bj μ d pc L (aI y :: aJ x :: st) I Q := ab_lshr hf  k
theorem b_lcmp {x y : Int} (hf : fnd (mrC μ) pc = some (.lcmp, 1))  (k : Bj μ d (pc + 1) L (aI (lCmp x y) :: st) I Q) : Bj μ d pc L (aJ y :: aJ x :: st) I Q := ab_lcmp hf  k
theorem b_i2l {x : Int} (hf : fnd (mrC μ) pc = some (.i2l, 1))  (k : Bj μ d (pc + 1) L (aJ x :: st) I Q) : Bj μ d pc L (aI x :: st) I Q := ab_i2l hf  k
theorem b_l2i {x : Int} (hf : fnd (mrC μ) pc = some (.l2i, 1))  (k : Bj μ d (pc + 1) L (aI (w32 x) :: st) I Q) : Bj μ d pc L (aJ x :: st) I Q := ab_l2i hf  k
theorem b_iconst {n : Int} (hf : fnd (mrC μ) pc = some (.iconst n, 1)) (h8 : -128 ≤ n ∧ n ≤ 127) (k : Bj μ d (pc + 1) L (aI n :: st) I Q) : Bj μ d pc L (st) I Q := ab_iconst hf h8 k
theorem b_bipush {n : Int} (hf : fnd (mrC μ) pc = some (.bipush n, 2)) (h8 : -128 ≤ n ∧ n ≤ 127) (k : Bj μ d (pc + 2) L (aI n :: st) I Q) : Bj μ d pc L (st) I Q := ab_bipush hf h8 k
theorem b_sipush {n : Int} (hf : fnd (mrC μ) pc = some (.sipush n, 3)) (h8 : -32768 ≤ n ∧ n ≤ 32767) (k : Bj μ d (pc + 3) L (aI n :: st) I Q) : Bj μ d pc L (st) I Q := ab_sipush hf h8 k
theorem b_lconst {n : Fin 2} {z : Int} (hf : fnd (mrC μ) pc = some (.lconst n, 1)) (hz : ((n : Nat) : Int) = z) (k : Bj μ d (pc + 1) L (aJ z :: st) I Q) : Bj μ d pc L (st) I Q := ab_lconst hf hz k
theorem b_ldc {v : Int32} {z : Int} (hf : fnd (mrC μ) pc = some (.ldc i, 2)) (hk : Cond.constant (rx (mrO μ)) i v ∈ Wg) (hz : v.toInt = z) (k : Bj μ d (pc + 2) L (aI z :: st) I Q) : Bj μ d pc L (st) I Q := ab_ldc hf hk hz k
theorem b_ldcw {v : Int32} {z : Int} (hf : fnd (mrC μ) pc = some (.ldc_w i, 3)) (hk : Cond.constant (rx (mrO μ)) i v ∈ Wg) (hz : v.toInt = z) (k : Bj μ d (pc + 3) L (aI z :: st) I Q) : Bj μ d pc L (st) I Q := ab_ldcw hf hk hz k
theorem b_ldc2 {v : Int64} {z : Int} (hf : fnd (mrC μ) pc = some (.ldc2_w i, 3)) (hk : Cond.constantLong (rx (mrO μ)) i v ∈ Wg) (hz : v.toInt = z) (k : Bj μ d (pc + 3) L (aJ z :: st) I Q) : Bj μ d pc L (st) I Q := ab_ldc2 hf hk hz k
theorem b_iload_n {k : Fin 4} {x : Int} (hf : fnd (mrC μ) pc = some (.iload_n k, 1)) (hL : L[(k : Nat)]? = some (some (aI x))) (kk : Bj μ d (pc + 1) L (aI x :: st) I Q) : Bj μ d pc L st I Q := ab_iload_n hf hL kk
theorem b_iload {x : Int} (hf : fnd (mrC μ) pc = some (.iload i, 2)) (hL : L[i]? = some (some (aI x))) (kk : Bj μ d (pc + 2) L (aI x :: st) I Q) : Bj μ d pc L st I Q := ab_iload hf hL kk
theorem b_lload_n {k : Fin 4} {x : Int} (hf : fnd (mrC μ) pc = some (.lload_n k, 1)) (hL : L[(k : Nat)]? = some (some (aJ x))) (kk : Bj μ d (pc + 1) L (aJ x :: st) I Q) : Bj μ d pc L st I Q := ab_lload_n hf hL kk
theorem b_lload {x : Int} (hf : fnd (mrC μ) pc = some (.lload i, 2)) (hL : L[i]? = some (some (aJ x))) (kk : Bj μ d (pc + 2) L (aJ x :: st) I Q) : Bj μ d pc L st I Q := ab_lload hf hL kk
theorem b_aload_n {k : Fin 4} {x : Nat} (hf : fnd (mrC μ) pc = some (.aload_n k, 1)) (hL : L[(k : Nat)]? = some (some (aR x))) (kk : Bj μ d (pc + 1) L (aR x :: st) I Q) : Bj μ d pc L st I Q := ab_aload_n hf hL kk
theorem b_aload {x : Nat} (hf : fnd (mrC μ) pc = some (.aload i, 2)) (hL : L[i]? = some (some (aR x))) (kk : Bj μ d (pc + 2) L (aR x :: st) I Q) : Bj μ d pc L st I Q := ab_aload hf hL kk
theorem b_istore_n {k : Fin 4} {x : Int} {L' : ML} (hf : fnd (mrC μ) pc = some (.istore_n k, 1)) (hb : (k : Nat) < mrL μ) (hL : lset1 L (k : Nat) (aI x) = L') (kk : Bj μ d (pc + 1) L' st I Q) : Bj μ d pc L (aI x :: st) I Q := by
  subst hL
  exact ab_istore_n hf hb kk
theorem b_istore {x : Int} {L' : ML} (hf : fnd (mrC μ) pc = some (.istore i, 2)) (hb : i < mrL μ) (hL : lset1 L i (aI x) = L') (kk : Bj μ d (pc + 2) L' st I Q) : Bj μ d pc L (aI x :: st) I Q := by
  subst hL
  exact ab_istore hf hb kk
theorem b_lstore_n {k : Fin 4} {x : Int} {L' : ML} (hf : fnd (mrC μ) pc = some (.lstore_n k, 1)) (hb : (k : Nat) + 1 < mrL μ) (hL : lset2 L (k : Nat) (aJ x) = L') (kk : Bj μ d (pc + 1) L' st I Q) : Bj μ d pc L (aJ x :: st) I Q := by
  subst hL
  exact ab_lstore_n hf hb kk
theorem b_lstore {x : Int} {L' : ML} (hf : fnd (mrC μ) pc = some (.lstore i, 2)) (hb : i + 1 < mrL μ) (hL : lset2 L i (aJ x) = L') (kk : Bj μ d (pc + 2) L' st I Q) : Bj μ d pc L (aJ x :: st) I Q := by
  subst hL
  exact ab_lstore hf hb kk
theorem b_iinc {n x : Int} {L' : ML} (hf : fnd (mrC μ) pc = some (.iinc i n, 3)) (hL : L[i]? = some (some (aI x))) (h1 : -2147483648 ≤ x + n) (h2 : x + n < 2147483648) (hL' : lset1 L i (aI (x + n)) = L') (kk : Bj μ d (pc + 3) L' st I Q) : Bj μ d pc L st I Q := by
  subst hL'
  refine ab_iinc hf hL ?_
  rw [w32_id h1 h2]
  exact kk
theorem b_dup {v : AV} (hf : fnd (mrC μ) pc = some (.dup, 1)) (hv : isJ (some (some v)) = false) (k : Bj μ d (pc + 1) L (v :: v :: st) I Q) : Bj μ d pc L (v :: st) I Q := ab_dup hf hv k
theorem b_pop {v : AV} (hf : fnd (mrC μ) pc = some (.pop, 1)) (hv : isJ (some (some v)) = false) (k : Bj μ d (pc + 1) L (st) I Q) : Bj μ d pc L (v :: st) I Q := ab_pop hf hv k
theorem b_dup2 {v w : AV} (hf : fnd (mrC μ) pc = some (.dup2, 1)) (hv : isJ (some (some v)) = false) (hw : isJ (some (some w)) = false) (k : Bj μ d (pc + 1) L (v :: w :: v :: w :: st) I Q) : Bj μ d pc L (v :: w :: st) I Q := ab_dup2 hf hv hw k
theorem b_goto {off : Int} {tgt : Nat} (hf : fnd (mrC μ) pc = some (.goto off, 3)) (ht : (pc : Int) + off = (tgt : Int)) (k : Bj μ d tgt L st I Q) : Bj μ d pc L st I Q := ab_goto hf ht k
theorem b_icmp_eq {x y off : Int} {tgt : Nat} (hf : fnd (mrC μ) pc = some (.if_icmp .eq off, 3)) (ht : (pc : Int) + off = (tgt : Int)) (kt : x = y → Bj μ d tgt L st I Q) (kf : ¬ x = y → Bj μ d (pc + 3) L st I Q) : Bj μ d pc L (aI y :: aI x :: st) I Q := ab_icmp_eq hf ht kt kf
theorem b_if_eq {x off : Int} {tgt : Nat} (hf : fnd (mrC μ) pc = some (.ifCond .eq off, 3)) (ht : (pc : Int) + off = (tgt : Int)) (kt : x = 0 → Bj μ d tgt L st I Q) (kf : ¬ x = 0 → Bj μ d (pc + 3) L st I Q) : Bj μ d pc L (aI x :: st) I Q := ab_if_eq hf ht kt kf
theorem b_icmp_ne {x y off : Int} {tgt : Nat} (hf : fnd (mrC μ) pc = some (.if_icmp .ne off, 3)) (ht : (pc : Int) + off = (tgt : Int)) (kt : ¬ x = y → Bj μ d tgt L st I Q) (kf : x = y → Bj μ d (pc + 3) L st I Q) : Bj μ d pc L (aI y :: aI x :: st) I Q := ab_icmp_ne hf ht kt kf
theorem b_if_ne {x off : Int} {tgt : Nat} (hf : fnd (mrC μ) pc = some (.ifCond .ne off, 3)) (ht : (pc : Int) + off = (tgt : Int)) (kt : ¬ x = 0 → Bj μ d tgt L st I Q) (kf : x = 0 → Bj μ d (pc + 3) L st I Q) : Bj μ d pc L (aI x :: st) I Q := ab_if_ne hf ht kt kf
theorem b_icmp_lt {x y off : Int} {tgt : Nat} (hf : fnd (mrC μ) pc = some (.if_icmp .lt off, 3)) (ht : (pc : Int) + off = (tgt : Int)) (kt : x < y → Bj μ d tgt L st I Q) (kf : ¬ x < y → Bj μ d (pc + 3) L st I Q) : Bj μ d pc L (aI y :: aI x :: st) I Q := ab_icmp_lt hf ht kt kf
theorem b_if_lt {x off : Int} {tgt : Nat} (hf : fnd (mrC μ) pc = some (.ifCond .lt off, 3)) (ht : (pc : Int) + off = (tgt : Int)) (kt : x < 0 → Bj μ d tgt L st I Q) (kf : ¬ x < 0 → Bj μ d (pc + 3) L st I Q) : Bj μ d pc L (aI x :: st) I Q := ab_if_lt hf ht kt kf
theorem b_icmp_ge {x y off : Int} {tgt : Nat} (hf : fnd (mrC μ) pc = some (.if_icmp .ge off, 3)) (ht : (pc : Int) + off = (tgt : Int)) (kt : y ≤ x → Bj μ d tgt L st I Q) (kf : ¬ y ≤ x → Bj μ d (pc + 3) L st I Q) : Bj μ d pc L (aI y :: aI x :: st) I Q := ab_icmp_ge hf ht kt kf
theorem b_if_ge {x off : Int} {tgt : Nat} (hf : fnd (mrC μ) pc = some (.ifCond .ge off, 3)) (ht : (pc : Int) + off = (tgt : Int)) (kt : 0 ≤ x → Bj μ d tgt L st I Q) (kf : ¬ 0 ≤ x → Bj μ d (pc + 3) L st I Q) : Bj μ d pc L (aI x :: st) I Q := ab_if_ge hf ht kt kf
theorem b_icmp_gt {x y off : Int} {tgt : Nat} (hf : fnd (mrC μ) pc = some (.if_icmp .gt off, 3)) (ht : (pc : Int) + off = (tgt : Int)) (kt : y < x → Bj μ d tgt L st I Q) (kf : ¬ y < x → Bj μ d (pc + 3) L st I Q) : Bj μ d pc L (aI y :: aI x :: st) I Q := ab_icmp_gt hf ht kt kf
theorem b_if_gt {x off : Int} {tgt : Nat} (hf : fnd (mrC μ) pc = some (.ifCond .gt off, 3)) (ht : (pc : Int) + off = (tgt : Int)) (kt : 0 < x → Bj μ d tgt L st I Q) (kf : ¬ 0 < x → Bj μ d (pc + 3) L st I Q) : Bj μ d pc L (aI x :: st) I Q := ab_if_gt hf ht kt kf
theorem b_icmp_le {x y off : Int} {tgt : Nat} (hf : fnd (mrC μ) pc = some (.if_icmp .le off, 3)) (ht : (pc : Int) + off = (tgt : Int)) (kt : x ≤ y → Bj μ d tgt L st I Q) (kf : ¬ x ≤ y → Bj μ d (pc + 3) L st I Q) : Bj μ d pc L (aI y :: aI x :: st) I Q := ab_icmp_le hf ht kt kf
theorem b_if_le {x off : Int} {tgt : Nat} (hf : fnd (mrC μ) pc = some (.ifCond .le off, 3)) (ht : (pc : Int) + off = (tgt : Int)) (kt : x ≤ 0 → Bj μ d tgt L st I Q) (kf : ¬ x ≤ 0 → Bj μ d (pc + 3) L st I Q) : Bj μ d pc L (aI x :: st) I Q := ab_if_le hf ht kt kf
theorem b_tswIn {dflt lo hi x off : Int} {offs : Array Int} {len tgt : Nat} (hf : fnd (mrC μ) pc = some (.tableswitch dflt lo hi offs, len)) (h1 : lo ≤ x) (h2 : x ≤ hi) (ho : offs[(x - lo).toNat]? = some off) (ht : (pc : Int) + off = (tgt : Int)) (k : Bj μ d tgt L st I Q) : Bj μ d pc L (aI x :: st) I Q := ab_tswIn hf h1 h2 ho ht k
theorem b_tswOut {dflt lo hi x : Int} {offs : Array Int} {len tgt : Nat} (hf : fnd (mrC μ) pc = some (.tableswitch dflt lo hi offs, len)) (h1 : x < lo ∨ hi < x) (ht : (pc : Int) + dflt = (tgt : Int)) (k : Bj μ d tgt L st I Q) : Bj μ d pc L (aI x :: st) I Q := ab_tswOut hf h1 ht k
theorem b_lsw {dflt x off : Int} {ps : Array (Int × Int)} {len tgt : Nat} (hf : fnd (mrC μ) pc = some (.lookupswitch dflt ps, len)) (hp : (ps.toList.zip (ps.toList.drop 1)).all (fun (a, next) => a.1 < next.1) = true) (ho : Op.lookupswitch.offset ps.toList dflt x = off) (ht : (pc : Int) + off = (tgt : Int)) (k : Bj μ d tgt L st I Q) : Bj μ d pc L (aI x :: st) I Q := ab_lsw hf hp ho ht k
theorem b_ok (k : okS 99 st → okL 99 L → okH (Hp I) → Bj μ d pc L st I Q) : Bj μ d pc L st I Q := ab_ok k
theorem b_eq {L' : ML} {st' : List AV} {I' : HI} (e1 : L = L') (e2 : st = st') (e3 : I = I') (k : Bj μ d pc L' st' I' Q) : Bj μ d pc L st I Q := by
  subst e1; subst e2; subst e3; exact k
theorem b_iret {x : Int} (hf : fnd (mrC μ) pc = some (.ireturn, 1)) (hr : mrT μ = some .int) (hq : Q (some (aI x)) I) : Bj μ d pc L [aI x] I Q := ab_iret hf hr ⟨I, rfl, hq⟩
theorem b_zret {x : Int} (hf : fnd (mrC μ) pc = some (.ireturn, 1)) (hr : mrT μ = some .boolean) (hx : x = 0 ∨ x = 1) (hq : Q (some (aI x)) I) : Bj μ d pc L [aI x] I Q := ab_zret hf hr hx ⟨I, rfl, hq⟩
theorem b_lret {x : Int} (hf : fnd (mrC μ) pc = some (.lreturn, 1)) (hr : mrT μ = some .long) (hq : Q (some (aJ x)) I) : Bj μ d pc L [aJ x] I Q := ab_lret hf hr ⟨I, rfl, hq⟩
theorem b_vret (hf : fnd (mrC μ) pc = some (.return_, 1)) (hr : mrT μ = none) (hq : Q none I) : Bj μ d pc L [] I Q := ab_vret hf hr ⟨I, rfl, hq⟩
theorem b_getI {q t n k : Nat} {fin : Bool} (hf : fnd (mrC μ) pc = some (.getfield i, 3)) (hfl : FL (mrO μ) i t k fin) (hq : SHt[q]? = some (t, n)) (hk : k < n) (hkd : kd t k = 0) (kk : Bj μ d (pc + 3) L (aI (I q k) :: st) I Q) : Bj μ d pc L (aR q :: st) I Q := ab_getI hf hfl hq hk hkd kk
theorem b_getJ {q t n k : Nat} {fin : Bool} (hf : fnd (mrC μ) pc = some (.getfield i, 3)) (hfl : FL (mrO μ) i t k fin) (hq : SHt[q]? = some (t, n)) (hk : k < n) (hkd : kd t k = 1) (kk : Bj μ d (pc + 3) L (aJ (I q k) :: st) I Q) : Bj μ d pc L (aR q :: st) I Q := ab_getJ hf hfl hq hk hkd kk
theorem b_getR {q t n k r : Nat} {fin : Bool} (hf : fnd (mrC μ) pc = some (.getfield i, 3)) (hfl : FL (mrO μ) i t k fin) (hq : SHt[q]? = some (t, n)) (hk : k < n) (hkd : kd t k = 2) (hr : RFn q k = some r) (kk : Bj μ d (pc + 3) L (aR r :: st) I Q) : Bj μ d pc L (aR q :: st) I Q := ab_getR hf hfl hq hk hkd hr kk
theorem b_putI {q t n k : Nat} {x : Int} (hf : fnd (mrC μ) pc = some (.putfield i, 3)) (hfl : FL (mrO μ) i t k false) (hq : SHt[q]? = some (t, n)) (hk : k < n) (hty : fty t k = .int) (kk : Bj μ d (pc + 3) L st (up I q k x) Q) : Bj μ d pc L (aI x :: aR q :: st) I Q := ab_putI hf hfl hq hk hty kk
theorem b_putZ {q t n k : Nat} {x : Int} (hf : fnd (mrC μ) pc = some (.putfield i, 3)) (hfl : FL (mrO μ) i t k false) (hq : SHt[q]? = some (t, n)) (hk : k < n) (hty : fty t k = .boolean) (hx : x = 0 ∨ x = 1) (kk : Bj μ d (pc + 3) L st (up I q k x) Q) : Bj μ d pc L (aI x :: aR q :: st) I Q := ab_putZ hf hfl hq hk hty hx kk
theorem b_putJ {q t n k : Nat} {x : Int} (hf : fnd (mrC μ) pc = some (.putfield i, 3)) (hfl : FL (mrO μ) i t k false) (hq : SHt[q]? = some (t, n)) (hk : k < n) (hty : fty t k = .long) (kk : Bj μ d (pc + 3) L st (up I q k x) Q) : Bj μ d pc L (aJ x :: aR q :: st) I Q := ab_putJ hf hfl hq hk hty kk
theorem b_iald {q n : Nat} {x : Int} (hf : fnd (mrC μ) pc = some (.iaload, 1)) (hq : SHt[q]? = some (100, n)) (h0 : 0 ≤ x) (h1 : x < n) (kk : Bj μ d (pc + 1) L (aI (I q x.toNat) :: st) I Q) : Bj μ d pc L (aI x :: aR q :: st) I Q := ab_iald hf hq h0 h1 kk
theorem b_zald {q n : Nat} {x : Int} (hf : fnd (mrC μ) pc = some (.baload, 1)) (hq : SHt[q]? = some (102, n)) (h0 : 0 ≤ x) (h1 : x < n) (kk : Bj μ d (pc + 1) L (aI (I q x.toNat) :: st) I Q) : Bj μ d pc L (aI x :: aR q :: st) I Q := ab_zald hf hq h0 h1 kk
theorem b_lald {q n : Nat} {x : Int} (hf : fnd (mrC μ) pc = some (.laload, 1)) (hq : SHt[q]? = some (101, n)) (h0 : 0 ≤ x) (h1 : x < n) (kk : Bj μ d (pc + 1) L (aJ (I q x.toNat) :: st) I Q) : Bj μ d pc L (aI x :: aR q :: st) I Q := ab_lald hf hq h0 h1 kk
theorem b_iast {q n : Nat} {x v : Int} (hf : fnd (mrC μ) pc = some (.iastore, 1)) (hq : SHt[q]? = some (100, n)) (h0 : 0 ≤ x) (h1 : x < n) (kk : Bj μ d (pc + 1) L st (up I q x.toNat v) Q) : Bj μ d pc L (aI v :: aI x :: aR q :: st) I Q := ab_iast hf hq h0 h1 kk
theorem b_zast {q n : Nat} {x v : Int} (hf : fnd (mrC μ) pc = some (.bastore, 1)) (hq : SHt[q]? = some (102, n)) (h0 : 0 ≤ x) (h1 : x < n) (hv : v = 0 ∨ v = 1) (kk : Bj μ d (pc + 1) L st (up I q x.toNat v) Q) : Bj μ d pc L (aI v :: aI x :: aR q :: st) I Q := ab_zast hf hq h0 h1 hv kk
theorem b_last {q n : Nat} {x v : Int} (hf : fnd (mrC μ) pc = some (.lastore, 1)) (hq : SHt[q]? = some (101, n)) (h0 : 0 ≤ x) (h1 : x < n) (kk : Bj μ d (pc + 1) L st (up I q x.toNat v) Q) : Bj μ d pc L (aJ v :: aI x :: aR q :: st) I Q := ab_last hf hq h0 h1 kk
theorem b_gets {j : Nat} (hf : fnd (mrC μ) pc = some (.getstatic i, 3)) (hj : j < 7) (hlk : ∃ k : Nat, lw_tbl[k]? = some (Cond.fieldLinkNest (rx (mrO μ)) i "WrongTide" (stn j) "[I" "WrongTide")) (kk : Bj μ d (pc + 3) L (aS j :: st) I Q) : Bj μ d pc L st I Q := ab_gets hf hj hlk kk
theorem b_sald {j : Nat} {x : Int} (hf : fnd (mrC μ) pc = some (.iaload, 1)) (hj : j < 7) (h0 : 0 ≤ x) (h1 : x < ((stl j).length : Nat)) (hin : in32 ((stl j).getD x.toNat 0)) (kk : Bj μ d (pc + 1) L (aI ((stl j).getD x.toNat 0) :: st) I Q) : Bj μ d pc L (aI x :: aS j :: st) I Q := ab_sald hf hj h0 h1 hin kk
theorem b_copy {q0 q1 n0' n1 : Nat} {sp dp n : Int} (hf : fnd (mrC μ) pc = some (.invokestatic i, 3)) (hlk : Cond.methodLink (rx (mrO μ)) i arraycopyName ∈ Wg) (hd : 1 ≤ d) (hq0 : SHt[q0]? = some (100, n0')) (hq1 : SHt[q1]? = some (100, n1)) (h1 : 0 ≤ sp) (h2 : 0 ≤ dp) (h3 : 0 ≤ n) (h4 : sp + n ≤ n0') (h5 : dp + n ≤ n1) (kk : Bj μ d (pc + 3) L [] (cpy I q0 q1 sp.toNat dp.toNat n.toNat) Q) : Bj μ d pc L [aI n, aI dp, aR q1, aI sp, aR q0] I Q := ab_copy hf hlk hd hq0 hq1 h1 h2 h3 h4 h5 kk
theorem b_mmax {x y : Int} (hf : fnd (mrC μ) pc = some (.invokestatic i, 3)) (hlk : Cond.methodLink (rx (mrO μ)) i Lib.Math.max.name ∈ Wg) (hd : 1 ≤ d) (hw : wtS st ≤ 8) (k : Bj μ d (pc + 3) L (aI (max x y) :: st) I Q) : Bj μ d pc L (aI y :: aI x :: st) I Q := ab_mmax hf hlk hd hw k
theorem b_mmin {x y : Int} (hf : fnd (mrC μ) pc = some (.invokestatic i, 3)) (hlk : Cond.methodLink (rx (mrO μ)) i Lib.Math.min.name ∈ Wg) (hd : 1 ≤ d) (hw : wtS st ≤ 8) (k : Bj μ d (pc + 3) L (aI (min x y) :: st) I Q) : Bj μ d pc L (aI y :: aI x :: st) I Q := ab_mmin hf hlk hd hw k
theorem b_mabs {x z : Int} (hf : fnd (mrC μ) pc = some (.invokestatic i, 3)) (hlk : Cond.methodLink (rx (mrO μ)) i Lib.Math.abs.name ∈ Wg) (hd : 1 ≤ d) (hw : wtS st ≤ 8) (hz : (0 ≤ x ∧ z = x) ∨ (x < 0 ∧ -2147483648 < x ∧ z = -x)) (k : Bj μ d (pc + 3) L (aI z :: st) I Q) : Bj μ d pc L (aI x :: st) I Q := ab_mabs hf hlk hd hw hz k
theorem b_callS1i {v1 : AV} (hf : fnd (mrC μ) pc = some (.invokestatic i, 3)) (hlk : Cond.methodLink (rx (mrO μ)) i (mrY ν) ∈ Wg) (hce : CS ν 1) (hd : d' + 1 ≤ d) (hw : wtS rest ≤ 8) (k : Rj ν d' [v1] I (fun r I' => ∃ x, r = some (aI x) ∧ Bj μ d (pc + 3) L (aI x :: rest) I' Q)) : Bj μ d pc L (v1 :: rest) I Q := by
  refine ab_callS (as := [v1]) hf hlk hce k hd (Nat.le_refl 0) (Nat.le_refl 0) rfl rfl hw ?_
  rintro r h' ⟨I', rfl, hq⟩
  obtain ⟨x, rfl, hk⟩ := hq
  exact hk
theorem b_callS1j {v1 : AV} (hf : fnd (mrC μ) pc = some (.invokestatic i, 3)) (hlk : Cond.methodLink (rx (mrO μ)) i (mrY ν) ∈ Wg) (hce : CS ν 1) (hd : d' + 1 ≤ d) (hw : wtS rest ≤ 8) (k : Rj ν d' [v1] I (fun r I' => ∃ x, r = some (aJ x) ∧ Bj μ d (pc + 3) L (aJ x :: rest) I' Q)) : Bj μ d pc L (v1 :: rest) I Q := by
  refine ab_callS (as := [v1]) hf hlk hce k hd (Nat.le_refl 0) (Nat.le_refl 0) rfl rfl hw ?_
  rintro r h' ⟨I', rfl, hq⟩
  obtain ⟨x, rfl, hk⟩ := hq
  exact hk
theorem b_callS2i {v1 v2 : AV} (hf : fnd (mrC μ) pc = some (.invokestatic i, 3)) (hlk : Cond.methodLink (rx (mrO μ)) i (mrY ν) ∈ Wg) (hce : CS ν 2) (hd : d' + 1 ≤ d) (hw : wtS rest ≤ 8) (k : Rj ν d' [v1, v2] I (fun r I' => ∃ x, r = some (aI x) ∧ Bj μ d (pc + 3) L (aI x :: rest) I' Q)) : Bj μ d pc L (v2 :: v1 :: rest) I Q := by
  refine ab_callS (as := [v1, v2]) hf hlk hce k hd (Nat.le_refl 0) (Nat.le_refl 0) rfl rfl hw ?_
  rintro r h' ⟨I', rfl, hq⟩
  obtain ⟨x, rfl, hk⟩ := hq
  exact hk
theorem b_callS2j {v1 v2 : AV} (hf : fnd (mrC μ) pc = some (.invokestatic i, 3)) (hlk : Cond.methodLink (rx (mrO μ)) i (mrY ν) ∈ Wg) (hce : CS ν 2) (hd : d' + 1 ≤ d) (hw : wtS rest ≤ 8) (k : Rj ν d' [v1, v2] I (fun r I' => ∃ x, r = some (aJ x) ∧ Bj μ d (pc + 3) L (aJ x :: rest) I' Q)) : Bj μ d pc L (v2 :: v1 :: rest) I Q := by
  refine ab_callS (as := [v1, v2]) hf hlk hce k hd (Nat.le_refl 0) (Nat.le_refl 0) rfl rfl hw ?_
  rintro r h' ⟨I', rfl, hq⟩
  obtain ⟨x, rfl, hk⟩ := hq
  exact hk
theorem b_callS3i {v1 v2 v3 : AV} (hf : fnd (mrC μ) pc = some (.invokestatic i, 3)) (hlk : Cond.methodLink (rx (mrO μ)) i (mrY ν) ∈ Wg) (hce : CS ν 3) (hd : d' + 1 ≤ d) (hw : wtS rest ≤ 8) (k : Rj ν d' [v1, v2, v3] I (fun r I' => ∃ x, r = some (aI x) ∧ Bj μ d (pc + 3) L (aI x :: rest) I' Q)) : Bj μ d pc L (v3 :: v2 :: v1 :: rest) I Q := by
  refine ab_callS (as := [v1, v2, v3]) hf hlk hce k hd (Nat.le_refl 0) (Nat.le_refl 0) rfl rfl hw ?_
  rintro r h' ⟨I', rfl, hq⟩
  obtain ⟨x, rfl, hk⟩ := hq
  exact hk
theorem b_callS3j {v1 v2 v3 : AV} (hf : fnd (mrC μ) pc = some (.invokestatic i, 3)) (hlk : Cond.methodLink (rx (mrO μ)) i (mrY ν) ∈ Wg) (hce : CS ν 3) (hd : d' + 1 ≤ d) (hw : wtS rest ≤ 8) (k : Rj ν d' [v1, v2, v3] I (fun r I' => ∃ x, r = some (aJ x) ∧ Bj μ d (pc + 3) L (aJ x :: rest) I' Q)) : Bj μ d pc L (v3 :: v2 :: v1 :: rest) I Q := by
  refine ab_callS (as := [v1, v2, v3]) hf hlk hce k hd (Nat.le_refl 0) (Nat.le_refl 0) rfl rfl hw ?_
  rintro r h' ⟨I', rfl, hq⟩
  obtain ⟨x, rfl, hk⟩ := hq
  exact hk
theorem b_callSN1i {host : String} {v1 : AV} (hf : fnd (mrC μ) pc = some (.invokestatic i, 3)) (hlk : ∃ k : Nat, lw_tbl[k]? = some (Cond.methodLinkNest (rx (mrO μ)) i (mrY ν) host)) (hce : CS ν 1) (hd : d' + 1 ≤ d) (hw : wtS rest ≤ 8) (k : Rj ν d' [v1] I (fun r I' => ∃ x, r = some (aI x) ∧ Bj μ d (pc + 3) L (aI x :: rest) I' Q)) : Bj μ d pc L (v1 :: rest) I Q := by
  refine ab_callSN (as := [v1]) hf hlk hce k hd (Nat.le_refl 0) (Nat.le_refl 0) rfl rfl hw ?_
  rintro r h' ⟨I', rfl, hq⟩
  obtain ⟨x, rfl, hk⟩ := hq
  exact hk
theorem b_callSN3i {host : String} {v1 v2 v3 : AV} (hf : fnd (mrC μ) pc = some (.invokestatic i, 3)) (hlk : ∃ k : Nat, lw_tbl[k]? = some (Cond.methodLinkNest (rx (mrO μ)) i (mrY ν) host)) (hce : CS ν 3) (hd : d' + 1 ≤ d) (hw : wtS rest ≤ 8) (k : Rj ν d' [v1, v2, v3] I (fun r I' => ∃ x, r = some (aI x) ∧ Bj μ d (pc + 3) L (aI x :: rest) I' Q)) : Bj μ d pc L (v3 :: v2 :: v1 :: rest) I Q := by
  refine ab_callSN (as := [v1, v2, v3]) hf hlk hce k hd (Nat.le_refl 0) (Nat.le_refl 0) rfl rfl hw ?_
  rintro r h' ⟨I', rfl, hq⟩
  obtain ⟨x, rfl, hk⟩ := hq
  exact hk
theorem b_callV0i {q t nn : Nat} (hf : fnd (mrC μ) pc = some (.invokevirtual i, 3)) (hlk : Cond.methodLink (rx (mrO μ)) i (mrY ν) ∈ Wg) (hce : CV ν 0) (hd : d' + 1 ≤ d) (hq : SHt[q]? = some (t, nn)) (ht : t < 13) (hcl : (clT t).1 = (mrY ν).cls) (hw : wtS rest ≤ 8) (k : Rj ν d' (aR q :: []) I (fun r I' => ∃ x, r = some (aI x) ∧ Bj μ d (pc + 3) L (aI x :: rest) I' Q)) : Bj μ d pc L (aR q :: rest) I Q := by
  refine ab_callV (as := []) hf hlk hce k hd (Nat.le_refl 0) (Nat.le_refl 0) hq ht hcl rfl rfl hw ?_
  rintro r h' ⟨I', rfl, hq⟩
  obtain ⟨x, rfl, hk⟩ := hq
  exact hk
theorem b_callV0j {q t nn : Nat} (hf : fnd (mrC μ) pc = some (.invokevirtual i, 3)) (hlk : Cond.methodLink (rx (mrO μ)) i (mrY ν) ∈ Wg) (hce : CV ν 0) (hd : d' + 1 ≤ d) (hq : SHt[q]? = some (t, nn)) (ht : t < 13) (hcl : (clT t).1 = (mrY ν).cls) (hw : wtS rest ≤ 8) (k : Rj ν d' (aR q :: []) I (fun r I' => ∃ x, r = some (aJ x) ∧ Bj μ d (pc + 3) L (aJ x :: rest) I' Q)) : Bj μ d pc L (aR q :: rest) I Q := by
  refine ab_callV (as := []) hf hlk hce k hd (Nat.le_refl 0) (Nat.le_refl 0) hq ht hcl rfl rfl hw ?_
  rintro r h' ⟨I', rfl, hq⟩
  obtain ⟨x, rfl, hk⟩ := hq
  exact hk
theorem b_callV0v {q t nn : Nat} (hf : fnd (mrC μ) pc = some (.invokevirtual i, 3)) (hlk : Cond.methodLink (rx (mrO μ)) i (mrY ν) ∈ Wg) (hce : CV ν 0) (hd : d' + 1 ≤ d) (hq : SHt[q]? = some (t, nn)) (ht : t < 13) (hcl : (clT t).1 = (mrY ν).cls) (hw : wtS rest ≤ 8) (k : Rj ν d' (aR q :: []) I (fun r I' => r = none ∧ Bj μ d (pc + 3) L rest I' Q)) : Bj μ d pc L (aR q :: rest) I Q := by
  refine ab_callV (as := []) hf hlk hce k hd (Nat.le_refl 0) (Nat.le_refl 0) hq ht hcl rfl rfl hw ?_
  rintro r h' ⟨I', rfl, hq⟩
  obtain ⟨rfl, hk⟩ := hq
  exact hk
theorem b_callV1i {q t nn : Nat} {v1 : AV} (hf : fnd (mrC μ) pc = some (.invokevirtual i, 3)) (hlk : Cond.methodLink (rx (mrO μ)) i (mrY ν) ∈ Wg) (hce : CV ν 1) (hd : d' + 1 ≤ d) (hq : SHt[q]? = some (t, nn)) (ht : t < 13) (hcl : (clT t).1 = (mrY ν).cls) (hw : wtS rest ≤ 8) (k : Rj ν d' (aR q :: [v1]) I (fun r I' => ∃ x, r = some (aI x) ∧ Bj μ d (pc + 3) L (aI x :: rest) I' Q)) : Bj μ d pc L (v1 :: aR q :: rest) I Q := by
  refine ab_callV (as := [v1]) hf hlk hce k hd (Nat.le_refl 0) (Nat.le_refl 0) hq ht hcl rfl rfl hw ?_
  rintro r h' ⟨I', rfl, hq⟩
  obtain ⟨x, rfl, hk⟩ := hq
  exact hk
theorem b_callV1j {q t nn : Nat} {v1 : AV} (hf : fnd (mrC μ) pc = some (.invokevirtual i, 3)) (hlk : Cond.methodLink (rx (mrO μ)) i (mrY ν) ∈ Wg) (hce : CV ν 1) (hd : d' + 1 ≤ d) (hq : SHt[q]? = some (t, nn)) (ht : t < 13) (hcl : (clT t).1 = (mrY ν).cls) (hw : wtS rest ≤ 8) (k : Rj ν d' (aR q :: [v1]) I (fun r I' => ∃ x, r = some (aJ x) ∧ Bj μ d (pc + 3) L (aJ x :: rest) I' Q)) : Bj μ d pc L (v1 :: aR q :: rest) I Q := by
  refine ab_callV (as := [v1]) hf hlk hce k hd (Nat.le_refl 0) (Nat.le_refl 0) hq ht hcl rfl rfl hw ?_
  rintro r h' ⟨I', rfl, hq⟩
  obtain ⟨x, rfl, hk⟩ := hq
  exact hk
theorem b_callV1v {q t nn : Nat} {v1 : AV} (hf : fnd (mrC μ) pc = some (.invokevirtual i, 3)) (hlk : Cond.methodLink (rx (mrO μ)) i (mrY ν) ∈ Wg) (hce : CV ν 1) (hd : d' + 1 ≤ d) (hq : SHt[q]? = some (t, nn)) (ht : t < 13) (hcl : (clT t).1 = (mrY ν).cls) (hw : wtS rest ≤ 8) (k : Rj ν d' (aR q :: [v1]) I (fun r I' => r = none ∧ Bj μ d (pc + 3) L rest I' Q)) : Bj μ d pc L (v1 :: aR q :: rest) I Q := by
  refine ab_callV (as := [v1]) hf hlk hce k hd (Nat.le_refl 0) (Nat.le_refl 0) hq ht hcl rfl rfl hw ?_
  rintro r h' ⟨I', rfl, hq⟩
  obtain ⟨rfl, hk⟩ := hq
  exact hk
theorem b_callV2i {q t nn : Nat} {v1 v2 : AV} (hf : fnd (mrC μ) pc = some (.invokevirtual i, 3)) (hlk : Cond.methodLink (rx (mrO μ)) i (mrY ν) ∈ Wg) (hce : CV ν 2) (hd : d' + 1 ≤ d) (hq : SHt[q]? = some (t, nn)) (ht : t < 13) (hcl : (clT t).1 = (mrY ν).cls) (hw : wtS rest ≤ 8) (k : Rj ν d' (aR q :: [v1, v2]) I (fun r I' => ∃ x, r = some (aI x) ∧ Bj μ d (pc + 3) L (aI x :: rest) I' Q)) : Bj μ d pc L (v2 :: v1 :: aR q :: rest) I Q := by
  refine ab_callV (as := [v1, v2]) hf hlk hce k hd (Nat.le_refl 0) (Nat.le_refl 0) hq ht hcl rfl rfl hw ?_
  rintro r h' ⟨I', rfl, hq⟩
  obtain ⟨x, rfl, hk⟩ := hq
  exact hk
theorem b_callV2v {q t nn : Nat} {v1 v2 : AV} (hf : fnd (mrC μ) pc = some (.invokevirtual i, 3)) (hlk : Cond.methodLink (rx (mrO μ)) i (mrY ν) ∈ Wg) (hce : CV ν 2) (hd : d' + 1 ≤ d) (hq : SHt[q]? = some (t, nn)) (ht : t < 13) (hcl : (clT t).1 = (mrY ν).cls) (hw : wtS rest ≤ 8) (k : Rj ν d' (aR q :: [v1, v2]) I (fun r I' => r = none ∧ Bj μ d (pc + 3) L rest I' Q)) : Bj μ d pc L (v2 :: v1 :: aR q :: rest) I Q := by
  refine ab_callV (as := [v1, v2]) hf hlk hce k hd (Nat.le_refl 0) (Nat.le_refl 0) hq ht hcl rfl rfl hw ?_
  rintro r h' ⟨I', rfl, hq⟩
  obtain ⟨rfl, hk⟩ := hq
  exact hk
theorem b_callV3i {q t nn : Nat} {v1 v2 v3 : AV} (hf : fnd (mrC μ) pc = some (.invokevirtual i, 3)) (hlk : Cond.methodLink (rx (mrO μ)) i (mrY ν) ∈ Wg) (hce : CV ν 3) (hd : d' + 1 ≤ d) (hq : SHt[q]? = some (t, nn)) (ht : t < 13) (hcl : (clT t).1 = (mrY ν).cls) (hw : wtS rest ≤ 8) (k : Rj ν d' (aR q :: [v1, v2, v3]) I (fun r I' => ∃ x, r = some (aI x) ∧ Bj μ d (pc + 3) L (aI x :: rest) I' Q)) : Bj μ d pc L (v3 :: v2 :: v1 :: aR q :: rest) I Q := by
  refine ab_callV (as := [v1, v2, v3]) hf hlk hce k hd (Nat.le_refl 0) (Nat.le_refl 0) hq ht hcl rfl rfl hw ?_
  rintro r h' ⟨I', rfl, hq⟩
  obtain ⟨x, rfl, hk⟩ := hq
  exact hk
theorem b_callV3j {q t nn : Nat} {v1 v2 v3 : AV} (hf : fnd (mrC μ) pc = some (.invokevirtual i, 3)) (hlk : Cond.methodLink (rx (mrO μ)) i (mrY ν) ∈ Wg) (hce : CV ν 3) (hd : d' + 1 ≤ d) (hq : SHt[q]? = some (t, nn)) (ht : t < 13) (hcl : (clT t).1 = (mrY ν).cls) (hw : wtS rest ≤ 8) (k : Rj ν d' (aR q :: [v1, v2, v3]) I (fun r I' => ∃ x, r = some (aJ x) ∧ Bj μ d (pc + 3) L (aJ x :: rest) I' Q)) : Bj μ d pc L (v3 :: v2 :: v1 :: aR q :: rest) I Q := by
  refine ab_callV (as := [v1, v2, v3]) hf hlk hce k hd (Nat.le_refl 0) (Nat.le_refl 0) hq ht hcl rfl rfl hw ?_
  rintro r h' ⟨I', rfl, hq⟩
  obtain ⟨x, rfl, hk⟩ := hq
  exact hk
theorem b_callV3v {q t nn : Nat} {v1 v2 v3 : AV} (hf : fnd (mrC μ) pc = some (.invokevirtual i, 3)) (hlk : Cond.methodLink (rx (mrO μ)) i (mrY ν) ∈ Wg) (hce : CV ν 3) (hd : d' + 1 ≤ d) (hq : SHt[q]? = some (t, nn)) (ht : t < 13) (hcl : (clT t).1 = (mrY ν).cls) (hw : wtS rest ≤ 8) (k : Rj ν d' (aR q :: [v1, v2, v3]) I (fun r I' => r = none ∧ Bj μ d (pc + 3) L rest I' Q)) : Bj μ d pc L (v3 :: v2 :: v1 :: aR q :: rest) I Q := by
  refine ab_callV (as := [v1, v2, v3]) hf hlk hce k hd (Nat.le_refl 0) (Nat.le_refl 0) hq ht hcl rfl rfl hw ?_
  rintro r h' ⟨I', rfl, hq⟩
  obtain ⟨rfl, hk⟩ := hq
  exact hk
theorem b_callV4i {q t nn : Nat} {v1 v2 v3 v4 : AV} (hf : fnd (mrC μ) pc = some (.invokevirtual i, 3)) (hlk : Cond.methodLink (rx (mrO μ)) i (mrY ν) ∈ Wg) (hce : CV ν 4) (hd : d' + 1 ≤ d) (hq : SHt[q]? = some (t, nn)) (ht : t < 13) (hcl : (clT t).1 = (mrY ν).cls) (hw : wtS rest ≤ 8) (k : Rj ν d' (aR q :: [v1, v2, v3, v4]) I (fun r I' => ∃ x, r = some (aI x) ∧ Bj μ d (pc + 3) L (aI x :: rest) I' Q)) : Bj μ d pc L (v4 :: v3 :: v2 :: v1 :: aR q :: rest) I Q := by
  refine ab_callV (as := [v1, v2, v3, v4]) hf hlk hce k hd (Nat.le_refl 0) (Nat.le_refl 0) hq ht hcl rfl rfl hw ?_
  rintro r h' ⟨I', rfl, hq⟩
  obtain ⟨x, rfl, hk⟩ := hq
  exact hk
theorem b_callV4v {q t nn : Nat} {v1 v2 v3 v4 : AV} (hf : fnd (mrC μ) pc = some (.invokevirtual i, 3)) (hlk : Cond.methodLink (rx (mrO μ)) i (mrY ν) ∈ Wg) (hce : CV ν 4) (hd : d' + 1 ≤ d) (hq : SHt[q]? = some (t, nn)) (ht : t < 13) (hcl : (clT t).1 = (mrY ν).cls) (hw : wtS rest ≤ 8) (k : Rj ν d' (aR q :: [v1, v2, v3, v4]) I (fun r I' => r = none ∧ Bj μ d (pc + 3) L rest I' Q)) : Bj μ d pc L (v4 :: v3 :: v2 :: v1 :: aR q :: rest) I Q := by
  refine ab_callV (as := [v1, v2, v3, v4]) hf hlk hce k hd (Nat.le_refl 0) (Nat.le_refl 0) hq ht hcl rfl rfl hw ?_
  rintro r h' ⟨I', rfl, hq⟩
  obtain ⟨rfl, hk⟩ := hq
  exact hk
theorem b_istoreX_n {k : Fin 4} {x : Int} {F : Int → ML} (hf : fnd (mrC μ) pc = some (.istore_n k, 1)) (hb : (k : Nat) < mrL μ) (hL : ∀ z, lset1 L (k : Nat) (aI z) = F z) (kk : ∀ z, z = x → Bj μ d (pc + 1) (F z) st I Q) : Bj μ d pc L (aI x :: st) I Q := b_istore_n hf hb (hL x) (kk x rfl)
theorem b_istoreX {x : Int} {F : Int → ML} (hf : fnd (mrC μ) pc = some (.istore i, 2)) (hb : i < mrL μ) (hL : ∀ z, lset1 L i (aI z) = F z) (kk : ∀ z, z = x → Bj μ d (pc + 2) (F z) st I Q) : Bj μ d pc L (aI x :: st) I Q := b_istore hf hb (hL x) (kk x rfl)
theorem b_lstoreX_n {k : Fin 4} {x : Int} {F : Int → ML} (hf : fnd (mrC μ) pc = some (.lstore_n k, 1)) (hb : (k : Nat) + 1 < mrL μ) (hL : ∀ z, lset2 L (k : Nat) (aJ z) = F z) (kk : ∀ z, z = x → Bj μ d (pc + 1) (F z) st I Q) : Bj μ d pc L (aJ x :: st) I Q := b_lstore_n hf hb (hL x) (kk x rfl)
theorem b_lstoreX {x : Int} {F : Int → ML} (hf : fnd (mrC μ) pc = some (.lstore i, 2)) (hb : i + 1 < mrL μ) (hL : ∀ z, lset2 L i (aJ z) = F z) (kk : ∀ z, z = x → Bj μ d (pc + 2) (F z) st I Q) : Bj μ d pc L (aJ x :: st) I Q := b_lstore hf hb (hL x) (kk x rfl)
theorem b_iincX {n x : Int} {F : Int → ML} (hf : fnd (mrC μ) pc = some (.iinc i n, 3)) (hL : L[i]? = some (some (aI x))) (h1 : -2147483648 ≤ x + n) (h2 : x + n < 2147483648) (hL' : ∀ z, lset1 L i (aI z) = F z) (kk : ∀ z, z = x + n → Bj μ d (pc + 3) (F z) st I Q) : Bj μ d pc L st I Q := b_iinc hf hL h1 h2 (hL' _) (kk _ rfl)
end BJ
