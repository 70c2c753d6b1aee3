/-! ===== the making of the objects ===== -/
def HS (n : Nat) (R : Nat → Nat → Option Nat) (I : HI) : AH := (SHt.take n, R, I)
/-- from n on there is nothing yet -/
def Zr (n : Nat) (R : Nat → Nat → Option Nat) (I : HI) : Prop := ∀ p k, n ≤ p → R p k = none ∧ I p k = 0
section ZRS
variable {n m q k : Nat} {R : Nat → Nat → Option Nat} {I : HI}
theorem Zr.mono (h : Zr n R I) (hm : n ≤ m) : Zr m R I := fun p j hp => h p j (by omega)
theorem Zr.r {v : Nat} (h : Zr n R I) (hq : q < n) : Zr n (upr R q k v) I := fun p j hp => ⟨by rw [upr_n (by omega)]; exact (h p j hp).1, (h p j hp).2⟩
theorem Zr.i {v : Int} (h : Zr n R I) (hq : q < n) : Zr n R (up I q k v) := fun p j hp => ⟨(h p j hp).1, by rw [up_n (by omega)]; exact (h p j hp).2⟩
theorem Zr.row {g : Nat → Int} (h : Zr n R I) (hq : q < n) : Zr n R (row I q g) := fun p j hp => ⟨(h p j hp).1, by rw [row_cell (by omega)]; exact (h p j hp).2⟩
theorem Zr.fil {g : Nat → Int} (h : Zr n R I) (hq : q < n) : Zr n R (fil I q m g) := fun p j hp => ⟨(h p j hp).1, by rw [fil_ap, if_neg (by omega)]; exact (h p j hp).2⟩
theorem HS_len (hn : n ≤ 99) : (HS n R I).1.length = n := by
  show (SHt.take n).length = n
  rw [List.length_take, show SHt.length = 99 from rfl]
  omega
theorem mkc_HS {t c : Nat} (hz : Zr n R I) (hs : SHt[n]? = some (t, c)) : mkc (HS n R I) t c = HS (n + 1) R I := by
  have hl : n < SHt.length := (List.getElem?_eq_some_iff.mp hs).1
  have h99 : SHt.length = 99 := rfl
  have hlen : (HS n R I).1.length = n := HS_len (by omega)
  unfold mkc
  rw [hlen]
  have e1 : SHt.take n ++ [(t, c)] = SHt.take (n + 1) := by rw [List.take_add_one, hs]; rfl
  have e2 : (fun p j => if p = n then none else R p j) = R := by
    funext p j
    split
    · rename_i e
      rw [e, (hz n j (Nat.le_refl n)).1]
    · rfl
  have e3 : (fun p j => if p = n then 0 else I p j) = I := by
    funext p j
    split
    · rename_i e
      rw [e, (hz n j (Nat.le_refl n)).2]
    · rfl
  show (SHt.take n ++ [(t, c)], (fun p j => if p = n then none else R p j), (fun p j => if p = n then 0 else I p j)) = _
  rw [e1, e2, e3]
  rfl
end ZRS
section ABX
variable {μ ν : MR} {d kc ks kc' ks' pc i n : Nat} {L : ML} {st st' : List AV} {R : Nat → Nat → Option Nat} {I : HI} {h : AH} {Q : Option AV → AH → Prop}
theorem ab_n (h1 : kc = kc') (h2 : ks = ks') (h3 : st = st') (k : Ab μ d kc' ks' pc L st' h Q) : Ab μ d kc ks pc L st h Q := by
  subst h1 h2 h3
  exact k
theorem ab_nA {at9 : ArrayType} {t m : Nat} {x : Int} (hf : fnd (mrC μ) pc = some (.newarray at9, 2)) (ht : (t = 100 ∧ newarray.typeOf at9 = .int) ∨ (t = 101 ∧ newarray.typeOf at9 = .long) ∨ (t = 102 ∧ newarray.typeOf at9 = .boolean)) (hx : x = (m : Int)) (hm : m ≤ 60000) (hs : SHt[n]? = some (t, m)) (hz : Zr n R I) (hk1 : kc = kc' + 1) (hk2 : ks = ks' + m) (k : Ab μ d kc' ks' (pc + 2) L (aR n :: st) (HS (n + 1) R I) Q) : Ab μ d kc ks pc L (aI x :: st) (HS n R I) Q := by
  subst hx hk1 hk2
  have hl : n < SHt.length := (List.getElem?_eq_some_iff.mp hs).1
  have h99 : SHt.length = 99 := rfl
  have hlen : (HS n R I).1.length = n := HS_len (by omega)
  refine ab_newa (t := t) hf ht (by omega) (by omega) (by omega) (by rw [Int.toNat_natCast]; omega) ?_
  rw [Int.toNat_natCast, mkc_HS hz hs, hlen, Nat.add_sub_cancel, Nat.add_sub_cancel]
  exact k
theorem ab_nO {t m : Nat} (hf : fnd (mrC μ) pc = some (.new i, 3)) (ht : t < 13) (hnn : m = (clT t).2.2) (hlk : Cond.classLink (rx (mrO μ)) i (clT t).1 ∈ Wg) (hins : Cond.instantiable (clT t).1 m ∈ Wg) (hini : Cond.initialized (clT t).1 ∈ Wg) (hty : ∀ k, k < m → fty t k = .int ∨ fty t k = .boolean ∨ fty t k = .long ∨ refKind (fty t k) = true) (hs : SHt[n]? = some (t, m)) (hz : Zr n R I) (hk1 : kc = kc' + 1) (hk2 : ks = ks' + m) (k : Ab μ d kc' ks' (pc + 3) L (aR n :: st) (HS (n + 1) R I) Q) : Ab μ d kc ks pc L st (HS n R I) Q := by
  subst hk1 hk2
  have hl : n < SHt.length := (List.getElem?_eq_some_iff.mp hs).1
  have h99 : SHt.length = 99 := rfl
  have hlen : (HS n R I).1.length = n := HS_len (by omega)
  refine ab_new (t := t) (n := m) hf ht hnn hlk hins hini hty (by omega) (by omega) ?_
  rw [mkc_HS hz hs, hlen, Nat.add_sub_cancel, Nat.add_sub_cancel]
  exact k
theorem ab_pF {q t c k r : Nat} (hf : fnd (mrC μ) pc = some (.putfield i, 3)) (hfl : FL (mrO μ) i t k true) (hq : (SHt.take n)[q]? = some (t, c)) (hk : k < c) (hin : (mrY μ).name = "<init>") (hdc : ((clT t).2.1 k).1 = rx (mrO μ)) (hty : refKind (fty t k) = true) (kk : Ab μ d kc ks (pc + 3) L st (HS n (upr R q k r) I) Q) : Ab μ d kc ks pc L (aR r :: aR q :: st) (HS n R I) Q := ab_putF (h := HS n R I) hf hfl hq hk hin hdc hty kk
theorem ab_pI {q t c k : Nat} {x : Int} (hf : fnd (mrC μ) pc = some (.putfield i, 3)) (hfl : FL (mrO μ) i t k false) (hq : (SHt.take n)[q]? = some (t, c)) (hk : k < c) (hty : fty t k = .int) (kk : Ab μ d kc ks (pc + 3) L st (HS n R (up I q k x)) Q) : Ab μ d kc ks pc L (aI x :: aR q :: st) (HS n R I) Q := ab_putI (h := HS n R I) hf hfl hq hk hty kk
theorem ab_pZ {q t c k : Nat} {x : Int} (hf : fnd (mrC μ) pc = some (.putfield i, 3)) (hfl : FL (mrO μ) i t k false) (hq : (SHt.take n)[q]? = some (t, c)) (hk : k < c) (hty : fty t k = .boolean) (hx : x = 0 ∨ x = 1) (kk : Ab μ d kc ks (pc + 3) L st (HS n R (up I q k x)) Q) : Ab μ d kc ks pc L (aI x :: aR q :: st) (HS n R I) Q := ab_putZ (h := HS n R I) hf hfl hq hk hty hx kk
theorem ab_pJ {q t c k : Nat} {x : Int} (hf : fnd (mrC μ) pc = some (.putfield i, 3)) (hfl : FL (mrO μ) i t k false) (hq : (SHt.take n)[q]? = some (t, c)) (hk : k < c) (hty : fty t k = .long) (kk : Ab μ d kc ks (pc + 3) L st (HS n R (up I q k x)) Q) : Ab μ d kc ks pc L (aJ x :: aR q :: st) (HS n R I) Q := ab_putJ (h := HS n R I) hf hfl hq hk hty kk
theorem ab_gR {q t c k r : Nat} {fin : Bool} (hf : fnd (mrC μ) pc = some (.getfield i, 3)) (hfl : FL (mrO μ) i t k fin) (hq : (SHt.take n)[q]? = some (t, c)) (hk : k < c) (hkd : kd t k = 2) (hr : R q k = some r) (kk : Ab μ d kc ks (pc + 3) L (aR r :: st) (HS n R I) Q) : Ab μ d kc ks pc L (aR q :: st) (HS n R I) Q := ab_getR (h := HS n R I) hf hfl hq hk hkd hr kk
theorem ab_aS {q c : Nat} {x v : Int} (hf : fnd (mrC μ) pc = some (.iastore, 1)) (hq : (SHt.take n)[q]? = some (100, c)) (h0 : 0 ≤ x) (h1 : x < c) (kk : Ab μ d kc ks (pc + 1) L st (HS n R (up I q x.toNat v)) Q) : Ab μ d kc ks pc L (aI v :: aI x :: aR q :: st) (HS n R I) Q := ab_iast (h := HS n R I) hf hq h0 h1 kk
theorem ab_aL {q c : Nat} {x : Int} (hf : fnd (mrC μ) pc = some (.iaload, 1)) (hq : (SHt.take n)[q]? = some (100, c)) (h0 : 0 ≤ x) (h1 : x < c) (kk : Ab μ d kc ks (pc + 1) L (aI (I q x.toNat) :: st) (HS n R I) Q) : Ab μ d kc ks pc L (aI x :: aR q :: st) (HS n R I) Q := ab_iald (h := HS n R I) hf hq h0 h1 kk
theorem ab_h {I' : HI} (e : I = I') (k : Ab μ d kc ks pc L st (HS n R I') Q) : Ab μ d kc ks pc L st (HS n R I) Q := by
  subst e
  exact k
end ABX
theorem fil_upg {I : HI} {q k : Nat} {v : Int} {g : Nat → Int} (hg : g k = v) : up (fil I q k g) q k v = fil I q (k + 1) g := by
  funext p j
  rw [up_ap, fil_ap, fil_ap]
  by_cases e : p = q ∧ j = k
  · rw [if_pos e, if_pos ⟨e.1, by omega⟩, e.2, hg]
  · rw [if_neg e]
    by_cases e2 : p = q ∧ j < k
    · rw [if_pos e2, if_pos ⟨e2.1, by omega⟩]
    · rw [if_neg e2, if_neg (fun z => by omega)]
theorem fil_zero {I : HI} {q : Nat} {g : Nat → Int} : fil I q 0 g = I := by
  funext p j
  rw [fil_ap, if_neg (by omega)]
def clG (q a c : Nat) (I : HI) : HI := fil (fil (up (up (up I q 5 0) q 3 0) q 4 0) a 6 (fun _ => -1)) c 144 (fun _ => 0)
section CLR
variable {n q a c : Nat} {R : Nat → Nat → Option Nat} {I : HI} {Q : Option AV → AH → Prop}
theorem cl_loop2 (hq : (SHt.take n)[q]? = some (7, 6)) (hc : (SHt.take n)[c]? = some (100, 144)) (rc : R q 1 = some c) (hQ : Q none (HS n R (fil I c 144 (fun _ => 0)))) : ∀ (m k : Nat) (z : Int), z = (k : Int) → k + m = 144 → Ab MX7_clear 0 0 0 38 [some (aR q), some (aI z)] [] (HS n R (fil I c k (fun _ => 0))) Q := by
  intro m
  induction m with
  | zero =>
    intro k z hz hk
    subst hz
    refine ab_iload_n rfl rfl ?_
    refine ab_sipush rfl (by decide) ?_
    refine ab_icmp_ge (tgt := 58) rfl rfl (fun _ => ?_) (fun w => absurd w (by omega))
    rw [show k = 144 by omega]
    exact ab_vret rfl rfl hQ
  | succ m ih =>
    intro k z hz hk
    subst hz
    refine ab_iload_n rfl rfl ?_
    refine ab_sipush rfl (by decide) ?_
    refine ab_icmp_ge (tgt := 58) rfl rfl (fun w => absurd w (by omega)) (fun _ => ?_)
    refine ab_aload_n rfl rfl ?_
    refine ab_gR (r := c) rfl fl7_15 hq (by decide) rfl rc ?_
    refine ab_iload_n rfl rfl ?_
    refine ab_iconst rfl (by decide) ?_
    refine ab_aS rfl hc (by omega) (by omega) ?_
    refine ab_iinc rfl rfl ?_
    refine ab_goto (tgt := 38) rfl rfl ?_
    refine ab_h (I' := fil I c (k + 1) (fun _ => 0)) (by rw [Int.toNat_natCast]; exact fil_upg rfl) ?_
    exact ih (k + 1) _ (by rw [w32_id (by omega) (by omega)]; omega) (by omega)
theorem cl_loop1 (hq : (SHt.take n)[q]? = some (7, 6)) (ha : (SHt.take n)[a]? = some (100, 6)) (ra : R q 0 = some a) (hQ : Ab MX7_clear 0 0 0 36 [some (aR q), some (aI 6)] [] (HS n R (fil I a 6 (fun _ => -1))) Q) : ∀ (m k : Nat) (z : Int), z = (k : Int) → k + m = 6 → Ab MX7_clear 0 0 0 17 [some (aR q), some (aI z)] [] (HS n R (fil I a k (fun _ => -1))) Q := by
  intro m
  induction m with
  | zero =>
    intro k z hz hk
    subst hz
    refine ab_iload_n rfl rfl ?_
    refine ab_bipush rfl (by decide) ?_
    refine ab_icmp_ge (tgt := 36) rfl rfl (fun _ => ?_) (fun w => absurd w (by omega))
    rw [show k = 6 by omega]
    exact hQ
  | succ m ih =>
    intro k z hz hk
    subst hz
    refine ab_iload_n rfl rfl ?_
    refine ab_bipush rfl (by decide) ?_
    refine ab_icmp_ge (tgt := 36) rfl rfl (fun w => absurd w (by omega)) (fun _ => ?_)
    refine ab_aload_n rfl rfl ?_
    refine ab_gR (r := a) rfl fl7_9 hq (by decide) rfl ra ?_
    refine ab_iload_n rfl rfl ?_
    refine ab_iconst rfl (by decide) ?_
    refine ab_aS rfl ha (by omega) (by omega) ?_
    refine ab_iinc rfl rfl ?_
    refine ab_goto (tgt := 17) rfl rfl ?_
    refine ab_h (I' := fil I a (k + 1) (fun _ => -1)) (by rw [Int.toNat_natCast]; exact fil_upg rfl) ?_
    exact ih (k + 1) _ (by rw [w32_id (by omega) (by omega)]; omega) (by omega)
theorem ct_clear (hq : (SHt.take n)[q]? = some (7, 6)) (ha : (SHt.take n)[a]? = some (100, 6)) (hc : (SHt.take n)[c]? = some (100, 144)) (ra : R q 0 = some a) (rc : R q 1 = some c) (hz : Zr n R I) : Rn MX7_clear 0 0 0 [aR q] (HS n R I) (fun r h' => r = none ∧ h' = HS n R (clG q a c I) ∧ Zr n R (clG q a c I)) := by
  have hl : ∀ {p : Nat} {x : Nat × Nat}, (SHt.take n)[p]? = some x → p < n := fun {p x} h => by
    have := (List.getElem?_eq_some_iff.mp h).1
    rw [List.length_take] at this
    omega
  have z : Zr n R (clG q a c I) := (((((hz.i (hl hq)).i (hl hq)).i (hl hq)).fil (hl ha)).fil (hl hc))
  refine rn_L okX7_clear (Nat.le_of_ble_eq_true rfl) rfl ?_
  refine ab_aload_n rfl rfl ?_
  refine ab_iconst rfl (by decide) ?_
  refine ab_pI rfl fl7_24 hq (by decide) rfl ?_
  refine ab_aload_n rfl rfl ?_
  refine ab_iconst rfl (by decide) ?_
  refine ab_pI rfl fl7_28 hq (by decide) rfl ?_
  refine ab_aload_n rfl rfl ?_
  refine ab_iconst rfl (by decide) ?_
  refine ab_pI rfl fl7_31 hq (by decide) rfl ?_
  refine ab_iconst rfl (by decide) ?_
  refine ab_istore_n rfl (by decide) ?_
  refine ab_eq (L' := [some (aR q), some (aI ((0 : Nat) : Int))]) rfl rfl rfl ?_
  refine ab_h fil_zero.symm (cl_loop1 hq ha ra ?_ 6 0 _ rfl rfl)
  refine ab_iconst rfl (by decide) ?_
  refine ab_istore_n rfl (by decide) ?_
  refine ab_eq (L' := [some (aR q), some (aI ((0 : Nat) : Int))]) rfl rfl rfl ?_
  exact ab_h fil_zero.symm (cl_loop2 hq hc rc ⟨rfl, rfl, z⟩ 144 0 _ rfl rfl)
end CLR
theorem lx_all : ∀ i, i < 146 → (lxT.getD i (0, 0, 0, 0)).1 = owL.getD i 0 ∧ 0 ≤ (lxT.getD i (0, 0, 0, 0)).2.2.1 ∧ (lxT.getD i (0, 0, 0, 0)).2.2.1 ≤ 28 ∧ ((owL.getD i 0 = 32 ∧ (lxT.getD i (0, 0, 0, 0)).2.2.2 = own5 (lxT.getD i (0, 0, 0, 0)).2.2.1.toNat ∧ (lxT.getD (i + 1) (0, 0, 0, 0)).2 = (0, (lxT.getD i (0, 0, 0, 0)).2.2.1 + 1, 0)) ∨ (owL.getD i 0 ≠ 32 ∧ 97 ≤ owL.getD i 0 ∧ owL.getD i 0 ≤ 122 ∧ 0 ≤ (lxT.getD i (0, 0, 0, 0)).2.1 ∧ (lxT.getD i (0, 0, 0, 0)).2.1 ≤ 5 ∧ (lxT.getD (i + 1) (0, 0, 0, 0)).2 = ((lxT.getD i (0, 0, 0, 0)).2.1 + 1, (lxT.getD i (0, 0, 0, 0)).2.2.1, iOr (lxT.getD i (0, 0, 0, 0)).2.2.2 (iShl (owL.getD i 0 - 97 + 1) (5 * (5 - (lxT.getD i (0, 0, 0, 0)).2.1)))))) := by decide +kernel
def lxF (b v : Int) : Nat → Int := fun k => if (k : Int) < b then own5 k else if (k : Int) = b then v else 0
theorem lxF_0 {I : HI} (h : ∀ k, I 25 k = 0) : row I 25 (lxF 0 0) = I := by
  funext p j
  rw [row_ap]
  split
  · rename_i e
    rw [e, h]
    unfold lxF
    rw [if_neg (by omega)]
    split <;> rfl
  · rfl
theorem lxF_up {I : HI} {b v w : Int} (hb : 0 ≤ b) : up (row I 25 (lxF b v)) 25 b.toNat w = row I 25 (lxF b w) := by
  funext p j
  rw [up_ap, row_ap, row_ap]
  by_cases e : p = 25
  · by_cases e2 : j = b.toNat
    · rw [if_pos ⟨e, e2⟩, if_pos e]
      unfold lxF
      rw [if_neg (by omega), if_pos (by omega)]
    · rw [if_neg (fun z => e2 z.2), if_pos e, if_pos e]
      unfold lxF
      by_cases e3 : (j : Int) < b
      · rw [if_pos e3, if_pos e3]
      · rw [if_neg e3, if_neg e3, if_neg (by omega), if_neg (by omega)]
  · rw [if_neg (fun z => e z.1), if_neg e, if_neg e]
theorem lxF_at {I : HI} {b v : Int} (hb : 0 ≤ b) : row I 25 (lxF b v) 25 b.toNat = v := by
  rw [row_ap, if_pos rfl]
  unfold lxF
  rw [if_neg (by omega), if_pos (by omega)]
theorem lxF_s {I : HI} {b : Int} (hb : 0 ≤ b) : row I 25 (lxF b (own5 b.toNat)) = row I 25 (lxF (b + 1) 0) := by
  funext p j
  rw [row_ap, row_ap]
  split
  · unfold lxF
    by_cases e : (j : Int) < b
    · rw [if_pos e, if_pos (by omega)]
    · rw [if_neg e]
      by_cases e2 : (j : Int) = b
      · rw [if_pos e2, if_pos (by omega), show b.toNat = j by omega]
      · rw [if_neg e2, if_neg (by omega)]
        split <;> rfl
  · rfl
theorem lx_loop {R : Nat → Nat → Option Nat} {I : HI} {Q : Option AV → AH → Prop} (r1 : R 24 1 = some 25) : ∀ (m i : Nat) (cc : Option AV), i + m = 146 → ∀ a b v : Int, (lxT.getD i (0, 0, 0, 0)).2 = (a, b, v) → Q none (HS 26 R (row I 25 (lxF 29 0))) → Ab MX1_init 4 0 0 29 [some (aR 24), some (aR 1), some (aI a), some (aI b), some (aI (i : Int)), cc] [] (HS 26 R (row I 25 (lxF b v))) Q := by
  intro m
  induction m with
  | zero =>
    intro i cc hi a b v hT hQ
    refine ab_iload rfl rfl ?_
    refine ab_ldcS rfl rfl ?_
    refine ab_callT (ν := MJ0_length) (as := []) (rest := [aI (i : Int)]) rfl ml1_25 cvJ0_length rfl rn_length (by decide) (by decide) (by decide) rfl rfl (Nat.le_of_ble_eq_true rfl) (fun r h' hr => ?_)
    obtain ⟨e1, e2⟩ := hr
    subst e1 e2
    refine ab_icmp_ge (tgt := 99) rfl rfl (fun _ => ?_) (fun w => absurd w (by omega))
    have e146 : i = 146 := by omega
    subst e146
    have hT2 : (lxT.getD 146 (0, 0, 0, 0)).2 = (0, 29, 0) := rfl
    rw [hT2] at hT
    cases hT
    exact ab_vret rfl rfl hQ
  | succ m ih =>
    intro i cc hi a b v hT hQ
    obtain ⟨g1, g2, g3, g4⟩ := lx_all i (by omega)
    have ga : (lxT.getD i (0, 0, 0, 0)).2.1 = a := by rw [hT]
    have gb : (lxT.getD i (0, 0, 0, 0)).2.2.1 = b := by rw [hT]
    have gv : (lxT.getD i (0, 0, 0, 0)).2.2.2 = v := by rw [hT]
    rw [gb] at g2 g3
    rw [ga, gb, gv] at g4
    have hin := owL_in i (by omega)
    refine ab_iload rfl rfl ?_
    refine ab_ldcS rfl rfl ?_
    refine ab_callT (ν := MJ0_length) (as := []) (rest := [aI (i : Int)]) rfl ml1_25 cvJ0_length rfl rn_length (by decide) (by decide) (by decide) rfl rfl (Nat.le_of_ble_eq_true rfl) (fun r h' hr => ?_)
    obtain ⟨e1, e2⟩ := hr
    subst e1 e2
    refine ab_icmp_ge (tgt := 99) rfl rfl (fun w => absurd w (by omega)) (fun _ => ?_)
    refine ab_iload_n rfl rfl ?_
    refine ab_bipush rfl (by decide) ?_
    refine ab_icmp_ge (tgt := 99) rfl rfl (fun w => absurd w (by omega)) (fun _ => ?_)
    refine ab_ldcS rfl rfl ?_
    refine ab_iload rfl rfl ?_
    refine ab_callT (ν := MJ0_charAt) (as := [aI (i : Int)]) (rest := []) rfl ml1_31 cvJ0_charAt rfl (rn_charAt (by omega) (by omega)) (by decide) (by decide) (by decide) rfl rfl (by decide) (fun r h' hr => ?_)
    obtain ⟨e1, e2⟩ := hr
    subst e1 e2
    refine ab_istore rfl (by decide) ?_
    refine ab_eq (L' := [some (aR 24), some (aR 1), some (aI a), some (aI b), some (aI (i : Int)), some (aI (owL.getD i 0))]) rfl rfl rfl ?_
    refine ab_iload rfl rfl ?_
    refine ab_bipush rfl (by decide) ?_
    rcases g4 with ⟨w1, w2, w3⟩ | ⟨w0, w1, w2, w3, w4, w5⟩
    · refine ab_icmp_ne (tgt := 69) rfl rfl (fun w => absurd w1 w) (fun _ => ?_)
      refine ab_iinc rfl rfl ?_
      refine ab_iconst rfl (by decide) ?_
      refine ab_istore_n rfl (by decide) ?_
      refine ab_goto (tgt := 93) rfl rfl ?_
      refine ab_iinc rfl rfl ?_
      refine ab_goto (tgt := 29) rfl rfl ?_
      refine ab_eq (L' := [some (aR 24), some (aR 1), some (aI 0), some (aI (b + 1)), some (aI ((i + 1 : Nat) : Int)), some (aI (owL.getD i 0))]) (h' := HS 26 R (row I 25 (lxF (b + 1) 0))) ?_ rfl (by rw [w2, lxF_s g2]) ?_
      · rw [w32_id (z := b + 1) (by omega) (by omega), w32_id (z := (i : Int) + 1) (by omega) (by omega)]
        rfl
      · exact ih (i + 1) _ (by omega) 0 (b + 1) 0 w3 hQ
    · refine ab_icmp_ne (tgt := 69) rfl rfl (fun _ => ?_) (fun w => absurd w w0)
      refine ab_aload_n rfl rfl ?_
      refine ab_gR (r := 25) rfl fl1_9 rfl (by decide) rfl r1 ?_
      refine ab_iload_n rfl rfl ?_
      refine ab_dup2 rfl rfl rfl ?_
      refine ab_aL rfl rfl g2 (by omega) ?_
      rw [lxF_at g2]
      refine ab_iload rfl rfl ?_
      refine ab_bipush rfl (by decide) ?_
      refine ab_isub rfl ?_
      refine ab_iconst rfl (by decide) ?_
      refine ab_iadd rfl ?_
      refine ab_iload_n rfl rfl ?_
      rw [w32_id (z := owL.getD i 0 - 97) (by omega) (by omega), w32_id (z := owL.getD i 0 - 97 + 1) (by omega) (by omega)]
      refine ab_callSN (ν := MX11_letterShift) (as := [aI a]) (rest := [aI (owL.getD i 0 - 97 + 1), aI v, aI b, aR 25]) rfl ml1_35 csX11_letterShift (rn_letterShift w3 (by omega)) (by decide) (by decide) (by decide) rfl rfl (Nat.le_of_ble_eq_true rfl) (fun r h' hr => ?_)
      obtain ⟨e1, e2⟩ := hr
      subst e1 e2
      refine ab_ishl rfl ?_
      refine ab_ior rfl ?_
      refine ab_aS rfl rfl g2 (by omega) ?_
      refine ab_iinc rfl rfl ?_
      refine ab_iinc rfl rfl ?_
      refine ab_goto (tgt := 29) rfl rfl ?_
      refine ab_eq (L' := [some (aR 24), some (aR 1), some (aI (a + 1)), some (aI b), some (aI ((i + 1 : Nat) : Int)), some (aI (owL.getD i 0))]) (h' := HS 26 R (row I 25 (lxF b (iOr v (iShl (owL.getD i 0 - 97 + 1) (5 * (5 - a))))))) ?_ rfl (by rw [lxF_up g2]) ?_
      · rw [w32_id (z := a + 1) (by omega) (by omega), w32_id (z := (i : Int) + 1) (by omega) (by omega)]
        rfl
      · exact ih (i + 1) _ (by omega) _ _ _ w5 hQ
set_option maxRecDepth 16000 in
theorem sf_loop {R : Nat → Nat → Option Nat} {I : HI} {Q : Option AV → AH → Prop} (r1 : R 57 26 = some 71) : ∀ (m k : Nat) (z : Int), z = (k : Int) → k + m = 8 → Q none (HS 99 R (fil I 71 8 (fun _ => -1))) → Ab MX12_init 1 0 0 491 [some (aR 57), some (aI z)] [] (HS 99 R (fil I 71 k (fun _ => -1))) Q := by
  intro m
  induction m with
  | zero =>
    intro k z hz hk hQ
    subst hz
    refine ab_iload_n rfl rfl ?_
    refine ab_bipush rfl (by decide) ?_
    refine ab_icmp_ge (tgt := 510) rfl rfl (fun _ => ?_) (fun w => absurd w (by omega))
    rw [show k = 8 by omega]
    exact ab_vret rfl rfl hQ
  | succ m ih =>
    intro k z hz hk hQ
    subst hz
    refine ab_iload_n rfl rfl ?_
    refine ab_bipush rfl (by decide) ?_
    refine ab_icmp_ge (tgt := 510) rfl rfl (fun w => absurd w (by omega)) (fun _ => ?_)
    refine ab_aload_n rfl rfl ?_
    refine ab_gR (r := 71) rfl fl12_90 rfl (by decide) rfl r1 ?_
    refine ab_iload_n rfl rfl ?_
    refine ab_iconst rfl (by decide) ?_
    refine ab_aS rfl rfl (by omega) (by omega) ?_
    refine ab_iinc rfl rfl ?_
    refine ab_goto (tgt := 491) rfl rfl ?_
    refine ab_h (I' := fil I 71 (k + 1) (fun _ => -1)) (by rw [Int.toNat_natCast]; exact fil_upg rfl) ?_
    exact ih (k + 1) _ (by rw [w32_id (by omega) (by omega)]; omega) (by omega) hQ
/-- made -/
theorem ct_X9_1 {R : Nat → Nat → Option Nat} {I : HI} (hz : Zr 2 R I) : Rn MX9_init 1 1 1600 [aR 1] (HS 2 R I) (fun r h' => r = none ∧ h' = HS 3 (upr (R) 1 0 2) (I) ∧ Zr 3 (upr (R) 1 0 2) (I)) := by
  refine rn_L okX9_init (Nat.le_of_ble_eq_true rfl) rfl ?_
  have z := hz
  refine ab_aload_n rfl rfl ?_
  refine ab_objI rfl ml9_3 (by decide) (by decide) ?_
  refine ab_aload_n rfl rfl ?_
  refine ab_sipush rfl (by decide) ?_
  refine ab_nA (t := 100) (m := 1600) (kc' := 0) (ks' := 0) rfl (Or.inl ⟨rfl, rfl⟩) rfl (by decide) rfl z rfl rfl ?_
  have z := z.mono (m := 3) (by decide)
  refine ab_pF rfl fl9_9 rfl (by decide) rfl rfl rfl ?_
  have z := z.r (q := 1) (k := 0) (v := 2) (by decide)
  exact ab_vret rfl rfl ⟨rfl, rfl, z⟩
/-- made -/
theorem ct_X3_3 {R : Nat → Nat → Option Nat} {I : HI} (hz : Zr 4 R I) : Rn MX3_init 1 7 1665 [aR 3] (HS 4 R I) (fun r h' => r = none ∧ h' = HS 11 (upr (upr (upr (upr (upr (upr (upr (R) 3 0 4) 3 1 5) 3 2 6) 3 3 7) 3 4 8) 3 5 9) 3 6 10) (I) ∧ Zr 11 (upr (upr (upr (upr (upr (upr (upr (R) 3 0 4) 3 1 5) 3 2 6) 3 3 7) 3 4 8) 3 5 9) 3 6 10) (I)) := by
  refine rn_L okX3_init (Nat.le_of_ble_eq_true rfl) rfl ?_
  have z := hz
  refine ab_aload_n rfl rfl ?_
  refine ab_objI rfl ml3_3 (by decide) (by decide) ?_
  refine ab_aload_n rfl rfl ?_
  refine ab_iconst rfl (by decide) ?_
  refine ab_nA (t := 100) (m := 3) (kc' := 6) (ks' := 1662) rfl (Or.inl ⟨rfl, rfl⟩) rfl (by decide) rfl z rfl rfl ?_
  have z := z.mono (m := 5) (by decide)
  refine ab_pF rfl fl3_9 rfl (by decide) rfl rfl rfl ?_
  have z := z.r (q := 3) (k := 0) (v := 4) (by decide)
  refine ab_aload_n rfl rfl ?_
  refine ab_bipush rfl (by decide) ?_
  refine ab_nA (t := 100) (m := 18) (kc' := 5) (ks' := 1644) rfl (Or.inl ⟨rfl, rfl⟩) rfl (by decide) rfl z rfl rfl ?_
  have z := z.mono (m := 6) (by decide)
  refine ab_pF rfl fl3_15 rfl (by decide) rfl rfl rfl ?_
  have z := z.r (q := 3) (k := 1) (v := 5) (by decide)
  refine ab_aload_n rfl rfl ?_
  refine ab_bipush rfl (by decide) ?_
  refine ab_nA (t := 100) (m := 18) (kc' := 4) (ks' := 1626) rfl (Or.inl ⟨rfl, rfl⟩) rfl (by decide) rfl z rfl rfl ?_
  have z := z.mono (m := 7) (by decide)
  refine ab_pF rfl fl3_18 rfl (by decide) rfl rfl rfl ?_
  have z := z.r (q := 3) (k := 2) (v := 6) (by decide)
  refine ab_aload_n rfl rfl ?_
  refine ab_bipush rfl (by decide) ?_
  refine ab_nA (t := 100) (m := 18) (kc' := 3) (ks' := 1608) rfl (Or.inl ⟨rfl, rfl⟩) rfl (by decide) rfl z rfl rfl ?_
  have z := z.mono (m := 8) (by decide)
  refine ab_pF rfl fl3_21 rfl (by decide) rfl rfl rfl ?_
  have z := z.r (q := 3) (k := 3) (v := 7) (by decide)
  refine ab_aload_n rfl rfl ?_
  refine ab_sipush rfl (by decide) ?_
  refine ab_nA (t := 100) (m := 1600) (kc' := 2) (ks' := 8) rfl (Or.inl ⟨rfl, rfl⟩) rfl (by decide) rfl z rfl rfl ?_
  have z := z.mono (m := 9) (by decide)
  refine ab_pF rfl fl3_24 rfl (by decide) rfl rfl rfl ?_
  have z := z.r (q := 3) (k := 4) (v := 8) (by decide)
  refine ab_aload_n rfl rfl ?_
  refine ab_iconst rfl (by decide) ?_
  refine ab_nA (t := 100) (m := 4) (kc' := 1) (ks' := 4) rfl (Or.inl ⟨rfl, rfl⟩) rfl (by decide) rfl z rfl rfl ?_
  have z := z.mono (m := 10) (by decide)
  refine ab_pF rfl fl3_27 rfl (by decide) rfl rfl rfl ?_
  have z := z.r (q := 3) (k := 5) (v := 9) (by decide)
  refine ab_aload_n rfl rfl ?_
  refine ab_iconst rfl (by decide) ?_
  refine ab_nA (t := 100) (m := 4) (kc' := 0) (ks' := 0) rfl (Or.inl ⟨rfl, rfl⟩) rfl (by decide) rfl z rfl rfl ?_
  have z := z.mono (m := 11) (by decide)
  refine ab_pF rfl fl3_30 rfl (by decide) rfl rfl rfl ?_
  have z := z.r (q := 3) (k := 6) (v := 10) (by decide)
  exact ab_vret rfl rfl ⟨rfl, rfl, z⟩
/-- made -/
theorem ct_X3_12 {R : Nat → Nat → Option Nat} {I : HI} (hz : Zr 13 R I) : Rn MX3_init 1 7 1665 [aR 12] (HS 13 R I) (fun r h' => r = none ∧ h' = HS 20 (upr (upr (upr (upr (upr (upr (upr (R) 12 0 13) 12 1 14) 12 2 15) 12 3 16) 12 4 17) 12 5 18) 12 6 19) (I) ∧ Zr 20 (upr (upr (upr (upr (upr (upr (upr (R) 12 0 13) 12 1 14) 12 2 15) 12 3 16) 12 4 17) 12 5 18) 12 6 19) (I)) := by
  refine rn_L okX3_init (Nat.le_of_ble_eq_true rfl) rfl ?_
  have z := hz
  refine ab_aload_n rfl rfl ?_
  refine ab_objI rfl ml3_3 (by decide) (by decide) ?_
  refine ab_aload_n rfl rfl ?_
  refine ab_iconst rfl (by decide) ?_
  refine ab_nA (t := 100) (m := 3) (kc' := 6) (ks' := 1662) rfl (Or.inl ⟨rfl, rfl⟩) rfl (by decide) rfl z rfl rfl ?_
  have z := z.mono (m := 14) (by decide)
  refine ab_pF rfl fl3_9 rfl (by decide) rfl rfl rfl ?_
  have z := z.r (q := 12) (k := 0) (v := 13) (by decide)
  refine ab_aload_n rfl rfl ?_
  refine ab_bipush rfl (by decide) ?_
  refine ab_nA (t := 100) (m := 18) (kc' := 5) (ks' := 1644) rfl (Or.inl ⟨rfl, rfl⟩) rfl (by decide) rfl z rfl rfl ?_
  have z := z.mono (m := 15) (by decide)
  refine ab_pF rfl fl3_15 rfl (by decide) rfl rfl rfl ?_
  have z := z.r (q := 12) (k := 1) (v := 14) (by decide)
  refine ab_aload_n rfl rfl ?_
  refine ab_bipush rfl (by decide) ?_
  refine ab_nA (t := 100) (m := 18) (kc' := 4) (ks' := 1626) rfl (Or.inl ⟨rfl, rfl⟩) rfl (by decide) rfl z rfl rfl ?_
  have z := z.mono (m := 16) (by decide)
  refine ab_pF rfl fl3_18 rfl (by decide) rfl rfl rfl ?_
  have z := z.r (q := 12) (k := 2) (v := 15) (by decide)
  refine ab_aload_n rfl rfl ?_
  refine ab_bipush rfl (by decide) ?_
  refine ab_nA (t := 100) (m := 18) (kc' := 3) (ks' := 1608) rfl (Or.inl ⟨rfl, rfl⟩) rfl (by decide) rfl z rfl rfl ?_
  have z := z.mono (m := 17) (by decide)
  refine ab_pF rfl fl3_21 rfl (by decide) rfl rfl rfl ?_
  have z := z.r (q := 12) (k := 3) (v := 16) (by decide)
  refine ab_aload_n rfl rfl ?_
  refine ab_sipush rfl (by decide) ?_
  refine ab_nA (t := 100) (m := 1600) (kc' := 2) (ks' := 8) rfl (Or.inl ⟨rfl, rfl⟩) rfl (by decide) rfl z rfl rfl ?_
  have z := z.mono (m := 18) (by decide)
  refine ab_pF rfl fl3_24 rfl (by decide) rfl rfl rfl ?_
  have z := z.r (q := 12) (k := 4) (v := 17) (by decide)
  refine ab_aload_n rfl rfl ?_
  refine ab_iconst rfl (by decide) ?_
  refine ab_nA (t := 100) (m := 4) (kc' := 1) (ks' := 4) rfl (Or.inl ⟨rfl, rfl⟩) rfl (by decide) rfl z rfl rfl ?_
  have z := z.mono (m := 19) (by decide)
  refine ab_pF rfl fl3_27 rfl (by decide) rfl rfl rfl ?_
  have z := z.r (q := 12) (k := 5) (v := 18) (by decide)
  refine ab_aload_n rfl rfl ?_
  refine ab_iconst rfl (by decide) ?_
  refine ab_nA (t := 100) (m := 4) (kc' := 0) (ks' := 0) rfl (Or.inl ⟨rfl, rfl⟩) rfl (by decide) rfl z rfl rfl ?_
  have z := z.mono (m := 20) (by decide)
  refine ab_pF rfl fl3_30 rfl (by decide) rfl rfl rfl ?_
  have z := z.r (q := 12) (k := 6) (v := 19) (by decide)
  exact ab_vret rfl rfl ⟨rfl, rfl, z⟩
/-- made -/
theorem ct_X7_20 {R : Nat → Nat → Option Nat} {I : HI} (hz : Zr 21 R I) : Rn MX7_init 1 3 210 [aR 20] (HS 21 R I) (fun r h' => r = none ∧ h' = HS 24 (upr (upr (upr (R) 20 0 21) 20 1 22) 20 2 23) (clG 20 21 22 (I)) ∧ Zr 24 (upr (upr (upr (R) 20 0 21) 20 1 22) 20 2 23) (clG 20 21 22 (I))) := by
  refine rn_L okX7_init (Nat.le_of_ble_eq_true rfl) rfl ?_
  have z := hz
  refine ab_aload_n rfl rfl ?_
  refine ab_objI rfl ml7_3 (by decide) (by decide) ?_
  refine ab_aload_n rfl rfl ?_
  refine ab_bipush rfl (by decide) ?_
  refine ab_nA (t := 100) (m := 6) (kc' := 2) (ks' := 204) rfl (Or.inl ⟨rfl, rfl⟩) rfl (by decide) rfl z rfl rfl ?_
  have z := z.mono (m := 22) (by decide)
  refine ab_pF rfl fl7_9 rfl (by decide) rfl rfl rfl ?_
  have z := z.r (q := 20) (k := 0) (v := 21) (by decide)
  refine ab_aload_n rfl rfl ?_
  refine ab_sipush rfl (by decide) ?_
  refine ab_nA (t := 100) (m := 144) (kc' := 1) (ks' := 60) rfl (Or.inl ⟨rfl, rfl⟩) rfl (by decide) rfl z rfl rfl ?_
  have z := z.mono (m := 23) (by decide)
  refine ab_pF rfl fl7_15 rfl (by decide) rfl rfl rfl ?_
  have z := z.r (q := 20) (k := 1) (v := 22) (by decide)
  refine ab_aload_n rfl rfl ?_
  refine ab_bipush rfl (by decide) ?_
  refine ab_nA (t := 100) (m := 60) (kc' := 0) (ks' := 0) rfl (Or.inl ⟨rfl, rfl⟩) rfl (by decide) rfl z rfl rfl ?_
  have z := z.mono (m := 24) (by decide)
  refine ab_pF rfl fl7_18 rfl (by decide) rfl rfl rfl ?_
  have z := z.r (q := 20) (k := 2) (v := 23) (by decide)
  refine ab_aload_n rfl rfl ?_
  refine ab_callV (ν := MX7_clear) (as := []) (rest := []) rfl ml7_21 cvX7_clear (ct_clear (a := 21) (c := 22) rfl rfl rfl (by simp [upr]) (by simp [upr]) z) (by decide) (by decide) (by decide) rfl (by decide) rfl rfl rfl (by decide) (fun r h' hr => ?_)
  obtain ⟨e1, e2, z⟩ := hr
  subst e1 e2
  refine ab_n (kc' := 0) (ks' := 0) (st' := []) rfl rfl rfl ?_
  exact ab_vret rfl rfl ⟨rfl, rfl, z⟩
/-- made -/
theorem ct_X1_24 {R : Nat → Nat → Option Nat} {I : HI} (hz : Zr 25 R I) : Rn MX1_init 4 1 29 [aR 24, aR 1] (HS 25 R I) (fun r h' => r = none ∧ h' = HS 26 (upr (upr (R) 24 1 25) 24 0 1) (row (up (I) 24 11 (-1)) 25 (lxF 29 0)) ∧ Zr 26 (upr (upr (R) 24 1 25) 24 0 1) (row (up (I) 24 11 (-1)) 25 (lxF 29 0))) := by
  refine rn_L okX1_init (Nat.le_of_ble_eq_true rfl) rfl ?_
  have z := hz
  refine ab_aload_n rfl rfl ?_
  refine ab_objI rfl ml1_3 (by decide) (by decide) ?_
  refine ab_aload_n rfl rfl ?_
  refine ab_bipush rfl (by decide) ?_
  refine ab_nA (t := 100) (m := 29) (kc' := 0) (ks' := 0) rfl (Or.inl ⟨rfl, rfl⟩) rfl (by decide) rfl z rfl rfl ?_
  have z := z.mono (m := 26) (by decide)
  refine ab_pF rfl fl1_9 rfl (by decide) rfl rfl rfl ?_
  have z := z.r (q := 24) (k := 1) (v := 25) (by decide)
  refine ab_aload_n rfl rfl ?_
  refine ab_aload_n rfl rfl ?_
  refine ab_pF rfl fl1_15 rfl (by decide) rfl rfl rfl ?_
  have z := z.r (q := 24) (k := 0) (v := 1) (by decide)
  refine ab_aload_n rfl rfl ?_
  refine ab_iconst rfl (by decide) ?_
  refine ab_pI rfl fl1_19 rfl (by decide) rfl ?_
  have z := z.i (q := 24) (k := 11) (v := (-1)) (by decide)
  refine ab_iconst rfl (by decide) ?_
  refine ab_istore_n rfl (by decide) ?_
  refine ab_iconst rfl (by decide) ?_
  refine ab_istore_n rfl (by decide) ?_
  refine ab_iconst rfl (by decide) ?_
  refine ab_istore rfl (by decide) ?_
  refine ab_eq (L' := [some (aR 24), some (aR 1), some (aI 0), some (aI 0), some (aI ((0 : Nat) : Int)), none]) (h' := HS 26 (upr (upr (R) 24 1 25) 24 0 1) (row (up (I) 24 11 (-1)) 25 (lxF 0 0))) rfl rfl (by rw [lxF_0 (I := up (I) 24 11 (-1)) (fun k => by rw [up_cell (by decide)]; exact (hz 25 k (Nat.le_refl 25)).2)]) ?_
  refine lx_loop (by simp [upr]) 146 0 none rfl 0 0 0 rfl ⟨rfl, rfl, ?_⟩
  exact z.row (by decide)
/-- made -/
theorem ct_X0_26 {R : Nat → Nat → Option Nat} {I : HI} (hz : Zr 27 R I) : Rn MX0_init 1 0 0 [aR 26, aR 24, aR 12] (HS 27 R I) (fun r h' => r = none ∧ h' = HS 27 (upr (upr (R) 26 0 24) 26 1 12) (I) ∧ Zr 27 (upr (upr (R) 26 0 24) 26 1 12) (I)) := by
  refine rn_L okX0_init (Nat.le_of_ble_eq_true rfl) rfl ?_
  have z := hz
  refine ab_aload_n rfl rfl ?_
  refine ab_objI rfl ml0_3 (by decide) (by decide) ?_
  refine ab_aload_n rfl rfl ?_
  refine ab_aload_n rfl rfl ?_
  refine ab_pF rfl fl0_9 rfl (by decide) rfl rfl rfl ?_
  have z := z.r (q := 26) (k := 0) (v := 24) (by decide)
  refine ab_aload_n rfl rfl ?_
  refine ab_aload_n rfl rfl ?_
  refine ab_pF rfl fl0_15 rfl (by decide) rfl rfl rfl ?_
  have z := z.r (q := 26) (k := 1) (v := 12) (by decide)
  exact ab_vret rfl rfl ⟨rfl, rfl, z⟩
theorem cl10_9 : Cond.classLink (rx 10) 9 (clT 3).1 ∈ Wg := in_W1 106 (by decide +kernel) rfl
theorem nw3 : Cond.instantiable (clT 3).1 10 ∈ Wg := in_W1 47 (by decide +kernel) rfl
theorem nj3 : Cond.initialized (clT 3).1 ∈ Wg := in_W1 3 (by decide +kernel) rfl
theorem nt3 : ∀ k, k < 10 → fty 3 k = .int ∨ fty 3 k = .boolean ∨ fty 3 k = .long ∨ refKind (fty 3 k) = true := by decide +kernel
theorem cl10_18 : Cond.classLink (rx 10) 18 (clT 7).1 ∈ Wg := in_W1 108 (by decide +kernel) rfl
theorem nw7 : Cond.instantiable (clT 7).1 6 ∈ Wg := in_W1 109 (by decide +kernel) rfl
theorem nj7 : Cond.initialized (clT 7).1 ∈ Wg := in_W1 5 (by decide +kernel) rfl
theorem nt7 : ∀ k, k < 6 → fty 7 k = .int ∨ fty 7 k = .boolean ∨ fty 7 k = .long ∨ refKind (fty 7 k) = true := by decide +kernel
theorem cl10_25 : Cond.classLink (rx 10) 25 (clT 1).1 ∈ Wg := in_W1 146 (by decide +kernel) rfl
theorem nw1 : Cond.instantiable (clT 1).1 12 ∈ Wg := in_W1 147 (by decide +kernel) rfl
theorem nj1 : Cond.initialized (clT 1).1 ∈ Wg := in_W1 6 (by decide +kernel) rfl
theorem nt1 : ∀ k, k < 12 → fty 1 k = .int ∨ fty 1 k = .boolean ∨ fty 1 k = .long ∨ refKind (fty 1 k) = true := by decide +kernel
theorem cl10_34 : Cond.classLink (rx 10) 34 (clT 0).1 ∈ Wg := in_W2 16 (by decide +kernel) rfl
theorem nw0 : Cond.instantiable (clT 0).1 3 ∈ Wg := in_W2 17 (by decide +kernel) rfl
theorem nj0 : Cond.initialized (clT 0).1 ∈ Wg := in_W1 11 (by decide +kernel) rfl
theorem nt0 : ∀ k, k < 3 → fty 0 k = .int ∨ fty 0 k = .boolean ∨ fty 0 k = .long ∨ refKind (fty 0 k) = true := by decide +kernel
/-- made -/
theorem ct_X10_11 {R : Nat → Nat → Option Nat} {I : HI} (hz : Zr 12 R I) : Rn MX10_init 5 15 1935 [aR 11, aR 1] (HS 12 R I) (fun r h' => r = none ∧ h' = HS 27 (upr (upr (upr ((upr (upr (upr ((upr (upr (upr (upr ((upr (upr (upr (upr (upr (upr (upr (upr (R) 12 0 13) 12 1 14) 12 2 15) 12 3 16) 12 4 17) 12 5 18) 12 6 19) 11 1 12)) 20 0 21) 20 1 22) 20 2 23) 11 2 20)) 24 1 25) 24 0 1) 11 0 24)) 26 0 24) 26 1 12) 11 3 26) ((row (up ((clG 20 21 22 (I))) 24 11 (-1)) 25 (lxF 29 0))) ∧ Zr 27 (upr (upr (upr ((upr (upr (upr ((upr (upr (upr (upr ((upr (upr (upr (upr (upr (upr (upr (upr (R) 12 0 13) 12 1 14) 12 2 15) 12 3 16) 12 4 17) 12 5 18) 12 6 19) 11 1 12)) 20 0 21) 20 1 22) 20 2 23) 11 2 20)) 24 1 25) 24 0 1) 11 0 24)) 26 0 24) 26 1 12) 11 3 26) ((row (up ((clG 20 21 22 (I))) 24 11 (-1)) 25 (lxF 29 0)))) := by
  refine rn_L okX10_init (Nat.le_of_ble_eq_true rfl) rfl ?_
  have z := hz
  refine ab_aload_n rfl rfl ?_
  refine ab_objI rfl ml10_3 (by decide) (by decide) ?_
  refine ab_aload_n rfl rfl ?_
  refine ab_nO (t := 3) (m := 10) (kc' := 14) (ks' := 1925) rfl (by decide) rfl cl10_9 nw3 nj3 nt3 rfl z rfl rfl ?_
  have z := z.mono (m := 13) (by decide)
  refine ab_dup rfl rfl ?_
  refine ab_callIN (ν := MX3_init) (as := []) (rest := [aR 12, aR 11]) rfl ml10_11 ciX3_init (ct_X3_12 z) (by decide) (by decide) (by decide) rfl rfl (by decide) (fun r h' hr => ?_)
  obtain ⟨e1, e2, z⟩ := hr
  subst e1 e2
  refine ab_n (kc' := 7) (ks' := 260) (st' := [aR 12, aR 11]) rfl rfl rfl ?_
  refine ab_pF rfl fl10_12 rfl (by decide) rfl rfl rfl ?_
  have z := z.r (q := 11) (k := 1) (v := 12) (by decide)
  refine ab_aload_n rfl rfl ?_
  refine ab_nO (t := 7) (m := 6) (kc' := 6) (ks' := 254) rfl (by decide) rfl cl10_18 nw7 nj7 nt7 rfl z rfl rfl ?_
  have z := z.mono (m := 21) (by decide)
  refine ab_dup rfl rfl ?_
  refine ab_callI (ν := MX7_init) (as := []) (rest := [aR 20, aR 11]) rfl ml10_20 ciX7_init (ct_X7_20 z) (by decide) (by decide) (by decide) rfl rfl (by decide) (fun r h' hr => ?_)
  obtain ⟨e1, e2, z⟩ := hr
  subst e1 e2
  refine ab_n (kc' := 3) (ks' := 44) (st' := [aR 20, aR 11]) rfl rfl rfl ?_
  refine ab_pF rfl fl10_21 rfl (by decide) rfl rfl rfl ?_
  have z := z.r (q := 11) (k := 2) (v := 20) (by decide)
  refine ab_aload_n rfl rfl ?_
  refine ab_nO (t := 1) (m := 12) (kc' := 2) (ks' := 32) rfl (by decide) rfl cl10_25 nw1 nj1 nt1 rfl z rfl rfl ?_
  have z := z.mono (m := 25) (by decide)
  refine ab_dup rfl rfl ?_
  refine ab_aload_n rfl rfl ?_
  refine ab_callI (ν := MX1_init) (as := [aR 1]) (rest := [aR 24, aR 11]) rfl ml10_27 ciX1_init (ct_X1_24 z) (by decide) (by decide) (by decide) rfl rfl (by decide) (fun r h' hr => ?_)
  obtain ⟨e1, e2, z⟩ := hr
  subst e1 e2
  refine ab_n (kc' := 1) (ks' := 3) (st' := [aR 24, aR 11]) rfl rfl rfl ?_
  refine ab_pF rfl fl10_30 rfl (by decide) rfl rfl rfl ?_
  have z := z.r (q := 11) (k := 0) (v := 24) (by decide)
  refine ab_aload_n rfl rfl ?_
  refine ab_nO (t := 0) (m := 3) (kc' := 0) (ks' := 0) rfl (by decide) rfl cl10_34 nw0 nj0 nt0 rfl z rfl rfl ?_
  have z := z.mono (m := 27) (by decide)
  refine ab_dup rfl rfl ?_
  refine ab_aload_n rfl rfl ?_
  refine ab_gR (r := 24) rfl fl10_30 rfl (by decide) rfl (by simp [upr]) ?_
  refine ab_aload_n rfl rfl ?_
  refine ab_gR (r := 12) rfl fl10_12 rfl (by decide) rfl (by simp [upr]) ?_
  refine ab_callI (ν := MX0_init) (as := [aR 24, aR 12]) (rest := [aR 26, aR 11]) rfl ml10_36 ciX0_init (ct_X0_26 z) (by decide) (by decide) (by decide) rfl rfl (by decide) (fun r h' hr => ?_)
  obtain ⟨e1, e2, z⟩ := hr
  subst e1 e2
  refine ab_n (kc' := 0) (ks' := 0) (st' := [aR 26, aR 11]) rfl rfl rfl ?_
  refine ab_pF rfl fl10_39 rfl (by decide) rfl rfl rfl ?_
  have z := z.r (q := 11) (k := 3) (v := 26) (by decide)
  exact ab_vret rfl rfl ⟨rfl, rfl, z⟩
/-- made -/
theorem ct_X5_27 {R : Nat → Nat → Option Nat} {I : HI} (hz : Zr 28 R I) : Rn MX5_init 1 2 72 [aR 27, aR 3] (HS 28 R I) (fun r h' => r = none ∧ h' = HS 30 (upr (upr (upr (R) 27 1 28) 27 2 29) 27 0 3) (I) ∧ Zr 30 (upr (upr (upr (R) 27 1 28) 27 2 29) 27 0 3) (I)) := by
  refine rn_L okX5_init (Nat.le_of_ble_eq_true rfl) rfl ?_
  have z := hz
  refine ab_aload_n rfl rfl ?_
  refine ab_objI rfl ml5_3 (by decide) (by decide) ?_
  refine ab_aload_n rfl rfl ?_
  refine ab_bipush rfl (by decide) ?_
  refine ab_nA (t := 100) (m := 8) (kc' := 1) (ks' := 64) rfl (Or.inl ⟨rfl, rfl⟩) rfl (by decide) rfl z rfl rfl ?_
  have z := z.mono (m := 29) (by decide)
  refine ab_pF rfl fl5_9 rfl (by decide) rfl rfl rfl ?_
  have z := z.r (q := 27) (k := 1) (v := 28) (by decide)
  refine ab_aload_n rfl rfl ?_
  refine ab_bipush rfl (by decide) ?_
  refine ab_nA (t := 100) (m := 64) (kc' := 0) (ks' := 0) rfl (Or.inl ⟨rfl, rfl⟩) rfl (by decide) rfl z rfl rfl ?_
  have z := z.mono (m := 30) (by decide)
  refine ab_pF rfl fl5_15 rfl (by decide) rfl rfl rfl ?_
  have z := z.r (q := 27) (k := 2) (v := 29) (by decide)
  refine ab_aload_n rfl rfl ?_
  refine ab_aload_n rfl rfl ?_
  refine ab_pF rfl fl5_18 rfl (by decide) rfl rfl rfl ?_
  have z := z.r (q := 27) (k := 0) (v := 3) (by decide)
  exact ab_vret rfl rfl ⟨rfl, rfl, z⟩
/-- made -/
theorem ct_X7_30 {R : Nat → Nat → Option Nat} {I : HI} (hz : Zr 31 R I) : Rn MX7_init 1 3 210 [aR 30] (HS 31 R I) (fun r h' => r = none ∧ h' = HS 34 (upr (upr (upr (R) 30 0 31) 30 1 32) 30 2 33) (clG 30 31 32 (I)) ∧ Zr 34 (upr (upr (upr (R) 30 0 31) 30 1 32) 30 2 33) (clG 30 31 32 (I))) := by
  refine rn_L okX7_init (Nat.le_of_ble_eq_true rfl) rfl ?_
  have z := hz
  refine ab_aload_n rfl rfl ?_
  refine ab_objI rfl ml7_3 (by decide) (by decide) ?_
  refine ab_aload_n rfl rfl ?_
  refine ab_bipush rfl (by decide) ?_
  refine ab_nA (t := 100) (m := 6) (kc' := 2) (ks' := 204) rfl (Or.inl ⟨rfl, rfl⟩) rfl (by decide) rfl z rfl rfl ?_
  have z := z.mono (m := 32) (by decide)
  refine ab_pF rfl fl7_9 rfl (by decide) rfl rfl rfl ?_
  have z := z.r (q := 30) (k := 0) (v := 31) (by decide)
  refine ab_aload_n rfl rfl ?_
  refine ab_sipush rfl (by decide) ?_
  refine ab_nA (t := 100) (m := 144) (kc' := 1) (ks' := 60) rfl (Or.inl ⟨rfl, rfl⟩) rfl (by decide) rfl z rfl rfl ?_
  have z := z.mono (m := 33) (by decide)
  refine ab_pF rfl fl7_15 rfl (by decide) rfl rfl rfl ?_
  have z := z.r (q := 30) (k := 1) (v := 32) (by decide)
  refine ab_aload_n rfl rfl ?_
  refine ab_bipush rfl (by decide) ?_
  refine ab_nA (t := 100) (m := 60) (kc' := 0) (ks' := 0) rfl (Or.inl ⟨rfl, rfl⟩) rfl (by decide) rfl z rfl rfl ?_
  have z := z.mono (m := 34) (by decide)
  refine ab_pF rfl fl7_18 rfl (by decide) rfl rfl rfl ?_
  have z := z.r (q := 30) (k := 2) (v := 33) (by decide)
  refine ab_aload_n rfl rfl ?_
  refine ab_callV (ν := MX7_clear) (as := []) (rest := []) rfl ml7_21 cvX7_clear (ct_clear (a := 31) (c := 32) rfl rfl rfl (by simp [upr]) (by simp [upr]) z) (by decide) (by decide) (by decide) rfl (by decide) rfl rfl rfl (by decide) (fun r h' hr => ?_)
  obtain ⟨e1, e2, z⟩ := hr
  subst e1 e2
  refine ab_n (kc' := 0) (ks' := 0) (st' := []) rfl rfl rfl ?_
  exact ab_vret rfl rfl ⟨rfl, rfl, z⟩
/-- made -/
theorem ct_X7_34 {R : Nat → Nat → Option Nat} {I : HI} (hz : Zr 35 R I) : Rn MX7_init 1 3 210 [aR 34] (HS 35 R I) (fun r h' => r = none ∧ h' = HS 38 (upr (upr (upr (R) 34 0 35) 34 1 36) 34 2 37) (clG 34 35 36 (I)) ∧ Zr 38 (upr (upr (upr (R) 34 0 35) 34 1 36) 34 2 37) (clG 34 35 36 (I))) := by
  refine rn_L okX7_init (Nat.le_of_ble_eq_true rfl) rfl ?_
  have z := hz
  refine ab_aload_n rfl rfl ?_
  refine ab_objI rfl ml7_3 (by decide) (by decide) ?_
  refine ab_aload_n rfl rfl ?_
  refine ab_bipush rfl (by decide) ?_
  refine ab_nA (t := 100) (m := 6) (kc' := 2) (ks' := 204) rfl (Or.inl ⟨rfl, rfl⟩) rfl (by decide) rfl z rfl rfl ?_
  have z := z.mono (m := 36) (by decide)
  refine ab_pF rfl fl7_9 rfl (by decide) rfl rfl rfl ?_
  have z := z.r (q := 34) (k := 0) (v := 35) (by decide)
  refine ab_aload_n rfl rfl ?_
  refine ab_sipush rfl (by decide) ?_
  refine ab_nA (t := 100) (m := 144) (kc' := 1) (ks' := 60) rfl (Or.inl ⟨rfl, rfl⟩) rfl (by decide) rfl z rfl rfl ?_
  have z := z.mono (m := 37) (by decide)
  refine ab_pF rfl fl7_15 rfl (by decide) rfl rfl rfl ?_
  have z := z.r (q := 34) (k := 1) (v := 36) (by decide)
  refine ab_aload_n rfl rfl ?_
  refine ab_bipush rfl (by decide) ?_
  refine ab_nA (t := 100) (m := 60) (kc' := 0) (ks' := 0) rfl (Or.inl ⟨rfl, rfl⟩) rfl (by decide) rfl z rfl rfl ?_
  have z := z.mono (m := 38) (by decide)
  refine ab_pF rfl fl7_18 rfl (by decide) rfl rfl rfl ?_
  have z := z.r (q := 34) (k := 2) (v := 37) (by decide)
  refine ab_aload_n rfl rfl ?_
  refine ab_callV (ν := MX7_clear) (as := []) (rest := []) rfl ml7_21 cvX7_clear (ct_clear (a := 35) (c := 36) rfl rfl rfl (by simp [upr]) (by simp [upr]) z) (by decide) (by decide) (by decide) rfl (by decide) rfl rfl rfl (by decide) (fun r h' hr => ?_)
  obtain ⟨e1, e2, z⟩ := hr
  subst e1 e2
  refine ab_n (kc' := 0) (ks' := 0) (st' := []) rfl rfl rfl ?_
  exact ab_vret rfl rfl ⟨rfl, rfl, z⟩
/-- made -/
theorem ct_X2_38 {R : Nat → Nat → Option Nat} {I : HI} (hz : Zr 39 R I) : Rn MX2_init 1 1 4260 [aR 38] (HS 39 R I) (fun r h' => r = none ∧ h' = HS 40 (upr (R) 38 0 39) (I) ∧ Zr 40 (upr (R) 38 0 39) (I)) := by
  refine rn_L okX2_init (Nat.le_of_ble_eq_true rfl) rfl ?_
  have z := hz
  refine ab_aload_n rfl rfl ?_
  refine ab_objI rfl ml2_3 (by decide) (by decide) ?_
  refine ab_aload_n rfl rfl ?_
  refine ab_sipush rfl (by decide) ?_
  refine ab_nA (t := 100) (m := 4260) (kc' := 0) (ks' := 0) rfl (Or.inl ⟨rfl, rfl⟩) rfl (by decide) rfl z rfl rfl ?_
  have z := z.mono (m := 40) (by decide)
  refine ab_pF rfl fl2_11 rfl (by decide) rfl rfl rfl ?_
  have z := z.r (q := 38) (k := 0) (v := 39) (by decide)
  exact ab_vret rfl rfl ⟨rfl, rfl, z⟩
/-- made -/
theorem ct_X4_40 {R : Nat → Nat → Option Nat} {I : HI} (hz : Zr 41 R I) : Rn MX4_init 1 3 460 [aR 40, aR 3, aR 27] (HS 41 R I) (fun r h' => r = none ∧ h' = HS 44 (upr (upr (upr (upr (upr (R) 40 2 41) 40 3 42) 40 4 43) 40 0 3) 40 1 27) (I) ∧ Zr 44 (upr (upr (upr (upr (upr (R) 40 2 41) 40 3 42) 40 4 43) 40 0 3) 40 1 27) (I)) := by
  refine rn_L okX4_init (Nat.le_of_ble_eq_true rfl) rfl ?_
  have z := hz
  refine ab_aload_n rfl rfl ?_
  refine ab_objI rfl ml4_3 (by decide) (by decide) ?_
  refine ab_aload_n rfl rfl ?_
  refine ab_bipush rfl (by decide) ?_
  refine ab_nA (t := 100) (m := 6) (kc' := 2) (ks' := 454) rfl (Or.inl ⟨rfl, rfl⟩) rfl (by decide) rfl z rfl rfl ?_
  have z := z.mono (m := 42) (by decide)
  refine ab_pF rfl fl4_9 rfl (by decide) rfl rfl rfl ?_
  have z := z.r (q := 40) (k := 2) (v := 41) (by decide)
  refine ab_aload_n rfl rfl ?_
  refine ab_bipush rfl (by decide) ?_
  refine ab_nA (t := 100) (m := 6) (kc' := 1) (ks' := 448) rfl (Or.inl ⟨rfl, rfl⟩) rfl (by decide) rfl z rfl rfl ?_
  have z := z.mono (m := 43) (by decide)
  refine ab_pF rfl fl4_15 rfl (by decide) rfl rfl rfl ?_
  have z := z.r (q := 40) (k := 3) (v := 42) (by decide)
  refine ab_aload_n rfl rfl ?_
  refine ab_sipush rfl (by decide) ?_
  refine ab_nA (t := 100) (m := 448) (kc' := 0) (ks' := 0) rfl (Or.inl ⟨rfl, rfl⟩) rfl (by decide) rfl z rfl rfl ?_
  have z := z.mono (m := 44) (by decide)
  refine ab_pF rfl fl4_18 rfl (by decide) rfl rfl rfl ?_
  have z := z.r (q := 40) (k := 4) (v := 43) (by decide)
  refine ab_aload_n rfl rfl ?_
  refine ab_aload_n rfl rfl ?_
  refine ab_pF rfl fl4_21 rfl (by decide) rfl rfl rfl ?_
  have z := z.r (q := 40) (k := 0) (v := 3) (by decide)
  refine ab_aload_n rfl rfl ?_
  refine ab_aload_n rfl rfl ?_
  refine ab_pF rfl fl4_25 rfl (by decide) rfl rfl rfl ?_
  have z := z.r (q := 40) (k := 1) (v := 27) (by decide)
  exact ab_vret rfl rfl ⟨rfl, rfl, z⟩
/-- made -/
theorem ct_X6_44 {R : Nat → Nat → Option Nat} {I : HI} (hz : Zr 45 R I) : Rn MX6_init 1 7 246 [aR 44, aR 3, aR 27, aR 1] (HS 45 R I) (fun r h' => r = none ∧ h' = HS 52 (upr (upr (upr (upr (upr (upr (upr (upr (upr (upr (R) 44 3 45) 44 4 46) 44 5 47) 44 6 48) 44 7 49) 44 8 50) 44 9 51) 44 0 3) 44 1 27) 44 2 1) (I) ∧ Zr 52 (upr (upr (upr (upr (upr (upr (upr (upr (upr (upr (R) 44 3 45) 44 4 46) 44 5 47) 44 6 48) 44 7 49) 44 8 50) 44 9 51) 44 0 3) 44 1 27) 44 2 1) (I)) := by
  refine rn_L okX6_init (Nat.le_of_ble_eq_true rfl) rfl ?_
  have z := hz
  refine ab_aload_n rfl rfl ?_
  refine ab_objI rfl ml6_3 (by decide) (by decide) ?_
  refine ab_aload_n rfl rfl ?_
  refine ab_sipush rfl (by decide) ?_
  refine ab_nA (t := 100) (m := 144) (kc' := 6) (ks' := 102) rfl (Or.inl ⟨rfl, rfl⟩) rfl (by decide) rfl z rfl rfl ?_
  have z := z.mono (m := 46) (by decide)
  refine ab_pF rfl fl6_9 rfl (by decide) rfl rfl rfl ?_
  have z := z.r (q := 44) (k := 3) (v := 45) (by decide)
  refine ab_aload_n rfl rfl ?_
  refine ab_bipush rfl (by decide) ?_
  refine ab_nA (t := 100) (m := 6) (kc' := 5) (ks' := 96) rfl (Or.inl ⟨rfl, rfl⟩) rfl (by decide) rfl z rfl rfl ?_
  have z := z.mono (m := 47) (by decide)
  refine ab_pF rfl fl6_15 rfl (by decide) rfl rfl rfl ?_
  have z := z.r (q := 44) (k := 4) (v := 46) (by decide)
  refine ab_aload_n rfl rfl ?_
  refine ab_bipush rfl (by decide) ?_
  refine ab_nA (t := 100) (m := 6) (kc' := 4) (ks' := 90) rfl (Or.inl ⟨rfl, rfl⟩) rfl (by decide) rfl z rfl rfl ?_
  have z := z.mono (m := 48) (by decide)
  refine ab_pF rfl fl6_18 rfl (by decide) rfl rfl rfl ?_
  have z := z.r (q := 44) (k := 5) (v := 47) (by decide)
  refine ab_aload_n rfl rfl ?_
  refine ab_bipush rfl (by decide) ?_
  refine ab_nA (t := 100) (m := 6) (kc' := 3) (ks' := 84) rfl (Or.inl ⟨rfl, rfl⟩) rfl (by decide) rfl z rfl rfl ?_
  have z := z.mono (m := 49) (by decide)
  refine ab_pF rfl fl6_21 rfl (by decide) rfl rfl rfl ?_
  have z := z.r (q := 44) (k := 6) (v := 48) (by decide)
  refine ab_aload_n rfl rfl ?_
  refine ab_bipush rfl (by decide) ?_
  refine ab_nA (t := 102) (m := 64) (kc' := 2) (ks' := 20) rfl (Or.inr (Or.inr ⟨rfl, rfl⟩)) rfl (by decide) rfl z rfl rfl ?_
  have z := z.mono (m := 50) (by decide)
  refine ab_pF rfl fl6_24 rfl (by decide) rfl rfl rfl ?_
  have z := z.r (q := 44) (k := 7) (v := 49) (by decide)
  refine ab_aload_n rfl rfl ?_
  refine ab_bipush rfl (by decide) ?_
  refine ab_nA (t := 100) (m := 10) (kc' := 1) (ks' := 10) rfl (Or.inl ⟨rfl, rfl⟩) rfl (by decide) rfl z rfl rfl ?_
  have z := z.mono (m := 51) (by decide)
  refine ab_pF rfl fl6_28 rfl (by decide) rfl rfl rfl ?_
  have z := z.r (q := 44) (k := 8) (v := 50) (by decide)
  refine ab_aload_n rfl rfl ?_
  refine ab_bipush rfl (by decide) ?_
  refine ab_nA (t := 100) (m := 10) (kc' := 0) (ks' := 0) rfl (Or.inl ⟨rfl, rfl⟩) rfl (by decide) rfl z rfl rfl ?_
  have z := z.mono (m := 52) (by decide)
  refine ab_pF rfl fl6_31 rfl (by decide) rfl rfl rfl ?_
  have z := z.r (q := 44) (k := 9) (v := 51) (by decide)
  refine ab_aload_n rfl rfl ?_
  refine ab_aload_n rfl rfl ?_
  refine ab_pF rfl fl6_34 rfl (by decide) rfl rfl rfl ?_
  have z := z.r (q := 44) (k := 0) (v := 3) (by decide)
  refine ab_aload_n rfl rfl ?_
  refine ab_aload_n rfl rfl ?_
  refine ab_pF rfl fl6_38 rfl (by decide) rfl rfl rfl ?_
  have z := z.r (q := 44) (k := 1) (v := 27) (by decide)
  refine ab_aload_n rfl rfl ?_
  refine ab_aload_n rfl rfl ?_
  refine ab_pF rfl fl6_42 rfl (by decide) rfl rfl rfl ?_
  have z := z.r (q := 44) (k := 2) (v := 1) (by decide)
  exact ab_vret rfl rfl ⟨rfl, rfl, z⟩
/-- made -/
theorem ct_X8_52 {R : Nat → Nat → Option Nat} {I : HI} (hz : Zr 53 R I) : Rn MX8_init 1 2 150 [aR 52, aR 3, aR 27] (HS 53 R I) (fun r h' => r = none ∧ h' = HS 55 (upr (upr (upr (upr (R) 52 2 53) 52 3 54) 52 0 3) 52 1 27) (I) ∧ Zr 55 (upr (upr (upr (upr (R) 52 2 53) 52 3 54) 52 0 3) 52 1 27) (I)) := by
  refine rn_L okX8_init (Nat.le_of_ble_eq_true rfl) rfl ?_
  have z := hz
  refine ab_aload_n rfl rfl ?_
  refine ab_objI rfl ml8_3 (by decide) (by decide) ?_
  refine ab_aload_n rfl rfl ?_
  refine ab_sipush rfl (by decide) ?_
  refine ab_nA (t := 100) (m := 144) (kc' := 1) (ks' := 6) rfl (Or.inl ⟨rfl, rfl⟩) rfl (by decide) rfl z rfl rfl ?_
  have z := z.mono (m := 54) (by decide)
  refine ab_pF rfl fl8_9 rfl (by decide) rfl rfl rfl ?_
  have z := z.r (q := 52) (k := 2) (v := 53) (by decide)
  refine ab_aload_n rfl rfl ?_
  refine ab_bipush rfl (by decide) ?_
  refine ab_nA (t := 100) (m := 6) (kc' := 0) (ks' := 0) rfl (Or.inl ⟨rfl, rfl⟩) rfl (by decide) rfl z rfl rfl ?_
  have z := z.mono (m := 55) (by decide)
  refine ab_pF rfl fl8_15 rfl (by decide) rfl rfl rfl ?_
  have z := z.r (q := 52) (k := 3) (v := 54) (by decide)
  refine ab_aload_n rfl rfl ?_
  refine ab_aload_n rfl rfl ?_
  refine ab_pF rfl fl8_18 rfl (by decide) rfl rfl rfl ?_
  have z := z.r (q := 52) (k := 0) (v := 3) (by decide)
  refine ab_aload_n rfl rfl ?_
  refine ab_aload_n rfl rfl ?_
  refine ab_pF rfl fl8_22 rfl (by decide) rfl rfl rfl ?_
  have z := z.r (q := 52) (k := 1) (v := 27) (by decide)
  exact ab_vret rfl rfl ⟨rfl, rfl, z⟩
theorem cl11_7 : Cond.classLink (rx 11) 7 (clT 9).1 ∈ Wg := in_W1 28 (by decide +kernel) rfl
theorem nw9 : Cond.instantiable (clT 9).1 2 ∈ Wg := in_W1 29 (by decide +kernel) rfl
theorem nj9 : Cond.initialized (clT 9).1 ∈ Wg := in_W1 2 (by decide +kernel) rfl
theorem nt9 : ∀ k, k < 2 → fty 9 k = .int ∨ fty 9 k = .boolean ∨ fty 9 k = .long ∨ refKind (fty 9 k) = true := by decide +kernel
theorem cl11_16 : Cond.classLink (rx 11) 16 (clT 3).1 ∈ Wg := in_W1 46 (by decide +kernel) rfl
theorem cl11_23 : Cond.classLink (rx 11) 23 (clT 10).1 ∈ Wg := in_W1 100 (by decide +kernel) rfl
theorem nw10 : Cond.instantiable (clT 10).1 4 ∈ Wg := in_W1 101 (by decide +kernel) rfl
theorem nj10 : Cond.initialized (clT 10).1 ∈ Wg := in_W1 4 (by decide +kernel) rfl
theorem nt10 : ∀ k, k < 4 → fty 10 k = .int ∨ fty 10 k = .boolean ∨ fty 10 k = .long ∨ refKind (fty 10 k) = true := by decide +kernel
theorem cl11_32 : Cond.classLink (rx 11) 32 (clT 5).1 ∈ Wg := in_W2 48 (by decide +kernel) rfl
theorem nw5 : Cond.instantiable (clT 5).1 3 ∈ Wg := in_W2 49 (by decide +kernel) rfl
theorem nj5 : Cond.initialized (clT 5).1 ∈ Wg := in_W1 12 (by decide +kernel) rfl
theorem nt5 : ∀ k, k < 3 → fty 5 k = .int ∨ fty 5 k = .boolean ∨ fty 5 k = .long ∨ refKind (fty 5 k) = true := by decide +kernel
theorem cl11_41 : Cond.classLink (rx 11) 41 (clT 7).1 ∈ Wg := in_W2 66 (by decide +kernel) rfl
theorem cl11_51 : Cond.classLink (rx 11) 51 (clT 2).1 ∈ Wg := in_W2 68 (by decide +kernel) rfl
theorem nw2 : Cond.instantiable (clT 2).1 3 ∈ Wg := in_W2 69 (by decide +kernel) rfl
theorem nj2 : Cond.initialized (clT 2).1 ∈ Wg := in_W1 13 (by decide +kernel) rfl
theorem nt2 : ∀ k, k < 3 → fty 2 k = .int ∨ fty 2 k = .boolean ∨ fty 2 k = .long ∨ refKind (fty 2 k) = true := by decide +kernel
theorem cl11_58 : Cond.classLink (rx 11) 58 (clT 4).1 ∈ Wg := in_W2 85 (by decide +kernel) rfl
theorem nw4 : Cond.instantiable (clT 4).1 5 ∈ Wg := in_W2 86 (by decide +kernel) rfl
theorem nj4 : Cond.initialized (clT 4).1 ∈ Wg := in_W1 14 (by decide +kernel) rfl
theorem nt4 : ∀ k, k < 5 → fty 4 k = .int ∨ fty 4 k = .boolean ∨ fty 4 k = .long ∨ refKind (fty 4 k) = true := by decide +kernel
theorem cl11_67 : Cond.classLink (rx 11) 67 (clT 6).1 ∈ Wg := in_W2 108 (by decide +kernel) rfl
theorem nw6 : Cond.instantiable (clT 6).1 13 ∈ Wg := in_W2 109 (by decide +kernel) rfl
theorem nj6 : Cond.initialized (clT 6).1 ∈ Wg := in_W1 15 (by decide +kernel) rfl
theorem nt6 : ∀ k, k < 13 → fty 6 k = .int ∨ fty 6 k = .boolean ∨ fty 6 k = .long ∨ refKind (fty 6 k) = true := by decide +kernel
theorem cl11_76 : Cond.classLink (rx 11) 76 (clT 8).1 ∈ Wg := in_W2 159 (by decide +kernel) rfl
theorem nw8 : Cond.instantiable (clT 8).1 9 ∈ Wg := in_W2 160 (by decide +kernel) rfl
theorem nj8 : Cond.initialized (clT 8).1 ∈ Wg := in_W1 16 (by decide +kernel) rfl
theorem nt8 : ∀ k, k < 9 → fty 8 k = .int ∨ fty 8 k = .boolean ∨ fty 8 k = .long ∨ refKind (fty 8 k) = true := by decide +kernel
def R11 (R : Nat → Nat → Option Nat) : Nat → Nat → Option Nat := upr (upr (upr (upr (upr (upr (upr ((upr (upr (upr (upr (upr (upr (upr (upr (upr (upr (upr ((upr (upr (upr (upr (upr (upr ((upr (upr ((upr (upr (upr (upr ((upr (upr (upr (upr ((upr (upr (upr (upr ((upr (upr (upr (upr ((upr (upr (upr ((upr (upr (upr (upr ((upr (upr (upr (upr (upr (upr (upr (upr ((upr (upr (upr (upr (upr (upr (upr (upr ((upr (upr (R) 1 0 2) 0 0 1)) 3 0 4) 3 1 5) 3 2 6) 3 3 7) 3 4 8) 3 5 9) 3 6 10) 0 1 3)) 12 0 13) 12 1 14) 12 2 15) 12 3 16) 12 4 17) 12 5 18) 12 6 19) 11 1 12)) 20 0 21) 20 1 22) 20 2 23) 11 2 20)) 24 1 25) 24 0 1) 11 0 24)) 26 0 24) 26 1 12) 11 3 26) 0 2 11)) 27 1 28) 27 2 29) 27 0 3) 0 3 27)) 30 0 31) 30 1 32) 30 2 33) 0 4 30)) 34 0 35) 34 1 36) 34 2 37) 0 5 34)) 38 0 39) 0 6 38)) 40 2 41) 40 3 42) 40 4 43) 40 0 3) 40 1 27) 0 7 40)) 44 3 45) 44 4 46) 44 5 47) 44 6 48) 44 7 49) 44 8 50) 44 9 51) 44 0 3) 44 1 27) 44 2 1) 0 8 44)) 52 2 53) 52 3 54) 52 0 3) 52 1 27) 0 9 52) 0 10 55) 0 11 56
def I11 (I : HI) : HI := up (up (((((clG 34 35 36 ((clG 30 31 32 ((((row (up ((clG 20 21 22 (I))) 24 11 (-1)) 25 (lxF 29 0)))))))))))) 0 14 (-1)) 0 15 1
set_option maxRecDepth 16000 in
theorem ct_X11_0 {R : Nat → Nat → Option Nat} {I : HI} (hz : Zr 1 R I) : Rn MX11_init 6 56 11028 [aR 0] (HS 1 R I) (fun r h' => r = none ∧ h' = HS 57 (R11 R) (I11 I) ∧ Zr 57 (R11 R) (I11 I)) := by
  unfold R11 I11
  refine rn_L okX11_init (Nat.le_of_ble_eq_true rfl) rfl ?_
  have z := hz
  refine ab_aload_n rfl rfl ?_
  refine ab_objI rfl ml11_1 (by decide) (by decide) ?_
  refine ab_aload_n rfl rfl ?_
  refine ab_nO (t := 9) (m := 2) (kc' := 55) (ks' := 11026) rfl (by decide) rfl cl11_7 nw9 nj9 nt9 rfl z rfl rfl ?_
  have z := z.mono (m := 2) (by decide)
  refine ab_dup rfl rfl ?_
  refine ab_callIN (ν := MX9_init) (as := []) (rest := [aR 1, aR 0]) rfl ml11_9 ciX9_init (ct_X9_1 z) (by decide) (by decide) (by decide) rfl rfl (by decide) (fun r h' hr => ?_)
  obtain ⟨e1, e2, z⟩ := hr
  subst e1 e2
  refine ab_n (kc' := 54) (ks' := 9426) (st' := [aR 1, aR 0]) rfl rfl rfl ?_
  refine ab_pF rfl fl11_10 rfl (by decide) rfl rfl rfl ?_
  have z := z.r (q := 0) (k := 0) (v := 1) (by decide)
  refine ab_aload_n rfl rfl ?_
  refine ab_nO (t := 3) (m := 10) (kc' := 53) (ks' := 9416) rfl (by decide) rfl cl11_16 nw3 nj3 nt3 rfl z rfl rfl ?_
  have z := z.mono (m := 4) (by decide)
  refine ab_dup rfl rfl ?_
  refine ab_callIN (ν := MX3_init) (as := []) (rest := [aR 3, aR 0]) rfl ml11_18 ciX3_init (ct_X3_3 z) (by decide) (by decide) (by decide) rfl rfl (by decide) (fun r h' hr => ?_)
  obtain ⟨e1, e2, z⟩ := hr
  subst e1 e2
  refine ab_n (kc' := 46) (ks' := 7751) (st' := [aR 3, aR 0]) rfl rfl rfl ?_
  refine ab_pF rfl fl11_19 rfl (by decide) rfl rfl rfl ?_
  have z := z.r (q := 0) (k := 1) (v := 3) (by decide)
  refine ab_aload_n rfl rfl ?_
  refine ab_nO (t := 10) (m := 4) (kc' := 45) (ks' := 7747) rfl (by decide) rfl cl11_23 nw10 nj10 nt10 rfl z rfl rfl ?_
  have z := z.mono (m := 12) (by decide)
  refine ab_dup rfl rfl ?_
  refine ab_aload_n rfl rfl ?_
  refine ab_gR (r := 1) rfl fl11_10 rfl (by decide) rfl (by simp [upr]) ?_
  refine ab_callI (ν := MX10_init) (as := [aR 1]) (rest := [aR 11, aR 0]) rfl ml11_25 ciX10_init (ct_X10_11 z) (by decide) (by decide) (by decide) rfl rfl (by decide) (fun r h' hr => ?_)
  obtain ⟨e1, e2, z⟩ := hr
  subst e1 e2
  refine ab_n (kc' := 30) (ks' := 5812) (st' := [aR 11, aR 0]) rfl rfl rfl ?_
  refine ab_pF rfl fl11_28 rfl (by decide) rfl rfl rfl ?_
  have z := z.r (q := 0) (k := 2) (v := 11) (by decide)
  refine ab_aload_n rfl rfl ?_
  refine ab_nO (t := 5) (m := 3) (kc' := 29) (ks' := 5809) rfl (by decide) rfl cl11_32 nw5 nj5 nt5 rfl z rfl rfl ?_
  have z := z.mono (m := 28) (by decide)
  refine ab_dup rfl rfl ?_
  refine ab_aload_n rfl rfl ?_
  refine ab_gR (r := 3) rfl fl11_19 rfl (by decide) rfl (by simp [upr]) ?_
  refine ab_callI (ν := MX5_init) (as := [aR 3]) (rest := [aR 27, aR 0]) rfl ml11_34 ciX5_init (ct_X5_27 z) (by decide) (by decide) (by decide) rfl rfl (by decide) (fun r h' hr => ?_)
  obtain ⟨e1, e2, z⟩ := hr
  subst e1 e2
  refine ab_n (kc' := 27) (ks' := 5737) (st' := [aR 27, aR 0]) rfl rfl rfl ?_
  refine ab_pF rfl fl11_37 rfl (by decide) rfl rfl rfl ?_
  have z := z.r (q := 0) (k := 3) (v := 27) (by decide)
  refine ab_aload_n rfl rfl ?_
  refine ab_nO (t := 7) (m := 6) (kc' := 26) (ks' := 5731) rfl (by decide) rfl cl11_41 nw7 nj7 nt7 rfl z rfl rfl ?_
  have z := z.mono (m := 31) (by decide)
  refine ab_dup rfl rfl ?_
  refine ab_callI (ν := MX7_init) (as := []) (rest := [aR 30, aR 0]) rfl ml11_43 ciX7_init (ct_X7_30 z) (by decide) (by decide) (by decide) rfl rfl (by decide) (fun r h' hr => ?_)
  obtain ⟨e1, e2, z⟩ := hr
  subst e1 e2
  refine ab_n (kc' := 23) (ks' := 5521) (st' := [aR 30, aR 0]) rfl rfl rfl ?_
  refine ab_pF rfl fl11_44 rfl (by decide) rfl rfl rfl ?_
  have z := z.r (q := 0) (k := 4) (v := 30) (by decide)
  refine ab_aload_n rfl rfl ?_
  refine ab_nO (t := 7) (m := 6) (kc' := 22) (ks' := 5515) rfl (by decide) rfl cl11_41 nw7 nj7 nt7 rfl z rfl rfl ?_
  have z := z.mono (m := 35) (by decide)
  refine ab_dup rfl rfl ?_
  refine ab_callI (ν := MX7_init) (as := []) (rest := [aR 34, aR 0]) rfl ml11_43 ciX7_init (ct_X7_34 z) (by decide) (by decide) (by decide) rfl rfl (by decide) (fun r h' hr => ?_)
  obtain ⟨e1, e2, z⟩ := hr
  subst e1 e2
  refine ab_n (kc' := 19) (ks' := 5305) (st' := [aR 34, aR 0]) rfl rfl rfl ?_
  refine ab_pF rfl fl11_48 rfl (by decide) rfl rfl rfl ?_
  have z := z.r (q := 0) (k := 5) (v := 34) (by decide)
  refine ab_aload_n rfl rfl ?_
  refine ab_nO (t := 2) (m := 3) (kc' := 18) (ks' := 5302) rfl (by decide) rfl cl11_51 nw2 nj2 nt2 rfl z rfl rfl ?_
  have z := z.mono (m := 39) (by decide)
  refine ab_dup rfl rfl ?_
  refine ab_callIN (ν := MX2_init) (as := []) (rest := [aR 38, aR 0]) rfl ml11_53 ciX2_init (ct_X2_38 z) (by decide) (by decide) (by decide) rfl rfl (by decide) (fun r h' hr => ?_)
  obtain ⟨e1, e2, z⟩ := hr
  subst e1 e2
  refine ab_n (kc' := 17) (ks' := 1042) (st' := [aR 38, aR 0]) rfl rfl rfl ?_
  refine ab_pF rfl fl11_54 rfl (by decide) rfl rfl rfl ?_
  have z := z.r (q := 0) (k := 6) (v := 38) (by decide)
  refine ab_aload_n rfl rfl ?_
  refine ab_nO (t := 4) (m := 5) (kc' := 16) (ks' := 1037) rfl (by decide) rfl cl11_58 nw4 nj4 nt4 rfl z rfl rfl ?_
  have z := z.mono (m := 41) (by decide)
  refine ab_dup rfl rfl ?_
  refine ab_aload_n rfl rfl ?_
  refine ab_gR (r := 3) rfl fl11_19 rfl (by decide) rfl (by simp [upr]) ?_
  refine ab_aload_n rfl rfl ?_
  refine ab_gR (r := 27) rfl fl11_37 rfl (by decide) rfl (by simp [upr]) ?_
  refine ab_callI (ν := MX4_init) (as := [aR 3, aR 27]) (rest := [aR 40, aR 0]) rfl ml11_60 ciX4_init (ct_X4_40 z) (by decide) (by decide) (by decide) rfl rfl (by decide) (fun r h' hr => ?_)
  obtain ⟨e1, e2, z⟩ := hr
  subst e1 e2
  refine ab_n (kc' := 13) (ks' := 577) (st' := [aR 40, aR 0]) rfl rfl rfl ?_
  refine ab_pF rfl fl11_63 rfl (by decide) rfl rfl rfl ?_
  have z := z.r (q := 0) (k := 7) (v := 40) (by decide)
  refine ab_aload_n rfl rfl ?_
  refine ab_nO (t := 6) (m := 13) (kc' := 12) (ks' := 564) rfl (by decide) rfl cl11_67 nw6 nj6 nt6 rfl z rfl rfl ?_
  have z := z.mono (m := 45) (by decide)
  refine ab_dup rfl rfl ?_
  refine ab_aload_n rfl rfl ?_
  refine ab_gR (r := 3) rfl fl11_19 rfl (by decide) rfl (by simp [upr]) ?_
  refine ab_aload_n rfl rfl ?_
  refine ab_gR (r := 27) rfl fl11_37 rfl (by decide) rfl (by simp [upr]) ?_
  refine ab_aload_n rfl rfl ?_
  refine ab_gR (r := 1) rfl fl11_10 rfl (by decide) rfl (by simp [upr]) ?_
  refine ab_callI (ν := MX6_init) (as := [aR 3, aR 27, aR 1]) (rest := [aR 44, aR 0]) rfl ml11_69 ciX6_init (ct_X6_44 z) (by decide) (by decide) (by decide) rfl rfl (by decide) (fun r h' hr => ?_)
  obtain ⟨e1, e2, z⟩ := hr
  subst e1 e2
  refine ab_n (kc' := 5) (ks' := 318) (st' := [aR 44, aR 0]) rfl rfl rfl ?_
  refine ab_pF rfl fl11_72 rfl (by decide) rfl rfl rfl ?_
  have z := z.r (q := 0) (k := 8) (v := 44) (by decide)
  refine ab_aload_n rfl rfl ?_
  refine ab_nO (t := 8) (m := 9) (kc' := 4) (ks' := 309) rfl (by decide) rfl cl11_76 nw8 nj8 nt8 rfl z rfl rfl ?_
  have z := z.mono (m := 53) (by decide)
  refine ab_dup rfl rfl ?_
  refine ab_aload_n rfl rfl ?_
  refine ab_gR (r := 3) rfl fl11_19 rfl (by decide) rfl (by simp [upr]) ?_
  refine ab_aload_n rfl rfl ?_
  refine ab_gR (r := 27) rfl fl11_37 rfl (by decide) rfl (by simp [upr]) ?_
  refine ab_callI (ν := MX8_init) (as := [aR 3, aR 27]) (rest := [aR 52, aR 0]) rfl ml11_78 ciX8_init (ct_X8_52 z) (by decide) (by decide) (by decide) rfl rfl (by decide) (fun r h' hr => ?_)
  obtain ⟨e1, e2, z⟩ := hr
  subst e1 e2
  refine ab_n (kc' := 2) (ks' := 159) (st' := [aR 52, aR 0]) rfl rfl rfl ?_
  refine ab_pF rfl fl11_79 rfl (by decide) rfl rfl rfl ?_
  have z := z.r (q := 0) (k := 9) (v := 52) (by decide)
  refine ab_aload_n rfl rfl ?_
  refine ab_bipush rfl (by decide) ?_
  refine ab_nA (t := 100) (m := 6) (kc' := 1) (ks' := 153) rfl (Or.inl ⟨rfl, rfl⟩) rfl (by decide) rfl z rfl rfl ?_
  have z := z.mono (m := 56) (by decide)
  refine ab_pF rfl fl11_83 rfl (by decide) rfl rfl rfl ?_
  have z := z.r (q := 0) (k := 10) (v := 55) (by decide)
  refine ab_aload_n rfl rfl ?_
  refine ab_sipush rfl (by decide) ?_
  refine ab_nA (t := 100) (m := 153) (kc' := 0) (ks' := 0) rfl (Or.inl ⟨rfl, rfl⟩) rfl (by decide) rfl z rfl rfl ?_
  have z := z.mono (m := 57) (by decide)
  refine ab_pF rfl fl11_87 rfl (by decide) rfl rfl rfl ?_
  have z := z.r (q := 0) (k := 11) (v := 56) (by decide)
  refine ab_aload_n rfl rfl ?_
  refine ab_iconst rfl (by decide) ?_
  refine ab_pI rfl fl11_90 rfl (by decide) rfl ?_
  have z := z.i (q := 0) (k := 14) (v := (-1)) (by decide)
  refine ab_aload_n rfl rfl ?_
  refine ab_iconst rfl (by decide) ?_
  refine ab_pI rfl fl11_94 rfl (by decide) rfl ?_
  have z := z.i (q := 0) (k := 15) (v := 1) (by decide)
  exact ab_vret rfl rfl ⟨rfl, rfl, z⟩
def R12 (R : Nat → Nat → Option Nat) : Nat → Nat → Option Nat := upr (upr (upr (upr (upr (upr (upr (upr (upr (upr (upr (upr (upr (upr (upr (upr (upr (upr (upr (upr (upr (upr (upr (upr (upr (upr (upr (upr (upr (upr (upr (upr (upr (upr (upr (upr (upr (upr (upr (upr (upr (R) 57 0 58) 57 14 59) 57 15 60) 57 16 61) 57 17 62) 57 18 63) 57 19 64) 57 20 65) 57 21 66) 57 22 67) 57 23 68) 57 24 69) 57 25 70) 57 26 71) 57 27 72) 57 28 73) 57 29 74) 57 30 75) 57 31 76) 57 32 77) 57 36 78) 57 37 79) 57 38 80) 57 39 81) 57 40 82) 57 43 83) 57 46 84) 57 47 85) 57 48 86) 57 49 87) 57 50 88) 57 51 89) 57 55 90) 57 56 91) 57 61 92) 57 62 93) 57 64 94) 57 65 95) 57 67 96) 57 68 97) 57 69 98
def I12 (I : HI) : HI := fil (up (up (up (up (up (up (up (up (up (up (up (up (up (up (up (up (up (up (up (up (up (up (up (up (up (up (up (up (up (up (I) 57 1 0) 57 2 0) 57 3 0) 57 4 0) 57 5 0) 57 6 0) 57 7 0) 57 8 0) 57 9 (-1)) 57 10 0) 57 11 (-1)) 57 12 (-1)) 57 13 0) 57 33 0) 57 34 1) 57 35 0) 57 41 0) 57 42 0) 57 44 0) 57 45 0) 57 52 0) 57 53 0) 57 54 1) 57 57 0) 57 58 0) 57 59 0) 57 60 0) 57 63 0) 57 66 0) 57 70 0) 71 8 (fun _ => -1)
set_option maxRecDepth 16000 in
theorem ct_X12_57 {R : Nat → Nat → Option Nat} {I : HI} (hz : Zr 58 R I) : Rn MX12_init 1 41 20350 [aR 57] (HS 58 R I) (fun r h' => r = none ∧ h' = HS 99 (R12 R) (I12 I) ∧ Zr 99 (R12 R) (I12 I)) := by
  unfold R12 I12
  refine rn_L okX12_init (Nat.le_of_ble_eq_true rfl) rfl ?_
  have z := hz
  refine ab_aload_n rfl rfl ?_
  refine ab_objI rfl ml12_1 (by decide) (by decide) ?_
  refine ab_aload_n rfl rfl ?_
  refine ab_sipush rfl (by decide) ?_
  refine ab_nA (t := 100) (m := 1800) (kc' := 40) (ks' := 18550) rfl (Or.inl ⟨rfl, rfl⟩) rfl (by decide) rfl z rfl rfl ?_
  have z := z.mono (m := 59) (by decide)
  refine ab_pF rfl fl12_7 rfl (by decide) rfl rfl rfl ?_
  have z := z.r (q := 57) (k := 0) (v := 58) (by decide)
  refine ab_aload_n rfl rfl ?_
  refine ab_iconst rfl (by decide) ?_
  refine ab_pI rfl fl12_13 rfl (by decide) rfl ?_
  have z := z.i (q := 57) (k := 1) (v := 0) (by decide)
  refine ab_aload_n rfl rfl ?_
  refine ab_iconst rfl (by decide) ?_
  refine ab_pI rfl fl12_17 rfl (by decide) rfl ?_
  have z := z.i (q := 57) (k := 2) (v := 0) (by decide)
  refine ab_aload_n rfl rfl ?_
  refine ab_iconst rfl (by decide) ?_
  refine ab_pI rfl fl12_20 rfl (by decide) rfl ?_
  have z := z.i (q := 57) (k := 3) (v := 0) (by decide)
  refine ab_aload_n rfl rfl ?_
  refine ab_iconst rfl (by decide) ?_
  refine ab_pI rfl fl12_23 rfl (by decide) rfl ?_
  have z := z.i (q := 57) (k := 4) (v := 0) (by decide)
  refine ab_aload_n rfl rfl ?_
  refine ab_iconst rfl (by decide) ?_
  refine ab_pI rfl fl12_26 rfl (by decide) rfl ?_
  have z := z.i (q := 57) (k := 5) (v := 0) (by decide)
  refine ab_aload_n rfl rfl ?_
  refine ab_iconst rfl (by decide) ?_
  refine ab_pI rfl fl12_29 rfl (by decide) rfl ?_
  have z := z.i (q := 57) (k := 6) (v := 0) (by decide)
  refine ab_aload_n rfl rfl ?_
  refine ab_lconst (z := 0) rfl rfl ?_
  refine ab_pJ rfl fl12_32 rfl (by decide) rfl ?_
  have z := z.i (q := 57) (k := 7) (v := 0) (by decide)
  refine ab_aload_n rfl rfl ?_
  refine ab_iconst rfl (by decide) ?_
  refine ab_pI rfl fl12_36 rfl (by decide) rfl ?_
  have z := z.i (q := 57) (k := 8) (v := 0) (by decide)
  refine ab_aload_n rfl rfl ?_
  refine ab_iconst rfl (by decide) ?_
  refine ab_pI rfl fl12_39 rfl (by decide) rfl ?_
  have z := z.i (q := 57) (k := 9) (v := (-1)) (by decide)
  refine ab_aload_n rfl rfl ?_
  refine ab_iconst rfl (by decide) ?_
  refine ab_pI rfl fl12_42 rfl (by decide) rfl ?_
  have z := z.i (q := 57) (k := 10) (v := 0) (by decide)
  refine ab_aload_n rfl rfl ?_
  refine ab_iconst rfl (by decide) ?_
  refine ab_pI rfl fl12_45 rfl (by decide) rfl ?_
  have z := z.i (q := 57) (k := 11) (v := (-1)) (by decide)
  refine ab_aload_n rfl rfl ?_
  refine ab_iconst rfl (by decide) ?_
  refine ab_pI rfl fl12_48 rfl (by decide) rfl ?_
  have z := z.i (q := 57) (k := 12) (v := (-1)) (by decide)
  refine ab_aload_n rfl rfl ?_
  refine ab_iconst rfl (by decide) ?_
  refine ab_pI rfl fl12_51 rfl (by decide) rfl ?_
  have z := z.i (q := 57) (k := 13) (v := 0) (by decide)
  refine ab_aload_n rfl rfl ?_
  refine ab_iconst rfl (by decide) ?_
  refine ab_nA (t := 100) (m := 2) (kc' := 39) (ks' := 18548) rfl (Or.inl ⟨rfl, rfl⟩) rfl (by decide) rfl z rfl rfl ?_
  have z := z.mono (m := 60) (by decide)
  refine ab_pF rfl fl12_54 rfl (by decide) rfl rfl rfl ?_
  have z := z.r (q := 57) (k := 14) (v := 59) (by decide)
  refine ab_aload_n rfl rfl ?_
  refine ab_bipush rfl (by decide) ?_
  refine ab_nA (t := 100) (m := 12) (kc' := 38) (ks' := 18536) rfl (Or.inl ⟨rfl, rfl⟩) rfl (by decide) rfl z rfl rfl ?_
  have z := z.mono (m := 61) (by decide)
  refine ab_pF rfl fl12_57 rfl (by decide) rfl rfl rfl ?_
  have z := z.r (q := 57) (k := 15) (v := 60) (by decide)
  refine ab_aload_n rfl rfl ?_
  refine ab_bipush rfl (by decide) ?_
  refine ab_nA (t := 100) (m := 12) (kc' := 37) (ks' := 18524) rfl (Or.inl ⟨rfl, rfl⟩) rfl (by decide) rfl z rfl rfl ?_
  have z := z.mono (m := 62) (by decide)
  refine ab_pF rfl fl12_60 rfl (by decide) rfl rfl rfl ?_
  have z := z.r (q := 57) (k := 16) (v := 61) (by decide)
  refine ab_aload_n rfl rfl ?_
  refine ab_iconst rfl (by decide) ?_
  refine ab_nA (t := 100) (m := 2) (kc' := 36) (ks' := 18522) rfl (Or.inl ⟨rfl, rfl⟩) rfl (by decide) rfl z rfl rfl ?_
  have z := z.mono (m := 63) (by decide)
  refine ab_pF rfl fl12_63 rfl (by decide) rfl rfl rfl ?_
  have z := z.r (q := 57) (k := 17) (v := 62) (by decide)
  refine ab_aload_n rfl rfl ?_
  refine ab_bipush rfl (by decide) ?_
  refine ab_nA (t := 100) (m := 12) (kc' := 35) (ks' := 18510) rfl (Or.inl ⟨rfl, rfl⟩) rfl (by decide) rfl z rfl rfl ?_
  have z := z.mono (m := 64) (by decide)
  refine ab_pF rfl fl12_66 rfl (by decide) rfl rfl rfl ?_
  have z := z.r (q := 57) (k := 18) (v := 63) (by decide)
  refine ab_aload_n rfl rfl ?_
  refine ab_bipush rfl (by decide) ?_
  refine ab_nA (t := 100) (m := 12) (kc' := 34) (ks' := 18498) rfl (Or.inl ⟨rfl, rfl⟩) rfl (by decide) rfl z rfl rfl ?_
  have z := z.mono (m := 65) (by decide)
  refine ab_pF rfl fl12_69 rfl (by decide) rfl rfl rfl ?_
  have z := z.r (q := 57) (k := 19) (v := 64) (by decide)
  refine ab_aload_n rfl rfl ?_
  refine ab_bipush rfl (by decide) ?_
  refine ab_nA (t := 100) (m := 12) (kc' := 33) (ks' := 18486) rfl (Or.inl ⟨rfl, rfl⟩) rfl (by decide) rfl z rfl rfl ?_
  have z := z.mono (m := 66) (by decide)
  refine ab_pF rfl fl12_72 rfl (by decide) rfl rfl rfl ?_
  have z := z.r (q := 57) (k := 20) (v := 65) (by decide)
  refine ab_aload_n rfl rfl ?_
  refine ab_sipush rfl (by decide) ?_
  refine ab_nA (t := 100) (m := 288) (kc' := 32) (ks' := 18198) rfl (Or.inl ⟨rfl, rfl⟩) rfl (by decide) rfl z rfl rfl ?_
  have z := z.mono (m := 67) (by decide)
  refine ab_pF rfl fl12_75 rfl (by decide) rfl rfl rfl ?_
  have z := z.r (q := 57) (k := 21) (v := 66) (by decide)
  refine ab_aload_n rfl rfl ?_
  refine ab_iconst rfl (by decide) ?_
  refine ab_nA (t := 100) (m := 2) (kc' := 31) (ks' := 18196) rfl (Or.inl ⟨rfl, rfl⟩) rfl (by decide) rfl z rfl rfl ?_
  have z := z.mono (m := 68) (by decide)
  refine ab_pF rfl fl12_78 rfl (by decide) rfl rfl rfl ?_
  have z := z.r (q := 57) (k := 22) (v := 67) (by decide)
  refine ab_aload_n rfl rfl ?_
  refine ab_bipush rfl (by decide) ?_
  refine ab_nA (t := 100) (m := 12) (kc' := 30) (ks' := 18184) rfl (Or.inl ⟨rfl, rfl⟩) rfl (by decide) rfl z rfl rfl ?_
  have z := z.mono (m := 69) (by decide)
  refine ab_pF rfl fl12_81 rfl (by decide) rfl rfl rfl ?_
  have z := z.r (q := 57) (k := 23) (v := 68) (by decide)
  refine ab_aload_n rfl rfl ?_
  refine ab_bipush rfl (by decide) ?_
  refine ab_nA (t := 100) (m := 12) (kc' := 29) (ks' := 18172) rfl (Or.inl ⟨rfl, rfl⟩) rfl (by decide) rfl z rfl rfl ?_
  have z := z.mono (m := 70) (by decide)
  refine ab_pF rfl fl12_84 rfl (by decide) rfl rfl rfl ?_
  have z := z.r (q := 57) (k := 24) (v := 69) (by decide)
  refine ab_aload_n rfl rfl ?_
  refine ab_iconst rfl (by decide) ?_
  refine ab_nA (t := 100) (m := 2) (kc' := 28) (ks' := 18170) rfl (Or.inl ⟨rfl, rfl⟩) rfl (by decide) rfl z rfl rfl ?_
  have z := z.mono (m := 71) (by decide)
  refine ab_pF rfl fl12_87 rfl (by decide) rfl rfl rfl ?_
  have z := z.r (q := 57) (k := 25) (v := 70) (by decide)
  refine ab_aload_n rfl rfl ?_
  refine ab_bipush rfl (by decide) ?_
  refine ab_nA (t := 100) (m := 8) (kc' := 27) (ks' := 18162) rfl (Or.inl ⟨rfl, rfl⟩) rfl (by decide) rfl z rfl rfl ?_
  have z := z.mono (m := 72) (by decide)
  refine ab_pF rfl fl12_90 rfl (by decide) rfl rfl rfl ?_
  have z := z.r (q := 57) (k := 26) (v := 71) (by decide)
  refine ab_aload_n rfl rfl ?_
  refine ab_bipush rfl (by decide) ?_
  refine ab_nA (t := 100) (m := 8) (kc' := 26) (ks' := 18154) rfl (Or.inl ⟨rfl, rfl⟩) rfl (by decide) rfl z rfl rfl ?_
  have z := z.mono (m := 73) (by decide)
  refine ab_pF rfl fl12_93 rfl (by decide) rfl rfl rfl ?_
  have z := z.r (q := 57) (k := 27) (v := 72) (by decide)
  refine ab_aload_n rfl rfl ?_
  refine ab_sipush rfl (by decide) ?_
  refine ab_nA (t := 100) (m := 3200) (kc' := 25) (ks' := 14954) rfl (Or.inl ⟨rfl, rfl⟩) rfl (by decide) rfl z rfl rfl ?_
  have z := z.mono (m := 74) (by decide)
  refine ab_pF rfl fl12_96 rfl (by decide) rfl rfl rfl ?_
  have z := z.r (q := 57) (k := 28) (v := 73) (by decide)
  refine ab_aload_n rfl rfl ?_
  refine ab_sipush rfl (by decide) ?_
  refine ab_nA (t := 100) (m := 3200) (kc' := 24) (ks' := 11754) rfl (Or.inl ⟨rfl, rfl⟩) rfl (by decide) rfl z rfl rfl ?_
  have z := z.mono (m := 75) (by decide)
  refine ab_pF rfl fl12_99 rfl (by decide) rfl rfl rfl ?_
  have z := z.r (q := 57) (k := 29) (v := 74) (by decide)
  refine ab_aload_n rfl rfl ?_
  refine ab_bipush rfl (by decide) ?_
  refine ab_nA (t := 101) (m := 12) (kc' := 23) (ks' := 11742) rfl (Or.inr (Or.inl ⟨rfl, rfl⟩)) rfl (by decide) rfl z rfl rfl ?_
  have z := z.mono (m := 76) (by decide)
  refine ab_pF rfl fl12_102 rfl (by decide) rfl rfl rfl ?_
  have z := z.r (q := 57) (k := 30) (v := 75) (by decide)
  refine ab_aload_n rfl rfl ?_
  refine ab_bipush rfl (by decide) ?_
  refine ab_nA (t := 101) (m := 12) (kc' := 22) (ks' := 11730) rfl (Or.inr (Or.inl ⟨rfl, rfl⟩)) rfl (by decide) rfl z rfl rfl ?_
  have z := z.mono (m := 77) (by decide)
  refine ab_pF rfl fl12_106 rfl (by decide) rfl rfl rfl ?_
  have z := z.r (q := 57) (k := 31) (v := 76) (by decide)
  refine ab_aload_n rfl rfl ?_
  refine ab_bipush rfl (by decide) ?_
  refine ab_nA (t := 101) (m := 12) (kc' := 21) (ks' := 11718) rfl (Or.inr (Or.inl ⟨rfl, rfl⟩)) rfl (by decide) rfl z rfl rfl ?_
  have z := z.mono (m := 78) (by decide)
  refine ab_pF rfl fl12_109 rfl (by decide) rfl rfl rfl ?_
  have z := z.r (q := 57) (k := 32) (v := 77) (by decide)
  refine ab_aload_n rfl rfl ?_
  refine ab_iconst rfl (by decide) ?_
  refine ab_pI rfl fl12_112 rfl (by decide) rfl ?_
  have z := z.i (q := 57) (k := 33) (v := 0) (by decide)
  refine ab_aload_n rfl rfl ?_
  refine ab_iconst rfl (by decide) ?_
  refine ab_pI rfl fl12_115 rfl (by decide) rfl ?_
  have z := z.i (q := 57) (k := 34) (v := 1) (by decide)
  refine ab_aload_n rfl rfl ?_
  refine ab_iconst rfl (by decide) ?_
  refine ab_pI rfl fl12_118 rfl (by decide) rfl ?_
  have z := z.i (q := 57) (k := 35) (v := 0) (by decide)
  refine ab_aload_n rfl rfl ?_
  refine ab_bipush rfl (by decide) ?_
  refine ab_nA (t := 100) (m := 20) (kc' := 20) (ks' := 11698) rfl (Or.inl ⟨rfl, rfl⟩) rfl (by decide) rfl z rfl rfl ?_
  have z := z.mono (m := 79) (by decide)
  refine ab_pF rfl fl12_121 rfl (by decide) rfl rfl rfl ?_
  have z := z.r (q := 57) (k := 36) (v := 78) (by decide)
  refine ab_aload_n rfl rfl ?_
  refine ab_bipush rfl (by decide) ?_
  refine ab_nA (t := 100) (m := 20) (kc' := 19) (ks' := 11678) rfl (Or.inl ⟨rfl, rfl⟩) rfl (by decide) rfl z rfl rfl ?_
  have z := z.mono (m := 80) (by decide)
  refine ab_pF rfl fl12_124 rfl (by decide) rfl rfl rfl ?_
  have z := z.r (q := 57) (k := 37) (v := 79) (by decide)
  refine ab_aload_n rfl rfl ?_
  refine ab_bipush rfl (by decide) ?_
  refine ab_nA (t := 102) (m := 20) (kc' := 18) (ks' := 11658) rfl (Or.inr (Or.inr ⟨rfl, rfl⟩)) rfl (by decide) rfl z rfl rfl ?_
  have z := z.mono (m := 81) (by decide)
  refine ab_pF rfl fl12_127 rfl (by decide) rfl rfl rfl ?_
  have z := z.r (q := 57) (k := 38) (v := 80) (by decide)
  refine ab_aload_n rfl rfl ?_
  refine ab_bipush rfl (by decide) ?_
  refine ab_nA (t := 100) (m := 20) (kc' := 17) (ks' := 11638) rfl (Or.inl ⟨rfl, rfl⟩) rfl (by decide) rfl z rfl rfl ?_
  have z := z.mono (m := 82) (by decide)
  refine ab_pF rfl fl12_131 rfl (by decide) rfl rfl rfl ?_
  have z := z.r (q := 57) (k := 39) (v := 81) (by decide)
  refine ab_aload_n rfl rfl ?_
  refine ab_bipush rfl (by decide) ?_
  refine ab_nA (t := 100) (m := 20) (kc' := 16) (ks' := 11618) rfl (Or.inl ⟨rfl, rfl⟩) rfl (by decide) rfl z rfl rfl ?_
  have z := z.mono (m := 83) (by decide)
  refine ab_pF rfl fl12_134 rfl (by decide) rfl rfl rfl ?_
  have z := z.r (q := 57) (k := 40) (v := 82) (by decide)
  refine ab_aload_n rfl rfl ?_
  refine ab_iconst rfl (by decide) ?_
  refine ab_pI rfl fl12_137 rfl (by decide) rfl ?_
  have z := z.i (q := 57) (k := 41) (v := 0) (by decide)
  refine ab_aload_n rfl rfl ?_
  refine ab_iconst rfl (by decide) ?_
  refine ab_pI rfl fl12_140 rfl (by decide) rfl ?_
  have z := z.i (q := 57) (k := 42) (v := 0) (by decide)
  refine ab_aload_n rfl rfl ?_
  refine ab_sipush rfl (by decide) ?_
  refine ab_nA (t := 100) (m := 500) (kc' := 15) (ks' := 11118) rfl (Or.inl ⟨rfl, rfl⟩) rfl (by decide) rfl z rfl rfl ?_
  have z := z.mono (m := 84) (by decide)
  refine ab_pF rfl fl12_143 rfl (by decide) rfl rfl rfl ?_
  have z := z.r (q := 57) (k := 43) (v := 83) (by decide)
  refine ab_aload_n rfl rfl ?_
  refine ab_iconst rfl (by decide) ?_
  refine ab_pI rfl fl12_146 rfl (by decide) rfl ?_
  have z := z.i (q := 57) (k := 44) (v := 0) (by decide)
  refine ab_aload_n rfl rfl ?_
  refine ab_iconst rfl (by decide) ?_
  refine ab_pZ rfl fl12_149 rfl (by decide) rfl (by decide) ?_
  have z := z.i (q := 57) (k := 45) (v := 0) (by decide)
  refine ab_aload_n rfl rfl ?_
  refine ab_bipush rfl (by decide) ?_
  refine ab_nA (t := 100) (m := 6) (kc' := 14) (ks' := 11112) rfl (Or.inl ⟨rfl, rfl⟩) rfl (by decide) rfl z rfl rfl ?_
  have z := z.mono (m := 85) (by decide)
  refine ab_pF rfl fl12_153 rfl (by decide) rfl rfl rfl ?_
  have z := z.r (q := 57) (k := 46) (v := 84) (by decide)
  refine ab_aload_n rfl rfl ?_
  refine ab_bipush rfl (by decide) ?_
  refine ab_nA (t := 100) (m := 22) (kc' := 13) (ks' := 11090) rfl (Or.inl ⟨rfl, rfl⟩) rfl (by decide) rfl z rfl rfl ?_
  have z := z.mono (m := 86) (by decide)
  refine ab_pF rfl fl12_156 rfl (by decide) rfl rfl rfl ?_
  have z := z.r (q := 57) (k := 47) (v := 85) (by decide)
  refine ab_aload_n rfl rfl ?_
  refine ab_sipush rfl (by decide) ?_
  refine ab_nA (t := 100) (m := 132) (kc' := 12) (ks' := 10958) rfl (Or.inl ⟨rfl, rfl⟩) rfl (by decide) rfl z rfl rfl ?_
  have z := z.mono (m := 87) (by decide)
  refine ab_pF rfl fl12_159 rfl (by decide) rfl rfl rfl ?_
  have z := z.r (q := 57) (k := 48) (v := 86) (by decide)
  refine ab_aload_n rfl rfl ?_
  refine ab_sipush rfl (by decide) ?_
  refine ab_nA (t := 100) (m := 3168) (kc' := 11) (ks' := 7790) rfl (Or.inl ⟨rfl, rfl⟩) rfl (by decide) rfl z rfl rfl ?_
  have z := z.mono (m := 88) (by decide)
  refine ab_pF rfl fl12_162 rfl (by decide) rfl rfl rfl ?_
  have z := z.r (q := 57) (k := 49) (v := 87) (by decide)
  refine ab_aload_n rfl rfl ?_
  refine ab_bipush rfl (by decide) ?_
  refine ab_nA (t := 100) (m := 22) (kc' := 10) (ks' := 7768) rfl (Or.inl ⟨rfl, rfl⟩) rfl (by decide) rfl z rfl rfl ?_
  have z := z.mono (m := 89) (by decide)
  refine ab_pF rfl fl12_165 rfl (by decide) rfl rfl rfl ?_
  have z := z.r (q := 57) (k := 50) (v := 88) (by decide)
  refine ab_aload_n rfl rfl ?_
  refine ab_sipush rfl (by decide) ?_
  refine ab_nA (t := 100) (m := 6600) (kc' := 9) (ks' := 1168) rfl (Or.inl ⟨rfl, rfl⟩) rfl (by decide) rfl z rfl rfl ?_
  have z := z.mono (m := 90) (by decide)
  refine ab_pF rfl fl12_168 rfl (by decide) rfl rfl rfl ?_
  have z := z.r (q := 57) (k := 51) (v := 89) (by decide)
  refine ab_aload_n rfl rfl ?_
  refine ab_iconst rfl (by decide) ?_
  refine ab_pI rfl fl12_171 rfl (by decide) rfl ?_
  have z := z.i (q := 57) (k := 52) (v := 0) (by decide)
  refine ab_aload_n rfl rfl ?_
  refine ab_iconst rfl (by decide) ?_
  refine ab_pI rfl fl12_174 rfl (by decide) rfl ?_
  have z := z.i (q := 57) (k := 53) (v := 0) (by decide)
  refine ab_aload_n rfl rfl ?_
  refine ab_lconst (z := 1) rfl rfl ?_
  refine ab_pJ rfl fl12_177 rfl (by decide) rfl ?_
  have z := z.i (q := 57) (k := 54) (v := 1) (by decide)
  refine ab_aload_n rfl rfl ?_
  refine ab_sipush rfl (by decide) ?_
  refine ab_nA (t := 101) (m := 500) (kc' := 8) (ks' := 668) rfl (Or.inr (Or.inl ⟨rfl, rfl⟩)) rfl (by decide) rfl z rfl rfl ?_
  have z := z.mono (m := 91) (by decide)
  refine ab_pF rfl fl12_180 rfl (by decide) rfl rfl rfl ?_
  have z := z.r (q := 57) (k := 55) (v := 90) (by decide)
  refine ab_aload_n rfl rfl ?_
  refine ab_bipush rfl (by decide) ?_
  refine ab_nA (t := 100) (m := 12) (kc' := 7) (ks' := 656) rfl (Or.inl ⟨rfl, rfl⟩) rfl (by decide) rfl z rfl rfl ?_
  have z := z.mono (m := 92) (by decide)
  refine ab_pF rfl fl12_183 rfl (by decide) rfl rfl rfl ?_
  have z := z.r (q := 57) (k := 56) (v := 91) (by decide)
  refine ab_aload_n rfl rfl ?_
  refine ab_iconst rfl (by decide) ?_
  refine ab_pI rfl fl12_186 rfl (by decide) rfl ?_
  have z := z.i (q := 57) (k := 57) (v := 0) (by decide)
  refine ab_aload_n rfl rfl ?_
  refine ab_iconst rfl (by decide) ?_
  refine ab_pI rfl fl12_189 rfl (by decide) rfl ?_
  have z := z.i (q := 57) (k := 58) (v := 0) (by decide)
  refine ab_aload_n rfl rfl ?_
  refine ab_iconst rfl (by decide) ?_
  refine ab_pI rfl fl12_192 rfl (by decide) rfl ?_
  have z := z.i (q := 57) (k := 59) (v := 0) (by decide)
  refine ab_aload_n rfl rfl ?_
  refine ab_iconst rfl (by decide) ?_
  refine ab_pI rfl fl12_195 rfl (by decide) rfl ?_
  have z := z.i (q := 57) (k := 60) (v := 0) (by decide)
  refine ab_aload_n rfl rfl ?_
  refine ab_bipush rfl (by decide) ?_
  refine ab_nA (t := 100) (m := 6) (kc' := 6) (ks' := 650) rfl (Or.inl ⟨rfl, rfl⟩) rfl (by decide) rfl z rfl rfl ?_
  have z := z.mono (m := 93) (by decide)
  refine ab_pF rfl fl12_198 rfl (by decide) rfl rfl rfl ?_
  have z := z.r (q := 57) (k := 61) (v := 92) (by decide)
  refine ab_aload_n rfl rfl ?_
  refine ab_sipush rfl (by decide) ?_
  refine ab_nA (t := 100) (m := 448) (kc' := 5) (ks' := 202) rfl (Or.inl ⟨rfl, rfl⟩) rfl (by decide) rfl z rfl rfl ?_
  have z := z.mono (m := 94) (by decide)
  refine ab_pF rfl fl12_201 rfl (by decide) rfl rfl rfl ?_
  have z := z.r (q := 57) (k := 62) (v := 93) (by decide)
  refine ab_aload_n rfl rfl ?_
  refine ab_iconst rfl (by decide) ?_
  refine ab_pI rfl fl12_204 rfl (by decide) rfl ?_
  have z := z.i (q := 57) (k := 63) (v := 0) (by decide)
  refine ab_aload_n rfl rfl ?_
  refine ab_bipush rfl (by decide) ?_
  refine ab_nA (t := 100) (m := 6) (kc' := 4) (ks' := 196) rfl (Or.inl ⟨rfl, rfl⟩) rfl (by decide) rfl z rfl rfl ?_
  have z := z.mono (m := 95) (by decide)
  refine ab_pF rfl fl12_207 rfl (by decide) rfl rfl rfl ?_
  have z := z.r (q := 57) (k := 64) (v := 94) (by decide)
  refine ab_aload_n rfl rfl ?_
  refine ab_bipush rfl (by decide) ?_
  refine ab_nA (t := 100) (m := 24) (kc' := 3) (ks' := 172) rfl (Or.inl ⟨rfl, rfl⟩) rfl (by decide) rfl z rfl rfl ?_
  have z := z.mono (m := 96) (by decide)
  refine ab_pF rfl fl12_210 rfl (by decide) rfl rfl rfl ?_
  have z := z.r (q := 57) (k := 65) (v := 95) (by decide)
  refine ab_aload_n rfl rfl ?_
  refine ab_iconst rfl (by decide) ?_
  refine ab_pI rfl fl12_213 rfl (by decide) rfl ?_
  have z := z.i (q := 57) (k := 66) (v := 0) (by decide)
  refine ab_aload_n rfl rfl ?_
  refine ab_bipush rfl (by decide) ?_
  refine ab_nA (t := 100) (m := 6) (kc' := 2) (ks' := 166) rfl (Or.inl ⟨rfl, rfl⟩) rfl (by decide) rfl z rfl rfl ?_
  have z := z.mono (m := 97) (by decide)
  refine ab_pF rfl fl12_216 rfl (by decide) rfl rfl rfl ?_
  have z := z.r (q := 57) (k := 67) (v := 96) (by decide)
  refine ab_aload_n rfl rfl ?_
  refine ab_bipush rfl (by decide) ?_
  refine ab_nA (t := 100) (m := 6) (kc' := 1) (ks' := 160) rfl (Or.inl ⟨rfl, rfl⟩) rfl (by decide) rfl z rfl rfl ?_
  have z := z.mono (m := 98) (by decide)
  refine ab_pF rfl fl12_219 rfl (by decide) rfl rfl rfl ?_
  have z := z.r (q := 57) (k := 68) (v := 97) (by decide)
  refine ab_aload_n rfl rfl ?_
  refine ab_sipush rfl (by decide) ?_
  refine ab_nA (t := 100) (m := 160) (kc' := 0) (ks' := 0) rfl (Or.inl ⟨rfl, rfl⟩) rfl (by decide) rfl z rfl rfl ?_
  have z := z.mono (m := 99) (by decide)
  refine ab_pF rfl fl12_222 rfl (by decide) rfl rfl rfl ?_
  have z := z.r (q := 57) (k := 69) (v := 98) (by decide)
  refine ab_aload_n rfl rfl ?_
  refine ab_iconst rfl (by decide) ?_
  refine ab_pI rfl fl12_225 rfl (by decide) rfl ?_
  have z := z.i (q := 57) (k := 70) (v := 0) (by decide)
  refine ab_iconst rfl (by decide) ?_
  refine ab_istore_n rfl (by decide) ?_
  refine ab_eq (L' := [some (aR 57), some (aI ((0 : Nat) : Int))]) rfl rfl rfl ?_
  exact ab_h fil_zero.symm (sf_loop (by simp [upr]) 8 0 _ rfl rfl ⟨rfl, rfl, z.fil (by decide)⟩)
