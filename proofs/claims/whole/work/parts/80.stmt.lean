/-! ===== the statements, read: the pure reading ===== -/
abbrev SRt := Sum (Int × Int) (HI × Nat)
section STM
variable (n : Nat) (B : Nat → Int)
noncomputable def ndW (p : Nat) (w : Int) (κ : Nat → SRt) : SRt := if tw n B p = w then κ (te n B p) else .inl (1, (tsp n B p : Int))
noncomputable def ndN (p : Nat) (a b : Int) (κ : Int → Nat → SRt) : SRt := if tk n B p = 2 then (if a ≤ tv n B p ∧ tv n B p ≤ b then κ (tv n B p) (te n B p) else .inl (4, (tq n B p : Int))) else .inl (1, (tsp n B p : Int))
noncomputable def ndM (p : Nat) (κ : Int → Nat → SRt) : SRt := if tk n B p = 1 ∧ tw n B p = -1 then κ (tv n B p) (te n B p) else .inl (1, (tsp n B p : Int))
end STM
/-- which thing of the kind k bears the name v; -1: none -/
def finN (I : HI) (k : Nat) (v : Int) : Int := fi (fun w => I 14 (6 * k + w)) v (I 13 k).toNat 0
abbrev givN (I : HI) (v : Int) : Prop := finN I 0 v ≠ -1 ∨ finN I 1 v ≠ -1 ∨ finN I 2 v ≠ -1
noncomputable def knw (n : Nat) (I : HI) (k p : Nat) (κ : Nat → Nat → SRt) : SRt := ndM n (I 2) p (fun v p' => if finN I k v = -1 then .inl (3, (tq n (I 2) p : Int)) else κ (finN I k v).toNat p')
def thI (I : HI) (k : Nat) (v a b : Int) : HI := up (up (up (up I 14 (6 * k + (I 13 k).toNat) v) 15 (6 * k + (I 13 k).toNat) a) 16 (6 * k + (I 13 k).toNat) b) 13 k (I 13 k + 1)
def stl_ (j k : Nat) : Int := (stl j).getD k 0
noncomputable def kTh4 (n : Nat) (I : HI) (k : Nat) (v a : Int) (p5 : Nat) : SRt := ndN n (I 2) p5 (if k = 2 then a else 0) (stl_ 4 k) (fun b p6 => .inr (thI I k v a b, p6))
noncomputable def kTh3 (n : Nat) (I : HI) (k : Nat) (v a : Int) (p4 : Nat) : SRt := ndW n (I 2) p4 (stl_ 3 k) (kTh4 n I k v a)
noncomputable def kTh2 (n : Nat) (I : HI) (k : Nat) (v : Int) (p3 : Nat) : SRt := ndN n (I 2) p3 (stl_ 1 k) (stl_ 2 k) (kTh3 n I k v)
noncomputable def kTh1 (n : Nat) (I : HI) (k : Nat) (v : Int) (p2 : Nat) : SRt := ndW n (I 2) p2 (stl_ 0 k) (kTh2 n I k v)
noncomputable def kTh0 (n : Nat) (I : HI) (k q : Nat) (v : Int) (p2 : Nat) : SRt := if givN I v then .inl (2, (tq n (I 2) q : Int)) else kTh1 n I k v p2
noncomputable def stTh (n : Nat) (I : HI) (k p : Nat) : SRt := if 6 ≤ I 13 k then .inl (6, (tq n (I 2) p : Int)) else ndM n (I 2) (te n (I 2) p) (kTh0 n I k (te n (I 2) p))
noncomputable def kLo3 (n : Nat) (I : HI) (s : Nat) (h : Int) (w p4 : Nat) : SRt := ndN n (I 2) p4 0 20 (fun m p5 => .inr (up I 22 (24 * s + 6 * h.toNat + w) m, p5))
noncomputable def kLo2 (n : Nat) (I : HI) (s : Nat) (h : Int) (p3 : Nat) : SRt := knw n I 0 p3 (kLo3 n I s h)
noncomputable def kLo1 (n : Nat) (I : HI) (s p2 : Nat) : SRt := ndN n (I 2) p2 0 (I 15 (6 + s) - 1) (kLo2 n I s)
noncomputable def stLo (n : Nat) (I : HI) (p : Nat) : SRt := knw n I 1 (te n (I 2) p) (kLo1 n I)
noncomputable def kLi2 (n : Nat) (I : HI) (s q b p3 : Nat) : SRt := if fi (I 21) (b : Int) 6 0 ≠ -1 then .inl (3, (tq n (I 2) q : Int)) else .inr (up I 21 s (b : Int), p3)
noncomputable def kLi1 (n : Nat) (I : HI) (q s p2 : Nat) : SRt := if I 21 s ≠ -1 then .inl (3, (tq n (I 2) q : Int)) else knw n I 2 p2 (kLi2 n I s p2)
noncomputable def stLi (n : Nat) (I : HI) (p : Nat) : SRt := knw n I 1 (te n (I 2) p) (kLi1 n I (te n (I 2) p))
noncomputable def stGa (n : Nat) (I : HI) (p : Nat) : SRt := ndN n (I 2) (te n (I 2) p) 0 100 (fun v p2 => .inr (up I 12 8 v, p2))
/-- what a formula may ask -/
def seO (f : Nat) : Nat := [1, 1, 63, 249].getD f 0
def foI (I : HI) (f : Nat) : HI := up (up I 26 2 (seO f : Int)) 18 f (I 12 7)
noncomputable def stFo (n : Nat) (I : HI) (f p : Nat) : SRt := if I 18 f < I 19 f then .inl (6, (tq n (I 2) p : Int)) else match P n (I 2) (seO f) (12 * n + 7) (if f = 3 then 0 else 3) 0 (te n (I 2) p) with
  | .inl e => .inl e
  | .inr (p', c) => .inr (up (stW (foI I f) (I 12 7).toNat c) 19 f (((I 12 7).toNat + c.length : Nat) : Int), p')
noncomputable def St (n : Nat) (I : HI) (p : Nat) : SRt :=
  if tw n (I 2) p = 0 then stTh n I 0 p else if tw n (I 2) p = 3 then stTh n I 1 p else if tw n (I 2) p = 7 then stTh n I 2 p
  else if tw n (I 2) p = 6 then stLo n I p else if tw n (I 2) p = 10 then stLi n I p
  else if tw n (I 2) p = 11 then stFo n I 0 p else if tw n (I 2) p = 12 then stFo n I 1 p else if tw n (I 2) p = 13 then stFo n I 2 p else if tw n (I 2) p = 14 then stFo n I 3 p
  else if tw n (I 2) p = 15 then stGa n I p else .inl (1, (tsp n (I 2) p : Int))
/-- the whole text; g + statements so far = 81 -/
noncomputable def Tx (n : Nat) : Nat → HI → Nat → SRt
  | 0, I, p => .inr (I, p)
  | g + 1, I, p => if tk n (I 2) p = 0 then .inr (I, p) else if g = 0 then .inl (6, (tq n (I 2) p : Int)) else match St n I p with
    | .inl e => .inl e
    | .inr (I1, p1) => if sg n (I 2) p1 59 then Tx n g (up I1 12 9 (I1 12 9 + 1)) (te n (I 2) p1) else .inl (1, (tsp n (I 2) p1 : Int))
/-! ===== the class: Plan ===== -/
theorem fi_in (f : Nat → Int) (b : Int) : ∀ n k, fi f b n k = -1 ∨ ((k : Int) ≤ fi f b n k ∧ fi f b n k < (k : Int) + n ∧ f (fi f b n k).toNat = b) := by
  intro n
  induction n with
  | zero => intro k; exact Or.inl rfl
  | succ n ih =>
    intro k
    by_cases h : f k = b
    · rw [show fi f b (n + 1) k = (k : Int) from if_pos h]
      exact Or.inr ⟨by omega, by omega, by rw [Int.toNat_natCast]; exact h⟩
    · rw [show fi f b (n + 1) k = fi f b n (k + 1) from if_neg h]
      rcases ih (k + 1) with e | ⟨e1, e2, e3⟩
      · exact Or.inl e
      · exact Or.inr ⟨by omega, by omega, e3⟩
theorem sp_X3_find_12 {I : HI} {Q : Option AV → HI → Prop} {k : Nat} {v : Int} (hC : cOK I 13) (hk : k < 3) (kq : Q (some (aI (finN I k v))) I) : Rj MX3_find 0 [aR 12, aI (k : Int), aI v] I Q := by
  refine rj_of okX3_find (Nat.le_of_ble_eq_true rfl) rfl ?_
  have hc := hC k hk
  have lp : ∀ (g w : Nat) (z : Int), z = (w : Int) → w + g = (I 13 k).toNat → fi (fun w => I 14 (6 * k + w)) v g w = finN I k v → Bj MX3_find 0 2 [some (aR 12), some (aI (k : Int)), some (aI v), some (aI z)] [] I Q := by
    intro g
    induction g with
    | zero =>
      intro w z hz hg he
      refine b_iload_n rfl rfl ?_
      refine b_aload_n rfl rfl ?_
      refine b_getR (r := 13) rfl fl3_9 rfl (by decide) rfl rfl ?_
      refine b_iload_n rfl rfl ?_
      refine b_iald rfl rfl (by omega) (by omega) ?_
      rw [Int.toNat_natCast]
      refine b_icmp_ge (tgt := 35) rfl rfl (fun c9 => ?_) (fun c9 => ?_)
      · refine b_iconst rfl (by decide) ?_
        refine b_iret rfl rfl ?_
        exact qI kq (by rw [← he]; rfl) rfl
      · omega
    | succ g ih =>
      intro w z hz hg he
      have e1 : ((k : Int) * 6 + z).toNat = 6 * k + w := by omega
      refine b_iload_n rfl rfl ?_
      refine b_aload_n rfl rfl ?_
      refine b_getR (r := 13) rfl fl3_9 rfl (by decide) rfl rfl ?_
      refine b_iload_n rfl rfl ?_
      refine b_iald rfl rfl (by omega) (by omega) ?_
      rw [Int.toNat_natCast]
      refine b_icmp_ge (tgt := 35) rfl rfl (fun c9 => ?_) (fun c9 => ?_)
      · omega
      · refine b_aload_n rfl rfl ?_
        refine b_getR (r := 14) rfl fl3_15 rfl (by decide) rfl rfl ?_
        refine b_iload_n rfl rfl ?_
        refine b_bipush rfl (by decide) ?_
        refine b_imulN rfl (by omega) (by omega) ?_
        refine b_iload_n rfl rfl ?_
        refine b_iaddN rfl (by omega) (by omega) ?_
        refine b_iald rfl rfl (by omega) (by omega) ?_
        rw [e1]
        refine b_iload_n rfl rfl ?_
        refine b_icmp_ne (tgt := 29) rfl rfl (fun c24 => ?_) (fun c24 => ?_)
        · refine b_iincX (F := fun z29 => [some (aR 12), some (aI (k : Int)), some (aI v), some (aI z29)]) rfl rfl (by omega) (by omega) (fun _ => rfl) (fun z29 ez29 => ?_)
          refine b_goto (tgt := 2) rfl rfl ?_
          exact ih (w + 1) _ (by omega) (by omega) (by rw [← he]; exact (if_neg c24).symm)
        · refine b_iload_n rfl rfl ?_
          refine b_iret rfl rfl ?_
          exact qI kq (by rw [← he]; rw [show fi (fun w => I 14 (6 * k + w)) v (g + 1) w = (w : Int) from if_pos (by omega)]; omega) rfl
  refine b_iconst rfl (by decide) ?_
  refine b_istoreX_n (F := fun z1 => [some (aR 12), some (aI (k : Int)), some (aI v), some (aI z1)]) rfl (by decide) (fun _ => rfl) (fun z1 ez1 => ?_)
  exact lp _ 0 _ (by omega) (Nat.zero_add _) rfl
theorem sp_X3_add_12 {I : HI} {Q : Option AV → HI → Prop} {k : Nat} {v a b : Int} (hk : k < 3) (hc : 0 ≤ I 13 k ∧ I 13 k < 6) (kq : Q none (thI I k v a b)) : Rj MX3_add 0 [aR 12, aI (k : Int), aI v, aI a, aI b] I Q := by
  refine rj_of okX3_add (Nat.le_of_ble_eq_true rfl) rfl ?_
  have e1 : ∀ z : Int, z = I 13 k → ((k : Int) * 6 + z).toNat = 6 * k + (I 13 k).toNat := fun z hz => by omega
  refine b_aload_n rfl rfl ?_
  refine b_getR (r := 13) rfl fl3_9 rfl (by decide) rfl rfl ?_
  refine b_iload_n rfl rfl ?_
  refine b_iald rfl rfl (by omega) (by omega) ?_
  rw [Int.toNat_natCast]
  refine b_istoreX (F := fun z6 => [some (aR 12), some (aI (k : Int)), some (aI v), some (aI a), some (aI b), some (aI z6)]) rfl (by decide) (fun _ => rfl) (fun z6 ez6 => ?_)
  refine b_iload rfl rfl ?_
  refine b_bipush rfl (by decide) ?_
  refine b_icmp_ge (tgt := 65) rfl rfl (fun c12 => ?_) (fun c12 => ?_)
  · omega
  · refine b_aload_n rfl rfl ?_
    refine b_getR (r := 14) rfl fl3_15 rfl (by decide) rfl rfl ?_
    refine b_iload_n rfl rfl ?_
    refine b_bipush rfl (by decide) ?_
    refine b_imulN rfl (by omega) (by omega) ?_
    refine b_iload rfl rfl ?_
    refine b_iaddN rfl (by omega) (by omega) ?_
    refine b_iload_n rfl rfl ?_
    refine b_iast rfl rfl (by omega) (by omega) ?_
    rw [e1 _ ez6]
    refine b_aload_n rfl rfl ?_
    refine b_getR (r := 15) rfl fl3_18 rfl (by decide) rfl rfl ?_
    refine b_iload_n rfl rfl ?_
    refine b_bipush rfl (by decide) ?_
    refine b_imulN rfl (by omega) (by omega) ?_
    refine b_iload rfl rfl ?_
    refine b_iaddN rfl (by omega) (by omega) ?_
    refine b_iload_n rfl rfl ?_
    refine b_iast rfl rfl (by omega) (by omega) ?_
    rw [e1 _ ez6]
    refine b_aload_n rfl rfl ?_
    refine b_getR (r := 16) rfl fl3_21 rfl (by decide) rfl rfl ?_
    refine b_iload_n rfl rfl ?_
    refine b_bipush rfl (by decide) ?_
    refine b_imulN rfl (by omega) (by omega) ?_
    refine b_iload rfl rfl ?_
    refine b_iaddN rfl (by omega) (by omega) ?_
    refine b_iload rfl rfl ?_
    refine b_iast rfl rfl (by omega) (by omega) ?_
    rw [e1 _ ez6]
    refine b_aload_n rfl rfl ?_
    refine b_getR (r := 13) rfl fl3_9 rfl (by decide) rfl rfl ?_
    refine b_iload_n rfl rfl ?_
    refine b_dup2 rfl rfl rfl ?_
    refine b_iald rfl rfl (by omega) (by omega) ?_
    try simp only [up_ap, cpy_ap, fil_ap, row_ap, Nat.reduceEqDiff, Nat.reduceLT, Nat.reduceLeDiff, Int.toNat_natCast, Int.reduceToNat, reduceCtorEq, false_and, and_false, true_and, and_true, and_self, reduceIte]
    refine b_iconst rfl (by decide) ?_
    refine b_iaddN rfl (by omega) (by omega) ?_
    refine b_iast rfl rfl (by omega) (by omega) ?_
    rw [Int.toNat_natCast]
    refine b_vret rfl rfl ?_
    exact kq
def clrP (I : HI) : HI := up (up (up (fil (fil (fil I 13 3 (fun _ => 0)) 18 4 (fun _ => 0)) 19 4 (fun _ => 0)) 12 7 0) 12 8 0) 12 9 0
