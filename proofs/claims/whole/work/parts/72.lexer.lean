/-! ===== the class: Lexer ===== -/
/-- the text that stands on the tape, and the own words -/
def TX (I : HI) (n : Nat) : Prop := I 1 1 = (n : Int) ∧ n ≤ 1600 ∧ (∀ k, 0 ≤ I 2 k ∧ I 2 k < 256) ∧ ∀ k : Nat, k < 29 → I 25 k = own5 k
theorem sp_X1_isLetter {I : HI} {Q : Option AV → HI → Prop} {c : Int} (k1 : isLet c → Q (some (aI 1)) I) (k0 : ¬ isLet c → Q (some (aI 0)) I) : Rj MX1_isLetter 0 [aI c] I Q := by
  refine rj_of okX1_isLetter (Nat.le_of_ble_eq_true rfl) rfl ?_
  refine b_iload_n rfl rfl ?_
  refine b_bipush rfl (by decide) ?_
  refine b_icmp_lt (tgt := 16) rfl rfl (fun c3 => ?_) (fun c3 => ?_)
  · refine b_iconst rfl (by decide) ?_
    refine b_zret rfl rfl (by first | decide | omega) ?_
    first
    | exact k1 ⟨by omega, by omega⟩
    | exact k0 (fun w => by have := w.1; have := w.2; omega)
  · refine b_iload_n rfl rfl ?_
    refine b_bipush rfl (by decide) ?_
    refine b_icmp_gt (tgt := 16) rfl rfl (fun c9 => ?_) (fun c9 => ?_)
    · refine b_iconst rfl (by decide) ?_
      refine b_zret rfl rfl (by first | decide | omega) ?_
      first
      | exact k1 ⟨by omega, by omega⟩
      | exact k0 (fun w => by have := w.1; have := w.2; omega)
    · refine b_iconst rfl (by decide) ?_
      refine b_goto (tgt := 17) rfl rfl ?_
      refine b_zret rfl rfl (by first | decide | omega) ?_
      first
      | exact k1 ⟨by omega, by omega⟩
      | exact k0 (fun w => by have := w.1; have := w.2; omega)
theorem sp_X1_isDigit {I : HI} {Q : Option AV → HI → Prop} {c : Int} (k1 : isDig c → Q (some (aI 1)) I) (k0 : ¬ isDig c → Q (some (aI 0)) I) : Rj MX1_isDigit 0 [aI c] I Q := by
  refine rj_of okX1_isDigit (Nat.le_of_ble_eq_true rfl) rfl ?_
  refine b_iload_n rfl rfl ?_
  refine b_bipush rfl (by decide) ?_
  refine b_icmp_lt (tgt := 16) rfl rfl (fun c3 => ?_) (fun c3 => ?_)
  · refine b_iconst rfl (by decide) ?_
    refine b_zret rfl rfl (by first | decide | omega) ?_
    first
    | exact k1 ⟨by omega, by omega⟩
    | exact k0 (fun w => by have := w.1; have := w.2; omega)
  · refine b_iload_n rfl rfl ?_
    refine b_bipush rfl (by decide) ?_
    refine b_icmp_gt (tgt := 16) rfl rfl (fun c9 => ?_) (fun c9 => ?_)
    · refine b_iconst rfl (by decide) ?_
      refine b_zret rfl rfl (by first | decide | omega) ?_
      first
      | exact k1 ⟨by omega, by omega⟩
      | exact k0 (fun w => by have := w.1; have := w.2; omega)
    · refine b_iconst rfl (by decide) ?_
      refine b_goto (tgt := 17) rfl rfl ?_
      refine b_zret rfl rfl (by first | decide | omega) ?_
      first
      | exact k1 ⟨by omega, by omega⟩
      | exact k0 (fun w => by have := w.1; have := w.2; omega)
theorem nv_b {B : Nat → Int} {q : Nat} : ∀ i, i ≤ 4 → (∀ j, j < i → isDig (B (q + j))) → 0 ≤ nv B q i ∧ nv B q i < 10 ^ i := by
  intro i
  induction i with
  | zero => intro _ _; exact ⟨Int.le_refl _, show (0 : Int) < 1 by decide⟩
  | succ i ih =>
    intro hi h
    have h1 := ih (by omega) (fun j hj => h j (by omega))
    have h2 := h i (by omega)
    show 0 ≤ nv B q i * 10 + (B (q + i) - 48) ∧ nv B q i * 10 + (B (q + i) - 48) < 10 ^ (i + 1)
    rw [Int.pow_succ]
    unfold isDig at h2
    omega
theorem sp_X1_readNumber {I : HI} {Q : Option AV → HI → Prop} {n q : Nat} {ki st ts tu fa pl : Int} (hX : TX I n) (hk : ki = 2 ∨ ki = 4) (k4 : ki = 4 → Q none (LX I q 4 st q 0 (-1) ts tu fa pl)) (k5 : ki = 2 → runF isDig n (I 2) 5 q = 5 → ∀ po va : Int, Q none (LX I po 4 st (q + 4) va (-1) ts tu fa pl)) (k2 : ki = 2 → runF isDig n (I 2) 5 q < 5 → Q none (LX I ((q + runF isDig n (I 2) 5 q : Nat) : Int) 2 st q (nv (I 2) q (runF isDig n (I 2) 5 q)) (-1) ts tu fa pl)) : Rj MX1_readNumber 0 [aR 24] (LX I (q : Int) ki st (q : Int) 0 (-1) ts tu fa pl) Q := by
  obtain ⟨h11, hn, hB, _⟩ := hX
  have hr5 := run_le (pr := isDig) (n := n) (B := I 2) 5 q
  have hin := run_in (pr := isDig) (n := n) (B := I 2) 5 q
  have he := run_end (pr := isDig) (n := n) (B := I 2) 5 q
  generalize hr : runF isDig n (I 2) 5 q = r at *
  have lp : ∀ (m i : Nat) (z : Int) (x2 : Option AV), z = (i : Int) → i ≤ 4 → i ≤ r → i + m = r → ki = 2 → Bj MX1_readNumber 0 2 [some (aR 24), some (aI z), x2] [] (LX I ((q + i : Nat) : Int) 2 st (q : Int) (nv (I 2) q i) (-1) ts tu fa pl) Q := by
    intro m
    induction m with
    | zero =>
      intro i z x2 hz hi4 hir hi hki
      have ei : i = r := by omega
      have he2 := he (by omega)
      have kq := k2 hki (by omega)
      rw [← ei] at he2 kq
      have hb := hB (q + i)
      refine b_iload_n rfl rfl ?_
      refine b_iconst rfl (by decide) ?_
      refine b_icmp_gt (tgt := 110) rfl rfl (fun c4 => ?_) (fun c4 => ?_)
      · omega
      · refine b_aload_n rfl rfl ?_
        refine b_getI rfl fl1_73 rfl (by decide) rfl ?_
        rw [LX_3]
        refine b_iconst rfl (by decide) ?_
        refine b_icmp_ne (tgt := 110) rfl rfl (fun c12 => ?_) (fun c12 => ?_)
        · refine b_vret rfl rfl ?_
          exact kq
        · refine b_aload_n rfl rfl ?_
          refine b_getI rfl fl1_39 rfl (by decide) rfl ?_
          rw [LX_2]
          refine b_aload_n rfl rfl ?_
          refine b_getR (r := 1) rfl fl1_15 rfl (by decide) rfl rfl ?_
          refine b_getI rfl fl1_60 rfl (by decide) rfl ?_
          rw [LXc (by decide)]
          refine b_icmp_ge (tgt := 110) rfl rfl (fun c26 => ?_) (fun c26 => ?_)
          · refine b_vret rfl rfl ?_
            exact kq
          · refine b_aload_n rfl rfl ?_
            refine b_getR (r := 1) rfl fl1_15 rfl (by decide) rfl rfl ?_
            refine b_getR (r := 2) rfl fl1_64 rfl (by decide) rfl rfl ?_
            refine b_aload_n rfl rfl ?_
            refine b_getI rfl fl1_39 rfl (by decide) rfl ?_
            rw [LX_2]
            refine b_iald rfl rfl (by omega) (by omega) ?_
            rw [LXc (by decide)]
            try rw [Int.toNat_natCast]
            refine b_istoreX_n (F := fun z41 => [some (aR 24), some (aI z), some (aI z41)]) rfl (by decide) (fun _ => rfl) (fun z41 ez41 => ?_)
            refine b_iload_n rfl rfl ?_
            refine b_bipush rfl (by decide) ?_
            refine b_icmp_lt (tgt := 110) rfl rfl (fun c45 => ?_) (fun c45 => ?_)
            · refine b_vret rfl rfl ?_
              exact kq
            · refine b_iload_n rfl rfl ?_
              refine b_bipush rfl (by decide) ?_
              refine b_icmp_le (tgt := 57) rfl rfl (fun c51 => ?_) (fun c51 => ?_)
              · refine b_iload_n rfl rfl ?_
                refine b_iconst rfl (by decide) ?_
                refine b_icmp_ne (tgt := 78) rfl rfl (fun c59 => ?_) (fun c59 => ?_)
                · exact absurd ⟨by omega, by omega, by omega⟩ he2
                · exact absurd ⟨by omega, by omega, by omega⟩ he2
              · refine b_goto (tgt := 110) rfl rfl ?_
                refine b_vret rfl rfl ?_
                exact kq
    | succ m ih =>
      intro i z x2 hz hi4 hir hi hki
      obtain ⟨i1, i2, i3⟩ := hin i (by omega)
      have hv := nv_b (B := I 2) (q := q) i hi4 (fun j hj => (hin j (by omega)).2)
      have h10 : (10 : Int) ^ i ≤ 10000 := by
        have h1 : (10 : Nat) ^ i ≤ 10 ^ 4 := Nat.pow_le_pow_right (by decide) hi4
        have h2 : ((10 ^ i : Nat) : Int) ≤ ((10 ^ 4 : Nat) : Int) := Int.ofNat_le.2 h1
        rw [Int.natCast_pow, Int.natCast_pow] at h2
        exact h2
      have env : nv (I 2) q (i + 1) = nv (I 2) q i * 10 + (I 2 (q + i) - 48) := rfl
      have bad : i = 4 → ∀ (z : Int) (x2 : Option AV), Bj MX1_readNumber 0 2 [some (aR 24), some (aI z), x2] [] (LX I ((q + i : Nat) : Int) 4 st ((q + i : Nat) : Int) (nv (I 2) q i) (-1) ts tu fa pl) Q := by
        intro e4 z x2
        have kq := k5 hki (by omega) ((q + i : Nat) : Int) (nv (I 2) q i)
        rw [show ((q : Int) + 4) = ((q + i : Nat) : Int) by omega] at kq
        refine b_iload_n rfl rfl ?_
        refine b_iconst rfl (by decide) ?_
        refine b_icmp_gt (tgt := 110) rfl rfl (fun c4 => ?_) (fun c4 => ?_)
        · refine b_vret rfl rfl ?_
          exact kq
        · refine b_aload_n rfl rfl ?_
          refine b_getI rfl fl1_73 rfl (by decide) rfl ?_
          rw [LX_3]
          refine b_iconst rfl (by decide) ?_
          refine b_icmp_ne (tgt := 110) rfl rfl (fun c12 => ?_) (fun c12 => ?_)
          · refine b_vret rfl rfl ?_
            exact kq
          · omega
      refine b_iload_n rfl rfl ?_
      refine b_iconst rfl (by decide) ?_
      refine b_icmp_gt (tgt := 110) rfl rfl (fun c4 => ?_) (fun c4 => ?_)
      · omega
      · refine b_aload_n rfl rfl ?_
        refine b_getI rfl fl1_73 rfl (by decide) rfl ?_
        rw [LX_3]
        refine b_iconst rfl (by decide) ?_
        refine b_icmp_ne (tgt := 110) rfl rfl (fun c12 => ?_) (fun c12 => ?_)
        · omega
        · refine b_aload_n rfl rfl ?_
          refine b_getI rfl fl1_39 rfl (by decide) rfl ?_
          rw [LX_2]
          refine b_aload_n rfl rfl ?_
          refine b_getR (r := 1) rfl fl1_15 rfl (by decide) rfl rfl ?_
          refine b_getI rfl fl1_60 rfl (by decide) rfl ?_
          rw [LXc (by decide)]
          refine b_icmp_ge (tgt := 110) rfl rfl (fun c26 => ?_) (fun c26 => ?_)
          · omega
          · refine b_aload_n rfl rfl ?_
            refine b_getR (r := 1) rfl fl1_15 rfl (by decide) rfl rfl ?_
            refine b_getR (r := 2) rfl fl1_64 rfl (by decide) rfl rfl ?_
            refine b_aload_n rfl rfl ?_
            refine b_getI rfl fl1_39 rfl (by decide) rfl ?_
            rw [LX_2]
            refine b_iald rfl rfl (by omega) (by omega) ?_
            rw [LXc (by decide)]
            try rw [Int.toNat_natCast]
            refine b_istoreX_n (F := fun z41 => [some (aR 24), some (aI z), some (aI z41)]) rfl (by decide) (fun _ => rfl) (fun z41 ez41 => ?_)
            refine b_iload_n rfl rfl ?_
            refine b_bipush rfl (by decide) ?_
            refine b_icmp_lt (tgt := 110) rfl rfl (fun c45 => ?_) (fun c45 => ?_)
            · omega
            · refine b_iload_n rfl rfl ?_
              refine b_bipush rfl (by decide) ?_
              refine b_icmp_le (tgt := 57) rfl rfl (fun c51 => ?_) (fun c51 => ?_)
              · refine b_iload_n rfl rfl ?_
                refine b_iconst rfl (by decide) ?_
                refine b_icmp_ne (tgt := 78) rfl rfl (fun c59 => ?_) (fun c59 => ?_)
                · refine b_aload_n rfl rfl ?_
                  refine b_aload_n rfl rfl ?_
                  refine b_getI rfl fl1_45 rfl (by decide) rfl ?_
                  rw [LX_6]
                  refine b_bipush rfl (by decide) ?_
                  refine b_imulN rfl (by omega) (by omega) ?_
                  refine b_iload_n rfl rfl ?_
                  refine b_iaddN rfl (by omega) (by omega) ?_
                  refine b_bipush rfl (by decide) ?_
                  refine b_isubN rfl (by omega) (by omega) ?_
                  rw [show nv (I 2) q i * 10 + z41 - 48 = nv (I 2) q (i + 1) by omega]
                  refine b_putI rfl fl1_45 rfl (by decide) rfl ?_
                  rw [LX_u6]
                  refine b_aload_n rfl rfl ?_
                  refine b_dup rfl rfl ?_
                  refine b_getI rfl fl1_39 rfl (by decide) rfl ?_
                  rw [LX_2]
                  refine b_iconst rfl (by decide) ?_
                  refine b_iaddN rfl (by omega) (by omega) ?_
                  refine b_putI rfl fl1_39 rfl (by decide) rfl ?_
                  rw [LX_u2]
                  refine b_iincX (F := fun z104 => [some (aR 24), some (aI z104), some (aI z41)]) rfl rfl (by omega) (by omega) (fun _ => rfl) (fun z104 ez104 => ?_)
                  refine b_goto (tgt := 2) rfl rfl ?_
                  first
                  | (have e4 : i = 4 := by omega
                     exact bad e4 _ _)
                  | (refine b_cg ?_ (ih (i + 1) _ _ (by omega) (by omega) (by omega) (by omega) hki)
                     rw [show ((q + (i + 1) : Nat) : Int) = ((q + i : Nat) : Int) + 1 by omega])
                · refine b_aload_n rfl rfl ?_
                  refine b_iconst rfl (by decide) ?_
                  refine b_putI rfl fl1_73 rfl (by decide) rfl ?_
                  rw [LX_u3]
                  refine b_aload_n rfl rfl ?_
                  refine b_aload_n rfl rfl ?_
                  refine b_getI rfl fl1_39 rfl (by decide) rfl ?_
                  rw [LX_2]
                  refine b_putI rfl fl1_67 rfl (by decide) rfl ?_
                  rw [LX_u5]
                  refine b_goto (tgt := 104) rfl rfl ?_
                  refine b_iincX (F := fun z104 => [some (aR 24), some (aI z104), some (aI z41)]) rfl rfl (by omega) (by omega) (fun _ => rfl) (fun z104 ez104 => ?_)
                  refine b_goto (tgt := 2) rfl rfl ?_
                  first
                  | (have e4 : i = 4 := by omega
                     exact bad e4 _ _)
                  | (refine b_cg ?_ (ih (i + 1) _ _ (by omega) (by omega) (by omega) (by omega) hki)
                     rw [show ((q + (i + 1) : Nat) : Int) = ((q + i : Nat) : Int) + 1 by omega])
              · omega
  refine rj_of okX1_readNumber (Nat.le_of_ble_eq_true rfl) rfl ?_
  rcases hk with hk | hk
  · subst hk
    refine b_iconst rfl (by decide) ?_
    refine b_istoreX_n (F := fun z1 => [some (aR 24), some (aI z1), none]) rfl (by decide) (fun _ => rfl) (fun z1 ez1 => ?_)
    exact lp r 0 _ _ (by omega) (by omega) (by omega) (by omega) rfl
  · subst hk
    have kq := k4 rfl
    refine b_iconst rfl (by decide) ?_
    refine b_istoreX_n (F := fun z1 => [some (aR 24), some (aI z1), none]) rfl (by decide) (fun _ => rfl) (fun z1 ez1 => ?_)
    refine b_iload_n rfl rfl ?_
    refine b_iconst rfl (by decide) ?_
    refine b_icmp_gt (tgt := 110) rfl rfl (fun c4 => ?_) (fun c4 => ?_)
    · refine b_vret rfl rfl ?_
      exact kq
    · refine b_aload_n rfl rfl ?_
      refine b_getI rfl fl1_73 rfl (by decide) rfl ?_
      rw [LX_3]
      refine b_iconst rfl (by decide) ?_
      refine b_icmp_ne (tgt := 110) rfl rfl (fun c12 => ?_) (fun c12 => ?_)
      · refine b_vret rfl rfl ?_
        exact kq
      · omega
theorem pw32 {k : Nat} : 32 ^ k = 2 ^ (5 * k) := by rw [Nat.pow_mul]
theorem orS {a c i : Nat} (hi : i < 6) (ha : a < 32 ^ i) (hc : c < 32) : iOr ((a * 32 ^ (6 - i) : Nat) : Int) (iShl (c : Int) (5 * (5 - (i : Int)))) = (((a * 32 + c) * 32 ^ (5 - i) : Nat) : Int) := by
  have h30 : 32 ^ i * 32 ^ (6 - i) = 1073741824 := by rw [← Nat.pow_add, show i + (6 - i) = 6 by omega]
  have e6 : (32 : Nat) ^ (6 - i) = 32 * 32 ^ (5 - i) := by rw [show 6 - i = (5 - i) + 1 by omega, Nat.pow_succ', Nat.mul_comm]
  have hb : (a * 32 + c) * 32 ^ (5 - i) < 1073741824 := by
    have h1 : a * 32 + c < 32 ^ i * 32 := by omega
    have h2 : (a * 32 + c) * 32 ^ (5 - i) < 32 ^ i * 32 * 32 ^ (5 - i) := Nat.mul_lt_mul_of_pos_right h1 (Nat.pow_pos (by decide))
    rw [Nat.mul_assoc, ← e6, h30] at h2
    exact h2
  have hcb : c * 32 ^ (5 - i) ≤ (a * 32 + c) * 32 ^ (5 - i) := Nat.mul_le_mul_right _ (by omega)
  have es : iShl (c : Int) (5 * (5 - (i : Int))) = ((c * 32 ^ (5 - i) : Nat) : Int) := by
    rw [show 5 * (5 - (i : Int)) = ((5 * (5 - i) : Nat) : Int) by omega, iShl_p _ (by omega)]
    have : (c : Int) * 2 ^ (5 * (5 - i)) = ((c * 32 ^ (5 - i) : Nat) : Int) := by rw [Int.natCast_mul, pw32, Int.natCast_pow]; rfl
    rw [this]
    exact w32_id (by omega) (by omega)
  have eo : a * 32 ^ (6 - i) ||| c * 32 ^ (5 - i) = (a * 32 + c) * 32 ^ (5 - i) := by
    rw [e6, ← Nat.mul_assoc, pw32, ← Nat.shiftLeft_eq, ← Nat.shiftLeft_eq, ← Nat.shiftLeft_eq, ← Nat.shiftLeft_or_distrib]
    congr 1
    have := Nat.two_pow_add_eq_or_of_lt (i := 5) (b := c) hc a
    rw [show 2 ^ 5 * a = a * 32 by omega] at this
    exact this.symm
  rw [es, iOr_nat (by rw [eo]; omega), eo]
theorem e5_lt {l : Nat → Nat} (h : ∀ i, l i < 32) : ∀ i, e5 l i < 32 ^ i := by
  intro i
  induction i with
  | zero => exact (by decide : 0 < 32 ^ 0)
  | succ i ih =>
    have := h i
    show e5 l i * 32 + l i < _
    rw [Nat.pow_succ]
    omega
theorem e5_pad {l : Nat → Nat} {r : Nat} (h : ∀ i, r ≤ i → l i = 0) : ∀ j, e5 l (r + j) = e5 l r * 32 ^ j := by
  intro j
  induction j with
  | zero => rw [Nat.pow_zero, Nat.mul_one]; rfl
  | succ j ih =>
    show e5 l (r + j) * 32 + l (r + j) = _
    rw [h (r + j) (by omega), ih, Nat.pow_succ, ← Nat.mul_assoc]
    rfl
def lts (B : Nat → Int) (q r : Nat) : Nat → Nat := fun i => if i < r then (B (q + i) - 96).toNat else 0
theorem sp_X1_readWord {I : HI} {Q : Option AV → HI → Prop} {n q : Nat} {ki st ts tu fa pl : Int} (hX : TX I n) (hk : ki = 1 ∨ ki = 4) (k4 : ki = 4 → Q none (LX I q 4 st q 0 (-1) ts tu fa pl)) (k7 : ki = 1 → runF isLet n (I 2) 7 q = 7 → ∀ po va : Int, Q none (LX I po 4 st (q + 6) va (-1) ts tu fa pl)) (k1 : ki = 1 → runF isLet n (I 2) 7 q < 7 → Q none (LX I ((q + runF isLet n (I 2) 7 q : Nat) : Int) 1 st q (e5 (lts (I 2) q (runF isLet n (I 2) 7 q)) 6 : Int) (fP (fun k => own5 k = (e5 (lts (I 2) q (runF isLet n (I 2) 7 q)) 6 : Int)) 29 0) ts tu fa pl)) : Rj MX1_readWord 0 [aR 24] (LX I (q : Int) ki st (q : Int) 0 (-1) ts tu fa pl) Q := by
  obtain ⟨h11, hn, hB, hO⟩ := hX
  have hr7 := run_le (pr := isLet) (n := n) (B := I 2) 7 q
  have hin := run_in (pr := isLet) (n := n) (B := I 2) 7 q
  have he := run_end (pr := isLet) (n := n) (B := I 2) 7 q
  generalize hr : runF isLet n (I 2) 7 q = r at *
  have l32 : ∀ i, lts (I 2) q r i < 32 := fun i => by
    unfold lts
    split
    · rename_i h
      have := (hin i h).2
      unfold isLet at this
      omega
    · decide
  have l0 : ∀ i, r ≤ i → lts (I 2) q r i = 0 := fun i hi => by unfold lts; rw [if_neg (by omega)]
  have lw : ki = 1 → r < 7 → ∀ (m k : Nat) (z w : Int) (x2 : Option AV), z = (k : Int) → k + m = 29 → ((w = -1 ∧ ∀ j, j < k → own5 j ≠ (e5 (lts (I 2) q r) 6 : Int)) ∨ (∃ j : Nat, j < k ∧ own5 j = (e5 (lts (I 2) q r) 6 : Int) ∧ w = (j : Int))) → Bj MX1_readWord 0 119 [some (aR 24), some (aI z), x2] [] (LX I ((q + r : Nat) : Int) 1 st (q : Int) (e5 (lts (I 2) q r) 6 : Int) w ts tu fa pl) Q := by
    intro hki hr7 m
    induction m with
    | zero =>
      intro k z w x2 hz hk hw
      have ek : k = 29 := by omega
      have ew : w = fP (fun k => own5 k = (e5 (lts (I 2) q r) 6 : Int)) 29 0 := by
        rcases hw with ⟨h1, h2⟩ | ⟨j, h1, h2, h3⟩
        · rw [h1]
          exact ((fP_no 29 0).2 (fun j _ hj => h2 j (by omega))).symm
        · have hne : fP (fun k => own5 k = (e5 (lts (I 2) q r) 6 : Int)) 29 0 ≠ -1 := fun z => (fP_no 29 0).1 z j (by omega) (by omega) h2
          obtain ⟨j', f1, _, f3, f4, _⟩ := fP_yes (p := fun k => own5 k = (e5 (lts (I 2) q r) 6 : Int)) 29 0 hne
          rw [f1, h3]
          have := own5_inj ⟨j, by omega⟩ ⟨j', by omega⟩ (h2.trans f4.symm)
          have : j = j' := Fin.val_eq_of_eq this
          omega
      have kq := k1 hki hr7
      rw [← ew] at kq
      refine b_iload_n rfl rfl ?_
      refine b_bipush rfl (by decide) ?_
      refine b_icmp_ge (tgt := 157) rfl rfl (fun c122 => ?_) (fun c122 => ?_)
      · refine b_vret rfl rfl ?_
        exact kq
      · omega
    | succ m ih =>
      intro k z w x2 hz hk hw
      subst hz
      have ho := hO k (by omega)
      refine b_iload_n rfl rfl ?_
      refine b_bipush rfl (by decide) ?_
      refine b_icmp_ge (tgt := 157) rfl rfl (fun c122 => ?_) (fun c122 => ?_)
      · omega
      · refine b_aload_n rfl rfl ?_
        refine b_getI rfl fl1_73 rfl (by decide) rfl ?_
        rw [LX_3]
        refine b_iconst rfl (by decide) ?_
        refine b_icmp_ne (tgt := 157) rfl rfl (fun c130 => ?_) (fun c130 => ?_)
        · omega
        · refine b_aload_n rfl rfl ?_
          refine b_getR (r := 25) rfl fl1_9 rfl (by decide) rfl rfl ?_
          refine b_iload_n rfl rfl ?_
          refine b_iald rfl rfl (by omega) (by omega) ?_
          rw [LXc (by decide)]
          try rw [Int.toNat_natCast]
          refine b_aload_n rfl rfl ?_
          refine b_getI rfl fl1_45 rfl (by decide) rfl ?_
          rw [LX_6]
          rw [ho]
          refine b_icmp_ne (tgt := 151) rfl rfl (fun c143 => ?_) (fun c143 => ?_)
          · refine b_iincX (F := fun z151 => [some (aR 24), some (aI z151), x2]) rfl rfl (by omega) (by omega) (fun _ => rfl) (fun z151 ez151 => ?_)
            refine b_goto (tgt := 119) rfl rfl ?_
            first
            | (have e1 : own5 k ≠ (e5 (lts (I 2) q r) 6 : Int) := by assumption
               refine ih (k + 1) _ _ _ (by omega) (by omega) ?_
               rcases hw with ⟨h1, h2⟩ | ⟨j, h1, h2, h3⟩
               · refine Or.inl ⟨h1, fun j hj => ?_⟩
                 by_cases e : j = k
                 · rw [e]; exact e1
                 · exact h2 j (by omega)
               · exact Or.inr ⟨j, by omega, h2, h3⟩)
            | (have e1 : own5 k = (e5 (lts (I 2) q r) 6 : Int) := Classical.byContradiction (fun w => by omega)
               exact ih (k + 1) _ _ _ (by omega) (by omega) (Or.inr ⟨k, by omega, e1, rfl⟩))
          · refine b_aload_n rfl rfl ?_
            refine b_iload_n rfl rfl ?_
            refine b_putI rfl fl1_70 rfl (by decide) rfl ?_
            rw [LX_u7]
            refine b_iincX (F := fun z151 => [some (aR 24), some (aI z151), x2]) rfl rfl (by omega) (by omega) (fun _ => rfl) (fun z151 ez151 => ?_)
            refine b_goto (tgt := 119) rfl rfl ?_
            first
            | (have e1 : own5 k ≠ (e5 (lts (I 2) q r) 6 : Int) := by assumption
               refine ih (k + 1) _ _ _ (by omega) (by omega) ?_
               rcases hw with ⟨h1, h2⟩ | ⟨j, h1, h2, h3⟩
               · refine Or.inl ⟨h1, fun j hj => ?_⟩
                 by_cases e : j = k
                 · rw [e]; exact e1
                 · exact h2 j (by omega)
               · exact Or.inr ⟨j, by omega, h2, h3⟩)
            | (have e1 : own5 k = (e5 (lts (I 2) q r) 6 : Int) := Classical.byContradiction (fun w => by omega)
               exact ih (k + 1) _ _ _ (by omega) (by omega) (Or.inr ⟨k, by omega, e1, rfl⟩))
  have lp : ∀ (m i : Nat) (z : Int) (x2 : Option AV), z = (i : Int) → i ≤ 6 → i ≤ r → i + m = r → ki = 1 → Bj MX1_readWord 0 2 [some (aR 24), some (aI z), x2] [] (LX I ((q + i : Nat) : Int) 1 st (q : Int) ((e5 (lts (I 2) q r) i * 32 ^ (6 - i) : Nat) : Int) (-1) ts tu fa pl) Q := by
    intro m
    induction m with
    | zero =>
      intro i z x2 hz hi6 hir hi hki
      have ei : i = r := by omega
      have he2 := he (by omega)
      have ev : e5 (lts (I 2) q r) i * 32 ^ (6 - i) = e5 (lts (I 2) q r) 6 := by
        have := e5_pad (l := lts (I 2) q r) (r := i) (fun j hj => l0 j (by omega)) (6 - i)
        rw [show i + (6 - i) = 6 by omega] at this
        exact this.symm
      rw [ev]
      rw [← ei] at he2
      have hb := hB (q + i)
      have lq := fun z x2 hz => lw hki (by omega) 29 0 z (-1) x2 hz (by omega) (Or.inl ⟨rfl, fun j hj => absurd hj (by omega)⟩)
      rw [← ei] at lq ⊢
      refine b_iload_n rfl rfl ?_
      refine b_bipush rfl (by decide) ?_
      refine b_icmp_gt (tgt := 117) rfl rfl (fun c5 => ?_) (fun c5 => ?_)
      · omega
      · refine b_aload_n rfl rfl ?_
        refine b_getI rfl fl1_73 rfl (by decide) rfl ?_
        rw [LX_3]
        refine b_iconst rfl (by decide) ?_
        refine b_icmp_ne (tgt := 117) rfl rfl (fun c13 => ?_) (fun c13 => ?_)
        · refine b_iconst rfl (by decide) ?_
          refine b_istoreX_n (F := fun z118 => [some (aR 24), some (aI z118), x2]) rfl (by decide) (fun _ => rfl) (fun z118 ez118 => ?_)
          exact lq _ _ (by omega)
        · refine b_aload_n rfl rfl ?_
          refine b_getI rfl fl1_39 rfl (by decide) rfl ?_
          rw [LX_2]
          refine b_aload_n rfl rfl ?_
          refine b_getR (r := 1) rfl fl1_15 rfl (by decide) rfl rfl ?_
          refine b_getI rfl fl1_60 rfl (by decide) rfl ?_
          rw [LXc (by decide)]
          refine b_icmp_ge (tgt := 117) rfl rfl (fun c27 => ?_) (fun c27 => ?_)
          · refine b_iconst rfl (by decide) ?_
            refine b_istoreX_n (F := fun z118 => [some (aR 24), some (aI z118), x2]) rfl (by decide) (fun _ => rfl) (fun z118 ez118 => ?_)
            exact lq _ _ (by omega)
          · refine b_aload_n rfl rfl ?_
            refine b_getR (r := 1) rfl fl1_15 rfl (by decide) rfl rfl ?_
            refine b_getR (r := 2) rfl fl1_64 rfl (by decide) rfl rfl ?_
            refine b_aload_n rfl rfl ?_
            refine b_getI rfl fl1_39 rfl (by decide) rfl ?_
            rw [LX_2]
            refine b_iald rfl rfl (by omega) (by omega) ?_
            rw [LXc (by decide)]
            try rw [Int.toNat_natCast]
            refine b_istoreX_n (F := fun z42 => [some (aR 24), some (aI z), some (aI z42)]) rfl (by decide) (fun _ => rfl) (fun z42 ez42 => ?_)
            refine b_iload_n rfl rfl ?_
            refine b_bipush rfl (by decide) ?_
            refine b_icmp_lt (tgt := 117) rfl rfl (fun c46 => ?_) (fun c46 => ?_)
            · refine b_iconst rfl (by decide) ?_
              refine b_istoreX_n (F := fun z118 => [some (aR 24), some (aI z118), some (aI z42)]) rfl (by decide) (fun _ => rfl) (fun z118 ez118 => ?_)
              exact lq _ _ (by omega)
            · refine b_iload_n rfl rfl ?_
              refine b_bipush rfl (by decide) ?_
              refine b_icmp_le (tgt := 58) rfl rfl (fun c52 => ?_) (fun c52 => ?_)
              · refine b_iload_n rfl rfl ?_
                refine b_bipush rfl (by decide) ?_
                refine b_icmp_ne (tgt := 80) rfl rfl (fun c61 => ?_) (fun c61 => ?_)
                · exact absurd ⟨by omega, by omega, by omega⟩ he2
                · exact absurd ⟨by omega, by omega, by omega⟩ he2
              · refine b_goto (tgt := 117) rfl rfl ?_
                refine b_iconst rfl (by decide) ?_
                refine b_istoreX_n (F := fun z118 => [some (aR 24), some (aI z118), some (aI z42)]) rfl (by decide) (fun _ => rfl) (fun z118 ez118 => ?_)
                exact lq _ _ (by omega)
    | succ m ih =>
      intro i z x2 hz hi6 hir hi hki
      obtain ⟨i1, i2, i3⟩ := hin i (by omega)
      have hv := e5_lt l32 i
      have ec : ((lts (I 2) q r i : Nat) : Int) = I 2 (q + i) - 97 + 1 := by
        unfold lts
        rw [if_pos (by omega)]
        omega
      have bad : i = 6 → ∀ (z : Int) (x2 : Option AV), Bj MX1_readWord 0 2 [some (aR 24), some (aI z), x2] [] (LX I ((q + i : Nat) : Int) 4 st ((q + i : Nat) : Int) ((e5 (lts (I 2) q r) i * 32 ^ (6 - i) : Nat) : Int) (-1) ts tu fa pl) Q := by
        intro e6 z x2
        have kq := k7 hki (by omega) ((q + i : Nat) : Int) ((e5 (lts (I 2) q r) i * 32 ^ (6 - i) : Nat) : Int)
        rw [show ((q : Int) + 6) = ((q + i : Nat) : Int) by omega] at kq
        refine b_iload_n rfl rfl ?_
        refine b_bipush rfl (by decide) ?_
        refine b_icmp_gt (tgt := 117) rfl rfl (fun c5 => ?_) (fun c5 => ?_)
        · refine b_iconst rfl (by decide) ?_
          refine b_istoreX_n (F := fun z118 => [some (aR 24), some (aI z118), x2]) rfl (by decide) (fun _ => rfl) (fun z118 ez118 => ?_)
          refine b_iload_n rfl rfl ?_
          refine b_bipush rfl (by decide) ?_
          refine b_icmp_ge (tgt := 157) rfl rfl (fun c122 => ?_) (fun c122 => ?_)
          · omega
          · refine b_aload_n rfl rfl ?_
            refine b_getI rfl fl1_73 rfl (by decide) rfl ?_
            rw [LX_3]
            refine b_iconst rfl (by decide) ?_
            refine b_icmp_ne (tgt := 157) rfl rfl (fun c130 => ?_) (fun c130 => ?_)
            · refine b_vret rfl rfl ?_
              exact kq
            · omega
        · refine b_aload_n rfl rfl ?_
          refine b_getI rfl fl1_73 rfl (by decide) rfl ?_
          rw [LX_3]
          refine b_iconst rfl (by decide) ?_
          refine b_icmp_ne (tgt := 117) rfl rfl (fun c13 => ?_) (fun c13 => ?_)
          · refine b_iconst rfl (by decide) ?_
            refine b_istoreX_n (F := fun z118 => [some (aR 24), some (aI z118), x2]) rfl (by decide) (fun _ => rfl) (fun z118 ez118 => ?_)
            refine b_iload_n rfl rfl ?_
            refine b_bipush rfl (by decide) ?_
            refine b_icmp_ge (tgt := 157) rfl rfl (fun c122 => ?_) (fun c122 => ?_)
            · omega
            · refine b_aload_n rfl rfl ?_
              refine b_getI rfl fl1_73 rfl (by decide) rfl ?_
              rw [LX_3]
              refine b_iconst rfl (by decide) ?_
              refine b_icmp_ne (tgt := 157) rfl rfl (fun c130 => ?_) (fun c130 => ?_)
              · refine b_vret rfl rfl ?_
                exact kq
              · omega
          · omega
      refine b_iload_n rfl rfl ?_
      refine b_bipush rfl (by decide) ?_
      refine b_icmp_gt (tgt := 117) rfl rfl (fun c5 => ?_) (fun c5 => ?_)
      · omega
      · refine b_aload_n rfl rfl ?_
        refine b_getI rfl fl1_73 rfl (by decide) rfl ?_
        rw [LX_3]
        refine b_iconst rfl (by decide) ?_
        refine b_icmp_ne (tgt := 117) rfl rfl (fun c13 => ?_) (fun c13 => ?_)
        · omega
        · refine b_aload_n rfl rfl ?_
          refine b_getI rfl fl1_39 rfl (by decide) rfl ?_
          rw [LX_2]
          refine b_aload_n rfl rfl ?_
          refine b_getR (r := 1) rfl fl1_15 rfl (by decide) rfl rfl ?_
          refine b_getI rfl fl1_60 rfl (by decide) rfl ?_
          rw [LXc (by decide)]
          refine b_icmp_ge (tgt := 117) rfl rfl (fun c27 => ?_) (fun c27 => ?_)
          · omega
          · refine b_aload_n rfl rfl ?_
            refine b_getR (r := 1) rfl fl1_15 rfl (by decide) rfl rfl ?_
            refine b_getR (r := 2) rfl fl1_64 rfl (by decide) rfl rfl ?_
            refine b_aload_n rfl rfl ?_
            refine b_getI rfl fl1_39 rfl (by decide) rfl ?_
            rw [LX_2]
            refine b_iald rfl rfl (by omega) (by omega) ?_
            rw [LXc (by decide)]
            try rw [Int.toNat_natCast]
            refine b_istoreX_n (F := fun z42 => [some (aR 24), some (aI z), some (aI z42)]) rfl (by decide) (fun _ => rfl) (fun z42 ez42 => ?_)
            refine b_iload_n rfl rfl ?_
            refine b_bipush rfl (by decide) ?_
            refine b_icmp_lt (tgt := 117) rfl rfl (fun c46 => ?_) (fun c46 => ?_)
            · omega
            · refine b_iload_n rfl rfl ?_
              refine b_bipush rfl (by decide) ?_
              refine b_icmp_le (tgt := 58) rfl rfl (fun c52 => ?_) (fun c52 => ?_)
              · refine b_iload_n rfl rfl ?_
                refine b_bipush rfl (by decide) ?_
                refine b_icmp_ne (tgt := 80) rfl rfl (fun c61 => ?_) (fun c61 => ?_)
                · refine b_aload_n rfl rfl ?_
                  refine b_dup rfl rfl ?_
                  refine b_getI rfl fl1_45 rfl (by decide) rfl ?_
                  rw [LX_6]
                  refine b_iload_n rfl rfl ?_
                  refine b_bipush rfl (by decide) ?_
                  refine b_isubN rfl (by omega) (by omega) ?_
                  refine b_iconst rfl (by decide) ?_
                  refine b_iaddN rfl (by omega) (by omega) ?_
                  refine b_iconst rfl (by decide) ?_
                  refine b_iconst rfl (by decide) ?_
                  refine b_iload_n rfl rfl ?_
                  refine b_isubN rfl (by omega) (by omega) ?_
                  refine b_imulN rfl (by omega) (by omega) ?_
                  rw [show z42 - 97 + 1 = ((lts (I 2) q r i : Nat) : Int) by omega, hz]
                  refine b_ishl rfl ?_
                  refine b_ior rfl ?_
                  rw [orS (by omega) hv (l32 i)]
                  refine b_putI rfl fl1_45 rfl (by decide) rfl ?_
                  rw [LX_u6]
                  refine b_aload_n rfl rfl ?_
                  refine b_dup rfl rfl ?_
                  refine b_getI rfl fl1_39 rfl (by decide) rfl ?_
                  rw [LX_2]
                  refine b_iconst rfl (by decide) ?_
                  refine b_iaddN rfl (by omega) (by omega) ?_
                  refine b_putI rfl fl1_39 rfl (by decide) rfl ?_
                  rw [LX_u2]
                  refine b_iincX (F := fun z111 => [some (aR 24), some (aI z111), some (aI z42)]) rfl rfl (by omega) (by omega) (fun _ => rfl) (fun z111 ez111 => ?_)
                  refine b_goto (tgt := 2) rfl rfl ?_
                  first
                  | (have e6 : i = 6 := by omega
                     exact bad e6 _ _)
                  | (refine b_cg ?_ (ih (i + 1) _ _ (by omega) (by omega) (by omega) (by omega) hki)
                     rw [show ((q + (i + 1) : Nat) : Int) = ((q + i : Nat) : Int) + 1 by omega, show 6 - (i + 1) = 5 - i by omega]
                     rfl)
                · refine b_aload_n rfl rfl ?_
                  refine b_iconst rfl (by decide) ?_
                  refine b_putI rfl fl1_73 rfl (by decide) rfl ?_
                  rw [LX_u3]
                  refine b_aload_n rfl rfl ?_
                  refine b_aload_n rfl rfl ?_
                  refine b_getI rfl fl1_39 rfl (by decide) rfl ?_
                  rw [LX_2]
                  refine b_putI rfl fl1_67 rfl (by decide) rfl ?_
                  rw [LX_u5]
                  refine b_goto (tgt := 111) rfl rfl ?_
                  refine b_iincX (F := fun z111 => [some (aR 24), some (aI z111), some (aI z42)]) rfl rfl (by omega) (by omega) (fun _ => rfl) (fun z111 ez111 => ?_)
                  refine b_goto (tgt := 2) rfl rfl ?_
                  first
                  | (have e6 : i = 6 := by omega
                     exact bad e6 _ _)
                  | (refine b_cg ?_ (ih (i + 1) _ _ (by omega) (by omega) (by omega) (by omega) hki)
                     rw [show ((q + (i + 1) : Nat) : Int) = ((q + i : Nat) : Int) + 1 by omega, show 6 - (i + 1) = 5 - i by omega]
                     rfl)
              · omega
  refine rj_of okX1_readWord (Nat.le_of_ble_eq_true rfl) rfl ?_
  rcases hk with hk | hk
  · subst hk
    refine b_iconst rfl (by decide) ?_
    refine b_istoreX_n (F := fun z1 => [some (aR 24), some (aI z1), none]) rfl (by decide) (fun _ => rfl) (fun z1 ez1 => ?_)
    refine b_cg ?_ (lp r 0 _ _ (by omega) (by omega) (by omega) (by omega) rfl)
    rw [show ((e5 (lts (I 2) q r) 0 * 32 ^ (6 - 0) : Nat) : Int) = 0 from by rw [show e5 (lts (I 2) q r) 0 = 0 from rfl, Nat.zero_mul]; rfl]
    rfl
  · subst hk
    have kq := k4 rfl
    refine b_iconst rfl (by decide) ?_
    refine b_istoreX_n (F := fun z1 => [some (aR 24), some (aI z1), none]) rfl (by decide) (fun _ => rfl) (fun z1 ez1 => ?_)
    refine b_iload_n rfl rfl ?_
    refine b_bipush rfl (by decide) ?_
    refine b_icmp_gt (tgt := 117) rfl rfl (fun c5 => ?_) (fun c5 => ?_)
    · omega
    · refine b_aload_n rfl rfl ?_
      refine b_getI rfl fl1_73 rfl (by decide) rfl ?_
      rw [LX_3]
      refine b_iconst rfl (by decide) ?_
      refine b_icmp_ne (tgt := 117) rfl rfl (fun c13 => ?_) (fun c13 => ?_)
      · refine b_iconst rfl (by decide) ?_
        refine b_istoreX_n (F := fun z118 => [some (aR 24), some (aI z118), none]) rfl (by decide) (fun _ => rfl) (fun z118 ez118 => ?_)
        refine b_iload_n rfl rfl ?_
        refine b_bipush rfl (by decide) ?_
        refine b_icmp_ge (tgt := 157) rfl rfl (fun c122 => ?_) (fun c122 => ?_)
        · omega
        · refine b_aload_n rfl rfl ?_
          refine b_getI rfl fl1_73 rfl (by decide) rfl ?_
          rw [LX_3]
          refine b_iconst rfl (by decide) ?_
          refine b_icmp_ne (tgt := 157) rfl rfl (fun c130 => ?_) (fun c130 => ?_)
          · refine b_vret rfl rfl ?_
            exact kq
          · omega
      · omega
