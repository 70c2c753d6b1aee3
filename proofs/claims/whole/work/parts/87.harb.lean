/-! ===== the class: harbour ===== -/
def cplP (I : HI) : HI := up (up (cpy (cpy (cpy (cpy (cpy (cpy (cpy I 13 4 0 0 3) 14 5 0 0 18) 15 6 0 0 18) 16 7 0 0 18) 17 8 0 0 (I 12 7).toNat) 18 9 0 0 4) 19 10 0 0 4) 3 8 (I 12 8)) 3 9 (I 12 9)
theorem sp_X3_copy_3_12 {I : HI} {Q : Option AV → HI → Prop} (h : 0 ≤ I 12 7 ∧ I 12 7 ≤ 1600) (kq : Q none (cplP I)) : Rj MX3_copy 1 [aR 3, aR 12] I Q := by
  refine rj_of okX3_copy (Nat.le_of_ble_eq_true rfl) rfl ?_
  refine b_aload_n rfl rfl ?_
  refine b_getR (r := 13) rfl fl3_9 rfl (by decide) rfl rfl ?_
  refine b_iconst rfl (by decide) ?_
  refine b_aload_n rfl rfl ?_
  refine b_getR (r := 4) rfl fl3_9 rfl (by decide) rfl rfl ?_
  refine b_iconst rfl (by decide) ?_
  refine b_iconst rfl (by decide) ?_
  refine b_copy rfl ml3_43 (by omega) rfl rfl (by omega) (by omega) (by omega) (by omega) (by omega) ?_
  refine b_aload_n rfl rfl ?_
  refine b_getR (r := 14) rfl fl3_15 rfl (by decide) rfl rfl ?_
  refine b_iconst rfl (by decide) ?_
  refine b_aload_n rfl rfl ?_
  refine b_getR (r := 5) rfl fl3_15 rfl (by decide) rfl rfl ?_
  refine b_iconst rfl (by decide) ?_
  refine b_bipush rfl (by decide) ?_
  refine b_copy rfl ml3_43 (by omega) rfl rfl (by omega) (by omega) (by omega) (by omega) (by omega) ?_
  refine b_aload_n rfl rfl ?_
  refine b_getR (r := 15) rfl fl3_18 rfl (by decide) rfl rfl ?_
  refine b_iconst rfl (by decide) ?_
  refine b_aload_n rfl rfl ?_
  refine b_getR (r := 6) rfl fl3_18 rfl (by decide) rfl rfl ?_
  refine b_iconst rfl (by decide) ?_
  refine b_bipush rfl (by decide) ?_
  refine b_copy rfl ml3_43 (by omega) rfl rfl (by omega) (by omega) (by omega) (by omega) (by omega) ?_
  refine b_aload_n rfl rfl ?_
  refine b_getR (r := 16) rfl fl3_21 rfl (by decide) rfl rfl ?_
  refine b_iconst rfl (by decide) ?_
  refine b_aload_n rfl rfl ?_
  refine b_getR (r := 7) rfl fl3_21 rfl (by decide) rfl rfl ?_
  refine b_iconst rfl (by decide) ?_
  refine b_bipush rfl (by decide) ?_
  refine b_copy rfl ml3_43 (by omega) rfl rfl (by omega) (by omega) (by omega) (by omega) (by omega) ?_
  refine b_aload_n rfl rfl ?_
  refine b_getR (r := 17) rfl fl3_24 rfl (by decide) rfl rfl ?_
  refine b_iconst rfl (by decide) ?_
  refine b_aload_n rfl rfl ?_
  refine b_getR (r := 8) rfl fl3_24 rfl (by decide) rfl rfl ?_
  refine b_iconst rfl (by decide) ?_
  refine b_aload_n rfl rfl ?_
  refine b_getI rfl fl3_33 rfl (by decide) rfl ?_
  try simp only [up_ap, cpy_ap, fil_ap, row_ap, Nat.reduceEqDiff, Nat.reduceLT, Nat.reduceLeDiff, Int.toNat_natCast, Int.reduceToNat, reduceCtorEq, false_and, and_false, true_and, and_true, and_self, reduceIte]
  refine b_copy rfl ml3_43 (by omega) rfl rfl (by omega) (by omega) (by omega) (by omega) (by omega) ?_
  refine b_aload_n rfl rfl ?_
  refine b_getR (r := 18) rfl fl3_27 rfl (by decide) rfl rfl ?_
  refine b_iconst rfl (by decide) ?_
  refine b_aload_n rfl rfl ?_
  refine b_getR (r := 9) rfl fl3_27 rfl (by decide) rfl rfl ?_
  refine b_iconst rfl (by decide) ?_
  refine b_iconst rfl (by decide) ?_
  refine b_copy rfl ml3_43 (by omega) rfl rfl (by omega) (by omega) (by omega) (by omega) (by omega) ?_
  refine b_aload_n rfl rfl ?_
  refine b_getR (r := 19) rfl fl3_30 rfl (by decide) rfl rfl ?_
  refine b_iconst rfl (by decide) ?_
  refine b_aload_n rfl rfl ?_
  refine b_getR (r := 10) rfl fl3_30 rfl (by decide) rfl rfl ?_
  refine b_iconst rfl (by decide) ?_
  refine b_iconst rfl (by decide) ?_
  refine b_copy rfl ml3_43 (by omega) rfl rfl (by omega) (by omega) (by omega) (by omega) (by omega) ?_
  refine b_aload_n rfl rfl ?_
  refine b_aload_n rfl rfl ?_
  refine b_getI rfl fl3_37 rfl (by decide) rfl ?_
  try simp only [up_ap, cpy_ap, fil_ap, row_ap, Nat.reduceEqDiff, Nat.reduceLT, Nat.reduceLeDiff, Int.toNat_natCast, Int.reduceToNat, reduceCtorEq, false_and, and_false, true_and, and_true, and_self, reduceIte]
  refine b_putI rfl fl3_37 rfl (by decide) rfl ?_
  refine b_aload_n rfl rfl ?_
  refine b_aload_n rfl rfl ?_
  refine b_getI rfl fl3_40 rfl (by decide) rfl ?_
  try simp only [up_ap, cpy_ap, fil_ap, row_ap, Nat.reduceEqDiff, Nat.reduceLT, Nat.reduceLeDiff, Int.toNat_natCast, Int.reduceToNat, reduceCtorEq, false_and, and_false, true_and, and_true, and_self, reduceIte]
  refine b_putI rfl fl3_40 rfl (by decide) rfl ?_
  refine b_vret rfl rfl ?_
  exact kq
theorem sp_X6_forget {I : HI} {Q : Option AV → HI → Prop} (kq : Q none (up (up I 44 10 0) 44 11 0)) : Rj MX6_forget 0 [aR 44] I Q := by
  refine rj_of okX6_forget (Nat.le_of_ble_eq_true rfl) rfl ?_
  refine b_aload_n rfl rfl ?_
  refine b_iconst rfl (by decide) ?_
  refine b_putI rfl fl6_46 rfl (by decide) rfl ?_
  refine b_aload_n rfl rfl ?_
  refine b_iconst rfl (by decide) ?_
  refine b_putI rfl fl6_50 rfl (by decide) rfl ?_
  refine b_vret rfl rfl ?_
  exact kq
def haG (X : HI) : HI := up (up (up (cpS_20 (cplP (up (up (up X 1 1 0) 0 13 0) 0 14 (-1)))) 38 2 0) 44 10 0) 44 11 0
def haB (X : HI) (a b : Int) : HI := rfs (up (up (up X 1 1 0) 0 13 a) 0 14 b) 1
theorem LX_any {I : HI} {po ki st sp va wo ts tu fa pl : Int} {q k : Nat} (h : ¬ (q = 24 ∧ 2 ≤ k ∧ k ≤ 11)) : LX I po ki st sp va wo ts tu fa pl q k = I q k := by
  unfold LX
  rw [row_ap]
  by_cases e : q = 24
  · subst e
    rw [if_pos rfl, if_neg (by omega), if_neg (by omega), if_neg (by omega), if_neg (by omega), if_neg (by omega), if_neg (by omega), if_neg (by omega), if_neg (by omega), if_neg (by omega), if_neg (by omega)]
  · rw [if_neg e]
theorem LX_cell {I : HI} {po ki st sp va wo ts tu fa pl : Int} {q : Nat} (h : q ≠ 24) : LX I po ki st sp va wo ts tu fa pl q = I q := by
  funext k
  exact LX_any (by omega)
theorem LX_o {I : HI} {po ki st sp va wo ts tu fa pl : Int} {j : Nat} (h : j < 2 ∨ 11 < j) : LX I po ki st sp va wo ts tu fa pl 24 j = I 24 j := LX_any (by omega)
theorem dr0_o {J : HI} {q k : Nat} (h : ¬ (12 ≤ q ∧ q ≤ 22)) : dr0 J q k = J q k := by
  unfold dr0 clrS_20 clrP
  simp only [up_ap, fil_ap]
  rw [if_neg (by omega), if_neg (by omega), if_neg (by omega), if_neg (by omega), if_neg (by omega), if_neg (by omega), if_neg (by omega), if_neg (by omega), if_neg (by omega), if_neg (by omega), if_neg (by omega)]
theorem tx_gs {n : Nat} (hn : n ≤ 1600) : ∀ (g : Nat) (I : HI) (p : Nat), DI I p → p ≤ n → ∀ I' p', Tx n g I p = .inr (I', p') → (∀ q k, ¬ (12 ≤ q ∧ q ≤ 22) → ¬ (q = 26 ∧ k = 2) → I' q k = I q k) ∧ DI I' p' ∧ p' ≤ n := by
  intro g
  induction g with
  | zero =>
    intro I p hI hp I' p' e
    cases e
    exact ⟨fun _ _ _ _ => rfl, hI, hp⟩
  | succ g ih =>
    intro I p hI hp I' p' e
    have eT : Tx n (g + 1) I p = (if tk n (I 2) p = 0 then .inr (I, p) else if g = 0 then .inl (6, (tq n (I 2) p : Int)) else match St n I p with
      | .inl e => .inl e
      | .inr (I1, p1) => if sg n (I 2) p1 59 then Tx n g (up I1 12 9 (I1 12 9 + 1)) (te n (I 2) p1) else .inl (1, (tsp n (I 2) p1 : Int))) := rfl
    rw [eT] at e
    by_cases h0 : tk n (I 2) p = 0
    · rw [if_pos h0] at e
      cases e
      exact ⟨fun _ _ _ _ => rfl, hI, hp⟩
    · rw [if_neg h0] at e
      by_cases hg : g = 0
      · rw [if_pos hg] at e
        cases e
      · rw [if_neg hg] at e
        cases hSt : St n I p with
        | inl e' =>
          rw [hSt] at e
          cases e
        | inr y =>
          obtain ⟨I1, p1⟩ := y
          rw [hSt] at e
          obtain ⟨s1, s2, s3, s4, s5⟩ := gs_St hn hI I1 p1 hSt
          by_cases hsg : sg n (I 2) p1 59
          · have e' : Tx n g (up I1 12 9 (I1 12 9 + 1)) (te n (I 2) p1) = .inr (I', p') := by
              rw [← e]
              exact (if_pos hsg).symm
            have ht := te_gp (sg_c hsg)
            obtain ⟨r1, r2, r3⟩ := ih _ _ (DI_9 s2 (by omega)) ht.2 I' p' e'
            exact ⟨fun q k a b => by rw [r1 q k a b, up_ap, if_neg (by omega)]; exact s1 q k a b, r2, r3⟩
          · exfalso
            have e' : (Sum.inl (1, (tsp n (I 2) p1 : Int)) : SRt) = .inr (I', p') := by
              rw [← e]
              exact (if_neg hsg).symm
            cases e'
theorem sp_X11_harbour {J : HI} {Q : Option AV → HI → Prop} {n : Nat} (hX : TX J n) (hd : dW J) (k1 : ∀ I' p' X, Tx n 81 (dr0 J) 0 = .inr (I', p') → (∀ q, q ≠ 24 → X q = I' q) → (∀ j, j < 2 ∨ 11 < j → X 24 j = I' 24 j) → Q (some (aI (I' 12 9))) (haG X)) (k0 : ∀ e X, Tx n 81 (dr0 J) 0 = .inl e → (∀ q k, ¬ (12 ≤ q ∧ q ≤ 22) → ¬ (q = 26 ∧ k = 2) → ¬ (q = 24 ∧ 2 ≤ k ∧ k ≤ 11) → X q k = J q k) → dW X → Q (some (aI (-1))) (haB X e.1 e.2)) : Rj MX11_harbour 83 [aR 0] J Q := by
  refine rj_of okX11_harbour (Nat.le_of_ble_eq_true rfl) rfl ?_
  have hn := hX.2.1
  have gd : ∀ (z : Int) (I' : HI) (p' : Nat) (H1 : HI), z = 1 → Tx n 81 (dr0 J) 0 = .inr (I', p') → (∃ ts tu, Lok I' n p' ts tu H1) → Bj MX11_harbour 83 8 [some (aR 0), some (aI z)] [] H1 Q := by
    intro z I' p' H1 hz e1 hL
    obtain ⟨ts, tu, po, va, e, h⟩ := hL
    obtain ⟨s1, s2, s3⟩ := tx_gs hn 81 (dr0 J) 0 (DI_0 hd) (Nat.zero_le _) I' p' e1
    have s7 := s2.2.2.1
    have s8 := s2.2.2.2.1
    have kk := k1 I' p' H1 e1 (fun q hq => by rw [e]; exact LX_cell hq) (fun j hj => by rw [e]; exact LX_o hj)
    have h127 : H1 12 7 = I' 12 7 := by rw [e]; rfl
    have h129 : H1 12 9 = I' 12 9 := by rw [e]; rfl
    have hA : H1 24 10 = 0 := by rw [e]; rfl
    have hB : H1 24 11 = -1 := by rw [e]; rfl
    clear e h
    refine b_aload_n rfl rfl ?_
    refine b_getR (r := 1) rfl fl11_10 rfl (by decide) rfl rfl ?_
    refine b_iconst rfl (by decide) ?_
    refine b_putI rfl fl11_97 rfl (by decide) rfl ?_
    refine b_aload_n rfl rfl ?_
    refine b_aload_n rfl rfl ?_
    refine b_getR (r := 11) rfl fl11_28 rfl (by decide) rfl rfl ?_
    refine b_getR (r := 24) rfl fl11_116 rfl (by decide) rfl rfl ?_
    refine b_getI rfl fl11_120 rfl (by decide) rfl ?_
    try simp only [up_ap, cpy_ap, fil_ap, row_ap, Nat.reduceEqDiff, Nat.reduceLT, Nat.reduceLeDiff, Int.toNat_natCast, Int.reduceToNat, reduceCtorEq, false_and, and_false, true_and, and_true, and_self, reduceIte]
    rw [hA]
    refine b_putI rfl fl11_125 rfl (by decide) rfl ?_
    refine b_aload_n rfl rfl ?_
    refine b_aload_n rfl rfl ?_
    refine b_getR (r := 11) rfl fl11_28 rfl (by decide) rfl rfl ?_
    refine b_getR (r := 24) rfl fl11_116 rfl (by decide) rfl rfl ?_
    refine b_getI rfl fl11_128 rfl (by decide) rfl ?_
    try simp only [up_ap, cpy_ap, fil_ap, row_ap, Nat.reduceEqDiff, Nat.reduceLT, Nat.reduceLeDiff, Int.toNat_natCast, Int.reduceToNat, reduceCtorEq, false_and, and_false, true_and, and_true, and_self, reduceIte]
    rw [hB]
    refine b_putI rfl fl11_90 rfl (by decide) rfl ?_
    refine b_iload_n rfl rfl ?_
    refine b_if_ne (tgt := 54) rfl rfl (fun c45 => ?_) (fun c45 => ?_)
    · refine b_aload_n rfl rfl ?_
      refine b_getR (r := 3) rfl fl11_19 rfl (by decide) rfl rfl ?_
      refine b_aload_n rfl rfl ?_
      refine b_getR (r := 11) rfl fl11_28 rfl (by decide) rfl rfl ?_
      refine b_getR (r := 12) rfl fl11_131 rfl (by decide) rfl rfl ?_
      refine b_callV1v (ν := MX3_copy) rfl ml11_134 cvX3_copy (d' := 1) (by omega) rfl (by decide) rfl (Nat.le_of_ble_eq_true rfl) ?_
      refine sp_X3_copy_3_12 (by show 0 ≤ H1 12 7 ∧ H1 12 7 ≤ 1600; omega) ?_
      refine ⟨rfl, ?_⟩
      refine b_aload_n rfl rfl ?_
      refine b_getR (r := 30) rfl fl11_44 rfl (by decide) rfl rfl ?_
      refine b_aload_n rfl rfl ?_
      refine b_getR (r := 11) rfl fl11_28 rfl (by decide) rfl rfl ?_
      refine b_getR (r := 20) rfl fl11_137 rfl (by decide) rfl rfl ?_
      refine b_callV1v (ν := MX7_copy) rfl ml11_140 cvX7_copy (d' := 1) (by omega) rfl (by decide) rfl (Nat.le_of_ble_eq_true rfl) ?_
      refine sp_X7_copy_30_20 ?_
      refine ⟨rfl, ?_⟩
      refine b_aload_n rfl rfl ?_
      refine b_getR (r := 38) rfl fl11_54 rfl (by decide) rfl rfl ?_
      refine b_callV0v (ν := MX2_forget) rfl ml11_143 cvX2_forget (d' := 0) (by omega) rfl (by decide) rfl (Nat.le_of_ble_eq_true rfl) ?_
      refine sp_X2_forget ?_
      refine ⟨rfl, ?_⟩
      refine b_aload_n rfl rfl ?_
      refine b_getR (r := 44) rfl fl11_72 rfl (by decide) rfl rfl ?_
      refine b_callV0v (ν := MX6_forget) rfl ml11_146 cvX6_forget (d' := 0) (by omega) rfl (by decide) rfl (Nat.le_of_ble_eq_true rfl) ?_
      refine sp_X6_forget ?_
      refine ⟨rfl, ?_⟩
      refine b_aload_n rfl rfl ?_
      refine b_getR (r := 3) rfl fl11_19 rfl (by decide) rfl rfl ?_
      refine b_getI rfl fl11_147 rfl (by decide) rfl ?_
      try simp only [up_ap, cpy_ap, fil_ap, row_ap, Nat.reduceEqDiff, Nat.reduceLT, Nat.reduceLeDiff, Int.toNat_natCast, Int.reduceToNat, reduceCtorEq, false_and, and_false, true_and, and_true, and_self, reduceIte]
      refine b_iret rfl rfl ?_
      exact qI kk (by rw [← h129]; rfl) rfl
    · omega
  have bd : ∀ (z : Int) (e : Int × Int) (H1 : HI), z = 0 → Tx n 81 (dr0 J) 0 = .inl e → FBd (dr0 J) e.1 e.2 H1 → Bj MX11_harbour 83 8 [some (aR 0), some (aI z)] [] H1 Q := by
    intro z e H1 hz e1 hF
    obtain ⟨I', h3, po, st, sp, va, wo, ts, tu, e2, h⟩ := hF
    have kk := k0 e H1 e1 (fun q k a b c => by
      rw [e2, LX_any (by omega), h3.1 q k a b]
      exact dr0_o (by omega)) (fun w hw => by rw [e2]; exact h3.2.2.2.2 w hw)
    have hA : H1 24 10 = e.1 := by rw [e2]; rfl
    have hB : H1 24 11 = e.2 := by rw [e2]; rfl
    clear e2 h
    refine b_aload_n rfl rfl ?_
    refine b_getR (r := 1) rfl fl11_10 rfl (by decide) rfl rfl ?_
    refine b_iconst rfl (by decide) ?_
    refine b_putI rfl fl11_97 rfl (by decide) rfl ?_
    refine b_aload_n rfl rfl ?_
    refine b_aload_n rfl rfl ?_
    refine b_getR (r := 11) rfl fl11_28 rfl (by decide) rfl rfl ?_
    refine b_getR (r := 24) rfl fl11_116 rfl (by decide) rfl rfl ?_
    refine b_getI rfl fl11_120 rfl (by decide) rfl ?_
    try simp only [up_ap, cpy_ap, fil_ap, row_ap, Nat.reduceEqDiff, Nat.reduceLT, Nat.reduceLeDiff, Int.toNat_natCast, Int.reduceToNat, reduceCtorEq, false_and, and_false, true_and, and_true, and_self, reduceIte]
    rw [hA]
    refine b_putI rfl fl11_125 rfl (by decide) rfl ?_
    refine b_aload_n rfl rfl ?_
    refine b_aload_n rfl rfl ?_
    refine b_getR (r := 11) rfl fl11_28 rfl (by decide) rfl rfl ?_
    refine b_getR (r := 24) rfl fl11_116 rfl (by decide) rfl rfl ?_
    refine b_getI rfl fl11_128 rfl (by decide) rfl ?_
    try simp only [up_ap, cpy_ap, fil_ap, row_ap, Nat.reduceEqDiff, Nat.reduceLT, Nat.reduceLeDiff, Int.toNat_natCast, Int.reduceToNat, reduceCtorEq, false_and, and_false, true_and, and_true, and_self, reduceIte]
    rw [hB]
    refine b_putI rfl fl11_90 rfl (by decide) rfl ?_
    refine b_iload_n rfl rfl ?_
    refine b_if_ne (tgt := 54) rfl rfl (fun c45 => ?_) (fun c45 => ?_)
    · omega
    · refine b_aload_n rfl rfl ?_
      refine b_iconst rfl (by decide) ?_
      refine b_callV1i (ν := MX11_refuse) rfl ml11_100 cvX11_refuse (d' := 0) (by omega) rfl (by decide) rfl (Nat.le_of_ble_eq_true rfl) ?_
      refine sp_X11_refuse (k := 1) (by decide) ?_
      refine ⟨_, rfl, ?_⟩
      refine b_iret rfl rfl ?_
      exact kk
  refine b_aload_n rfl rfl ?_
  refine b_getR (r := 11) rfl fl11_28 rfl (by decide) rfl rfl ?_
  refine b_callV0i (ν := MX10_read) rfl ml11_112 cvX10_read (d' := 82) (by omega) rfl (by decide) rfl (Nat.le_of_ble_eq_true rfl) ?_
  refine sp_X10_read hX hd (fun I' p' ts tu H1 e1 hL => ?_) (fun e H1 e1 hF => ?_)
  · refine ⟨_, rfl, ?_⟩
    refine b_istoreX_n (F := fun z7 => [some (aR 0), some (aI z7)]) rfl (by decide) (fun _ => rfl) (fun z7 ez7 => ?_)
    first
    | exact gd _ _ _ _ (by omega) e1 ⟨_, _, hL⟩
    | exact bd _ _ _ (by omega) e1 hF
  · refine ⟨_, rfl, ?_⟩
    refine b_istoreX_n (F := fun z7 => [some (aR 0), some (aI z7)]) rfl (by decide) (fun _ => rfl) (fun z7 ez7 => ?_)
    first
    | exact gd _ _ _ _ (by omega) e1 ⟨_, _, hL⟩
    | exact bd _ _ _ (by omega) e1 hF
