/-! ===== Rows: putAway ===== -/
def trO (I : HI) : Nat → Int := fun j => if j < 144 then I 32 j else I 45 j
def stO (I : HI) : SW := (-1, I 46, I 47)
theorem hSW_0 {I : HI} : up (cpy I 32 45 0 0 144) 44 12 (-1) = hSW I (trO I) (stO I) := by
  funext q j
  unfold hSW trO stO
  simp only [up_ap, cpy_ap, row_ap]
  grind
def paS (I : HI) (W : Nat → Nat) (nt : Nat → Int) (s n : Nat) (tip : Int) : SW := dfH W nt (nH I s) s n 0 tip (trO I) (stO I)
def paH (I : HI) (st : SW) : HI := up (hSW I (trO I) st) 44 10 (if st.1 = -1 then 0 else I 1 1)
theorem sp_X6_putAway {I : HI} {Q : Option AV → HI → Prop} {W : Nat → Nat} {nt : Nat → Int} {s n : Nat} (hp : pOK I) (hs : (s : Int) < I 4 1) (hn : (n : Int) = I 1 1) (hT : 1 ≤ I 1 1 ∧ I 1 1 ≤ 6) (hc : ∀ k, 0 ≤ I 32 k ∧ I 32 k ≤ 20) (hc2 : ∀ k, 0 ≤ I 45 k ∧ I 45 k ≤ 20) (hW : ∀ k : Nat, (k : Int) < I 1 1 → tAt I (k : Int) = (W k : Int) ∧ (W k : Int) < I 4 0) (hnt : ∀ w : Nat, (w : Int) < I 4 0 → nt w = I 6 w - I 7 w) (kq : Q (some (aI (paS I W nt s n (tT (hSW I (trO I) (stO I)) 45 s)).1)) (paH I (paS I W nt s n (tT (hSW I (trO I) (stO I)) 45 s)))) : Rj MX6_putAway 10 [aR 44, aR 32, aI (s : Int)] I Q := by
  have htr : ∀ j, 0 ≤ trO I j ∧ trO I j ≤ 20 := by
    intro j
    have h1 := hc j
    have h2 := hc2 j
    unfold trO
    split <;> omega
  have e4 : hSW I (trO I) (stO I) 4 = I 4 := hSW_cell (by decide) (by decide) (by decide) (by decide)
  have e6 : hSW I (trO I) (stO I) 6 = I 6 := hSW_cell (by decide) (by decide) (by decide) (by decide)
  have e7 : hSW I (trO I) (stO I) 7 = I 7 := hSW_cell (by decide) (by decide) (by decide) (by decide)
  have hpJ : pOK (hSW I (trO I) (stO I)) := pOK_to hp e4 e6 e7
  have hsJ : (s : Int) < hSW I (trO I) (stO I) 4 1 := by rw [e4]; exact hs
  have hbJ : ∀ k, 0 ≤ hSW I (trO I) (stO I) 45 k ∧ hSW I (trO I) (stO I) 45 k ≤ 50 := fun k => by rw [hSW_45]; have := htr k; omega
  have htp := t_in hpJ hbJ hsJ
  have e1 : ∀ st : SW, hSW I (trO I) st 1 1 = I 1 1 := fun st => by rw [hSW_cell (by decide) (by decide) (by decide) (by decide)]
  refine rj_of okX6_putAway (Nat.le_of_ble_eq_true rfl) rfl ?_
  refine b_aload_n rfl rfl ?_
  refine b_iconst rfl (by decide) ?_
  refine b_aload_n rfl rfl ?_
  refine b_getR (r := 45) rfl fl6_9 rfl (by decide) rfl rfl ?_
  refine b_iconst rfl (by decide) ?_
  refine b_sipush rfl (by decide) ?_
  refine b_copy rfl ml6_68 (by omega) rfl rfl (by omega) (by omega) (by omega) (by omega) (by omega) ?_
  refine b_aload_n rfl rfl ?_
  refine b_iconst rfl (by decide) ?_
  refine b_putI rfl fl6_74 rfl (by decide) rfl ?_
  rw [show up (cpy I 32 45 (Int.toNat 0) (Int.toNat 0) (Int.toNat 144)) 44 12 (-1) = hSW I (trO I) (stO I) from hSW_0]
  refine b_aload_n rfl rfl ?_
  refine b_iload_n rfl rfl ?_
  refine b_iconst rfl (by decide) ?_
  refine b_aload_n rfl rfl ?_
  refine b_getR (r := 27) rfl fl6_38 rfl (by decide) rfl rfl ?_
  refine b_aload_n rfl rfl ?_
  refine b_getR (r := 45) rfl fl6_9 rfl (by decide) rfl rfl ?_
  refine b_iload_n rfl rfl ?_
  refine b_callV2i (ν := MX5_tipOf) rfl ml6_77 cvX5_tipOf (d' := 3) (by omega) rfl (by decide) rfl (Nat.le_of_ble_eq_true rfl) ?_
  refine sp_X5_tipOf_45 hpJ (fun k => by have := hbJ k; omega) hsJ ?_
  refine ⟨_, rfl, ?_⟩
  refine b_callV3v (ν := MX6_tryHolds) rfl ml6_83 cvX6_tryHolds (d' := (n + 3)) (by omega) rfl (by decide) rfl (Nat.le_of_ble_eq_true rfl) ?_
  refine sp_X6_tryHolds (W := W) (nt := nt) hp hs hT hW hnt n 0 _ _ _ _ (by omega) (by omega) htr ?_
  refine ⟨rfl, ?_⟩
  rw [show dfH W nt (nH I s) s n 0 (tT (hSW I (trO I) (stO I)) 45 s) (trO I) (stO I) = paS I W nt s n (tT (hSW I (trO I) (stO I)) 45 s) from rfl]
  generalize paS I W nt s n (tT (hSW I (trO I) (stO I)) 45 s) = st at *
  have e12 : hSW I (trO I) st 44 12 = st.1 := rfl
  have e11 := e1 st
  refine b_aload_n rfl rfl ?_
  refine b_aload_n rfl rfl ?_
  refine b_getI rfl fl6_74 rfl (by decide) rfl ?_
  try simp only [up_ap, cpy_ap, fil_ap, row_ap, Nat.reduceEqDiff, Nat.reduceLT, Nat.reduceLeDiff, Int.toNat_natCast, Int.reduceToNat, reduceCtorEq, false_and, and_false, true_and, and_true, and_self, reduceIte]
  refine b_iconst rfl (by decide) ?_
  refine b_icmp_ne (tgt := 49) rfl rfl (fun c42 => ?_) (fun c42 => ?_)
  · refine b_aload_n rfl rfl ?_
    refine b_getR (r := 1) rfl fl6_42 rfl (by decide) rfl rfl ?_
    refine b_getI rfl fl6_53 rfl (by decide) rfl ?_
    try simp only [up_ap, cpy_ap, fil_ap, row_ap, Nat.reduceEqDiff, Nat.reduceLT, Nat.reduceLeDiff, Int.toNat_natCast, Int.reduceToNat, reduceCtorEq, false_and, and_false, true_and, and_true, and_self, reduceIte]
    refine b_putI rfl fl6_46 rfl (by decide) rfl ?_
    refine b_aload_n rfl rfl ?_
    refine b_getI rfl fl6_74 rfl (by decide) rfl ?_
    try simp only [up_ap, cpy_ap, fil_ap, row_ap, Nat.reduceEqDiff, Nat.reduceLT, Nat.reduceLeDiff, Int.toNat_natCast, Int.reduceToNat, reduceCtorEq, false_and, and_false, true_and, and_true, and_self, reduceIte]
    refine b_iret rfl rfl ?_
    refine qI kq ?_ ?_
    · rfl
    · unfold paH
      split <;> first | (exfalso; omega) | rfl | (rw [← e11])
  · refine b_iconst rfl (by decide) ?_
    refine b_goto (tgt := 56) rfl rfl ?_
    refine b_putI rfl fl6_46 rfl (by decide) rfl ?_
    refine b_aload_n rfl rfl ?_
    refine b_getI rfl fl6_74 rfl (by decide) rfl ?_
    try simp only [up_ap, cpy_ap, fil_ap, row_ap, Nat.reduceEqDiff, Nat.reduceLT, Nat.reduceLeDiff, Int.toNat_natCast, Int.reduceToNat, reduceCtorEq, false_and, and_false, true_and, and_true, and_self, reduceIte]
    refine b_iret rfl rfl ?_
    refine qI kq ?_ ?_
    · rfl
    · unfold paH
      split <;> first | (exfalso; omega) | rfl | (rw [← e11])
