/-! ===== after a good text: the class ===== -/
theorem c20_St {I : HI} {n p : Nat} (hI : DI I p) : Al (fun I' _ => I' 20 = I 20) (St n I p) := by
  have hC := hI.1
  have keep : ∀ I' : HI, (∀ k, I' 20 k = I 20 k) → I' 20 = I 20 := fun I' e => by funext k; exact e k
  have th : ∀ k, Al (fun I' _ => I' 20 = I 20) (stTh n I k p) := by
    intro k
    unfold stTh
    split
    · exact al_l
    · refine al_ndM (fun v p2 => ?_)
      unfold kTh0
      split
      · exact al_l
      · refine al_ndW (fun p3 => al_ndN (fun a p4 a1 a2 => al_ndW (fun p5 => al_ndN (fun b p6 b1 b2 => al_r (keep _ (fun j => ?_))))))
        rw [thI_ap, if_neg (by omega), if_neg (by omega), if_neg (by omega), if_neg (by omega)]
  have fo : ∀ f, Al (fun I' _ => I' 20 = I 20) (stFo n I f p) := by
    intro f
    unfold stFo
    split
    · exact al_l
    cases hh : P n (I 2) (seO f) (12 * n + 7) (if f = 3 then 0 else 3) 0 (te n (I 2) p) with
    | inl e => exact al_l
    | inr y =>
      refine al_r (keep _ (fun j => ?_))
      rw [up_ap, if_neg (by omega)]
      show foI I f 20 j = _
      unfold foI
      rw [up_ap, if_neg (by omega), up_ap, if_neg (by omega)]
  unfold St
  split
  · exact th 0
  split
  · exact th 1
  split
  · exact th 2
  split
  · unfold stLo
    exact al_knw hC (by decide) (fun s p2 hs hs6 => al_ndN (fun h p3 h0 h1 => al_knw hC (by decide) (fun w p4 hw hw6 => al_ndN (fun v p5 v0 v1 => al_r (keep _ (fun j => by rw [up_ap, if_neg (by omega)]))))))
  split
  · unfold stLi
    refine al_knw hC (by decide) (fun s p2 hs hs6 => ?_)
    unfold kLi1
    split
    · exact al_l
    refine al_knw hC (by decide) (fun b p3 hb hb6 => ?_)
    unfold kLi2
    split
    · exact al_l
    exact al_r (keep _ (fun j => by rw [up_ap, if_neg (by omega)]))
  split
  · exact fo 0
  split
  · exact fo 1
  split
  · exact fo 2
  split
  · exact fo 3
  split
  · unfold stGa
    exact al_ndN (fun v p2 v0 v1 => al_r (keep _ (fun j => by rw [up_ap, if_neg (by omega)])))
  · exact al_l
theorem tx_20 {n : Nat} (hn : n ≤ 1600) : ∀ (g : Nat) (I : HI) (p : Nat), DI I p → p ≤ n → ∀ I' p', Tx n g I p = .inr (I', p') → I' 20 = I 20 := by
  intro g
  induction g with
  | zero =>
    intro I p hI hp I' p' e
    cases e
    rfl
  | succ g ih =>
    intro I p hI hp I' p' e
    have eT : Tx n (g + 1) I p = (if tk n (I 2) p = 0 then .inr (I, p) else if g = 0 then .inl (6, (tq n (I 2) p : Int)) else match St n I p with
      | .inl e => .inl e
      | .inr (I1, p1) => if sg n (I 2) p1 59 then Tx n g (up I1 12 9 (I1 12 9 + 1)) (te n (I 2) p1) else .inl (1, (tsp n (I 2) p1 : Int))) := rfl
    rw [eT] at e
    by_cases h0 : tk n (I 2) p = 0
    · rw [if_pos h0] at e
      cases e
      rfl
    · rw [if_neg h0] at e
      by_cases hg : g = 0
      · rw [if_pos hg] at e
        cases e
      · rw [if_neg hg] at e
        cases hSt : St n I p with
        | inl e' =>
          rw [hSt] at e
          cases e
        | inr y =>
          obtain ⟨I1, p1⟩ := y
          rw [hSt] at e
          obtain ⟨s1, s2, s3, s4, s5⟩ := gs_St hn hI I1 p1 hSt
          by_cases hsg : sg n (I 2) p1 59
          · have e' : Tx n g (up I1 12 9 (I1 12 9 + 1)) (te n (I 2) p1) = .inr (I', p') := by
              rw [← e]
              exact (if_pos hsg).symm
            have ht := te_gp (sg_c hsg)
            have h1 := ih _ _ (DI_9 s2 (by omega)) ht.2 I' p' e'
            have h2 : I1 20 = I 20 := c20_St hI I1 p1 hSt
            rw [h1, ← h2]
            funext k
            rw [up_ap, if_neg (by omega)]
          · exfalso
            have e' : (Sum.inl (1, (tsp n (I 2) p1 : Int)) : SRt) = .inr (I', p') := by
              rw [← e]
              exact (if_neg hsg).symm
            cases e'
section HAG
variable {X : HI}
theorem haG_4 {k : Nat} (h : k < 3) : haG X 4 k = X 13 k := by
  unfold haG cpS_20 cplP
  simp only [up_ap, cpy_ap]
  repeat (first | rw [if_pos (by omega)] | rw [if_neg (by omega)])
  simp
  intro h'
  omega
theorem haG_5 {k : Nat} (h : k < 18) : haG X 5 k = X 14 k := by
  unfold haG cpS_20 cplP
  simp only [up_ap, cpy_ap]
  repeat (first | rw [if_pos (by omega)] | rw [if_neg (by omega)])
  simp
  intro h'
  omega
theorem haG_6 {k : Nat} (h : k < 18) : haG X 6 k = X 15 k := by
  unfold haG cpS_20 cplP
  simp only [up_ap, cpy_ap]
  repeat (first | rw [if_pos (by omega)] | rw [if_neg (by omega)])
  simp
  intro h'
  omega
theorem haG_7 {k : Nat} (h : k < 18) : haG X 7 k = X 16 k := by
  unfold haG cpS_20 cplP
  simp only [up_ap, cpy_ap]
  repeat (first | rw [if_pos (by omega)] | rw [if_neg (by omega)])
  simp
  intro h'
  omega
theorem haG_8 {k : Nat} (h : (k : Int) < X 12 7) : haG X 8 k = X 17 k := by
  have h2 : k < (X 12 7).toNat := by omega
  unfold haG cpS_20 cplP
  have e : up (up (up X 1 1 0) 0 13 0) 0 14 (-1) 12 7 = X 12 7 := by rw [up_ap, if_neg (by omega), up_ap, if_neg (by omega), up_ap, if_neg (by omega)]
  rw [e]
  simp only [up_ap, cpy_ap]
  repeat (first | rw [if_pos (by omega)] | rw [if_neg (by omega)])
  simp
  intro h'
  omega
theorem haG_9 {k : Nat} (h : k < 4) : haG X 9 k = X 18 k ∧ haG X 10 k = X 19 k := by
  unfold haG cpS_20 cplP
  constructor
  · simp only [up_ap, cpy_ap]
    repeat (first | rw [if_pos (by omega)] | rw [if_neg (by omega)])
    simp
    intro h'
    omega
  · simp only [up_ap, cpy_ap]
    repeat (first | rw [if_pos (by omega)] | rw [if_neg (by omega)])
    simp
    intro h'
    omega
theorem haG_31 {k : Nat} (h : k < 6) : haG X 31 k = X 21 k := by
  unfold haG cpS_20 cplP
  simp only [up_ap, cpy_ap]
  repeat (first | rw [if_pos (by omega)] | rw [if_neg (by omega)])
  simp
  intro h'
  omega
theorem haG_32 {k : Nat} (h : k < 144) : haG X 32 k = X 22 k := by
  unfold haG cpS_20 cplP
  simp only [up_ap, cpy_ap]
  repeat (first | rw [if_pos (by omega)] | rw [if_neg (by omega)])
  simp
  intro h'
  omega
theorem haG_3 : haG X 3 8 = X 12 8 ∧ haG X 3 9 = X 12 9 ∧ haG X 30 5 = X 20 5 ∧ haG X 30 3 = 0 ∧ haG X 30 4 = 0 ∧ haG X 38 2 = 0 ∧ haG X 44 10 = 0 ∧ haG X 44 11 = 0 ∧ haG X 1 1 = 0 ∧ haG X 0 13 = 0 ∧ haG X 0 14 = -1 := by
  exact ⟨rfl, rfl, rfl, rfl, rfl, rfl, rfl, rfl, rfl, rfl, rfl⟩
theorem haG_o {q j : Nat} (h : ¬ (4 ≤ q ∧ q ≤ 10) ∧ q ≠ 31 ∧ ¬ (q = 32 ∧ j < 144) ∧ ¬ (q = 30 ∧ (j = 3 ∨ j = 4 ∨ j = 5)) ∧ ¬ (q = 38 ∧ j = 2) ∧ ¬ (q = 44 ∧ (j = 10 ∨ j = 11)) ∧ ¬ (q = 1 ∧ j = 1) ∧ ¬ (q = 0 ∧ (j = 13 ∨ j = 14)) ∧ ¬ (q = 3 ∧ (j = 8 ∨ j = 9))) : haG X q j = X q j := by
  unfold haG cpS_20 cplP
  simp only [up_ap, cpy_ap]
  repeat (first | rw [if_pos (by omega)] | rw [if_neg (by omega)])
end HAG
