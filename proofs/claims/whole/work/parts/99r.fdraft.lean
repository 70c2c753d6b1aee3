/-! ===== the draft's formulas ===== -/
def FD (I : HI) (C : Nat → List Int) : Prop := ∀ f, f < 4 → (C f = [] ∧ ¬ I 18 f < I 19 f) ∨ (C f ≠ [] ∧ 0 ≤ I 18 f ∧ I 19 f = I 18 f + ((C f).length : Int) ∧ I 19 f ≤ I 12 7 ∧ (∀ j v, (C f)[j]? = some v → I 17 ((I 18 f).toNat + j) = v) ∧ Wm (seO f) (if f = 3 then 0 else 3) 0 (C f))
theorem FD_to {I I' : HI} {C : Nat → List Int} (h : FD I C) (e : ∀ q k, q = 17 ∨ q = 18 ∨ q = 19 ∨ (q = 12 ∧ k = 7) → I' q k = I q k) : FD I' C := by
  intro f hf
  rw [e 18 f (by omega), e 19 f (by omega), e 12 7 (by omega)]
  rcases h f hf with a | ⟨a1, a2, a3, a4, a5, a6⟩
  · exact Or.inl a
  · exact Or.inr ⟨a1, a2, a3, a4, fun j v ej => by rw [e 17 _ (by omega)]; exact a5 j v ej, a6⟩
theorem FD_0 {J : HI} : FD (dr0 J) (fun _ => []) := by
  intro f hf
  left
  refine ⟨rfl, ?_⟩
  rw [show dr0 J 18 f = if 18 = 18 ∧ f < 4 then 0 else J 18 f from rfl, show dr0 J 19 f = if 19 = 19 ∧ f < 4 then 0 else J 19 f from rfl, if_pos ⟨rfl, hf⟩, if_pos ⟨rfl, hf⟩]
  omega
def upC (C : Nat → List Int) (f : Nat) (c : List Int) : Nat → List Int := fun g => if g = f then c else C g
section FDS
variable {I : HI} {n p : Nat} {C : Nat → List Int}
theorem fd_Fo {f : Nat} (hI : DI I p) (hD : FD I C) (hf : f < 4) (hk : tk n (I 2) p = 1) : Al (fun I' _ => ∃ C', FD I' C') (stFo n I f p) := by
  have ht := te_gp (Or.inl hk : tk n (I 2) p = 1 ∨ tk n (I 2) p = 2 ∨ tk n (I 2) p = 3)
  have h7 := hI.2.2.1
  have h7b := hI.2.2.2.1
  unfold stFo
  split
  · exact al_l
  cases hh : P n (I 2) (seO f) (12 * n + 7) (if f = 3 then 0 else 3) 0 (te n (I 2) p) with
  | inl e => exact al_l
  | inr y =>
    obtain ⟨p', c⟩ := y
    have hne : c ≠ [] := ne_P _ _ _ _ (by split <;> decide) p' c hh
    have hcl : 0 < c.length := List.length_pos_iff.2 hne
    have hw := P_w (n := n) (B := I 2) (se := seO f) _ _ 0 _ p' c hh
    refine al_r ⟨upC C f c, fun g hg => ?_⟩
    obtain ⟨k0, hk0⟩ : ∃ k0 : Nat, I 12 7 = (k0 : Int) := ⟨(I 12 7).toNat, by omega⟩
    have ek : (I 12 7).toNat = k0 := by omega
    rw [ek]
    have i7 : up (stW (foI I f) k0 c) 19 f ((k0 + c.length : Nat) : Int) 12 7 = ((k0 + c.length : Nat) : Int) := by
      rw [up_ap, if_neg (by omega)]
      rfl
    have i17 : ∀ j, up (stW (foI I f) k0 c) 19 f ((k0 + c.length : Nat) : Int) 17 j = if k0 ≤ j ∧ j < k0 + c.length then c.getD (j - k0) 0 else I 17 j := by
      intro j
      rw [up_ap, if_neg (by omega)]
      have e17 : foI I f 17 j = I 17 j := by
        unfold foI
        rw [up_ap, if_neg (by omega), up_ap, if_neg (by omega)]
      show (if k0 ≤ j ∧ j < k0 + c.length then c.getD (j - k0) 0 else foI I f 17 j) = _
      rw [e17]
    have i18 : ∀ j, up (stW (foI I f) k0 c) 19 f ((k0 + c.length : Nat) : Int) 18 j = if j = f then I 12 7 else I 18 j := by
      intro j
      rw [up_ap, if_neg (by omega)]
      show foI I f 18 j = _
      unfold foI
      rw [up_ap]
      by_cases e : j = f
      · rw [if_pos ⟨rfl, e⟩, if_pos e]
      · rw [if_neg (by omega), if_neg e, up_ap, if_neg (by omega)]
    have i19 : ∀ j, up (stW (foI I f) k0 c) 19 f ((k0 + c.length : Nat) : Int) 19 j = if j = f then ((k0 + c.length : Nat) : Int) else I 19 j := by
      intro j
      rw [up_ap]
      by_cases e : j = f
      · rw [if_pos ⟨rfl, e⟩, if_pos e]
      · rw [if_neg (by omega), if_neg e]
        show foI I f 19 j = _
        unfold foI
        rw [up_ap, if_neg (by omega), up_ap, if_neg (by omega)]
    rw [i7, i18, i19]
    by_cases e : g = f
    · subst e
      rw [if_pos rfl, if_pos rfl]
      rw [show upC C g c g = c from if_pos rfl]
      refine Or.inr ⟨hne, by omega, by rw [hk0]; omega, Int.le_refl _, fun j v ej => ?_, hw⟩
      have hj : j < c.length := by
        rcases Nat.lt_or_ge j c.length with h | h
        · exact h
        · rw [List.getElem?_eq_none h] at ej; cases ej
      rw [ek, i17, if_pos (by omega), show k0 + j - k0 = j by omega, List.getD_eq_getElem?_getD, ej]
      rfl
    · rw [if_neg e, if_neg e]
      rw [show upC C f c g = C g from if_neg e]
      rcases hD g hg with a | ⟨a1, a2, a3, a4, a5, a6⟩
      · exact Or.inl a
      · refine Or.inr ⟨a1, a2, a3, by omega, fun j v ej => ?_, a6⟩
        have hj : j < (C g).length := by
          rcases Nat.lt_or_ge j (C g).length with h | h
          · exact h
          · rw [List.getElem?_eq_none h] at ej; cases ej
        rw [i17, if_neg (by omega)]
        exact a5 j v ej
theorem fd_St (hI : DI I p) (hD : FD I C) : Al (fun I' _ => ∃ C', FD I' C') (St n I p) := by
  have hC := hI.1
  have h1 : ∀ w : Int, 0 ≤ w → tw n (I 2) p = w → tk n (I 2) p = 1 := fun w h0 h => tw_1 h h0
  have keep : ∀ I', (∀ q k, q = 17 ∨ q = 18 ∨ q = 19 ∨ (q = 12 ∧ k = 7) → I' q k = I q k) → ∃ C', FD I' C' := fun I' e => ⟨C, FD_to hD e⟩
  have th : ∀ k, Al (fun I' _ => ∃ C', FD I' C') (stTh n I k p) := by
    intro k
    unfold stTh
    split
    · exact al_l
    · refine al_ndM (fun v p2 => ?_)
      unfold kTh0
      split
      · exact al_l
      · refine al_ndW (fun p3 => al_ndN (fun a p4 a1 a2 => al_ndW (fun p5 => al_ndN (fun b p6 b1 b2 => al_r (keep _ (fun q j hq => ?_))))))
        rw [thI_ap, if_neg (by omega), if_neg (by omega), if_neg (by omega), if_neg (by omega)]
  unfold St
  split
  · exact th 0
  split
  · exact th 1
  split
  · exact th 2
  split
  · unfold stLo
    exact al_knw hC (by decide) (fun s p2 hs hs6 => al_ndN (fun h p3 h0 h1 => al_knw hC (by decide) (fun w p4 hw hw6 => al_ndN (fun v p5 v0 v1 => al_r (keep _ (fun q j hq => by rw [up_ap, if_neg (by omega)]))))))
  split
  · unfold stLi
    refine al_knw hC (by decide) (fun s p2 hs hs6 => ?_)
    unfold kLi1
    split
    · exact al_l
    refine al_knw hC (by decide) (fun b p3 hb hb6 => ?_)
    unfold kLi2
    split
    · exact al_l
    exact al_r (keep _ (fun q j hq => by rw [up_ap, if_neg (by omega)]))
  split
  · rename_i e; exact fd_Fo hI hD (by decide) (h1 _ (by decide) e)
  split
  · rename_i e; exact fd_Fo hI hD (by decide) (h1 _ (by decide) e)
  split
  · rename_i e; exact fd_Fo hI hD (by decide) (h1 _ (by decide) e)
  split
  · rename_i e; exact fd_Fo hI hD (by decide) (h1 _ (by decide) e)
  split
  · unfold stGa
    exact al_ndN (fun v p2 v0 v1 => al_r (keep _ (fun q j hq => by rw [up_ap, if_neg (by omega)])))
  · exact al_l
/-- what a good text leaves -/
theorem tx_fd (hn : n ≤ 1600) : ∀ (g : Nat) (I : HI) (p : Nat) (C : Nat → List Int), DI I p → p ≤ n → DX I → FD I C → ∀ I' p', Tx n g I p = .inr (I', p') → DX I' ∧ ∃ C', FD I' C' := by
  intro g
  induction g with
  | zero =>
    intro I p C hI hp hX hD I' p' e
    cases e
    exact ⟨hX, C, hD⟩
  | succ g ih =>
    intro I p C hI hp hX hD I' p' e
    have eT : Tx n (g + 1) I p = (if tk n (I 2) p = 0 then .inr (I, p) else if g = 0 then .inl (6, (tq n (I 2) p : Int)) else match St n I p with
      | .inl e => .inl e
      | .inr (I1, p1) => if sg n (I 2) p1 59 then Tx n g (up I1 12 9 (I1 12 9 + 1)) (te n (I 2) p1) else .inl (1, (tsp n (I 2) p1 : Int))) := rfl
    rw [eT] at e
    by_cases h0 : tk n (I 2) p = 0
    · rw [if_pos h0] at e
      cases e
      exact ⟨hX, C, hD⟩
    · rw [if_neg h0] at e
      by_cases hg : g = 0
      · rw [if_pos hg] at e
        cases e
      · rw [if_neg hg] at e
        cases hSt : St n I p with
        | inl e' =>
          rw [hSt] at e
          cases e
        | inr y =>
          obtain ⟨I1, p1⟩ := y
          rw [hSt] at e
          obtain ⟨s1, s2, s3, s4, s5⟩ := gs_St hn hI I1 p1 hSt
          have hX1 := dx_St hX hI I1 p1 hSt
          obtain ⟨C1, hD1⟩ := fd_St hI hD I1 p1 hSt
          by_cases hsg : sg n (I 2) p1 59
          · have e' : Tx n g (up I1 12 9 (I1 12 9 + 1)) (te n (I 2) p1) = .inr (I', p') := by
              rw [← e]
              exact (if_pos hsg).symm
            have ht := te_gp (sg_c hsg)
            exact ih _ _ C1 (DI_9 s2 (by omega)) ht.2 (DX_to hX1 (fun q k hq => by rw [up_ap, if_neg (by omega)])) (FD_to hD1 (fun q k hq => by rw [up_ap, if_neg (by omega)])) I' p' e'
          · exfalso
            have e' : (Sum.inl (1, (tsp n (I 2) p1 : Int)) : SRt) = .inr (I', p') := by
              rw [← e]
              exact (if_neg hsg).symm
            cases e'
end FDS
theorem wff_pre {sees : Nat → Int} (hse : ∀ k, k < 8 → -1000000 ≤ sees k ∧ sees k ≤ 1000000) : ∀ (c r : List Int) (stk : List Int) (fl : List Bool), wff (c ++ r) fl → vfl stk fl → ∃ fl', wff r fl' ∧ vfl (evs sees c stk) fl' := by
  intro c
  induction c with
  | nil => intro r stk fl h hv; exact ⟨fl, h, hv⟩
  | cons s c ih =>
    intro r stk fl h hv
    obtain ⟨fl', h1, h2⟩ := vfl_step hse h hv
    exact ih r _ fl' h1 h2
/-- a test gives 0 or 1 -/
theorem wt_01 {U : Nat} {c : List Int} {sees : Nat → Int} (hU : U ≤ 64) (h : WT U c) (hse : ∀ k, k < 8 → -1000000 ≤ sees k ∧ sees k ≤ 1000000) : ∃ v, evs sees c [] = [v] ∧ (v = 0 ∨ v = 1) := by
  have hw := h [-9] [] (by rw [List.length_nil]; omega) (wf_n rfl)
  obtain ⟨fl', h1, h2⟩ := wff_pre hse c [-9] [] [] hw trivial
  unfold wff at h1
  rw [if_neg (by omega), if_pos rfl] at h1
  obtain ⟨rest, e, h3⟩ := h1
  subst e
  have hr : (true :: rest).length = 1 := h3
  have hr0 : rest = [] := by
    rw [List.length_cons] at hr
    exact List.length_eq_zero_iff.1 (by omega)
  subst hr0
  match hs : evs sees c [], h2 with
  | [v], hv => exact ⟨v, rfl, hv.2.1 rfl⟩
