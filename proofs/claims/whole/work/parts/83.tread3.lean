/-! ===== the class: loads, lies, formulas, statements ===== -/
section TRF
variable {I H : HI} {Q : Option AV → HI → Prop} {n p : Nat} {ts tu : Int}
theorem fin_nat {kk : Nat} {v : Int} (hC : cOK I 13) (hk : kk < 3) (h : finN I kk v ≠ -1) : finN I kk v = ((finN I kk v).toNat : Int) ∧ ((finN I kk v).toNat : Int) < I 13 kk ∧ (finN I kk v).toNat < 6 := by
  have h1 := hC kk hk
  rcases fi_in (fun w => I 14 (6 * kk + w)) v (I 13 kk).toNat 0 with e | ⟨e1, e2, _⟩
  · exact absurd e h
  · unfold finN at *
    omega
theorem sp_X10_readLoads (hX : TX I n) (hI : DI I p) (hp : p ≤ n) (hk : tk n (I 2) p = 1) (hL : Lok I n p ts tu H) (kq : ∀ H', SO n I (stLo n I p) H' → Q none H') : Rj MX10_readLoads 4 [aR 11] H Q := by
  have hn := hX.2.1
  have p16 : p ≤ 1600 := by omega
  have hI2 : ∀ q : Nat, p ≤ q → DI I q := fun q hq => ⟨hI.1, hI.2.1, hI.2.2.1, by have := hI.2.2.2.1; omega, hI.2.2.2.2⟩
  refine rj_of okX10_readLoads (Nat.le_of_ble_eq_true rfl) rfl ?_
  have f51 : ∀ (k pl : Int) (x1 x2 x3 x4 : Option AV) (H1 : HI), FBd I k pl H1 → (∀ H', FBd I k pl H' → Q none H') → Bj MX10_readLoads 4 51 [some (aR 11), x1, x2, x3, x4] [] H1 Q := by
    intro k pl x1 x2 x3 x4 H1 hF k1
    have hF' := hF
    obtain ⟨I', h3, po, st, sp, va, wo, ts, tu, e, h⟩ := hF
    subst e
    refine b_aload_n rfl rfl ?_
    refine b_getR (r := 24) rfl fl10_30 rfl (by decide) rfl rfl ?_
    refine b_getI rfl fl10_50 rfl (by decide) rfl ?_
    rw [LX_10]
    refine b_if_ne (tgt := 90) rfl rfl (fun c58 => ?_) (fun c58 => ?_)
    · refine b_vret rfl rfl ?_
      exact k1 _ hF'
    · omega
  have f39 : ∀ (k pl : Int) (x1 x2 x3 : Int) (H1 : HI), FBd I k pl H1 → (∀ H', FBd I k pl H' → Q none H') → Bj MX10_readLoads 4 39 [some (aR 11), some (aI x1), some (aI x2), some (aI x3), none] [] H1 Q := by
    intro k pl x1 x2 x3 H1 hF k1
    refine b_aload_n rfl rfl ?_
    refine b_getR (r := 24) rfl fl10_30 rfl (by decide) rfl rfl ?_
    refine b_iconst rfl (by decide) ?_
    refine b_bipush rfl (by decide) ?_
    refine b_callV2i (ν := MX1_needNumber) rfl ml10_125 cvX1_needNumber (d' := 2) (by omega) rfl (by decide) rfl (Nat.le_of_ble_eq_true rfl) ?_
    refine fbd_needNumber hF (fun H2 hF2 => ?_)
    refine ⟨_, rfl, ?_⟩
    refine b_istoreX (F := fun z49 => [some (aR 11), some (aI x1), some (aI x2), some (aI x3), some (aI z49)]) rfl (by decide) (fun _ => rfl) (fun z49 ez49 => ?_)
    exact f51 _ _ _ _ _ _ _ hF2 k1
  have f33 : ∀ (k pl : Int) (x1 x2 : Int) (H1 : HI), FBd I k pl H1 → (∀ H', FBd I k pl H' → Q none H') → Bj MX10_readLoads 4 33 [some (aR 11), some (aI x1), some (aI x2), none, none] [] H1 Q := by
    intro k pl x1 x2 H1 hF k1
    refine b_aload_n rfl rfl ?_
    refine b_iconst rfl (by decide) ?_
    refine b_callV1i (ν := MX10_readKnown) rfl ml10_142 cvX10_readKnown (d' := 3) (by omega) rfl (by decide) rfl (Nat.le_of_ble_eq_true rfl) ?_
    refine fbd_readKnown (kk := 0) (by decide) hF (fun z H2 hz hF2 => ?_)
    refine ⟨_, rfl, ?_⟩
    refine b_istoreX_n (F := fun z38 => [some (aR 11), some (aI x1), some (aI x2), some (aI z38), none]) rfl (by decide) (fun _ => rfl) (fun z38 ez38 => ?_)
    exact f39 _ _ _ _ _ _ hF2 k1
  have f13 : ∀ (k pl : Int) (x1 : Int) (H1 : HI), FBd I k pl H1 → (∀ H', FBd I k pl H' → Q none H') → Bj MX10_readLoads 4 13 [some (aR 11), some (aI x1), none, none, none] [] H1 Q := by
    intro k pl x1 H1 hF k1
    refine b_aload_n rfl rfl ?_
    refine b_getR (r := 24) rfl fl10_30 rfl (by decide) rfl rfl ?_
    refine b_iconst rfl (by decide) ?_
    refine b_aload_n rfl rfl ?_
    refine b_getR (r := 12) rfl fl10_12 rfl (by decide) rfl rfl ?_
    refine b_iconst rfl (by decide) ?_
    refine b_iload_n rfl rfl ?_
    refine b_callV2i (ν := MX3_firstOf) rfl ml10_146 cvX3_firstOf (d' := 1) (by omega) rfl (by decide) rfl (Nat.le_of_ble_eq_true rfl) ?_
    refine sp_X3_firstOf_12 (FBd_c13 hF) ?_
    refine ⟨_, rfl, ?_⟩
    refine b_iconst rfl (by decide) ?_
    refine b_isub rfl ?_
    refine b_callV2i (ν := MX1_needNumber) rfl ml10_125 cvX1_needNumber (d' := 2) (by omega) rfl (by decide) rfl (Nat.le_of_ble_eq_true rfl) ?_
    refine fbd_needNumber hF (fun H2 hF2 => ?_)
    refine ⟨_, rfl, ?_⟩
    refine b_istoreX_n (F := fun z32 => [some (aR 11), some (aI x1), some (aI z32), none, none]) rfl (by decide) (fun _ => rfl) (fun z32 ez32 => ?_)
    exact f33 _ _ _ _ _ hF2 k1
  have g51 : ∀ (s w p5 : Nat) (z1 h z3 m : Int) (H1 : HI), z1 = (s : Int) → z3 = (w : Int) → (s : Int) < I 13 1 → (w : Int) < I 13 0 → 0 ≤ h → h < I 15 (6 + s) → (∃ ts tu, Lok I n p5 ts tu H1) → (∀ H', SO n I (.inr (up I 22 (24 * s + 6 * h.toNat + w) m, p5)) H' → Q none H') → Bj MX10_readLoads 4 51 [some (aR 11), some (aI z1), some (aI h), some (aI z3), some (aI m)] [] H1 Q := by
    intro s w p5 z1 h z3 m H1 e1 e3 hs hw h0 h4 hL1 k1
    obtain ⟨ts, tu, hL1⟩ := hL1
    have hc := Lok_c13 hI.1 hL1
    have hb1 := hI.1 1 (by decide)
    have hb0 := hI.1 0 (by decide)
    have h15 := hI.2.1 s hs
    obtain ⟨po, va, e, hh⟩ := hL1
    subst e
    subst e1
    subst e3
    have ek : kc_12 (LX I po (tk n (I 2) p5 : Int) (tq n (I 2) p5 : Int) (tsp n (I 2) p5 : Int) va (tw n (I 2) p5) ts tu 0 (-1)) (s : Int) h (w : Int) := by
      refine ⟨⟨by decide, by decide, by omega, ?_⟩, h0, ?_, ⟨by decide, by decide, by omega, ?_⟩⟩
      · exact hs
      · rw [show (1 * 6 + (s : Int)).toNat = 6 + s by omega]
        exact h4
      · exact hw
    refine b_aload_n rfl rfl ?_
    refine b_getR (r := 24) rfl fl10_30 rfl (by decide) rfl rfl ?_
    refine b_getI rfl fl10_50 rfl (by decide) rfl ?_
    rw [LX_10]
    refine b_if_ne (tgt := 90) rfl rfl (fun c58 => ?_) (fun c58 => ?_)
    · omega
    · refine b_aload_n rfl rfl ?_
      refine b_getR (r := 12) rfl fl10_12 rfl (by decide) rfl rfl ?_
      refine b_iload_n rfl rfl ?_
      refine b_iload_n rfl rfl ?_
      refine b_iload_n rfl rfl ?_
      refine b_callV3i (ν := MX3_knowsCell) rfl ml10_149 cvX3_knowsCell (d' := 2) (by omega) rfl (by decide) rfl (Nat.le_of_ble_eq_true rfl) ?_
      refine sp_X3_knowsCell_12 hc (fun _ => ?_) (fun z => absurd ek z)
      refine ⟨_, rfl, ?_⟩
      refine b_if_eq (tgt := 90) rfl rfl (fun c71 => ?_) (fun c71 => ?_)
      · omega
      · refine b_aload_n rfl rfl ?_
        refine b_getR (r := 20) rfl fl10_21 rfl (by decide) rfl rfl ?_
        refine b_getR (r := 22) rfl fl10_153 rfl (by decide) rfl rfl ?_
        refine b_iload_n rfl rfl ?_
        refine b_iload_n rfl rfl ?_
        refine b_iload_n rfl rfl ?_
        refine b_callSN3i (ν := MX11_cell) rfl ml10_156 csX11_cell (d' := 0) (by omega) (Nat.le_of_ble_eq_true rfl) ?_
        refine sp_X11_cell (by omega) ?_
        refine ⟨_, rfl, ?_⟩
        refine b_iload rfl rfl ?_
        refine b_iast rfl rfl (by omega) (by omega) ?_
        rw [LX_ux (by decide)]
        refine b_vret rfl rfl ?_
        refine k1 _ (SO_r (ts := ts) (tu := tu) rfl ⟨po, va, ?_, hh⟩)
        rw [show ((s : Int) * 24 + h * 6 + (w : Int)).toNat = 24 * s + 6 * h.toNat + w by omega]
        rfl
  have g39 : ∀ (s w p4 : Nat) (z1 h z3 : Int) (H1 : HI), z1 = (s : Int) → z3 = (w : Int) → (s : Int) < I 13 1 → (w : Int) < I 13 0 → 0 ≤ h → h < I 15 (6 + s) → (∃ ts tu, Lok I n p4 ts tu H1) → (∀ H', SO n I (kLo3 n I s h w p4) H' → Q none H') → Bj MX10_readLoads 4 39 [some (aR 11), some (aI z1), some (aI h), some (aI z3), none] [] H1 Q := by
    intro s w p4 z1 h z3 H1 e1 e3 hs hw h0 h4 hL1 k1
    obtain ⟨ts, tu, hL1⟩ := hL1
    refine b_aload_n rfl rfl ?_
    refine b_getR (r := 24) rfl fl10_30 rfl (by decide) rfl rfl ?_
    refine b_iconst rfl (by decide) ?_
    refine b_bipush rfl (by decide) ?_
    refine b_callV2i (ν := MX1_needNumber) rfl ml10_125 cvX1_needNumber (d' := 2) (by omega) rfl (by decide) rfl (Nat.le_of_ble_eq_true rfl) ?_
    refine sp_needNumber hX hL1 (fun h1 h2 h3 H2 hL2 => ?_) (fun h1 h2 H2 hb => ?_) (fun h1 H2 hb => ?_)
    · refine ⟨_, rfl, ?_⟩
      refine b_istoreX (F := fun z49 => [some (aR 11), some (aI z1), some (aI h), some (aI z3), some (aI z49)]) rfl (by decide) (fun _ => rfl) (fun z49 ez49 => ?_)
      first
      | exact g51 s w _ _ _ _ _ _ e1 e3 hs hw h0 h4 ⟨_, _, hL2⟩ (fun H' s => k1 _ (SO_e ((if_pos h1).trans ((if_pos ⟨h2, h3⟩).trans (by rw [ez49]))) s))
      | exact f51 _ _ _ _ _ _ _ (fbd_of hI p16 hb) (fun H' hF => k1 _ (SO_l ((if_pos h1).trans (if_neg h2)) hF))
      | exact f51 _ _ _ _ _ _ _ (fbd_of hI p16 hb) (fun H' hF => k1 _ (SO_l (if_neg h1) hF))
    · refine ⟨_, rfl, ?_⟩
      refine b_istoreX (F := fun z49 => [some (aR 11), some (aI z1), some (aI h), some (aI z3), some (aI z49)]) rfl (by decide) (fun _ => rfl) (fun z49 ez49 => ?_)
      first
      | exact g51 s w _ _ _ _ _ _ e1 e3 hs hw h0 h4 ⟨_, _, hL2⟩ (fun H' s => k1 _ (SO_e ((if_pos h1).trans ((if_pos ⟨h2, h3⟩).trans (by rw [ez49]))) s))
      | exact f51 _ _ _ _ _ _ _ (fbd_of hI p16 hb) (fun H' hF => k1 _ (SO_l ((if_pos h1).trans (if_neg h2)) hF))
      | exact f51 _ _ _ _ _ _ _ (fbd_of hI p16 hb) (fun H' hF => k1 _ (SO_l (if_neg h1) hF))
    · refine ⟨_, rfl, ?_⟩
      refine b_istoreX (F := fun z49 => [some (aR 11), some (aI z1), some (aI h), some (aI z3), some (aI z49)]) rfl (by decide) (fun _ => rfl) (fun z49 ez49 => ?_)
      first
      | exact g51 s w _ _ _ _ _ _ e1 e3 hs hw h0 h4 ⟨_, _, hL2⟩ (fun H' s => k1 _ (SO_e ((if_pos h1).trans ((if_pos ⟨h2, h3⟩).trans (by rw [ez49]))) s))
      | exact f51 _ _ _ _ _ _ _ (fbd_of hI p16 hb) (fun H' hF => k1 _ (SO_l ((if_pos h1).trans (if_neg h2)) hF))
      | exact f51 _ _ _ _ _ _ _ (fbd_of hI p16 hb) (fun H' hF => k1 _ (SO_l (if_neg h1) hF))
  have g33 : ∀ (s p3 : Nat) (z1 h : Int) (H1 : HI), p ≤ p3 → p3 ≤ n → z1 = (s : Int) → (s : Int) < I 13 1 → 0 ≤ h → h < I 15 (6 + s) → (∃ ts tu, Lok I n p3 ts tu H1) → (∀ H', SO n I (kLo2 n I s h p3) H' → Q none H') → Bj MX10_readLoads 4 33 [some (aR 11), some (aI z1), some (aI h), none, none] [] H1 Q := by
    intro s p3 z1 h H1 hp3 hp3n e1 hs h0 h4 hL1 k1
    obtain ⟨ts, tu, hL1⟩ := hL1
    refine b_aload_n rfl rfl ?_
    refine b_iconst rfl (by decide) ?_
    refine b_callV1i (ν := MX10_readKnown) rfl ml10_142 cvX10_readKnown (d' := 3) (by omega) rfl (by decide) rfl (Nat.le_of_ble_eq_true rfl) ?_
    refine sp_X10_readKnown (kk := 0) hX (hI2 _ hp3) hp3n (by decide) hL1 (fun h1 h2 H2 hL2 => ?_) (fun h1 h2 H2 hF => ?_) (fun h1 z H2 hz hF => ?_)
    · refine ⟨_, rfl, ?_⟩
      refine b_istoreX_n (F := fun z38 => [some (aR 11), some (aI z1), some (aI h), some (aI z38), none]) rfl (by decide) (fun _ => rfl) (fun z38 ez38 => ?_)
      first
      | (have hf := fin_nat hI.1 (by decide) h2
         exact g39 s (finN I 0 (tv n (I 2) p3)).toNat _ _ _ _ _ e1 (by omega) hs hf.2.1 h0 h4 ⟨_, _, hL2⟩ (fun H' s => k1 _ (SO_e ((if_pos h1).trans (if_neg h2)) s)))
      | exact f39 _ _ _ _ _ _ hF (fun H' hF => k1 _ (SO_l ((if_pos h1).trans (if_pos h2)) hF))
      | exact f39 _ _ _ _ _ _ hF (fun H' hF => k1 _ (SO_l (if_neg h1) hF))
    · refine ⟨_, rfl, ?_⟩
      refine b_istoreX_n (F := fun z38 => [some (aR 11), some (aI z1), some (aI h), some (aI z38), none]) rfl (by decide) (fun _ => rfl) (fun z38 ez38 => ?_)
      first
      | (have hf := fin_nat hI.1 (by decide) h2
         exact g39 s (finN I 0 (tv n (I 2) p3)).toNat _ _ _ _ _ e1 (by omega) hs hf.2.1 h0 h4 ⟨_, _, hL2⟩ (fun H' s => k1 _ (SO_e ((if_pos h1).trans (if_neg h2)) s)))
      | exact f39 _ _ _ _ _ _ hF (fun H' hF => k1 _ (SO_l ((if_pos h1).trans (if_pos h2)) hF))
      | exact f39 _ _ _ _ _ _ hF (fun H' hF => k1 _ (SO_l (if_neg h1) hF))
    · refine ⟨_, rfl, ?_⟩
      refine b_istoreX_n (F := fun z38 => [some (aR 11), some (aI z1), some (aI h), some (aI z38), none]) rfl (by decide) (fun _ => rfl) (fun z38 ez38 => ?_)
      first
      | (have hf := fin_nat hI.1 (by decide) h2
         exact g39 s (finN I 0 (tv n (I 2) p3)).toNat _ _ _ _ _ e1 (by omega) hs hf.2.1 h0 h4 ⟨_, _, hL2⟩ (fun H' s => k1 _ (SO_e ((if_pos h1).trans (if_neg h2)) s)))
      | exact f39 _ _ _ _ _ _ hF (fun H' hF => k1 _ (SO_l ((if_pos h1).trans (if_pos h2)) hF))
      | exact f39 _ _ _ _ _ _ hF (fun H' hF => k1 _ (SO_l (if_neg h1) hF))
  have g13 : ∀ (s p2 : Nat) (z1 : Int) (H1 : HI), p ≤ p2 → z1 = (s : Int) → (s : Int) < I 13 1 → (∃ ts tu, Lok I n p2 ts tu H1) → (∀ H', SO n I (kLo1 n I s p2) H' → Q none H') → Bj MX10_readLoads 4 13 [some (aR 11), some (aI z1), none, none, none] [] H1 Q := by
    intro s p2 z1 H1 hp2 e1 hs hL1 k1
    obtain ⟨ts, tu, hL1⟩ := hL1
    have h15 := hI.2.1 s hs
    have ef : fo H1 13 15 1 z1 = I 15 (6 + s) := by
      obtain ⟨po, va, e, h⟩ := hL1
      subst e
      subst e1
      rw [fo_1 ⟨by decide, by decide, by omega, hs⟩, show (1 * 6 + (s : Int)).toNat = 6 + s by omega]
      rfl
    refine b_aload_n rfl rfl ?_
    refine b_getR (r := 24) rfl fl10_30 rfl (by decide) rfl rfl ?_
    refine b_iconst rfl (by decide) ?_
    refine b_aload_n rfl rfl ?_
    refine b_getR (r := 12) rfl fl10_12 rfl (by decide) rfl rfl ?_
    refine b_iconst rfl (by decide) ?_
    refine b_iload_n rfl rfl ?_
    refine b_callV2i (ν := MX3_firstOf) rfl ml10_146 cvX3_firstOf (d' := 1) (by omega) rfl (by decide) rfl (Nat.le_of_ble_eq_true rfl) ?_
    refine sp_X3_firstOf_12 (Lok_c13 hI.1 hL1) ?_
    rw [ef]
    refine ⟨_, rfl, ?_⟩
    refine b_iconst rfl (by decide) ?_
    refine b_isubN rfl (by omega) (by omega) ?_
    refine b_callV2i (ν := MX1_needNumber) rfl ml10_125 cvX1_needNumber (d' := 2) (by omega) rfl (by decide) rfl (Nat.le_of_ble_eq_true rfl) ?_
    refine sp_needNumber hX hL1 (fun h1 h2 h3 H2 hL2 => ?_) (fun h1 h2 H2 hb => ?_) (fun h1 H2 hb => ?_)
    · refine ⟨_, rfl, ?_⟩
      refine b_istoreX_n (F := fun z32 => [some (aR 11), some (aI z1), some (aI z32), none, none]) rfl (by decide) (fun _ => rfl) (fun z32 ez32 => ?_)
      first
      | (have ht := te_gp (Or.inr (Or.inl h1) : tk n (I 2) p2 = 1 ∨ tk n (I 2) p2 = 2 ∨ tk n (I 2) p2 = 3)
         exact g33 s _ _ _ _ (by omega) ht.2 e1 hs (by omega) (by omega) ⟨_, _, hL2⟩ (fun H' s => k1 _ (SO_e ((if_pos h1).trans ((if_pos ⟨h2, h3⟩).trans (by rw [ez32]))) s)))
      | exact f33 _ _ _ _ _ (fbd_of hI p16 hb) (fun H' hF => k1 _ (SO_l ((if_pos h1).trans (if_neg h2)) hF))
      | exact f33 _ _ _ _ _ (fbd_of hI p16 hb) (fun H' hF => k1 _ (SO_l (if_neg h1) hF))
    · refine ⟨_, rfl, ?_⟩
      refine b_istoreX_n (F := fun z32 => [some (aR 11), some (aI z1), some (aI z32), none, none]) rfl (by decide) (fun _ => rfl) (fun z32 ez32 => ?_)
      first
      | (have ht := te_gp (Or.inr (Or.inl h1) : tk n (I 2) p2 = 1 ∨ tk n (I 2) p2 = 2 ∨ tk n (I 2) p2 = 3)
         exact g33 s _ _ _ _ (by omega) ht.2 e1 hs (by omega) (by omega) ⟨_, _, hL2⟩ (fun H' s => k1 _ (SO_e ((if_pos h1).trans ((if_pos ⟨h2, h3⟩).trans (by rw [ez32]))) s)))
      | exact f33 _ _ _ _ _ (fbd_of hI p16 hb) (fun H' hF => k1 _ (SO_l ((if_pos h1).trans (if_neg h2)) hF))
      | exact f33 _ _ _ _ _ (fbd_of hI p16 hb) (fun H' hF => k1 _ (SO_l (if_neg h1) hF))
    · refine ⟨_, rfl, ?_⟩
      refine b_istoreX_n (F := fun z32 => [some (aR 11), some (aI z1), some (aI z32), none, none]) rfl (by decide) (fun _ => rfl) (fun z32 ez32 => ?_)
      first
      | (have ht := te_gp (Or.inr (Or.inl h1) : tk n (I 2) p2 = 1 ∨ tk n (I 2) p2 = 2 ∨ tk n (I 2) p2 = 3)
         exact g33 s _ _ _ _ (by omega) ht.2 e1 hs (by omega) (by omega) ⟨_, _, hL2⟩ (fun H' s => k1 _ (SO_e ((if_pos h1).trans ((if_pos ⟨h2, h3⟩).trans (by rw [ez32]))) s)))
      | exact f33 _ _ _ _ _ (fbd_of hI p16 hb) (fun H' hF => k1 _ (SO_l ((if_pos h1).trans (if_neg h2)) hF))
      | exact f33 _ _ _ _ _ (fbd_of hI p16 hb) (fun H' hF => k1 _ (SO_l (if_neg h1) hF))
  have ht := te_gp (Or.inl hk : tk n (I 2) p = 1 ∨ tk n (I 2) p = 2 ∨ tk n (I 2) p = 3)
  refine b_aload_n rfl rfl ?_
  refine b_getR (r := 24) rfl fl10_30 rfl (by decide) rfl rfl ?_
  refine b_callV0v (ν := MX1_take) rfl ml10_99 cvX1_take (d' := 1) (by omega) rfl (by decide) rfl (Nat.le_of_ble_eq_true rfl) ?_
  refine sp_take hX hL (Or.inl hk) (fun H1 hL1 => ?_)
  refine ⟨rfl, ?_⟩
  refine b_aload_n rfl rfl ?_
  refine b_iconst rfl (by decide) ?_
  refine b_callV1i (ν := MX10_readKnown) rfl ml10_142 cvX10_readKnown (d' := 3) (by omega) rfl (by decide) rfl (Nat.le_of_ble_eq_true rfl) ?_
  refine sp_X10_readKnown (kk := 1) hX (hI2 _ (by omega)) ht.2 (by decide) hL1 (fun h1 h2 H2 hL2 => ?_) (fun h1 h2 H2 hF => ?_) (fun h1 z H2 hz hF => ?_)
  · refine ⟨_, rfl, ?_⟩
    refine b_istoreX_n (F := fun z12 => [some (aR 11), some (aI z12), none, none, none]) rfl (by decide) (fun _ => rfl) (fun z12 ez12 => ?_)
    first
    | (have hf := fin_nat hI.1 (by decide) h2
       have ht2 := te_gp (Or.inl h1.1 : tk n (I 2) (te n (I 2) p) = 1 ∨ tk n (I 2) (te n (I 2) p) = 2 ∨ tk n (I 2) (te n (I 2) p) = 3)
       exact g13 (finN I 1 (tv n (I 2) (te n (I 2) p))).toNat _ _ _ (by omega) (by omega) hf.2.1 ⟨_, _, hL2⟩ (fun H' s => kq _ (SO_e ((if_pos h1).trans (if_neg h2)) s)))
    | exact f13 _ _ _ _ hF (fun H' hF => kq _ (SO_l ((if_pos h1).trans (if_pos h2)) hF))
    | exact f13 _ _ _ _ hF (fun H' hF => kq _ (SO_l (if_neg h1) hF))
  · refine ⟨_, rfl, ?_⟩
    refine b_istoreX_n (F := fun z12 => [some (aR 11), some (aI z12), none, none, none]) rfl (by decide) (fun _ => rfl) (fun z12 ez12 => ?_)
    first
    | (have hf := fin_nat hI.1 (by decide) h2
       have ht2 := te_gp (Or.inl h1.1 : tk n (I 2) (te n (I 2) p) = 1 ∨ tk n (I 2) (te n (I 2) p) = 2 ∨ tk n (I 2) (te n (I 2) p) = 3)
       exact g13 (finN I 1 (tv n (I 2) (te n (I 2) p))).toNat _ _ _ (by omega) (by omega) hf.2.1 ⟨_, _, hL2⟩ (fun H' s => kq _ (SO_e ((if_pos h1).trans (if_neg h2)) s)))
    | exact f13 _ _ _ _ hF (fun H' hF => kq _ (SO_l ((if_pos h1).trans (if_pos h2)) hF))
    | exact f13 _ _ _ _ hF (fun H' hF => kq _ (SO_l (if_neg h1) hF))
  · refine ⟨_, rfl, ?_⟩
    refine b_istoreX_n (F := fun z12 => [some (aR 11), some (aI z12), none, none, none]) rfl (by decide) (fun _ => rfl) (fun z12 ez12 => ?_)
    first
    | (have hf := fin_nat hI.1 (by decide) h2
       have ht2 := te_gp (Or.inl h1.1 : tk n (I 2) (te n (I 2) p) = 1 ∨ tk n (I 2) (te n (I 2) p) = 2 ∨ tk n (I 2) (te n (I 2) p) = 3)
       exact g13 (finN I 1 (tv n (I 2) (te n (I 2) p))).toNat _ _ _ (by omega) (by omega) hf.2.1 ⟨_, _, hL2⟩ (fun H' s => kq _ (SO_e ((if_pos h1).trans (if_neg h2)) s)))
    | exact f13 _ _ _ _ hF (fun H' hF => kq _ (SO_l ((if_pos h1).trans (if_pos h2)) hF))
    | exact f13 _ _ _ _ hF (fun H' hF => kq _ (SO_l (if_neg h1) hF))
theorem Lok_21 {j : Nat} (hL : Lok I n p ts tu H) : H 21 = I 21 := by
  obtain ⟨po, va, e, h⟩ := hL
  subst e
  rfl
theorem sp_X10_readLies (hX : TX I n) (hI : DI I p) (hp : p ≤ n) (hk : tk n (I 2) p = 1) (hL : Lok I n p ts tu H) (kq : ∀ H', SO n I (stLi n I p) H' → Q none H') : Rj MX10_readLies 4 [aR 11] H Q := by
  have hn := hX.2.1
  have p16 : p ≤ 1600 := by omega
  have hI2 : ∀ q : Nat, p ≤ q → DI I q := fun q hq => ⟨hI.1, hI.2.1, hI.2.2.1, by have := hI.2.2.2.1; omega, hI.2.2.2.2⟩
  refine rj_of okX10_readLies (Nat.le_of_ble_eq_true rfl) rfl ?_
  have f84 : ∀ (k pl : Int) (x1 x2 : Option AV) (H1 : HI), FBd I k pl H1 → (∀ H', FBd I k pl H' → Q none H') → Bj MX10_readLies 4 84 [some (aR 11), x1, x2] [] H1 Q := by
    intro k pl x1 x2 H1 hF k1
    have hF' := hF
    obtain ⟨I', h3, po, st, sp, va, wo, ts, tu, e, h⟩ := hF
    subst e
    refine b_aload_n rfl rfl ?_
    refine b_getR (r := 24) rfl fl10_30 rfl (by decide) rfl rfl ?_
    refine b_getI rfl fl10_50 rfl (by decide) rfl ?_
    rw [LX_10]
    refine b_if_ne (tgt := 109) rfl rfl (fun c91 => ?_) (fun c91 => ?_)
    · refine b_vret rfl rfl ?_
      exact k1 _ hF'
    · omega
  have f52 : ∀ (k pl : Int) (x1 x2 : Int) (H1 : HI), -1 ≤ x2 ∧ x2 < 6 → FBd I k pl H1 → (∀ H', FBd I k pl H' → Q none H') → Bj MX10_readLies 4 52 [some (aR 11), some (aI x1), some (aI x2)] [] H1 Q := by
    intro k pl x1 x2 H1 hx hF k1
    have hF' := hF
    obtain ⟨I', h3, po, st, sp, va, wo, ts, tu, e, h⟩ := hF
    subst e
    refine b_iload_n rfl rfl ?_
    refine b_iconst rfl (by decide) ?_
    refine b_icmp_eq (tgt := 84) rfl rfl (fun c54 => ?_) (fun c54 => ?_)
    · first
      | exact f84 _ _ _ _ _ hF2 k1
      | exact f84 _ _ _ _ _ hF' k1
    · refine b_aload_n rfl rfl ?_
      refine b_getR (r := 20) rfl fl10_21 rfl (by decide) rfl rfl ?_
      refine b_iload_n rfl rfl ?_
      refine b_callV1i (ν := MX7_shipIn) rfl ml10_163 cvX7_shipIn (d' := 0) (by omega) rfl (by decide) rfl (Nat.le_of_ble_eq_true rfl) ?_
      refine sp_X7_shipIn_20 ?_
      refine ⟨_, rfl, ?_⟩
      refine b_iconst rfl (by decide) ?_
      refine b_icmp_eq (tgt := 84) rfl rfl (fun c66 => ?_) (fun c66 => ?_)
      · first
        | exact f84 _ _ _ _ _ hF2 k1
        | exact f84 _ _ _ _ _ hF' k1
      · refine b_aload_n rfl rfl ?_
        refine b_getR (r := 24) rfl fl10_30 rfl (by decide) rfl rfl ?_
        refine b_iconst rfl (by decide) ?_
        refine b_aload_n rfl rfl ?_
        refine b_getR (r := 24) rfl fl10_30 rfl (by decide) rfl rfl ?_
        refine b_getI rfl fl10_110 rfl (by decide) rfl ?_
        rw [LX_8]
        refine b_callV2v (ν := MX1_fail) rfl ml10_60 cvX1_fail (d' := 0) (by omega) rfl (by decide) rfl (Nat.le_of_ble_eq_true rfl) ?_
        refine fbd_fail hF' (fun H2 hF2 => ?_)
        refine ⟨rfl, ?_⟩
        first
        | exact f84 _ _ _ _ _ hF2 k1
        | exact f84 _ _ _ _ _ hF' k1
  have f46 : ∀ (k pl : Int) (x1 : Int) (H1 : HI), FBd I k pl H1 → (∀ H', FBd I k pl H' → Q none H') → Bj MX10_readLies 4 46 [some (aR 11), some (aI x1), none] [] H1 Q := by
    intro k pl x1 H1 hF k1
    refine b_aload_n rfl rfl ?_
    refine b_iconst rfl (by decide) ?_
    refine b_callV1i (ν := MX10_readKnown) rfl ml10_142 cvX10_readKnown (d' := 3) (by omega) rfl (by decide) rfl (Nat.le_of_ble_eq_true rfl) ?_
    refine fbd_readKnown (kk := 2) (by decide) hF (fun z H2 hz hF2 => ?_)
    refine ⟨_, rfl, ?_⟩
    refine b_istoreX_n (F := fun z51 => [some (aR 11), some (aI x1), some (aI z51)]) rfl (by decide) (fun _ => rfl) (fun z51 ez51 => ?_)
    exact f52 _ _ _ _ _ (by omega) hF2 k1
  have f13 : ∀ (k pl : Int) (x1 : Int) (H1 : HI), -1 ≤ x1 ∧ x1 < 6 → FBd I k pl H1 → (∀ H', FBd I k pl H' → Q none H') → Bj MX10_readLies 4 13 [some (aR 11), some (aI x1), none] [] H1 Q := by
    intro k pl x1 H1 hx hF k1
    have hF' := hF
    obtain ⟨I', h3, po, st, sp, va, wo, ts, tu, e, h⟩ := hF
    subst e
    refine b_iload_n rfl rfl ?_
    refine b_iconst rfl (by decide) ?_
    refine b_icmp_eq (tgt := 46) rfl rfl (fun c15 => ?_) (fun c15 => ?_)
    · first
      | exact f46 _ _ _ _ hF2 k1
      | exact f46 _ _ _ _ hF' k1
    · refine b_aload_n rfl rfl ?_
      refine b_getR (r := 20) rfl fl10_21 rfl (by decide) rfl rfl ?_
      refine b_getR (r := 21) rfl fl10_160 rfl (by decide) rfl rfl ?_
      refine b_iload_n rfl rfl ?_
      refine b_iald rfl rfl (by omega) (by omega) ?_
      rw [LXc (by decide)]
      try rw [Int.toNat_natCast]
      refine b_iconst rfl (by decide) ?_
      refine b_icmp_eq (tgt := 46) rfl rfl (fun c28 => ?_) (fun c28 => ?_)
      · first
        | exact f46 _ _ _ _ hF2 k1
        | exact f46 _ _ _ _ hF' k1
      · refine b_aload_n rfl rfl ?_
        refine b_getR (r := 24) rfl fl10_30 rfl (by decide) rfl rfl ?_
        refine b_iconst rfl (by decide) ?_
        refine b_aload_n rfl rfl ?_
        refine b_getR (r := 24) rfl fl10_30 rfl (by decide) rfl rfl ?_
        refine b_getI rfl fl10_110 rfl (by decide) rfl ?_
        rw [LX_8]
        refine b_callV2v (ν := MX1_fail) rfl ml10_60 cvX1_fail (d' := 0) (by omega) rfl (by decide) rfl (Nat.le_of_ble_eq_true rfl) ?_
        refine fbd_fail hF' (fun H2 hF2 => ?_)
        refine ⟨rfl, ?_⟩
        first
        | exact f46 _ _ _ _ hF2 k1
        | exact f46 _ _ _ _ hF' k1
  have g84 : ∀ (s p3 : Nat) (z1 b : Int) (H1 : HI), z1 = (s : Int) → s < 6 → (∃ ts tu, Lok I n p3 ts tu H1) → (∀ H', SO n I (.inr (up I 21 s b, p3)) H' → Q none H') → Bj MX10_readLies 4 84 [some (aR 11), some (aI z1), some (aI b)] [] H1 Q := by
    intro s p3 z1 b H1 e1 hs hL1 k1
    obtain ⟨ts, tu, po, va, e, h⟩ := hL1
    subst e
    subst e1
    refine b_aload_n rfl rfl ?_
    refine b_getR (r := 24) rfl fl10_30 rfl (by decide) rfl rfl ?_
    refine b_getI rfl fl10_50 rfl (by decide) rfl ?_
    rw [LX_10]
    refine b_if_ne (tgt := 109) rfl rfl (fun c91 => ?_) (fun c91 => ?_)
    · omega
    · refine b_iload_n rfl rfl ?_
      refine b_iconst rfl (by decide) ?_
      refine b_icmp_eq (tgt := 109) rfl rfl (fun c96 => ?_) (fun c96 => ?_)
      · omega
      · refine b_aload_n rfl rfl ?_
        refine b_getR (r := 20) rfl fl10_21 rfl (by decide) rfl rfl ?_
        refine b_getR (r := 21) rfl fl10_160 rfl (by decide) rfl rfl ?_
        refine b_iload_n rfl rfl ?_
        refine b_iload_n rfl rfl ?_
        refine b_iast rfl rfl (by omega) (by omega) ?_
        rw [LX_ux (by decide)]
        refine b_vret rfl rfl ?_
        refine k1 _ (SO_r (ts := ts) (tu := tu) rfl ⟨po, va, ?_, h⟩)
        rw [Int.toNat_natCast]
        rfl
  have g52 : ∀ (s b q p3 : Nat) (z1 z2 tu : Int) (H1 : HI), z1 = (s : Int) → s < 6 → z2 = (b : Int) → Lok I n p3 (tq n (I 2) q : Int) tu H1 → (∀ H', SO n I (kLi2 n I s q b p3) H' → Q none H') → Bj MX10_readLies 4 52 [some (aR 11), some (aI z1), some (aI z2)] [] H1 Q := by
    intro s b q p3 z1 z2 tu H1 e1 hs e2 hL1 k1
    have hL1' := hL1
    obtain ⟨po, va, e, h⟩ := hL1
    subst e
    subst e2
    refine b_iload_n rfl rfl ?_
    refine b_iconst rfl (by decide) ?_
    refine b_icmp_eq (tgt := 84) rfl rfl (fun c54 => ?_) (fun c54 => ?_)
    · omega
    · refine b_aload_n rfl rfl ?_
      refine b_getR (r := 20) rfl fl10_21 rfl (by decide) rfl rfl ?_
      refine b_iload_n rfl rfl ?_
      refine b_callV1i (ν := MX7_shipIn) rfl ml10_163 cvX7_shipIn (d' := 0) (by omega) rfl (by decide) rfl (Nat.le_of_ble_eq_true rfl) ?_
      refine sp_X7_shipIn_20 ?_
      refine ⟨_, rfl, ?_⟩
      refine b_iconst rfl (by decide) ?_
      refine b_icmp_eq (tgt := 84) rfl rfl (fun c66 => ?_) (fun c66 => ?_)
      · first
        | exact f84 _ _ _ _ _ (fbd_of hI p16 hb) (fun H' hF => k1 _ (SO_l (if_pos c66) hF))
        | exact g84 s _ _ _ _ e1 hs ⟨_, _, hL1'⟩ (fun H' s => k1 _ (SO_e (if_neg (fun z => z c66)) s))
      · refine b_aload_n rfl rfl ?_
        refine b_getR (r := 24) rfl fl10_30 rfl (by decide) rfl rfl ?_
        refine b_iconst rfl (by decide) ?_
        refine b_aload_n rfl rfl ?_
        refine b_getR (r := 24) rfl fl10_30 rfl (by decide) rfl rfl ?_
        refine b_getI rfl fl10_110 rfl (by decide) rfl ?_
        rw [LX_8]
        refine b_callV2v (ν := MX1_fail) rfl ml10_60 cvX1_fail (d' := 0) (by omega) rfl (by decide) rfl (Nat.le_of_ble_eq_true rfl) ?_
        refine sp_fail (by decide) hL1' (fun H2 hb => ?_)
        refine ⟨rfl, ?_⟩
        first
        | exact f84 _ _ _ _ _ (fbd_of hI p16 hb) (fun H' hF => k1 _ (SO_l (if_pos c66) hF))
        | exact g84 s _ _ _ _ e1 hs ⟨_, _, hL1'⟩ (fun H' s => k1 _ (SO_e (if_neg (fun z => z c66)) s))
  have g46 : ∀ (s p2 : Nat) (z1 : Int) (H1 : HI), p ≤ p2 → p2 ≤ n → z1 = (s : Int) → s < 6 → (∃ ts tu, Lok I n p2 ts tu H1) → (∀ H', SO n I (knw n I 2 p2 (kLi2 n I s p2)) H' → Q none H') → Bj MX10_readLies 4 46 [some (aR 11), some (aI z1), none] [] H1 Q := by
    intro s p2 z1 H1 hp2 hp2n e1 hs hL1 k1
    obtain ⟨ts, tu, hL1⟩ := hL1
    refine b_aload_n rfl rfl ?_
    refine b_iconst rfl (by decide) ?_
    refine b_callV1i (ν := MX10_readKnown) rfl ml10_142 cvX10_readKnown (d' := 3) (by omega) rfl (by decide) rfl (Nat.le_of_ble_eq_true rfl) ?_
    refine sp_X10_readKnown (kk := 2) hX (hI2 _ hp2) hp2n (by decide) hL1 (fun h1 h2 H2 hL2 => ?_) (fun h1 h2 H2 hF => ?_) (fun h1 z H2 hz hF => ?_)
    · refine ⟨_, rfl, ?_⟩
      refine b_istoreX_n (F := fun z51 => [some (aR 11), some (aI z1), some (aI z51)]) rfl (by decide) (fun _ => rfl) (fun z51 ez51 => ?_)
      first
      | (have hf := fin_nat hI.1 (by decide) h2
         exact g52 s (finN I 2 (tv n (I 2) p2)).toNat p2 _ _ _ _ _ e1 hs (by omega) hL2 (fun H' s => k1 _ (SO_e ((if_pos h1).trans (if_neg h2)) s)))
      | exact f52 _ _ _ _ _ (by omega) hF (fun H' hF => k1 _ (SO_l ((if_pos h1).trans (if_pos h2)) hF))
      | exact f52 _ _ _ _ _ (by omega) hF (fun H' hF => k1 _ (SO_l (if_neg h1) hF))
    · refine ⟨_, rfl, ?_⟩
      refine b_istoreX_n (F := fun z51 => [some (aR 11), some (aI z1), some (aI z51)]) rfl (by decide) (fun _ => rfl) (fun z51 ez51 => ?_)
      first
      | (have hf := fin_nat hI.1 (by decide) h2
         exact g52 s (finN I 2 (tv n (I 2) p2)).toNat p2 _ _ _ _ _ e1 hs (by omega) hL2 (fun H' s => k1 _ (SO_e ((if_pos h1).trans (if_neg h2)) s)))
      | exact f52 _ _ _ _ _ (by omega) hF (fun H' hF => k1 _ (SO_l ((if_pos h1).trans (if_pos h2)) hF))
      | exact f52 _ _ _ _ _ (by omega) hF (fun H' hF => k1 _ (SO_l (if_neg h1) hF))
    · refine ⟨_, rfl, ?_⟩
      refine b_istoreX_n (F := fun z51 => [some (aR 11), some (aI z1), some (aI z51)]) rfl (by decide) (fun _ => rfl) (fun z51 ez51 => ?_)
      first
      | (have hf := fin_nat hI.1 (by decide) h2
         exact g52 s (finN I 2 (tv n (I 2) p2)).toNat p2 _ _ _ _ _ e1 hs (by omega) hL2 (fun H' s => k1 _ (SO_e ((if_pos h1).trans (if_neg h2)) s)))
      | exact f52 _ _ _ _ _ (by omega) hF (fun H' hF => k1 _ (SO_l ((if_pos h1).trans (if_pos h2)) hF))
      | exact f52 _ _ _ _ _ (by omega) hF (fun H' hF => k1 _ (SO_l (if_neg h1) hF))
  have g13 : ∀ (s q p2 : Nat) (z1 tu : Int) (H1 : HI), p ≤ p2 → p2 ≤ n → z1 = (s : Int) → s < 6 → Lok I n p2 (tq n (I 2) q : Int) tu H1 → (∀ H', SO n I (kLi1 n I q s p2) H' → Q none H') → Bj MX10_readLies 4 13 [some (aR 11), some (aI z1), none] [] H1 Q := by
    intro s q p2 z1 tu H1 hp2 hp2n e1 hs hL1 k1
    have hL1' := hL1
    obtain ⟨po, va, e, h⟩ := hL1
    subst e
    subst e1
    refine b_iload_n rfl rfl ?_
    refine b_iconst rfl (by decide) ?_
    refine b_icmp_eq (tgt := 46) rfl rfl (fun c15 => ?_) (fun c15 => ?_)
    · omega
    · refine b_aload_n rfl rfl ?_
      refine b_getR (r := 20) rfl fl10_21 rfl (by decide) rfl rfl ?_
      refine b_getR (r := 21) rfl fl10_160 rfl (by decide) rfl rfl ?_
      refine b_iload_n rfl rfl ?_
      refine b_iald rfl rfl (by omega) (by omega) ?_
      rw [LXc (by decide)]
      try rw [Int.toNat_natCast]
      refine b_iconst rfl (by decide) ?_
      refine b_icmp_eq (tgt := 46) rfl rfl (fun c28 => ?_) (fun c28 => ?_)
      · first
        | exact f46 _ _ _ _ (fbd_of hI p16 hb) (fun H' hF => k1 _ (SO_l (if_pos c28) hF))
        | exact g46 s _ _ _ hp2 hp2n rfl hs ⟨_, _, hL1'⟩ (fun H' s => k1 _ (SO_e (if_neg (fun z => z c28)) s))
      · refine b_aload_n rfl rfl ?_
        refine b_getR (r := 24) rfl fl10_30 rfl (by decide) rfl rfl ?_
        refine b_iconst rfl (by decide) ?_
        refine b_aload_n rfl rfl ?_
        refine b_getR (r := 24) rfl fl10_30 rfl (by decide) rfl rfl ?_
        refine b_getI rfl fl10_110 rfl (by decide) rfl ?_
        rw [LX_8]
        refine b_callV2v (ν := MX1_fail) rfl ml10_60 cvX1_fail (d' := 0) (by omega) rfl (by decide) rfl (Nat.le_of_ble_eq_true rfl) ?_
        refine sp_fail (by decide) hL1' (fun H2 hb => ?_)
        refine ⟨rfl, ?_⟩
        first
        | exact f46 _ _ _ _ (fbd_of hI p16 hb) (fun H' hF => k1 _ (SO_l (if_pos c28) hF))
        | exact g46 s _ _ _ hp2 hp2n rfl hs ⟨_, _, hL1'⟩ (fun H' s => k1 _ (SO_e (if_neg (fun z => z c28)) s))
  have ht := te_gp (Or.inl hk : tk n (I 2) p = 1 ∨ tk n (I 2) p = 2 ∨ tk n (I 2) p = 3)
  refine b_aload_n rfl rfl ?_
  refine b_getR (r := 24) rfl fl10_30 rfl (by decide) rfl rfl ?_
  refine b_callV0v (ν := MX1_take) rfl ml10_99 cvX1_take (d' := 1) (by omega) rfl (by decide) rfl (Nat.le_of_ble_eq_true rfl) ?_
  refine sp_take hX hL (Or.inl hk) (fun H1 hL1 => ?_)
  refine ⟨rfl, ?_⟩
  refine b_aload_n rfl rfl ?_
  refine b_iconst rfl (by decide) ?_
  refine b_callV1i (ν := MX10_readKnown) rfl ml10_142 cvX10_readKnown (d' := 3) (by omega) rfl (by decide) rfl (Nat.le_of_ble_eq_true rfl) ?_
  refine sp_X10_readKnown (kk := 1) hX (hI2 _ (by omega)) ht.2 (by decide) hL1 (fun h1 h2 H2 hL2 => ?_) (fun h1 h2 H2 hF => ?_) (fun h1 z H2 hz hF => ?_)
  · refine ⟨_, rfl, ?_⟩
    refine b_istoreX_n (F := fun z12 => [some (aR 11), some (aI z12), none]) rfl (by decide) (fun _ => rfl) (fun z12 ez12 => ?_)
    first
    | (have hf := fin_nat hI.1 (by decide) h2
       have ht2 := te_gp (Or.inl h1.1 : tk n (I 2) (te n (I 2) p) = 1 ∨ tk n (I 2) (te n (I 2) p) = 2 ∨ tk n (I 2) (te n (I 2) p) = 3)
       exact g13 (finN I 1 (tv n (I 2) (te n (I 2) p))).toNat (te n (I 2) p) _ _ _ _ (by omega) ht2.2 (by omega) hf.2.2 hL2 (fun H' s => kq _ (SO_e ((if_pos h1).trans (if_neg h2)) s)))
    | exact f13 _ _ _ _ (by omega) hF (fun H' hF => kq _ (SO_l ((if_pos h1).trans (if_pos h2)) hF))
    | exact f13 _ _ _ _ (by omega) hF (fun H' hF => kq _ (SO_l (if_neg h1) hF))
  · refine ⟨_, rfl, ?_⟩
    refine b_istoreX_n (F := fun z12 => [some (aR 11), some (aI z12), none]) rfl (by decide) (fun _ => rfl) (fun z12 ez12 => ?_)
    first
    | (have hf := fin_nat hI.1 (by decide) h2
       have ht2 := te_gp (Or.inl h1.1 : tk n (I 2) (te n (I 2) p) = 1 ∨ tk n (I 2) (te n (I 2) p) = 2 ∨ tk n (I 2) (te n (I 2) p) = 3)
       exact g13 (finN I 1 (tv n (I 2) (te n (I 2) p))).toNat (te n (I 2) p) _ _ _ _ (by omega) ht2.2 (by omega) hf.2.2 hL2 (fun H' s => kq _ (SO_e ((if_pos h1).trans (if_neg h2)) s)))
    | exact f13 _ _ _ _ (by omega) hF (fun H' hF => kq _ (SO_l ((if_pos h1).trans (if_pos h2)) hF))
    | exact f13 _ _ _ _ (by omega) hF (fun H' hF => kq _ (SO_l (if_neg h1) hF))
  · refine ⟨_, rfl, ?_⟩
    refine b_istoreX_n (F := fun z12 => [some (aR 11), some (aI z12), none]) rfl (by decide) (fun _ => rfl) (fun z12 ez12 => ?_)
    first
    | (have hf := fin_nat hI.1 (by decide) h2
       have ht2 := te_gp (Or.inl h1.1 : tk n (I 2) (te n (I 2) p) = 1 ∨ tk n (I 2) (te n (I 2) p) = 2 ∨ tk n (I 2) (te n (I 2) p) = 3)
       exact g13 (finN I 1 (tv n (I 2) (te n (I 2) p))).toNat (te n (I 2) p) _ _ _ _ (by omega) ht2.2 (by omega) hf.2.2 hL2 (fun H' s => kq _ (SO_e ((if_pos h1).trans (if_neg h2)) s)))
    | exact f13 _ _ _ _ (by omega) hF (fun H' hF => kq _ (SO_l ((if_pos h1).trans (if_pos h2)) hF))
    | exact f13 _ _ _ _ (by omega) hF (fun H' hF => kq _ (SO_l (if_neg h1) hF))
end TRF
