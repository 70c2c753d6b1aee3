/-! ===== the reference: loads ===== -/
section MLD
variable {Kb K H I : HI} {m n p : Nat} {Q : Option AV → HI → Prop}
theorem z2k (k : Nat) : ¬ 0 / 2 ^ k % 2 = 1 := by
  rw [Nat.zero_div]
  decide
theorem mr_loading (hT : MTx Kb n (I 2)) (hF : FrB Kb m K) (hR : RDr I K m) (hI : DI I p) (hp : p ≤ n) (hk : tk n (I 2) p = 1) (hM : Mok K n (I 2) p H) (kq : ∀ H', MSO n m Kb I (stLo n I p) H' → Q none H') : Rj MX12_loading 3 [aR 57] H Q := by
  refine rj_of okX12_loading (Nat.le_of_ble_eq_true rfl) rfl ?_
  have hm := hR.1.2.1
  have hTK := MTx_B hT hF
  have hC := hI.1
  have hRn := hR.1
  have f65 : ∀ (k pl : Int) (x1 x2 x3 x4 : Option AV) (H1 : HI), Mbad K k pl H1 → (∀ H', Mbad K k pl H' → Q none H') → Bj MX12_loading 3 65 [some (aR 57), x1, x2, x3, x4] [] H1 Q := by
    intro k pl x1 x2 x3 x4 H1 hb kk
    have hf := Mbad_f hb
    refine b_aload_n rfl rfl ?_
    refine b_getI rfl fl12_36 rfl (by decide) rfl ?_
    refine b_if_ne (tgt := 98) rfl rfl (fun c69 => ?_) (fun c69 => ?_)
    · refine b_vret rfl rfl ?_
      exact kk _ hb
    · omega
  have f56 : ∀ (k pl : Int) (z1 z2 z3 : Int) (H1 : HI), Mbad K k pl H1 → (∀ H', Mbad K k pl H' → Q none H') → Bj MX12_loading 3 56 [some (aR 57), some (aI z1), some (aI z2), some (aI z3), none] [] H1 Q := by
    intro k pl z1 z2 z3 H1 hb kk
    refine b_aload_n rfl rfl ?_
    refine b_iconst rfl (by decide) ?_
    refine b_bipush rfl (by decide) ?_
    refine b_callV2i (ν := MX12_number) rfl ml12_380 cvX12_number (d' := 2) (by omega) rfl (by decide) rfl (Nat.le_of_ble_eq_true rfl) ?_
    refine mk_numberB hb (fun z => ?_)
    refine ⟨_, rfl, ?_⟩
    refine b_istoreX (F := fun z63 => [some (aR 57), some (aI z1), some (aI z2), some (aI z3), some (aI z63)]) rfl (by decide) (fun _ => rfl) (fun z63 ez63 => ?_)
    exact f65 _ _ _ _ _ _ _ hb kk
  have f49 : ∀ (k pl : Int) (z1 z2 : Int) (H1 : HI), Mbad K k pl H1 → (∀ H', Mbad K k pl H' → Q none H') → Bj MX12_loading 3 49 [some (aR 57), some (aI z1), some (aI z2), none, none] [] H1 Q := by
    intro k pl z1 z2 H1 hb kk
    refine b_aload_n rfl rfl ?_
    refine b_iconst rfl (by decide) ?_
    refine b_iconst rfl (by decide) ?_
    refine b_callV2i (ν := MX12_askedBut) rfl ml12_383 cvX12_askedBut (d' := 2) (by omega) rfl (by decide) rfl (Nat.le_of_ble_eq_true rfl) ?_
    refine mk_askedB hb ?_
    refine ⟨_, rfl, ?_⟩
    refine b_istoreX_n (F := fun z55 => [some (aR 57), some (aI z1), some (aI z2), some (aI z55), none]) rfl (by decide) (fun _ => rfl) (fun z55 ez55 => ?_)
    exact f56 _ _ _ _ _ _ hb kk
  have f16 : ∀ (k pl : Int) (z1 : Int) (H1 : HI), Mbad K k pl H1 → (∀ H', Mbad K k pl H' → Q none H') → Bj MX12_loading 3 16 [some (aR 57), some (aI z1), none, none, none] [] H1 Q := by
    intro k pl z1 H1 hb kk
    have hf := Mbad_f hb
    refine b_aload_n rfl rfl ?_
    refine b_iconst rfl (by decide) ?_
    refine b_aload_n rfl rfl ?_
    refine b_getI rfl fl12_36 rfl (by decide) rfl ?_
    refine b_if_le (tgt := 29) rfl rfl (fun c22 => ?_) (fun c22 => ?_)
    · omega
    · refine b_iconst rfl (by decide) ?_
      refine b_goto (tgt := 45) rfl rfl ?_
      refine b_callV2i (ν := MX12_number) rfl ml12_380 cvX12_number (d' := 2) (by omega) rfl (by decide) rfl (Nat.le_of_ble_eq_true rfl) ?_
      refine mk_numberB hb (fun z => ?_)
      refine ⟨_, rfl, ?_⟩
      refine b_istoreX_n (F := fun z48 => [some (aR 57), some (aI z1), some (aI z48), none, none]) rfl (by decide) (fun _ => rfl) (fun z48 ez48 => ?_)
      exact f49 _ _ _ _ _ hb kk
  have g65 : ∀ (s w p5 : Nat) (z1 h z3 v : Int) (H1 : HI), z1 = (s : Int) → z3 = (w : Int) → (s : Int) < I 13 1 → s < 6 → w < 6 → 0 ≤ h → h < I 15 (6 + s) → I 15 (6 + s) ≤ 4 → Mok K n (I 2) p5 H1 → (∀ H', MSO n m Kb I (.inr (up I 22 (24 * s + 6 * h.toNat + w) v, p5)) H' → Q none H') → Bj MX12_loading 3 65 [some (aR 57), some (aI z1), some (aI h), some (aI z3), some (aI v)] [] H1 Q := by
    intro s w p5 z1 h z3 v H1 e1 e3 hs hs6 hw6 h0 h4 h44 hM1 kk
    obtain ⟨si, sa, en, va, wo, lx, e, hh⟩ := hM1
    subst e
    subst e1
    subst e3
    have h34 := hR.1.1
    have ez : (144 * (m : Int) + 6 * (4 * (s : Int) + h) + (w : Int)).toNat = 144 * m + 6 * (4 * s + h.toNat) + w := by omega
    refine b_aload_n rfl rfl ?_
    refine b_getI rfl fl12_36 rfl (by decide) rfl ?_
    rw [MX_8]
    refine b_if_ne (tgt := 98) rfl rfl (fun c69 => ?_) (fun c69 => ?_)
    · omega
    · refine b_aload_n rfl rfl ?_
      refine b_getR (r := 66) rfl fl12_75 rfl (by decide) rfl rfl ?_
      refine b_sipush rfl (by decide) ?_
      refine b_aload_n rfl rfl ?_
      refine b_getI rfl fl12_115 rfl (by decide) rfl ?_
      rw [MXo (by decide)]
      rw [h34]
      refine b_imulN rfl (by omega) (by omega) ?_
      refine b_bipush rfl (by decide) ?_
      refine b_iconst rfl (by decide) ?_
      refine b_iload_n rfl rfl ?_
      refine b_imulN rfl (by omega) (by omega) ?_
      refine b_iload_n rfl rfl ?_
      refine b_iaddN rfl (by omega) (by omega) ?_
      refine b_imulN rfl (by omega) (by omega) ?_
      refine b_iaddN rfl (by omega) (by omega) ?_
      refine b_iload_n rfl rfl ?_
      refine b_iaddN rfl (by omega) (by omega) ?_
      refine b_iload rfl rfl ?_
      refine b_iast rfl rfl (by omega) (by omega) ?_
      try simp only [tn6, tn4, tn2, tn144, tn24, tn_cast, Int.reduceToNat]
      rw [MX_ux (by decide)]
      refine b_vret rfl rfl ?_
      try rw [ez]
      exact kk _ (MSO_r rfl (FrB_up hF (by omega) (by show 144 * m ≤ _ ∧ _ < 144 * m + 144; omega)) (RDr_lo hs (by omega) hw6 hR) ⟨si, sa, en, va, wo, lx, rfl, hh⟩)
  have g56 : ∀ (s w p4 : Nat) (z1 h z3 : Int) (H1 : HI), z1 = (s : Int) → z3 = (w : Int) → (s : Int) < I 13 1 → s < 6 → w < 6 → 0 ≤ h → h < I 15 (6 + s) → I 15 (6 + s) ≤ 4 → Mok K n (I 2) p4 H1 → (∀ H', MSO n m Kb I (kLo3 n I s h w p4) H' → Q none H') → Bj MX12_loading 3 56 [some (aR 57), some (aI z1), some (aI h), some (aI z3), none] [] H1 Q := by
    intro s w p4 z1 h z3 H1 e1 e3 hs hs6 hw6 h0 h4 h44 hM1 kk
    refine b_aload_n rfl rfl ?_
    refine b_iconst rfl (by decide) ?_
    refine b_bipush rfl (by decide) ?_
    refine b_callV2i (ν := MX12_number) rfl ml12_380 cvX12_number (d' := 2) (by omega) rfl (by decide) rfl (Nat.le_of_ble_eq_true rfl) ?_
    refine mk_number hTK hM1 (fun h1 h2 h3 H2 hM2 => ?_) (fun h1 h2 z H2 hb => ?_) (fun h1 z H2 hb => ?_)
    · refine ⟨_, rfl, ?_⟩
      refine b_istoreX (F := fun z63 => [some (aR 57), some (aI z1), some (aI h), some (aI z3), some (aI z63)]) rfl (by decide) (fun _ => rfl) (fun z63 ez63 => ?_)
      first
      | exact f65 _ _ _ _ _ _ _ hb (fun H' hb => kk _ (MSO_l (if_neg h1) hF hb))
      | exact f65 _ _ _ _ _ _ _ hb (fun H' hb => kk _ (MSO_l ((if_pos h1).trans (if_neg h2)) hF hb))
      | exact g65 s w _ _ _ _ _ _ e1 e3 hs hs6 hw6 h0 h4 h44 hM2 (fun H' q => kk _ (MSO_e ((if_pos h1).trans ((if_pos ⟨h2, h3⟩).trans (by rw [ez63]))) q))
    · refine ⟨_, rfl, ?_⟩
      refine b_istoreX (F := fun z63 => [some (aR 57), some (aI z1), some (aI h), some (aI z3), some (aI z63)]) rfl (by decide) (fun _ => rfl) (fun z63 ez63 => ?_)
      first
      | exact f65 _ _ _ _ _ _ _ hb (fun H' hb => kk _ (MSO_l (if_neg h1) hF hb))
      | exact f65 _ _ _ _ _ _ _ hb (fun H' hb => kk _ (MSO_l ((if_pos h1).trans (if_neg h2)) hF hb))
      | exact g65 s w _ _ _ _ _ _ e1 e3 hs hs6 hw6 h0 h4 h44 hM2 (fun H' q => kk _ (MSO_e ((if_pos h1).trans ((if_pos ⟨h2, h3⟩).trans (by rw [ez63]))) q))
    · refine ⟨_, rfl, ?_⟩
      refine b_istoreX (F := fun z63 => [some (aR 57), some (aI z1), some (aI h), some (aI z3), some (aI z63)]) rfl (by decide) (fun _ => rfl) (fun z63 ez63 => ?_)
      first
      | exact f65 _ _ _ _ _ _ _ hb (fun H' hb => kk _ (MSO_l (if_neg h1) hF hb))
      | exact f65 _ _ _ _ _ _ _ hb (fun H' hb => kk _ (MSO_l ((if_pos h1).trans (if_neg h2)) hF hb))
      | exact g65 s w _ _ _ _ _ _ e1 e3 hs hs6 hw6 h0 h4 h44 hM2 (fun H' q => kk _ (MSO_e ((if_pos h1).trans ((if_pos ⟨h2, h3⟩).trans (by rw [ez63]))) q))
  have g49 : ∀ (s p3 : Nat) (z1 h : Int) (H1 : HI), z1 = (s : Int) → (s : Int) < I 13 1 → s < 6 → 0 ≤ h → h < I 15 (6 + s) → I 15 (6 + s) ≤ 4 → Mok K n (I 2) p3 H1 → (∀ H', MSO n m Kb I (kLo2 n I s h p3) H' → Q none H') → Bj MX12_loading 3 49 [some (aR 57), some (aI z1), some (aI h), none, none] [] H1 Q := by
    intro s p3 z1 h H1 e1 hs hs6 h0 h4 h44 hM1 kk
    refine b_aload_n rfl rfl ?_
    refine b_iconst rfl (by decide) ?_
    refine b_iconst rfl (by decide) ?_
    refine b_callV2i (ν := MX12_askedBut) rfl ml12_383 cvX12_askedBut (d' := 2) (by omega) rfl (by decide) rfl (Nat.le_of_ble_eq_true rfl) ?_
    refine mk_asked (kk := 0) (bs := 0) (by decide) (by decide) hTK hC hRn hM1 (fun h1 h2 _ H2 hM2 => ?_) (fun h1 h2 H2 hb => ?_) (fun h1 H2 hb => ?_)
    · refine ⟨_, rfl, ?_⟩
      refine b_istoreX_n (F := fun z55 => [some (aR 57), some (aI z1), some (aI h), some (aI z55), none]) rfl (by decide) (fun _ => rfl) (fun z55 ez55 => ?_)
      first
      | (have hf := fin_nat hC (by decide) h2
         exact g56 s (finN I 0 (tv n (I 2) p3)).toNat _ _ _ _ _ e1 (by omega) hs hs6 hf.2.2 h0 h4 h44 hM2 (fun H' q => kk _ (MSO_e ((if_pos h1).trans (if_neg h2)) q)))
      | exact f56 _ _ _ _ _ _ hb (fun H' hb => kk _ (MSO_l ((if_pos h1).trans (if_pos (h2.resolve_right (z2k _)))) hF hb))
      | exact f56 _ _ _ _ _ _ hb (fun H' hb => kk _ (MSO_l (if_neg h1) hF hb))
    · refine ⟨_, rfl, ?_⟩
      refine b_istoreX_n (F := fun z55 => [some (aR 57), some (aI z1), some (aI h), some (aI z55), none]) rfl (by decide) (fun _ => rfl) (fun z55 ez55 => ?_)
      first
      | (have hf := fin_nat hC (by decide) h2
         exact g56 s (finN I 0 (tv n (I 2) p3)).toNat _ _ _ _ _ e1 (by omega) hs hs6 hf.2.2 h0 h4 h44 hM2 (fun H' q => kk _ (MSO_e ((if_pos h1).trans (if_neg h2)) q)))
      | exact f56 _ _ _ _ _ _ hb (fun H' hb => kk _ (MSO_l ((if_pos h1).trans (if_pos (h2.resolve_right (z2k _)))) hF hb))
      | exact f56 _ _ _ _ _ _ hb (fun H' hb => kk _ (MSO_l (if_neg h1) hF hb))
    · refine ⟨_, rfl, ?_⟩
      refine b_istoreX_n (F := fun z55 => [some (aR 57), some (aI z1), some (aI h), some (aI z55), none]) rfl (by decide) (fun _ => rfl) (fun z55 ez55 => ?_)
      first
      | (have hf := fin_nat hC (by decide) h2
         exact g56 s (finN I 0 (tv n (I 2) p3)).toNat _ _ _ _ _ e1 (by omega) hs hs6 hf.2.2 h0 h4 h44 hM2 (fun H' q => kk _ (MSO_e ((if_pos h1).trans (if_neg h2)) q)))
      | exact f56 _ _ _ _ _ _ hb (fun H' hb => kk _ (MSO_l ((if_pos h1).trans (if_pos (h2.resolve_right (z2k _)))) hF hb))
      | exact f56 _ _ _ _ _ _ hb (fun H' hb => kk _ (MSO_l (if_neg h1) hF hb))
  have g16 : ∀ (s p2 : Nat) (z1 : Int) (H1 : HI), z1 = (s : Int) → (s : Int) < I 13 1 → s < 6 → Mok K n (I 2) p2 H1 → (∀ H', MSO n m Kb I (kLo1 n I s p2) H' → Q none H') → Bj MX12_loading 3 16 [some (aR 57), some (aI z1), none, none, none] [] H1 Q := by
    intro s p2 z1 H1 e1 hs hs6 hM1 kk
    have hf1 := Mok_f hM1
    have h15 := hI.2.1 s hs
    have h34 : H1 57 34 = (m : Int) := by rw [Mok_g hM1 (by decide)]; exact hR.1.1
    have h63 : H1 63 (6 * m + s) = I 15 (6 + s) := by rw [Mok_q hM1 (by decide)]; exact (hR.2.2.1 s hs).1
    have ez : (6 * (m : Int) + z1).toNat = 6 * m + s := by omega
    refine b_aload_n rfl rfl ?_
    refine b_iconst rfl (by decide) ?_
    refine b_aload_n rfl rfl ?_
    refine b_getI rfl fl12_36 rfl (by decide) rfl ?_
    rw [hf1.1]
    refine b_if_le (tgt := 29) rfl rfl (fun c22 => ?_) (fun c22 => ?_)
    · refine b_aload_n rfl rfl ?_
      refine b_getR (r := 63) rfl fl12_66 rfl (by decide) rfl rfl ?_
      refine b_bipush rfl (by decide) ?_
      refine b_aload_n rfl rfl ?_
      refine b_getI rfl fl12_115 rfl (by decide) rfl ?_
      rw [h34]
      refine b_imulN rfl (by omega) (by omega) ?_
      refine b_iload_n rfl rfl ?_
      refine b_iaddN rfl (by omega) (by omega) ?_
      refine b_iald rfl rfl (by omega) (by omega) ?_
      try simp only [tn6, tn4, tn2, tn144, tn24, tn_cast, Int.reduceToNat]
      rw [ez, h63]
      refine b_iconst rfl (by decide) ?_
      refine b_isubN rfl (by omega) (by omega) ?_
      refine b_callV2i (ν := MX12_number) rfl ml12_380 cvX12_number (d' := 2) (by omega) rfl (by decide) rfl (Nat.le_of_ble_eq_true rfl) ?_
      refine mk_number hTK hM1 (fun h1 h2 h3 H2 hM2 => ?_) (fun h1 h2 z H2 hb => ?_) (fun h1 z H2 hb => ?_)
      · refine ⟨_, rfl, ?_⟩
        refine b_istoreX_n (F := fun z48 => [some (aR 57), some (aI z1), some (aI z48), none, none]) rfl (by decide) (fun _ => rfl) (fun z48 ez48 => ?_)
        first
        | exact f49 _ _ _ _ _ hb (fun H' hb => kk _ (MSO_l (if_neg h1) hF hb))
        | exact f49 _ _ _ _ _ hb (fun H' hb => kk _ (MSO_l ((if_pos h1).trans (if_neg h2)) hF hb))
        | exact g49 s _ _ _ _ e1 hs hs6 (by omega) (by omega) h15.2 hM2 (fun H' q => kk _ (MSO_e ((if_pos h1).trans ((if_pos ⟨h2, h3⟩).trans (by rw [ez48]))) q))
      · refine ⟨_, rfl, ?_⟩
        refine b_istoreX_n (F := fun z48 => [some (aR 57), some (aI z1), some (aI z48), none, none]) rfl (by decide) (fun _ => rfl) (fun z48 ez48 => ?_)
        first
        | exact f49 _ _ _ _ _ hb (fun H' hb => kk _ (MSO_l (if_neg h1) hF hb))
        | exact f49 _ _ _ _ _ hb (fun H' hb => kk _ (MSO_l ((if_pos h1).trans (if_neg h2)) hF hb))
        | exact g49 s _ _ _ _ e1 hs hs6 (by omega) (by omega) h15.2 hM2 (fun H' q => kk _ (MSO_e ((if_pos h1).trans ((if_pos ⟨h2, h3⟩).trans (by rw [ez48]))) q))
      · refine ⟨_, rfl, ?_⟩
        refine b_istoreX_n (F := fun z48 => [some (aR 57), some (aI z1), some (aI z48), none, none]) rfl (by decide) (fun _ => rfl) (fun z48 ez48 => ?_)
        first
        | exact f49 _ _ _ _ _ hb (fun H' hb => kk _ (MSO_l (if_neg h1) hF hb))
        | exact f49 _ _ _ _ _ hb (fun H' hb => kk _ (MSO_l ((if_pos h1).trans (if_neg h2)) hF hb))
        | exact g49 s _ _ _ _ e1 hs hs6 (by omega) (by omega) h15.2 hM2 (fun H' q => kk _ (MSO_e ((if_pos h1).trans ((if_pos ⟨h2, h3⟩).trans (by rw [ez48]))) q))
    · omega
  refine b_aload_n rfl rfl ?_
  refine b_iconst rfl (by decide) ?_
  refine b_callV1i (ν := MX12_counts) rfl ml12_368 cvX12_counts (d' := 2) (by omega) rfl (by decide) rfl (Nat.le_of_ble_eq_true rfl) ?_
  refine mk_counts (Or.inl rfl) hTK hM hk (fun _ H1 hM1 => ?_) (fun w => absurd w (by decide))
  refine ⟨_, rfl, ?_⟩
  refine b_if_ne (tgt := 9) rfl rfl (fun c5 => ?_) (fun c5 => ?_)
  · refine b_aload_n rfl rfl ?_
    refine b_iconst rfl (by decide) ?_
    refine b_iconst rfl (by decide) ?_
    refine b_callV2i (ν := MX12_askedBut) rfl ml12_383 cvX12_askedBut (d' := 2) (by omega) rfl (by decide) rfl (Nat.le_of_ble_eq_true rfl) ?_
    refine mk_asked (kk := 1) (bs := 0) (by decide) (by decide) hTK hC hRn hM1 (fun h1 h2 _ H2 hM2 => ?_) (fun h1 h2 H2 hb => ?_) (fun h1 H2 hb => ?_)
    · refine ⟨_, rfl, ?_⟩
      refine b_istoreX_n (F := fun z15 => [some (aR 57), some (aI z15), none, none, none]) rfl (by decide) (fun _ => rfl) (fun z15 ez15 => ?_)
      first
      | (have hf := fin_nat hC (by decide) h2
         exact g16 (finN I 1 (tv n (I 2) (te n (I 2) p))).toNat _ _ _ (by omega) hf.2.1 hf.2.2 hM2 (fun H' q => kq _ (MSO_e ((if_pos h1).trans (if_neg h2)) q)))
      | exact f16 _ _ _ _ hb (fun H' hb => kq _ (MSO_l ((if_pos h1).trans (if_pos (h2.resolve_right (z2k _)))) hF hb))
      | exact f16 _ _ _ _ hb (fun H' hb => kq _ (MSO_l (if_neg h1) hF hb))
    · refine ⟨_, rfl, ?_⟩
      refine b_istoreX_n (F := fun z15 => [some (aR 57), some (aI z15), none, none, none]) rfl (by decide) (fun _ => rfl) (fun z15 ez15 => ?_)
      first
      | (have hf := fin_nat hC (by decide) h2
         exact g16 (finN I 1 (tv n (I 2) (te n (I 2) p))).toNat _ _ _ (by omega) hf.2.1 hf.2.2 hM2 (fun H' q => kq _ (MSO_e ((if_pos h1).trans (if_neg h2)) q)))
      | exact f16 _ _ _ _ hb (fun H' hb => kq _ (MSO_l ((if_pos h1).trans (if_pos (h2.resolve_right (z2k _)))) hF hb))
      | exact f16 _ _ _ _ hb (fun H' hb => kq _ (MSO_l (if_neg h1) hF hb))
    · refine ⟨_, rfl, ?_⟩
      refine b_istoreX_n (F := fun z15 => [some (aR 57), some (aI z15), none, none, none]) rfl (by decide) (fun _ => rfl) (fun z15 ez15 => ?_)
      first
      | (have hf := fin_nat hC (by decide) h2
         exact g16 (finN I 1 (tv n (I 2) (te n (I 2) p))).toNat _ _ _ (by omega) hf.2.1 hf.2.2 hM2 (fun H' q => kq _ (MSO_e ((if_pos h1).trans (if_neg h2)) q)))
      | exact f16 _ _ _ _ hb (fun H' hb => kq _ (MSO_l ((if_pos h1).trans (if_pos (h2.resolve_right (z2k _)))) hF hb))
      | exact f16 _ _ _ _ hb (fun H' hb => kq _ (MSO_l (if_neg h1) hF hb))
  · omega
end MLD
