/-! ===== the reference: hours, gales, undo ===== -/
theorem RP_J {J J' K : HI} {C : Nat → List Int} {b : Nat} (h : RP J K C b) (h4 : J' 4 = J 4) (h6 : J' 6 = J 6) (h7 : J' 7 = J 7) : RP J' K C b := by
  have hp := pOK_to h.2.2.2.2.2.2.2.2.2 h4 h6 h7
  unfold RP at *
  rw [h4, h6, h7]
  obtain ⟨a1, a2, a3, a4, a5, a6, a7, a8, a9, a10⟩ := h
  exact ⟨a1, a2, a3, a4, a5, a6, a7, a8, a9, hp⟩
theorem ZF_J {J J' : HI} {f : Nat → Int} (h : ZF J f) (h4 : J' 4 = J 4) (h6 : J' 6 = J 6) : ZF J' f := by
  unfold ZF nH at *
  rw [h4, h6]
  exact h
theorem RP.fr {J K K' : HI} {C : Nat → List Int} {b : Nat} (h : RP J K C b) (h2 : MFr K K') : RP J K' C b := h.to (h2.2.1 13 (by omega) (by omega) (by omega)) (fun q hq => h2.1 q (by unfold mcell at hq; omega) (by unfold mcell at hq; omega))
/-- MN behind a change of both sides -/
theorem MN.mk {J J' K K' : HI} {C : Nat → List Int} {b : Nat} (h : MN J K C b) (h4 : J' 4 = J 4) (h6 : J' 6 = J 6) (h7 : J' 7 = J 7) (hW : WF J' C) (hR : RP J K' C b) (has : asB K') (hS : SRn J' K') (hz : ZF J (J' 32)) (hl : ∀ s : Nat, s < 6 → ¬ (s : Int) < J 4 1 → J' 31 s = -1) : MN J' K' C b :=
  ⟨RP_J hR h4 h6 h7, has, hW, hS, ZF_J hz h4 h6, by rw [h4]; exact hl⟩
theorem hrB_W {I : HI} {C : Nat → List Int} {h : Int} {i : Nat} (hW : WF I C) (hh : 0 ≤ h ∧ h ≤ 9999) : WF (hrB I C h i) C := by
  obtain ⟨h1, h2, h3, h4, h5⟩ := hW
  refine ⟨h1.of (fun q _ hq => hrB_cell (by omega) (by omega)), ?_, ?_, ?_, ?_⟩
  · unfold seB at *; rw [hrB_cell (by decide) (by decide)]; exact h2
  · have : hrB I C h i 30 5 = h := rfl
    rw [this]; exact hh
  · rw [hrB_cell (by decide) (by decide)]; exact h4
  · rw [hrB_cell (by decide) (by decide)]
    intro s hs
    have := h5 s hs
    rw [hrB_31]
    split
    · unfold nwl
      by_cases g : unP I C h s
      · rw [pI_1 g]; exact Or.inl rfl
      · rw [pI_0 g]; exact this
    · exact this
theorem spq_passes {J K : HI} {Q : Option AV → HI → Prop} {C : Nat → List Int} {b : Nat} (hM : MN J K C b) (hU : RUn J K) (hh : J 30 5 + 1 ≤ 9999) (kq : ∀ K', MFr K K' → MN (hrS J C) K' C b → RUn (hrS J C) K' → Q (some (aI (lsN J C (J 30 5 + 1) (nS J)))) K') : Rj MX12_passes 6 [aR 57] K Q := by
  have hR := hM.1
  have hp := hR.2.2.2.2.2.2.2.2.2
  have r := hM.2.2.1.2.2.1
  have hb2 := hR.2.1
  obtain ⟨n6, n1⟩ := nS_in hp
  unfold hrS at kq
  generalize hh0 : J 30 5 + 1 = h at *
  have hWi : ∀ i, WF (hrB J C h i) C := fun i => hrB_W hM.2.2.1 (by omega)
  have cel : ∀ i q, q ≠ 30 → q ≠ 31 → hrB J C h i q = J q := fun i q a b => hrB_cell a b
  have lie : ∀ i, i ≤ nS J → ∀ s : Nat, s < 6 → ¬ (s : Int) < J 4 1 → hrB J C h i 31 s = -1 := fun i hi s hs hn => by
    rw [hrB_31, if_neg (by omega)]; exact hM.2.2.2.2.2 s hs hn
  have mk : ∀ (i : Nat) (I : HI), i ≤ nS J → MFr K I → SRn (hrB J C h i) I → MN (hrB J C h i) I C b := fun i I hi f g =>
    hM.mk (cel i 4 (by decide) (by decide)) (cel i 6 (by decide) (by decide)) (cel i 7 (by decide) (by decide)) (hWi i) (hR.fr f) f.2.2 g (by rw [cel i 32 (by decide) (by decide)]; exact hM.2.2.2.2.1) (lie i hi)
  have lp : ∀ (n i : Nat) (I : HI) (y z : Int), MFr K I → SRn (hrB J C h i) I → RUn (hrB J C h i) I → z = (i : Int) → i + n = nS J → y = lsN J C h i → Bj MX12_passes 6 14 [some (aR 57), some (aI y), some (aI z)] [] I Q := by
    intro n
    induction n with
    | zero =>
      intro i I y z f g u hz hi hy
      have hMI := mk i I (by omega) f g
      have hbI := hMI.1.1
      have q62 := hMI.1.2.2.2.1
      rw [cel i 4 (by decide) (by decide)] at q62
      have ei : i = nS J := by omega
      subst ei
      refine b_iload_n rfl rfl ?_
      refine b_aload_n rfl rfl ?_
      refine b_getR (r := 62) rfl fl12_63 rfl (by decide) rfl rfl ?_
      refine b_aload_n rfl rfl ?_
      refine b_getI rfl fl12_51 rfl (by decide) rfl ?_
      rw [hbI]
      refine b_iald rfl rfl (by omega) (by omega) ?_
      try simp only [tn6, tn4, tn2, tn144, tn24, tn_cast, Int.reduceToNat]
      rw [q62]
      refine b_icmp_ge (tgt := 85) rfl rfl (fun c24 => ?_) (fun c24 => ?_)
      · refine b_iload_n rfl rfl ?_
        refine b_iret rfl rfl ?_
        exact qI (kq I f hMI u) hy.symm rfl
      · omega
    | succ n ih =>
      intro i I y z f g u hz hi hy
      subst hz
      have hMI := mk i I (by omega) f g
      have hbI := hMI.1.1
      have q62 := hMI.1.2.2.2.1
      rw [cel i 4 (by decide) (by decide)] at q62
      have q85 := hMI.2.2.2.1.1
      have hs : (i : Int) < J 4 1 := by omega
      have hs2 : (i : Int) < hrB J C h i 4 1 := by rw [cel i 4 (by decide) (by decide)]; exact hs
      have hl := hM.2.2.1.2.2.2.2 i hs
      have e31 : hrB J C h i 31 i = J 31 i := by rw [hrB_31, if_neg (by omega)]
      have hls := lsN_in (I := J) (C := C) (h := h) i
      have nx : lsN J C h (i + 1) = lsN J C h i + pI (unP J C h i) 1 0 := rfl
      have e305 : hrB J C h i 30 5 = h := rfl
      have skip : ¬ unP J C h i → ∀ (I' : HI) (y z : Int), MFr K I' → SRn (hrB J C h i) I' → RUn (hrB J C h i) I' → z = (i : Int) + 1 → y = lsN J C h i → Bj MX12_passes 6 14 [some (aR 57), some (aI y), some (aI z)] [] I' Q := by
        intro hn I' y z f' g' u' hz hy
        have e := hrB_skip (I := J) (C := C) (h := h) (i := i) (by unfold nwl; rw [pI_0 hn])
        exact ih (i + 1) I' y z f' (by rw [e]; exact g') (by rw [e]; exact u') (by omega) (by omega) (by rw [nx, pI_0 hn, hy, Int.add_zero])
      have usc : ∀ I', ScM I I' → MFr K I' ∧ SRn (hrB J C h i) I' ∧ RUn (hrB J C h i) I' := fun I' hS =>
        ⟨f.tr (MFr.sc hS), (hMI.sc hS).2.2.2.1, RUn_to u rfl rfl (hS.2.1 53 (by omega)) (hS.2.1 52 (by omega)) (fun q _ hs _ => SR_to hs (hS.1 85 (by decide) (by decide) (by decide)) (hS.1 86 (by decide) (by decide) (by decide)) (hS.1 87 (by decide) (by decide) (by decide)) (hS.1 88 (by decide) (by decide) (by decide)) (hS.1 89 (by decide) (by decide) (by decide)) (shp_of (hS.1 62 (by decide) (by decide) (by decide)) (hS.2.1 13 (by omega))))⟩
      refine b_iload_n rfl rfl ?_
      refine b_aload_n rfl rfl ?_
      refine b_getR (r := 62) rfl fl12_63 rfl (by decide) rfl rfl ?_
      refine b_aload_n rfl rfl ?_
      refine b_getI rfl fl12_51 rfl (by decide) rfl ?_
      rw [hbI]
      refine b_iald rfl rfl (by omega) (by omega) ?_
      try simp only [tn6, tn4, tn2, tn144, tn24, tn_cast, Int.reduceToNat]
      rw [q62]
      refine b_icmp_ge (tgt := 85) rfl rfl (fun c24 => ?_) (fun c24 => ?_)
      · omega
      · refine b_aload_n rfl rfl ?_
        refine b_iconst rfl (by decide) ?_
        refine b_iload_n rfl rfl ?_
        refine b_callV2i (ν := MX12_liesIn) rfl ml12_482 cvX12_liesIn (d' := 0) (by omega) rfl (by decide) rfl (Nat.le_of_ble_eq_true rfl) ?_
        refine spq_liesIn hMI (by omega) ?_
        rw [e31]
        refine ⟨_, rfl, ?_⟩
        refine b_iconst rfl (by decide) ?_
        refine b_icmp_ne (tgt := 40) rfl rfl (fun c34 => ?_) (fun c34 => ?_)
        · obtain ⟨t, ht⟩ : ∃ t : Nat, J 31 i = (t : Int) := ⟨(J 31 i).toNat, by omega⟩
          refine b_aload_n rfl rfl ?_
          refine b_iconst rfl (by decide) ?_
          refine b_iload_n rfl rfl ?_
          refine b_callV2v (ν := MX12_carries) rfl ml12_493 cvX12_carries (d' := 1) (by omega) rfl (by decide) rfl (Nat.le_of_ble_eq_true rfl) ?_
          refine spq_carries hMI hs2 ?_
          refine ⟨rfl, ?_⟩
          refine b_aload_n rfl rfl ?_
          refine b_iload_n rfl rfl ?_
          refine b_aload_n rfl rfl ?_
          refine b_iconst rfl (by decide) ?_
          refine b_iload_n rfl rfl ?_
          refine b_callV2i (ν := MX12_liesIn) rfl ml12_482 cvX12_liesIn (d' := 0) (by omega) rfl (by decide) rfl (Nat.le_of_ble_eq_true rfl) ?_
          refine spq_liesIn (hMI.sc (ScM.rf hMI.2.1).ms) (by omega) ?_
          rw [e31, ht]
          refine ⟨_, rfl, ?_⟩
          refine b_aload_n rfl rfl ?_
          refine b_getR (r := 85) rfl fl12_156 rfl (by decide) rfl rfl ?_
          refine b_iconst rfl (by decide) ?_
          refine b_ialdL (k := 0) rfl rfl rfl (by decide) ?_
          try simp only [tn6, tn4, tn2, tn144, tn24, tn_cast, Int.reduceToNat]
          rw [mCar_cell (by decide), q85, e305]
          refine b_callV3i (ν := MX12_isSafe) rfl ml12_506 cvX12_isSafe (d' := 5) (by omega) rfl (by decide) rfl (Nat.le_of_ble_eq_true rfl) ?_
          refine spq_isSafe hMI (ScM.rf hMI.2.1) hs2 (by rw [cel i 4 (by decide) (by decide)]; omega) (by omega) (fun hsf K2 hK2 => ?_) (fun hsn K2 hK2 => ?_)
          all_goals first | rw [SF_to (cel i 4 (by decide) (by decide)) (cel i 6 (by decide) (by decide)) (cel i 7 (by decide) (by decide)) (cel i 32 (by decide) (by decide))] at hsf | rw [SF_to (cel i 4 (by decide) (by decide)) (cel i 6 (by decide) (by decide)) (cel i 7 (by decide) (by decide)) (cel i 32 (by decide) (by decide))] at hsn
          all_goals obtain ⟨f2, g2, u2⟩ := usc K2 hK2
          · refine ⟨_, rfl, ?_⟩
            refine b_if_eq (tgt := 69) rfl rfl (fun z => absurd z (by decide)) (fun _ => ?_)
            refine b_goto (tgt := 79) rfl rfl ?_
            refine b_iincX (F := fun z79 => [some (aR 57), some (aI y), some (aI z79)]) rfl rfl (by omega) (by omega) (fun _ => rfl) (fun z79 ez79 => ?_)
            refine b_goto (tgt := 14) rfl rfl ?_
            first
            | (have hu : unP J C h i := ⟨c34, by rw [ht, Int.toNat_natCast]; exact hsn⟩
               have e := hrB_put (I := J) (C := C) (h := h) (i := i) (v := -1) (by unfold nwl; rw [pI_1 hu])
               exact ih (i + 1) _ _ _ (f2.ux (by omega)) (by rw [e]; exact SRn_31 g2) (by rw [e]; exact RUn_86 u2 (by omega)) (by omega) (by omega) (by rw [nx, pI_1 hu]; omega))
            | exact skip (fun w => w.2 (by rw [ht, Int.toNat_natCast]; exact hsf)) K2 _ _ f2 g2 u2 (by omega) hy
            | exact skip (fun w => w.1 c34) I _ _ f g u (by omega) hy
          · refine ⟨_, rfl, ?_⟩
            refine b_if_eq (tgt := 69) rfl rfl (fun _ => ?_) (fun z => absurd z (by decide))
            refine b_aload_n rfl rfl ?_
            refine b_getR (r := 86) rfl fl12_159 rfl (by decide) rfl rfl ?_
            refine b_iload_n rfl rfl ?_
            refine b_iconst rfl (by decide) ?_
            refine b_iast rfl rfl (by omega) (by omega) ?_
            try simp only [tn6, tn4, tn2, tn144, tn24, tn_cast, Int.reduceToNat]
            refine b_iincX (F := fun z76 => [some (aR 57), some (aI z76), some (aI (i : Int))]) rfl rfl (by omega) (by omega) (fun _ => rfl) (fun z76 ez76 => ?_)
            refine b_iincX (F := fun z79 => [some (aR 57), some (aI z76), some (aI z79)]) rfl rfl (by omega) (by omega) (fun _ => rfl) (fun z79 ez79 => ?_)
            refine b_goto (tgt := 14) rfl rfl ?_
            first
            | (have hu : unP J C h i := ⟨c34, by rw [ht, Int.toNat_natCast]; exact hsn⟩
               have e := hrB_put (I := J) (C := C) (h := h) (i := i) (v := -1) (by unfold nwl; rw [pI_1 hu])
               exact ih (i + 1) _ _ _ (f2.ux (by omega)) (by rw [e]; exact SRn_31 g2) (by rw [e]; exact RUn_86 u2 (by omega)) (by omega) (by omega) (by rw [nx, pI_1 hu]; omega))
            | exact skip (fun w => w.2 (by rw [ht, Int.toNat_natCast]; exact hsf)) K2 _ _ f2 g2 u2 (by omega) hy
            | exact skip (fun w => w.1 c34) I _ _ f g u (by omega) hy
        · refine b_goto (tgt := 79) rfl rfl ?_
          refine b_iincX (F := fun z79 => [some (aR 57), some (aI y), some (aI z79)]) rfl rfl (by omega) (by omega) (fun _ => rfl) (fun z79 ez79 => ?_)
          refine b_goto (tgt := 14) rfl rfl ?_
          first
          | (have hu : unP J C h i := ⟨c34, by rw [ht, Int.toNat_natCast]; exact hsn⟩
             have e := hrB_put (I := J) (C := C) (h := h) (i := i) (v := -1) (by unfold nwl; rw [pI_1 hu])
             exact ih (i + 1) _ _ _ (f2.ux (by omega)) (by rw [e]; exact SRn_31 g2) (by rw [e]; exact RUn_86 u2 (by omega)) (by omega) (by omega) (by rw [nx, pI_1 hu]; omega))
          | exact skip (fun w => w.2 (by rw [ht, Int.toNat_natCast]; exact hsf)) K2 _ _ f2 g2 u2 (by omega) hy
          | exact skip (fun w => w.1 c34) I _ _ f g u (by omega) hy
  refine rj_of okX12_passes (Nat.le_of_ble_eq_true rfl) rfl ?_
  have q85 := hM.2.2.2.1.1
  refine b_aload_n rfl rfl ?_
  refine b_getR (r := 85) rfl fl12_156 rfl (by decide) rfl rfl ?_
  refine b_iconst rfl (by decide) ?_
  refine b_dup2 rfl rfl rfl ?_
  refine b_ialdL (k := 0) rfl rfl rfl (by decide) ?_
  try simp only [tn6, tn4, tn2, tn144, tn24, tn_cast, Int.reduceToNat]
  rw [q85]
  refine b_iconst rfl (by decide) ?_
  refine b_iaddN rfl (by omega) (by omega) ?_
  refine b_iastL (k := 0) rfl rfl rfl (by decide) ?_
  try simp only [tn6, tn4, tn2, tn144, tn24, tn_cast, Int.reduceToNat]
  refine b_iconst rfl (by decide) ?_
  refine b_istoreX_n (F := fun z11 => [some (aR 57), some (aI z11), none]) rfl (by decide) (fun _ => rfl) (fun z11 ez11 => ?_)
  refine b_iconst rfl (by decide) ?_
  refine b_istoreX_n (F := fun z13 => [some (aR 57), some (aI z11), some (aI z13)]) rfl (by decide) (fun _ => rfl) (fun z13 ez13 => ?_)
  rw [hh0]
  refine lp (nS J) 0 _ _ _ ((MFr.rf hM.2.1).ux (by omega)) ?_ ?_ (by omega) (by omega) (by rw [ez11]; rfl)
  · obtain ⟨h1, h2, h3, h4, h5⟩ := hM.2.2.2.1
    exact ⟨up_s, h2, h3, h4, h5⟩
  · exact RUn_to hU (cel 0 38 (by decide) (by decide)) (cel 0 39 (by decide) (by decide)) (by rw [up_cell (by decide)]) (by rw [up_cell (by decide)]) (fun q _ hs _ => SR_hi hs (Or.inl ⟨rfl, by omega⟩))
theorem spq_hours {J K : HI} {Q : Option AV → HI → Prop} {C : Nat → List Int} {b : Nat} {m : Int} (hM : MN J K C b) (hU : RUn J K) (hK : WK J) (k1 : 1 ≤ m ∧ clk J m → ∀ K', MFr K K' → MN (hrN (rem_ J) C m.toNat) K' C b → RUn (hrN (rem_ J) C m.toNat) K' → Q (some (aI (hlN (rem_ J) C m.toNat))) K') (k0 : ¬ (1 ≤ m ∧ clk J m) → Q (some (aI (-1))) (mrf K 3)) : Rj MX12_hours 7 [aR 57, aI m] K Q := by
  have r := hM.2.2.1.2.2.1
  unfold clk at k1 k0
  have hWr : WF (rem_ J) C := hM.2.2.1.rem
  have r305 : rem_ J 30 5 = J 30 5 := by rw [rem_cell (by decide) (by decide)]
  have lp : 1 ≤ m ∧ 0 ≤ m ∧ m ≤ 200 ∧ J 30 5 + m ≤ 9999 → ∀ (n i : Nat) (I : HI) (y z : Int), MFr K I → MN (hrN (rem_ J) C i) I C b → RUn (hrN (rem_ J) C i) I → z = (i : Int) → i + n = m.toNat → y = hlN (rem_ J) C i → Bj MX12_hours 7 23 [some (aR 57), some (aI m), some (aI y), some (aI z)] [] I Q := by
    intro hm n
    induction n with
    | zero =>
      intro i I y z f g u hz hi hy
      have ei : i = m.toNat := by omega
      subst ei
      refine b_iload_n rfl rfl ?_
      refine b_iload_n rfl rfl ?_
      refine b_icmp_ge (tgt := 41) rfl rfl (fun c25 => ?_) (fun c25 => ?_)
      · refine b_iload_n rfl rfl ?_
        refine b_iret rfl rfl ?_
        exact qI (k1 hm I f g u) hy.symm rfl
      · omega
    | succ n ih =>
      intro i I y z f g u hz hi hy
      subst hz
      have h5 : hrN (rem_ J) C i 30 5 = rem_ J 30 5 + i := hrN_5 i
      have hb := hlN_in hWr i (by omega)
      have n6 := (nS_in g.1.2.2.2.2.2.2.2.2.2).1
      have hls := lsN_in (I := hrN (rem_ J) C i) (C := C) (h := hrN (rem_ J) C i 30 5 + 1) (nS (hrN (rem_ J) C i))
      refine b_iload_n rfl rfl ?_
      refine b_iload_n rfl rfl ?_
      refine b_icmp_ge (tgt := 41) rfl rfl (fun c25 => ?_) (fun c25 => ?_)
      · omega
      · refine b_iload_n rfl rfl ?_
        refine b_aload_n rfl rfl ?_
        refine b_callV0i (ν := MX12_passes) rfl ml12_570 cvX12_passes (d' := 6) (by omega) rfl (by decide) rfl (Nat.le_of_ble_eq_true rfl) ?_
        refine spq_passes g u (by omega) (fun K2 f2 g2 u2 => ?_)
        refine ⟨_, rfl, ?_⟩
        refine b_iaddN rfl (by omega) (by omega) ?_
        refine b_istoreX_n (F := fun z34 => [some (aR 57), some (aI m), some (aI z34), some (aI (i : Int))]) rfl (by decide) (fun _ => rfl) (fun z34 ez34 => ?_)
        refine b_iincX (F := fun z35 => [some (aR 57), some (aI m), some (aI z34), some (aI z35)]) rfl rfl (by omega) (by omega) (fun _ => rfl) (fun z35 ez35 => ?_)
        refine b_goto (tgt := 23) rfl rfl ?_
        exact ih (i + 1) K2 _ _ (f.tr f2) g2 u2 (by omega) (by omega) (by rw [ez34, hy]; rfl)
  refine rj_of okX12_hours (Nat.le_of_ble_eq_true rfl) rfl ?_
  refine b_aload_n rfl rfl ?_
  refine b_iload_n rfl rfl ?_
  refine b_iconst rfl (by decide) ?_
  refine b_callV2i (ν := MX12_isAhead) rfl ml12_509 cvX12_isAhead (d' := 1) (by omega) rfl (by decide) rfl (Nat.le_of_ble_eq_true rfl) ?_
  refine spq_isAhead hM (fun hy => ?_) (fun hn => ?_) (by decide)
  · refine ⟨_, rfl, ?_⟩
    refine b_if_ne (tgt := 15) rfl rfl (fun _ => ?_) (fun z => absurd z (by decide))
    refine b_aload_n rfl rfl ?_
    refine b_callV0v (ν := MX12_keeps) rfl ml12_557 cvX12_keeps (d' := 1) (by omega) rfl (by decide) rfl (Nat.le_of_ble_eq_true rfl) ?_
    refine spq_keeps hM.2.2.2.1 hU hK hM.2.1 (fun K2 f2 g2 u2 => ?_)
    refine ⟨rfl, ?_⟩
    refine b_iconst rfl (by decide) ?_
    refine b_istoreX_n (F := fun z20 => [some (aR 57), some (aI m), some (aI z20), none]) rfl (by decide) (fun _ => rfl) (fun z20 ez20 => ?_)
    refine b_iconst rfl (by decide) ?_
    refine b_istoreX_n (F := fun z22 => [some (aR 57), some (aI m), some (aI z20), some (aI z22)]) rfl (by decide) (fun _ => rfl) (fun z22 ez22 => ?_)
    have hc : ∀ q, q ≠ 38 → q ≠ 39 → rem_ J q = J q := fun q a b => rem_cell a b
    refine lp (by omega) m.toNat 0 K2 _ _ f2 ?_ u2 (by omega) (by omega) (by rw [ez20]; rfl)
    show MN (rem_ J) K2 C b
    exact hM.mk (hc 4 (by decide) (by decide)) (hc 6 (by decide) (by decide)) (hc 7 (by decide) (by decide)) hWr (hM.1.fr f2) f2.2.2 g2 (by rw [hc 32 (by decide) (by decide)]; exact hM.2.2.2.2.1) (by rw [hc 31 (by decide) (by decide)]; exact hM.2.2.2.2.2)
  · refine ⟨_, rfl, ?_⟩
    refine b_if_ne (tgt := 15) rfl rfl (fun z => absurd z (by decide)) (fun _ => ?_)
    refine b_aload_n rfl rfl ?_
    refine b_iconst rfl (by decide) ?_
    refine b_callV1i (ν := MX12_refuses) rfl ml12_228 cvX12_refuses (d' := 0) (by omega) rfl (by decide) rfl (Nat.le_of_ble_eq_true rfl) ?_
    refine spm_refuses (k := 3) (by decide) ?_
    refine ⟨_, rfl, ?_⟩
    refine b_iret rfl rfl ?_
    exact k0 (by omega)
theorem fc_skip {f : Nat → Int} : ∀ m n j, (∀ k, j ≤ k → k < j + m → f k ≤ 0) → fc f (m + n) j = fc f n (j + m) := by
  intro m
  induction m with
  | zero => intro n j _; rw [Nat.zero_add, Nat.add_zero]
  | succ m ih =>
    intro n j h
    rw [Nat.succ_add]
    show (if 0 < f j then some j else fc f (m + n) (j + 1)) = _
    rw [if_neg (by have := h j (by omega) (by omega); omega), ih n (j + 1) (fun k a b => h k (by omega) (by omega)), show j + 1 + m = j + (m + 1) by omega]
theorem spq_loses {J K : HI} {Q : Option AV → HI → Prop} {C : Nat → List Int} {b s : Nat} (hM : MN J K C b) (hU : RUn J K) (hK : 0 ≤ J 30 3 ∧ J 30 3 < 60 ∧ 0 ≤ J 30 4 ∧ J 30 4 ≤ 60) (hs : s < 6) (k0 : fc (fun j => J 32 (24 * s + j)) 24 0 = none → Q (some (aI 0)) K) (k1 : ∀ j, j < 24 → fc (fun j => J 32 (24 * s + j)) 24 0 = some j → ∀ K', MFr K K' → SRn (keepS (up J 32 (24 * s + j) (J 32 (24 * s + j) - 1)) (s : Int) (j : Int) 2) K' → RUn (keepS (up J 32 (24 * s + j) (J 32 (24 * s + j) - 1)) (s : Int) (j : Int) 2) K' → Q (some (aI 1)) K') : Rj MX12_loses 1 [aR 57, aI (s : Int)] K Q := by
  have hR := hM.1
  have hp := hR.2.2.2.2.2.2.2.2.2
  have hb := hR.1
  have hb2 := hR.2.1
  have q59 := hR.2.2.1
  have r := hM.2.2.1.2.2.1
  obtain ⟨w1, w2⟩ := nW_in hp
  have r30 : ∀ c v, up J 32 c v 30 = J 30 := fun c v => up_cell (by decide)
  have outer : ∀ (n i : Nat) (z : Int) (x : Option AV), z = (i : Int) → i + n = 4 → fc (fun j => J 32 (24 * s + j)) 24 0 = fc (fun j => J 32 (24 * s + j)) (6 * n) (6 * i) → Bj MX12_loses 1 2 [some (aR 57), some (aI (s : Int)), some (aI z), x] [] K Q := by
    intro n
    induction n with
    | zero =>
      intro i z x hz hi hf
      refine b_iload_n rfl rfl ?_
      refine b_iconst rfl (by decide) ?_
      refine b_icmp_ge (tgt := 78) rfl rfl (fun c4 => ?_) (fun c4 => ?_)
      · refine b_iconst rfl (by decide) ?_
        refine b_zret rfl rfl (by first | decide | omega) ?_
        exact k0 hf
      · omega
    | succ n ih =>
      intro i z x hz hi hf
      subst hz
      have inner : ∀ (m j : Nat) (z : Int), z = (j : Int) → j + m = nW J → fc (fun j => J 32 (24 * s + j)) 24 0 = fc (fun j => J 32 (24 * s + j)) (6 * n + (6 - j)) (6 * i + j) → Bj MX12_loses 1 9 [some (aR 57), some (aI (s : Int)), some (aI (i : Int)), some (aI z)] [] K Q := by
        intro m
        induction m with
        | zero =>
          intro j z hz hj hf2
          have hsk := fc_skip (f := fun j => J 32 (24 * s + j)) (6 - j) (6 * n) (6 * i + j) (fun k a b => by
            have := hM.2.2.2.2.1 s i (k - 6 * i) hs (by omega) (by omega) (fun w => by omega)
            rw [show 24 * s + 6 * i + (k - 6 * i) = 24 * s + k by omega] at this
            show J 32 (24 * s + k) ≤ 0
            omega)
          rw [show 6 * n + (6 - j) = 6 - j + 6 * n by omega, hsk, show 6 * i + j + (6 - j) = 6 * (i + 1) by omega] at hf2
          refine b_iload_n rfl rfl ?_
          refine b_aload_n rfl rfl ?_
          refine b_getR (r := 59) rfl fl12_54 rfl (by decide) rfl rfl ?_
          refine b_aload_n rfl rfl ?_
          refine b_getI rfl fl12_51 rfl (by decide) rfl ?_
          rw [hb]
          refine b_iald rfl rfl (by omega) (by omega) ?_
          try simp only [tn6, tn4, tn2, tn144, tn24, tn_cast, Int.reduceToNat]
          rw [q59]
          refine b_icmp_ge (tgt := 72) rfl rfl (fun c19 => ?_) (fun c19 => ?_)
          · refine b_iincX (F := fun z72 => [some (aR 57), some (aI (s : Int)), some (aI z72), some (aI z)]) rfl rfl (by omega) (by omega) (fun _ => rfl) (fun z72 ez72 => ?_)
            refine b_goto (tgt := 2) rfl rfl ?_
            exact ih (i + 1) _ _ (by omega) (by omega) hf2
          · omega
        | succ m ihm =>
          intro j z hz hj hf2
          subst hz
          have q87 := hM.2.2.2.1.2.2.1 (24 * s + 6 * i + j) (by omega)
          rw [Nat.mul_zero, Nat.zero_add] at q87
          have hcc := hM.2.2.1.2.2.2.1 (24 * s + 6 * i + j)
          have hf3 : fc (fun j => J 32 (24 * s + j)) 24 0 = if 0 < J 32 (24 * s + 6 * i + j) then some (6 * i + j) else fc (fun j => J 32 (24 * s + j)) (6 * n + (6 - (j + 1))) (6 * i + (j + 1)) := by
            rw [hf2, show 6 * n + (6 - j) = 6 * n + (6 - (j + 1)) + 1 by omega]
            show (if 0 < J 32 (24 * s + (6 * i + j)) then some (6 * i + j) else _) = _
            rw [show 24 * s + (6 * i + j) = 24 * s + 6 * i + j by omega]
            rfl
          refine b_iload_n rfl rfl ?_
          refine b_aload_n rfl rfl ?_
          refine b_getR (r := 59) rfl fl12_54 rfl (by decide) rfl rfl ?_
          refine b_aload_n rfl rfl ?_
          refine b_getI rfl fl12_51 rfl (by decide) rfl ?_
          rw [hb]
          refine b_iald rfl rfl (by omega) (by omega) ?_
          try simp only [tn6, tn4, tn2, tn144, tn24, tn_cast, Int.reduceToNat]
          rw [q59]
          refine b_icmp_ge (tgt := 72) rfl rfl (fun c19 => ?_) (fun c19 => ?_)
          · omega
          · refine b_aload_n rfl rfl ?_
            refine b_getR (r := 87) rfl fl12_162 rfl (by decide) rfl rfl ?_
            refine b_aload_n rfl rfl ?_
            refine b_iload_n rfl rfl ?_
            refine b_iload_n rfl rfl ?_
            refine b_iload_n rfl rfl ?_
            refine b_callV3i (ν := MX12_at) rfl ml12_460 cvX12_at (d' := 0) (by omega) rfl (by decide) rfl (Nat.le_of_ble_eq_true rfl) ?_
            refine spm_at (by omega) (by omega) (by omega) ?_
            refine ⟨_, rfl, ?_⟩
            refine b_iald rfl rfl (by omega) (by omega) ?_
            try simp only [tn6, tn4, tn2, tn144, tn24, tn_cast, Int.reduceToNat]
            rw [q87]
            refine b_if_ne (tgt := 40) rfl rfl (fun c34 => ?_) (fun c34 => ?_)
            · refine b_aload_n rfl rfl ?_
              refine b_getR (r := 87) rfl fl12_162 rfl (by decide) rfl rfl ?_
              refine b_aload_n rfl rfl ?_
              refine b_iload_n rfl rfl ?_
              refine b_iload_n rfl rfl ?_
              refine b_iload_n rfl rfl ?_
              refine b_callV3i (ν := MX12_at) rfl ml12_460 cvX12_at (d' := 0) (by omega) rfl (by decide) rfl (Nat.le_of_ble_eq_true rfl) ?_
              refine spm_at (by omega) (by omega) (by omega) ?_
              refine ⟨_, rfl, ?_⟩
              refine b_dup2 rfl rfl rfl ?_
              refine b_iald rfl rfl (by omega) (by omega) ?_
              try simp only [tn6, tn4, tn2, tn144, tn24, tn_cast, Int.reduceToNat]
              rw [q87]
              refine b_iconst rfl (by decide) ?_
              refine b_isubN rfl (by omega) (by omega) ?_
              refine b_iast rfl rfl (by omega) (by omega) ?_
              try simp only [tn6, tn4, tn2, tn144, tn24, tn_cast, Int.reduceToNat]
              rw [if_pos (by omega)] at hf3
              have kk := k1 (6 * i + j) (by omega) hf3
              rw [show 24 * s + (6 * i + j) = 24 * s + 6 * i + j by omega] at kk
              have g3 := SRn_32 (c := 24 * s + 6 * i + j) (x := J 32 (24 * s + 6 * i + j) - 1) hM.2.2.2.1
              have u3 := RUn_87 (c := 24 * s + 6 * i + j) (x := J 32 (24 * s + 6 * i + j) - 1) (y := J 32 (24 * s + 6 * i + j) - 1) hU (by omega)
              obtain ⟨m', hm1, hm2, g4⟩ := SRn_wd (s := s) (h := i) (w := j) (x := 2) g3 (by rw [r30]; omega) hs (by omega) (by omega) (by decide)
              have u4 := RUn_wd (s := (s : Int)) (x := (i : Int)) (y := (j : Int)) (z := 2) (a := (s : Int)) (b := ((6 * i + j : Nat) : Int)) (c := 2) u3 hm2
              refine b_aload_n rfl rfl ?_
              refine b_iload_n rfl rfl ?_
              refine b_iload_n rfl rfl ?_
              refine b_iload_n rfl rfl ?_
              refine b_iconst rfl (by decide) ?_
              refine b_callV4v (ν := MX12_writesDown) rfl ml12_560 cvX12_writesDown (d' := 0) (by omega) rfl (by decide) rfl (Nat.le_of_ble_eq_true rfl) ?_
              refine spm_writesDown (m := m') hm1 ?_
              refine ⟨rfl, ?_⟩
              refine b_iconst rfl (by decide) ?_
              refine b_zret rfl rfl (by first | decide | omega) ?_
              exact kk _ (((MFr.rf hM.2.1).ux (by omega)).wd) g4 u4
            · refine b_goto (tgt := 66) rfl rfl ?_
              refine b_iincX (F := fun z66 => [some (aR 57), some (aI (s : Int)), some (aI (i : Int)), some (aI z66)]) rfl rfl (by omega) (by omega) (fun _ => rfl) (fun z66 ez66 => ?_)
              refine b_goto (tgt := 9) rfl rfl ?_
              exact ihm (j + 1) _ (by omega) (by omega) (by rw [if_neg (by omega)] at hf3; exact hf3)
      refine b_iload_n rfl rfl ?_
      refine b_iconst rfl (by decide) ?_
      refine b_icmp_ge (tgt := 78) rfl rfl (fun c4 => ?_) (fun c4 => ?_)
      · omega
      · refine b_iconst rfl (by decide) ?_
        refine b_istoreX_n (F := fun z8 => [some (aR 57), some (aI (s : Int)), some (aI (i : Int)), some (aI z8)]) rfl (by decide) (fun _ => rfl) (fun z8 ez8 => ?_)
        exact inner (nW J) 0 _ (by omega) (by omega) hf
  refine rj_of okX12_loses (Nat.le_of_ble_eq_true rfl) rfl ?_
  refine b_iconst rfl (by decide) ?_
  refine b_istoreX_n (F := fun z1 => [some (aR 57), some (aI (s : Int)), some (aI z1), none]) rfl (by decide) (fun _ => rfl) (fun z1 ez1 => ?_)
  exact outer 4 0 _ _ (by omega) (by omega) rfl
