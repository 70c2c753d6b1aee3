/-! ===== the reference: acts, two ===== -/
theorem SRn_wd {J K : HI} {s h w : Nat} {x : Int} (hS : SRn J K) (hk : 0 ≤ J 30 3 ∧ J 30 3 < 60 ∧ 0 ≤ J 30 4 ∧ J 30 4 ≤ 60 ∧ 0 ≤ J 30 5) (hs : s < 6) (hh : h < 4) (hw : w < 6) (hx : 0 ≤ x ∧ x < 3) : ∃ m : Nat, ((K 88 0 = 60 ∧ m = 59) ∨ (K 88 0 = (m : Int) ∧ m < 60)) ∧ m < 60 ∧ SRn (keepS J (s : Int) ((6 * h + w : Nat) : Int) x) (mwd K m (s : Int) (h : Int) (w : Int) x) := by
  have k8 := hS.2.2.2.1
  by_cases e : K 88 0 = 60
  · refine ⟨59, Or.inl ⟨e, rfl⟩, by decide, ?_⟩
    have := rel_wd (m := 59) (s := (s : Int)) (h := (h : Int)) (w := (w : Int)) (x := x) hS hk (Or.inl ⟨e, rfl⟩) (by omega) (by omega) (by omega) hx
    rw [show 6 * (h : Int) + (w : Int) = ((6 * h + w : Nat) : Int) by omega] at this
    exact this
  · refine ⟨(K 88 0).toNat, Or.inr ⟨by omega, by omega⟩, by omega, ?_⟩
    have := rel_wd (m := (K 88 0).toNat) (s := (s : Int)) (h := (h : Int)) (w := (w : Int)) (x := x) hS hk (Or.inr ⟨by omega, by omega⟩) (by omega) (by omega) (by omega) hx
    rw [show 6 * (h : Int) + (w : Int) = ((6 * h + w : Nat) : Int) by omega] at this
    exact this
theorem RUn_87 {J K : HI} {c : Nat} {x y : Int} (h : RUn J K) (hc : c < 144) : RUn (up J 32 c y) (up K 87 c x) := by
  refine RUn_to h (up_cell (by decide)) (up_cell (by decide)) (by rw [up_cell (by decide)]) (by rw [up_cell (by decide)]) (fun q hq hs _ => ?_)
  exact SR_hi hs (Or.inr (Or.inr ⟨rfl, hc, by omega⟩))
theorem RUn_86 {J K : HI} {c : Nat} {x y : Int} (h : RUn J K) (hc : c < 6) : RUn (up J 31 c y) (up K 86 c x) := by
  refine RUn_to h (up_cell (by decide)) (up_cell (by decide)) (by rw [up_cell (by decide)]) (by rw [up_cell (by decide)]) (fun q hq hs _ => ?_)
  exact SR_hi hs (Or.inr (Or.inl ⟨rfl, hc, by omega⟩))
theorem RUn_wd {J K : HI} {m : Nat} {s x y z a b c : Int} (h : RUn J K) (hm : m < 60) : RUn (keepS J a b c) (mwd K m s x y z) := by
  have e : ∀ j, mwd K m s x y z 57 j = K 57 j := fun j => by
    unfold mwd
    rw [if_neg (by omega), if_neg (by omega), if_neg (by omega)]
  exact RUn_to h (keepS_cell (by decide) (by decide)) (keepS_cell (by decide) (by decide)) (e 53) (e 52) (fun q hq hs _ => SRs_wd hs hm)
theorem spq_changes {J K : HI} {Q : Option AV → HI → Prop} {C : Nat → List Int} {b : Nat} {a h w y x : Int} (hM : MN J K C b) (hU : RUn J K) (hK : WK J) (hx : (y = 1 ∧ x = 1) ∨ (y = -1 ∧ x = 0)) (k1 : wkP J C a h w x → ∀ K', MFr K K' → SRn (wkS J a h w x) K' → RUn (wkS J a h w x) K' → Q (some (aI (aft J x (cA a h w)))) K') (k0 : ¬ wkP J C a h w x → ∀ K', ScM K K' → Q (some (aI (-1))) (mrf K' 2)) : Rj MX12_changes 7 [aR 57, aI a, aI h, aI w, aI y] K Q := by
  have hp := hM.1.2.2.2.2.2.2.2.2.2
  have r := hM.2.2.1.2.2.1
  have hK' := hK
  obtain ⟨⟨a1, a2, a3, a4⟩, b1, b2, b3, b4⟩ := hK'
  have good_ : ∀ (s h' w' : Nat) (K1 : HI), ScM K K1 → s < 6 → h' < 4 → w' < 6 → (∀ K', MFr K K' → SRn (keepS (up (rem_ J) 32 (24 * s + 6 * h' + w') (aft J x (24 * s + 6 * h' + w'))) (s : Int) ((6 * h' + w' : Nat) : Int) x) K' → RUn (keepS (up (rem_ J) 32 (24 * s + 6 * h' + w') (aft J x (24 * s + 6 * h' + w'))) (s : Int) ((6 * h' + w' : Nat) : Int) x) K' → Q (some (aI (aft J x (24 * s + 6 * h' + w')))) K') → aft J x (24 * s + 6 * h' + w') = J 32 (24 * s + 6 * h' + w') + y → (0 ≤ aft J x (24 * s + 6 * h' + w') ∧ aft J x (24 * s + 6 * h' + w') ≤ 20) → Bj MX12_changes 7 18 [some (aR 57), some (aI (s : Int)), some (aI (h' : Int)), some (aI (w' : Int)), some (aI y)] [] K1 Q := by
    intro s h' w' K1 hK1 s6 h4 w6 kk eaf hc2
    have hM1 := hM.sc hK1
    have hU1 : RUn J K1 := RUn_to hU rfl rfl (hK1.2.1 53 (by omega)) (hK1.2.1 52 (by omega)) (fun q _ hs _ => SR_to hs (hK1.1 85 (by decide) (by decide) (by decide)) (hK1.1 86 (by decide) (by decide) (by decide)) (hK1.1 87 (by decide) (by decide) (by decide)) (hK1.1 88 (by decide) (by decide) (by decide)) (hK1.1 89 (by decide) (by decide) (by decide)) (shp_of (hK1.1 62 (by decide) (by decide) (by decide)) (hK1.2.1 13 (by omega))))
    have hcr := hM.2.2.1.2.2.2.1 (24 * s + 6 * h' + w')
    have r30 : ∀ c v, up (rem_ J) 32 c v 30 = J 30 := fun c v => by rw [up_cell (by decide), rem_cell (by decide) (by decide)]
    refine b_aload_n rfl rfl ?_
    refine b_callV0v (ν := MX12_keeps) rfl ml12_557 cvX12_keeps (d' := 1) (by omega) rfl (by decide) rfl (Nat.le_of_ble_eq_true rfl) ?_
    refine spq_keeps hM1.2.2.2.1 hU1 hK hM1.2.1 (fun K2 f2 g2 u2 => ?_)
    have q87 : K2 87 (24 * s + 6 * h' + w') = J 32 (24 * s + 6 * h' + w') := by
        have := g2.2.2.1 (24 * s + 6 * h' + w') (by omega)
        rw [Nat.mul_zero, Nat.zero_add, rem_cell (by decide) (by decide)] at this
        exact this
    have g3 := SRn_32 (c := 24 * s + 6 * h' + w') (x := aft J x (24 * s + 6 * h' + w')) g2
    have u3 := RUn_87 (c := 24 * s + 6 * h' + w') (x := aft J x (24 * s + 6 * h' + w')) (y := aft J x (24 * s + 6 * h' + w')) u2 (by omega)
    obtain ⟨m, hm1, hm2, g4⟩ := SRn_wd (s := s) (h := h') (w := w') (x := x) g3 (by rw [r30]; omega) s6 h4 w6 (by omega)
    have u4 := RUn_wd (s := (s : Int)) (x := (h' : Int)) (y := (w' : Int)) (z := x) (a := (s : Int)) (b := ((6 * h' + w' : Nat) : Int)) (c := x) u3 hm2
    have f4 := ((MFr.sc hK1).tr ((f2.ux (q := 87) (j := 24 * s + 6 * h' + w') (v := aft J x (24 * s + 6 * h' + w')) (by omega)).wd (m := m) (s := (s : Int)) (x := (h' : Int)) (y := (w' : Int)) (z := x)))
    have q9 : mwd (up K2 87 (24 * s + 6 * h' + w') (aft J x (24 * s + 6 * h' + w'))) m (s : Int) (h' : Int) (w' : Int) x 87 (24 * s + 6 * h' + w') = aft J x (24 * s + 6 * h' + w') := by
        unfold mwd
        rw [if_neg (by omega), if_neg (by omega), if_neg (by omega), up_s]
    generalize hcc : 24 * s + 6 * h' + w' = c at *
    refine ⟨rfl, ?_⟩
    refine b_aload_n rfl rfl ?_
    refine b_getR (r := 87) rfl fl12_162 rfl (by decide) rfl rfl ?_
    refine b_aload_n rfl rfl ?_
    refine b_iload_n rfl rfl ?_
    refine b_iload_n rfl rfl ?_
    refine b_iload_n rfl rfl ?_
    refine b_callV3i (ν := MX12_at) rfl ml12_460 cvX12_at (d' := 0) (by omega) rfl (by decide) rfl (Nat.le_of_ble_eq_true rfl) ?_
    refine spm_at (by omega) (by omega) (by omega) ?_
    rw [hcc]
    refine ⟨_, rfl, ?_⟩
    refine b_dup2 rfl rfl rfl ?_
    refine b_iald rfl rfl (by omega) (by omega) ?_
    try simp only [tn6, tn4, tn2, tn144, tn24, tn_cast, Int.reduceToNat]
    first | rw [q87] | rw [q9]
    refine b_iload rfl rfl ?_
    refine b_iaddN rfl (by omega) (by omega) ?_
    refine b_iast rfl rfl (by omega) (by omega) ?_
    try simp only [tn6, tn4, tn2, tn144, tn24, tn_cast, Int.reduceToNat]
    rw [← eaf]
    refine b_aload_n rfl rfl ?_
    refine b_iload_n rfl rfl ?_
    refine b_iload_n rfl rfl ?_
    refine b_iload_n rfl rfl ?_
    refine b_iload rfl rfl ?_
    refine b_if_le (tgt := 52) rfl rfl (fun c45 => ?_) (fun c45 => ?_)
    · obtain rfl : x = 0 := by omega
      refine b_iconst rfl (by decide) ?_
      refine b_callV4v (ν := MX12_writesDown) rfl ml12_560 cvX12_writesDown (d' := 0) (by omega) rfl (by decide) rfl (Nat.le_of_ble_eq_true rfl) ?_
      refine spm_writesDown (m := m) hm1 ?_
      refine ⟨rfl, ?_⟩
      refine b_aload_n rfl rfl ?_
      refine b_getR (r := 87) rfl fl12_162 rfl (by decide) rfl rfl ?_
      refine b_aload_n rfl rfl ?_
      refine b_iload_n rfl rfl ?_
      refine b_iload_n rfl rfl ?_
      refine b_iload_n rfl rfl ?_
      refine b_callV3i (ν := MX12_at) rfl ml12_460 cvX12_at (d' := 0) (by omega) rfl (by decide) rfl (Nat.le_of_ble_eq_true rfl) ?_
      refine spm_at (by omega) (by omega) (by omega) ?_
      rw [hcc]
      refine ⟨_, rfl, ?_⟩
      refine b_iald rfl rfl (by omega) (by omega) ?_
      try simp only [tn6, tn4, tn2, tn144, tn24, tn_cast, Int.reduceToNat]
      first | rw [q87] | rw [q9]
      refine b_iret rfl rfl ?_
      exact kk _ f4 g4 u4
    · obtain rfl : x = 1 := by omega
      refine b_iconst rfl (by decide) ?_
      refine b_goto (tgt := 53) rfl rfl ?_
      refine b_callV4v (ν := MX12_writesDown) rfl ml12_560 cvX12_writesDown (d' := 0) (by omega) rfl (by decide) rfl (Nat.le_of_ble_eq_true rfl) ?_
      refine spm_writesDown (m := m) hm1 ?_
      refine ⟨rfl, ?_⟩
      refine b_aload_n rfl rfl ?_
      refine b_getR (r := 87) rfl fl12_162 rfl (by decide) rfl rfl ?_
      refine b_aload_n rfl rfl ?_
      refine b_iload_n rfl rfl ?_
      refine b_iload_n rfl rfl ?_
      refine b_iload_n rfl rfl ?_
      refine b_callV3i (ν := MX12_at) rfl ml12_460 cvX12_at (d' := 0) (by omega) rfl (by decide) rfl (Nat.le_of_ble_eq_true rfl) ?_
      refine spm_at (by omega) (by omega) (by omega) ?_
      rw [hcc]
      refine ⟨_, rfl, ?_⟩
      refine b_iald rfl rfl (by omega) (by omega) ?_
      try simp only [tn6, tn4, tn2, tn144, tn24, tn_cast, Int.reduceToNat]
      first | rw [q87] | rw [q9]
      refine b_iret rfl rfl ?_
      exact kk _ f4 g4 u4
  refine rj_of okX12_changes (Nat.le_of_ble_eq_true rfl) rfl ?_
  refine b_aload_n rfl rfl ?_
  refine b_iload_n rfl rfl ?_
  refine b_iload_n rfl rfl ?_
  refine b_iload_n rfl rfl ?_
  refine b_iload rfl rfl ?_
  refine b_callV4i (ν := MX12_mayBe) rfl ml12_554 cvX12_mayBe (d' := 6) (by omega) rfl (by decide) rfl (Nat.le_of_ble_eq_true rfl) ?_
  refine spq_mayBe hM hx (fun hy K1 hK1 => ?_) (fun hn K1 hK1 => ?_)
  · refine ⟨_, rfl, ?_⟩
    refine b_if_ne (tgt := 18) rfl rfl (fun _ => ?_) (fun z => absurd z (by decide))
    have kk := k1 hy
    obtain ⟨s, h', w', rfl, rfl, rfl, hs, hh', hw', s6, h4, w6, ec⟩ := kc_nat hp hy.1
    have hc2 := hy.2.2.1
    unfold wkS at kk
    rw [ec] at kk hc2
    rw [show ((24 * s + 6 * h' + w') % 24) = 6 * h' + w' by omega] at kk
    have eaf : aft J x (24 * s + 6 * h' + w') = J 32 (24 * s + 6 * h' + w') + y := by
        unfold aft
        split <;> omega
    exact good_ s h' w' K1 hK1 s6 h4 w6 kk eaf hc2
  · refine ⟨_, rfl, ?_⟩
    refine b_if_ne (tgt := 18) rfl rfl (fun z => absurd z (by decide)) (fun _ => ?_)
    refine b_aload_n rfl rfl ?_
    refine b_iconst rfl (by decide) ?_
    refine b_callV1i (ν := MX12_refuses) rfl ml12_228 cvX12_refuses (d' := 0) (by omega) rfl (by decide) rfl (Nat.le_of_ble_eq_true rfl) ?_
    refine spm_refuses (k := 2) (by decide) ?_
    refine ⟨_, rfl, ?_⟩
    refine b_iret rfl rfl ?_
    exact k0 hn K1 hK1
theorem spq_lade {J K : HI} {Q : Option AV → HI → Prop} {C : Nat → List Int} {b : Nat} {a h w : Int} (hM : MN J K C b) (hU : RUn J K) (hK : WK J) (k1 : wkP J C a h w 1 → ∀ K', MFr K K' → SRn (wkS J a h w 1) K' → RUn (wkS J a h w 1) K' → Q (some (aI (aft J 1 (cA a h w)))) K') (k0 : ¬ wkP J C a h w 1 → ∀ K', ScM K K' → Q (some (aI (-1))) (mrf K' 2)) : Rj MX12_lade 8 [aR 57, aI a, aI h, aI w] K Q := by
  refine rj_of okX12_lade (Nat.le_of_ble_eq_true rfl) rfl ?_
  refine b_aload_n rfl rfl ?_
  refine b_iload_n rfl rfl ?_
  refine b_iload_n rfl rfl ?_
  refine b_iload_n rfl rfl ?_
  refine b_iconst rfl (by decide) ?_
  refine b_callV4i (ν := MX12_changes) rfl ml12_563 cvX12_changes (d' := 7) (by omega) rfl (by decide) rfl (Nat.le_of_ble_eq_true rfl) ?_
  refine spq_changes hM hU hK (Or.inl ⟨rfl, rfl⟩) (fun hy K1 f1 g1 u1 => ?_) (fun hn K1 hK1 => ?_)
  · exact ⟨_, rfl, b_iret rfl rfl (k1 hy K1 f1 g1 u1)⟩
  refine ⟨_, rfl, ?_⟩
  refine b_iret rfl rfl ?_
  exact k0 hn K1 hK1
theorem spq_discharge {J K : HI} {Q : Option AV → HI → Prop} {C : Nat → List Int} {b : Nat} {a h w : Int} (hM : MN J K C b) (hU : RUn J K) (hK : WK J) (k1 : wkP J C a h w 0 → ∀ K', MFr K K' → SRn (wkS J a h w 0) K' → RUn (wkS J a h w 0) K' → Q (some (aI (aft J 0 (cA a h w)))) K') (k0 : ¬ wkP J C a h w 0 → ∀ K', ScM K K' → Q (some (aI (-1))) (mrf K' 2)) : Rj MX12_discharge 8 [aR 57, aI a, aI h, aI w] K Q := by
  refine rj_of okX12_discharge (Nat.le_of_ble_eq_true rfl) rfl ?_
  refine b_aload_n rfl rfl ?_
  refine b_iload_n rfl rfl ?_
  refine b_iload_n rfl rfl ?_
  refine b_iload_n rfl rfl ?_
  refine b_iconst rfl (by decide) ?_
  refine b_callV4i (ν := MX12_changes) rfl ml12_563 cvX12_changes (d' := 7) (by omega) rfl (by decide) rfl (Nat.le_of_ble_eq_true rfl) ?_
  refine spq_changes hM hU hK (Or.inr ⟨rfl, rfl⟩) (fun hy K1 f1 g1 u1 => ?_) (fun hn K1 hK1 => ?_)
  · exact ⟨_, rfl, b_iret rfl rfl (k1 hy K1 f1 g1 u1)⟩
  refine ⟨_, rfl, ?_⟩
  refine b_iret rfl rfl ?_
  exact k0 hn K1 hK1
theorem spq_shift {J K : HI} {Q : Option AV → HI → Prop} {C : Nat → List Int} {b : Nat} {a h w d : Int} (hM : MN J K C b) (hU : RUn J K) (hK : WK J) (k1 : shP J a h w d → ∀ K', MFr K K' → SRn (shS J a h w d) K' → RUn (shS J a h w d) K' → Q (some (aI 1)) K') (k0 : ¬ shP J a h w d → Q (some (aI 0)) (mrf K 2)) : Rj MX12_shift 2 [aR 57, aI a, aI h, aI w, aI d] K Q := by
  have hR := hM.1
  have hp := hR.2.2.2.2.2.2.2.2.2
  unfold shP at k1 k0
  have bad : ∀ z : Int, z = 0 → (¬ shP J a h w d) → Bj MX12_shift 2 40 [some (aR 57), some (aI a), some (aI h), some (aI w), some (aI d), some (aI z)] [] K Q := by
    intro z hz hn
    refine b_iload rfl rfl ?_
    refine b_if_eq (tgt := 78) rfl rfl (fun c42 => ?_) (fun c42 => ?_)
    · refine b_aload_n rfl rfl ?_
      refine b_iconst rfl (by decide) ?_
      refine b_callV1i (ν := MX12_refuses) rfl ml12_228 cvX12_refuses (d' := 0) (by omega) rfl (by decide) rfl (Nat.le_of_ble_eq_true rfl) ?_
      refine spm_refuses (k := 2) (by decide) ?_
      refine ⟨_, rfl, ?_⟩
      refine b_if_lt (tgt := 90) rfl rfl (fun c83 => ?_) (fun c83 => ?_)
      · refine b_iconst rfl (by decide) ?_
        refine b_zret rfl rfl (by first | decide | omega) ?_
        exact k0 hn
      · omega
    · omega
  have good_ : ∀ (s h' w' d' : Nat) (z : Int), z = 1 → s < 6 → h' < 4 → w' < 6 → d' < 4 → h' ≠ d' → cA a h w = 24 * s + 6 * h' + w' → cA a d w = 24 * s + 6 * d' + w' → (kc_3 J a h w ∧ kc_3 J a d w ∧ h ≠ d) → Bj MX12_shift 2 40 [some (aR 57), some (aI (s : Int)), some (aI (h' : Int)), some (aI (w' : Int)), some (aI (d' : Int)), some (aI z)] [] K Q := by
    intro s h' w' d' z hz s6 h4 w6 d4 hd e1 e2 hkc
    unfold shS at k1
    rw [e1, e2] at k1 k0
    have q1 := hM.2.2.2.1.2.2.1 (24 * s + 6 * h' + w') (by omega)
    have q2 := hM.2.2.2.1.2.2.1 (24 * s + 6 * d' + w') (by omega)
    rw [Nat.mul_zero, Nat.zero_add] at q1 q2
    have c1 := hM.2.2.1.2.2.2.1 (24 * s + 6 * h' + w')
    have c2 := hM.2.2.1.2.2.2.1 (24 * s + 6 * d' + w')
    have hne : 24 * s + 6 * h' + w' ≠ 24 * s + 6 * d' + w' := by omega
    have hc1 : 24 * s + 6 * h' + w' < 144 := by omega
    have hc2 : 24 * s + 6 * d' + w' < 144 := by omega
    generalize hcc : 24 * s + 6 * h' + w' = c at *
    generalize hdd : 24 * s + 6 * d' + w' = e at *
    refine b_iload rfl rfl ?_
    refine b_if_eq (tgt := 78) rfl rfl (fun c42 => ?_) (fun c42 => ?_)
    · omega
    · refine b_aload_n rfl rfl ?_
      refine b_getR (r := 87) rfl fl12_162 rfl (by decide) rfl rfl ?_
      refine b_aload_n rfl rfl ?_
      refine b_iload_n rfl rfl ?_
      refine b_iload_n rfl rfl ?_
      refine b_iload_n rfl rfl ?_
      refine b_callV3i (ν := MX12_at) rfl ml12_460 cvX12_at (d' := 0) (by omega) rfl (by decide) rfl (Nat.le_of_ble_eq_true rfl) ?_
      refine spm_at (by omega) (by omega) (by omega) ?_
      rw [hcc]
      refine ⟨_, rfl, ?_⟩
      refine b_iald rfl rfl (by omega) (by omega) ?_
      try simp only [tn6, tn4, tn2, tn144, tn24, tn_cast, Int.reduceToNat]
      rw [q1]
      refine b_if_eq (tgt := 78) rfl rfl (fun c57 => ?_) (fun c57 => ?_)
      · refine b_aload_n rfl rfl ?_
        refine b_iconst rfl (by decide) ?_
        refine b_callV1i (ν := MX12_refuses) rfl ml12_228 cvX12_refuses (d' := 0) (by omega) rfl (by decide) rfl (Nat.le_of_ble_eq_true rfl) ?_
        refine spm_refuses (k := 2) (by decide) ?_
        refine ⟨_, rfl, ?_⟩
        refine b_if_lt (tgt := 90) rfl rfl (fun c83 => ?_) (fun c83 => ?_)
        · refine b_iconst rfl (by decide) ?_
          refine b_zret rfl rfl (by first | decide | omega) ?_
          first
          | exact k0 (fun w => by have := w.2.2.2.1; omega)
          | exact k0 (fun w => by have := w.2.2.2.2; omega)
          | exact k1 ⟨hkc.1, hkc.2.1, hkc.2.2, by omega, by omega⟩ _ ((f2.ux (by omega)).ux (by omega)) (SRn_32 (SRn_32 g2)) (RUn_87 (RUn_87 u2 hc1) hc2)
        · omega
      · refine b_aload_n rfl rfl ?_
        refine b_getR (r := 87) rfl fl12_162 rfl (by decide) rfl rfl ?_
        refine b_aload_n rfl rfl ?_
        refine b_iload_n rfl rfl ?_
        refine b_iload rfl rfl ?_
        refine b_iload_n rfl rfl ?_
        refine b_callV3i (ν := MX12_at) rfl ml12_460 cvX12_at (d' := 0) (by omega) rfl (by decide) rfl (Nat.le_of_ble_eq_true rfl) ?_
        refine spm_at (by omega) (by omega) (by omega) ?_
        rw [hdd]
        refine ⟨_, rfl, ?_⟩
        refine b_iald rfl rfl (by omega) (by omega) ?_
        try simp only [tn6, tn4, tn2, tn144, tn24, tn_cast, Int.reduceToNat]
        rw [q2]
        refine b_bipush rfl (by decide) ?_
        refine b_icmp_ne (tgt := 92) rfl rfl (fun c75 => ?_) (fun c75 => ?_)
        · refine b_aload_n rfl rfl ?_
          refine b_callV0v (ν := MX12_keeps) rfl ml12_557 cvX12_keeps (d' := 1) (by omega) rfl (by decide) rfl (Nat.le_of_ble_eq_true rfl) ?_
          refine spq_keeps hM.2.2.2.1 hU hK hM.2.1 (fun K2 f2 g2 u2 => ?_)
          have p1 : K2 87 c = J 32 c := by
              have := g2.2.2.1 c hc1
              rw [Nat.mul_zero, Nat.zero_add, rem_cell (by decide) (by decide)] at this
              exact this
          have p2 : K2 87 e = J 32 e := by
              have := g2.2.2.1 e hc2
              rw [Nat.mul_zero, Nat.zero_add, rem_cell (by decide) (by decide)] at this
              exact this
          refine ⟨rfl, ?_⟩
          refine b_aload_n rfl rfl ?_
          refine b_getR (r := 87) rfl fl12_162 rfl (by decide) rfl rfl ?_
          refine b_aload_n rfl rfl ?_
          refine b_iload_n rfl rfl ?_
          refine b_iload_n rfl rfl ?_
          refine b_iload_n rfl rfl ?_
          refine b_callV3i (ν := MX12_at) rfl ml12_460 cvX12_at (d' := 0) (by omega) rfl (by decide) rfl (Nat.le_of_ble_eq_true rfl) ?_
          refine spm_at (by omega) (by omega) (by omega) ?_
          rw [hcc]
          refine ⟨_, rfl, ?_⟩
          refine b_dup2 rfl rfl rfl ?_
          refine b_iald rfl rfl (by omega) (by omega) ?_
          try simp only [tn6, tn4, tn2, tn144, tn24, tn_cast, Int.reduceToNat]
          rw [p1]
          refine b_iconst rfl (by decide) ?_
          refine b_isubN rfl (by omega) (by omega) ?_
          refine b_iast rfl rfl (by omega) (by omega) ?_
          try simp only [tn6, tn4, tn2, tn144, tn24, tn_cast, Int.reduceToNat]
          refine b_aload_n rfl rfl ?_
          refine b_getR (r := 87) rfl fl12_162 rfl (by decide) rfl rfl ?_
          refine b_aload_n rfl rfl ?_
          refine b_iload_n rfl rfl ?_
          refine b_iload rfl rfl ?_
          refine b_iload_n rfl rfl ?_
          refine b_callV3i (ν := MX12_at) rfl ml12_460 cvX12_at (d' := 0) (by omega) rfl (by decide) rfl (Nat.le_of_ble_eq_true rfl) ?_
          refine spm_at (by omega) (by omega) (by omega) ?_
          rw [hdd]
          refine ⟨_, rfl, ?_⟩
          refine b_dup2 rfl rfl rfl ?_
          refine b_iald rfl rfl (by omega) (by omega) ?_
          try simp only [tn6, tn4, tn2, tn144, tn24, tn_cast, Int.reduceToNat]
          rw [up_n (by omega), p2]
          refine b_iconst rfl (by decide) ?_
          refine b_iaddN rfl (by omega) (by omega) ?_
          refine b_iast rfl rfl (by omega) (by omega) ?_
          try simp only [tn6, tn4, tn2, tn144, tn24, tn_cast, Int.reduceToNat]
          refine b_iconst rfl (by decide) ?_
          refine b_zret rfl rfl (by first | decide | omega) ?_
          first
          | exact k0 (fun w => by have := w.2.2.2.1; omega)
          | exact k0 (fun w => by have := w.2.2.2.2; omega)
          | exact k1 ⟨hkc.1, hkc.2.1, hkc.2.2, by omega, by omega⟩ _ ((f2.ux (by omega)).ux (by omega)) (SRn_32 (SRn_32 g2)) (RUn_87 (RUn_87 u2 hc1) hc2)
        · refine b_aload_n rfl rfl ?_
          refine b_iconst rfl (by decide) ?_
          refine b_callV1i (ν := MX12_refuses) rfl ml12_228 cvX12_refuses (d' := 0) (by omega) rfl (by decide) rfl (Nat.le_of_ble_eq_true rfl) ?_
          refine spm_refuses (k := 2) (by decide) ?_
          refine ⟨_, rfl, ?_⟩
          refine b_if_lt (tgt := 90) rfl rfl (fun c83 => ?_) (fun c83 => ?_)
          · refine b_iconst rfl (by decide) ?_
            refine b_zret rfl rfl (by first | decide | omega) ?_
            first
            | exact k0 (fun w => by have := w.2.2.2.1; omega)
            | exact k0 (fun w => by have := w.2.2.2.2; omega)
            | exact k1 ⟨hkc.1, hkc.2.1, hkc.2.2, by omega, by omega⟩ _ ((f2.ux (by omega)).ux (by omega)) (SRn_32 (SRn_32 g2)) (RUn_87 (RUn_87 u2 hc1) hc2)
          · omega
  refine rj_of okX12_shift (Nat.le_of_ble_eq_true rfl) rfl ?_
  refine b_aload_n rfl rfl ?_
  refine b_iload_n rfl rfl ?_
  refine b_iload_n rfl rfl ?_
  refine b_callV2i (ν := MX12_isHold) rfl ml12_497 cvX12_isHold (d' := 1) (by omega) rfl (by decide) rfl (Nat.le_of_ble_eq_true rfl) ?_
  refine spm_isHold hR (fun hk => ?_) (fun hk => ?_)
  · refine ⟨_, rfl, ?_⟩
    refine b_if_eq (tgt := 37) rfl rfl (fun z => absurd z (by decide)) (fun _ => ?_)
    refine b_aload_n rfl rfl ?_
    refine b_iload_n rfl rfl ?_
    refine b_iload rfl rfl ?_
    refine b_callV2i (ν := MX12_isHold) rfl ml12_497 cvX12_isHold (d' := 1) (by omega) rfl (by decide) rfl (Nat.le_of_ble_eq_true rfl) ?_
    refine spm_isHold hR (fun hk2 => ?_) (fun hk2 => ?_)
    · refine ⟨_, rfl, ?_⟩
      refine b_if_eq (tgt := 37) rfl rfl (fun z => absurd z (by decide)) (fun _ => ?_)
      refine b_aload_n rfl rfl ?_
      refine b_iload_n rfl rfl ?_
      refine b_callV1i (ν := MX12_isWare) rfl ml12_490 cvX12_isWare (d' := 0) (by omega) rfl (by decide) rfl (Nat.le_of_ble_eq_true rfl) ?_
      refine spm_isWare hR (fun hw => ?_) (fun hw => ?_)
      · refine ⟨_, rfl, ?_⟩
        refine b_if_eq (tgt := 37) rfl rfl (fun z => absurd z (by decide)) (fun _ => ?_)
        refine b_iload_n rfl rfl ?_
        refine b_iload rfl rfl ?_
        refine b_icmp_eq (tgt := 37) rfl rfl (fun c30 => ?_) (fun c30 => ?_)
        · refine b_iconst rfl (by decide) ?_
          refine b_istoreX (F := fun z38 => [some (aR 57), some (aI a), some (aI h), some (aI w), some (aI d), some (aI z38)]) rfl (by decide) (fun _ => rfl) (fun z38 ez38 => ?_)
          first
          | (have hkc : kc_3 J a h w := ⟨hk.1, hk.2.1, hk.2.2, hw⟩
             have hkd : kc_3 J a d w := ⟨hk2.1, hk2.2.1, hk2.2.2, hw⟩
             have hne : ¬ h = d := c30
             obtain ⟨s, h', w', e1, e2, e3, hs, hh', hw', s6, h4, w6, ec⟩ := kc_nat hp hkc
             obtain ⟨s2, d', w2, e4, e5, e6, hs2, hd', hw2, s62, d4, w62, ed⟩ := kc_nat hp hkd
             have es : s2 = s := by omega
             have ew : w2 = w' := by omega
             subst es
             subst ew
             have g := good_ s2 h' w2 d' _ (by assumption) s6 h4 w6 d4 (by omega) ec ed ⟨hkc, hkd, hne⟩
             rw [← e1, ← e2, ← e3, ← e5] at g
             exact g)
          | exact bad _ (by assumption) (fun z => z.2.2.1 c30)
          | exact bad _ (by assumption) (fun z => hw z.1.2.2.2)
          | exact bad _ (by assumption) (fun z => hk2 ⟨z.2.1.1, z.2.1.2.1, z.2.1.2.2.1⟩)
          | exact bad _ (by assumption) (fun z => hk ⟨z.1.1, z.1.2.1, z.1.2.2.1⟩)
        · refine b_iconst rfl (by decide) ?_
          refine b_goto (tgt := 38) rfl rfl ?_
          refine b_istoreX (F := fun z38 => [some (aR 57), some (aI a), some (aI h), some (aI w), some (aI d), some (aI z38)]) rfl (by decide) (fun _ => rfl) (fun z38 ez38 => ?_)
          first
          | (have hkc : kc_3 J a h w := ⟨hk.1, hk.2.1, hk.2.2, hw⟩
             have hkd : kc_3 J a d w := ⟨hk2.1, hk2.2.1, hk2.2.2, hw⟩
             have hne : ¬ h = d := c30
             obtain ⟨s, h', w', e1, e2, e3, hs, hh', hw', s6, h4, w6, ec⟩ := kc_nat hp hkc
             obtain ⟨s2, d', w2, e4, e5, e6, hs2, hd', hw2, s62, d4, w62, ed⟩ := kc_nat hp hkd
             have es : s2 = s := by omega
             have ew : w2 = w' := by omega
             subst es
             subst ew
             have g := good_ s2 h' w2 d' _ (by assumption) s6 h4 w6 d4 (by omega) ec ed ⟨hkc, hkd, hne⟩
             rw [← e1, ← e2, ← e3, ← e5] at g
             exact g)
          | exact bad _ (by assumption) (fun z => z.2.2.1 c30)
          | exact bad _ (by assumption) (fun z => hw z.1.2.2.2)
          | exact bad _ (by assumption) (fun z => hk2 ⟨z.2.1.1, z.2.1.2.1, z.2.1.2.2.1⟩)
          | exact bad _ (by assumption) (fun z => hk ⟨z.1.1, z.1.2.1, z.1.2.2.1⟩)
      · refine ⟨_, rfl, ?_⟩
        refine b_if_eq (tgt := 37) rfl rfl (fun _ => ?_) (fun z => absurd z (by decide))
        refine b_iconst rfl (by decide) ?_
        refine b_istoreX (F := fun z38 => [some (aR 57), some (aI a), some (aI h), some (aI w), some (aI d), some (aI z38)]) rfl (by decide) (fun _ => rfl) (fun z38 ez38 => ?_)
        first
        | (have hkc : kc_3 J a h w := ⟨hk.1, hk.2.1, hk.2.2, hw⟩
           have hkd : kc_3 J a d w := ⟨hk2.1, hk2.2.1, hk2.2.2, hw⟩
           have hne : ¬ h = d := c30
           obtain ⟨s, h', w', e1, e2, e3, hs, hh', hw', s6, h4, w6, ec⟩ := kc_nat hp hkc
           obtain ⟨s2, d', w2, e4, e5, e6, hs2, hd', hw2, s62, d4, w62, ed⟩ := kc_nat hp hkd
           have es : s2 = s := by omega
           have ew : w2 = w' := by omega
           subst es
           subst ew
           have g := good_ s2 h' w2 d' _ (by assumption) s6 h4 w6 d4 (by omega) ec ed ⟨hkc, hkd, hne⟩
           rw [← e1, ← e2, ← e3, ← e5] at g
           exact g)
        | exact bad _ (by assumption) (fun z => z.2.2.1 c30)
        | exact bad _ (by assumption) (fun z => hw z.1.2.2.2)
        | exact bad _ (by assumption) (fun z => hk2 ⟨z.2.1.1, z.2.1.2.1, z.2.1.2.2.1⟩)
        | exact bad _ (by assumption) (fun z => hk ⟨z.1.1, z.1.2.1, z.1.2.2.1⟩)
    · refine ⟨_, rfl, ?_⟩
      refine b_if_eq (tgt := 37) rfl rfl (fun _ => ?_) (fun z => absurd z (by decide))
      refine b_iconst rfl (by decide) ?_
      refine b_istoreX (F := fun z38 => [some (aR 57), some (aI a), some (aI h), some (aI w), some (aI d), some (aI z38)]) rfl (by decide) (fun _ => rfl) (fun z38 ez38 => ?_)
      first
      | (have hkc : kc_3 J a h w := ⟨hk.1, hk.2.1, hk.2.2, hw⟩
         have hkd : kc_3 J a d w := ⟨hk2.1, hk2.2.1, hk2.2.2, hw⟩
         have hne : ¬ h = d := c30
         obtain ⟨s, h', w', e1, e2, e3, hs, hh', hw', s6, h4, w6, ec⟩ := kc_nat hp hkc
         obtain ⟨s2, d', w2, e4, e5, e6, hs2, hd', hw2, s62, d4, w62, ed⟩ := kc_nat hp hkd
         have es : s2 = s := by omega
         have ew : w2 = w' := by omega
         subst es
         subst ew
         have g := good_ s2 h' w2 d' _ (by assumption) s6 h4 w6 d4 (by omega) ec ed ⟨hkc, hkd, hne⟩
         rw [← e1, ← e2, ← e3, ← e5] at g
         exact g)
      | exact bad _ (by assumption) (fun z => z.2.2.1 c30)
      | exact bad _ (by assumption) (fun z => hw z.1.2.2.2)
      | exact bad _ (by assumption) (fun z => hk2 ⟨z.2.1.1, z.2.1.2.1, z.2.1.2.2.1⟩)
      | exact bad _ (by assumption) (fun z => hk ⟨z.1.1, z.1.2.1, z.1.2.2.1⟩)
  · refine ⟨_, rfl, ?_⟩
    refine b_if_eq (tgt := 37) rfl rfl (fun _ => ?_) (fun z => absurd z (by decide))
    refine b_iconst rfl (by decide) ?_
    refine b_istoreX (F := fun z38 => [some (aR 57), some (aI a), some (aI h), some (aI w), some (aI d), some (aI z38)]) rfl (by decide) (fun _ => rfl) (fun z38 ez38 => ?_)
    first
    | (have hkc : kc_3 J a h w := ⟨hk.1, hk.2.1, hk.2.2, hw⟩
       have hkd : kc_3 J a d w := ⟨hk2.1, hk2.2.1, hk2.2.2, hw⟩
       have hne : ¬ h = d := c30
       obtain ⟨s, h', w', e1, e2, e3, hs, hh', hw', s6, h4, w6, ec⟩ := kc_nat hp hkc
       obtain ⟨s2, d', w2, e4, e5, e6, hs2, hd', hw2, s62, d4, w62, ed⟩ := kc_nat hp hkd
       have es : s2 = s := by omega
       have ew : w2 = w' := by omega
       subst es
       subst ew
       have g := good_ s2 h' w2 d' _ (by assumption) s6 h4 w6 d4 (by omega) ec ed ⟨hkc, hkd, hne⟩
       rw [← e1, ← e2, ← e3, ← e5] at g
       exact g)
    | exact bad _ (by assumption) (fun z => z.2.2.1 c30)
    | exact bad _ (by assumption) (fun z => hw z.1.2.2.2)
    | exact bad _ (by assumption) (fun z => hk2 ⟨z.2.1.1, z.2.1.2.1, z.2.1.2.2.1⟩)
    | exact bad _ (by assumption) (fun z => hk ⟨z.1.1, z.1.2.1, z.1.2.2.1⟩)
theorem spq_canMoor {J K : HI} {Q : Option AV → HI → Prop} {C : Nat → List Int} {b : Nat} {a d : Int} (hM : MN J K C b) (k1 : moP J C a d → ∀ K', ScM K K' → Q (some (aI 1)) K') (k0 : ¬ moP J C a d → ∀ K', ScM K K' → Q (some (aI 0)) K') : Rj MX12_canMoor 6 [aR 57, aI a, aI d] K Q := by
  have hR := hM.1
  have hp := hR.2.2.2.2.2.2.2.2.2
  have rr := ScM.rf hM.2.1
  have r := hM.2.2.1.2.2.1
  have q85 := hM.2.2.2.1.1
  unfold moP tkP at k1 k0
  refine rj_of okX12_canMoor (Nat.le_of_ble_eq_true rfl) rfl ?_
  refine b_aload_n rfl rfl ?_
  refine b_iload_n rfl rfl ?_
  refine b_callV1i (ν := MX12_isShip) rfl ml12_479 cvX12_isShip (d' := 0) (by omega) rfl (by decide) rfl (Nat.le_of_ble_eq_true rfl) ?_
  refine spm_isShip hR (fun hk => ?_) (fun hk => ?_)
  · refine ⟨_, rfl, ?_⟩
    refine b_if_ne (tgt := 10) rfl rfl (fun _ => ?_) (fun z => absurd z (by decide))
    obtain ⟨s, rfl, hs⟩ := kO_nat (i := 1) hk
    have hs6 : s < 6 := by have := hp.1 1 (by decide); omega
    rw [Int.toNat_natCast] at k1 k0
    refine b_iload_n rfl rfl ?_
    refine b_iconst rfl (by decide) ?_
    refine b_icmp_ne (tgt := 31) rfl rfl (fun c12 => ?_) (fun c12 => ?_)
    · refine b_aload_n rfl rfl ?_
      refine b_iload_n rfl rfl ?_
      refine b_callV1i (ν := MX12_isBerth) rfl ml12_500 cvX12_isBerth (d' := 0) (by omega) rfl (by decide) rfl (Nat.le_of_ble_eq_true rfl) ?_
      refine spm_isBerth hR (fun hb => ?_) (fun hb => ?_)
      · refine ⟨_, rfl, ?_⟩
        refine b_if_eq (tgt := 48) rfl rfl (fun z => absurd z (by decide)) (fun _ => ?_)
        obtain ⟨t, rfl, ht⟩ := kO_nat (i := 2) hb
        rw [Int.toNat_natCast] at k1 k0
        refine b_aload_n rfl rfl ?_
        refine b_iload_n rfl rfl ?_
        refine b_callV1i (ν := MX12_whose) rfl ml12_503 cvX12_whose (d' := 1) (by omega) rfl (by decide) rfl (Nat.le_of_ble_eq_true rfl) ?_
        refine spq_whose hM (by omega) ?_
        refine ⟨_, rfl, ?_⟩
        refine b_iconst rfl (by decide) ?_
        refine b_icmp_eq (tgt := 50) rfl rfl (fun c45 => ?_) (fun c45 => ?_)
        · refine b_aload_n rfl rfl ?_
          refine b_iconst rfl (by decide) ?_
          refine b_iload_n rfl rfl ?_
          refine b_callV2v (ν := MX12_carries) rfl ml12_493 cvX12_carries (d' := 1) (by omega) rfl (by decide) rfl (Nat.le_of_ble_eq_true rfl) ?_
          refine spq_carries hM hs ?_
          refine ⟨rfl, ?_⟩
          refine b_aload_n rfl rfl ?_
          refine b_iload_n rfl rfl ?_
          refine b_iload_n rfl rfl ?_
          refine b_aload_n rfl rfl ?_
          refine b_getR (r := 85) rfl fl12_156 rfl (by decide) rfl rfl ?_
          refine b_iconst rfl (by decide) ?_
          refine b_ialdL (k := 0) rfl rfl rfl (by decide) ?_
          try simp only [tn6, tn4, tn2, tn144, tn24, tn_cast, Int.reduceToNat]
          rw [mCar_cell (by decide), q85]
          refine b_callV3i (ν := MX12_isSafe) rfl ml12_506 cvX12_isSafe (d' := 5) (by omega) rfl (by decide) rfl (Nat.le_of_ble_eq_true rfl) ?_
          refine spq_isSafe hM rr hs ht (by omega) (fun hsf K2 hK2 => ?_) (fun hsf K2 hK2 => ?_)
          · refine ⟨_, rfl, ?_⟩
            refine b_zret rfl rfl (by first | decide | omega) ?_
            first
            | exact k1 ⟨hk, Or.inr ⟨c12, hb, by omega, hsf⟩⟩ K2 hK2
            | exact k0 (fun w => w.2.elim (fun z => c12 z.1) (fun z => hsf z.2.2.2)) K2 hK2
            | exact k0 (fun w => w.2.elim (fun z => c12 z.1) (fun z => c45 z.2.2.1)) K rr
            | exact k0 (fun w => w.2.elim (fun z => c12 z.1) (fun z => hb z.2.1)) K rr
            | exact k1 ⟨hk, Or.inl ⟨c12, c22⟩⟩ K rr
            | exact k0 (fun w => w.2.elim (fun z => z.2 c22) (fun z => z.1 c12)) K rr
            | exact k0 (fun w => hk w.1) K rr
          · refine ⟨_, rfl, ?_⟩
            refine b_zret rfl rfl (by first | decide | omega) ?_
            first
            | exact k1 ⟨hk, Or.inr ⟨c12, hb, by omega, hsf⟩⟩ K2 hK2
            | exact k0 (fun w => w.2.elim (fun z => c12 z.1) (fun z => hsf z.2.2.2)) K2 hK2
            | exact k0 (fun w => w.2.elim (fun z => c12 z.1) (fun z => c45 z.2.2.1)) K rr
            | exact k0 (fun w => w.2.elim (fun z => c12 z.1) (fun z => hb z.2.1)) K rr
            | exact k1 ⟨hk, Or.inl ⟨c12, c22⟩⟩ K rr
            | exact k0 (fun w => w.2.elim (fun z => z.2 c22) (fun z => z.1 c12)) K rr
            | exact k0 (fun w => hk w.1) K rr
        · refine b_iconst rfl (by decide) ?_
          refine b_zret rfl rfl (by first | decide | omega) ?_
          first
          | exact k1 ⟨hk, Or.inr ⟨c12, hb, by omega, hsf⟩⟩ K2 hK2
          | exact k0 (fun w => w.2.elim (fun z => c12 z.1) (fun z => hsf z.2.2.2)) K2 hK2
          | exact k0 (fun w => w.2.elim (fun z => c12 z.1) (fun z => c45 z.2.2.1)) K rr
          | exact k0 (fun w => w.2.elim (fun z => c12 z.1) (fun z => hb z.2.1)) K rr
          | exact k1 ⟨hk, Or.inl ⟨c12, c22⟩⟩ K rr
          | exact k0 (fun w => w.2.elim (fun z => z.2 c22) (fun z => z.1 c12)) K rr
          | exact k0 (fun w => hk w.1) K rr
      · refine ⟨_, rfl, ?_⟩
        refine b_if_eq (tgt := 48) rfl rfl (fun _ => ?_) (fun z => absurd z (by decide))
        refine b_iconst rfl (by decide) ?_
        refine b_zret rfl rfl (by first | decide | omega) ?_
        first
        | exact k1 ⟨hk, Or.inr ⟨c12, hb, by omega, hsf⟩⟩ K2 hK2
        | exact k0 (fun w => w.2.elim (fun z => c12 z.1) (fun z => hsf z.2.2.2)) K2 hK2
        | exact k0 (fun w => w.2.elim (fun z => c12 z.1) (fun z => c45 z.2.2.1)) K rr
        | exact k0 (fun w => w.2.elim (fun z => c12 z.1) (fun z => hb z.2.1)) K rr
        | exact k1 ⟨hk, Or.inl ⟨c12, c22⟩⟩ K rr
        | exact k0 (fun w => w.2.elim (fun z => z.2 c22) (fun z => z.1 c12)) K rr
        | exact k0 (fun w => hk w.1) K rr
    · refine b_aload_n rfl rfl ?_
      refine b_iconst rfl (by decide) ?_
      refine b_iload_n rfl rfl ?_
      refine b_callV2i (ν := MX12_liesIn) rfl ml12_482 cvX12_liesIn (d' := 0) (by omega) rfl (by decide) rfl (Nat.le_of_ble_eq_true rfl) ?_
      refine spq_liesIn hM hs6 ?_
      refine ⟨_, rfl, ?_⟩
      refine b_iconst rfl (by decide) ?_
      refine b_icmp_eq (tgt := 29) rfl rfl (fun c22 => ?_) (fun c22 => ?_)
      · refine b_iconst rfl (by decide) ?_
        refine b_zret rfl rfl (by first | decide | omega) ?_
        first
        | exact k1 ⟨hk, Or.inr ⟨c12, hb, by omega, hsf⟩⟩ K2 hK2
        | exact k0 (fun w => w.2.elim (fun z => c12 z.1) (fun z => hsf z.2.2.2)) K2 hK2
        | exact k0 (fun w => w.2.elim (fun z => c12 z.1) (fun z => c45 z.2.2.1)) K rr
        | exact k0 (fun w => w.2.elim (fun z => c12 z.1) (fun z => hb z.2.1)) K rr
        | exact k1 ⟨hk, Or.inl ⟨c12, c22⟩⟩ K rr
        | exact k0 (fun w => w.2.elim (fun z => z.2 c22) (fun z => z.1 c12)) K rr
        | exact k0 (fun w => hk w.1) K rr
      · refine b_iconst rfl (by decide) ?_
        refine b_goto (tgt := 30) rfl rfl ?_
        refine b_zret rfl rfl (by first | decide | omega) ?_
        first
        | exact k1 ⟨hk, Or.inr ⟨c12, hb, by omega, hsf⟩⟩ K2 hK2
        | exact k0 (fun w => w.2.elim (fun z => c12 z.1) (fun z => hsf z.2.2.2)) K2 hK2
        | exact k0 (fun w => w.2.elim (fun z => c12 z.1) (fun z => c45 z.2.2.1)) K rr
        | exact k0 (fun w => w.2.elim (fun z => c12 z.1) (fun z => hb z.2.1)) K rr
        | exact k1 ⟨hk, Or.inl ⟨c12, c22⟩⟩ K rr
        | exact k0 (fun w => w.2.elim (fun z => z.2 c22) (fun z => z.1 c12)) K rr
        | exact k0 (fun w => hk w.1) K rr
  · refine ⟨_, rfl, ?_⟩
    refine b_if_ne (tgt := 10) rfl rfl (fun z => absurd z (by decide)) (fun _ => ?_)
    refine b_iconst rfl (by decide) ?_
    refine b_zret rfl rfl (by first | decide | omega) ?_
    first
    | exact k1 ⟨hk, Or.inr ⟨c12, hb, by omega, hsf⟩⟩ K2 hK2
    | exact k0 (fun w => w.2.elim (fun z => c12 z.1) (fun z => hsf z.2.2.2)) K2 hK2
    | exact k0 (fun w => w.2.elim (fun z => c12 z.1) (fun z => c45 z.2.2.1)) K rr
    | exact k0 (fun w => w.2.elim (fun z => c12 z.1) (fun z => hb z.2.1)) K rr
    | exact k1 ⟨hk, Or.inl ⟨c12, c22⟩⟩ K rr
    | exact k0 (fun w => w.2.elim (fun z => z.2 c22) (fun z => z.1 c12)) K rr
    | exact k0 (fun w => hk w.1) K rr
theorem spq_moor {J K : HI} {Q : Option AV → HI → Prop} {C : Nat → List Int} {b : Nat} {a d : Int} (hM : MN J K C b) (hU : RUn J K) (hK : WK J) (k1 : moP J C a d → ∀ K', MFr K K' → SRn (up (rem_ J) 31 a.toNat d) K' → RUn (up (rem_ J) 31 a.toNat d) K' → Q (some (aI 1)) K') (k0 : ¬ moP J C a d → ∀ K', ScM K K' → Q (some (aI 0)) (mrf K' 3)) : Rj MX12_moor 7 [aR 57, aI a, aI d] K Q := by
  have hp := hM.1.2.2.2.2.2.2.2.2.2
  refine rj_of okX12_moor (Nat.le_of_ble_eq_true rfl) rfl ?_
  refine b_aload_n rfl rfl ?_
  refine b_iload_n rfl rfl ?_
  refine b_iload_n rfl rfl ?_
  refine b_callV2i (ν := MX12_canMoor) rfl ml12_567 cvX12_canMoor (d' := 6) (by omega) rfl (by decide) rfl (Nat.le_of_ble_eq_true rfl) ?_
  refine spq_canMoor hM (fun hy K1 hK1 => ?_) (fun hn K1 hK1 => ?_)
  · refine ⟨_, rfl, ?_⟩
    refine b_if_ne (tgt := 23) rfl rfl (fun _ => ?_) (fun z => absurd z (by decide))
    have kk := k1 hy
    obtain ⟨s, rfl, hs⟩ := kO_nat (i := 1) hy.1
    have hs6 : s < 6 := by have := hp.1 1 (by decide); omega
    rw [Int.toNat_natCast] at kk
    have hM1 := hM.sc hK1
    have hU1 : RUn J K1 := RUn_to hU rfl rfl (hK1.2.1 53 (by omega)) (hK1.2.1 52 (by omega)) (fun q _ hs _ => SR_to hs (hK1.1 85 (by decide) (by decide) (by decide)) (hK1.1 86 (by decide) (by decide) (by decide)) (hK1.1 87 (by decide) (by decide) (by decide)) (hK1.1 88 (by decide) (by decide) (by decide)) (hK1.1 89 (by decide) (by decide) (by decide)) (shp_of (hK1.1 62 (by decide) (by decide) (by decide)) (hK1.2.1 13 (by omega))))
    refine b_aload_n rfl rfl ?_
    refine b_callV0v (ν := MX12_keeps) rfl ml12_557 cvX12_keeps (d' := 1) (by omega) rfl (by decide) rfl (Nat.le_of_ble_eq_true rfl) ?_
    refine spq_keeps hM1.2.2.2.1 hU1 hK hM1.2.1 (fun K2 f2 g2 u2 => ?_)
    refine ⟨rfl, ?_⟩
    refine b_aload_n rfl rfl ?_
    refine b_getR (r := 86) rfl fl12_159 rfl (by decide) rfl rfl ?_
    refine b_iload_n rfl rfl ?_
    refine b_iload_n rfl rfl ?_
    refine b_iast rfl rfl (by omega) (by omega) ?_
    try simp only [tn6, tn4, tn2, tn144, tn24, tn_cast, Int.reduceToNat]
    refine b_iconst rfl (by decide) ?_
    refine b_zret rfl rfl (by first | decide | omega) ?_
    first
    | exact k0 hn K1 hK1
    | exact kk _ (((MFr.sc hK1).tr f2).ux (by omega)) (SRn_31 g2) (RUn_86 u2 hs6)
  · refine ⟨_, rfl, ?_⟩
    refine b_if_ne (tgt := 23) rfl rfl (fun z => absurd z (by decide)) (fun _ => ?_)
    refine b_aload_n rfl rfl ?_
    refine b_iconst rfl (by decide) ?_
    refine b_callV1i (ν := MX12_refuses) rfl ml12_228 cvX12_refuses (d' := 0) (by omega) rfl (by decide) rfl (Nat.le_of_ble_eq_true rfl) ?_
    refine spm_refuses (k := 3) (by decide) ?_
    refine ⟨_, rfl, ?_⟩
    refine b_if_lt (tgt := 21) rfl rfl (fun c14 => ?_) (fun c14 => ?_)
    · refine b_iconst rfl (by decide) ?_
      refine b_zret rfl rfl (by first | decide | omega) ?_
      first
      | exact k0 hn K1 hK1
      | exact kk _ (((MFr.sc hK1).tr f2).ux (by omega)) (SRn_31 g2) (RUn_86 u2 hs6)
    · omega
