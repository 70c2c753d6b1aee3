/-! ===== the reference: questions ===== -/
theorem spq_isSafe {J K0 I : HI} {Q : Option AV → HI → Prop} {C : Nat → List Int} {b s t : Nat} {h : Int} (hM : MN J K0 C b) (hS : ScM K0 I) (hs : (s : Int) < J 4 1) (ht : (t : Int) < J 4 2) (hh : 0 ≤ h ∧ h ≤ 100000) (k1 : SF J C h 32 s t → ∀ K, ScM K0 K → Q (some (aI 1)) K) (k0 : ¬ SF J C h 32 s t → ∀ K, ScM K0 K → Q (some (aI 0)) K) : Rj MX12_isSafe 5 [aR 57, aI (s : Int), aI (t : Int), aI h] (mCar J I (J 32) s) Q := by
  have hMI := hM.sc hS
  have hcb := car_b hM.1.2.2.2.2.2.2.2.2.2 (f := J 32) (fun k => by have := hM.2.2.1.2.2.2.1 k; omega) hs
  have e : SFV J s t (tOf J (J 32) s) (hei C h (wOf J (J 32) s) (lOf J (J 32) s) (tOf J (J 32) s)) ↔ SF J C h 32 s t := by
    rw [own_W.1, own_W.2.1, own_W.2.2.1]
    exact Iff.rfl
  exact spm_isSafe (K0 := I) hMI.1 (AsM.rf (asB_mS hMI.2.1)) hs ht hcb.1 hcb.2 hh (fun w K hK => k1 (e.1 w) K (hS.ms.as hK)) (fun w K hK => k0 (fun z => w (e.2 z)) K (hS.ms.as hK))
theorem spq_ridesIn {J K0 I : HI} {Q : Option AV → HI → Prop} {C : Nat → List Int} {b s : Nat} {h : Int} (hM : MN J K0 C b) (hS : ScM K0 I) (hs : (s : Int) < J 4 1) (hh : 0 ≤ h ∧ h ≤ 100000) (kq : ∀ K, ScM K0 K → Q (some (aI (hS_ J C h 32 s))) K) : Rj MX12_ridesIn 4 [aR 57, aI h] (mCar J I (J 32) s) Q := by
  have hMI := hM.sc hS
  have hcb := car_b hM.1.2.2.2.2.2.2.2.2.2 (f := J 32) (fun k => by have := hM.2.2.1.2.2.2.1 k; omega) hs
  refine spm_ridesIn (K0 := I) hMI.1 (AsM.rf (asB_mS hMI.2.1)) hcb.1 hcb.2 hh (fun K hK => ?_)
  rw [own_W.1, own_W.2.1, own_W.2.2.1]
  exact kq K (hS.ms.as hK)
theorem iOr_0_ : ∀ t : Fin 64, iOr (t.val : Int) 0 = (t.val : Int) := by decide +kernel
theorem iOr_0 {t : Nat} (h : t < 64) : iOr (t : Int) 0 = (t : Int) := iOr_0_ ⟨t, h⟩
theorem mCar_cell {J K : HI} {f : Nat → Int} {s q : Nat} (h : q ≠ 57) : mCar J K f s q = K q := mS_cell h
theorem spq_ship {J K : HI} {Q : Option AV → HI → Prop} {C : Nat → List Int} {b : Nat} {a w : Int} (hM : MN J K C b) (k1 : ∀ s : Nat, a = (s : Int) → (s : Int) < J 4 1 → ∀ K', ScM K K' → Q (some (aI (shV J C s w))) K') (k0 : ¬ kO J 4 1 a → Q (some (aI (-1))) K) : Rj MX12_ship 5 [aR 57, aI a, aI w] K Q := by
  have rr := ScM.rf hM.2.1
  have r := hM.2.2.1.2.2.1
  have hR := hM.1
  have hb2 := hR.2.1
  have hp := hR.2.2.2.2.2.2.2.2.2
  refine rj_of okX12_ship (Nat.le_of_ble_eq_true rfl) rfl ?_
  refine b_aload_n rfl rfl ?_
  refine b_iload_n rfl rfl ?_
  refine b_callV1i (ν := MX12_isShip) rfl ml12_479 cvX12_isShip (d' := 0) (by omega) rfl (by decide) rfl (Nat.le_of_ble_eq_true rfl) ?_
  refine spm_isShip hR (fun hk => ?_) (fun hk => ?_)
  · refine ⟨_, rfl, ?_⟩
    refine b_if_ne (tgt := 10) rfl rfl (fun _ => ?_) (fun z => absurd z (by decide))
    obtain ⟨s, rfl, hs⟩ := kO_nat (i := 1) hk
    have hs6 : s < 6 := by have := hp.1 1 (by decide); omega
    have q := hR.2.2.2.2.2.2.1 s hs
    have q1 := q.1
    have q2 := q.2
    have q85 := hM.2.2.2.1.1
    have kk := fun K' h => k1 s rfl hs K' h
    unfold shV at kk
    refine b_aload_n rfl rfl ?_
    refine b_iconst rfl (by decide) ?_
    refine b_iload_n rfl rfl ?_
    refine b_callV2v (ν := MX12_carries) rfl ml12_493 cvX12_carries (d' := 1) (by omega) rfl (by decide) rfl (Nat.le_of_ble_eq_true rfl) ?_
    refine spq_carries hM hs ?_
    have hb : mCar J K (J 32) s 57 13 = (b : Int) := hR.1
    have e57 : mCar J K (J 32) s 57 57 = tW J 32 s ∧ mCar J K (J 32) s 57 58 = tL J 32 s ∧ mCar J K (J 32) s 57 60 = tN J 32 s := ⟨own_W.1, own_W.2.1, own_W.2.2.2⟩
    have hb3 := e57.1
    have hb4 := e57.2.1
    have hb5 := e57.2.2
    refine ⟨rfl, ?_⟩
    refine b_iload_n rfl rfl ?_
    by_cases s17_0 : w = 0
    · refine b_tswIn (tgt := 64) rfl (by omega) (by omega) (by rw [s17_0]; rfl) rfl ?_
      refine b_aload_n rfl rfl ?_
      refine b_getR (r := 63) rfl fl12_66 rfl (by decide) rfl rfl ?_
      refine b_bipush rfl (by decide) ?_
      refine b_aload_n rfl rfl ?_
      refine b_getI rfl fl12_51 rfl (by decide) rfl ?_
      rw [hb]
      refine b_imulN rfl (by omega) (by omega) ?_
      refine b_iload_n rfl rfl ?_
      refine b_iaddN rfl (by omega) (by omega) ?_
      refine b_iald rfl rfl (by omega) (by omega) ?_
      try simp only [tn6, tn4, tn2, tn144, tn24, tn_cast, Int.reduceToNat]
      rw [mCar_cell (by decide), q1]
      refine b_iret rfl rfl ?_
      first
      | exact k0 hk
      | (subst s17_0; exact kk _ rr.ms)
      | (subst s17_1; exact kk _ rr.ms)
      | (subst s17_2; exact kk _ rr.ms)
      | (subst s17_3; exact kk _ rr.ms)
      | (subst s17_4; exact kk _ rr.ms)
      | (subst s17_5; exact kk _ rr.ms)
      | (subst s17_6; exact kk _ hK1)
      | (subst s17_7; exact qI (kk _ rr.ms) (pI_1 hl) rfl)
      | (subst s17_7; exact qI (kk _ rr.ms) (pI_0 hl) rfl)
      | exact qI (kk _ rr.ms) (by rw [if_neg s17_0, if_neg s17_1, if_neg s17_2, if_neg s17_3, if_neg s17_4, if_neg s17_5, if_neg s17_6, if_neg s17_7]) rfl
    by_cases s17_1 : w = 1
    · refine b_tswIn (tgt := 79) rfl (by omega) (by omega) (by rw [s17_1]; rfl) rfl ?_
      refine b_aload_n rfl rfl ?_
      refine b_getR (r := 64) rfl fl12_69 rfl (by decide) rfl rfl ?_
      refine b_bipush rfl (by decide) ?_
      refine b_aload_n rfl rfl ?_
      refine b_getI rfl fl12_51 rfl (by decide) rfl ?_
      rw [hb]
      refine b_imulN rfl (by omega) (by omega) ?_
      refine b_iload_n rfl rfl ?_
      refine b_iaddN rfl (by omega) (by omega) ?_
      refine b_iald rfl rfl (by omega) (by omega) ?_
      try simp only [tn6, tn4, tn2, tn144, tn24, tn_cast, Int.reduceToNat]
      rw [mCar_cell (by decide), q2]
      refine b_iret rfl rfl ?_
      first
      | exact k0 hk
      | (subst s17_0; exact kk _ rr.ms)
      | (subst s17_1; exact kk _ rr.ms)
      | (subst s17_2; exact kk _ rr.ms)
      | (subst s17_3; exact kk _ rr.ms)
      | (subst s17_4; exact kk _ rr.ms)
      | (subst s17_5; exact kk _ rr.ms)
      | (subst s17_6; exact kk _ hK1)
      | (subst s17_7; exact qI (kk _ rr.ms) (pI_1 hl) rfl)
      | (subst s17_7; exact qI (kk _ rr.ms) (pI_0 hl) rfl)
      | exact qI (kk _ rr.ms) (by rw [if_neg s17_0, if_neg s17_1, if_neg s17_2, if_neg s17_3, if_neg s17_4, if_neg s17_5, if_neg s17_6, if_neg s17_7]) rfl
    by_cases s17_2 : w = 2
    · refine b_tswIn (tgt := 94) rfl (by omega) (by omega) (by rw [s17_2]; rfl) rfl ?_
      refine b_aload_n rfl rfl ?_
      refine b_iconst rfl (by decide) ?_
      refine b_iload_n rfl rfl ?_
      refine b_callV2i (ν := MX12_liesIn) rfl ml12_482 cvX12_liesIn (d' := 0) (by omega) rfl (by decide) rfl (Nat.le_of_ble_eq_true rfl) ?_
      refine spq_liesIn (hM.sc rr.ms) hs6 ?_
      refine ⟨_, rfl, ?_⟩
      refine b_iret rfl rfl ?_
      first
      | exact k0 hk
      | (subst s17_0; exact kk _ rr.ms)
      | (subst s17_1; exact kk _ rr.ms)
      | (subst s17_2; exact kk _ rr.ms)
      | (subst s17_3; exact kk _ rr.ms)
      | (subst s17_4; exact kk _ rr.ms)
      | (subst s17_5; exact kk _ rr.ms)
      | (subst s17_6; exact kk _ hK1)
      | (subst s17_7; exact qI (kk _ rr.ms) (pI_1 hl) rfl)
      | (subst s17_7; exact qI (kk _ rr.ms) (pI_0 hl) rfl)
      | exact qI (kk _ rr.ms) (by rw [if_neg s17_0, if_neg s17_1, if_neg s17_2, if_neg s17_3, if_neg s17_4, if_neg s17_5, if_neg s17_6, if_neg s17_7]) rfl
    by_cases s17_3 : w = 3
    · refine b_tswIn (tgt := 101) rfl (by omega) (by omega) (by rw [s17_3]; rfl) rfl ?_
      refine b_aload_n rfl rfl ?_
      refine b_getI rfl fl12_186 rfl (by decide) rfl ?_
      rw [hb3]
      refine b_iret rfl rfl ?_
      first
      | exact k0 hk
      | (subst s17_0; exact kk _ rr.ms)
      | (subst s17_1; exact kk _ rr.ms)
      | (subst s17_2; exact kk _ rr.ms)
      | (subst s17_3; exact kk _ rr.ms)
      | (subst s17_4; exact kk _ rr.ms)
      | (subst s17_5; exact kk _ rr.ms)
      | (subst s17_6; exact kk _ hK1)
      | (subst s17_7; exact qI (kk _ rr.ms) (pI_1 hl) rfl)
      | (subst s17_7; exact qI (kk _ rr.ms) (pI_0 hl) rfl)
      | exact qI (kk _ rr.ms) (by rw [if_neg s17_0, if_neg s17_1, if_neg s17_2, if_neg s17_3, if_neg s17_4, if_neg s17_5, if_neg s17_6, if_neg s17_7]) rfl
    by_cases s17_4 : w = 4
    · refine b_tswIn (tgt := 106) rfl (by omega) (by omega) (by rw [s17_4]; rfl) rfl ?_
      refine b_aload_n rfl rfl ?_
      refine b_getI rfl fl12_189 rfl (by decide) rfl ?_
      rw [hb4]
      refine b_iret rfl rfl ?_
      first
      | exact k0 hk
      | (subst s17_0; exact kk _ rr.ms)
      | (subst s17_1; exact kk _ rr.ms)
      | (subst s17_2; exact kk _ rr.ms)
      | (subst s17_3; exact kk _ rr.ms)
      | (subst s17_4; exact kk _ rr.ms)
      | (subst s17_5; exact kk _ rr.ms)
      | (subst s17_6; exact kk _ hK1)
      | (subst s17_7; exact qI (kk _ rr.ms) (pI_1 hl) rfl)
      | (subst s17_7; exact qI (kk _ rr.ms) (pI_0 hl) rfl)
      | exact qI (kk _ rr.ms) (by rw [if_neg s17_0, if_neg s17_1, if_neg s17_2, if_neg s17_3, if_neg s17_4, if_neg s17_5, if_neg s17_6, if_neg s17_7]) rfl
    by_cases s17_5 : w = 5
    · refine b_tswIn (tgt := 111) rfl (by omega) (by omega) (by rw [s17_5]; rfl) rfl ?_
      refine b_aload_n rfl rfl ?_
      refine b_getI rfl fl12_195 rfl (by decide) rfl ?_
      rw [hb5]
      refine b_iret rfl rfl ?_
      first
      | exact k0 hk
      | (subst s17_0; exact kk _ rr.ms)
      | (subst s17_1; exact kk _ rr.ms)
      | (subst s17_2; exact kk _ rr.ms)
      | (subst s17_3; exact kk _ rr.ms)
      | (subst s17_4; exact kk _ rr.ms)
      | (subst s17_5; exact kk _ rr.ms)
      | (subst s17_6; exact kk _ hK1)
      | (subst s17_7; exact qI (kk _ rr.ms) (pI_1 hl) rfl)
      | (subst s17_7; exact qI (kk _ rr.ms) (pI_0 hl) rfl)
      | exact qI (kk _ rr.ms) (by rw [if_neg s17_0, if_neg s17_1, if_neg s17_2, if_neg s17_3, if_neg s17_4, if_neg s17_5, if_neg s17_6, if_neg s17_7]) rfl
    by_cases s17_6 : w = 6
    · refine b_tswIn (tgt := 116) rfl (by omega) (by omega) (by rw [s17_6]; rfl) rfl ?_
      refine b_aload_n rfl rfl ?_
      refine b_aload_n rfl rfl ?_
      refine b_getR (r := 85) rfl fl12_156 rfl (by decide) rfl rfl ?_
      refine b_iconst rfl (by decide) ?_
      refine b_ialdL (k := 0) rfl rfl rfl (by decide) ?_
      try simp only [tn6, tn4, tn2, tn144, tn24, tn_cast, Int.reduceToNat]
      rw [mCar_cell (by decide), q85]
      refine b_callV1i (ν := MX12_ridesIn) rfl ml12_476 cvX12_ridesIn (d' := 4) (by omega) rfl (by decide) rfl (Nat.le_of_ble_eq_true rfl) ?_
      refine spq_ridesIn hM rr hs (by omega) (fun K1 hK1 => ?_)
      refine ⟨_, rfl, ?_⟩
      refine b_iret rfl rfl ?_
      first
      | exact k0 hk
      | (subst s17_0; exact kk _ rr.ms)
      | (subst s17_1; exact kk _ rr.ms)
      | (subst s17_2; exact kk _ rr.ms)
      | (subst s17_3; exact kk _ rr.ms)
      | (subst s17_4; exact kk _ rr.ms)
      | (subst s17_5; exact kk _ rr.ms)
      | (subst s17_6; exact kk _ hK1)
      | (subst s17_7; exact qI (kk _ rr.ms) (pI_1 hl) rfl)
      | (subst s17_7; exact qI (kk _ rr.ms) (pI_0 hl) rfl)
      | exact qI (kk _ rr.ms) (by rw [if_neg s17_0, if_neg s17_1, if_neg s17_2, if_neg s17_3, if_neg s17_4, if_neg s17_5, if_neg s17_6, if_neg s17_7]) rfl
    by_cases s17_7 : w = 7
    · refine b_tswIn (tgt := 127) rfl (by omega) (by omega) (by rw [s17_7]; rfl) rfl ?_
      refine b_aload_n rfl rfl ?_
      refine b_iload_n rfl rfl ?_
      refine b_callV1i (ν := MX12_isLevel) rfl ml12_473 cvX12_isLevel (d' := 1) (by omega) rfl (by decide) rfl (Nat.le_of_ble_eq_true rfl) ?_
      refine spm_isLevel (K0 := K) (W := wOf J (J 32) s) (L := lOf J (J 32) s) (T := tOf J (J 32) s) (N := nOf J (J 32) s) hR (AsM.rf (asB_mS hM.2.1)) hs (fun hl => ?_) (fun hl => ?_)
      all_goals rw [own_W.2.2.1] at hl
      · refine ⟨_, rfl, ?_⟩
        refine b_if_eq (tgt := 139) rfl rfl (fun z => absurd z (by decide)) (fun _ => ?_)
        refine b_iconst rfl (by decide) ?_
        refine b_goto (tgt := 140) rfl rfl ?_
        refine b_iret rfl rfl ?_
        first
        | exact k0 hk
        | (subst s17_0; exact kk _ rr.ms)
        | (subst s17_1; exact kk _ rr.ms)
        | (subst s17_2; exact kk _ rr.ms)
        | (subst s17_3; exact kk _ rr.ms)
        | (subst s17_4; exact kk _ rr.ms)
        | (subst s17_5; exact kk _ rr.ms)
        | (subst s17_6; exact kk _ hK1)
        | (subst s17_7; exact qI (kk _ rr.ms) (pI_1 hl) rfl)
        | (subst s17_7; exact qI (kk _ rr.ms) (pI_0 hl) rfl)
        | exact qI (kk _ rr.ms) (by rw [if_neg s17_0, if_neg s17_1, if_neg s17_2, if_neg s17_3, if_neg s17_4, if_neg s17_5, if_neg s17_6, if_neg s17_7]) rfl
      · refine ⟨_, rfl, ?_⟩
        refine b_if_eq (tgt := 139) rfl rfl (fun _ => ?_) (fun z => absurd z (by decide))
        refine b_iconst rfl (by decide) ?_
        refine b_iret rfl rfl ?_
        first
        | exact k0 hk
        | (subst s17_0; exact kk _ rr.ms)
        | (subst s17_1; exact kk _ rr.ms)
        | (subst s17_2; exact kk _ rr.ms)
        | (subst s17_3; exact kk _ rr.ms)
        | (subst s17_4; exact kk _ rr.ms)
        | (subst s17_5; exact kk _ rr.ms)
        | (subst s17_6; exact kk _ hK1)
        | (subst s17_7; exact qI (kk _ rr.ms) (pI_1 hl) rfl)
        | (subst s17_7; exact qI (kk _ rr.ms) (pI_0 hl) rfl)
        | exact qI (kk _ rr.ms) (by rw [if_neg s17_0, if_neg s17_1, if_neg s17_2, if_neg s17_3, if_neg s17_4, if_neg s17_5, if_neg s17_6, if_neg s17_7]) rfl
    refine b_tswOut (tgt := 141) rfl (by omega) rfl ?_
    refine b_iconst rfl (by decide) ?_
    refine b_iret rfl rfl ?_
    first
    | exact k0 hk
    | (subst s17_0; exact kk _ rr.ms)
    | (subst s17_1; exact kk _ rr.ms)
    | (subst s17_2; exact kk _ rr.ms)
    | (subst s17_3; exact kk _ rr.ms)
    | (subst s17_4; exact kk _ rr.ms)
    | (subst s17_5; exact kk _ rr.ms)
    | (subst s17_6; exact kk _ hK1)
    | (subst s17_7; exact qI (kk _ rr.ms) (pI_1 hl) rfl)
    | (subst s17_7; exact qI (kk _ rr.ms) (pI_0 hl) rfl)
    | exact qI (kk _ rr.ms) (by rw [if_neg s17_0, if_neg s17_1, if_neg s17_2, if_neg s17_3, if_neg s17_4, if_neg s17_5, if_neg s17_6, if_neg s17_7]) rfl
  · refine ⟨_, rfl, ?_⟩
    refine b_if_ne (tgt := 10) rfl rfl (fun z => absurd z (by decide)) (fun _ => ?_)
    refine b_iconst rfl (by decide) ?_
    refine b_iret rfl rfl ?_
    first
    | exact k0 hk
    | (subst s17_0; exact kk _ rr.ms)
    | (subst s17_1; exact kk _ rr.ms)
    | (subst s17_2; exact kk _ rr.ms)
    | (subst s17_3; exact kk _ rr.ms)
    | (subst s17_4; exact kk _ rr.ms)
    | (subst s17_5; exact kk _ rr.ms)
    | (subst s17_6; exact kk _ hK1)
    | (subst s17_7; exact qI (kk _ rr.ms) (pI_1 hl) rfl)
    | (subst s17_7; exact qI (kk _ rr.ms) (pI_0 hl) rfl)
    | exact qI (kk _ rr.ms) (by rw [if_neg s17_0, if_neg s17_1, if_neg s17_2, if_neg s17_3, if_neg s17_4, if_neg s17_5, if_neg s17_6, if_neg s17_7]) rfl
theorem spq_berth {J K : HI} {Q : Option AV → HI → Prop} {C : Nat → List Int} {b : Nat} {a w : Int} (hM : MN J K C b) (k1 : ∀ t : Nat, a = (t : Int) → (t : Int) < J 4 2 → ∀ K', ScM K K' → Q (some (aI (beV J C t w))) K') (k0 : ¬ kO J 4 2 a → Q (some (aI (-1))) K) : Rj MX12_berth 6 [aR 57, aI a, aI w] K Q := by
  have rr := ScM.rf hM.2.1
  have r := hM.2.2.1.2.2.1
  have hR := hM.1
  have hb := hR.1
  have hb2 := hR.2.1
  have hp := hR.2.2.2.2.2.2.2.2.2
  obtain ⟨n6, n1⟩ := nS_in hp
  have lp : ∀ t : Nat, (t : Int) < J 4 2 → (∀ K', ScM K K' → Q (some (aI (beV J C t 3))) K') → ∀ (n i : Nat) (I : HI) (y z : Int), ScM K I → z = (i : Int) → i + n = nS J → y = ((bN (sfP J C (J 30 5) t) i : Nat) : Int) → Bj MX12_berth 6 83 [some (aR 57), some (aI (t : Int)), some (aI 3), some (aI y), some (aI z)] [] I Q := by
    intro t ht hk n
    induction n with
    | zero =>
      intro i I y z hS hz hi hy
      have hMI := hM.sc hS
      have hbI := hMI.1.1
      have q62 := hMI.1.2.2.2.1
      refine b_iload rfl rfl ?_
      refine b_aload_n rfl rfl ?_
      refine b_getR (r := 62) rfl fl12_63 rfl (by decide) rfl rfl ?_
      refine b_aload_n rfl rfl ?_
      refine b_getI rfl fl12_51 rfl (by decide) rfl ?_
      rw [hbI]
      refine b_iald rfl rfl (by omega) (by omega) ?_
      try simp only [tn6, tn4, tn2, tn144, tn24, tn_cast, Int.reduceToNat]
      rw [q62]
      refine b_icmp_ge (tgt := 137) rfl rfl (fun c94 => ?_) (fun c94 => ?_)
      · refine b_iload_n rfl rfl ?_
        refine b_iret rfl rfl ?_
        exact qI (hk _ hS) (by rw [hy, show i = nS J by omega]; rfl) rfl
      · omega
    | succ n ih =>
      intro i I y z hS hz hi hy
      subst hz
      have hMI := hM.sc hS
      have hbI := hMI.1.1
      have q62 := hMI.1.2.2.2.1
      have q85 := hMI.2.2.2.1.1
      have hs : (i : Int) < J 4 1 := by omega
      refine b_iload rfl rfl ?_
      refine b_aload_n rfl rfl ?_
      refine b_getR (r := 62) rfl fl12_63 rfl (by decide) rfl rfl ?_
      refine b_aload_n rfl rfl ?_
      refine b_getI rfl fl12_51 rfl (by decide) rfl ?_
      rw [hbI]
      refine b_iald rfl rfl (by omega) (by omega) ?_
      try simp only [tn6, tn4, tn2, tn144, tn24, tn_cast, Int.reduceToNat]
      rw [q62]
      refine b_icmp_ge (tgt := 137) rfl rfl (fun c94 => ?_) (fun c94 => ?_)
      · omega
      · refine b_aload_n rfl rfl ?_
        refine b_iconst rfl (by decide) ?_
        refine b_iload rfl rfl ?_
        refine b_callV2v (ν := MX12_carries) rfl ml12_493 cvX12_carries (d' := 1) (by omega) rfl (by decide) rfl (Nat.le_of_ble_eq_true rfl) ?_
        refine spq_carries hMI hs ?_
        refine ⟨rfl, ?_⟩
        refine b_iload_n rfl rfl ?_
        refine b_aload_n rfl rfl ?_
        refine b_iload rfl rfl ?_
        refine b_iload_n rfl rfl ?_
        refine b_aload_n rfl rfl ?_
        refine b_getR (r := 85) rfl fl12_156 rfl (by decide) rfl rfl ?_
        refine b_iconst rfl (by decide) ?_
        refine b_ialdL (k := 0) rfl rfl rfl (by decide) ?_
        try simp only [tn6, tn4, tn2, tn144, tn24, tn_cast, Int.reduceToNat]
        rw [mCar_cell (by decide), q85]
        refine b_callV3i (ν := MX12_isSafe) rfl ml12_506 cvX12_isSafe (d' := 5) (by omega) rfl (by decide) rfl (Nat.le_of_ble_eq_true rfl) ?_
        refine spq_isSafe hM hS hs ht (by omega) (fun hf K2 hK2 => ?_) (fun hf K2 hK2 => ?_)
        · refine ⟨_, rfl, ?_⟩
          refine b_if_eq (tgt := 128) rfl rfl (fun z => absurd z (by decide)) (fun _ => ?_)
          refine b_iconst rfl (by decide) ?_
          refine b_iload rfl rfl ?_
          refine b_ishl rfl ?_
          refine b_goto (tgt := 129) rfl rfl ?_
          try rw [show iOr y 0 = y by rw [hy]; exact iOr_0 (by have := bN_lt (p := sfP J C (J 30 5) t) i; have h2 : 2 ^ i ≤ 2 ^ 6 := Nat.pow_le_pow_right (by decide) (by omega); omega)]
          refine b_ior rfl ?_
          refine b_istoreX_n (F := fun z130 => [some (aR 57), some (aI (t : Int)), some (aI (3 : Int)), some (aI z130), some (aI (i : Int))]) rfl (by decide) (fun _ => rfl) (fun z130 ez130 => ?_)
          refine b_iincX (F := fun z131 => [some (aR 57), some (aI (t : Int)), some (aI (3 : Int)), some (aI z130), some (aI z131)]) rfl rfl (by omega) (by omega) (fun _ => rfl) (fun z131 ez131 => ?_)
          refine b_goto (tgt := 83) rfl rfl ?_
          first
          | exact ih (i + 1) _ _ _ hK2 (by omega) (by omega) (by rw [bN_0 (p := sfP J C (J 30 5) t) hf, ez130, hy]; exact iOr_0 (by have := bN_lt (p := sfP J C (J 30 5) t) i; have h2 : 2 ^ i ≤ 2 ^ 6 := Nat.pow_le_pow_right (by decide) (by omega); omega))
          | exact ih (i + 1) _ _ _ hK2 (by omega) (by omega) (by rw [bN_1 (p := sfP J C (J 30 5) t) hf, ← or_new (by omega) (bN_lt i), ← hy]; assumption)
        · refine ⟨_, rfl, ?_⟩
          refine b_if_eq (tgt := 128) rfl rfl (fun _ => ?_) (fun z => absurd z (by decide))
          refine b_iconst rfl (by decide) ?_
          try rw [show iOr y 0 = y by rw [hy]; exact iOr_0 (by have := bN_lt (p := sfP J C (J 30 5) t) i; have h2 : 2 ^ i ≤ 2 ^ 6 := Nat.pow_le_pow_right (by decide) (by omega); omega)]
          refine b_ior rfl ?_
          refine b_istoreX_n (F := fun z130 => [some (aR 57), some (aI (t : Int)), some (aI (3 : Int)), some (aI z130), some (aI (i : Int))]) rfl (by decide) (fun _ => rfl) (fun z130 ez130 => ?_)
          refine b_iincX (F := fun z131 => [some (aR 57), some (aI (t : Int)), some (aI (3 : Int)), some (aI z130), some (aI z131)]) rfl rfl (by omega) (by omega) (fun _ => rfl) (fun z131 ez131 => ?_)
          refine b_goto (tgt := 83) rfl rfl ?_
          first
          | exact ih (i + 1) _ _ _ hK2 (by omega) (by omega) (by rw [bN_0 (p := sfP J C (J 30 5) t) hf, ez130, hy]; exact iOr_0 (by have := bN_lt (p := sfP J C (J 30 5) t) i; have h2 : 2 ^ i ≤ 2 ^ 6 := Nat.pow_le_pow_right (by decide) (by omega); omega))
          | exact ih (i + 1) _ _ _ hK2 (by omega) (by omega) (by rw [bN_1 (p := sfP J C (J 30 5) t) hf, ← or_new (by omega) (bN_lt i), ← hy]; assumption)
  refine rj_of okX12_berth (Nat.le_of_ble_eq_true rfl) rfl ?_
  refine b_aload_n rfl rfl ?_
  refine b_iload_n rfl rfl ?_
  refine b_callV1i (ν := MX12_isBerth) rfl ml12_500 cvX12_isBerth (d' := 0) (by omega) rfl (by decide) rfl (Nat.le_of_ble_eq_true rfl) ?_
  refine spm_isBerth hR (fun hk => ?_) (fun hk => ?_)
  · refine ⟨_, rfl, ?_⟩
    refine b_if_ne (tgt := 10) rfl rfl (fun _ => ?_) (fun z => absurd z (by decide))
    refine b_iconst rfl (by decide) ?_
    refine b_istoreX_n (F := fun z11 => [some (aR 57), some (aI a), some (aI w), some (aI z11), none]) rfl (by decide) (fun _ => rfl) (fun z11 ez11 => ?_)
    obtain ⟨t, hta, ht⟩ := kO_nat (i := 2) hk
    have ht6 : t < 6 := by have := hp.1 2 (by decide); omega
    have q := hR.2.2.2.2.2.2.2.1 t ht
    have q1 := q.1
    have q2 := q.2
    have kk := fun K' h => k1 t hta ht K' h
    refine b_iload_n rfl rfl ?_
    by_cases s13_0 : w = 0
    · refine b_tswIn (tgt := 44) rfl (by omega) (by omega) (by rw [s13_0]; rfl) rfl ?_
      refine b_aload_n rfl rfl ?_
      refine b_getR (r := 68) rfl fl12_81 rfl (by decide) rfl rfl ?_
      refine b_bipush rfl (by decide) ?_
      refine b_aload_n rfl rfl ?_
      refine b_getI rfl fl12_51 rfl (by decide) rfl ?_
      rw [hb]
      refine b_imulN rfl (by omega) (by omega) ?_
      refine b_iload_n rfl rfl ?_
      refine b_iaddN rfl (by omega) (by omega) ?_
      rw [hta]
      refine b_iald rfl rfl (by omega) (by omega) ?_
      try simp only [tn6, tn4, tn2, tn144, tn24, tn_cast, Int.reduceToNat]
      rw [q1]
      refine b_iret rfl rfl ?_
      first
      | exact k0 hk
      | (subst s13_0; exact kk _ rr)
      | (subst s13_1; exact kk _ rr)
      | (subst s13_2; subst hta; exact kk _ rr)
      | exact qI (kk _ rr) (by unfold beV; rw [if_neg s13_0, if_neg s13_1, if_neg s13_2, if_neg s13_3]) rfl
    by_cases s13_1 : w = 1
    · refine b_tswIn (tgt := 59) rfl (by omega) (by omega) (by rw [s13_1]; rfl) rfl ?_
      refine b_aload_n rfl rfl ?_
      refine b_getR (r := 69) rfl fl12_84 rfl (by decide) rfl rfl ?_
      refine b_bipush rfl (by decide) ?_
      refine b_aload_n rfl rfl ?_
      refine b_getI rfl fl12_51 rfl (by decide) rfl ?_
      rw [hb]
      refine b_imulN rfl (by omega) (by omega) ?_
      refine b_iload_n rfl rfl ?_
      refine b_iaddN rfl (by omega) (by omega) ?_
      rw [hta]
      refine b_iald rfl rfl (by omega) (by omega) ?_
      try simp only [tn6, tn4, tn2, tn144, tn24, tn_cast, Int.reduceToNat]
      rw [q2]
      refine b_iret rfl rfl ?_
      first
      | exact k0 hk
      | (subst s13_0; exact kk _ rr)
      | (subst s13_1; exact kk _ rr)
      | (subst s13_2; subst hta; exact kk _ rr)
      | exact qI (kk _ rr) (by unfold beV; rw [if_neg s13_0, if_neg s13_1, if_neg s13_2, if_neg s13_3]) rfl
    by_cases s13_2 : w = 2
    · refine b_tswIn (tgt := 74) rfl (by omega) (by omega) (by rw [s13_2]; rfl) rfl ?_
      refine b_aload_n rfl rfl ?_
      refine b_iload_n rfl rfl ?_
      refine b_callV1i (ν := MX12_whose) rfl ml12_503 cvX12_whose (d' := 1) (by omega) rfl (by decide) rfl (Nat.le_of_ble_eq_true rfl) ?_
      refine spq_whose hM (by omega) ?_
      refine ⟨_, rfl, ?_⟩
      refine b_iret rfl rfl ?_
      first
      | exact k0 hk
      | (subst s13_0; exact kk _ rr)
      | (subst s13_1; exact kk _ rr)
      | (subst s13_2; subst hta; exact kk _ rr)
      | exact qI (kk _ rr) (by unfold beV; rw [if_neg s13_0, if_neg s13_1, if_neg s13_2, if_neg s13_3]) rfl
    by_cases s13_3 : w = 3
    · refine b_tswIn (tgt := 80) rfl (by omega) (by omega) (by rw [s13_3]; rfl) rfl ?_
      refine b_iconst rfl (by decide) ?_
      refine b_istoreX (F := fun z81 => [some (aR 57), some (aI a), some (aI w), some (aI z11), some (aI z81)]) rfl (by decide) (fun _ => rfl) (fun z81 ez81 => ?_)
      subst s13_3
      subst hta
      subst ez11
      exact lp t ht kk (nS J) 0 K _ _ rr (by omega) (by omega) rfl
    refine b_tswOut (tgt := 139) rfl (by omega) rfl ?_
    refine b_iconst rfl (by decide) ?_
    refine b_iret rfl rfl ?_
    first
    | exact k0 hk
    | (subst s13_0; exact kk _ rr)
    | (subst s13_1; exact kk _ rr)
    | (subst s13_2; subst hta; exact kk _ rr)
    | exact qI (kk _ rr) (by unfold beV; rw [if_neg s13_0, if_neg s13_1, if_neg s13_2, if_neg s13_3]) rfl
  · refine ⟨_, rfl, ?_⟩
    refine b_if_ne (tgt := 10) rfl rfl (fun z => absurd z (by decide)) (fun _ => ?_)
    refine b_iconst rfl (by decide) ?_
    refine b_iret rfl rfl ?_
    first
    | exact k0 hk
    | (subst s13_0; exact kk _ rr)
    | (subst s13_1; exact kk _ rr)
    | (subst s13_2; subst hta; exact kk _ rr)
    | exact qI (kk _ rr) (by unfold beV; rw [if_neg s13_0, if_neg s13_1, if_neg s13_2, if_neg s13_3]) rfl
