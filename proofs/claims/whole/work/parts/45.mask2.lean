/-! ===== the reference: more questions ===== -/
theorem spq_adrift {J K : HI} {Q : Option AV → HI → Prop} {C : Nat → List Int} {b : Nat} {w : Int} (hM : MN J K C b) (kq : ∀ K', ScM K K' → Q (some (aI (if w = 0 ∨ w = 1 then adV J C w (lm J) 1 else -1))) K') : Rj MX12_adrift 6 [aR 57, aI w] K Q := by
  have r := hM.2.2.1.2.2.1
  have rr := ScM.rf hM.2.1
  have hp := hM.1.2.2.2.2.2.2.2.2.2
  have hb2 := hM.1.2.1
  obtain ⟨n6, n1⟩ := nS_in hp
  have e5 : (lm J : Int) = min 200 (9999 - J 30 5) := by unfold lm; omega
  have inner : ∀ (n : Nat), 1 ≤ n → J 30 5 + n ≤ 9999 → (w = 0 ∨ w = 1) → (∀ K', ScM K K' → Q (some (aI (if w = 0 then (n : Int) else fU J C (J 30 5 + n)))) K' ∨ fU J C (J 30 5 + n) = -1) → (fU J C (J 30 5 + n) = -1 → ∀ (K' : HI) (z : Int) (x : Option AV), ScM K K' → z = (n : Int) + 1 → Bj MX12_adrift 6 13 [some (aR 57), some (aI w), some (aI z), x] [] K' Q) → ∀ (m i : Nat) (z : Int) (I : HI), ScM K I → z = (i : Int) → i + m = nS J → fU J C (J 30 5 + n) = fP (unP J C (J 30 5 + n)) m i → Bj MX12_adrift 6 24 [some (aR 57), some (aI w), some (aI (n : Int)), some (aI z)] [] I Q := by
    intro n hn1 hn2 hw hy hno m
    induction m with
    | zero =>
      intro i z I hS hz hi hf
      have hMI := hM.sc hS
      have hbI := hMI.1.1
      have q62 := hMI.1.2.2.2.1
      refine b_iload_n rfl rfl ?_
      refine b_aload_n rfl rfl ?_
      refine b_getR (r := 62) rfl fl12_63 rfl (by decide) rfl rfl ?_
      refine b_aload_n rfl rfl ?_
      refine b_getI rfl fl12_51 rfl (by decide) rfl ?_
      rw [hbI]
      refine b_iald rfl rfl (by omega) (by omega) ?_
      try simp only [tn6, tn4, tn2, tn144, tn24, tn_cast, Int.reduceToNat]
      rw [q62]
      refine b_icmp_ge (tgt := 94) rfl rfl (fun c34 => ?_) (fun c34 => ?_)
      · refine b_iincX (F := fun z94 => [some (aR 57), some (aI w), some (aI z94), some (aI z)]) rfl rfl (by omega) (by omega) (fun _ => rfl) (fun z94 ez94 => ?_)
        refine b_goto (tgt := 13) rfl rfl ?_
        exact hno hf I _ _ hS (by omega)
      · omega
    | succ m ih =>
      intro i z I hS hz hi hf
      subst hz
      have hMI := hM.sc hS
      have hbI := hMI.1.1
      have q62 := hMI.1.2.2.2.1
      have q85 := hMI.2.2.2.1.1
      have hs : (i : Int) < J 4 1 := by omega
      have hl := hM.2.2.1.2.2.2.2 i hs
      have hf1 : fU J C (J 30 5 + n) = pI (unP J C (J 30 5 + n) i) (i : Int) (fP (unP J C (J 30 5 + n)) m (i + 1)) := hf
      refine b_iload_n rfl rfl ?_
      refine b_aload_n rfl rfl ?_
      refine b_getR (r := 62) rfl fl12_63 rfl (by decide) rfl rfl ?_
      refine b_aload_n rfl rfl ?_
      refine b_getI rfl fl12_51 rfl (by decide) rfl ?_
      rw [hbI]
      refine b_iald rfl rfl (by omega) (by omega) ?_
      try simp only [tn6, tn4, tn2, tn144, tn24, tn_cast, Int.reduceToNat]
      rw [q62]
      refine b_icmp_ge (tgt := 94) rfl rfl (fun c34 => ?_) (fun c34 => ?_)
      · omega
      · refine b_aload_n rfl rfl ?_
        refine b_iconst rfl (by decide) ?_
        refine b_iload_n rfl rfl ?_
        refine b_callV2i (ν := MX12_liesIn) rfl ml12_482 cvX12_liesIn (d' := 0) (by omega) rfl (by decide) rfl (Nat.le_of_ble_eq_true rfl) ?_
        refine spq_liesIn hMI (by omega) ?_
        refine ⟨_, rfl, ?_⟩
        refine b_iconst rfl (by decide) ?_
        refine b_icmp_ne (tgt := 50) rfl rfl (fun c44 => ?_) (fun c44 => ?_)
        · obtain ⟨t, ht⟩ : ∃ t : Nat, J 31 i = (t : Int) := ⟨(J 31 i).toNat, by omega⟩
          refine b_aload_n rfl rfl ?_
          refine b_iconst rfl (by decide) ?_
          refine b_iload_n rfl rfl ?_
          refine b_callV2v (ν := MX12_carries) rfl ml12_493 cvX12_carries (d' := 1) (by omega) rfl (by decide) rfl (Nat.le_of_ble_eq_true rfl) ?_
          refine spq_carries hMI hs ?_
          refine ⟨rfl, ?_⟩
          refine b_aload_n rfl rfl ?_
          refine b_iload_n rfl rfl ?_
          refine b_aload_n rfl rfl ?_
          refine b_iconst rfl (by decide) ?_
          refine b_iload_n rfl rfl ?_
          refine b_callV2i (ν := MX12_liesIn) rfl ml12_482 cvX12_liesIn (d' := 0) (by omega) rfl (by decide) rfl (Nat.le_of_ble_eq_true rfl) ?_
          refine spq_liesIn (hM.sc hS.ms) (by omega) ?_
          rw [ht]
          refine ⟨_, rfl, ?_⟩
          refine b_aload_n rfl rfl ?_
          refine b_getR (r := 85) rfl fl12_156 rfl (by decide) rfl rfl ?_
          refine b_iconst rfl (by decide) ?_
          refine b_ialdL (k := 0) rfl rfl rfl (by decide) ?_
          try simp only [tn6, tn4, tn2, tn144, tn24, tn_cast, Int.reduceToNat]
          rw [mCar_cell (by decide), q85]
          refine b_iload_n rfl rfl ?_
          refine b_iaddN rfl (by omega) (by omega) ?_
          refine b_callV3i (ν := MX12_isSafe) rfl ml12_506 cvX12_isSafe (d' := 5) (by omega) rfl (by decide) rfl (Nat.le_of_ble_eq_true rfl) ?_
          refine spq_isSafe hM hS hs (by omega) (by omega) (fun hsf K2 hK2 => ?_) (fun hsn K2 hK2 => ?_)
          · refine ⟨_, rfl, ?_⟩
            refine b_if_ne (tgt := 88) rfl rfl (fun _ => ?_) (fun z => absurd z (by decide))
            refine b_iincX (F := fun z88 => [some (aR 57), some (aI w), some (aI (n : Int)), some (aI z88)]) rfl rfl (by omega) (by omega) (fun _ => rfl) (fun z88 ez88 => ?_)
            refine b_goto (tgt := 24) rfl rfl ?_
            first
            | exact ih (i + 1) _ K2 hK2 (by omega) (by omega) (by rw [pI_0 (fun w => w.2 (by rw [ht, Int.toNat_natCast]; exact hsf))] at hf1; exact hf1)
            | exact ih (i + 1) _ I hS (by omega) (by omega) (by rw [pI_0 (fun w => w.1 c44)] at hf1; exact hf1)
          · refine ⟨_, rfl, ?_⟩
            refine b_if_ne (tgt := 88) rfl rfl (fun z => absurd z (by decide)) (fun _ => ?_)
            have hu : unP J C (J 30 5 + n) i := ⟨c44, by rw [ht, Int.toNat_natCast]; exact hsn⟩
            rw [pI_1 hu] at hf1
            have hqq := (hy K2 hK2).resolve_right (by omega)
            refine b_iload_n rfl rfl ?_
            refine b_if_ne (tgt := 86) rfl rfl (fun c79 => ?_) (fun c79 => ?_)
            · refine b_iload_n rfl rfl ?_
              refine b_iret rfl rfl ?_
              first
              | exact qI hqq (by rw [if_pos (by omega)]) rfl
              | exact qI hqq (by rw [if_neg (by omega)]; omega) rfl
            · refine b_iload_n rfl rfl ?_
              refine b_goto (tgt := 87) rfl rfl ?_
              refine b_iret rfl rfl ?_
              first
              | exact qI hqq (by rw [if_pos (by omega)]) rfl
              | exact qI hqq (by rw [if_neg (by omega)]; omega) rfl
        · refine b_goto (tgt := 88) rfl rfl ?_
          refine b_iincX (F := fun z88 => [some (aR 57), some (aI w), some (aI (n : Int)), some (aI z88)]) rfl rfl (by omega) (by omega) (fun _ => rfl) (fun z88 ez88 => ?_)
          refine b_goto (tgt := 24) rfl rfl ?_
          first
          | exact ih (i + 1) _ K2 hK2 (by omega) (by omega) (by rw [pI_0 (fun w => w.2 (by rw [ht, Int.toNat_natCast]; exact hsf))] at hf1; exact hf1)
          | exact ih (i + 1) _ I hS (by omega) (by omega) (by rw [pI_0 (fun w => w.1 c44)] at hf1; exact hf1)
  have lp : ∀ (f n : Nat) (I : HI) (z : Int) (x : Option AV), (w = 0 ∨ w = 1) → ScM K I → z = (n : Int) → 1 ≤ n → n + f = lm J + 1 → (∀ K', ScM K K' → Q (some (aI (adV J C w f n))) K') → Bj MX12_adrift 6 13 [some (aR 57), some (aI w), some (aI z), x] [] I Q := by
    intro f
    induction f with
    | zero =>
      intro n I z x hw hS hz hn1 hi hk
      have hMI := hM.sc hS
      refine b_aload_n rfl rfl ?_
      refine b_iload_n rfl rfl ?_
      refine b_iconst rfl (by decide) ?_
      refine b_callV2i (ν := MX12_isAhead) rfl ml12_509 cvX12_isAhead (d' := 1) (by omega) rfl (by decide) rfl (Nat.le_of_ble_eq_true rfl) ?_
      refine spq_isAhead hMI (fun hy => absurd hy (by omega)) (fun hn => ?_) (by decide)
      refine ⟨_, rfl, ?_⟩
      refine b_if_eq (tgt := 100) rfl rfl (fun c19 => ?_) (fun c19 => ?_)
      · refine b_iconst rfl (by decide) ?_
        refine b_iret rfl rfl ?_
        exact hk _ hS
      · omega
    | succ f ih =>
      intro n I z x hw hS hz hn1 hi hk
      subst hz
      have hMI := hM.sc hS
      refine b_aload_n rfl rfl ?_
      refine b_iload_n rfl rfl ?_
      refine b_iconst rfl (by decide) ?_
      refine b_callV2i (ν := MX12_isAhead) rfl ml12_509 cvX12_isAhead (d' := 1) (by omega) rfl (by decide) rfl (Nat.le_of_ble_eq_true rfl) ?_
      refine spq_isAhead hMI (fun hy => ?_) (fun hn => absurd (show 1 ≤ (n : Int) ∧ (n : Int) ≤ 200 ∧ J 30 5 + n ≤ 9999 by omega) hn) (by decide)
      refine ⟨_, rfl, ?_⟩
      refine b_if_eq (tgt := 100) rfl rfl (fun c19 => ?_) (fun c19 => ?_)
      · omega
      · refine b_iconst rfl (by decide) ?_
        refine b_istoreX_n (F := fun z23 => [some (aR 57), some (aI w), some (aI (n : Int)), some (aI z23)]) rfl (by decide) (fun _ => rfl) (fun z23 ez23 => ?_)
        refine inner n hn1 (by omega) hw (fun K' hK' => ?_) (fun hf0 K' z x hK' hz => ?_) (nS J) 0 _ I hS (by omega) (by omega) rfl
        · by_cases hf : fU J C (J 30 5 + n) = -1
          · exact Or.inr hf
          · exact Or.inl (qI (hk K' hK') (adV_1 hf) rfl)
        · exact ih (n + 1) K' z x hw hK' (by omega) (by omega) (by omega) (fun K2 hK2 => qI (hk K2 hK2) (adV_0 hf0) rfl)
  refine rj_of okX12_adrift (Nat.le_of_ble_eq_true rfl) rfl ?_
  refine b_iload_n rfl rfl ?_
  refine b_iconst rfl (by decide) ?_
  refine b_iconst rfl (by decide) ?_
  refine b_callS3i (ν := MX12_is) rfl ml12_322 csX12_is (d' := 0) (by omega) (Nat.le_of_ble_eq_true rfl) ?_
  refine spm_is (fun hy => ?_) (fun hn => ?_)
  · refine ⟨_, rfl, ?_⟩
    refine b_if_ne (tgt := 11) rfl rfl (fun _ => ?_) (fun z => absurd z (by decide))
    refine b_iconst rfl (by decide) ?_
    refine b_istoreX_n (F := fun z12 => [some (aR 57), some (aI w), some (aI z12), none]) rfl (by decide) (fun _ => rfl) (fun z12 ez12 => ?_)
    exact lp (lm J) 1 K _ _ (by omega) rr (by omega) (by omega) (by omega) (fun K' hK' => qI (kq _ hK') (if_pos (by omega)) rfl)
  · refine ⟨_, rfl, ?_⟩
    refine b_if_ne (tgt := 11) rfl rfl (fun z => absurd z (by decide)) (fun _ => ?_)
    refine b_iconst rfl (by decide) ?_
    refine b_iret rfl rfl ?_
    exact qI (kq _ rr) (if_neg (by omega)) rfl
theorem spq_alike {J K : HI} {Q : Option AV → HI → Prop} {C : Nat → List Int} {b : Nat} {a c k : Int} (hM : MN J K C b) (k1 : ∀ s t : Nat, a = (s : Int) → c = (t : Int) → (s : Int) < J 4 1 → (t : Int) < J 4 1 → a ≠ c → 0 ≤ k → ∀ K', ScM K K' → Q (some (aI (kP (akP J C s t) k (lm J + 1) 0 0))) K') (k0 : ¬ (kO J 4 1 a ∧ kO J 4 1 c ∧ a ≠ c ∧ 0 ≤ k) → Q (some (aI (-1))) K) : Rj MX12_alike 5 [aR 57, aI a, aI c, aI k] K Q := by
  have r := hM.2.2.1.2.2.1
  have rr := ScM.rf hM.2.1
  have e5 : (lm J : Int) = min 200 (9999 - J 30 5) := by unfold lm; omega
  have lp : ∀ s t : Nat, (s : Int) < J 4 1 → (t : Int) < J 4 1 → ∀ (f n : Nat) (I : HI) (y z : Int) (x : Option AV), ScM K I → z = (n : Int) → 0 ≤ y → y ≤ n → n + f = lm J + 1 → (∀ K', ScM K K' → Q (some (aI (kP (akP J C s t) k f n y))) K') → Bj MX12_alike 5 33 [some (aR 57), some (aI (s : Int)), some (aI (t : Int)), some (aI k), some (aI y), some (aI z), x] [] I Q := by
    intro s t hs ht f
    induction f with
    | zero =>
      intro n I y z x hS hz hy0 hy1 hi hk
      have hMI := hM.sc hS
      refine b_aload_n rfl rfl ?_
      refine b_iload rfl rfl ?_
      refine b_iconst rfl (by decide) ?_
      refine b_callV2i (ν := MX12_isAhead) rfl ml12_509 cvX12_isAhead (d' := 1) (by omega) rfl (by decide) rfl (Nat.le_of_ble_eq_true rfl) ?_
      refine spq_isAhead hMI (fun hy => absurd hy (by omega)) (fun hn => ?_) (by decide)
      refine ⟨_, rfl, ?_⟩
      refine b_if_eq (tgt := 109) rfl rfl (fun c40 => ?_) (fun c40 => ?_)
      · refine b_iconst rfl (by decide) ?_
        refine b_iret rfl rfl ?_
        exact hk _ hS
      · omega
    | succ f ih =>
      intro n I y z x hS hz hy0 hy1 hi hk
      subst hz
      have hMI := hM.sc hS
      have q85 := hMI.2.2.2.1.1
      have hk' : ∀ K', ScM K K' → Q (some (aI (pI (akP J C s t n) (if y = k then (n : Int) else kP (akP J C s t) k f (n + 1) (y + 1)) (kP (akP J C s t) k f (n + 1) y)))) K' := hk
      refine b_aload_n rfl rfl ?_
      refine b_iload rfl rfl ?_
      refine b_iconst rfl (by decide) ?_
      refine b_callV2i (ν := MX12_isAhead) rfl ml12_509 cvX12_isAhead (d' := 1) (by omega) rfl (by decide) rfl (Nat.le_of_ble_eq_true rfl) ?_
      refine spq_isAhead hMI (fun hy => ?_) (fun hn => absurd (show 0 ≤ (n : Int) ∧ (n : Int) ≤ 200 ∧ J 30 5 + n ≤ 9999 by omega) hn) (by decide)
      refine ⟨_, rfl, ?_⟩
      refine b_if_eq (tgt := 109) rfl rfl (fun c40 => ?_) (fun c40 => ?_)
      · omega
      · refine b_aload_n rfl rfl ?_
        refine b_iconst rfl (by decide) ?_
        refine b_iload_n rfl rfl ?_
        refine b_callV2v (ν := MX12_carries) rfl ml12_493 cvX12_carries (d' := 1) (by omega) rfl (by decide) rfl (Nat.le_of_ble_eq_true rfl) ?_
        refine spq_carries hMI hs ?_
        refine ⟨rfl, ?_⟩
        refine b_aload_n rfl rfl ?_
        refine b_aload_n rfl rfl ?_
        refine b_getR (r := 85) rfl fl12_156 rfl (by decide) rfl rfl ?_
        refine b_iconst rfl (by decide) ?_
        refine b_ialdL (k := 0) rfl rfl rfl (by decide) ?_
        try simp only [tn6, tn4, tn2, tn144, tn24, tn_cast, Int.reduceToNat]
        rw [mCar_cell (by decide), q85]
        refine b_iload rfl rfl ?_
        refine b_iaddN rfl (by omega) (by omega) ?_
        refine b_callV1i (ν := MX12_ridesIn) rfl ml12_476 cvX12_ridesIn (d' := 4) (by omega) rfl (by decide) rfl (Nat.le_of_ble_eq_true rfl) ?_
        refine spq_ridesIn hM hS hs (by omega) (fun K2 hK2 => ?_)
        have hM2 := hM.sc hK2
        have q86 := hM2.2.2.2.1.1
        refine ⟨_, rfl, ?_⟩
        refine b_istoreX (F := fun z62 => [some (aR 57), some (aI (s : Int)), some (aI (t : Int)), some (aI k), some (aI y), some (aI (n : Int)), some (aI z62)]) rfl (by decide) (fun _ => rfl) (fun z62 ez62 => ?_)
        refine b_aload_n rfl rfl ?_
        refine b_iconst rfl (by decide) ?_
        refine b_iload_n rfl rfl ?_
        refine b_callV2v (ν := MX12_carries) rfl ml12_493 cvX12_carries (d' := 1) (by omega) rfl (by decide) rfl (Nat.le_of_ble_eq_true rfl) ?_
        refine spq_carries hM2 ht ?_
        refine ⟨rfl, ?_⟩
        refine b_aload_n rfl rfl ?_
        refine b_aload_n rfl rfl ?_
        refine b_getR (r := 85) rfl fl12_156 rfl (by decide) rfl rfl ?_
        refine b_iconst rfl (by decide) ?_
        refine b_ialdL (k := 0) rfl rfl rfl (by decide) ?_
        try simp only [tn6, tn4, tn2, tn144, tn24, tn_cast, Int.reduceToNat]
        rw [mCar_cell (by decide), q86]
        refine b_iload rfl rfl ?_
        refine b_iaddN rfl (by omega) (by omega) ?_
        refine b_callV1i (ν := MX12_ridesIn) rfl ml12_476 cvX12_ridesIn (d' := 4) (by omega) rfl (by decide) rfl (Nat.le_of_ble_eq_true rfl) ?_
        refine spq_ridesIn hM hK2 ht (by omega) (fun K3 hK3 => ?_)
        refine ⟨_, rfl, ?_⟩
        refine b_iload rfl rfl ?_
        refine b_icmp_eq (tgt := 91) rfl rfl (fun c85 => ?_) (fun c85 => ?_)
        · refine b_iload rfl rfl ?_
          refine b_iload_n rfl rfl ?_
          refine b_icmp_ne (tgt := 100) rfl rfl (fun c94 => ?_) (fun c94 => ?_)
          · refine b_iincX (F := fun z100 => [some (aR 57), some (aI (s : Int)), some (aI (t : Int)), some (aI k), some (aI z100), some (aI (n : Int)), some (aI z62)]) rfl rfl (by omega) (by omega) (fun _ => rfl) (fun z100 ez100 => ?_)
            refine b_iincX (F := fun z103 => [some (aR 57), some (aI (s : Int)), some (aI (t : Int)), some (aI k), some (aI z100), some (aI z103), some (aI z62)]) rfl rfl (by omega) (by omega) (fun _ => rfl) (fun z103 ez103 => ?_)
            refine b_goto (tgt := 33) rfl rfl ?_
            first
            | exact ih (n + 1) K3 _ _ _ hK3 (by omega) (by omega) (by omega) (by omega) (fun K' hK' => qI (hk' K' hK') (by rw [pI_1 (show akP J C s t n by unfold akP; omega), if_neg (by omega)]; congr 1; omega) rfl)
            | exact ih (n + 1) K3 _ _ _ hK3 (by omega) (by omega) (by omega) (by omega) (fun K' hK' => qI (hk' K' hK') (by rw [pI_0 (show ¬ akP J C s t n by unfold akP; omega)]) rfl)
          · refine b_iload rfl rfl ?_
            refine b_iret rfl rfl ?_
            exact qI (hk' K3 hK3) (by rw [pI_1 (show akP J C s t n by unfold akP; omega), if_pos (by omega)]) rfl
        · refine b_goto (tgt := 103) rfl rfl ?_
          refine b_iincX (F := fun z103 => [some (aR 57), some (aI (s : Int)), some (aI (t : Int)), some (aI k), some (aI y), some (aI z103), some (aI z62)]) rfl rfl (by omega) (by omega) (fun _ => rfl) (fun z103 ez103 => ?_)
          refine b_goto (tgt := 33) rfl rfl ?_
          first
          | exact ih (n + 1) K3 _ _ _ hK3 (by omega) (by omega) (by omega) (by omega) (fun K' hK' => qI (hk' K' hK') (by rw [pI_1 (show akP J C s t n by unfold akP; omega), if_neg (by omega)]; congr 1; omega) rfl)
          | exact ih (n + 1) K3 _ _ _ hK3 (by omega) (by omega) (by omega) (by omega) (fun K' hK' => qI (hk' K' hK') (by rw [pI_0 (show ¬ akP J C s t n by unfold akP; omega)]) rfl)
  refine rj_of okX12_alike (Nat.le_of_ble_eq_true rfl) rfl ?_
  refine b_aload_n rfl rfl ?_
  refine b_iload_n rfl rfl ?_
  refine b_callV1i (ν := MX12_isShip) rfl ml12_479 cvX12_isShip (d' := 0) (by omega) rfl (by decide) rfl (Nat.le_of_ble_eq_true rfl) ?_
  refine spm_isShip hM.1 (fun hk1 => ?_) (fun hk1 => ?_)
  · refine ⟨_, rfl, ?_⟩
    refine b_if_eq (tgt := 25) rfl rfl (fun z => absurd z (by decide)) (fun _ => ?_)
    refine b_aload_n rfl rfl ?_
    refine b_iload_n rfl rfl ?_
    refine b_callV1i (ν := MX12_isShip) rfl ml12_479 cvX12_isShip (d' := 0) (by omega) rfl (by decide) rfl (Nat.le_of_ble_eq_true rfl) ?_
    refine spm_isShip hM.1 (fun hk2 => ?_) (fun hk2 => ?_)
    · refine ⟨_, rfl, ?_⟩
      refine b_if_eq (tgt := 25) rfl rfl (fun z => absurd z (by decide)) (fun _ => ?_)
      refine b_iload_n rfl rfl ?_
      refine b_iload_n rfl rfl ?_
      refine b_icmp_eq (tgt := 25) rfl rfl (fun c18 => ?_) (fun c18 => ?_)
      · refine b_iconst rfl (by decide) ?_
        refine b_iret rfl rfl ?_
        first
        | exact k0 (fun w => hk2 w.2.1)
        | exact k0 (fun w => hk1 w.1)
        | exact k0 (fun w => w.2.2.1 (by omega))
        | exact k0 (fun w => by have := w.2.2.2; omega)
      · refine b_iload_n rfl rfl ?_
        refine b_if_ge (tgt := 27) rfl rfl (fun c22 => ?_) (fun c22 => ?_)
        · refine b_iconst rfl (by decide) ?_
          refine b_istoreX (F := fun z28 => [some (aR 57), some (aI a), some (aI c), some (aI k), some (aI z28), none, none]) rfl (by decide) (fun _ => rfl) (fun z28 ez28 => ?_)
          refine b_iconst rfl (by decide) ?_
          refine b_istoreX (F := fun z31 => [some (aR 57), some (aI a), some (aI c), some (aI k), some (aI z28), some (aI z31), none]) rfl (by decide) (fun _ => rfl) (fun z31 ez31 => ?_)
          obtain ⟨s, rfl, hs⟩ := kO_nat (i := 1) hk1
          obtain ⟨t, rfl, ht⟩ := kO_nat (i := 1) hk2
          refine lp s t hs ht (lm J + 1) 0 K _ _ _ rr (by omega) (by omega) (by omega) (by omega) (fun K' hK' => qI (k1 s t rfl rfl hs ht c18 (by omega) K' hK') (by rw [ez28]) rfl)
        · refine b_iconst rfl (by decide) ?_
          refine b_iret rfl rfl ?_
          first
          | exact k0 (fun w => hk2 w.2.1)
          | exact k0 (fun w => hk1 w.1)
          | exact k0 (fun w => w.2.2.1 (by omega))
          | exact k0 (fun w => by have := w.2.2.2; omega)
    · refine ⟨_, rfl, ?_⟩
      refine b_if_eq (tgt := 25) rfl rfl (fun _ => ?_) (fun z => absurd z (by decide))
      refine b_iconst rfl (by decide) ?_
      refine b_iret rfl rfl ?_
      first
      | exact k0 (fun w => hk2 w.2.1)
      | exact k0 (fun w => hk1 w.1)
      | exact k0 (fun w => w.2.2.1 (by omega))
      | exact k0 (fun w => by have := w.2.2.2; omega)
  · refine ⟨_, rfl, ?_⟩
    refine b_if_eq (tgt := 25) rfl rfl (fun _ => ?_) (fun z => absurd z (by decide))
    refine b_iconst rfl (by decide) ?_
    refine b_iret rfl rfl ?_
    first
    | exact k0 (fun w => hk2 w.2.1)
    | exact k0 (fun w => hk1 w.1)
    | exact k0 (fun w => w.2.2.1 (by omega))
    | exact k0 (fun w => by have := w.2.2.2; omega)
def lieN (J : HI) : Int := sumN 6 (fun k => if J 31 k = -1 then 0 else 1)
theorem lieN_eq {J : HI} (h6 : nS J ≤ 6) (hn : (nS J : Int) = J 4 1) (hl : ∀ s : Nat, s < 6 → ¬ (s : Int) < J 4 1 → J 31 s = -1) : lieN J = sumN (nS J) (fun k => if J 31 k = -1 then 0 else 1) := by
  have := sumN_ext (g := fun k => if J 31 k = -1 then (0 : Int) else 1) (n := nS J) (6 - nS J) (fun k a b => if_pos (hl k (by omega) (by omega)))
  rw [show nS J + (6 - nS J) = 6 by omega] at this
  exact this
theorem sumN_6 {g : Nat → Int} : ∀ m, sumN (6 * m) g = sumN m (fun j => sumN 6 (fun w => g (6 * j + w))) := by
  intro m
  induction m with
  | zero => rfl
  | succ m ih =>
    show sumN (6 * m + 6) g = sumN m (fun s => sumN 6 (fun h => g (6 * s + h))) + sumN 6 (fun h => g (6 * m + h))
    rw [← ih]
    simp only [sumN, Nat.add_assoc, Nat.add_zero]
    omega
theorem sumN_add {f g : Nat → Int} : ∀ n, sumN n (fun k => f k + g k) = sumN n f + sumN n g := by
  intro n
  induction n with
  | zero => rfl
  | succ n ih =>
    show sumN n (fun k => f k + g k) + (f n + g n) = (sumN n f + f n) + (sumN n g + g n)
    rw [ih]; omega
theorem sumN_swap {f : Nat → Nat → Int} : ∀ n m, sumN n (fun i => sumN m (fun j => f i j)) = sumN m (fun j => sumN n (fun i => f i j)) := by
  intro n
  induction n with
  | zero => intro m; exact (sumN_zero (fun _ _ => rfl)).symm
  | succ n ih =>
    intro m
    show sumN n (fun i => sumN m (fun j => f i j)) + sumN m (fun j => f n j) = sumN m (fun j => sumN n (fun i => f i j) + f n j)
    rw [ih m, sumN_add]
theorem all_eq {J : HI} (hz : ZF J (J 32)) (h6 : nW J ≤ 6) (hn : (nW J : Int) = J 4 0) : sumN 144 (J 32) = sumN (nW J) (fun w => crO J w) := by
  have h1 : sumN 144 (J 32) = sumN 24 (fun j => sumN 6 (fun w => J 32 (6 * j + w))) := sumN_6 (g := J 32) 24
  rw [h1, sumN_swap]
  have h2 : ∀ w, sumN 24 (fun j => J 32 (6 * j + w)) = crO J w := fun w => sumN_congr (fun j _ => by rw [show 6 * j + w = w + 6 * j by omega])
  have h3 := sumN_ext (g := fun w => crO J w) (n := nW J) (6 - nW J) (fun w a b => sumN_zero (fun j hj => by
    have := hz (j / 4) (j % 4) w (by omega) (by omega) (by omega) (fun z => by omega)
    rw [show 24 * (j / 4) + 6 * (j % 4) + w = w + 6 * j by omega] at this
    exact this))
  rw [show nW J + (6 - nW J) = 6 by omega] at h3
  rw [← h3]
  exact sumN_congr (fun w _ => h2 w)
theorem spq_has {J K : HI} {Q : Option AV → HI → Prop} {C : Nat → List Int} {b : Nat} {w : Int} (hM : MN J K C b) (hu : K 57 53 = J 38 2) (hsd : K 57 54 = J 0 15) (hsr : 0 ≤ J 0 15 ∧ J 0 15 < 2147483648) (kq : ∀ K', ScM K K' → Q (some (aI (hasV J C w))) K') : Rj MX12_has 4 [aR 57, aI w] K Q := by
  have rr := ScM.rf hM.2.1
  have ra := AsM.rf hM.2.1
  have r := hM.2.2.1.2.2.1
  have hR := hM.1
  have hb := hR.1
  have hb2 := hR.2.1
  have hp := hR.2.2.2.2.2.2.2.2.2
  have q59 := hR.2.2.1
  have q62 := hR.2.2.2.1
  have q67 := hR.2.2.2.2.1
  have q85 := hM.2.2.2.1.1
  have q88 := hM.2.2.2.1.2.2.2.1
  obtain ⟨n6, n1⟩ := nS_in hp
  obtain ⟨w6, w1⟩ := nW_in hp
  have e6 := lieN_eq n6 n1 hM.2.2.2.2.2
  have e7 := all_eq hM.2.2.2.2.1 w6 w1
  have six : hasV J C 6 = lieN J := rfl
  have sev : hasV J C 7 = sumN 144 (J 32) := rfl
  have lp6 : ∀ (n i : Nat) (y z : Int), z = (i : Int) → i + n = nS J → y = sumN i (fun k => if J 31 k = -1 then 0 else 1) → (0 ≤ y ∧ y ≤ i) → Bj MX12_has 4 123 [some (aR 57), some (aI 6), some (aI y), some (aI z)] [] K Q ∨ ¬ w = 6 := by
    intro n
    by_cases hw6 : w = 6
    · subst hw6
      induction n with
      | zero =>
        intro i y z hz hi hy hyb
        left
        have ei : i = nS J := by omega
        subst ei
        refine b_iload_n rfl rfl ?_
        refine b_aload_n rfl rfl ?_
        refine b_getR (r := 62) rfl fl12_63 rfl (by decide) rfl rfl ?_
        refine b_aload_n rfl rfl ?_
        refine b_getI rfl fl12_51 rfl (by decide) rfl ?_
        rw [hb]
        refine b_iald rfl rfl (by omega) (by omega) ?_
        try simp only [tn6, tn4, tn2, tn144, tn24, tn_cast, Int.reduceToNat]
        rw [q62]
        refine b_icmp_ge (tgt := 160) rfl rfl (fun c133 => ?_) (fun c133 => ?_)
        · refine b_iload_n rfl rfl ?_
          refine b_iret rfl rfl ?_
          exact qI (kq _ rr) (by rw [six, e6, hy]) rfl
        · omega
      | succ n ih =>
        intro i y z hz hi hy hyb
        left
        subst hz
        have nx : sumN (i + 1) (fun k => if J 31 k = -1 then (0 : Int) else 1) = sumN i (fun k => if J 31 k = -1 then 0 else 1) + (if J 31 i = -1 then 0 else 1) := rfl
        refine b_iload_n rfl rfl ?_
        refine b_aload_n rfl rfl ?_
        refine b_getR (r := 62) rfl fl12_63 rfl (by decide) rfl rfl ?_
        refine b_aload_n rfl rfl ?_
        refine b_getI rfl fl12_51 rfl (by decide) rfl ?_
        rw [hb]
        refine b_iald rfl rfl (by omega) (by omega) ?_
        try simp only [tn6, tn4, tn2, tn144, tn24, tn_cast, Int.reduceToNat]
        rw [q62]
        refine b_icmp_ge (tgt := 160) rfl rfl (fun c133 => ?_) (fun c133 => ?_)
        · omega
        · refine b_iload_n rfl rfl ?_
          refine b_aload_n rfl rfl ?_
          refine b_iconst rfl (by decide) ?_
          refine b_iload_n rfl rfl ?_
          refine b_callV2i (ν := MX12_liesIn) rfl ml12_482 cvX12_liesIn (d' := 0) (by omega) rfl (by decide) rfl (Nat.le_of_ble_eq_true rfl) ?_
          refine spq_liesIn hM (by omega) ?_
          refine ⟨_, rfl, ?_⟩
          refine b_iconst rfl (by decide) ?_
          refine b_icmp_ne (tgt := 151) rfl rfl (fun c144 => ?_) (fun c144 => ?_)
          · refine b_iconst rfl (by decide) ?_
            refine b_iaddN rfl (by omega) (by omega) ?_
            refine b_istoreX_n (F := fun z153 => [some (aR 57), some (aI (6 : Int)), some (aI z153), some (aI (i : Int))]) rfl (by decide) (fun _ => rfl) (fun z153 ez153 => ?_)
            refine b_iincX (F := fun z154 => [some (aR 57), some (aI (6 : Int)), some (aI z153), some (aI z154)]) rfl rfl (by omega) (by omega) (fun _ => rfl) (fun z154 ez154 => ?_)
            refine b_goto (tgt := 123) rfl rfl ?_
            first
            | exact (ih (i + 1) _ _ (by omega) (by omega) (by rw [nx, if_neg c144]; omega) (by omega)).resolve_right (fun w => w rfl)
            | exact (ih (i + 1) _ _ (by omega) (by omega) (by rw [nx, if_pos c144]; omega) (by omega)).resolve_right (fun w => w rfl)
          · refine b_iconst rfl (by decide) ?_
            refine b_goto (tgt := 152) rfl rfl ?_
            refine b_iaddN rfl (by omega) (by omega) ?_
            refine b_istoreX_n (F := fun z153 => [some (aR 57), some (aI (6 : Int)), some (aI z153), some (aI (i : Int))]) rfl (by decide) (fun _ => rfl) (fun z153 ez153 => ?_)
            refine b_iincX (F := fun z154 => [some (aR 57), some (aI (6 : Int)), some (aI z153), some (aI z154)]) rfl rfl (by omega) (by omega) (fun _ => rfl) (fun z154 ez154 => ?_)
            refine b_goto (tgt := 123) rfl rfl ?_
            first
            | exact (ih (i + 1) _ _ (by omega) (by omega) (by rw [nx, if_neg c144]; omega) (by omega)).resolve_right (fun w => w rfl)
            | exact (ih (i + 1) _ _ (by omega) (by omega) (by rw [nx, if_pos c144]; omega) (by omega)).resolve_right (fun w => w rfl)
    · intro i y z _ _ _ _
      exact Or.inr hw6
  have lp7 : ∀ (n i : Nat) (y z : Int), z = (i : Int) → i + n = nW J → y = sumN i (fun v => crO J v) → (0 ≤ y ∧ y ≤ 1000 * i) → Bj MX12_has 4 164 [some (aR 57), some (aI 7), some (aI y), some (aI z)] [] K Q ∨ ¬ w = 7 := by
    intro n
    by_cases hw6 : w = 7
    · subst hw6
      induction n with
      | zero =>
        intro i y z hz hi hy hyb
        left
        have ei : i = nW J := by omega
        subst ei
        refine b_iload_n rfl rfl ?_
        refine b_aload_n rfl rfl ?_
        refine b_getR (r := 59) rfl fl12_54 rfl (by decide) rfl rfl ?_
        refine b_aload_n rfl rfl ?_
        refine b_getI rfl fl12_51 rfl (by decide) rfl ?_
        rw [hb]
        refine b_iald rfl rfl (by omega) (by omega) ?_
        try simp only [tn6, tn4, tn2, tn144, tn24, tn_cast, Int.reduceToNat]
        rw [q59]
        refine b_icmp_ge (tgt := 191) rfl rfl (fun c174 => ?_) (fun c174 => ?_)
        · refine b_iload_n rfl rfl ?_
          refine b_iret rfl rfl ?_
          exact qI (kq _ rr) (by rw [sev, e7, hy]) rfl
        · omega
      | succ n ih =>
        intro i y z hz hi hy hyb
        left
        subst hz
        have nx : sumN (i + 1) (fun v => crO J v) = sumN i (fun v => crO J v) + crO J i := rfl
        have hcb := sumN_le (n := 24) (f := fun j => J 32 (i + 6 * j)) (a := 0) (b := 20) (fun k _ => hM.2.2.1.2.2.2.1 _)
        have hcb2 : 0 ≤ crO J i ∧ crO J i ≤ 1000 := by unfold crO; omega
        refine b_iload_n rfl rfl ?_
        refine b_aload_n rfl rfl ?_
        refine b_getR (r := 59) rfl fl12_54 rfl (by decide) rfl rfl ?_
        refine b_aload_n rfl rfl ?_
        refine b_getI rfl fl12_51 rfl (by decide) rfl ?_
        rw [hb]
        refine b_iald rfl rfl (by omega) (by omega) ?_
        try simp only [tn6, tn4, tn2, tn144, tn24, tn_cast, Int.reduceToNat]
        rw [q59]
        refine b_icmp_ge (tgt := 191) rfl rfl (fun c174 => ?_) (fun c174 => ?_)
        · omega
        · refine b_iload_n rfl rfl ?_
          refine b_aload_n rfl rfl ?_
          refine b_iload_n rfl rfl ?_
          refine b_callV1i (ν := MX12_cratesOf) rfl ml12_485 cvX12_cratesOf (d' := 1) (by omega) rfl (by decide) rfl (Nat.le_of_ble_eq_true rfl) ?_
          refine spq_cratesOf hM (by omega) ?_
          refine ⟨_, rfl, ?_⟩
          refine b_iaddN rfl (by omega) (by omega) ?_
          refine b_istoreX_n (F := fun z184 => [some (aR 57), some (aI (7 : Int)), some (aI z184), some (aI (i : Int))]) rfl (by decide) (fun _ => rfl) (fun z184 ez184 => ?_)
          refine b_iincX (F := fun z185 => [some (aR 57), some (aI (7 : Int)), some (aI z184), some (aI z185)]) rfl rfl (by omega) (by omega) (fun _ => rfl) (fun z185 ez185 => ?_)
          refine b_goto (tgt := 164) rfl rfl ?_
          exact (ih (i + 1) _ _ (by omega) (by omega) (by rw [nx]; omega) (by omega)).resolve_right (fun w => w rfl)
    · intro i y z _ _ _ _
      exact Or.inr hw6
  refine rj_of okX12_has (Nat.le_of_ble_eq_true rfl) rfl ?_
  refine b_iconst rfl (by decide) ?_
  refine b_istoreX_n (F := fun z1 => [some (aR 57), some (aI w), some (aI z1), none]) rfl (by decide) (fun _ => rfl) (fun z1 ez1 => ?_)
  refine b_iload_n rfl rfl ?_
  by_cases s3_0 : w = 0
  · refine b_tswIn (tgt := 60) rfl (by omega) (by omega) (by rw [s3_0]; rfl) rfl ?_
    refine b_aload_n rfl rfl ?_
    refine b_getR (r := 59) rfl fl12_54 rfl (by decide) rfl rfl ?_
    refine b_aload_n rfl rfl ?_
    refine b_getI rfl fl12_51 rfl (by decide) rfl ?_
    rw [hb]
    refine b_iald rfl rfl (by omega) (by omega) ?_
    try simp only [tn6, tn4, tn2, tn144, tn24, tn_cast, Int.reduceToNat]
    rw [q59]
    refine b_iret rfl rfl ?_
    subst s3_0; exact kq _ rr
  by_cases s3_1 : w = 1
  · refine b_tswIn (tgt := 70) rfl (by omega) (by omega) (by rw [s3_1]; rfl) rfl ?_
    refine b_aload_n rfl rfl ?_
    refine b_getR (r := 62) rfl fl12_63 rfl (by decide) rfl rfl ?_
    refine b_aload_n rfl rfl ?_
    refine b_getI rfl fl12_51 rfl (by decide) rfl ?_
    rw [hb]
    refine b_iald rfl rfl (by omega) (by omega) ?_
    try simp only [tn6, tn4, tn2, tn144, tn24, tn_cast, Int.reduceToNat]
    rw [q62]
    refine b_iret rfl rfl ?_
    subst s3_1; exact kq _ rr
  by_cases s3_2 : w = 2
  · refine b_tswIn (tgt := 80) rfl (by omega) (by omega) (by rw [s3_2]; rfl) rfl ?_
    refine b_aload_n rfl rfl ?_
    refine b_getR (r := 67) rfl fl12_78 rfl (by decide) rfl rfl ?_
    refine b_aload_n rfl rfl ?_
    refine b_getI rfl fl12_51 rfl (by decide) rfl ?_
    rw [hb]
    refine b_iald rfl rfl (by omega) (by omega) ?_
    try simp only [tn6, tn4, tn2, tn144, tn24, tn_cast, Int.reduceToNat]
    rw [q67]
    refine b_iret rfl rfl ?_
    subst s3_2; exact kq _ rr
  by_cases s3_3 : w = 3
  · refine b_tswIn (tgt := 90) rfl (by omega) (by omega) (by rw [s3_3]; rfl) rfl ?_
    refine b_aload_n rfl rfl ?_
    refine b_getR (r := 85) rfl fl12_156 rfl (by decide) rfl rfl ?_
    refine b_iconst rfl (by decide) ?_
    refine b_ialdL (k := 0) rfl rfl rfl (by decide) ?_
    try simp only [tn6, tn4, tn2, tn144, tn24, tn_cast, Int.reduceToNat]
    rw [q85]
    refine b_iret rfl rfl ?_
    subst s3_3; exact kq _ rr
  by_cases s3_4 : w = 4
  · refine b_tswIn (tgt := 97) rfl (by omega) (by omega) (by rw [s3_4]; rfl) rfl ?_
    refine b_aload_n rfl rfl ?_
    refine b_iconst rfl (by decide) ?_
    refine b_aload_n rfl rfl ?_
    refine b_getR (r := 85) rfl fl12_156 rfl (by decide) rfl rfl ?_
    refine b_iconst rfl (by decide) ?_
    refine b_ialdL (k := 0) rfl rfl rfl (by decide) ?_
    try simp only [tn6, tn4, tn2, tn144, tn24, tn_cast, Int.reduceToNat]
    rw [q85]
    refine b_callV2i (ν := MX12_tideIn) rfl ml12_468 cvX12_tideIn (d' := 3) (by omega) rfl (by decide) rfl (Nat.le_of_ble_eq_true rfl) ?_
    refine spm_tideIn (f := 0) hR ra (by decide) (by omega) (fun K1 hK1 => ?_)
    rw [show tdV C 0 (J 30 5) = wat C (J 30 5) from rfl]
    refine ⟨_, rfl, ?_⟩
    refine b_iret rfl rfl ?_
    subst s3_4; exact kq _ (rr.as hK1)
  by_cases s3_5 : w = 5
  · refine b_tswIn (tgt := 109) rfl (by omega) (by omega) (by rw [s3_5]; rfl) rfl ?_
    refine b_aload_n rfl rfl ?_
    refine b_iconst rfl (by decide) ?_
    refine b_aload_n rfl rfl ?_
    refine b_getR (r := 85) rfl fl12_156 rfl (by decide) rfl rfl ?_
    refine b_iconst rfl (by decide) ?_
    refine b_ialdL (k := 0) rfl rfl rfl (by decide) ?_
    try simp only [tn6, tn4, tn2, tn144, tn24, tn_cast, Int.reduceToNat]
    rw [q85]
    refine b_callV2i (ν := MX12_tideIn) rfl ml12_468 cvX12_tideIn (d' := 3) (by omega) rfl (by decide) rfl (Nat.le_of_ble_eq_true rfl) ?_
    refine spm_tideIn (f := 1) hR ra (by decide) (by omega) (fun K1 hK1 => ?_)
    rw [show tdV C 1 (J 30 5) = mon C (J 30 5) from rfl]
    refine ⟨_, rfl, ?_⟩
    refine b_iret rfl rfl ?_
    subst s3_5; exact kq _ (rr.as hK1)
  by_cases s3_6 : w = 6
  · refine b_tswIn (tgt := 121) rfl (by omega) (by omega) (by rw [s3_6]; rfl) rfl ?_
    refine b_iconst rfl (by decide) ?_
    refine b_istoreX_n (F := fun z122 => [some (aR 57), some (aI w), some (aI z1), some (aI z122)]) rfl (by decide) (fun _ => rfl) (fun z122 ez122 => ?_)
    subst s3_6
    exact (lp6 (nS J) 0 _ _ (by omega) (by omega) (by rw [ez1]; rfl) (by omega)).resolve_right (fun w => w rfl)
  by_cases s3_7 : w = 7
  · refine b_tswIn (tgt := 162) rfl (by omega) (by omega) (by rw [s3_7]; rfl) rfl ?_
    refine b_iconst rfl (by decide) ?_
    refine b_istoreX_n (F := fun z163 => [some (aR 57), some (aI w), some (aI z1), some (aI z163)]) rfl (by decide) (fun _ => rfl) (fun z163 ez163 => ?_)
    subst s3_7
    exact (lp7 (nW J) 0 _ _ (by omega) (by omega) (by rw [ez1]; rfl) (by omega)).resolve_right (fun w => w rfl)
  by_cases s3_8 : w = 8
  · refine b_tswIn (tgt := 193) rfl (by omega) (by omega) (by rw [s3_8]; rfl) rfl ?_
    refine b_aload_n rfl rfl ?_
    refine b_getR (r := 88) rfl fl12_165 rfl (by decide) rfl rfl ?_
    refine b_iconst rfl (by decide) ?_
    refine b_ialdL (k := 0) rfl rfl rfl (by decide) ?_
    try simp only [tn6, tn4, tn2, tn144, tn24, tn_cast, Int.reduceToNat]
    rw [q88]
    refine b_iret rfl rfl ?_
    subst s3_8; exact kq _ rr
  by_cases s3_9 : w = 9
  · refine b_tswIn (tgt := 200) rfl (by omega) (by omega) (by rw [s3_9]; rfl) rfl ?_
    refine b_aload_n rfl rfl ?_
    refine b_getI rfl fl12_174 rfl (by decide) rfl ?_
    rw [hu]
    refine b_iret rfl rfl ?_
    subst s3_9; exact kq _ rr
  by_cases s3_10 : w = 10
  · refine b_tswIn (tgt := 205) rfl (by omega) (by omega) (by rw [s3_10]; rfl) rfl ?_
    refine b_aload_n rfl rfl ?_
    refine b_getJ rfl fl12_177 rfl (by decide) rfl ?_
    rw [hsd]
    refine b_l2i rfl ?_
    rw [w32_id (by omega) (by omega)]
    refine b_iret rfl rfl ?_
    subst s3_10; exact kq _ rr
  refine b_tswOut (tgt := 211) rfl (by omega) rfl ?_
  refine b_iconst rfl (by decide) ?_
  refine b_iret rfl rfl ?_
  exact qI (kq _ rr) (by unfold hasV; rw [if_neg s3_0, if_neg s3_1, if_neg s3_2, if_neg s3_3, if_neg s3_4, if_neg s3_5, if_neg s3_6, if_neg s3_7, if_neg s3_8, if_neg s3_9, if_neg s3_10]) rfl
