/-! ===== WrongTide: stow ===== -/
theorem sp_X11_stow {I : HI} {Q : Option AV → HI → Prop} {C : Nat → List Int} {a : Int} (hW : WF I C) (hT : 0 ≤ I 1 1 ∧ I 1 1 ≤ 1600) (hc2 : ∀ k, 0 ≤ I 45 k ∧ I 45 k ≤ 20) (k1 : ∀ s n : Nat, a = (s : Int) → (n : Int) = I 1 1 → (s : Int) < I 4 1 → awP I → Q (some (aI (paS I (fun k => (tAt I (k : Int)).toNat) (fun w => I 6 w - I 7 w) s n (tT (hSW I (trO I) (stO I)) 45 s)).1)) (up (paH I (paS I (fun k => (tAt I (k : Int)).toNat) (fun w => I 6 w - I 7 w) s n (tT (hSW I (trO I) (stO I)) 45 s))) 1 1 0)) (k0 : ¬ (kO I 4 1 a ∧ awP I) → Q (some (aI (-1))) (up (rfs I 5) 1 1 0)) : Rj MX11_stow 11 [aR 0, aI a] I Q := by
  refine rj_of okX11_stow (Nat.le_of_ble_eq_true rfl) rfl ?_
  have bad : ∀ z : Int, z = 0 → ¬ (kO I 4 1 a ∧ awP I) → Bj MX11_stow 11 28 [some (aR 0), some (aI a), some (aI z), none] [] I Q := by
    intro z hz hn
    refine b_iload_n rfl rfl ?_
    refine b_if_eq (tgt := 50) rfl rfl (fun c29 => ?_) (fun c29 => ?_)
    · refine b_aload_n rfl rfl ?_
      refine b_iconst rfl (by decide) ?_
      refine b_callV1i (ν := MX11_refuse) rfl ml11_100 cvX11_refuse (d' := 0) (by omega) rfl (by decide) rfl (Nat.le_of_ble_eq_true rfl) ?_
      refine sp_X11_refuse (k := 5) (by decide) ?_
      refine ⟨_, rfl, ?_⟩
      refine b_istoreX_n (F := fun z55 => [some (aR 0), some (aI a), some (aI z), some (aI z55)]) rfl (by decide) (fun _ => rfl) (fun z55 ez55 => ?_)
      refine b_aload_n rfl rfl ?_
      refine b_getR (r := 1) rfl fl11_10 rfl (by decide) rfl rfl ?_
      refine b_iconst rfl (by decide) ?_
      refine b_putI rfl fl11_97 rfl (by decide) rfl ?_
      refine b_iload_n rfl rfl ?_
      refine b_iret rfl rfl ?_
      refine qI (k0 hn) ?_ rfl
      omega
    · omega
  have good : ∀ (s n : Nat) (z : Int), z = 1 → a = (s : Int) → (n : Int) = I 1 1 → (s : Int) < I 4 1 → awP I → Bj MX11_stow 11 28 [some (aR 0), some (aI (s : Int)), some (aI z), none] [] I Q := by
    intro s n z hz ha hn hs hA
    have h1 := hA.1
    have h2 := hA.2.1
    have kk := k1 s n ha hn hs hA
    refine b_iload_n rfl rfl ?_
    refine b_if_eq (tgt := 50) rfl rfl (fun c29 => ?_) (fun c29 => ?_)
    · omega
    · refine b_aload_n rfl rfl ?_
      refine b_getR (r := 44) rfl fl11_72 rfl (by decide) rfl rfl ?_
      refine b_aload_n rfl rfl ?_
      refine b_getR (r := 30) rfl fl11_44 rfl (by decide) rfl rfl ?_
      refine b_getR (r := 32) rfl fl11_198 rfl (by decide) rfl rfl ?_
      refine b_iload_n rfl rfl ?_
      refine b_callV2i (ν := MX6_putAway) rfl ml11_254 cvX6_putAway (d' := 10) (by omega) rfl (by decide) rfl (Nat.le_of_ble_eq_true rfl) ?_
      refine sp_X6_putAway (W := fun k => (tAt I (k : Int)).toNat) (nt := fun w => I 6 w - I 7 w) hW.1.1 hs hn (by omega) hW.2.2.2.1 hc2 (fun k hk => by
      have h3 := hA.2.2 k hk
      have h4 : 0 ≤ tAt I (k : Int) := h3.2.2.1
      have h5 : tAt I (k : Int) < I 4 0 := h3.2.2.2
      exact ⟨by omega, by omega⟩) (fun w _ => rfl) ?_
      refine ⟨_, rfl, ?_⟩
      refine b_goto (tgt := 55) rfl rfl ?_
      refine b_istoreX_n (F := fun z55 => [some (aR 0), some (aI (s : Int)), some (aI z), some (aI z55)]) rfl (by decide) (fun _ => rfl) (fun z55 ez55 => ?_)
      refine b_aload_n rfl rfl ?_
      refine b_getR (r := 1) rfl fl11_10 rfl (by decide) rfl rfl ?_
      refine b_iconst rfl (by decide) ?_
      refine b_putI rfl fl11_97 rfl (by decide) rfl ?_
      refine b_iload_n rfl rfl ?_
      refine b_iret rfl rfl ?_
      exact qI kk (by omega) rfl
  refine b_aload_n rfl rfl ?_
  refine b_getR (r := 3) rfl fl11_19 rfl (by decide) rfl rfl ?_
  refine b_iconst rfl (by decide) ?_
  refine b_iload_n rfl rfl ?_
  refine b_callV2i (ν := MX3_knows) rfl ml11_175 cvX3_knows (d' := 0) (by omega) rfl (by decide) rfl (Nat.le_of_ble_eq_true rfl) ?_
  refine spf_knows (fun hk => ?_) (fun hk => ?_)
  · refine ⟨_, rfl, ?_⟩
    refine b_if_eq (tgt := 26) rfl rfl (fun z => absurd z (by decide)) (fun _ => ?_)
    refine b_aload_n rfl rfl ?_
    refine b_getR (r := 44) rfl fl11_72 rfl (by decide) rfl rfl ?_
    refine b_callV0i (ν := MX6_areWares) rfl ml11_251 cvX6_areWares (d' := 1) (by omega) rfl (by decide) rfl (Nat.le_of_ble_eq_true rfl) ?_
    refine spf_areWares hT (fun hA => ?_) (fun hA => ?_)
    · refine ⟨_, rfl, ?_⟩
      refine b_if_eq (tgt := 26) rfl rfl (fun z => absurd z (by decide)) (fun _ => ?_)
      refine b_iconst rfl (by decide) ?_
      refine b_goto (tgt := 27) rfl rfl ?_
      refine b_istoreX_n (F := fun z27 => [some (aR 0), some (aI a), some (aI z27), none]) rfl (by decide) (fun _ => rfl) (fun z27 ez27 => ?_)
      first
      | exact bad _ (by omega) (fun w => absurd w.1 (by assumption))
      | exact bad _ (by omega) (fun w => absurd w.2 (by assumption))
      | (have h2 := (show kO I 4 1 a by assumption).2.2
         obtain ⟨s, hsa⟩ : ∃ s : Nat, a = (s : Int) := ⟨a.toNat, by omega⟩
         subst hsa
         exact good s (I 1 1).toNat _ (by omega) rfl (by omega) h2.2 (by assumption))
    · refine ⟨_, rfl, ?_⟩
      refine b_if_eq (tgt := 26) rfl rfl (fun _ => ?_) (fun z => absurd z (by decide))
      refine b_iconst rfl (by decide) ?_
      refine b_istoreX_n (F := fun z27 => [some (aR 0), some (aI a), some (aI z27), none]) rfl (by decide) (fun _ => rfl) (fun z27 ez27 => ?_)
      first
      | exact bad _ (by omega) (fun w => absurd w.1 (by assumption))
      | exact bad _ (by omega) (fun w => absurd w.2 (by assumption))
      | (have h2 := (show kO I 4 1 a by assumption).2.2
         obtain ⟨s, hsa⟩ : ∃ s : Nat, a = (s : Int) := ⟨a.toNat, by omega⟩
         subst hsa
         exact good s (I 1 1).toNat _ (by omega) rfl (by omega) h2.2 (by assumption))
  · refine ⟨_, rfl, ?_⟩
    refine b_if_eq (tgt := 26) rfl rfl (fun _ => ?_) (fun z => absurd z (by decide))
    refine b_iconst rfl (by decide) ?_
    refine b_istoreX_n (F := fun z27 => [some (aR 0), some (aI a), some (aI z27), none]) rfl (by decide) (fun _ => rfl) (fun z27 ez27 => ?_)
    first
    | exact bad _ (by omega) (fun w => absurd w.1 (by assumption))
    | exact bad _ (by omega) (fun w => absurd w.2 (by assumption))
    | (have h2 := (show kO I 4 1 a by assumption).2.2
       obtain ⟨s, hsa⟩ : ∃ s : Nat, a = (s : Int) := ⟨a.toNat, by omega⟩
       subst hsa
       exact good s (I 1 1).toNat _ (by omega) rfl (by omega) h2.2 (by assumption))
