/-! ===== the reference: rode ===== -/
theorem spm_isAsRode {J K0 I : HI} {Q : Option AV → HI → Prop} {C : Nat → List Int} {b w c : Nat} (hR : RP J K0 C b) (hT : RTp J K0) (hH : ahP J) (hw : (w : Int) < J 4 0) (hc : c ≤ 20) (hA : AsM (mS K0 (c * J 6 w) (c * J 7 w) (c * J 6 w - c * J 7 w) c) I) (k1 : rdP J C w c → ∀ K, AsM (mS K0 (c * J 6 w) (c * J 7 w) (c * J 6 w - c * J 7 w) c) K → Q (some (aI 1)) K) (k0 : ¬ rdP J C w c → ∀ K, AsM (mS K0 (c * J 6 w) (c * J 7 w) (c * J 6 w - c * J 7 w) c) K → Q (some (aI 0)) K) : Rj MX12_isAsRode 5 [aR 57, aI (J 1 1)] I Q := by
  have hp := hR.2.2.2.2.2.2.2.2.2
  have hw6 : w < 6 := by have := hp.1 0 (by decide); omega
  have hr := hp.2.1 w hw6
  have m1 := mulB (a := (c : Int)) (b := J 6 w) (A := 20) (B := 99) (by omega) (by omega)
  have m2 := mulB (a := (c : Int)) (b := J 7 w) (A := 20) (B := 99) (by omega) (by omega)
  have m3 : 0 ≤ (c : Int) * J 7 w := Int.mul_nonneg (by omega) (by omega)
  have h1 := hH.1
  have h2 := hH.2.1
  have h3 := hH.2.2.1
  have hTK : ∀ K, AsM (mS K0 (c * J 6 w) (c * J 7 w) (c * J 6 w - c * J 7 w) c) K → RTp J K := fun K hK => ⟨hT.1, hT.2.1, fun k hk => by rw [hK.1 58 (by decide) (by decide), mS_cell (by decide)]; exact hT.2.2 k hk⟩
  have hb9 : bd9 (c * J 6 w) (c * J 7 w) (c * J 6 w - c * J 7 w) c := by unfold bd9; omega
  have lp : ∀ (n i : Nat) (z : Int) (K : HI), AsM (mS K0 (c * J 6 w) (c * J 7 w) (c * J 6 w - c * J 7 w) c) K → (∀ k : Nat, k < i → hei C (pr J (4 * (k : Int))) (c * J 6 w) (c * J 7 w) (c * J 6 w - c * J 7 w) = pr J (4 * (k : Int) + 2)) → z = 4 * (i : Int) → 4 * ((i : Int) + n) = J 1 1 → Bj MX12_isAsRode 5 2 [some (aR 57), some (aI (J 1 1)), some (aI z)] [] K Q := by
    intro n
    induction n with
    | zero =>
      intro i z K hK hh hz hi
      refine b_iload_n rfl rfl ?_
      refine b_iload_n rfl rfl ?_
      refine b_icmp_ge (tgt := 34) rfl rfl (fun c4 => ?_) (fun c4 => ?_)
      · refine b_iconst rfl (by decide) ?_
        refine b_zret rfl rfl (by first | decide | omega) ?_
        exact k1 (fun k hk => hh k (by omega)) K hK
      · omega
    | succ n ih =>
      intro i z K hK hh hz hi
      have ez : z = ((4 * i : Nat) : Int) := by omega
      subst ez
      have e4 : ((4 * i : Nat) : Int) = 4 * (i : Int) := by omega
      have e42 : ((4 * i : Nat) : Int) + 2 = ((4 * i + 2 : Nat) : Int) := by omega
      have e43 : ((4 * i + 2 : Nat) : Int) = 4 * (i : Int) + 2 := by omega
      have hpr := pr_in (I := J) (k := 4 * (i : Int)) hT.2.1 (by omega) (by omega)
      refine b_iload_n rfl rfl ?_
      refine b_iload_n rfl rfl ?_
      refine b_icmp_ge (tgt := 34) rfl rfl (fun c4 => ?_) (fun c4 => ?_)
      · omega
      · refine b_aload_n rfl rfl ?_
        refine b_aload_n rfl rfl ?_
        refine b_iload_n rfl rfl ?_
        refine b_callV1i (ν := MX12_twoBytes) rfl ml12_548 cvX12_twoBytes (d' := 0) (by omega) rfl (by decide) rfl (Nat.le_of_ble_eq_true rfl) ?_
        refine spm_twoBytes (hTK K hK) (by omega) ?_
        rw [show pr J ((4 * i : Nat) : Int) = pr J (4 * (i : Int)) by rw [e4]]
        refine ⟨_, rfl, ?_⟩
        refine b_callV1i (ν := MX12_ridesIn) rfl ml12_476 cvX12_ridesIn (d' := 4) (by omega) rfl (by decide) rfl (Nat.le_of_ble_eq_true rfl) ?_
        refine spm_ridesIn hR hK hb9 (by omega) (by omega) (fun K2 hK2 => ?_)
        refine ⟨_, rfl, ?_⟩
        refine b_aload_n rfl rfl ?_
        refine b_iload_n rfl rfl ?_
        refine b_iconst rfl (by decide) ?_
        refine b_iaddN rfl (by omega) (by omega) ?_
        rw [e42]
        refine b_callV1i (ν := MX12_twoBytes) rfl ml12_548 cvX12_twoBytes (d' := 0) (by omega) rfl (by decide) rfl (Nat.le_of_ble_eq_true rfl) ?_
        refine spm_twoBytes (hTK K2 hK2) (by omega) ?_
        rw [show pr J ((4 * i + 2 : Nat) : Int) = pr J (4 * (i : Int) + 2) by rw [e43]]
        refine ⟨_, rfl, ?_⟩
        refine b_icmp_eq (tgt := 28) rfl rfl (fun c23 => ?_) (fun c23 => ?_)
        · refine b_iincX (F := fun z28 => [some (aR 57), some (aI (J 1 1)), some (aI z28)]) rfl rfl (by omega) (by omega) (fun _ => rfl) (fun z28 ez28 => ?_)
          refine b_goto (tgt := 2) rfl rfl ?_
          refine ih (i + 1) _ K2 hK2 (fun k hk => ?_) (by omega) (by omega)
          by_cases e : k = i
          · subst e; exact c23
          · exact hh k (by omega)
        · refine b_iconst rfl (by decide) ?_
          refine b_zret rfl rfl (by first | decide | omega) ?_
          exact k0 (fun w => c23 (w i (by omega))) K2 hK2
  refine rj_of okX12_isAsRode (Nat.le_of_ble_eq_true rfl) rfl ?_
  refine b_iconst rfl (by decide) ?_
  refine b_istoreX_n (F := fun z1 => [some (aR 57), some (aI (J 1 1)), some (aI z1)]) rfl (by decide) (fun _ => rfl) (fun z1 ez1 => ?_)
  exact lp (J 1 1 / 4).toNat 0 _ I hA (fun k hk => absurd hk (by omega)) (by omega) (by omega)
theorem spq_rode {J K : HI} {Q : Option AV → HI → Prop} {C : Nat → List Int} {b : Nat} {a : Int} (hM : MN J K C b) (hT : RTp J K) (h1 : K 57 1 = J 1 1) (k1 : kO J 4 1 a ∧ ahP J → ∀ K', ScM (up K 57 1 0) K' → Q (some (aI (rdT J C (nW J)))) K') (k0 : ¬ (kO J 4 1 a ∧ ahP J) → Q (some (aI (-1))) (mrf (up K 57 1 0) 5)) : Rj MX12_rode 6 [aR 57, aI a] K Q := by
  have hp := hM.1.2.2.2.2.2.2.2.2.2
  have hb2 := hM.1.2.1
  obtain ⟨w6, w1⟩ := nW_in hp
  have hM1 : MN J (up K 57 1 0) C b := ⟨hM.1.to (up_n (by omega)) (fun q hq => up_cell (by unfold mcell at hq; omega)), fun k => by rw [up_cell (by decide)]; exact hM.2.1 k, hM.2.2.1, SR_57 hM.2.2.2.1, hM.2.2.2.2⟩
  have hT1 : RTp J (up K 57 1 0) := ⟨hT.1, hT.2.1, fun k hk => by rw [up_cell (by decide)]; exact hT.2.2 k hk⟩
  generalize hI : up K 57 1 0 = I at *
  have t0 := hT.1
  have bad : ∀ (z3 z4 : Int) (x5 x6 : Option AV), z3 = 0 → ¬ (kO J 4 1 a ∧ ahP J) → Bj MX12_rode 6 43 [some (aR 57), some (aI a), some (aI (J 1 1)), some (aI z3), some (aI z4), x5, x6] [] I Q := by
    intro z3 z4 x5 x6 hz hn
    refine b_iload rfl rfl ?_
    refine b_iload_n rfl rfl ?_
    refine b_icmp_ge (tgt := 91) rfl rfl (fun c46 => ?_) (fun c46 => ?_)
    · refine b_iload_n rfl rfl ?_
      refine b_if_ne (tgt := 101) rfl rfl (fun c92 => ?_) (fun c92 => ?_)
      · omega
      · refine b_aload_n rfl rfl ?_
        refine b_iconst rfl (by decide) ?_
        refine b_callV1i (ν := MX12_refuses) rfl ml12_228 cvX12_refuses (d' := 0) (by omega) rfl (by decide) rfl (Nat.le_of_ble_eq_true rfl) ?_
        refine spm_refuses (k := 5) (by decide) ?_
        refine ⟨_, rfl, ?_⟩
        refine b_iret rfl rfl ?_
        exact k0 hn
    · refine b_iload_n rfl rfl ?_
      refine b_if_eq (tgt := 91) rfl rfl (fun c50 => ?_) (fun c50 => ?_)
      · refine b_iload_n rfl rfl ?_
        refine b_if_ne (tgt := 101) rfl rfl (fun c92 => ?_) (fun c92 => ?_)
        · omega
        · refine b_aload_n rfl rfl ?_
          refine b_iconst rfl (by decide) ?_
          refine b_callV1i (ν := MX12_refuses) rfl ml12_228 cvX12_refuses (d' := 0) (by omega) rfl (by decide) rfl (Nat.le_of_ble_eq_true rfl) ?_
          refine spm_refuses (k := 5) (by decide) ?_
          refine ⟨_, rfl, ?_⟩
          refine b_iret rfl rfl ?_
          exact k0 hn
      · omega
  have wares : kO J 4 1 a ∧ ahP J → ∀ (n i : Nat) (z3 y z : Int) (x6 : Option AV) (H : HI), ScM I H → y = rdT J C i → z = (i : Int) → i + n = nW J → Bj MX12_rode 6 107 [some (aR 57), some (aI a), some (aI (J 1 1)), some (aI z3), some (aI y), some (aI z), x6] [] H Q := by
    intro hg n
    induction n with
    | zero =>
      intro i z3 y z x6 H hS hy hz hi
      have hMH := hM1.sc hS
      have hbH := hMH.1.1
      have q59 := hMH.1.2.2.1
      have ei : i = nW J := by omega
      subst ei
      refine b_iload rfl rfl ?_
      refine b_aload_n rfl rfl ?_
      refine b_getR (r := 59) rfl fl12_54 rfl (by decide) rfl rfl ?_
      refine b_aload_n rfl rfl ?_
      refine b_getI rfl fl12_51 rfl (by decide) rfl ?_
      rw [hbH]
      refine b_iald rfl rfl (by omega) (by omega) ?_
      try simp only [tn6, tn4, tn2, tn144, tn24, tn_cast, Int.reduceToNat]
      rw [q59]
      refine b_icmp_ge (tgt := 174) rfl rfl (fun c118 => ?_) (fun c118 => ?_)
      · refine b_iload rfl rfl ?_
        refine b_iret rfl rfl ?_
        exact qI (k1 hg H hS) hy.symm rfl
      · omega
    | succ n ih =>
      intro i z3 y z x6 H hS hy hz hi
      subst hz
      have hT0 := rdT_in (I := J) (C := C) i
      have crates : ∀ (n c : Nat) (y z : Int) (H : HI), ScM I H → y = rdT J C i + rdN J C c i → z = (c : Int) + 1 → c + n = 20 → Bj MX12_rode 6 124 [some (aR 57), some (aI a), some (aI (J 1 1)), some (aI z3), some (aI y), some (aI (i : Int)), some (aI z)] [] H Q := by
        intro n
        induction n with
        | zero =>
          intro c y z H hS hy hz hc
          have ec : c = 20 := by omega
          subst ec
          refine b_iload rfl rfl ?_
          refine b_bipush rfl (by decide) ?_
          refine b_icmp_gt (tgt := 168) rfl rfl (fun c128 => ?_) (fun c128 => ?_)
          · refine b_iincX (F := fun z168 => [some (aR 57), some (aI a), some (aI (J 1 1)), some (aI z3), some (aI y), some (aI z168), some (aI z)]) rfl rfl (by omega) (by omega) (fun _ => rfl) (fun z168 ez168 => ?_)
            refine b_goto (tgt := 107) rfl rfl ?_
            exact ih (i + 1) _ _ _ _ H hS hy (by omega) (by omega)
          · omega
        | succ n ihn =>
          intro c y z H hS hy hz hc
          have ez : z = ((c + 1 : Nat) : Int) := by omega
          subst ez
          have hMH := hM1.sc hS
          have hTH : RTp J H := ⟨hT1.1, hT1.2.1, fun k hk => by rw [hS.1 58 (by decide) (by decide) (by decide)]; exact hT1.2.2 k hk⟩
          have hN := rdN_in (I := J) (C := C) c i
          have hs1 : rdN J C (c + 1) i = rdN J C c i + pI (rdP J C i (c + 1)) 1 0 := rfl
          have eT : 0 + sd ((0 : Nat) : Int) * ((c + 1 : Nat) : Int) * (J 6 i - J 7 i) = ((c + 1 : Nat) : Int) * J 6 i - ((c + 1 : Nat) : Int) * J 7 i := by
            rw [show sd ((0 : Nat) : Int) = 1 from rfl, Int.one_mul, Int.mul_sub, Int.zero_add]
          refine b_iload rfl rfl ?_
          refine b_bipush rfl (by decide) ?_
          refine b_icmp_gt (tgt := 168) rfl rfl (fun c128 => ?_) (fun c128 => ?_)
          · omega
          · refine b_aload_n rfl rfl ?_
            refine b_callV0v (ν := MX12_empties) rfl ml12_457 cvX12_empties (d' := 0) (by omega) rfl (by decide) rfl (Nat.le_of_ble_eq_true rfl) ?_
            refine spm_empties ?_
            refine ⟨rfl, ?_⟩
            refine b_aload_n rfl rfl ?_
            refine b_iload rfl rfl ?_
            refine b_iconst rfl (by decide) ?_
            refine b_iload rfl rfl ?_
            refine b_callV3v (ν := MX12_adds) rfl ml12_464 cvX12_adds (d' := 0) (by omega) rfl (by decide) rfl (Nat.le_of_ble_eq_true rfl) ?_
            refine spm_adds (K := H) (h := 0) (n := ((c + 1 : Nat) : Int)) hMH.1 (by omega) (by decide) (by omega) (by unfold bd9; omega) ?_
            rw [eT, Int.zero_add, Int.zero_add, Int.zero_add]
            refine ⟨rfl, ?_⟩
            refine b_iload rfl rfl ?_
            refine b_aload_n rfl rfl ?_
            refine b_iload_n rfl rfl ?_
            refine b_callV1i (ν := MX12_isAsRode) rfl ml12_551 cvX12_isAsRode (d' := 5) (by omega) rfl (by decide) rfl (Nat.le_of_ble_eq_true rfl) ?_
            refine spm_isAsRode (w := i) (c := c + 1) hMH.1 hTH hg.2 (by omega) (by omega) (AsM.rf (asB_mS hS.2.2)) (fun hr K2 hK2 => ?_) (fun hr K2 hK2 => ?_)
            · refine ⟨_, rfl, ?_⟩
              refine b_if_eq (tgt := 158) rfl rfl (fun z => absurd z (by decide)) (fun _ => ?_)
              refine b_iconst rfl (by decide) ?_
              refine b_goto (tgt := 159) rfl rfl ?_
              refine b_iaddN rfl (by omega) (by omega) ?_
              refine b_istoreX (F := fun z160 => [some (aR 57), some (aI a), some (aI (J 1 1)), some (aI z3), some (aI z160), some (aI (i : Int)), some (aI ((c + 1 : Nat) : Int))]) rfl (by decide) (fun _ => rfl) (fun z160 ez160 => ?_)
              refine b_iincX (F := fun z162 => [some (aR 57), some (aI a), some (aI (J 1 1)), some (aI z3), some (aI z160), some (aI (i : Int)), some (aI z162)]) rfl rfl (by omega) (by omega) (fun _ => rfl) (fun z162 ez162 => ?_)
              refine b_goto (tgt := 124) rfl rfl ?_
              first
              | exact ihn (c + 1) _ _ K2 (hS.ms.as hK2) (by rw [hs1, pI_1 hr]; omega) (by omega) (by omega)
              | exact ihn (c + 1) _ _ K2 (hS.ms.as hK2) (by rw [hs1, pI_0 hr]; omega) (by omega) (by omega)
            · refine ⟨_, rfl, ?_⟩
              refine b_if_eq (tgt := 158) rfl rfl (fun _ => ?_) (fun z => absurd z (by decide))
              refine b_iconst rfl (by decide) ?_
              refine b_iaddN rfl (by omega) (by omega) ?_
              refine b_istoreX (F := fun z160 => [some (aR 57), some (aI a), some (aI (J 1 1)), some (aI z3), some (aI z160), some (aI (i : Int)), some (aI ((c + 1 : Nat) : Int))]) rfl (by decide) (fun _ => rfl) (fun z160 ez160 => ?_)
              refine b_iincX (F := fun z162 => [some (aR 57), some (aI a), some (aI (J 1 1)), some (aI z3), some (aI z160), some (aI (i : Int)), some (aI z162)]) rfl rfl (by omega) (by omega) (fun _ => rfl) (fun z162 ez162 => ?_)
              refine b_goto (tgt := 124) rfl rfl ?_
              first
              | exact ihn (c + 1) _ _ K2 (hS.ms.as hK2) (by rw [hs1, pI_1 hr]; omega) (by omega) (by omega)
              | exact ihn (c + 1) _ _ K2 (hS.ms.as hK2) (by rw [hs1, pI_0 hr]; omega) (by omega) (by omega)
      have hMH := hM1.sc hS
      have hbH := hMH.1.1
      have q59 := hMH.1.2.2.1
      refine b_iload rfl rfl ?_
      refine b_aload_n rfl rfl ?_
      refine b_getR (r := 59) rfl fl12_54 rfl (by decide) rfl rfl ?_
      refine b_aload_n rfl rfl ?_
      refine b_getI rfl fl12_51 rfl (by decide) rfl ?_
      rw [hbH]
      refine b_iald rfl rfl (by omega) (by omega) ?_
      try simp only [tn6, tn4, tn2, tn144, tn24, tn_cast, Int.reduceToNat]
      rw [q59]
      refine b_icmp_ge (tgt := 174) rfl rfl (fun c118 => ?_) (fun c118 => ?_)
      · omega
      · refine b_iconst rfl (by decide) ?_
        refine b_istoreX (F := fun z122 => [some (aR 57), some (aI a), some (aI (J 1 1)), some (aI z3), some (aI y), some (aI (i : Int)), some (aI z122)]) rfl (by decide) (fun _ => rfl) (fun z122 ez122 => ?_)
        exact crates 20 0 _ _ H hS (by show y = _ + 0; omega) (by omega) (by omega)
  have chk : kO J 4 1 a → (4 ≤ J 1 1 ∧ J 1 1 ≤ 40 ∧ J 1 1 % 4 = 0) → ∀ (n i : Nat) (z3 z4 : Int) (x5 x6 : Option AV), ((z3 = 1 ∧ ∀ k : Nat, k < i → pr J (4 * (k : Int)) ≤ 9999 ∧ pr J (4 * (k : Int) + 2) ≤ 9999)) → z4 = 4 * (i : Int) → 4 * ((i : Int) + n) = J 1 1 → Bj MX12_rode 6 43 [some (aR 57), some (aI a), some (aI (J 1 1)), some (aI z3), some (aI z4), x5, x6] [] I Q := by
    intro hk hl n
    induction n with
    | zero =>
      intro i z3 z4 x5 x6 h3 hz hi
      have h31 := h3.1
      refine b_iload rfl rfl ?_
      refine b_iload_n rfl rfl ?_
      refine b_icmp_ge (tgt := 91) rfl rfl (fun c46 => ?_) (fun c46 => ?_)
      · refine b_iload_n rfl rfl ?_
        refine b_if_ne (tgt := 101) rfl rfl (fun c92 => ?_) (fun c92 => ?_)
        · refine b_iconst rfl (by decide) ?_
          refine b_istoreX (F := fun z102 => [some (aR 57), some (aI a), some (aI (J 1 1)), some (aI z3), some (aI z102), x5, x6]) rfl (by decide) (fun _ => rfl) (fun z102 ez102 => ?_)
          refine b_iconst rfl (by decide) ?_
          refine b_istoreX (F := fun z105 => [some (aR 57), some (aI a), some (aI (J 1 1)), some (aI z3), some (aI z102), some (aI z105), x6]) rfl (by decide) (fun _ => rfl) (fun z105 ez105 => ?_)
          exact wares ⟨hk, hl.1, hl.2.1, hl.2.2, fun k hkk => h3.2 k (by omega)⟩ (nW J) 0 _ _ _ _ I (ScM.rf hM1.2.1) (by rw [ez102]; rfl) (by omega) (by omega)
        · omega
      · omega
    | succ n ih =>
      intro i z3 z4 x5 x6 h3 hz hi
      have h31 := h3.1
      have ez : z4 = ((4 * i : Nat) : Int) := by omega
      subst ez
      have e4 : ((4 * i : Nat) : Int) = 4 * (i : Int) := by omega
      have e42 : ((4 * i : Nat) : Int) + 2 = ((4 * i + 2 : Nat) : Int) := by omega
      have e43 : ((4 * i + 2 : Nat) : Int) = 4 * (i : Int) + 2 := by omega
      have step : ∀ z3 z4 : Int, z3 = 1 → (pr J (4 * (i : Int)) ≤ 9999 ∧ pr J (4 * (i : Int) + 2) ≤ 9999) → z4 = ((4 * i : Nat) : Int) + 4 → ∀ (x5 x6 : Option AV), Bj MX12_rode 6 43 [some (aR 57), some (aI a), some (aI (J 1 1)), some (aI z3), some (aI z4), x5, x6] [] I Q := by
        intro z3 z4 hz3 hok hz4 x5 x6
        refine ih (i + 1) z3 z4 x5 x6 ⟨hz3, fun k hk => ?_⟩ (by omega) (by omega)
        by_cases e : k = i
        · subst e; exact hok
        · exact h3.2 k (by omega)
      refine b_iload rfl rfl ?_
      refine b_iload_n rfl rfl ?_
      refine b_icmp_ge (tgt := 91) rfl rfl (fun c46 => ?_) (fun c46 => ?_)
      · omega
      · refine b_iload_n rfl rfl ?_
        refine b_if_eq (tgt := 91) rfl rfl (fun c50 => ?_) (fun c50 => ?_)
        · omega
        · refine b_aload_n rfl rfl ?_
          refine b_iload rfl rfl ?_
          refine b_callV1i (ν := MX12_twoBytes) rfl ml12_548 cvX12_twoBytes (d' := 0) (by omega) rfl (by decide) rfl (Nat.le_of_ble_eq_true rfl) ?_
          refine spm_twoBytes hT1 (by omega) ?_
          rw [show pr J ((4 * i : Nat) : Int) = pr J (4 * (i : Int)) by rw [e4]]
          refine ⟨_, rfl, ?_⟩
          refine b_sipush rfl (by decide) ?_
          refine b_icmp_gt (tgt := 83) rfl rfl (fun c62 => ?_) (fun c62 => ?_)
          · refine b_iconst rfl (by decide) ?_
            refine b_istoreX_n (F := fun z84 => [some (aR 57), some (aI a), some (aI (J 1 1)), some (aI z84), some (aI ((4 * i : Nat) : Int)), x5, x6]) rfl (by decide) (fun _ => rfl) (fun z84 ez84 => ?_)
            refine b_iincX (F := fun z85 => [some (aR 57), some (aI a), some (aI (J 1 1)), some (aI z84), some (aI z85), x5, x6]) rfl rfl (by omega) (by omega) (fun _ => rfl) (fun z85 ez85 => ?_)
            refine b_goto (tgt := 43) rfl rfl ?_
            first
            | exact step _ _ (by assumption) ⟨by omega, by omega⟩ (by omega) _ _
            | exact bad _ _ _ _ (by assumption) (fun w => by have := w.2.2.2.2 i (by omega); omega)
          · refine b_aload_n rfl rfl ?_
            refine b_iload rfl rfl ?_
            refine b_iconst rfl (by decide) ?_
            refine b_iaddN rfl (by omega) (by omega) ?_
            rw [e42]
            refine b_callV1i (ν := MX12_twoBytes) rfl ml12_548 cvX12_twoBytes (d' := 0) (by omega) rfl (by decide) rfl (Nat.le_of_ble_eq_true rfl) ?_
            refine spm_twoBytes hT1 (by omega) ?_
            rw [show pr J ((4 * i + 2 : Nat) : Int) = pr J (4 * (i : Int) + 2) by rw [e43]]
            refine ⟨_, rfl, ?_⟩
            refine b_sipush rfl (by decide) ?_
            refine b_icmp_gt (tgt := 83) rfl rfl (fun c76 => ?_) (fun c76 => ?_)
            · refine b_iconst rfl (by decide) ?_
              refine b_istoreX_n (F := fun z84 => [some (aR 57), some (aI a), some (aI (J 1 1)), some (aI z84), some (aI ((4 * i : Nat) : Int)), x5, x6]) rfl (by decide) (fun _ => rfl) (fun z84 ez84 => ?_)
              refine b_iincX (F := fun z85 => [some (aR 57), some (aI a), some (aI (J 1 1)), some (aI z84), some (aI z85), x5, x6]) rfl rfl (by omega) (by omega) (fun _ => rfl) (fun z85 ez85 => ?_)
              refine b_goto (tgt := 43) rfl rfl ?_
              first
              | exact step _ _ (by assumption) ⟨by omega, by omega⟩ (by omega) _ _
              | exact bad _ _ _ _ (by assumption) (fun w => by have := w.2.2.2.2 i (by omega); omega)
            · refine b_iconst rfl (by decide) ?_
              refine b_goto (tgt := 84) rfl rfl ?_
              refine b_istoreX_n (F := fun z84 => [some (aR 57), some (aI a), some (aI (J 1 1)), some (aI z84), some (aI ((4 * i : Nat) : Int)), x5, x6]) rfl (by decide) (fun _ => rfl) (fun z84 ez84 => ?_)
              refine b_iincX (F := fun z85 => [some (aR 57), some (aI a), some (aI (J 1 1)), some (aI z84), some (aI z85), x5, x6]) rfl rfl (by omega) (by omega) (fun _ => rfl) (fun z85 ez85 => ?_)
              refine b_goto (tgt := 43) rfl rfl ?_
              first
              | exact step _ _ (by assumption) ⟨by omega, by omega⟩ (by omega) _ _
              | exact bad _ _ _ _ (by assumption) (fun w => by have := w.2.2.2.2 i (by omega); omega)
  refine rj_of okX12_rode (Nat.le_of_ble_eq_true rfl) rfl ?_
  refine b_aload_n rfl rfl ?_
  refine b_getI rfl fl12_13 rfl (by decide) rfl ?_
  rw [h1]
  refine b_istoreX_n (F := fun z4 => [some (aR 57), some (aI a), some (aI z4), none, none, none, none]) rfl (by decide) (fun _ => rfl) (fun z4 ez4 => ?_)
  refine b_aload_n rfl rfl ?_
  refine b_iconst rfl (by decide) ?_
  refine b_putI rfl fl12_13 rfl (by decide) rfl ?_
  rw [hI]
  refine b_aload_n rfl rfl ?_
  refine b_iload_n rfl rfl ?_
  refine b_callV1i (ν := MX12_isShip) rfl ml12_479 cvX12_isShip (d' := 0) (by omega) rfl (by decide) rfl (Nat.le_of_ble_eq_true rfl) ?_
  refine spm_isShip hM1.1 (fun hk => ?_) (fun hk => ?_)
  · refine ⟨_, rfl, ?_⟩
    refine b_if_eq (tgt := 38) rfl rfl (fun z => absurd z (by decide)) (fun _ => ?_)
    refine b_iload_n rfl rfl ?_
    refine b_if_le (tgt := 38) rfl rfl (fun c19 => ?_) (fun c19 => ?_)
    · refine b_iconst rfl (by decide) ?_
      refine b_istoreX_n (F := fun z39 => [some (aR 57), some (aI a), some (aI z4), some (aI z39), none, none, none]) rfl (by decide) (fun _ => rfl) (fun z39 ez39 => ?_)
      refine b_iconst rfl (by decide) ?_
      refine b_istoreX (F := fun z41 => [some (aR 57), some (aI a), some (aI z4), some (aI z39), some (aI z41), none, none]) rfl (by decide) (fun _ => rfl) (fun z41 ez41 => ?_)
      subst ez4
      first
        | exact chk hk ⟨by omega, by omega, by omega⟩ (J 1 1 / 4).toNat 0 _ _ _ _ ⟨by assumption, fun k hk => absurd hk (by omega)⟩ (by omega) (by omega)
        | exact bad _ _ _ _ (by assumption) (fun w => hk w.1)
        | exact bad _ _ _ _ (by assumption) (fun w => by have w1 := w.2.1; have w2 := w.2.2.1; have w3 := w.2.2.2.1; omega)
    · refine b_iload_n rfl rfl ?_
      refine b_iconst rfl (by decide) ?_
      refine b_iremP rfl (by omega) (by omega) ?_
      refine b_if_ne (tgt := 38) rfl rfl (fun c25 => ?_) (fun c25 => ?_)
      · refine b_iconst rfl (by decide) ?_
        refine b_istoreX_n (F := fun z39 => [some (aR 57), some (aI a), some (aI z4), some (aI z39), none, none, none]) rfl (by decide) (fun _ => rfl) (fun z39 ez39 => ?_)
        refine b_iconst rfl (by decide) ?_
        refine b_istoreX (F := fun z41 => [some (aR 57), some (aI a), some (aI z4), some (aI z39), some (aI z41), none, none]) rfl (by decide) (fun _ => rfl) (fun z41 ez41 => ?_)
        subst ez4
        first
          | exact chk hk ⟨by omega, by omega, by omega⟩ (J 1 1 / 4).toNat 0 _ _ _ _ ⟨by assumption, fun k hk => absurd hk (by omega)⟩ (by omega) (by omega)
          | exact bad _ _ _ _ (by assumption) (fun w => hk w.1)
          | exact bad _ _ _ _ (by assumption) (fun w => by have w1 := w.2.1; have w2 := w.2.2.1; have w3 := w.2.2.2.1; omega)
      · refine b_iload_n rfl rfl ?_
        refine b_bipush rfl (by decide) ?_
        refine b_icmp_gt (tgt := 38) rfl rfl (fun c31 => ?_) (fun c31 => ?_)
        · refine b_iconst rfl (by decide) ?_
          refine b_istoreX_n (F := fun z39 => [some (aR 57), some (aI a), some (aI z4), some (aI z39), none, none, none]) rfl (by decide) (fun _ => rfl) (fun z39 ez39 => ?_)
          refine b_iconst rfl (by decide) ?_
          refine b_istoreX (F := fun z41 => [some (aR 57), some (aI a), some (aI z4), some (aI z39), some (aI z41), none, none]) rfl (by decide) (fun _ => rfl) (fun z41 ez41 => ?_)
          subst ez4
          first
            | exact chk hk ⟨by omega, by omega, by omega⟩ (J 1 1 / 4).toNat 0 _ _ _ _ ⟨by assumption, fun k hk => absurd hk (by omega)⟩ (by omega) (by omega)
            | exact bad _ _ _ _ (by assumption) (fun w => hk w.1)
            | exact bad _ _ _ _ (by assumption) (fun w => by have w1 := w.2.1; have w2 := w.2.2.1; have w3 := w.2.2.2.1; omega)
        · refine b_iconst rfl (by decide) ?_
          refine b_goto (tgt := 39) rfl rfl ?_
          refine b_istoreX_n (F := fun z39 => [some (aR 57), some (aI a), some (aI z4), some (aI z39), none, none, none]) rfl (by decide) (fun _ => rfl) (fun z39 ez39 => ?_)
          refine b_iconst rfl (by decide) ?_
          refine b_istoreX (F := fun z41 => [some (aR 57), some (aI a), some (aI z4), some (aI z39), some (aI z41), none, none]) rfl (by decide) (fun _ => rfl) (fun z41 ez41 => ?_)
          subst ez4
          first
            | exact chk hk ⟨by omega, by omega, by omega⟩ (J 1 1 / 4).toNat 0 _ _ _ _ ⟨by assumption, fun k hk => absurd hk (by omega)⟩ (by omega) (by omega)
            | exact bad _ _ _ _ (by assumption) (fun w => hk w.1)
            | exact bad _ _ _ _ (by assumption) (fun w => by have w1 := w.2.1; have w2 := w.2.2.1; have w3 := w.2.2.2.1; omega)
  · refine ⟨_, rfl, ?_⟩
    refine b_if_eq (tgt := 38) rfl rfl (fun _ => ?_) (fun z => absurd z (by decide))
    refine b_iconst rfl (by decide) ?_
    refine b_istoreX_n (F := fun z39 => [some (aR 57), some (aI a), some (aI z4), some (aI z39), none, none, none]) rfl (by decide) (fun _ => rfl) (fun z39 ez39 => ?_)
    refine b_iconst rfl (by decide) ?_
    refine b_istoreX (F := fun z41 => [some (aR 57), some (aI a), some (aI z4), some (aI z39), some (aI z41), none, none]) rfl (by decide) (fun _ => rfl) (fun z41 ez41 => ?_)
    subst ez4
    first
      | exact chk hk ⟨by omega, by omega, by omega⟩ (J 1 1 / 4).toNat 0 _ _ _ _ ⟨by assumption, fun k hk => absurd hk (by omega)⟩ (by omega) (by omega)
      | exact bad _ _ _ _ (by assumption) (fun w => hk w.1)
      | exact bad _ _ _ _ (by assumption) (fun w => by have w1 := w.2.1; have w2 := w.2.2.1; have w3 := w.2.2.2.1; omega)
