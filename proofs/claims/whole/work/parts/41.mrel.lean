/-! ===== the reference against the class: what stands for what; tides, cargo, safety ===== -/
theorem tn6 {b w : Nat} : (6 * (b : Int) + (w : Int)).toNat = 6 * b + w := by omega
theorem tn4 {b w : Nat} : (4 * (b : Int) + (w : Int)).toNat = 4 * b + w := by omega
theorem tn2 {b w : Nat} : (2 * (b : Int) + (w : Int)).toNat = 2 * b + w := by omega
theorem tn144 {b w : Nat} : (144 * (b : Int) + (w : Int)).toNat = 144 * b + w := by omega
theorem tn24 {s h w : Nat} : (6 * (4 * (s : Int) + (h : Int)) + (w : Int)).toNat = 24 * s + 6 * h + w := by omega
theorem tn_cast {n : Nat} : (n : Int).toNat = n := Int.toNat_natCast n
def RF4 (C : Nat → List Int) (K : HI) (b : Nat) : Prop := (∀ f, f < 4 → (C f = [] ∧ K 71 (4 * b + f) = -1) ∨ (C f ≠ [] ∧ fcm K b f (C f))) ∧ FS C ∧ (C 3 ≠ [] → ∀ se : Nat → Int, (∀ k, k < 8 → -1000000 ≤ se k ∧ se k ≤ 1000000) → ev se (C 3) = 0 ∨ ev se (C 3) = 1)
/-- the reference's harbour is the class's -/
def RP (J K : HI) (C : Nat → List Int) (b : Nat) : Prop := K 57 13 = (b : Int) ∧ b < 2 ∧ K 59 b = J 4 0 ∧ K 62 b = J 4 1 ∧ K 67 b = J 4 2 ∧ (∀ w : Nat, (w : Int) < J 4 0 → K 60 (6 * b + w) = J 6 w ∧ K 61 (6 * b + w) = J 7 w) ∧ (∀ s : Nat, (s : Int) < J 4 1 → K 63 (6 * b + s) = J 6 (6 + s) ∧ K 64 (6 * b + s) = J 7 (6 + s)) ∧ (∀ t : Nat, (t : Int) < J 4 2 → K 68 (6 * b + t) = J 6 (12 + t) ∧ K 69 (6 * b + t) = J 7 (12 + t)) ∧ RF4 C K b ∧ pOK J
def mcell (q : Nat) : Prop := 59 ≤ q ∧ q ≤ 74 ∧ q ≠ 65 ∧ q ≠ 66
theorem fcm_to {K K' : HI} {b f : Nat} {cs : List Int} (h : fcm K b f cs) (h1 : K' 71 = K 71) (h2 : K' 72 = K 72) (h3 : K' 73 = K 73) (h4 : K' 74 = K 74) : fcm K' b f cs := by
  unfold fcm at *
  rw [h1, h2, h3, h4]
  exact h
theorem RP.to {J K K' : HI} {C : Nat → List Int} {b : Nat} (h : RP J K C b) (h1 : K' 57 13 = K 57 13) (h2 : ∀ q, mcell q → K' q = K q) : RP J K' C b := by
  unfold RP RF4 at *
  have e : ∀ q, 59 ≤ q → q ≤ 74 → q ≠ 65 → q ≠ 66 → K' q = K q := fun q a b c d => h2 q ⟨a, b, c, d⟩
  rw [h1, e 59 (by omega) (by omega) (by omega) (by omega), e 62 (by omega) (by omega) (by omega) (by omega), e 67 (by omega) (by omega) (by omega) (by omega), e 60 (by omega) (by omega) (by omega) (by omega), e 61 (by omega) (by omega) (by omega) (by omega), e 63 (by omega) (by omega) (by omega) (by omega), e 64 (by omega) (by omega) (by omega) (by omega), e 68 (by omega) (by omega) (by omega) (by omega), e 69 (by omega) (by omega) (by omega) (by omega), e 71 (by omega) (by omega) (by omega) (by omega)]
  obtain ⟨a1, a2, a3, a4, a5, a6, a7, a8, ⟨b1, b2⟩, a10⟩ := h
  refine ⟨a1, a2, a3, a4, a5, a6, a7, a8, ⟨fun f hf => ?_, b2⟩, a10⟩
  rcases b1 f hf with w | w
  · exact Or.inl w
  · exact Or.inr ⟨w.1, fcm_to w.2 (e 71 (by omega) (by omega) (by omega) (by omega)) (e 72 (by omega) (by omega) (by omega) (by omega)) (e 73 (by omega) (by omega) (by omega) (by omega)) (e 74 (by omega) (by omega) (by omega) (by omega))⟩
/-- only the rows for reckoning have changed -/
def AsM (K K' : HI) : Prop := (∀ q, q ≠ 90 → q ≠ 91 → K' q = K q) ∧ asB K'
theorem AsM.rf {K : HI} (h : asB K) : AsM K K := ⟨fun _ _ _ => rfl, h⟩
theorem AsM.tr {K K' K'' : HI} (h : AsM K K') (h2 : AsM K' K'') : AsM K K'' := ⟨fun q a b => (h2.1 q a b).trans (h.1 q a b), h2.2⟩
theorem RP.as {J K K' : HI} {C : Nat → List Int} {b : Nat} (h : RP J K C b) (h2 : AsM K K') : RP J K' C b := h.to (by rw [h2.1 57 (by decide) (by decide)]) (fun q hq => h2.1 q (by unfold mcell at hq; omega) (by unfold mcell at hq; omega))
theorem as_up {K K' : HI} {k : Nat} {v : Int} (h : AsM K K') (hv : -1000000 ≤ v ∧ v ≤ 1000000) : AsM K (up K' 91 k v) := by
  refine ⟨fun q a b => by rw [up_cell b]; exact h.1 q a b, fun j => ?_⟩
  rw [up_ap]
  split
  · exact hv
  · exact h.2 j
theorem as_row {K K' : HI} {g : Nat → Int} (h : AsM K K') : AsM K (row K' 90 g) := ⟨fun q a b => by rw [row_cell a]; exact h.1 q a b, fun j => by rw [row_cell (by decide)]; exact h.2 j⟩
theorem spm_is {I : HI} {Q : Option AV → HI → Prop} {v a b : Int} (k1 : a ≤ v ∧ v ≤ b → Q (some (aI 1)) I) (k0 : ¬ (a ≤ v ∧ v ≤ b) → Q (some (aI 0)) I) : Rj MX12_is 0 [aI v, aI a, aI b] I Q := by
  refine rj_of okX12_is (Nat.le_of_ble_eq_true rfl) rfl ?_
  refine b_iload_n rfl rfl ?_
  refine b_iload_n rfl rfl ?_
  refine b_icmp_lt (tgt := 14) rfl rfl (fun c2 => ?_) (fun c2 => ?_)
  · refine b_iconst rfl (by decide) ?_
    refine b_zret rfl rfl (by first | decide | omega) ?_
    first | exact k1 (by omega) | exact k0 (by omega)
  · refine b_iload_n rfl rfl ?_
    refine b_iload_n rfl rfl ?_
    refine b_icmp_gt (tgt := 14) rfl rfl (fun c7 => ?_) (fun c7 => ?_)
    · refine b_iconst rfl (by decide) ?_
      refine b_zret rfl rfl (by first | decide | omega) ?_
      first | exact k1 (by omega) | exact k0 (by omega)
    · refine b_iconst rfl (by decide) ?_
      refine b_goto (tgt := 15) rfl rfl ?_
      refine b_zret rfl rfl (by first | decide | omega) ?_
      first | exact k1 (by omega) | exact k0 (by omega)
theorem spm_isTold {J I : HI} {Q : Option AV → HI → Prop} {C : Nat → List Int} {b f : Nat} (hR : RP J I C b) (hf : f < 4) (k1 : C f ≠ [] → Q (some (aI 1)) I) (k0 : C f = [] → Q (some (aI 0)) I) : Rj MX12_isTold 0 [aR 57, aI (f : Int)] I Q := by
  have hb := hR.1
  have hb2 := hR.2.1
  refine rj_of okX12_isTold (Nat.le_of_ble_eq_true rfl) rfl ?_
  refine b_aload_n rfl rfl ?_
  refine b_getR (r := 71) rfl fl12_90 rfl (by decide) rfl rfl ?_
  refine b_iconst rfl (by decide) ?_
  refine b_aload_n rfl rfl ?_
  refine b_getI rfl fl12_51 rfl (by decide) rfl ?_
  rw [hb]
  refine b_imulN rfl (by omega) (by omega) ?_
  refine b_iload_n rfl rfl ?_
  refine b_iaddN rfl (by omega) (by omega) ?_
  refine b_iald rfl rfl (by omega) (by omega) ?_
  try simp only [tn6, tn4, tn2, tn144, tn24, tn_cast, Int.reduceToNat]
  refine b_iconst rfl (by decide) ?_
  refine b_icmp_eq (tgt := 21) rfl rfl (fun c14 => ?_) (fun c14 => ?_)
  · refine b_iconst rfl (by decide) ?_
    refine b_zret rfl rfl (by first | decide | omega) ?_
    rcases hR.2.2.2.2.2.2.2.2.1.1 f hf with w | w
    · first | exact k0 w.1 | (exfalso; have := w.2; omega)
    · have := w.2.1
      first | exact k1 w.1 | (exfalso; omega)
  · refine b_iconst rfl (by decide) ?_
    refine b_goto (tgt := 22) rfl rfl ?_
    refine b_zret rfl rfl (by first | decide | omega) ?_
    rcases hR.2.2.2.2.2.2.2.2.1.1 f hf with w | w
    · first | exact k0 w.1 | (exfalso; have := w.2; omega)
    · have := w.2.1
      first | exact k1 w.1 | (exfalso; omega)
theorem sp_X12_high {I : HI} {Q : Option AV → HI → Prop} {z : Int} (kq : Q (some (aI (hg z))) I) : Rj MX12_high 0 [aJ z] I Q := by
  refine rj_of okX12_high (Nat.le_of_ble_eq_true rfl) rfl ?_
  unfold hg at kq
  refine b_lload_n rfl rfl ?_
  refine b_lconst (z := 0) rfl rfl ?_
  refine b_lcmpX rfl (fun lc2 hlc2 => ?_)
  refine b_if_ge (tgt := 10) rfl rfl (fun c3 => ?_) (fun c3 => ?_)
  · refine b_lload_n rfl rfl ?_
    refine b_ldc2 (z := 9999) rfl kl12_444 (by decide) ?_
    refine b_lcmpX rfl (fun lc14 hlc14 => ?_)
    refine b_if_le (tgt := 24) rfl rfl (fun c15 => ?_) (fun c15 => ?_)
    · refine b_lload_n rfl rfl ?_
      refine b_l2i rfl ?_
      try rw [w32_id (by omega) (by omega)]
      refine b_iret rfl rfl ?_
      exact qI kq (by omega) rfl
    · refine b_sipush rfl (by decide) ?_
      refine b_goto (tgt := 26) rfl rfl ?_
      try rw [w32_id (by omega) (by omega)]
      refine b_iret rfl rfl ?_
      exact qI kq (by omega) rfl
  · refine b_iconst rfl (by decide) ?_
    refine b_goto (tgt := 26) rfl rfl ?_
    try rw [w32_id (by omega) (by omega)]
    refine b_iret rfl rfl ?_
    exact qI kq (by omega) rfl
def tdV (C : Nat → List Int) (f : Nat) (h : Int) : Int := if f = 0 then wat C h else mon C h
theorem spm_tideIn {J K0 I : HI} {Q : Option AV → HI → Prop} {C : Nat → List Int} {b f : Nat} {h : Int} (hR : RP J K0 C b) (hA : AsM K0 I) (hf : f < 2) (hh : 0 ≤ h ∧ h ≤ 100000) (kq : ∀ K, AsM K0 K → Q (some (aI (tdV C f h))) K) : Rj MX12_tideIn 3 [aR 57, aI (f : Int), aI h] I Q := by
  have hRI := hR.as hA
  have h1 := as_up (k := 1) (v := h) hA (by omega)
  have hR1 := hR.as h1
  have he : C f ≠ [] → tdV C f h = hg (ev (seA (up I 91 1 h)) (C f)) := by
    intro hne
    have hs := hR.2.2.2.2.2.2.2.2.1.2.1
    have hcg : (∀ s ∈ C f, -9 < s → -1 ≤ s) → ev (fun _ => h) (C f) = ev (seA (up I 91 1 h)) (C f) := by
      intro hq
      refine ev_congr (fun s hs h1 h2 => ?_)
      have := hq s hs h1
      rw [show (-1 - s).toNat = 0 by omega]
      rfl
    unfold tdV wat mon
    have hf2 : f = 0 ∨ f = 1 := by omega
    rcases hf2 with e | e
    · subst e; rw [if_pos rfl, if_neg hne, hcg hs.1]
    · subst e; rw [if_neg (by decide), if_neg hne, hcg hs.2.1]
  refine rj_of okX12_tideIn (Nat.le_of_ble_eq_true rfl) rfl ?_
  refine b_aload_n rfl rfl ?_
  refine b_iload_n rfl rfl ?_
  refine b_callV1i (ν := MX12_isTold) rfl ml12_446 cvX12_isTold (d' := 0) (by omega) rfl (by decide) rfl (Nat.le_of_ble_eq_true rfl) ?_
  refine spm_isTold hRI (by omega) (fun hy => ?_) (fun hn => ?_)
  · refine ⟨_, rfl, ?_⟩
    refine b_if_ne (tgt := 19) rfl rfl (fun _ => ?_) (fun z => absurd z (by decide))
    refine b_aload_n rfl rfl ?_
    refine b_getR (r := 91) rfl fl12_183 rfl (by decide) rfl rfl ?_
    refine b_iconst rfl (by decide) ?_
    refine b_iload_n rfl rfl ?_
    refine b_iastL (k := 1) rfl rfl rfl (by decide) ?_
    try simp only [tn6, tn4, tn2, tn144, tn24, tn_cast, Int.reduceToNat]
    refine b_aload_n rfl rfl ?_
    refine b_iload_n rfl rfl ?_
    refine b_callV1j (ν := MX12_reckons) rfl ml12_449 cvX12_reckons (d' := 2) (by omega) rfl (by decide) rfl (Nat.le_of_ble_eq_true rfl) ?_
    refine sp_X12_reckons (cs := C f) hR1.1 hR1.2.1 (by omega) ((hR1.2.2.2.2.2.2.2.2.1.1 f (by omega)).resolve_left (fun w => hy w.1)).2 h1.2 (fun g => ?_)
    refine ⟨_, rfl, ?_⟩
    refine b_callS1i (ν := MX12_high) rfl ml12_453 csX12_high (d' := 0) (by omega) (Nat.le_of_ble_eq_true rfl) ?_
    refine sp_X12_high ?_
    rw [← he hy]
    refine ⟨_, rfl, ?_⟩
    refine b_iret rfl rfl ?_
    first
    | exact kq _ (as_row h1)
    | (refine qI (kq I hA) ?_ rfl
       unfold tdV wat mon
       have hf2 : f = 0 ∨ f = 1 := by omega
       rcases hf2 with e | e
       · subst e; rw [if_pos rfl, if_pos hn]; try (first | rfl | (exfalso; omega))
       · subst e; rw [if_neg (by decide), if_pos hn]; try (first | rfl | (exfalso; omega)))
  · refine ⟨_, rfl, ?_⟩
    refine b_if_ne (tgt := 19) rfl rfl (fun z => absurd z (by decide)) (fun _ => ?_)
    refine b_iload_n rfl rfl ?_
    refine b_if_ne (tgt := 17) rfl rfl (fun c9 => ?_) (fun c9 => ?_)
    · refine b_iconst rfl (by decide) ?_
      refine b_iret rfl rfl ?_
      first
      | exact kq _ (as_row h1)
      | (refine qI (kq I hA) ?_ rfl
         unfold tdV wat mon
         have hf2 : f = 0 ∨ f = 1 := by omega
         rcases hf2 with e | e
         · subst e; rw [if_pos rfl, if_pos hn]; try (first | rfl | (exfalso; omega))
         · subst e; rw [if_neg (by decide), if_pos hn]; try (first | rfl | (exfalso; omega)))
    · refine b_bipush rfl (by decide) ?_
      refine b_goto (tgt := 18) rfl rfl ?_
      refine b_iret rfl rfl ?_
      first
      | exact kq _ (as_row h1)
      | (refine qI (kq I hA) ?_ rfl
         unfold tdV wat mon
         have hf2 : f = 0 ∨ f = 1 := by omega
         rcases hf2 with e | e
         · subst e; rw [if_pos rfl, if_pos hn]; try (first | rfl | (exfalso; omega))
         · subst e; rw [if_neg (by decide), if_pos hn]; try (first | rfl | (exfalso; omega)))
def mS (K : HI) (W L T N : Int) : HI := up (up (up (up K 57 57 W) 57 58 L) 57 59 T) 57 60 N
theorem mS_W {K : HI} {W L T N W' : Int} : up (mS K W L T N) 57 57 W' = mS K W' L T N := by
  funext q j; simp only [mS, up_ap]; grind
theorem mS_L {K : HI} {W L T N W' : Int} : up (mS K W L T N) 57 58 W' = mS K W W' T N := by
  funext q j; simp only [mS, up_ap]; grind
theorem mS_T {K : HI} {W L T N W' : Int} : up (mS K W L T N) 57 59 W' = mS K W L W' N := by
  funext q j; simp only [mS, up_ap]; grind
theorem mS_N {K : HI} {W L T N W' : Int} : up (mS K W L T N) 57 60 W' = mS K W L T W' := by
  funext q j; simp only [mS, up_ap]; grind
theorem mS_self {K : HI} : mS K (K 57 57) (K 57 58) (K 57 59) (K 57 60) = K := by
  funext q j; simp only [mS, up_ap]; grind
theorem mS_mS {K : HI} {W L T N W' L' T' N' : Int} : mS (mS K W L T N) W' L' T' N' = mS K W' L' T' N' := by
  funext q j; simp only [mS, up_ap]; grind
theorem mS_cell {K : HI} {W L T N : Int} {q : Nat} (h : q ≠ 57) : mS K W L T N q = K q := by
  unfold mS; rw [up_cell h, up_cell h, up_cell h, up_cell h]
theorem mS_13 {K : HI} {W L T N : Int} : mS K W L T N 57 13 = K 57 13 := rfl
theorem RP.mS {J K : HI} {C : Nat → List Int} {b : Nat} {W L T N : Int} (h : RP J K C b) : RP J (mS K W L T N) C b := h.to rfl (fun q hq => mS_cell (by unfold mcell at hq; omega))
theorem asB_mS {K : HI} {W L T N : Int} (h : asB K) : asB (mS K W L T N) := fun k => by rw [mS_cell (by decide)]; exact h k
def bd9 (W L T N : Int) : Prop := -900000 ≤ W ∧ W ≤ 900000 ∧ -900000 ≤ L ∧ L ≤ 900000 ∧ -900000 ≤ T ∧ T ≤ 900000 ∧ -900000 ≤ N ∧ N ≤ 900000
theorem spm_ridesIn {J K0 I : HI} {Q : Option AV → HI → Prop} {C : Nat → List Int} {b : Nat} {h W L T N : Int} (hR : RP J K0 C b) (hA : AsM (mS K0 W L T N) I) (hb : bd9 W L T N) (hL : 0 ≤ L ∧ L ≤ 200000) (hh : 0 ≤ h ∧ h ≤ 100000) (kq : ∀ K, AsM (mS K0 W L T N) K → Q (some (aI (hei C h W L T))) K) : Rj MX12_ridesIn 4 [aR 57, aI h] I Q := by
  have hRm : RP J (mS K0 W L T N) C b := hR.mS
  have w1 := wat_in C h
  have m1 := mon_in C h
  have e57 : ∀ K, AsM (mS K0 W L T N) K → K 57 57 = W ∧ K 57 58 = L ∧ K 57 59 = T := fun K hK => by rw [hK.1 57 (by decide) (by decide)]; exact ⟨rfl, rfl, rfl⟩
  have hlm := mulB (a := L) (b := mon C h) (A := 200000) (B := 9999) (by omega) (by omega)
  have hlm0 : 0 ≤ L * mon C h := Int.mul_nonneg (by omega) (by omega)
  unfold bd9 at hb
  refine rj_of okX12_ridesIn (Nat.le_of_ble_eq_true rfl) rfl ?_
  refine b_aload_n rfl rfl ?_
  refine b_iconst rfl (by decide) ?_
  refine b_iload_n rfl rfl ?_
  refine b_callV2i (ν := MX12_tideIn) rfl ml12_468 cvX12_tideIn (d' := 3) (by omega) rfl (by decide) rfl (Nat.le_of_ble_eq_true rfl) ?_
  refine spm_tideIn (f := 0) hRm hA (by decide) hh (fun K1 hK1 => ?_)
  refine ⟨_, rfl, ?_⟩
  refine b_istoreX_n (F := fun z6 => [some (aR 57), some (aI h), some (aI z6), none]) rfl (by decide) (fun _ => rfl) (fun z6 ez6 => ?_)
  have e6 : z6 = wat C h := ez6
  refine b_aload_n rfl rfl ?_
  refine b_iconst rfl (by decide) ?_
  refine b_iload_n rfl rfl ?_
  refine b_callV2i (ν := MX12_tideIn) rfl ml12_468 cvX12_tideIn (d' := 3) (by omega) rfl (by decide) rfl (Nat.le_of_ble_eq_true rfl) ?_
  refine spm_tideIn (f := 1) hRm hK1 (by decide) hh (fun K2 hK2 => ?_)
  refine ⟨_, rfl, ?_⟩
  refine b_istoreX_n (F := fun z13 => [some (aR 57), some (aI h), some (aI z6), some (aI z13)]) rfl (by decide) (fun _ => rfl) (fun z13 ez13 => ?_)
  have e13 : z13 = mon C h := ez13
  obtain ⟨e1, e2, e3⟩ := e57 K2 hK2
  refine b_aload_n rfl rfl ?_
  refine b_iconst rfl (by decide) ?_
  refine b_callV1i (ν := MX12_isTold) rfl ml12_446 cvX12_isTold (d' := 0) (by omega) rfl (by decide) rfl (Nat.le_of_ble_eq_true rfl) ?_
  refine spm_isTold (f := 2) (hRm.as hK2) (by decide) (fun hy => ?_) (fun hn => ?_)
  · refine ⟨_, rfl, ?_⟩
    refine b_if_ne (tgt := 47) rfl rfl (fun _ => ?_) (fun z => absurd z (by decide))
    refine b_aload_n rfl rfl ?_
    refine b_getR (r := 91) rfl fl12_183 rfl (by decide) rfl rfl ?_
    refine b_iconst rfl (by decide) ?_
    refine b_iload_n rfl rfl ?_
    refine b_iastL (k := 1) rfl rfl rfl (by decide) ?_
    try simp only [tn6, tn4, tn2, tn144, tn24, tn_cast, Int.reduceToNat]
    refine b_aload_n rfl rfl ?_
    refine b_getR (r := 91) rfl fl12_183 rfl (by decide) rfl rfl ?_
    refine b_iconst rfl (by decide) ?_
    refine b_iload_n rfl rfl ?_
    refine b_iastL (k := 2) rfl rfl rfl (by decide) ?_
    try simp only [tn6, tn4, tn2, tn144, tn24, tn_cast, Int.reduceToNat]
    refine b_aload_n rfl rfl ?_
    refine b_getR (r := 91) rfl fl12_183 rfl (by decide) rfl rfl ?_
    refine b_iconst rfl (by decide) ?_
    refine b_iload_n rfl rfl ?_
    refine b_iastL (k := 3) rfl rfl rfl (by decide) ?_
    try simp only [tn6, tn4, tn2, tn144, tn24, tn_cast, Int.reduceToNat]
    refine b_aload_n rfl rfl ?_
    refine b_getR (r := 91) rfl fl12_183 rfl (by decide) rfl rfl ?_
    refine b_iconst rfl (by decide) ?_
    refine b_aload_n rfl rfl ?_
    refine b_getI rfl fl12_186 rfl (by decide) rfl ?_
    try simp only [up_ap, cpy_ap, fil_ap, row_ap, Nat.reduceEqDiff, Nat.reduceLT, Nat.reduceLeDiff, Int.toNat_natCast, Int.reduceToNat, reduceCtorEq, false_and, and_false, true_and, and_true, and_self, reduceIte]
    rw [e1]
    refine b_iastL (k := 4) rfl rfl rfl (by decide) ?_
    try simp only [tn6, tn4, tn2, tn144, tn24, tn_cast, Int.reduceToNat]
    refine b_aload_n rfl rfl ?_
    refine b_getR (r := 91) rfl fl12_183 rfl (by decide) rfl rfl ?_
    refine b_iconst rfl (by decide) ?_
    refine b_aload_n rfl rfl ?_
    refine b_getI rfl fl12_189 rfl (by decide) rfl ?_
    try simp only [up_ap, cpy_ap, fil_ap, row_ap, Nat.reduceEqDiff, Nat.reduceLT, Nat.reduceLeDiff, Int.toNat_natCast, Int.reduceToNat, reduceCtorEq, false_and, and_false, true_and, and_true, and_self, reduceIte]
    rw [e2]
    refine b_iastL (k := 5) rfl rfl rfl (by decide) ?_
    try simp only [tn6, tn4, tn2, tn144, tn24, tn_cast, Int.reduceToNat]
    refine b_aload_n rfl rfl ?_
    refine b_getR (r := 91) rfl fl12_183 rfl (by decide) rfl rfl ?_
    refine b_bipush rfl (by decide) ?_
    refine b_aload_n rfl rfl ?_
    refine b_getI rfl fl12_192 rfl (by decide) rfl ?_
    try simp only [up_ap, cpy_ap, fil_ap, row_ap, Nat.reduceEqDiff, Nat.reduceLT, Nat.reduceLeDiff, Int.toNat_natCast, Int.reduceToNat, reduceCtorEq, false_and, and_false, true_and, and_true, and_self, reduceIte]
    rw [e3]
    refine b_iastL (k := 6) rfl rfl rfl (by decide) ?_
    try simp only [tn6, tn4, tn2, tn144, tn24, tn_cast, Int.reduceToNat]
    have hK3 : AsM (mS K0 W L T N) (up (up (up (up (up (up K2 91 1 h) 91 2 z6) 91 3 z13) 91 4 W) 91 5 L) 91 6 T) := as_up (as_up (as_up (as_up (as_up (as_up hK2 (by omega)) (by omega)) (by omega)) (by omega)) (by omega)) (by omega)
    have hev : ev (seA (up (up (up (up (up (up K2 91 1 h) 91 2 z6) 91 3 z13) 91 4 W) 91 5 L) 91 6 T)) (C 2) = ev (seR C h W L T) (C 2) := by
        refine ev_congr (fun s hs h1 h2 => ?_)
        have h3 := hR.2.2.2.2.2.2.2.2.1.2.1.2.2.1 s hs h1
        have h4 : (-1 - s).toNat = 0 ∨ (-1 - s).toNat = 1 ∨ (-1 - s).toNat = 2 ∨ (-1 - s).toNat = 3 ∨ (-1 - s).toNat = 4 ∨ (-1 - s).toNat = 5 := by omega
        rcases h4 with e | e | e | e | e | e <;> rw [e]
        · rfl
        · exact e6
        · exact e13
        · rfl
        · rfl
        · rfl
    generalize up (up (up (up (up (up K2 91 1 h) 91 2 z6) 91 3 z13) 91 4 W) 91 5 L) 91 6 T = K3 at *
    have hR3 := hRm.as hK3
    refine b_aload_n rfl rfl ?_
    refine b_iconst rfl (by decide) ?_
    refine b_callV1j (ν := MX12_reckons) rfl ml12_449 cvX12_reckons (d' := 2) (by omega) rfl (by decide) rfl (Nat.le_of_ble_eq_true rfl) ?_
    refine sp_X12_reckons (f := 2) (cs := C 2) hR3.1 hR3.2.1 (by decide) ((hR3.2.2.2.2.2.2.2.2.1.1 2 (by decide)).resolve_left (fun w => hy w.1)).2 hK3.2 (fun g => ?_)
    rw [hev]
    refine ⟨_, rfl, ?_⟩
    refine b_callS1i (ν := MX12_high) rfl ml12_453 csX12_high (d' := 0) (by omega) (Nat.le_of_ble_eq_true rfl) ?_
    refine sp_X12_high ?_
    refine ⟨_, rfl, ?_⟩
    refine b_iret rfl rfl ?_
    refine qI (kq _ (as_row hK3)) ?_ rfl
    unfold hei
    rw [if_neg hy]
  · refine ⟨_, rfl, ?_⟩
    refine b_if_ne (tgt := 47) rfl rfl (fun z => absurd z (by decide)) (fun _ => ?_)
    refine b_iload_n rfl rfl ?_
    refine b_i2l rfl ?_
    refine b_aload_n rfl rfl ?_
    refine b_getI rfl fl12_189 rfl (by decide) rfl ?_
    try simp only [up_ap, cpy_ap, fil_ap, row_ap, Nat.reduceEqDiff, Nat.reduceLT, Nat.reduceLeDiff, Int.toNat_natCast, Int.reduceToNat, reduceCtorEq, false_and, and_false, true_and, and_true, and_self, reduceIte]
    rw [e2]
    refine b_i2l rfl ?_
    refine b_iload_n rfl rfl ?_
    refine b_i2l rfl ?_
    rw [e13]
    refine b_lmulN rfl (by omega) (by omega) ?_
    refine b_ldc2 (z := 100) rfl kl12_471 (by decide) ?_
    refine b_ldivP rfl (by omega) (by omega) ?_
    rw [e6]
    refine b_laddN rfl (by omega) (by omega) ?_
    refine b_aload_n rfl rfl ?_
    refine b_getI rfl fl12_186 rfl (by decide) rfl ?_
    try simp only [up_ap, cpy_ap, fil_ap, row_ap, Nat.reduceEqDiff, Nat.reduceLT, Nat.reduceLeDiff, Int.toNat_natCast, Int.reduceToNat, reduceCtorEq, false_and, and_false, true_and, and_true, and_self, reduceIte]
    rw [e1]
    refine b_i2l rfl ?_
    refine b_lsubN rfl (by omega) (by omega) ?_
    refine b_callS1i (ν := MX12_high) rfl ml12_453 csX12_high (d' := 0) (by omega) (Nat.le_of_ble_eq_true rfl) ?_
    refine sp_X12_high ?_
    refine ⟨_, rfl, ?_⟩
    refine b_iret rfl rfl ?_
    refine qI (kq K2 hK2) ?_ rfl
    unfold hei
    rw [if_pos hn]
theorem spm_isLevel {J K0 I : HI} {Q : Option AV → HI → Prop} {C : Nat → List Int} {b s : Nat} {W L T N : Int} (hR : RP J K0 C b) (hA : AsM (mS K0 W L T N) I) (hs : (s : Int) < J 4 1) (k1 : lvl J s T → Q (some (aI 1)) I) (k0 : ¬ lvl J s T → Q (some (aI 0)) I) : Rj MX12_isLevel 1 [aR 57, aI (s : Int)] I Q := by
  have hRI := (hR.mS (W := W) (L := L) (T := T) (N := N)).as hA
  have hb := hRI.1
  have hb2 := hR.2.1
  have hs6 : s < 6 := by have := hR.2.2.2.2.2.2.2.2.2.1 1 (by decide); omega
  have e3 : I 57 59 = T := by rw [hA.1 57 (by decide) (by decide)]; rfl
  have e64 := (hRI.2.2.2.2.2.2.1 s hs).2
  have r := hR.2.2.2.2.2.2.2.2.2.2.2.1 s hs
  unfold lvl at k1 k0
  refine rj_of okX12_isLevel (Nat.le_of_ble_eq_true rfl) rfl ?_
  refine b_aload_n rfl rfl ?_
  refine b_getI rfl fl12_192 rfl (by decide) rfl ?_
  rw [e3]
  refine b_aload_n rfl rfl ?_
  refine b_getR (r := 64) rfl fl12_69 rfl (by decide) rfl rfl ?_
  refine b_bipush rfl (by decide) ?_
  refine b_aload_n rfl rfl ?_
  refine b_getI rfl fl12_51 rfl (by decide) rfl ?_
  rw [hb]
  refine b_imulN rfl (by omega) (by omega) ?_
  refine b_iload_n rfl rfl ?_
  refine b_iaddN rfl (by omega) (by omega) ?_
  refine b_iald rfl rfl (by omega) (by omega) ?_
  try simp only [tn6, tn4, tn2, tn144, tn24, tn_cast, Int.reduceToNat]
  rw [e64]
  refine b_inegN rfl (by omega) (by omega) ?_
  refine b_aload_n rfl rfl ?_
  refine b_getR (r := 64) rfl fl12_69 rfl (by decide) rfl rfl ?_
  refine b_bipush rfl (by decide) ?_
  refine b_aload_n rfl rfl ?_
  refine b_getI rfl fl12_51 rfl (by decide) rfl ?_
  rw [hb]
  refine b_imulN rfl (by omega) (by omega) ?_
  refine b_iload_n rfl rfl ?_
  refine b_iaddN rfl (by omega) (by omega) ?_
  refine b_iald rfl rfl (by omega) (by omega) ?_
  try simp only [tn6, tn4, tn2, tn144, tn24, tn_cast, Int.reduceToNat]
  rw [e64]
  refine b_callS3i (ν := MX12_is) rfl ml12_322 csX12_is (d' := 0) (by omega) (Nat.le_of_ble_eq_true rfl) ?_
  refine spm_is (fun hy => ?_) (fun hn => ?_)
  · refine ⟨_, rfl, ?_⟩
    refine b_zret rfl rfl (by first | decide | omega) ?_
    first | exact k1 hy | exact k0 hn
  · refine ⟨_, rfl, ?_⟩
    refine b_zret rfl rfl (by first | decide | omega) ?_
    first | exact k1 hy | exact k0 hn
theorem spm_isSafe {J K0 I : HI} {Q : Option AV → HI → Prop} {C : Nat → List Int} {b s t : Nat} {h W L T N : Int} (hR : RP J K0 C b) (hA : AsM (mS K0 W L T N) I) (hs : (s : Int) < J 4 1) (ht : (t : Int) < J 4 2) (hb : bd9 W L T N) (hL : 0 ≤ L ∧ L ≤ 200000) (hh : 0 ≤ h ∧ h ≤ 100000) (k1 : SFV J s t T (hei C h W L T) → ∀ K, AsM (mS K0 W L T N) K → Q (some (aI 1)) K) (k0 : ¬ SFV J s t T (hei C h W L T) → ∀ K, AsM (mS K0 W L T N) K → Q (some (aI 0)) K) : Rj MX12_isSafe 5 [aR 57, aI (s : Int), aI (t : Int), aI h] I Q := by
  have hb2 := hR.2.1
  have ht6 : t < 6 := by have := hR.2.2.2.2.2.2.2.2.2.1 2 (by decide); omega
  refine rj_of okX12_isSafe (Nat.le_of_ble_eq_true rfl) rfl ?_
  refine b_aload_n rfl rfl ?_
  refine b_iload_n rfl rfl ?_
  refine b_callV1i (ν := MX12_isLevel) rfl ml12_473 cvX12_isLevel (d' := 1) (by omega) rfl (by decide) rfl (Nat.le_of_ble_eq_true rfl) ?_
  refine spm_isLevel hR hA hs (fun hl => ?_) (fun hl => ?_)
  · refine ⟨_, rfl, ?_⟩
    refine b_if_eq (tgt := 51) rfl rfl (fun z => absurd z (by decide)) (fun _ => ?_)
    refine b_aload_n rfl rfl ?_
    refine b_iload_n rfl rfl ?_
    refine b_callV1i (ν := MX12_ridesIn) rfl ml12_476 cvX12_ridesIn (d' := 4) (by omega) rfl (by decide) rfl (Nat.le_of_ble_eq_true rfl) ?_
    refine spm_ridesIn hR hA hb hL hh (fun K1 hK1 => ?_)
    have hR1 := (hR.mS (W := W) (L := L) (T := T) (N := N)).as hK1
    have hb1 := hR1.1
    have hq := hR1.2.2.2.2.2.2.2.1 t ht
    have hq1 := hq.1
    have hq2 := hq.2
    refine ⟨_, rfl, ?_⟩
    refine b_aload_n rfl rfl ?_
    refine b_getR (r := 68) rfl fl12_81 rfl (by decide) rfl rfl ?_
    refine b_bipush rfl (by decide) ?_
    refine b_aload_n rfl rfl ?_
    refine b_getI rfl fl12_51 rfl (by decide) rfl ?_
    rw [hb1]
    refine b_imulN rfl (by omega) (by omega) ?_
    refine b_iload_n rfl rfl ?_
    refine b_iaddN rfl (by omega) (by omega) ?_
    refine b_iald rfl rfl (by omega) (by omega) ?_
    try simp only [tn6, tn4, tn2, tn144, tn24, tn_cast, Int.reduceToNat]
    rw [hq1]
    refine b_aload_n rfl rfl ?_
    refine b_getR (r := 69) rfl fl12_84 rfl (by decide) rfl rfl ?_
    refine b_bipush rfl (by decide) ?_
    refine b_aload_n rfl rfl ?_
    refine b_getI rfl fl12_51 rfl (by decide) rfl ?_
    rw [hb1]
    refine b_imulN rfl (by omega) (by omega) ?_
    refine b_iload_n rfl rfl ?_
    refine b_iaddN rfl (by omega) (by omega) ?_
    refine b_iald rfl rfl (by omega) (by omega) ?_
    try simp only [tn6, tn4, tn2, tn144, tn24, tn_cast, Int.reduceToNat]
    rw [hq2]
    refine b_callS3i (ν := MX12_is) rfl ml12_322 csX12_is (d' := 0) (by omega) (Nat.le_of_ble_eq_true rfl) ?_
    refine spm_is (fun hy => ?_) (fun hn => ?_)
    · refine ⟨_, rfl, ?_⟩
      refine b_if_eq (tgt := 51) rfl rfl (fun z => absurd z (by decide)) (fun _ => ?_)
      refine b_iconst rfl (by decide) ?_
      refine b_goto (tgt := 52) rfl rfl ?_
      refine b_zret rfl rfl (by first | decide | omega) ?_
      first
      | exact k1 ⟨hl, hy⟩ K1 hK1
      | exact k0 (fun w => hn w.2) K1 hK1
      | exact k0 (fun w => hl w.1) I hA
    · refine ⟨_, rfl, ?_⟩
      refine b_if_eq (tgt := 51) rfl rfl (fun _ => ?_) (fun z => absurd z (by decide))
      refine b_iconst rfl (by decide) ?_
      refine b_zret rfl rfl (by first | decide | omega) ?_
      first
      | exact k1 ⟨hl, hy⟩ K1 hK1
      | exact k0 (fun w => hn w.2) K1 hK1
      | exact k0 (fun w => hl w.1) I hA
  · refine ⟨_, rfl, ?_⟩
    refine b_if_eq (tgt := 51) rfl rfl (fun _ => ?_) (fun z => absurd z (by decide))
    refine b_iconst rfl (by decide) ?_
    refine b_zret rfl rfl (by first | decide | omega) ?_
    first
    | exact k1 ⟨hl, hy⟩ K1 hK1
    | exact k0 (fun w => hn w.2) K1 hK1
    | exact k0 (fun w => hl w.1) I hA
theorem spm_isAllowed {J K0 I : HI} {Q : Option AV → HI → Prop} {C : Nat → List Int} {b : Nat} {h W L T N : Int} (hR : RP J K0 C b) (hA : AsM (mS K0 W L T N) I) (hb : bd9 W L T N) (hL : 0 ≤ L ∧ L ≤ 200000) (hh : 0 ≤ h ∧ h ≤ 100000) (k1 : ALV C h W L T N (hei C h W L T) → ∀ K, AsM (mS K0 W L T N) K → Q (some (aI 1)) K) (k0 : ¬ ALV C h W L T N (hei C h W L T) → ∀ K, AsM (mS K0 W L T N) K → Q (some (aI 0)) K) : Rj MX12_isAllowed 5 [aR 57, aI h] I Q := by
  have hRm : RP J (mS K0 W L T N) C b := hR.mS
  have hei1 := hei_in C h W L T
  have hb9 := hb
  unfold bd9 at hb9
  have e57 : ∀ K, AsM (mS K0 W L T N) K → K 57 57 = W ∧ K 57 58 = L ∧ K 57 59 = T ∧ K 57 60 = N := fun K hK => by rw [hK.1 57 (by decide) (by decide)]; exact ⟨rfl, rfl, rfl, rfl⟩
  refine rj_of okX12_isAllowed (Nat.le_of_ble_eq_true rfl) rfl ?_
  refine b_aload_n rfl rfl ?_
  refine b_iconst rfl (by decide) ?_
  refine b_callV1i (ν := MX12_isTold) rfl ml12_446 cvX12_isTold (d' := 0) (by omega) rfl (by decide) rfl (Nat.le_of_ble_eq_true rfl) ?_
  refine spm_isTold (f := 3) (hRm.as hA) (by decide) (fun hy => ?_) (fun hn => ?_)
  · refine ⟨_, rfl, ?_⟩
    refine b_if_ne (tgt := 10) rfl rfl (fun _ => ?_) (fun z => absurd z (by decide))
    refine b_aload_n rfl rfl ?_
    refine b_iload_n rfl rfl ?_
    refine b_callV1i (ν := MX12_ridesIn) rfl ml12_476 cvX12_ridesIn (d' := 4) (by omega) rfl (by decide) rfl (Nat.le_of_ble_eq_true rfl) ?_
    refine spm_ridesIn hR hA hb hL hh (fun K2 hK2 => ?_)
    obtain ⟨e1, e2, e3, e4⟩ := e57 K2 hK2
    refine ⟨_, rfl, ?_⟩
    refine b_istoreX_n (F := fun z15 => [some (aR 57), some (aI h), some (aI z15)]) rfl (by decide) (fun _ => rfl) (fun z15 ez15 => ?_)
    refine b_aload_n rfl rfl ?_
    refine b_getR (r := 91) rfl fl12_183 rfl (by decide) rfl rfl ?_
    refine b_iconst rfl (by decide) ?_
    refine b_iload_n rfl rfl ?_
    refine b_iastL (k := 1) rfl rfl rfl (by decide) ?_
    try simp only [tn6, tn4, tn2, tn144, tn24, tn_cast, Int.reduceToNat]
    refine b_aload_n rfl rfl ?_
    refine b_getR (r := 91) rfl fl12_183 rfl (by decide) rfl rfl ?_
    refine b_iconst rfl (by decide) ?_
    refine b_aload_n rfl rfl ?_
    refine b_getI rfl fl12_186 rfl (by decide) rfl ?_
    try simp only [up_ap, cpy_ap, fil_ap, row_ap, Nat.reduceEqDiff, Nat.reduceLT, Nat.reduceLeDiff, Int.toNat_natCast, Int.reduceToNat, reduceCtorEq, false_and, and_false, true_and, and_true, and_self, reduceIte]
    rw [e1]
    refine b_iastL (k := 4) rfl rfl rfl (by decide) ?_
    try simp only [tn6, tn4, tn2, tn144, tn24, tn_cast, Int.reduceToNat]
    refine b_aload_n rfl rfl ?_
    refine b_getR (r := 91) rfl fl12_183 rfl (by decide) rfl rfl ?_
    refine b_iconst rfl (by decide) ?_
    refine b_aload_n rfl rfl ?_
    refine b_getI rfl fl12_189 rfl (by decide) rfl ?_
    try simp only [up_ap, cpy_ap, fil_ap, row_ap, Nat.reduceEqDiff, Nat.reduceLT, Nat.reduceLeDiff, Int.toNat_natCast, Int.reduceToNat, reduceCtorEq, false_and, and_false, true_and, and_true, and_self, reduceIte]
    rw [e2]
    refine b_iastL (k := 5) rfl rfl rfl (by decide) ?_
    try simp only [tn6, tn4, tn2, tn144, tn24, tn_cast, Int.reduceToNat]
    refine b_aload_n rfl rfl ?_
    refine b_getR (r := 91) rfl fl12_183 rfl (by decide) rfl rfl ?_
    refine b_bipush rfl (by decide) ?_
    refine b_aload_n rfl rfl ?_
    refine b_getI rfl fl12_192 rfl (by decide) rfl ?_
    try simp only [up_ap, cpy_ap, fil_ap, row_ap, Nat.reduceEqDiff, Nat.reduceLT, Nat.reduceLeDiff, Int.toNat_natCast, Int.reduceToNat, reduceCtorEq, false_and, and_false, true_and, and_true, and_self, reduceIte]
    rw [e3]
    refine b_iastL (k := 6) rfl rfl rfl (by decide) ?_
    try simp only [tn6, tn4, tn2, tn144, tn24, tn_cast, Int.reduceToNat]
    refine b_aload_n rfl rfl ?_
    refine b_getR (r := 91) rfl fl12_183 rfl (by decide) rfl rfl ?_
    refine b_bipush rfl (by decide) ?_
    refine b_aload_n rfl rfl ?_
    refine b_getI rfl fl12_195 rfl (by decide) rfl ?_
    try simp only [up_ap, cpy_ap, fil_ap, row_ap, Nat.reduceEqDiff, Nat.reduceLT, Nat.reduceLeDiff, Int.toNat_natCast, Int.reduceToNat, reduceCtorEq, false_and, and_false, true_and, and_true, and_self, reduceIte]
    rw [e4]
    refine b_iastL (k := 7) rfl rfl rfl (by decide) ?_
    try simp only [tn6, tn4, tn2, tn144, tn24, tn_cast, Int.reduceToNat]
    refine b_aload_n rfl rfl ?_
    refine b_getR (r := 91) rfl fl12_183 rfl (by decide) rfl rfl ?_
    refine b_bipush rfl (by decide) ?_
    refine b_iload_n rfl rfl ?_
    refine b_iastL (k := 8) rfl rfl rfl (by decide) ?_
    try simp only [tn6, tn4, tn2, tn144, tn24, tn_cast, Int.reduceToNat]
    have hK3 : AsM (mS K0 W L T N) (up (up (up (up (up (up K2 91 1 h) 91 4 W) 91 5 L) 91 6 T) 91 7 N) 91 8 z15) := as_up (as_up (as_up (as_up (as_up (as_up hK2 (by omega)) (by omega)) (by omega)) (by omega)) (by omega)) (by omega)
    have hev : ev (seA (up (up (up (up (up (up K2 91 1 h) 91 4 W) 91 5 L) 91 6 T) 91 7 N) 91 8 z15)) (C 3) = ev (seM h W L T N (hei C h W L T)) (C 3) := by
        refine ev_congr (fun s hs h1 h2 => ?_)
        have h3 := hR.2.2.2.2.2.2.2.2.1.2.1.2.2.2 s hs
        have h4 : (-1 - s).toNat = 0 ∨ (-1 - s).toNat = 3 ∨ (-1 - s).toNat = 4 ∨ (-1 - s).toNat = 5 ∨ (-1 - s).toNat = 6 ∨ (-1 - s).toNat = 7 := by omega
        rcases h4 with e | e | e | e | e | e <;> rw [e]
        · rfl
        · rfl
        · rfl
        · rfl
        · rfl
        · exact ez15
    have h01 := hR.2.2.2.2.2.2.2.2.1.2.2 hy (seM h W L T N (hei C h W L T)) (fun k _ => by
        unfold seM
        repeat' split
        all_goals omega)
    generalize up (up (up (up (up (up K2 91 1 h) 91 4 W) 91 5 L) 91 6 T) 91 7 N) 91 8 z15 = K3 at *
    have hR3 := hRm.as hK3
    refine b_aload_n rfl rfl ?_
    refine b_iconst rfl (by decide) ?_
    refine b_callV1j (ν := MX12_reckons) rfl ml12_449 cvX12_reckons (d' := 2) (by omega) rfl (by decide) rfl (Nat.le_of_ble_eq_true rfl) ?_
    refine sp_X12_reckons (f := 3) (cs := C 3) hR3.1 hR3.2.1 (by decide) ((hR3.2.2.2.2.2.2.2.2.1.1 3 (by decide)).resolve_left (fun w => hy w.1)).2 hK3.2 (fun g => ?_)
    rw [hev]
    refine ⟨_, rfl, ?_⟩
    refine b_lconst (z := 1) rfl rfl ?_
    refine b_lcmpX rfl (fun lc79 hlc79 => ?_)
    refine b_if_ne (tgt := 87) rfl rfl (fun c80 => ?_) (fun c80 => ?_)
    · refine b_iconst rfl (by decide) ?_
      refine b_zret rfl rfl (by first | decide | omega) ?_
      first
      | exact k1 (Or.inl hn) I hA
      | exact k1 (Or.inr (by omega)) _ (as_row hK3)
      | exact k0 (fun w => w.elim (fun w => hy w) (fun w => by omega)) _ (as_row hK3)
    · refine b_iconst rfl (by decide) ?_
      refine b_goto (tgt := 88) rfl rfl ?_
      refine b_zret rfl rfl (by first | decide | omega) ?_
      first
      | exact k1 (Or.inl hn) I hA
      | exact k1 (Or.inr (by omega)) _ (as_row hK3)
      | exact k0 (fun w => w.elim (fun w => hy w) (fun w => by omega)) _ (as_row hK3)
  · refine ⟨_, rfl, ?_⟩
    refine b_if_ne (tgt := 10) rfl rfl (fun z => absurd z (by decide)) (fun _ => ?_)
    refine b_iconst rfl (by decide) ?_
    refine b_zret rfl rfl (by first | decide | omega) ?_
    first
    | exact k1 (Or.inl hn) I hA
    | exact k1 (Or.inr (by omega)) _ (as_row hK3)
    | exact k0 (fun w => w.elim (fun w => hy w) (fun w => by omega)) _ (as_row hK3)
