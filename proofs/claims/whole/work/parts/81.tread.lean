/-! ===== the class: TextReader ===== -/
/-- faulted: all but the draft is as it was -/
def dW (I : HI) : Prop := ∀ w, w < 6 → 0 ≤ I 15 w ∧ I 15 w ≤ 99 ∧ 0 ≤ I 16 w ∧ I 16 w ≤ 99
def DA (I I' : HI) : Prop := (∀ q k, ¬ (12 ≤ q ∧ q ≤ 22) → ¬ (q = 26 ∧ k = 2) → I' q k = I q k) ∧ cOK I' 13 ∧ 0 ≤ I' 12 7 ∧ I' 12 7 ≤ 1600 ∧ dW I'
def FBd (I : HI) (k pl : Int) (H : HI) : Prop := ∃ I', DA I I' ∧ Lbad I' k pl H
def DI (I : HI) (p : Nat) : Prop := cOK I 13 ∧ (∀ s : Nat, (s : Int) < I 13 1 → 2 ≤ I 15 (6 + s) ∧ I 15 (6 + s) ≤ 4) ∧ 0 ≤ I 12 7 ∧ I 12 7 ≤ (p : Int) ∧ dW I
theorem DA_rf {I : HI} {p : Nat} (h : DI I p) (hp : p ≤ 1600) : DA I I := ⟨fun _ _ _ _ => rfl, h.1, h.2.2.1, by have := h.2.2.2.1; omega, h.2.2.2.2⟩
section TRD
variable {I H : HI} {Q : Option AV → HI → Prop} {n p : Nat} {ts tu k pl : Int}
theorem fbd_of {p' : Nat} (h : DI I p') (hp : p' ≤ 1600) (hb : Lbad I k pl H) : FBd I k pl H := ⟨I, DA_rf h hp, hb⟩
theorem fbd_needWord {w : Int} (hF : FBd I k pl H) (kq : ∀ H', FBd I k pl H' → Q none H') : Rj MX1_needWord 2 [aR 24, aI w] H Q := by
  obtain ⟨I', h1, h2⟩ := hF
  exact sp_needWordB h2 (fun H' h' => kq H' ⟨I', h1, h'⟩)
theorem fbd_needSign {w : Int} (hF : FBd I k pl H) (kq : ∀ H', FBd I k pl H' → Q none H') : Rj MX1_needSign 2 [aR 24, aI w] H Q := by
  obtain ⟨I', h1, h2⟩ := hF
  exact sp_needSignB h2 (fun H' h' => kq H' ⟨I', h1, h'⟩)
theorem fbd_needNumber {a b : Int} (hF : FBd I k pl H) (kq : ∀ H', FBd I k pl H' → Q (some (aI 0)) H') : Rj MX1_needNumber 2 [aR 24, aI a, aI b] H Q := by
  obtain ⟨I', h1, h2⟩ := hF
  exact sp_needNumberB h2 (fun H' h' => kq H' ⟨I', h1, h'⟩)
theorem fbd_needName (hF : FBd I k pl H) (kq : ∀ H', FBd I k pl H' → Q (some (aI 0)) H') : Rj MX1_needName 2 [aR 24] H Q := by
  obtain ⟨I', h1, h2⟩ := hF
  exact sp_needNameB h2 (fun H' h' => kq H' ⟨I', h1, h'⟩)
theorem fbd_fail {w x : Int} (hF : FBd I k pl H) (kq : ∀ H', FBd I k pl H' → Q none H') : Rj MX1_fail 0 [aR 24, aI w, aI x] H Q := by
  obtain ⟨I', h1, h2⟩ := hF
  exact sp_failB h2 (fun H' h' => kq H' ⟨I', h1, h'⟩)
theorem Lok_c13 (hC : cOK I 13) (hL : Lok I n p ts tu H) : cOK H 13 := by
  obtain ⟨po, va, e, h⟩ := hL
  subst e
  exact hC
theorem Lok_fin {kk : Nat} {v : Int} (hL : Lok I n p ts tu H) : finN H kk v = finN I kk v := by
  obtain ⟨po, va, e, h⟩ := hL
  subst e
  rfl
theorem FBd_c13 (hF : FBd I k pl H) : cOK H 13 := by
  obtain ⟨I', h1, po, st, sp, va, wo, ts, tu, e, h⟩ := hF
  subst e
  exact h1.2.1
theorem fin_in {kk : Nat} {v : Int} (hC : cOK H 13) (hk : kk < 3) : -1 ≤ finN H kk v ∧ finN H kk v < 6 := by
  have h1 := hC kk hk
  rcases fi_in (fun w => H 14 (6 * kk + w)) v (H 13 kk).toNat 0 with e | ⟨e1, e2, _⟩
  · unfold finN
    omega
  · unfold finN
    omega
theorem sp_X10_isGiven {v : Int} (hC : cOK H 13) (k1 : givN H v → Q (some (aI 1)) H) (k0 : ¬ givN H v → Q (some (aI 0)) H) : Rj MX10_isGiven 1 [aR 11, aI v] H Q := by
  refine rj_of okX10_isGiven (Nat.le_of_ble_eq_true rfl) rfl ?_
  refine b_aload_n rfl rfl ?_
  refine b_getR (r := 12) rfl fl10_12 rfl (by decide) rfl rfl ?_
  refine b_iconst rfl (by decide) ?_
  refine b_iload_n rfl rfl ?_
  refine b_callV2i (ν := MX3_find) rfl ml10_139 cvX3_find (d' := 0) (by omega) rfl (by decide) rfl (Nat.le_of_ble_eq_true rfl) ?_
  refine sp_X3_find_12 (k := 0) hC (by decide) ?_
  refine ⟨_, rfl, ?_⟩
  refine b_iconst rfl (by decide) ?_
  refine b_icmp_ne (tgt := 39) rfl rfl (fun c10 => ?_) (fun c10 => ?_)
  · refine b_iconst rfl (by decide) ?_
    refine b_goto (tgt := 44) rfl rfl ?_
    refine b_zret rfl rfl (by first | decide | omega) ?_
    first
    | (have hg : givN H v := by unfold givN; omega
       exact k1 hg)
    | (have hg : ¬ givN H v := by unfold givN; omega
       exact k0 hg)
  · refine b_aload_n rfl rfl ?_
    refine b_getR (r := 12) rfl fl10_12 rfl (by decide) rfl rfl ?_
    refine b_iconst rfl (by decide) ?_
    refine b_iload_n rfl rfl ?_
    refine b_callV2i (ν := MX3_find) rfl ml10_139 cvX3_find (d' := 0) (by omega) rfl (by decide) rfl (Nat.le_of_ble_eq_true rfl) ?_
    refine sp_X3_find_12 (k := 1) hC (by decide) ?_
    refine ⟨_, rfl, ?_⟩
    refine b_iconst rfl (by decide) ?_
    refine b_icmp_ne (tgt := 39) rfl rfl (fun c23 => ?_) (fun c23 => ?_)
    · refine b_iconst rfl (by decide) ?_
      refine b_goto (tgt := 44) rfl rfl ?_
      refine b_zret rfl rfl (by first | decide | omega) ?_
      first
      | (have hg : givN H v := by unfold givN; omega
         exact k1 hg)
      | (have hg : ¬ givN H v := by unfold givN; omega
         exact k0 hg)
    · refine b_aload_n rfl rfl ?_
      refine b_getR (r := 12) rfl fl10_12 rfl (by decide) rfl rfl ?_
      refine b_iconst rfl (by decide) ?_
      refine b_iload_n rfl rfl ?_
      refine b_callV2i (ν := MX3_find) rfl ml10_139 cvX3_find (d' := 0) (by omega) rfl (by decide) rfl (Nat.le_of_ble_eq_true rfl) ?_
      refine sp_X3_find_12 (k := 2) hC (by decide) ?_
      refine ⟨_, rfl, ?_⟩
      refine b_iconst rfl (by decide) ?_
      refine b_icmp_eq (tgt := 43) rfl rfl (fun c36 => ?_) (fun c36 => ?_)
      · refine b_iconst rfl (by decide) ?_
        refine b_zret rfl rfl (by first | decide | omega) ?_
        first
        | (have hg : givN H v := by unfold givN; omega
           exact k1 hg)
        | (have hg : ¬ givN H v := by unfold givN; omega
           exact k0 hg)
      · refine b_iconst rfl (by decide) ?_
        refine b_goto (tgt := 44) rfl rfl ?_
        refine b_zret rfl rfl (by first | decide | omega) ?_
        first
        | (have hg : givN H v := by unfold givN; omega
           exact k1 hg)
        | (have hg : ¬ givN H v := by unfold givN; omega
           exact k0 hg)
theorem sp_X10_readKnown {kk : Nat} (hX : TX I n) (hI : DI I p) (hp : p ≤ n) (hk : kk < 3) (hL : Lok I n p ts tu H) (k1 : tk n (I 2) p = 1 ∧ tw n (I 2) p = -1 → finN I kk (tv n (I 2) p) ≠ -1 → ∀ H', Lok I n (te n (I 2) p) (tq n (I 2) p : Int) (tv n (I 2) p) H' → Q (some (aI (finN I kk (tv n (I 2) p)))) H') (k3 : tk n (I 2) p = 1 ∧ tw n (I 2) p = -1 → finN I kk (tv n (I 2) p) = -1 → ∀ H', FBd I 3 (tq n (I 2) p : Int) H' → Q (some (aI (-1))) H') (k0 : ¬ (tk n (I 2) p = 1 ∧ tw n (I 2) p = -1) → ∀ z H', -1 ≤ z ∧ z < 6 → FBd I 1 (tsp n (I 2) p : Int) H' → Q (some (aI z)) H') : Rj MX10_readKnown 3 [aR 11, aI (kk : Int)] H Q := by
  have hn := hX.2.1
  refine rj_of okX10_readKnown (Nat.le_of_ble_eq_true rfl) rfl ?_
  have gd : ∀ (v : Int) (H1 : HI), (tk n (I 2) p = 1 ∧ tw n (I 2) p = -1) → v = finN I kk (tv n (I 2) p) → Lok I n (te n (I 2) p) (tq n (I 2) p : Int) (tv n (I 2) p) H1 → Bj MX10_readKnown 3 16 [some (aR 11), some (aI (kk : Int)), some (aI v)] [] H1 Q := by
    intro v H1 h1 hv hL1
    have hL1' := hL1
    obtain ⟨po, va, e, h⟩ := hL1
    subst e
    refine b_iload_n rfl rfl ?_
    refine b_iconst rfl (by decide) ?_
    refine b_icmp_ne (tgt := 36) rfl rfl (fun c18 => ?_) (fun c18 => ?_)
    · refine b_iload_n rfl rfl ?_
      refine b_iret rfl rfl ?_
      first
      | (have hz : finN I kk (tv n (I 2) p) ≠ -1 := by omega
         exact qI (k1 h1 hz _ hL1') (by omega) rfl)
      | (have hz : finN I kk (tv n (I 2) p) = -1 := by omega
         exact qI (k3 h1 hz _ (fbd_of hI (by omega) hb)) (by omega) rfl)
    · refine b_aload_n rfl rfl ?_
      refine b_getR (r := 24) rfl fl10_30 rfl (by decide) rfl rfl ?_
      refine b_iconst rfl (by decide) ?_
      refine b_aload_n rfl rfl ?_
      refine b_getR (r := 24) rfl fl10_30 rfl (by decide) rfl rfl ?_
      refine b_getI rfl fl10_110 rfl (by decide) rfl ?_
      rw [LX_8]
      refine b_callV2v (ν := MX1_fail) rfl ml10_60 cvX1_fail (d' := 0) (by omega) rfl (by decide) rfl (Nat.le_of_ble_eq_true rfl) ?_
      refine sp_fail (by decide) hL1' (fun H2 hb => ?_)
      refine ⟨rfl, ?_⟩
      refine b_iload_n rfl rfl ?_
      refine b_iret rfl rfl ?_
      first
      | (have hz : finN I kk (tv n (I 2) p) ≠ -1 := by omega
         exact qI (k1 h1 hz _ hL1') (by omega) rfl)
      | (have hz : finN I kk (tv n (I 2) p) = -1 := by omega
         exact qI (k3 h1 hz _ (fbd_of hI (by omega) hb)) (by omega) rfl)
  have bd : ∀ (v : Int) (H1 : HI), ¬ (tk n (I 2) p = 1 ∧ tw n (I 2) p = -1) → -1 ≤ v ∧ v < 6 → FBd I 1 (tsp n (I 2) p : Int) H1 → Bj MX10_readKnown 3 16 [some (aR 11), some (aI (kk : Int)), some (aI v)] [] H1 Q := by
    intro v H1 h1 hv hF
    have hF' := hF
    obtain ⟨I', h3, po, st, sp, va, wo, ts, tu, e, h⟩ := hF
    subst e
    refine b_iload_n rfl rfl ?_
    refine b_iconst rfl (by decide) ?_
    refine b_icmp_ne (tgt := 36) rfl rfl (fun c18 => ?_) (fun c18 => ?_)
    · refine b_iload_n rfl rfl ?_
      refine b_iret rfl rfl ?_
      first
      | exact k0 h1 _ _ hv hb
      | exact k0 h1 _ _ hv hF'
    · refine b_aload_n rfl rfl ?_
      refine b_getR (r := 24) rfl fl10_30 rfl (by decide) rfl rfl ?_
      refine b_iconst rfl (by decide) ?_
      refine b_aload_n rfl rfl ?_
      refine b_getR (r := 24) rfl fl10_30 rfl (by decide) rfl rfl ?_
      refine b_getI rfl fl10_110 rfl (by decide) rfl ?_
      rw [LX_8]
      refine b_callV2v (ν := MX1_fail) rfl ml10_60 cvX1_fail (d' := 0) (by omega) rfl (by decide) rfl (Nat.le_of_ble_eq_true rfl) ?_
      refine fbd_fail hF' (fun H2 hb => ?_)
      refine ⟨rfl, ?_⟩
      refine b_iload_n rfl rfl ?_
      refine b_iret rfl rfl ?_
      first
      | exact k0 h1 _ _ hv hb
      | exact k0 h1 _ _ hv hF'
  refine b_aload_n rfl rfl ?_
  refine b_getR (r := 12) rfl fl10_12 rfl (by decide) rfl rfl ?_
  refine b_iload_n rfl rfl ?_
  refine b_aload_n rfl rfl ?_
  refine b_getR (r := 24) rfl fl10_30 rfl (by decide) rfl rfl ?_
  refine b_callV0i (ν := MX1_needName) rfl ml10_102 cvX1_needName (d' := 2) (by omega) rfl (by decide) rfl (Nat.le_of_ble_eq_true rfl) ?_
  refine sp_needName hX hL (fun h1 h2 H1 hL1 => ?_) (fun h0 H1 hb => ?_)
  · refine ⟨_, rfl, ?_⟩
    refine b_callV2i (ν := MX3_find) rfl ml10_139 cvX3_find (d' := 0) (by omega) rfl (by decide) rfl (Nat.le_of_ble_eq_true rfl) ?_
    first
    | refine sp_X3_find_12 (Lok_c13 hI.1 hL1) hk ?_
    | refine sp_X3_find_12 (FBd_c13 (fbd_of hI (by omega) hb)) hk ?_
    refine ⟨_, rfl, ?_⟩
    refine b_istoreX_n (F := fun z15 => [some (aR 11), some (aI (kk : Int)), some (aI z15)]) rfl (by decide) (fun _ => rfl) (fun z15 ez15 => ?_)
    first
    | exact gd _ _ ⟨h1, h2⟩ (by rw [ez15, Lok_fin hL1]) hL1
    | exact bd _ _ h0 (by rw [ez15]; exact fin_in (FBd_c13 (fbd_of hI (by omega) hb)) hk) (fbd_of hI (by omega) hb)
  · refine ⟨_, rfl, ?_⟩
    refine b_callV2i (ν := MX3_find) rfl ml10_139 cvX3_find (d' := 0) (by omega) rfl (by decide) rfl (Nat.le_of_ble_eq_true rfl) ?_
    first
    | refine sp_X3_find_12 (Lok_c13 hI.1 hL1) hk ?_
    | refine sp_X3_find_12 (FBd_c13 (fbd_of hI (by omega) hb)) hk ?_
    refine ⟨_, rfl, ?_⟩
    refine b_istoreX_n (F := fun z15 => [some (aR 11), some (aI (kk : Int)), some (aI z15)]) rfl (by decide) (fun _ => rfl) (fun z15 ez15 => ?_)
    first
    | exact gd _ _ ⟨h1, h2⟩ (by rw [ez15, Lok_fin hL1]) hL1
    | exact bd _ _ h0 (by rw [ez15]; exact fin_in (FBd_c13 (fbd_of hI (by omega) hb)) hk) (fbd_of hI (by omega) hb)
theorem fbd_readKnown {kk : Nat} (hk : kk < 3) (hF : FBd I k pl H) (kq : ∀ z H', -1 ≤ z ∧ z < 6 → FBd I k pl H' → Q (some (aI z)) H') : Rj MX10_readKnown 3 [aR 11, aI (kk : Int)] H Q := by
  refine rj_of okX10_readKnown (Nat.le_of_ble_eq_true rfl) rfl ?_
  have bd : ∀ (v : Int) (H1 : HI), -1 ≤ v ∧ v < 6 → FBd I k pl H1 → Bj MX10_readKnown 3 16 [some (aR 11), some (aI (kk : Int)), some (aI v)] [] H1 Q := by
    intro v H1 hv hF
    have hF' := hF
    obtain ⟨I', h3, po, st, sp, va, wo, ts, tu, e, h⟩ := hF
    subst e
    refine b_iload_n rfl rfl ?_
    refine b_iconst rfl (by decide) ?_
    refine b_icmp_ne (tgt := 36) rfl rfl (fun c18 => ?_) (fun c18 => ?_)
    · refine b_iload_n rfl rfl ?_
      refine b_iret rfl rfl ?_
      first
      | exact kq _ _ hv hb
      | exact kq _ _ hv hF'
    · refine b_aload_n rfl rfl ?_
      refine b_getR (r := 24) rfl fl10_30 rfl (by decide) rfl rfl ?_
      refine b_iconst rfl (by decide) ?_
      refine b_aload_n rfl rfl ?_
      refine b_getR (r := 24) rfl fl10_30 rfl (by decide) rfl rfl ?_
      refine b_getI rfl fl10_110 rfl (by decide) rfl ?_
      rw [LX_8]
      refine b_callV2v (ν := MX1_fail) rfl ml10_60 cvX1_fail (d' := 0) (by omega) rfl (by decide) rfl (Nat.le_of_ble_eq_true rfl) ?_
      refine fbd_fail hF' (fun H2 hb => ?_)
      refine ⟨rfl, ?_⟩
      refine b_iload_n rfl rfl ?_
      refine b_iret rfl rfl ?_
      first
      | exact kq _ _ hv hb
      | exact kq _ _ hv hF'
  refine b_aload_n rfl rfl ?_
  refine b_getR (r := 12) rfl fl10_12 rfl (by decide) rfl rfl ?_
  refine b_iload_n rfl rfl ?_
  refine b_aload_n rfl rfl ?_
  refine b_getR (r := 24) rfl fl10_30 rfl (by decide) rfl rfl ?_
  refine b_callV0i (ν := MX1_needName) rfl ml10_102 cvX1_needName (d' := 2) (by omega) rfl (by decide) rfl (Nat.le_of_ble_eq_true rfl) ?_
  refine fbd_needName hF (fun H1 hb => ?_)
  refine ⟨_, rfl, ?_⟩
  refine b_callV2i (ν := MX3_find) rfl ml10_139 cvX3_find (d' := 0) (by omega) rfl (by decide) rfl (Nat.le_of_ble_eq_true rfl) ?_
  refine sp_X3_find_12 (FBd_c13 hb) hk ?_
  refine ⟨_, rfl, ?_⟩
  refine b_istoreX_n (F := fun z15 => [some (aR 11), some (aI (kk : Int)), some (aI z15)]) rfl (by decide) (fun _ => rfl) (fun z15 ez15 => ?_)
  exact bd _ _ (by rw [ez15]; exact fin_in (FBd_c13 hb) hk) hb
/-- what a statement gives, as the class has it -/
def SO (n : Nat) (I : HI) (r : SRt) (H : HI) : Prop := match r with
  | .inl e => FBd I e.1 e.2 H
  | .inr (I', p') => ∃ ts tu, Lok I' n p' ts tu H
theorem SO_l {r : SRt} {e1 e2 : Int} (h : r = .inl (e1, e2)) (hF : FBd I e1 e2 H) : SO n I r H := by
  rw [h]
  exact hF
theorem SO_r {r : SRt} {I' : HI} {p' : Nat} (h : r = .inr (I', p')) (hL : Lok I' n p' ts tu H) : SO n I r H := by
  rw [h]
  exact ⟨_, _, hL⟩
theorem sp_X10_readGale (hX : TX I n) (hI : DI I p) (hp : p ≤ n) (hk : tk n (I 2) p = 1) (hL : Lok I n p ts tu H) (kq : ∀ H', SO n I (stGa n I p) H' → Q none H') : Rj MX10_readGale 3 [aR 11] H Q := by
  have hn := hX.2.1
  refine rj_of okX10_readGale (Nat.le_of_ble_eq_true rfl) rfl ?_
  have gd : ∀ (v : Int) (H1 : HI), stGa n I p = .inr (up I 12 8 v, te n (I 2) (te n (I 2) p)) → (∃ ts tu, Lok I n (te n (I 2) (te n (I 2) p)) ts tu H1) → Bj MX10_readGale 3 17 [some (aR 11), none] [aI v] H1 Q := by
    intro v H1 e1 hL1
    obtain ⟨ts, tu, po, va, e, h⟩ := hL1
    subst e
    refine b_istoreX_n (F := fun z17 => [some (aR 11), some (aI z17)]) rfl (by decide) (fun _ => rfl) (fun z17 ez17 => ?_)
    refine b_aload_n rfl rfl ?_
    refine b_getR (r := 24) rfl fl10_30 rfl (by decide) rfl rfl ?_
    refine b_getI rfl fl10_50 rfl (by decide) rfl ?_
    rw [LX_10]
    refine b_if_ne (tgt := 36) rfl rfl (fun c25 => ?_) (fun c25 => ?_)
    · omega
    · refine b_aload_n rfl rfl ?_
      refine b_getR (r := 12) rfl fl10_12 rfl (by decide) rfl rfl ?_
      refine b_iload_n rfl rfl ?_
      refine b_putI rfl fl10_166 rfl (by decide) rfl ?_
      rw [LX_ux (by decide)]
      refine b_vret rfl rfl ?_
      exact kq _ (SO_r e1 ⟨po, va, by rw [ez17]; rfl, h⟩)
  have bd : ∀ (v k pl : Int) (H1 : HI), stGa n I p = .inl (k, pl) → FBd I k pl H1 → Bj MX10_readGale 3 17 [some (aR 11), none] [aI v] H1 Q := by
    intro v k pl H1 e1 hF
    have hF' := hF
    obtain ⟨I', h3, po, st, sp, va, wo, ts, tu, e, h⟩ := hF
    subst e
    refine b_istoreX_n (F := fun z17 => [some (aR 11), some (aI z17)]) rfl (by decide) (fun _ => rfl) (fun z17 ez17 => ?_)
    refine b_aload_n rfl rfl ?_
    refine b_getR (r := 24) rfl fl10_30 rfl (by decide) rfl rfl ?_
    refine b_getI rfl fl10_50 rfl (by decide) rfl ?_
    rw [LX_10]
    refine b_if_ne (tgt := 36) rfl rfl (fun c25 => ?_) (fun c25 => ?_)
    · refine b_vret rfl rfl ?_
      exact kq _ (SO_l e1 hF')
    · omega
  have ht := te_gp (Or.inl hk : tk n (I 2) p = 1 ∨ tk n (I 2) p = 2 ∨ tk n (I 2) p = 3)
  refine b_aload_n rfl rfl ?_
  refine b_getR (r := 24) rfl fl10_30 rfl (by decide) rfl rfl ?_
  refine b_callV0v (ν := MX1_take) rfl ml10_99 cvX1_take (d' := 1) (by omega) rfl (by decide) rfl (Nat.le_of_ble_eq_true rfl) ?_
  refine sp_take hX hL (Or.inl hk) (fun H1 hL1 => ?_)
  refine ⟨rfl, ?_⟩
  refine b_aload_n rfl rfl ?_
  refine b_getR (r := 24) rfl fl10_30 rfl (by decide) rfl rfl ?_
  refine b_iconst rfl (by decide) ?_
  refine b_bipush rfl (by decide) ?_
  refine b_callV2i (ν := MX1_needNumber) rfl ml10_125 cvX1_needNumber (d' := 2) (by omega) rfl (by decide) rfl (Nat.le_of_ble_eq_true rfl) ?_
  exact sp_needNumber hX hL1 (fun h1 h2 h3 H2 hL2 => ⟨_, rfl, gd _ _ ((if_pos h1).trans (if_pos ⟨h2, h3⟩)) ⟨_, _, hL2⟩⟩) (fun h1 h2 H2 hb => ⟨_, rfl, bd _ _ _ _ ((if_pos h1).trans (if_neg h2)) (fbd_of hI (by omega) hb)⟩) (fun h1 H2 hb => ⟨_, rfl, bd _ _ _ _ (if_neg h1) (fbd_of hI (by omega) hb)⟩)
end TRD
