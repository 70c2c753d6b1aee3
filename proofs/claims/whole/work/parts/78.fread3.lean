/-! ===== the class: FormulaReader reads as P does ===== -/
def CTr (I0 : HI) (n k0 se : Nat) (μ : MR) (e m f : Nat) : Prop := ∀ (dp d : Nat) (r : Res) (H : HI) (Q : Option AV → HI → Prop), dp ≤ 7 → 10 * (7 - dp) + e ≤ d → RS I0 n k0 r H → Ro k0 0 n r → NF (bnd r (P n (I0 2) se f m dp)) → (∀ H', RS I0 n k0 (bnd r (P n (I0 2) se f m dp)) H' → Q none H') → Rj μ d [aR 26, aI (dp : Int)] H Q
section FRY
variable {I0 H : HI} {n k0 se : Nat} {r : Res} {Q : Option AV → HI → Prop}
theorem lo_no {p : Nat} {c : List Int} : pcat c (.inr (p, [])) = .inr (p, c) := by
  show Sum.inr (p, c ++ []) = _
  rw [List.append_nil]
theorem ct_test {f : Nat} (hX : TX I0 n) (hc : ∀ g, g < f → CTr I0 n k0 se MX0_readBoth 8 1 g) : CTr I0 n k0 se MX0_readTest 9 0 f := by
  intro dp d r H Q hdp hd hS hR hN kq
  cases r with
  | inl e => exact fc_test hX _ _ e.1 e.2 H Q (by omega) hS kq
  | inr y =>
  obtain ⟨p, c⟩ := y
  cases f with
  | zero => exact absurd rfl (hN 0)
  | succ f =>
  have hn := hX.2.1
  have eA : bnd (.inr (p, c)) (P n (I0 2) se (f + 1) 0 dp) = bnd (bnd (.inr (p, c)) (P n (I0 2) se f 1 dp)) (P n (I0 2) se f 6 dp) := bnd_assoc.symm
  rw [eA] at hN kq
  refine rj_of okX0_readTest (Nat.le_of_ble_eq_true rfl) rfl ?_
  have li : ∀ (z k pl : Int) (H1 : HI), RS I0 n k0 (.inl (k, pl)) H1 → (∀ H', RS I0 n k0 (.inl (k, pl)) H' → Q none H') → Bj MX0_readTest d 7 [some (aR 26), some (aI (dp : Int)), some (aI z)] [] H1 Q := by
    intro z k pl H1 s1 k1
    refine b_iload_n rfl rfl ?_
    refine b_sipush rfl (by decide) ?_
    refine b_icmp_ge (tgt := 46) rfl rfl (fun c11 => ?_) (fun c11 => ?_)
    · refine b_vret rfl rfl ?_
      exact k1 _ s1
    · refine b_aload_n rfl rfl ?_
      refine b_getR (r := 24) rfl fl0_9 rfl (by decide) rfl rfl ?_
      refine b_bipush rfl (by decide) ?_
      refine b_callV1i (ν := MX1_takeWord) rfl ml0_67 cvX1_takeWord (d' := 2) (by omega) rfl (by decide) rfl (Nat.le_of_ble_eq_true rfl) ?_
      refine rs_takeWordB s1 ?_
      refine ⟨_, rfl, ?_⟩
      refine b_if_eq (tgt := 46) rfl rfl (fun c23 => ?_) (fun c23 => ?_)
      · refine b_vret rfl rfl ?_
        exact k1 _ s1
      · omega
  have lp : ∀ g, g ≤ f → ∀ (b : Nat) (z : Int) (r1 : Res) (H1 : HI), RS I0 n k0 r1 H1 → Ro k0 (b + 1) n r1 → z = (b : Int) → NF (bnd r1 (P n (I0 2) se g 6 dp)) → (∀ H', RS I0 n k0 (bnd r1 (P n (I0 2) se g 6 dp)) H' → Q none H') → Bj MX0_readTest d 7 [some (aR 26), some (aI (dp : Int)), some (aI z)] [] H1 Q := by
    intro g
    induction g with
    | zero =>
      intro _ b z r1 H1 s1 o1 hz n1 k1
      cases r1 with
      | inl e => exact li z e.1 e.2 H1 s1 k1
      | inr y => exact absurd rfl (n1 0)
    | succ g ih =>
      intro hg b z r1 H1 s1 o1 hz n1 k1
      cases r1 with
      | inl e => exact li z e.1 e.2 H1 s1 k1
      | inr y =>
        obtain ⟨p1, c1⟩ := y
        have hb := o1 p1 c1 rfl
        have eY : tw n (I0 2) p1 = 23 → bnd (.inr (p1, c1)) (P n (I0 2) se (g + 1) 6 dp) = bnd (emi (bnd (.inr (te n (I0 2) p1, c1)) (P n (I0 2) se g 1 dp)) (-11)) (P n (I0 2) se g 6 dp) := by
          intro hw
          rw [bnd_inr, show P n (I0 2) se (g + 1) 6 dp p1 = bnd (emi (P n (I0 2) se g 1 dp (te n (I0 2) p1)) (-11)) (P n (I0 2) se g 6 dp) from if_pos hw, pre_bnd, pre_emi]
          rfl
        have eN : tw n (I0 2) p1 ≠ 23 → bnd (.inr (p1, c1)) (P n (I0 2) se (g + 1) 6 dp) = .inr (p1, c1) := by
          intro hw
          rw [bnd_inr, show P n (I0 2) se (g + 1) 6 dp p1 = .inr (p1, []) from if_neg hw, lo_no]
        refine b_iload_n rfl rfl ?_
        refine b_sipush rfl (by decide) ?_
        refine b_icmp_ge (tgt := 46) rfl rfl (fun c11 => ?_) (fun c11 => ?_)
        · omega
        · refine b_aload_n rfl rfl ?_
          refine b_getR (r := 24) rfl fl0_9 rfl (by decide) rfl rfl ?_
          refine b_bipush rfl (by decide) ?_
          refine b_callV1i (ν := MX1_takeWord) rfl ml0_67 cvX1_takeWord (d' := 2) (by omega) rfl (by decide) rfl (Nat.le_of_ble_eq_true rfl) ?_
          refine rs_takeWord hX (by decide) s1 (fun hw H2 hL2 => ?_) (fun hw => ?_)
          · refine ⟨_, rfl, ?_⟩
            refine b_if_eq (tgt := 46) rfl rfl (fun z => absurd z (by decide)) (fun _ => ?_)
            refine b_aload_n rfl rfl ?_
            refine b_iload_n rfl rfl ?_
            refine b_callV1v (ν := MX0_readBoth) rfl ml0_64 cvX0_readBoth (d' := (10 * (7 - dp) + 8)) (by omega) rfl (by decide) rfl (Nat.le_of_ble_eq_true rfl) ?_
            have o2 := ro_te (B := I0 2) o1 (tw_c (by decide) hw)
            rw [eY hw] at n1 k1
            refine hc g (by omega) dp _ (.inr (te n (I0 2) p1, c1)) H2 _ hdp (Nat.le_refl _) ⟨_, _, hL2⟩ (o2.w (by omega) (by omega)) (nf_emi.1 (nf_bnd n1)) (fun H3 s3 => ?_)
            have o3 := ro_bnd (g := P n (I0 2) se g 1 dp) o2 (fun q hq => (ro_P g _ _ q hq).1)
            refine ⟨rfl, ?_⟩
            refine b_aload_n rfl rfl ?_
            refine b_getR (r := 12) rfl fl0_15 rfl (by decide) rfl rfl ?_
            refine b_bipush rfl (by decide) ?_
            refine b_callV1v (ν := MX3_emit) rfl ml0_70 cvX3_emit (d' := 0) (by omega) rfl (by decide) rfl (Nat.le_of_ble_eq_true rfl) ?_
            refine rs_emit hn s3 (o3.w (by omega) (by omega)) (fun H4 s4 => ?_)
            refine ⟨rfl, ?_⟩
            refine b_iincX (F := fun z40 => [some (aR 26), some (aI (dp : Int)), some (aI z40)]) rfl rfl (by omega) (by omega) (fun _ => rfl) (fun z40 ez40 => ?_)
            refine b_goto (tgt := 7) rfl rfl ?_
            exact ih (by omega) (b + 1) _ _ _ s4 ((ro_emi o3).w (by omega) (by omega)) (by omega) n1 k1
          · refine ⟨_, rfl, ?_⟩
            refine b_if_eq (tgt := 46) rfl rfl (fun _ => ?_) (fun z => absurd z (by decide))
            refine b_vret rfl rfl ?_
            exact k1 _ (rsE (eN hw) s1)
  refine b_aload_n rfl rfl ?_
  refine b_iload_n rfl rfl ?_
  refine b_callV1v (ν := MX0_readBoth) rfl ml0_64 cvX0_readBoth (d' := (10 * (7 - dp) + 8)) (by omega) rfl (by decide) rfl (Nat.le_of_ble_eq_true rfl) ?_
  refine hc f (by omega) dp _ _ _ _ hdp (Nat.le_refl _) hS hR (nf_bnd hN) (fun H1 s1 => ?_)
  refine ⟨rfl, ?_⟩
  refine b_iconst rfl (by decide) ?_
  refine b_istoreX_n (F := fun z6 => [some (aR 26), some (aI (dp : Int)), some (aI z6)]) rfl (by decide) (fun _ => rfl) (fun z6 ez6 => ?_)
  exact lp f (by omega) 0 _ _ _ s1 (ro_bnd1 hR (fun q hq => (ro_P f _ _ q hq).2 (by decide))) (by omega) hN kq
theorem ct_both {f : Nat} (hX : TX I0 n) (hc : ∀ g, g < f → CTr I0 n k0 se MX0_readFact 7 2 g) : CTr I0 n k0 se MX0_readBoth 8 1 f := by
  intro dp d r H Q hdp hd hS hR hN kq
  cases r with
  | inl e => exact fc_both hX _ _ e.1 e.2 H Q (by omega) hS kq
  | inr y =>
  obtain ⟨p, c⟩ := y
  cases f with
  | zero => exact absurd rfl (hN 0)
  | succ f =>
  have hn := hX.2.1
  have eA : bnd (.inr (p, c)) (P n (I0 2) se (f + 1) 1 dp) = bnd (bnd (.inr (p, c)) (P n (I0 2) se f 2 dp)) (P n (I0 2) se f 7 dp) := bnd_assoc.symm
  rw [eA] at hN kq
  refine rj_of okX0_readBoth (Nat.le_of_ble_eq_true rfl) rfl ?_
  have li : ∀ (z k pl : Int) (H1 : HI), RS I0 n k0 (.inl (k, pl)) H1 → (∀ H', RS I0 n k0 (.inl (k, pl)) H' → Q none H') → Bj MX0_readBoth d 7 [some (aR 26), some (aI (dp : Int)), some (aI z)] [] H1 Q := by
    intro z k pl H1 s1 k1
    refine b_iload_n rfl rfl ?_
    refine b_sipush rfl (by decide) ?_
    refine b_icmp_ge (tgt := 46) rfl rfl (fun c11 => ?_) (fun c11 => ?_)
    · refine b_vret rfl rfl ?_
      exact k1 _ s1
    · refine b_aload_n rfl rfl ?_
      refine b_getR (r := 24) rfl fl0_9 rfl (by decide) rfl rfl ?_
      refine b_bipush rfl (by decide) ?_
      refine b_callV1i (ν := MX1_takeWord) rfl ml0_67 cvX1_takeWord (d' := 2) (by omega) rfl (by decide) rfl (Nat.le_of_ble_eq_true rfl) ?_
      refine rs_takeWordB s1 ?_
      refine ⟨_, rfl, ?_⟩
      refine b_if_eq (tgt := 46) rfl rfl (fun c23 => ?_) (fun c23 => ?_)
      · refine b_vret rfl rfl ?_
        exact k1 _ s1
      · omega
  have lp : ∀ g, g ≤ f → ∀ (b : Nat) (z : Int) (r1 : Res) (H1 : HI), RS I0 n k0 r1 H1 → Ro k0 (b + 1) n r1 → z = (b : Int) → NF (bnd r1 (P n (I0 2) se g 7 dp)) → (∀ H', RS I0 n k0 (bnd r1 (P n (I0 2) se g 7 dp)) H' → Q none H') → Bj MX0_readBoth d 7 [some (aR 26), some (aI (dp : Int)), some (aI z)] [] H1 Q := by
    intro g
    induction g with
    | zero =>
      intro _ b z r1 H1 s1 o1 hz n1 k1
      cases r1 with
      | inl e => exact li z e.1 e.2 H1 s1 k1
      | inr y => exact absurd rfl (n1 0)
    | succ g ih =>
      intro hg b z r1 H1 s1 o1 hz n1 k1
      cases r1 with
      | inl e => exact li z e.1 e.2 H1 s1 k1
      | inr y =>
        obtain ⟨p1, c1⟩ := y
        have hb := o1 p1 c1 rfl
        have eY : tw n (I0 2) p1 = 24 → bnd (.inr (p1, c1)) (P n (I0 2) se (g + 1) 7 dp) = bnd (emi (bnd (.inr (te n (I0 2) p1, c1)) (P n (I0 2) se g 2 dp)) (-12)) (P n (I0 2) se g 7 dp) := by
          intro hw
          rw [bnd_inr, show P n (I0 2) se (g + 1) 7 dp p1 = bnd (emi (P n (I0 2) se g 2 dp (te n (I0 2) p1)) (-12)) (P n (I0 2) se g 7 dp) from if_pos hw, pre_bnd, pre_emi]
          rfl
        have eN : tw n (I0 2) p1 ≠ 24 → bnd (.inr (p1, c1)) (P n (I0 2) se (g + 1) 7 dp) = .inr (p1, c1) := by
          intro hw
          rw [bnd_inr, show P n (I0 2) se (g + 1) 7 dp p1 = .inr (p1, []) from if_neg hw, lo_no]
        refine b_iload_n rfl rfl ?_
        refine b_sipush rfl (by decide) ?_
        refine b_icmp_ge (tgt := 46) rfl rfl (fun c11 => ?_) (fun c11 => ?_)
        · omega
        · refine b_aload_n rfl rfl ?_
          refine b_getR (r := 24) rfl fl0_9 rfl (by decide) rfl rfl ?_
          refine b_bipush rfl (by decide) ?_
          refine b_callV1i (ν := MX1_takeWord) rfl ml0_67 cvX1_takeWord (d' := 2) (by omega) rfl (by decide) rfl (Nat.le_of_ble_eq_true rfl) ?_
          refine rs_takeWord hX (by decide) s1 (fun hw H2 hL2 => ?_) (fun hw => ?_)
          · refine ⟨_, rfl, ?_⟩
            refine b_if_eq (tgt := 46) rfl rfl (fun z => absurd z (by decide)) (fun _ => ?_)
            refine b_aload_n rfl rfl ?_
            refine b_iload_n rfl rfl ?_
            refine b_callV1v (ν := MX0_readFact) rfl ml0_73 cvX0_readFact (d' := (10 * (7 - dp) + 7)) (by omega) rfl (by decide) rfl (Nat.le_of_ble_eq_true rfl) ?_
            have o2 := ro_te (B := I0 2) o1 (tw_c (by decide) hw)
            rw [eY hw] at n1 k1
            refine hc g (by omega) dp _ (.inr (te n (I0 2) p1, c1)) H2 _ hdp (Nat.le_refl _) ⟨_, _, hL2⟩ (o2.w (by omega) (by omega)) (nf_emi.1 (nf_bnd n1)) (fun H3 s3 => ?_)
            have o3 := ro_bnd (g := P n (I0 2) se g 2 dp) o2 (fun q hq => (ro_P g _ _ q hq).1)
            refine ⟨rfl, ?_⟩
            refine b_aload_n rfl rfl ?_
            refine b_getR (r := 12) rfl fl0_15 rfl (by decide) rfl rfl ?_
            refine b_bipush rfl (by decide) ?_
            refine b_callV1v (ν := MX3_emit) rfl ml0_70 cvX3_emit (d' := 0) (by omega) rfl (by decide) rfl (Nat.le_of_ble_eq_true rfl) ?_
            refine rs_emit hn s3 (o3.w (by omega) (by omega)) (fun H4 s4 => ?_)
            refine ⟨rfl, ?_⟩
            refine b_iincX (F := fun z40 => [some (aR 26), some (aI (dp : Int)), some (aI z40)]) rfl rfl (by omega) (by omega) (fun _ => rfl) (fun z40 ez40 => ?_)
            refine b_goto (tgt := 7) rfl rfl ?_
            exact ih (by omega) (b + 1) _ _ _ s4 ((ro_emi o3).w (by omega) (by omega)) (by omega) n1 k1
          · refine ⟨_, rfl, ?_⟩
            refine b_if_eq (tgt := 46) rfl rfl (fun _ => ?_) (fun z => absurd z (by decide))
            refine b_vret rfl rfl ?_
            exact k1 _ (rsE (eN hw) s1)
  refine b_aload_n rfl rfl ?_
  refine b_iload_n rfl rfl ?_
  refine b_callV1v (ν := MX0_readFact) rfl ml0_73 cvX0_readFact (d' := (10 * (7 - dp) + 7)) (by omega) rfl (by decide) rfl (Nat.le_of_ble_eq_true rfl) ?_
  refine hc f (by omega) dp _ _ _ _ hdp (Nat.le_refl _) hS hR (nf_bnd hN) (fun H1 s1 => ?_)
  refine ⟨rfl, ?_⟩
  refine b_iconst rfl (by decide) ?_
  refine b_istoreX_n (F := fun z6 => [some (aR 26), some (aI (dp : Int)), some (aI z6)]) rfl (by decide) (fun _ => rfl) (fun z6 ez6 => ?_)
  exact lp f (by omega) 0 _ _ _ s1 (ro_bnd1 hR (fun q hq => (ro_P f _ _ q hq).2 (by decide))) (by omega) hN kq
theorem ct_sum {f : Nat} (hX : TX I0 n) (hc : ∀ g, g < f → CTr I0 n k0 se MX0_readProduct 5 4 g) : CTr I0 n k0 se MX0_readSum 6 3 f := by
  intro dp d r H Q hdp hd hS hR hN kq
  cases r with
  | inl e => exact fc_sum _ _ e.1 e.2 H Q (by omega) hS kq
  | inr y =>
  obtain ⟨p, c⟩ := y
  cases f with
  | zero => exact absurd rfl (hN 0)
  | succ f =>
  have hn := hX.2.1
  have eA : bnd (.inr (p, c)) (P n (I0 2) se (f + 1) 3 dp) = bnd (bnd (.inr (p, c)) (P n (I0 2) se f 4 dp)) (P n (I0 2) se f 8 dp) := bnd_assoc.symm
  rw [eA] at hN kq
  refine rj_of okX0_readSum (Nat.le_of_ble_eq_true rfl) rfl ?_
  have ex : ∀ (y z : Int) (H1 : HI), y = 0 → Q none H1 → Bj MX0_readSum d 9 [some (aR 26), some (aI (dp : Int)), some (aI y), some (aI z)] [] H1 Q := by
    intro y z H1 hy k1
    refine b_iload_n rfl rfl ?_
    refine b_sipush rfl (by decide) ?_
    refine b_icmp_ge (tgt := 86) rfl rfl (fun c13 => ?_) (fun c13 => ?_)
    · refine b_vret rfl rfl ?_
      exact k1
    · refine b_iload_n rfl rfl ?_
      refine b_if_eq (tgt := 86) rfl rfl (fun c17 => ?_) (fun c17 => ?_)
      · refine b_vret rfl rfl ?_
        exact k1
      · omega
  have li : ∀ (y z k pl : Int) (H1 : HI), y = 1 → 0 ≤ z → z ≤ 1600 → RS I0 n k0 (.inl (k, pl)) H1 → (∀ H', RS I0 n k0 (.inl (k, pl)) H' → Q none H') → Bj MX0_readSum d 9 [some (aR 26), some (aI (dp : Int)), some (aI y), some (aI z)] [] H1 Q := by
    intro y z k pl H1 hy z0 z1 s1 k1
    refine b_iload_n rfl rfl ?_
    refine b_sipush rfl (by decide) ?_
    refine b_icmp_ge (tgt := 86) rfl rfl (fun c13 => ?_) (fun c13 => ?_)
    · refine b_vret rfl rfl ?_
      exact k1 _ s1
    · refine b_iload_n rfl rfl ?_
      refine b_if_eq (tgt := 86) rfl rfl (fun c17 => ?_) (fun c17 => ?_)
      · omega
      · refine b_aload_n rfl rfl ?_
        refine b_getR (r := 24) rfl fl0_9 rfl (by decide) rfl rfl ?_
        refine b_bipush rfl (by decide) ?_
        refine b_callV1i (ν := MX1_takeSign) rfl ml0_79 cvX1_takeSign (d' := 2) (by omega) rfl (by decide) rfl (Nat.le_of_ble_eq_true rfl) ?_
        refine rs_takeSignB s1 ?_
        refine ⟨_, rfl, ?_⟩
        refine b_if_eq (tgt := 49) rfl rfl (fun c29 => ?_) (fun c29 => ?_)
        · refine b_aload_n rfl rfl ?_
          refine b_getR (r := 24) rfl fl0_9 rfl (by decide) rfl rfl ?_
          refine b_bipush rfl (by decide) ?_
          refine b_callV1i (ν := MX1_takeSign) rfl ml0_79 cvX1_takeSign (d' := 2) (by omega) rfl (by decide) rfl (Nat.le_of_ble_eq_true rfl) ?_
          refine rs_takeSignB s1 ?_
          refine ⟨_, rfl, ?_⟩
          refine b_if_eq (tgt := 78) rfl rfl (fun c58 => ?_) (fun c58 => ?_)
          · refine b_iconst rfl (by decide) ?_
            refine b_istoreX_n (F := fun z79 => [some (aR 26), some (aI (dp : Int)), some (aI z79), some (aI z)]) rfl (by decide) (fun _ => rfl) (fun z79 ez79 => ?_)
            refine b_iincX (F := fun z80 => [some (aR 26), some (aI (dp : Int)), some (aI z79), some (aI z80)]) rfl rfl (by omega) (by omega) (fun _ => rfl) (fun z80 ez80 => ?_)
            refine b_goto (tgt := 9) rfl rfl ?_
            exact ex _ _ _ (by omega) (k1 _ s1)
          · omega
        · omega
  have lp : ∀ g, g ≤ f → ∀ (b : Nat) (y z : Int) (r1 : Res) (H1 : HI), y = 1 → RS I0 n k0 r1 H1 → Ro k0 (b + 1) n r1 → z = (b : Int) → b ≤ 1600 → NF (bnd r1 (P n (I0 2) se g 8 dp)) → (∀ H', RS I0 n k0 (bnd r1 (P n (I0 2) se g 8 dp)) H' → Q none H') → Bj MX0_readSum d 9 [some (aR 26), some (aI (dp : Int)), some (aI y), some (aI z)] [] H1 Q := by
    intro g
    induction g with
    | zero =>
      intro _ b y z r1 H1 hy s1 o1 hz hb16 n1 k1
      cases r1 with
      | inl e => exact li y z e.1 e.2 H1 hy (by omega) (by omega) s1 k1
      | inr y => exact absurd rfl (n1 0)
    | succ g ih =>
      intro hg b y z r1 H1 hy s1 o1 hz hb16 n1 k1
      cases r1 with
      | inl e => exact li y z e.1 e.2 H1 hy (by omega) (by omega) s1 k1
      | inr y1 =>
        obtain ⟨p1, c1⟩ := y1
        have hb := o1 p1 c1 rfl
        have eY43 : sg n (I0 2) p1 43 → bnd (.inr (p1, c1)) (P n (I0 2) se (g + 1) 8 dp) = bnd (emi (bnd (.inr (te n (I0 2) p1, c1)) (P n (I0 2) se g 4 dp)) (-16)) (P n (I0 2) se g 8 dp) := by
          intro  hw
          rw [bnd_inr, show P n (I0 2) se (g + 1) 8 dp p1 = bnd (emi (P n (I0 2) se g 4 dp (te n (I0 2) p1)) (-16)) (P n (I0 2) se g 8 dp) from if_pos hw, pre_bnd, pre_emi]
          rfl
        have eY45 : ¬ sg n (I0 2) p1 43 → sg n (I0 2) p1 45 → bnd (.inr (p1, c1)) (P n (I0 2) se (g + 1) 8 dp) = bnd (emi (bnd (.inr (te n (I0 2) p1, c1)) (P n (I0 2) se g 4 dp)) (-17)) (P n (I0 2) se g 8 dp) := by
          intro h43 hw
          rw [bnd_inr, show P n (I0 2) se (g + 1) 8 dp p1 = bnd (emi (P n (I0 2) se g 4 dp (te n (I0 2) p1)) (-17)) (P n (I0 2) se g 8 dp) from (if_neg h43).trans (if_pos hw), pre_bnd, pre_emi]
          rfl
        have eN : ¬ sg n (I0 2) p1 43 → ¬ sg n (I0 2) p1 45 → bnd (.inr (p1, c1)) (P n (I0 2) se (g + 1) 8 dp) = .inr (p1, c1) := by
          intro h43 h45
          rw [bnd_inr, show P n (I0 2) se (g + 1) 8 dp p1 = .inr (p1, []) from (if_neg h43).trans (if_neg h45), lo_no]
        refine b_iload_n rfl rfl ?_
        refine b_sipush rfl (by decide) ?_
        refine b_icmp_ge (tgt := 86) rfl rfl (fun c13 => ?_) (fun c13 => ?_)
        · omega
        · refine b_iload_n rfl rfl ?_
          refine b_if_eq (tgt := 86) rfl rfl (fun c17 => ?_) (fun c17 => ?_)
          · omega
          · refine b_aload_n rfl rfl ?_
            refine b_getR (r := 24) rfl fl0_9 rfl (by decide) rfl rfl ?_
            refine b_bipush rfl (by decide) ?_
            refine b_callV1i (ν := MX1_takeSign) rfl ml0_79 cvX1_takeSign (d' := 2) (by omega) rfl (by decide) rfl (Nat.le_of_ble_eq_true rfl) ?_
            refine rs_takeSign hX s1 (fun y43 H2 hL2 => ?_) (fun h43 => ?_)
            · refine ⟨_, rfl, ?_⟩
              refine b_if_eq (tgt := 49) rfl rfl (fun z => absurd z (by decide)) (fun _ => ?_)
              refine b_aload_n rfl rfl ?_
              refine b_iload_n rfl rfl ?_
              refine b_callV1v (ν := MX0_readProduct) rfl ml0_98 cvX0_readProduct (d' := (10 * (7 - dp) + 5)) (by omega) rfl (by decide) rfl (Nat.le_of_ble_eq_true rfl) ?_
              have o2 := ro_te (B := I0 2) o1 (sg_c y43)
              rw [eY43  y43] at n1 k1
              refine hc g (by omega) dp _ (.inr (te n (I0 2) p1, c1)) H2 _ hdp (Nat.le_refl _) ⟨_, _, hL2⟩ (o2.w (by omega) (by omega)) (nf_emi.1 (nf_bnd n1)) (fun H3 s3 => ?_)
              have o3 := ro_bnd (g := P n (I0 2) se g 4 dp) o2 (fun q hq => (ro_P g _ _ q hq).1)
              refine ⟨rfl, ?_⟩
              refine b_aload_n rfl rfl ?_
              refine b_getR (r := 12) rfl fl0_15 rfl (by decide) rfl rfl ?_
              refine b_bipush rfl (by decide) ?_
              refine b_callV1v (ν := MX3_emit) rfl ml0_70 cvX3_emit (d' := 0) (by omega) rfl (by decide) rfl (Nat.le_of_ble_eq_true rfl) ?_
              refine rs_emit hn s3 (o3.w (by omega) (by omega)) (fun H4 s4 => ?_)
              refine ⟨rfl, ?_⟩
              refine b_goto (tgt := 80) rfl rfl ?_
              refine b_iincX (F := fun z80 => [some (aR 26), some (aI (dp : Int)), some (aI y), some (aI z80)]) rfl rfl (by omega) (by omega) (fun _ => rfl) (fun z80 ez80 => ?_)
              refine b_goto (tgt := 9) rfl rfl ?_
              first
              | exact ih (by omega) (b + 1) _ _ _ _ hy s4 ((ro_emi o3).w (by omega) (by omega)) (by omega) (by omega) n1 k1
              | exact ex _ _ _ (by omega) (k1 _ (rsE (eN h43 h45) s1))
            · refine ⟨_, rfl, ?_⟩
              refine b_if_eq (tgt := 49) rfl rfl (fun _ => ?_) (fun z => absurd z (by decide))
              refine b_aload_n rfl rfl ?_
              refine b_getR (r := 24) rfl fl0_9 rfl (by decide) rfl rfl ?_
              refine b_bipush rfl (by decide) ?_
              refine b_callV1i (ν := MX1_takeSign) rfl ml0_79 cvX1_takeSign (d' := 2) (by omega) rfl (by decide) rfl (Nat.le_of_ble_eq_true rfl) ?_
              refine rs_takeSign hX s1 (fun y45 H2 hL2 => ?_) (fun h45 => ?_)
              · refine ⟨_, rfl, ?_⟩
                refine b_if_eq (tgt := 78) rfl rfl (fun z => absurd z (by decide)) (fun _ => ?_)
                refine b_aload_n rfl rfl ?_
                refine b_iload_n rfl rfl ?_
                refine b_callV1v (ν := MX0_readProduct) rfl ml0_98 cvX0_readProduct (d' := (10 * (7 - dp) + 5)) (by omega) rfl (by decide) rfl (Nat.le_of_ble_eq_true rfl) ?_
                have o2 := ro_te (B := I0 2) o1 (sg_c y45)
                rw [eY45 h43 y45] at n1 k1
                refine hc g (by omega) dp _ (.inr (te n (I0 2) p1, c1)) H2 _ hdp (Nat.le_refl _) ⟨_, _, hL2⟩ (o2.w (by omega) (by omega)) (nf_emi.1 (nf_bnd n1)) (fun H3 s3 => ?_)
                have o3 := ro_bnd (g := P n (I0 2) se g 4 dp) o2 (fun q hq => (ro_P g _ _ q hq).1)
                refine ⟨rfl, ?_⟩
                refine b_aload_n rfl rfl ?_
                refine b_getR (r := 12) rfl fl0_15 rfl (by decide) rfl rfl ?_
                refine b_bipush rfl (by decide) ?_
                refine b_callV1v (ν := MX3_emit) rfl ml0_70 cvX3_emit (d' := 0) (by omega) rfl (by decide) rfl (Nat.le_of_ble_eq_true rfl) ?_
                refine rs_emit hn s3 (o3.w (by omega) (by omega)) (fun H4 s4 => ?_)
                refine ⟨rfl, ?_⟩
                refine b_goto (tgt := 80) rfl rfl ?_
                refine b_iincX (F := fun z80 => [some (aR 26), some (aI (dp : Int)), some (aI y), some (aI z80)]) rfl rfl (by omega) (by omega) (fun _ => rfl) (fun z80 ez80 => ?_)
                refine b_goto (tgt := 9) rfl rfl ?_
                first
                | exact ih (by omega) (b + 1) _ _ _ _ hy s4 ((ro_emi o3).w (by omega) (by omega)) (by omega) (by omega) n1 k1
                | exact ex _ _ _ (by omega) (k1 _ (rsE (eN h43 h45) s1))
              · refine ⟨_, rfl, ?_⟩
                refine b_if_eq (tgt := 78) rfl rfl (fun _ => ?_) (fun z => absurd z (by decide))
                refine b_iconst rfl (by decide) ?_
                refine b_istoreX_n (F := fun z79 => [some (aR 26), some (aI (dp : Int)), some (aI z79), some (aI z)]) rfl (by decide) (fun _ => rfl) (fun z79 ez79 => ?_)
                refine b_iincX (F := fun z80 => [some (aR 26), some (aI (dp : Int)), some (aI z79), some (aI z80)]) rfl rfl (by omega) (by omega) (fun _ => rfl) (fun z80 ez80 => ?_)
                refine b_goto (tgt := 9) rfl rfl ?_
                first
                | exact ih (by omega) (b + 1) _ _ _ _ hy s4 ((ro_emi o3).w (by omega) (by omega)) (by omega) (by omega) n1 k1
                | exact ex _ _ _ (by omega) (k1 _ (rsE (eN h43 h45) s1))
  refine b_aload_n rfl rfl ?_
  refine b_iload_n rfl rfl ?_
  refine b_callV1v (ν := MX0_readProduct) rfl ml0_98 cvX0_readProduct (d' := (10 * (7 - dp) + 5)) (by omega) rfl (by decide) rfl (Nat.le_of_ble_eq_true rfl) ?_
  refine hc f (by omega) dp _ _ _ _ hdp (Nat.le_refl _) hS hR (nf_bnd hN) (fun H1 s1 => ?_)
  refine ⟨rfl, ?_⟩
  refine b_iconst rfl (by decide) ?_
  refine b_istoreX_n (F := fun z6 => [some (aR 26), some (aI (dp : Int)), some (aI z6), none]) rfl (by decide) (fun _ => rfl) (fun z6 ez6 => ?_)
  refine b_iconst rfl (by decide) ?_
  refine b_istoreX_n (F := fun z8 => [some (aR 26), some (aI (dp : Int)), some (aI z6), some (aI z8)]) rfl (by decide) (fun _ => rfl) (fun z8 ez8 => ?_)
  exact lp f (by omega) 0 _ _ _ _ (by omega) s1 (ro_bnd1 hR (fun q hq => (ro_P f _ _ q hq).2 (by decide))) (by omega) (by omega) hN kq
theorem ct_product {f : Nat} (hX : TX I0 n) (hc : ∀ g, g < f → CTr I0 n k0 se MX0_readPart 4 5 g) : CTr I0 n k0 se MX0_readProduct 5 4 f := by
  intro dp d r H Q hdp hd hS hR hN kq
  cases r with
  | inl e => exact fc_product _ _ e.1 e.2 H Q (by omega) hS kq
  | inr y =>
  obtain ⟨p, c⟩ := y
  cases f with
  | zero => exact absurd rfl (hN 0)
  | succ f =>
  have hn := hX.2.1
  have eA : bnd (.inr (p, c)) (P n (I0 2) se (f + 1) 4 dp) = bnd (bnd (.inr (p, c)) (P n (I0 2) se f 5 dp)) (P n (I0 2) se f 9 dp) := bnd_assoc.symm
  rw [eA] at hN kq
  refine rj_of okX0_readProduct (Nat.le_of_ble_eq_true rfl) rfl ?_
  have ex : ∀ (y z : Int) (H1 : HI), y = 0 → Q none H1 → Bj MX0_readProduct d 9 [some (aR 26), some (aI (dp : Int)), some (aI y), some (aI z)] [] H1 Q := by
    intro y z H1 hy k1
    refine b_iload_n rfl rfl ?_
    refine b_sipush rfl (by decide) ?_
    refine b_icmp_ge (tgt := 115) rfl rfl (fun c13 => ?_) (fun c13 => ?_)
    · refine b_vret rfl rfl ?_
      exact k1
    · refine b_iload_n rfl rfl ?_
      refine b_if_eq (tgt := 115) rfl rfl (fun c17 => ?_) (fun c17 => ?_)
      · refine b_vret rfl rfl ?_
        exact k1
      · omega
  have li : ∀ (y z k pl : Int) (H1 : HI), y = 1 → 0 ≤ z → z ≤ 1600 → RS I0 n k0 (.inl (k, pl)) H1 → (∀ H', RS I0 n k0 (.inl (k, pl)) H' → Q none H') → Bj MX0_readProduct d 9 [some (aR 26), some (aI (dp : Int)), some (aI y), some (aI z)] [] H1 Q := by
    intro y z k pl H1 hy z0 z1 s1 k1
    refine b_iload_n rfl rfl ?_
    refine b_sipush rfl (by decide) ?_
    refine b_icmp_ge (tgt := 115) rfl rfl (fun c13 => ?_) (fun c13 => ?_)
    · refine b_vret rfl rfl ?_
      exact k1 _ s1
    · refine b_iload_n rfl rfl ?_
      refine b_if_eq (tgt := 115) rfl rfl (fun c17 => ?_) (fun c17 => ?_)
      · omega
      · refine b_aload_n rfl rfl ?_
        refine b_getR (r := 24) rfl fl0_9 rfl (by decide) rfl rfl ?_
        refine b_bipush rfl (by decide) ?_
        refine b_callV1i (ν := MX1_takeSign) rfl ml0_79 cvX1_takeSign (d' := 2) (by omega) rfl (by decide) rfl (Nat.le_of_ble_eq_true rfl) ?_
        refine rs_takeSignB s1 ?_
        refine ⟨_, rfl, ?_⟩
        refine b_if_eq (tgt := 49) rfl rfl (fun c29 => ?_) (fun c29 => ?_)
        · refine b_aload_n rfl rfl ?_
          refine b_getR (r := 24) rfl fl0_9 rfl (by decide) rfl rfl ?_
          refine b_bipush rfl (by decide) ?_
          refine b_callV1i (ν := MX1_takeSign) rfl ml0_79 cvX1_takeSign (d' := 2) (by omega) rfl (by decide) rfl (Nat.le_of_ble_eq_true rfl) ?_
          refine rs_takeSignB s1 ?_
          refine ⟨_, rfl, ?_⟩
          refine b_if_eq (tgt := 78) rfl rfl (fun c58 => ?_) (fun c58 => ?_)
          · refine b_aload_n rfl rfl ?_
            refine b_getR (r := 24) rfl fl0_9 rfl (by decide) rfl rfl ?_
            refine b_bipush rfl (by decide) ?_
            refine b_callV1i (ν := MX1_takeSign) rfl ml0_79 cvX1_takeSign (d' := 2) (by omega) rfl (by decide) rfl (Nat.le_of_ble_eq_true rfl) ?_
            refine rs_takeSignB s1 ?_
            refine ⟨_, rfl, ?_⟩
            refine b_if_eq (tgt := 107) rfl rfl (fun c87 => ?_) (fun c87 => ?_)
            · refine b_iconst rfl (by decide) ?_
              refine b_istoreX_n (F := fun z108 => [some (aR 26), some (aI (dp : Int)), some (aI z108), some (aI z)]) rfl (by decide) (fun _ => rfl) (fun z108 ez108 => ?_)
              refine b_iincX (F := fun z109 => [some (aR 26), some (aI (dp : Int)), some (aI z108), some (aI z109)]) rfl rfl (by omega) (by omega) (fun _ => rfl) (fun z109 ez109 => ?_)
              refine b_goto (tgt := 9) rfl rfl ?_
              exact ex _ _ _ (by omega) (k1 _ s1)
            · omega
          · omega
        · omega
  have lp : ∀ g, g ≤ f → ∀ (b : Nat) (y z : Int) (r1 : Res) (H1 : HI), y = 1 → RS I0 n k0 r1 H1 → Ro k0 (b + 1) n r1 → z = (b : Int) → b ≤ 1600 → NF (bnd r1 (P n (I0 2) se g 9 dp)) → (∀ H', RS I0 n k0 (bnd r1 (P n (I0 2) se g 9 dp)) H' → Q none H') → Bj MX0_readProduct d 9 [some (aR 26), some (aI (dp : Int)), some (aI y), some (aI z)] [] H1 Q := by
    intro g
    induction g with
    | zero =>
      intro _ b y z r1 H1 hy s1 o1 hz hb16 n1 k1
      cases r1 with
      | inl e => exact li y z e.1 e.2 H1 hy (by omega) (by omega) s1 k1
      | inr y => exact absurd rfl (n1 0)
    | succ g ih =>
      intro hg b y z r1 H1 hy s1 o1 hz hb16 n1 k1
      cases r1 with
      | inl e => exact li y z e.1 e.2 H1 hy (by omega) (by omega) s1 k1
      | inr y1 =>
        obtain ⟨p1, c1⟩ := y1
        have hb := o1 p1 c1 rfl
        have eY42 : sg n (I0 2) p1 42 → bnd (.inr (p1, c1)) (P n (I0 2) se (g + 1) 9 dp) = bnd (emi (bnd (.inr (te n (I0 2) p1, c1)) (P n (I0 2) se g 5 dp)) (-18)) (P n (I0 2) se g 9 dp) := by
          intro  hw
          rw [bnd_inr, show P n (I0 2) se (g + 1) 9 dp p1 = bnd (emi (P n (I0 2) se g 5 dp (te n (I0 2) p1)) (-18)) (P n (I0 2) se g 9 dp) from if_pos hw, pre_bnd, pre_emi]
          rfl
        have eY47 : ¬ sg n (I0 2) p1 42 → sg n (I0 2) p1 47 → bnd (.inr (p1, c1)) (P n (I0 2) se (g + 1) 9 dp) = bnd (emi (bnd (.inr (te n (I0 2) p1, c1)) (P n (I0 2) se g 5 dp)) (-19)) (P n (I0 2) se g 9 dp) := by
          intro h42 hw
          rw [bnd_inr, show P n (I0 2) se (g + 1) 9 dp p1 = bnd (emi (P n (I0 2) se g 5 dp (te n (I0 2) p1)) (-19)) (P n (I0 2) se g 9 dp) from (if_neg h42).trans (if_pos hw), pre_bnd, pre_emi]
          rfl
        have eY37 : ¬ sg n (I0 2) p1 42 → ¬ sg n (I0 2) p1 47 → sg n (I0 2) p1 37 → bnd (.inr (p1, c1)) (P n (I0 2) se (g + 1) 9 dp) = bnd (emi (bnd (.inr (te n (I0 2) p1, c1)) (P n (I0 2) se g 5 dp)) (-20)) (P n (I0 2) se g 9 dp) := by
          intro h42 h47 hw
          rw [bnd_inr, show P n (I0 2) se (g + 1) 9 dp p1 = bnd (emi (P n (I0 2) se g 5 dp (te n (I0 2) p1)) (-20)) (P n (I0 2) se g 9 dp) from (if_neg h42).trans ((if_neg h47).trans (if_pos hw)), pre_bnd, pre_emi]
          rfl
        have eN : ¬ sg n (I0 2) p1 42 → ¬ sg n (I0 2) p1 47 → ¬ sg n (I0 2) p1 37 → bnd (.inr (p1, c1)) (P n (I0 2) se (g + 1) 9 dp) = .inr (p1, c1) := by
          intro h42 h47 h37
          rw [bnd_inr, show P n (I0 2) se (g + 1) 9 dp p1 = .inr (p1, []) from (if_neg h42).trans ((if_neg h47).trans (if_neg h37)), lo_no]
        refine b_iload_n rfl rfl ?_
        refine b_sipush rfl (by decide) ?_
        refine b_icmp_ge (tgt := 115) rfl rfl (fun c13 => ?_) (fun c13 => ?_)
        · omega
        · refine b_iload_n rfl rfl ?_
          refine b_if_eq (tgt := 115) rfl rfl (fun c17 => ?_) (fun c17 => ?_)
          · omega
          · refine b_aload_n rfl rfl ?_
            refine b_getR (r := 24) rfl fl0_9 rfl (by decide) rfl rfl ?_
            refine b_bipush rfl (by decide) ?_
            refine b_callV1i (ν := MX1_takeSign) rfl ml0_79 cvX1_takeSign (d' := 2) (by omega) rfl (by decide) rfl (Nat.le_of_ble_eq_true rfl) ?_
            refine rs_takeSign hX s1 (fun y42 H2 hL2 => ?_) (fun h42 => ?_)
            · refine ⟨_, rfl, ?_⟩
              refine b_if_eq (tgt := 49) rfl rfl (fun z => absurd z (by decide)) (fun _ => ?_)
              refine b_aload_n rfl rfl ?_
              refine b_iload_n rfl rfl ?_
              refine b_callV1v (ν := MX0_readPart) rfl ml0_101 cvX0_readPart (d' := (10 * (7 - dp) + 4)) (by omega) rfl (by decide) rfl (Nat.le_of_ble_eq_true rfl) ?_
              have o2 := ro_te (B := I0 2) o1 (sg_c y42)
              rw [eY42  y42] at n1 k1
              refine hc g (by omega) dp _ (.inr (te n (I0 2) p1, c1)) H2 _ hdp (Nat.le_refl _) ⟨_, _, hL2⟩ (o2.w (by omega) (by omega)) (nf_emi.1 (nf_bnd n1)) (fun H3 s3 => ?_)
              have o3 := ro_bnd (g := P n (I0 2) se g 5 dp) o2 (fun q hq => (ro_P g _ _ q hq).1)
              refine ⟨rfl, ?_⟩
              refine b_aload_n rfl rfl ?_
              refine b_getR (r := 12) rfl fl0_15 rfl (by decide) rfl rfl ?_
              refine b_bipush rfl (by decide) ?_
              refine b_callV1v (ν := MX3_emit) rfl ml0_70 cvX3_emit (d' := 0) (by omega) rfl (by decide) rfl (Nat.le_of_ble_eq_true rfl) ?_
              refine rs_emit hn s3 (o3.w (by omega) (by omega)) (fun H4 s4 => ?_)
              refine ⟨rfl, ?_⟩
              refine b_goto (tgt := 109) rfl rfl ?_
              refine b_iincX (F := fun z109 => [some (aR 26), some (aI (dp : Int)), some (aI y), some (aI z109)]) rfl rfl (by omega) (by omega) (fun _ => rfl) (fun z109 ez109 => ?_)
              refine b_goto (tgt := 9) rfl rfl ?_
              first
              | exact ih (by omega) (b + 1) _ _ _ _ hy s4 ((ro_emi o3).w (by omega) (by omega)) (by omega) (by omega) n1 k1
              | exact ex _ _ _ (by omega) (k1 _ (rsE (eN h42 h47 h37) s1))
            · refine ⟨_, rfl, ?_⟩
              refine b_if_eq (tgt := 49) rfl rfl (fun _ => ?_) (fun z => absurd z (by decide))
              refine b_aload_n rfl rfl ?_
              refine b_getR (r := 24) rfl fl0_9 rfl (by decide) rfl rfl ?_
              refine b_bipush rfl (by decide) ?_
              refine b_callV1i (ν := MX1_takeSign) rfl ml0_79 cvX1_takeSign (d' := 2) (by omega) rfl (by decide) rfl (Nat.le_of_ble_eq_true rfl) ?_
              refine rs_takeSign hX s1 (fun y47 H2 hL2 => ?_) (fun h47 => ?_)
              · refine ⟨_, rfl, ?_⟩
                refine b_if_eq (tgt := 78) rfl rfl (fun z => absurd z (by decide)) (fun _ => ?_)
                refine b_aload_n rfl rfl ?_
                refine b_iload_n rfl rfl ?_
                refine b_callV1v (ν := MX0_readPart) rfl ml0_101 cvX0_readPart (d' := (10 * (7 - dp) + 4)) (by omega) rfl (by decide) rfl (Nat.le_of_ble_eq_true rfl) ?_
                have o2 := ro_te (B := I0 2) o1 (sg_c y47)
                rw [eY47 h42 y47] at n1 k1
                refine hc g (by omega) dp _ (.inr (te n (I0 2) p1, c1)) H2 _ hdp (Nat.le_refl _) ⟨_, _, hL2⟩ (o2.w (by omega) (by omega)) (nf_emi.1 (nf_bnd n1)) (fun H3 s3 => ?_)
                have o3 := ro_bnd (g := P n (I0 2) se g 5 dp) o2 (fun q hq => (ro_P g _ _ q hq).1)
                refine ⟨rfl, ?_⟩
                refine b_aload_n rfl rfl ?_
                refine b_getR (r := 12) rfl fl0_15 rfl (by decide) rfl rfl ?_
                refine b_bipush rfl (by decide) ?_
                refine b_callV1v (ν := MX3_emit) rfl ml0_70 cvX3_emit (d' := 0) (by omega) rfl (by decide) rfl (Nat.le_of_ble_eq_true rfl) ?_
                refine rs_emit hn s3 (o3.w (by omega) (by omega)) (fun H4 s4 => ?_)
                refine ⟨rfl, ?_⟩
                refine b_goto (tgt := 109) rfl rfl ?_
                refine b_iincX (F := fun z109 => [some (aR 26), some (aI (dp : Int)), some (aI y), some (aI z109)]) rfl rfl (by omega) (by omega) (fun _ => rfl) (fun z109 ez109 => ?_)
                refine b_goto (tgt := 9) rfl rfl ?_
                first
                | exact ih (by omega) (b + 1) _ _ _ _ hy s4 ((ro_emi o3).w (by omega) (by omega)) (by omega) (by omega) n1 k1
                | exact ex _ _ _ (by omega) (k1 _ (rsE (eN h42 h47 h37) s1))
              · refine ⟨_, rfl, ?_⟩
                refine b_if_eq (tgt := 78) rfl rfl (fun _ => ?_) (fun z => absurd z (by decide))
                refine b_aload_n rfl rfl ?_
                refine b_getR (r := 24) rfl fl0_9 rfl (by decide) rfl rfl ?_
                refine b_bipush rfl (by decide) ?_
                refine b_callV1i (ν := MX1_takeSign) rfl ml0_79 cvX1_takeSign (d' := 2) (by omega) rfl (by decide) rfl (Nat.le_of_ble_eq_true rfl) ?_
                refine rs_takeSign hX s1 (fun y37 H2 hL2 => ?_) (fun h37 => ?_)
                · refine ⟨_, rfl, ?_⟩
                  refine b_if_eq (tgt := 107) rfl rfl (fun z => absurd z (by decide)) (fun _ => ?_)
                  refine b_aload_n rfl rfl ?_
                  refine b_iload_n rfl rfl ?_
                  refine b_callV1v (ν := MX0_readPart) rfl ml0_101 cvX0_readPart (d' := (10 * (7 - dp) + 4)) (by omega) rfl (by decide) rfl (Nat.le_of_ble_eq_true rfl) ?_
                  have o2 := ro_te (B := I0 2) o1 (sg_c y37)
                  rw [eY37 h42 h47 y37] at n1 k1
                  refine hc g (by omega) dp _ (.inr (te n (I0 2) p1, c1)) H2 _ hdp (Nat.le_refl _) ⟨_, _, hL2⟩ (o2.w (by omega) (by omega)) (nf_emi.1 (nf_bnd n1)) (fun H3 s3 => ?_)
                  have o3 := ro_bnd (g := P n (I0 2) se g 5 dp) o2 (fun q hq => (ro_P g _ _ q hq).1)
                  refine ⟨rfl, ?_⟩
                  refine b_aload_n rfl rfl ?_
                  refine b_getR (r := 12) rfl fl0_15 rfl (by decide) rfl rfl ?_
                  refine b_bipush rfl (by decide) ?_
                  refine b_callV1v (ν := MX3_emit) rfl ml0_70 cvX3_emit (d' := 0) (by omega) rfl (by decide) rfl (Nat.le_of_ble_eq_true rfl) ?_
                  refine rs_emit hn s3 (o3.w (by omega) (by omega)) (fun H4 s4 => ?_)
                  refine ⟨rfl, ?_⟩
                  refine b_goto (tgt := 109) rfl rfl ?_
                  refine b_iincX (F := fun z109 => [some (aR 26), some (aI (dp : Int)), some (aI y), some (aI z109)]) rfl rfl (by omega) (by omega) (fun _ => rfl) (fun z109 ez109 => ?_)
                  refine b_goto (tgt := 9) rfl rfl ?_
                  first
                  | exact ih (by omega) (b + 1) _ _ _ _ hy s4 ((ro_emi o3).w (by omega) (by omega)) (by omega) (by omega) n1 k1
                  | exact ex _ _ _ (by omega) (k1 _ (rsE (eN h42 h47 h37) s1))
                · refine ⟨_, rfl, ?_⟩
                  refine b_if_eq (tgt := 107) rfl rfl (fun _ => ?_) (fun z => absurd z (by decide))
                  refine b_iconst rfl (by decide) ?_
                  refine b_istoreX_n (F := fun z108 => [some (aR 26), some (aI (dp : Int)), some (aI z108), some (aI z)]) rfl (by decide) (fun _ => rfl) (fun z108 ez108 => ?_)
                  refine b_iincX (F := fun z109 => [some (aR 26), some (aI (dp : Int)), some (aI z108), some (aI z109)]) rfl rfl (by omega) (by omega) (fun _ => rfl) (fun z109 ez109 => ?_)
                  refine b_goto (tgt := 9) rfl rfl ?_
                  first
                  | exact ih (by omega) (b + 1) _ _ _ _ hy s4 ((ro_emi o3).w (by omega) (by omega)) (by omega) (by omega) n1 k1
                  | exact ex _ _ _ (by omega) (k1 _ (rsE (eN h42 h47 h37) s1))
  refine b_aload_n rfl rfl ?_
  refine b_iload_n rfl rfl ?_
  refine b_callV1v (ν := MX0_readPart) rfl ml0_101 cvX0_readPart (d' := (10 * (7 - dp) + 4)) (by omega) rfl (by decide) rfl (Nat.le_of_ble_eq_true rfl) ?_
  refine hc f (by omega) dp _ _ _ _ hdp (Nat.le_refl _) hS hR (nf_bnd hN) (fun H1 s1 => ?_)
  refine ⟨rfl, ?_⟩
  refine b_iconst rfl (by decide) ?_
  refine b_istoreX_n (F := fun z6 => [some (aR 26), some (aI (dp : Int)), some (aI z6), none]) rfl (by decide) (fun _ => rfl) (fun z6 ez6 => ?_)
  refine b_iconst rfl (by decide) ?_
  refine b_istoreX_n (F := fun z8 => [some (aR 26), some (aI (dp : Int)), some (aI z6), some (aI z8)]) rfl (by decide) (fun _ => rfl) (fun z8 ez8 => ?_)
  exact lp f (by omega) 0 _ _ _ _ (by omega) s1 (ro_bnd1 hR (fun q hq => (ro_P f _ _ q hq).2 (by decide))) (by omega) (by omega) hN kq
end FRY
