/-! ===== the reference: opens, what is asked ===== -/
section MOP
variable {K0 K H : HI} {m k0 n p : Nat} {B : Nat → Int} {fs r : List Fm} {F : Fm} {cs : List Int} {o : Int} {Q : Option AV → HI → Prop}
theorem MTx_F (hT : MTx K0 n B) (h : FrK K0 m k0 K) : MTx K n B := by
  obtain ⟨h1, h2, h3, h4⟩ := hT
  refine ⟨by rw [h.2.1 2 (by decide) (by decide) (by decide) (by decide)]; exact h1, h2, fun k hk => ?_, h4⟩
  rw [h.1 58 (by decide) (by decide) (by decide) (by omega)]
  exact h3 k hk
theorem mc_add' {s z v : Int} (hR : RC K0 m k0 fs cs o K) (hm : m < 2) (hr : k0 + cs.length < 1600) (hc : cm s z v) (hM : Mok K n B p H) (kq : ∀ K' H', RC K0 m k0 fs (cs ++ [v]) o K' → Mok K' n B p H' → Q none H') : Rj MX12_add 0 [aR 57, aI s, aI z] H Q := by
  obtain ⟨si, sa, en, va, wo, lx, e, h⟩ := hM
  subst e
  exact mc_add hR hm hr hc (fun K' hR' _ => kq K' _ hR' ⟨si, sa, en, va, wo, lx, rfl, h⟩)
theorem mc_hold' {v : Int} (hR : RC K0 m k0 (F :: r) cs o K) (ht : tot (F :: r) < 500) (hv : opc v) (hM : Mok K n B p H) (kq : ∀ K' H', RC K0 m k0 ((mkF F.ki F.ph F.bg F.pa (v :: F.os)) :: r) cs o K' → Mok K' n B p H' → Q none H') : Rj MX12_holdsBack 0 [aR 57, aI (so v)] H Q := by
  obtain ⟨si, sa, en, va, wo, lx, e, h⟩ := hM
  subst e
  exact mc_hold hR ht hv (fun K' hR' => kq K' _ hR' ⟨si, sa, en, va, wo, lx, rfl, h⟩)
theorem mc_pushes' {ki : Int} (hR : RC K0 m k0 fs cs o K) (hl : fs.length < 20) (ht : tot fs < 1000) (hk : 0 ≤ ki ∧ ki ≤ 6) (hM : Mok K n B p H) (kq : ∀ K' H', RC K0 m k0 ((mkF ki 0 1 0 []) :: fs) cs o K' → Mok K' n B p H' → Q none H') : Rj MX12_pushes 0 [aR 57, aI ki] H Q := by
  obtain ⟨si, sa, en, va, wo, lx, e, h⟩ := hM
  subst e
  exact mc_pushes hR hl ht hk (fun K' hR' => kq K' _ hR' ⟨si, sa, en, va, wo, lx, rfl, h⟩)
theorem mc_joins' {l : Nat} (hm : m < 2) (hR : RC K0 m k0 (F :: r) cs o K) (hb : k0 + cs.length + F.os.length ≤ 1600) (ht : tot (F :: r) < 500) (hl : r.length < 20) (ho : -500 ≤ o ∧ o ≤ 1000) (hM : Mok K n B p H) (kq : ∀ K' H', RC K0 m k0 ((mkF F.ki F.ph F.bg F.pa (joD l F.os)) :: r) (cs ++ joT l F.os) (o - (ntO (joT l F.os) : Int)) K' → Mok K' n B p H' → Q none H') : Rj MX12_joins 1 [aR 57, aI (l : Int)] H Q := by
  obtain ⟨si, sa, en, va, wo, lx, e, h⟩ := hM
  subst e
  have htc := tot_c (F := F) (r := r)
  exact rj_of okX12_joins (Nat.le_of_ble_eq_true rfl) rfl (mc_joins hm F.os F cs o K Q rfl hR hb ht hl (by omega) (fun K' hR' => kq K' _ hR' ⟨si, sa, en, va, wo, lx, rfl, h⟩))
theorem spr_isTest {k : Int} (k1 : k = 1 ∨ k = 5 ∨ k = 6 → Q (some (aI 1)) H) (kn : ¬ (k = 1 ∨ k = 5 ∨ k = 6) → Q (some (aI 0)) H) : Rj MX12_isTest 0 [aI k] H Q := by
  refine rj_of okX12_isTest (Nat.le_of_ble_eq_true rfl) rfl ?_
  refine b_iload_n rfl rfl ?_
  refine b_iconst rfl (by decide) ?_
  refine b_icmp_eq (tgt := 16) rfl rfl (fun c2 => ?_) (fun c2 => ?_)
  · refine b_iconst rfl (by decide) ?_
    refine b_goto (tgt := 21) rfl rfl ?_
    refine b_zret rfl rfl (by first | decide | omega) ?_
    first
    | exact k1 (by omega)
    | exact kn (by omega)
  · refine b_iload_n rfl rfl ?_
    refine b_iconst rfl (by decide) ?_
    refine b_icmp_eq (tgt := 16) rfl rfl (fun c7 => ?_) (fun c7 => ?_)
    · refine b_iconst rfl (by decide) ?_
      refine b_goto (tgt := 21) rfl rfl ?_
      refine b_zret rfl rfl (by first | decide | omega) ?_
      first
      | exact k1 (by omega)
      | exact kn (by omega)
    · refine b_iload_n rfl rfl ?_
      refine b_bipush rfl (by decide) ?_
      refine b_icmp_ne (tgt := 20) rfl rfl (fun c13 => ?_) (fun c13 => ?_)
      · refine b_iconst rfl (by decide) ?_
        refine b_zret rfl rfl (by first | decide | omega) ?_
        first
        | exact k1 (by omega)
        | exact kn (by omega)
      · refine b_iconst rfl (by decide) ?_
        refine b_goto (tgt := 21) rfl rfl ?_
        refine b_zret rfl rfl (by first | decide | omega) ?_
        first
        | exact k1 (by omega)
        | exact kn (by omega)
theorem Mok_g {j : Nat} (hM : Mok K n B p H) (hj : j ≠ 3 ∧ j ≠ 4 ∧ j ≠ 5 ∧ j ≠ 6 ∧ j ≠ 7 ∧ j ≠ 8 ∧ j ≠ 9 ∧ j ≠ 12) : H 57 j = K 57 j := by
  obtain ⟨si, sa, en, va, wo, lx, e, h⟩ := hM
  subst e
  exact MXo hj
theorem Mok_q {q : Nat} (hM : Mok K n B p H) (hq : q ≠ 57) : H q = K q := by
  obtain ⟨si, sa, en, va, wo, lx, e, h⟩ := hM
  subst e
  exact MXc hq
theorem mc_opens {ki : Int} (hT : MTx K0 n B) (hR : RC K0 m k0 fs cs o K) (hl : fs.length < 20) (ht : tot fs < 1000) (hk : 0 ≤ ki ∧ ki ≤ 6) (ho : 0 ≤ o ∧ o ≤ 7) (hM : Mok K n B p H) (hp : tk n B p = 1 ∨ tk n B p = 2 ∨ tk n B p = 3) (k7 : o = 7 → ∀ H', Mbad K 5 (tq n B p : Int) H' → Q none H') (kq : o ≠ 7 → ∀ K' H', RC K0 m k0 ((mkF ki 0 1 0 []) :: fs) cs (o + 1) K' → Mok K' n B (te n B p) H' → Q none H') : Rj MX12_opens 2 [aR 57, aI ki] H Q := by
  refine rj_of okX12_opens (Nat.le_of_ble_eq_true rfl) rfl ?_
  have hf := Mok_f hM
  have h42 : H 57 42 = o := by rw [Mok_g hM (by decide)]; exact hR.2.2.2.2.1
  have b18 : ∀ H1, o = 7 → Mbad K 5 (tq n B p : Int) H1 → Bj MX12_opens 2 18 [some (aR 57), some (aI ki)] [] H1 Q := by
    intro H1 e7 hb
    have hf := Mbad_f hb
    refine b_aload_n rfl rfl ?_
    refine b_getI rfl fl12_36 rfl (by decide) rfl ?_
    refine b_if_le (tgt := 26) rfl rfl (fun c22 => ?_) (fun c22 => ?_)
    · omega
    · refine b_vret rfl rfl ?_
      exact k7 e7 _ hb
  have g40 : ∀ K1 H1, o ≠ 7 → RC K0 m k0 fs cs (o + 1) K1 → Mok K1 n B (te n B p) H1 → Bj MX12_opens 2 40 [some (aR 57), some (aI ki)] [] H1 Q := by
    intro K1 H1 e7 hR1 hM1
    refine b_aload_n rfl rfl ?_
    refine b_iload_n rfl rfl ?_
    refine b_callV1v (ν := MX12_pushes) rfl ml12_332 cvX12_pushes (d' := 0) (by omega) rfl (by decide) rfl (Nat.le_of_ble_eq_true rfl) ?_
    refine mc_pushes' hR1 hl ht hk hM1 (fun K2 H2 hR2 hM2 => ?_)
    refine ⟨rfl, ?_⟩
    refine b_vret rfl rfl ?_
    exact kq e7 K2 _ hR2 hM2
  have g18 : o ≠ 7 → Bj MX12_opens 2 18 [some (aR 57), some (aI ki)] [] H Q := by
    intro e7
    obtain ⟨si, sa, en, va, wo, lx, e, h⟩ := hM
    subst e
    rw [MXo (by decide)] at h42
    have hR1 := RC_o (x := o + 1) hR
    refine b_aload_n rfl rfl ?_
    refine b_getI rfl fl12_36 rfl (by decide) rfl ?_
    rw [MX_8]
    refine b_if_le (tgt := 26) rfl rfl (fun c22 => ?_) (fun c22 => ?_)
    · refine b_aload_n rfl rfl ?_
      refine b_dup rfl rfl ?_
      refine b_getI rfl fl12_140 rfl (by decide) rfl ?_
      rw [MXo (by decide)]
      rw [h42]
      refine b_iconst rfl (by decide) ?_
      refine b_iaddN rfl (by omega) (by omega) ?_
      refine b_putI rfl fl12_140 rfl (by decide) rfl ?_
      rw [MX_uo (by decide)]
      refine b_aload_n rfl rfl ?_
      refine b_callV0v (ν := MX12_ahead) rfl ml12_253 cvX12_ahead (d' := 1) (by omega) rfl (by decide) rfl (Nat.le_of_ble_eq_true rfl) ?_
      refine mk_ahead (p := p) (MTx_F hT hR1.1) ⟨si, sa, en, va, wo, lx, rfl, h⟩ hp (fun H1 hM1 => ?_)
      refine ⟨rfl, ?_⟩
      exact g40 _ _ e7 hR1 hM1
    · omega
  refine b_aload_n rfl rfl ?_
  refine b_getI rfl fl12_140 rfl (by decide) rfl ?_
  rw [h42]
  refine b_bipush rfl (by decide) ?_
  refine b_icmp_ne (tgt := 18) rfl rfl (fun c6 => ?_) (fun c6 => ?_)
  · first
    | exact b18 _ (by omega) hb
    | exact g18 (by omega)
  · refine b_aload_n rfl rfl ?_
    refine b_iconst rfl (by decide) ?_
    refine b_aload_n rfl rfl ?_
    refine b_getI rfl fl12_23 rfl (by decide) rfl ?_
    rw [hf.2]
    refine b_callV2v (ν := MX12_blame) rfl ml12_236 cvX12_blame (d' := 0) (by omega) rfl (by decide) rfl (Nat.le_of_ble_eq_true rfl) ?_
    refine mk_blame (by decide) hM (fun H1 hb => ?_)
    refine ⟨rfl, ?_⟩
    first
    | exact b18 _ (by omega) hb
    | exact g18 (by omega)
theorem mc_opensB {ki k pl : Int} (hM : Mbad K k pl H) (kq : Q none H) : Rj MX12_opens 2 [aR 57, aI ki] H Q := by
  refine rj_of okX12_opens (Nat.le_of_ble_eq_true rfl) rfl ?_
  have hf := Mbad_f hM
  refine b_aload_n rfl rfl ?_
  refine b_getI rfl fl12_140 rfl (by decide) rfl ?_
  refine b_bipush rfl (by decide) ?_
  refine b_icmp_ne (tgt := 18) rfl rfl (fun c6 => ?_) (fun c6 => ?_)
  · refine b_aload_n rfl rfl ?_
    refine b_getI rfl fl12_36 rfl (by decide) rfl ?_
    refine b_if_le (tgt := 26) rfl rfl (fun c22 => ?_) (fun c22 => ?_)
    · omega
    · refine b_vret rfl rfl ?_
      exact kq
  · refine b_aload_n rfl rfl ?_
    refine b_iconst rfl (by decide) ?_
    refine b_aload_n rfl rfl ?_
    refine b_getI rfl fl12_23 rfl (by decide) rfl ?_
    refine b_callV2v (ν := MX12_blame) rfl ml12_236 cvX12_blame (d' := 0) (by omega) rfl (by decide) rfl (Nat.le_of_ble_eq_true rfl) ?_
    refine mk_blameB hM ?_
    refine ⟨rfl, ?_⟩
    refine b_aload_n rfl rfl ?_
    refine b_getI rfl fl12_36 rfl (by decide) rfl ?_
    refine b_if_le (tgt := 26) rfl rfl (fun c22 => ?_) (fun c22 => ?_)
    · omega
    · refine b_vret rfl rfl ?_
      exact kq
theorem seW_inj : ∀ i j : Fin 8, seW i.val = seW j.val → i = j := by decide
theorem see_at {se j : Nat} (hj : j < 8) (hw : tw n B p = seW j) : ∀ f k, k ≤ j → j < k + f → k + f ≤ 8 → seeF n B se p f k = if se / 2 ^ j % 2 = 1 then .inr (te n B p, [-1 - (j : Int)]) else .inl (1, (tsp n B p : Int)) := by
  intro f
  induction f with
  | zero => intro k h1 h2 _; omega
  | succ f ih =>
    intro k h1 h2 h3
    rw [show seeF n B se p (f + 1) k = (if se / 2 ^ k % 2 = 1 ∧ tw n B p = seW k then .inr (te n B p, [-1 - (k : Int)]) else seeF n B se p f (k + 1)) from rfl]
    by_cases e : k = j
    · subst e
      by_cases hb : se / 2 ^ k % 2 = 1
      · rw [if_pos ⟨hb, hw⟩, if_pos hb]
      · rw [if_neg (fun w => hb w.1), if_neg hb]
        have nx : ∀ f' k', k < k' → k' + f' ≤ 8 → seeF n B se p f' k' = .inl (1, (tsp n B p : Int)) := by
          intro f'
          induction f' with
          | zero => intro k' _ _; rfl
          | succ f' ih' =>
            intro k' a b
            rw [show seeF n B se p (f' + 1) k' = (if se / 2 ^ k' % 2 = 1 ∧ tw n B p = seW k' then .inr (te n B p, [-1 - (k' : Int)]) else seeF n B se p f' (k' + 1)) from rfl, if_neg (fun w => by
              have h8 := w.2
              rw [hw] at h8
              have h9 := congrArg Fin.val (seW_inj ⟨k, by omega⟩ ⟨k', by omega⟩ h8)
              have h10 : k = k' := h9
              omega)]
            exact ih' (k' + 1) (by omega) (by omega)
        exact nx f (k + 1) (by omega) (by omega)
    · rw [if_neg (fun w => by
        have h8 := w.2
        rw [hw] at h8
        have h9 : j = k := congrArg Fin.val (seW_inj ⟨j, hj⟩ ⟨k, by omega⟩ h8)
        omega)]
      exact ih (k + 1) (by omega) (by omega) (by omega)
theorem see_none {se : Nat} (hw : ∀ j, j < 8 → tw n B p ≠ seW j) : ∀ f k, k + f ≤ 8 → seeF n B se p f k = .inl (1, (tsp n B p : Int)) := by
  intro f
  induction f with
  | zero => intro k _; rfl
  | succ f ih =>
    intro k h
    rw [show seeF n B se p (f + 1) k = (if se / 2 ^ k % 2 = 1 ∧ tw n B p = seW k then .inr (te n B p, [-1 - (k : Int)]) else seeF n B se p f (k + 1)) from rfl, if_neg (fun w => hw k (by omega) w.2)]
    exact ih (k + 1) (by omega)
def PF (fs : List Fm) : Prop := ∀ F ∈ fs, (F.ki = 3 ∨ F.ki = 4 ∨ F.ki = 6) → F.pa ≠ 0
end MOP
