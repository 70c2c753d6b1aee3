/-! ===== the class: FormulaReader, faulted; signs seen ===== -/
def FC (I0 : HI) (n k0 : Nat) (μ : MR) (e : Nat) : Prop := ∀ (x : Int) (d : Nat) (k pl : Int) (H : HI) (Q : Option AV → HI → Prop), e ≤ d → RS I0 n k0 (.inl (k, pl)) H → (∀ H', RS I0 n k0 (.inl (k, pl)) H' → Q none H') → Rj μ d [aR 26, aI x] H Q
def cmp1 (n : Nat) (B : Nat → Int) (r : Res) : Res := match r with
  | .inl e => .inl e
  | .inr (q, c) => if tk n B q = 3 ∧ (tv n B q = 60 ∨ tv n B q = 62 ∨ tv n B q = 61) then .inr (te n B q, c) else .inl (1, (tsp n B q : Int))
theorem ro_cmp1 {a b n : Nat} {B : Nat → Int} {r : Res} (h : Ro a b n r) : Ro (a + 1) (b + 1) n (cmp1 n B r) := by
  cases r with
  | inl e => exact ro_inl
  | inr y =>
    obtain ⟨q, c⟩ := y
    unfold cmp1
    show Ro (a + 1) (b + 1) n (if tk n B q = 3 ∧ (tv n B q = 60 ∨ tv n B q = 62 ∨ tv n B q = 61) then .inr (te n B q, c) else .inl (1, (tsp n B q : Int)))
    split
    · rename_i hh
      exact ro_te h (Or.inr (Or.inr hh.1))
    · exact ro_inl
section FRX
variable {I0 H : HI} {n k0 : Nat} {r : Res} {Q : Option AV → HI → Prop}
theorem fc_seen {k pl : Int} {d : Nat} (hd : 2 ≤ d) (hS : RS I0 n k0 (.inl (k, pl)) H) (kq : ∀ H', RS I0 n k0 (.inl (k, pl)) H' → Q none H') : Rj MX0_readSeen d [aR 26] H Q := by
  refine rj_of okX0_readSeen (Nat.le_of_ble_eq_true rfl) rfl ?_
  have hS' := hS
  obtain ⟨I', h1, po, st, sp, va, wo, ts, tu, h2, h3⟩ := hS
  subst h2
  refine b_iconst rfl (by decide) ?_
  refine b_istoreX_n (F := fun z1 => [some (aR 26), some (aI z1)]) rfl (by decide) (fun _ => rfl) (fun z1 ez1 => ?_)
  refine b_iload_n rfl rfl ?_
  refine b_bipush rfl (by decide) ?_
  refine b_icmp_ge (tgt := 70) rfl rfl (fun c5 => ?_) (fun c5 => ?_)
  · omega
  · refine b_aload_n rfl rfl ?_
    refine b_getR (r := 24) rfl fl0_9 rfl (by decide) rfl rfl ?_
    refine b_getI rfl fl0_89 rfl (by decide) rfl ?_
    rw [LX_3]
    refine b_iconst rfl (by decide) ?_
    refine b_icmp_ne (tgt := 70) rfl rfl (fun c16 => ?_) (fun c16 => ?_)
    · refine b_aload_n rfl rfl ?_
      refine b_getR (r := 24) rfl fl0_9 rfl (by decide) rfl rfl ?_
      refine b_callV0v (ν := MX1_wrong) rfl ml0_95 cvX1_wrong (d' := 1) (by omega) rfl (by decide) rfl (Nat.le_of_ble_eq_true rfl) ?_
      refine rs_wrongB hS' (fun H' s1 => ?_)
      refine ⟨rfl, ?_⟩
      refine b_vret rfl rfl ?_
      exact kq _ s1
    · omega
theorem fc_part : FC I0 n k0 MX0_readPart 4 := by
  intro x d k pl H Q hd hS kq
  refine rj_of okX0_readPart (Nat.le_of_ble_eq_true rfl) rfl ?_
  have hS' := hS
  obtain ⟨I', h1, po, st, sp, va, wo, ts, tu, h2, h3⟩ := hS
  subst h2
  refine b_aload_n rfl rfl ?_
  refine b_getR (r := 24) rfl fl0_9 rfl (by decide) rfl rfl ?_
  refine b_getI rfl fl0_89 rfl (by decide) rfl ?_
  rw [LX_3]
  refine b_iconst rfl (by decide) ?_
  refine b_icmp_ne (tgt := 35) rfl rfl (fun c8 => ?_) (fun c8 => ?_)
  · refine b_aload_n rfl rfl ?_
    refine b_getR (r := 24) rfl fl0_9 rfl (by decide) rfl rfl ?_
    refine b_bipush rfl (by decide) ?_
    refine b_callV1i (ν := MX1_takeSign) rfl ml0_79 cvX1_takeSign (d' := 2) (by omega) rfl (by decide) rfl (Nat.le_of_ble_eq_true rfl) ?_
    refine rs_takeSignB hS' ?_
    refine ⟨_, rfl, ?_⟩
    refine b_if_eq (tgt := 74) rfl rfl (fun c44 => ?_) (fun c44 => ?_)
    · refine b_aload_n rfl rfl ?_
      refine b_getR (r := 24) rfl fl0_9 rfl (by decide) rfl rfl ?_
      refine b_bipush rfl (by decide) ?_
      refine b_callV1i (ν := MX1_takeWord) rfl ml0_67 cvX1_takeWord (d' := 2) (by omega) rfl (by decide) rfl (Nat.le_of_ble_eq_true rfl) ?_
      refine rs_takeWordB hS' ?_
      refine ⟨_, rfl, ?_⟩
      refine b_if_eq (tgt := 96) rfl rfl (fun c83 => ?_) (fun c83 => ?_)
      · refine b_aload_n rfl rfl ?_
        refine b_getR (r := 24) rfl fl0_9 rfl (by decide) rfl rfl ?_
        refine b_bipush rfl (by decide) ?_
        refine b_callV1i (ν := MX1_takeWord) rfl ml0_67 cvX1_takeWord (d' := 2) (by omega) rfl (by decide) rfl (Nat.le_of_ble_eq_true rfl) ?_
        refine rs_takeWordB hS' ?_
        refine ⟨_, rfl, ?_⟩
        refine b_if_eq (tgt := 118) rfl rfl (fun c105 => ?_) (fun c105 => ?_)
        · refine b_aload_n rfl rfl ?_
          refine b_getR (r := 24) rfl fl0_9 rfl (by decide) rfl rfl ?_
          refine b_bipush rfl (by decide) ?_
          refine b_callV1i (ν := MX1_takeWord) rfl ml0_67 cvX1_takeWord (d' := 2) (by omega) rfl (by decide) rfl (Nat.le_of_ble_eq_true rfl) ?_
          refine rs_takeWordB hS' ?_
          refine ⟨_, rfl, ?_⟩
          refine b_if_eq (tgt := 138) rfl rfl (fun c127 => ?_) (fun c127 => ?_)
          · refine b_aload_n rfl rfl ?_
            refine b_callV0v (ν := MX0_readSeen) rfl ml0_113 cvX0_readSeen (d' := 2) (by omega) rfl (by decide) rfl (Nat.le_of_ble_eq_true rfl) ?_
            refine fc_seen (by omega) hS' (fun H' s1 => ?_)
            refine ⟨rfl, ?_⟩
            refine b_vret rfl rfl ?_
            exact kq _ s1
          · omega
        · omega
      · omega
    · omega
  · omega
theorem fc_product : FC I0 n k0 MX0_readProduct 5 := by
  intro x d k pl H Q hd hS kq
  refine rj_of okX0_readProduct (Nat.le_of_ble_eq_true rfl) rfl ?_
  have ex : ∀ (y z : Int) (H' : HI), y = 0 → RS I0 n k0 (.inl (k, pl)) H' → Bj MX0_readProduct d 9 [some (aR 26), some (aI x), some (aI y), some (aI z)] [] H' Q := by
    intro y z H' hy s1
    refine b_iload_n rfl rfl ?_
    refine b_sipush rfl (by decide) ?_
    refine b_icmp_ge (tgt := 115) rfl rfl (fun c13 => ?_) (fun c13 => ?_)
    · refine b_vret rfl rfl ?_
      exact kq _ s1
    · refine b_iload_n rfl rfl ?_
      refine b_if_eq (tgt := 115) rfl rfl (fun c17 => ?_) (fun c17 => ?_)
      · refine b_vret rfl rfl ?_
        exact kq _ s1
      · omega
  have go : ∀ (y z : Int) (H' : HI), y = 1 → z = 0 → RS I0 n k0 (.inl (k, pl)) H' → Bj MX0_readProduct d 9 [some (aR 26), some (aI x), some (aI y), some (aI z)] [] H' Q := by
    intro y z H' hy hz s1
    refine b_iload_n rfl rfl ?_
    refine b_sipush rfl (by decide) ?_
    refine b_icmp_ge (tgt := 115) rfl rfl (fun c13 => ?_) (fun c13 => ?_)
    · omega
    · refine b_iload_n rfl rfl ?_
      refine b_if_eq (tgt := 115) rfl rfl (fun c17 => ?_) (fun c17 => ?_)
      · omega
      · refine b_aload_n rfl rfl ?_
        refine b_getR (r := 24) rfl fl0_9 rfl (by decide) rfl rfl ?_
        refine b_bipush rfl (by decide) ?_
        refine b_callV1i (ν := MX1_takeSign) rfl ml0_79 cvX1_takeSign (d' := 2) (by omega) rfl (by decide) rfl (Nat.le_of_ble_eq_true rfl) ?_
        refine rs_takeSignB s1 ?_
        refine ⟨_, rfl, ?_⟩
        refine b_if_eq (tgt := 49) rfl rfl (fun c29 => ?_) (fun c29 => ?_)
        · refine b_aload_n rfl rfl ?_
          refine b_getR (r := 24) rfl fl0_9 rfl (by decide) rfl rfl ?_
          refine b_bipush rfl (by decide) ?_
          refine b_callV1i (ν := MX1_takeSign) rfl ml0_79 cvX1_takeSign (d' := 2) (by omega) rfl (by decide) rfl (Nat.le_of_ble_eq_true rfl) ?_
          refine rs_takeSignB s1 ?_
          refine ⟨_, rfl, ?_⟩
          refine b_if_eq (tgt := 78) rfl rfl (fun c58 => ?_) (fun c58 => ?_)
          · refine b_aload_n rfl rfl ?_
            refine b_getR (r := 24) rfl fl0_9 rfl (by decide) rfl rfl ?_
            refine b_bipush rfl (by decide) ?_
            refine b_callV1i (ν := MX1_takeSign) rfl ml0_79 cvX1_takeSign (d' := 2) (by omega) rfl (by decide) rfl (Nat.le_of_ble_eq_true rfl) ?_
            refine rs_takeSignB s1 ?_
            refine ⟨_, rfl, ?_⟩
            refine b_if_eq (tgt := 107) rfl rfl (fun c87 => ?_) (fun c87 => ?_)
            · refine b_iconst rfl (by decide) ?_
              refine b_istoreX_n (F := fun z108 => [some (aR 26), some (aI x), some (aI z108), some (aI z)]) rfl (by decide) (fun _ => rfl) (fun z108 ez108 => ?_)
              refine b_iincX (F := fun z109 => [some (aR 26), some (aI x), some (aI z108), some (aI z109)]) rfl rfl (by omega) (by omega) (fun _ => rfl) (fun z109 ez109 => ?_)
              refine b_goto (tgt := 9) rfl rfl ?_
              exact ex _ _ _ (by omega) s1
            · omega
          · omega
        · omega
  refine b_aload_n rfl rfl ?_
  refine b_iload_n rfl rfl ?_
  refine b_callV1v (ν := MX0_readPart) rfl ml0_101 cvX0_readPart (d' := 4) (by omega) rfl (by decide) rfl (Nat.le_of_ble_eq_true rfl) ?_
  refine fc_part _ _ _ _ _ _ (Nat.le_refl _) hS (fun H' s1 => ?_)
  refine ⟨rfl, ?_⟩
  refine b_iconst rfl (by decide) ?_
  refine b_istoreX_n (F := fun z6 => [some (aR 26), some (aI x), some (aI z6), none]) rfl (by decide) (fun _ => rfl) (fun z6 ez6 => ?_)
  refine b_iconst rfl (by decide) ?_
  refine b_istoreX_n (F := fun z8 => [some (aR 26), some (aI x), some (aI z6), some (aI z8)]) rfl (by decide) (fun _ => rfl) (fun z8 ez8 => ?_)
  exact go _ _ _ (by omega) (by omega) s1
theorem fc_sum : FC I0 n k0 MX0_readSum 6 := by
  intro x d k pl H Q hd hS kq
  refine rj_of okX0_readSum (Nat.le_of_ble_eq_true rfl) rfl ?_
  have ex : ∀ (y z : Int) (H' : HI), y = 0 → RS I0 n k0 (.inl (k, pl)) H' → Bj MX0_readSum d 9 [some (aR 26), some (aI x), some (aI y), some (aI z)] [] H' Q := by
    intro y z H' hy s1
    refine b_iload_n rfl rfl ?_
    refine b_sipush rfl (by decide) ?_
    refine b_icmp_ge (tgt := 86) rfl rfl (fun c13 => ?_) (fun c13 => ?_)
    · refine b_vret rfl rfl ?_
      exact kq _ s1
    · refine b_iload_n rfl rfl ?_
      refine b_if_eq (tgt := 86) rfl rfl (fun c17 => ?_) (fun c17 => ?_)
      · refine b_vret rfl rfl ?_
        exact kq _ s1
      · omega
  have go : ∀ (y z : Int) (H' : HI), y = 1 → z = 0 → RS I0 n k0 (.inl (k, pl)) H' → Bj MX0_readSum d 9 [some (aR 26), some (aI x), some (aI y), some (aI z)] [] H' Q := by
    intro y z H' hy hz s1
    refine b_iload_n rfl rfl ?_
    refine b_sipush rfl (by decide) ?_
    refine b_icmp_ge (tgt := 86) rfl rfl (fun c13 => ?_) (fun c13 => ?_)
    · omega
    · refine b_iload_n rfl rfl ?_
      refine b_if_eq (tgt := 86) rfl rfl (fun c17 => ?_) (fun c17 => ?_)
      · omega
      · refine b_aload_n rfl rfl ?_
        refine b_getR (r := 24) rfl fl0_9 rfl (by decide) rfl rfl ?_
        refine b_bipush rfl (by decide) ?_
        refine b_callV1i (ν := MX1_takeSign) rfl ml0_79 cvX1_takeSign (d' := 2) (by omega) rfl (by decide) rfl (Nat.le_of_ble_eq_true rfl) ?_
        refine rs_takeSignB s1 ?_
        refine ⟨_, rfl, ?_⟩
        refine b_if_eq (tgt := 49) rfl rfl (fun c29 => ?_) (fun c29 => ?_)
        · refine b_aload_n rfl rfl ?_
          refine b_getR (r := 24) rfl fl0_9 rfl (by decide) rfl rfl ?_
          refine b_bipush rfl (by decide) ?_
          refine b_callV1i (ν := MX1_takeSign) rfl ml0_79 cvX1_takeSign (d' := 2) (by omega) rfl (by decide) rfl (Nat.le_of_ble_eq_true rfl) ?_
          refine rs_takeSignB s1 ?_
          refine ⟨_, rfl, ?_⟩
          refine b_if_eq (tgt := 78) rfl rfl (fun c58 => ?_) (fun c58 => ?_)
          · refine b_iconst rfl (by decide) ?_
            refine b_istoreX_n (F := fun z79 => [some (aR 26), some (aI x), some (aI z79), some (aI z)]) rfl (by decide) (fun _ => rfl) (fun z79 ez79 => ?_)
            refine b_iincX (F := fun z80 => [some (aR 26), some (aI x), some (aI z79), some (aI z80)]) rfl rfl (by omega) (by omega) (fun _ => rfl) (fun z80 ez80 => ?_)
            refine b_goto (tgt := 9) rfl rfl ?_
            exact ex _ _ _ (by omega) s1
          · omega
        · omega
  refine b_aload_n rfl rfl ?_
  refine b_iload_n rfl rfl ?_
  refine b_callV1v (ν := MX0_readProduct) rfl ml0_98 cvX0_readProduct (d' := 5) (by omega) rfl (by decide) rfl (Nat.le_of_ble_eq_true rfl) ?_
  refine fc_product _ _ _ _ _ _ (Nat.le_refl _) hS (fun H' s1 => ?_)
  refine ⟨rfl, ?_⟩
  refine b_iconst rfl (by decide) ?_
  refine b_istoreX_n (F := fun z6 => [some (aR 26), some (aI x), some (aI z6), none]) rfl (by decide) (fun _ => rfl) (fun z6 ez6 => ?_)
  refine b_iconst rfl (by decide) ?_
  refine b_istoreX_n (F := fun z8 => [some (aR 26), some (aI x), some (aI z6), some (aI z8)]) rfl (by decide) (fun _ => rfl) (fun z8 ez8 => ?_)
  exact go _ _ _ (by omega) (by omega) s1
theorem rs_cmp (hX : TX I0 n) (hS : RS I0 n k0 r H) (hk : Ro k0 0 n r) (kq : ∀ x H', RS I0 n k0 (cmp1 n (I0 2) r) H' → (∀ (R : Nat → Nat → Nat → Res) (d : Nat), emi (bnd (cmp1 n (I0 2) r) (R 3 d)) x = cmpr n (I0 2) R d r) → Q (some (aI x)) H') : Rj MX0_readComparison 2 [aR 26] H Q := by
  refine rj_of okX0_readComparison (Nat.le_of_ble_eq_true rfl) rfl ?_
  cases r with
  | inl e =>
    have hS' := hS
    obtain ⟨I', h1, po, st, sp, va, wo, ts, tu, h2, h3⟩ := hS
    subst h2
    refine b_aload_n rfl rfl ?_
    refine b_getR (r := 24) rfl fl0_9 rfl (by decide) rfl rfl ?_
    refine b_getI rfl fl0_89 rfl (by decide) rfl ?_
    rw [LX_3]
    refine b_iconst rfl (by decide) ?_
    refine b_icmp_ne (tgt := 21) rfl rfl (fun c8 => ?_) (fun c8 => ?_)
    · refine b_iconst rfl (by decide) ?_
      refine b_istoreX_n (F := fun z22 => [some (aR 26), some (aI z22)]) rfl (by decide) (fun _ => rfl) (fun z22 ez22 => ?_)
      refine b_iload_n rfl rfl ?_
      refine b_bipush rfl (by decide) ?_
      refine b_icmp_eq (tgt := 41) rfl rfl (fun c26 => ?_) (fun c26 => ?_)
      · omega
      · refine b_iload_n rfl rfl ?_
        refine b_bipush rfl (by decide) ?_
        refine b_icmp_eq (tgt := 41) rfl rfl (fun c32 => ?_) (fun c32 => ?_)
        · omega
        · refine b_iload_n rfl rfl ?_
          refine b_bipush rfl (by decide) ?_
          refine b_icmp_ne (tgt := 51) rfl rfl (fun c38 => ?_) (fun c38 => ?_)
          · refine b_aload_n rfl rfl ?_
            refine b_getR (r := 24) rfl fl0_9 rfl (by decide) rfl rfl ?_
            refine b_callV0v (ν := MX1_wrong) rfl ml0_95 cvX1_wrong (d' := 1) (by omega) rfl (by decide) rfl (Nat.le_of_ble_eq_true rfl) ?_
            refine rs_wrongB (k := e.1) (pl := e.2) hS' (fun H' s1 => ?_)
            refine ⟨rfl, ?_⟩
            refine b_iload_n rfl rfl ?_
            refine b_bipush rfl (by decide) ?_
            refine b_icmp_ne (tgt := 69) rfl rfl (fun c61 => ?_) (fun c61 => ?_)
            · refine b_iload_n rfl rfl ?_
              refine b_bipush rfl (by decide) ?_
              refine b_icmp_ne (tgt := 80) rfl rfl (fun c72 => ?_) (fun c72 => ?_)
              · refine b_bipush rfl (by decide) ?_
                refine b_iret rfl rfl ?_
                exact kq _ _ s1 (fun _ _ => rfl)
              · omega
            · omega
          · omega
    · omega
  | inr y =>
    obtain ⟨q, c⟩ := y
    have hb := hk q c rfl
    have hn := hX.2.1
    obtain ⟨ts, tu, hL⟩ := hS
    have hL' := hL
    obtain ⟨po, va, e, h⟩ := hL
    have e3 : tk n (I0 2) q = 3 → va = tv n (I0 2) q := fun z => (h (Or.inr (Or.inr z))).2
    have fin : ∀ (z : Int) (H1 : HI), (tk n (I0 2) q = 3 ∧ z = tv n (I0 2) q ∧ (z = 60 ∨ z = 62 ∨ z = 61) ∧ RS I0 n k0 (.inr (te n (I0 2) q, c)) H1) ∨ (¬ (tk n (I0 2) q = 3 ∧ (tv n (I0 2) q = 60 ∨ tv n (I0 2) q = 62 ∨ tv n (I0 2) q = 61)) ∧ RS I0 n k0 (.inl (1, (tsp n (I0 2) q : Int))) H1) → Bj MX0_readComparison 2 58 [some (aR 26), some (aI z)] [] H1 Q := by
      intro z H1 hz
      have kk : ∀ x : Int, (x = if z = 60 then -13 else if z = 62 then -14 else -15) → Q (some (aI x)) H1 := by
        intro x hx
        rcases hz with ⟨z1, z2, z3, z4⟩ | ⟨z1, z4⟩
        · have hq : tk n (I0 2) q = 3 ∧ (tv n (I0 2) q = 60 ∨ tv n (I0 2) q = 62 ∨ tv n (I0 2) q = 61) := ⟨z1, by rw [← z2]; exact z3⟩
          refine kq x H1 (rsE (if_pos hq) z4) (fun R d => ?_)
          rw [show cmp1 n (I0 2) (.inr (q, c)) = .inr (te n (I0 2) q, c) from if_pos hq, show cmpr n (I0 2) R d (.inr (q, c)) = emi (bnd (.inr (te n (I0 2) q, c)) (R 3 d)) (if tv n (I0 2) q = 60 then -13 else if tv n (I0 2) q = 62 then -14 else -15) from if_pos hq, hx, z2]
        · refine kq x H1 (rsE (if_neg z1) z4) (fun R d => ?_)
          rw [show cmp1 n (I0 2) (.inr (q, c)) = .inl (1, (tsp n (I0 2) q : Int)) from if_neg z1, show cmpr n (I0 2) R d (.inr (q, c)) = .inl (1, (tsp n (I0 2) q : Int)) from if_neg z1]
          rfl
      refine b_iload_n rfl rfl ?_
      refine b_bipush rfl (by decide) ?_
      refine b_icmp_ne (tgt := 69) rfl rfl (fun c61 => ?_) (fun c61 => ?_)
      · refine b_iload_n rfl rfl ?_
        refine b_bipush rfl (by decide) ?_
        refine b_icmp_ne (tgt := 80) rfl rfl (fun c72 => ?_) (fun c72 => ?_)
        · refine b_bipush rfl (by decide) ?_
          refine b_iret rfl rfl ?_
          exact kk _ (by first | (rw [if_pos (by omega)]) | (rw [if_neg (by omega), if_pos (by omega)]) | (rw [if_neg (by omega), if_neg (by omega)]))
        · refine b_bipush rfl (by decide) ?_
          refine b_goto (tgt := 82) rfl rfl ?_
          refine b_iret rfl rfl ?_
          exact kk _ (by first | (rw [if_pos (by omega)]) | (rw [if_neg (by omega), if_pos (by omega)]) | (rw [if_neg (by omega), if_neg (by omega)]))
      · refine b_bipush rfl (by decide) ?_
        refine b_goto (tgt := 82) rfl rfl ?_
        refine b_iret rfl rfl ?_
        exact kk _ (by first | (rw [if_pos (by omega)]) | (rw [if_neg (by omega), if_pos (by omega)]) | (rw [if_neg (by omega), if_neg (by omega)]))
    have yes_ : ∀ z : Int, tk n (I0 2) q = 3 → z = tv n (I0 2) q → (z = 60 ∨ z = 62 ∨ z = 61) → Bj MX0_readComparison 2 41 [some (aR 26), some (aI z)] [] H Q := by
      intro z z1 z2 z3
      refine b_aload_n rfl rfl ?_
      refine b_getR (r := 24) rfl fl0_9 rfl (by decide) rfl rfl ?_
      refine b_callV0v (ν := MX1_take) rfl ml0_35 cvX1_take (d' := 1) (by omega) rfl (by decide) rfl (Nat.le_of_ble_eq_true rfl) ?_
      refine sp_take (stW_TX hX) hL' (Or.inr (Or.inr z1)) (fun H' hH' => ?_)
      refine ⟨rfl, ?_⟩
      refine b_goto (tgt := 58) rfl rfl ?_
      exact fin z _ (Or.inl ⟨z1, z2, z3, ⟨_, _, hH'⟩⟩)
    have no_ : ∀ z : Int, ¬ (tk n (I0 2) q = 3 ∧ (tv n (I0 2) q = 60 ∨ tv n (I0 2) q = 62 ∨ tv n (I0 2) q = 61)) → Bj MX0_readComparison 2 51 [some (aR 26), some (aI z)] [] H Q := by
      intro z z1
      refine b_aload_n rfl rfl ?_
      refine b_getR (r := 24) rfl fl0_9 rfl (by decide) rfl rfl ?_
      refine b_callV0v (ν := MX1_wrong) rfl ml0_95 cvX1_wrong (d' := 1) (by omega) rfl (by decide) rfl (Nat.le_of_ble_eq_true rfl) ?_
      refine sp_wrong hL' (fun H' hH' => ?_)
      refine ⟨rfl, ?_⟩
      exact fin z _ (Or.inr ⟨z1, ⟨_, FA_st (by omega), hH'⟩⟩)
    subst e
    refine b_aload_n rfl rfl ?_
    refine b_getR (r := 24) rfl fl0_9 rfl (by decide) rfl rfl ?_
    refine b_getI rfl fl0_89 rfl (by decide) rfl ?_
    rw [LX_3]
    refine b_iconst rfl (by decide) ?_
    refine b_icmp_ne (tgt := 21) rfl rfl (fun c8 => ?_) (fun c8 => ?_)
    · refine b_iconst rfl (by decide) ?_
      have e8 := e3
      rw [stW_2] at *
      refine b_istoreX_n (F := fun z22 => [some (aR 26), some (aI z22)]) rfl (by decide) (fun _ => rfl) (fun z22 ez22 => ?_)
      refine b_iload_n rfl rfl ?_
      refine b_bipush rfl (by decide) ?_
      refine b_icmp_eq (tgt := 41) rfl rfl (fun c26 => ?_) (fun c26 => ?_)
      · first
        | (have hz : tk n (I0 2) q = 3 := by omega
           have hv := e3 hz
           exact yes_ _ hz (by omega) (by omega))
        | (exfalso; omega)
      · refine b_iload_n rfl rfl ?_
        refine b_bipush rfl (by decide) ?_
        refine b_icmp_eq (tgt := 41) rfl rfl (fun c32 => ?_) (fun c32 => ?_)
        · first
          | (have hz : tk n (I0 2) q = 3 := by omega
             have hv := e3 hz
             exact yes_ _ hz (by omega) (by omega))
          | (exfalso; omega)
        · refine b_iload_n rfl rfl ?_
          refine b_bipush rfl (by decide) ?_
          refine b_icmp_ne (tgt := 51) rfl rfl (fun c38 => ?_) (fun c38 => ?_)
          · first
            | (have hz : tk n (I0 2) q ≠ 3 := by omega
               exact no_ _ (fun w => hz w.1))
            | (have hz : tk n (I0 2) q = 3 := by omega
               have hv := e3 hz
               exact no_ _ (by omega))
          · first
            | (have hz : tk n (I0 2) q = 3 := by omega
               have hv := e3 hz
               exact yes_ _ hz (by omega) (by omega))
            | (exfalso; omega)
    · refine b_aload_n rfl rfl ?_
      refine b_getR (r := 24) rfl fl0_9 rfl (by decide) rfl rfl ?_
      refine b_getI rfl fl0_92 rfl (by decide) rfl ?_
      rw [LX_6]
      refine b_goto (tgt := 22) rfl rfl ?_
      have e8 := e3
      rw [stW_2] at *
      refine b_istoreX_n (F := fun z22 => [some (aR 26), some (aI z22)]) rfl (by decide) (fun _ => rfl) (fun z22 ez22 => ?_)
      refine b_iload_n rfl rfl ?_
      refine b_bipush rfl (by decide) ?_
      refine b_icmp_eq (tgt := 41) rfl rfl (fun c26 => ?_) (fun c26 => ?_)
      · first
        | (have hz : tk n (I0 2) q = 3 := by omega
           have hv := e3 hz
           exact yes_ _ hz (by omega) (by omega))
        | (exfalso; omega)
      · refine b_iload_n rfl rfl ?_
        refine b_bipush rfl (by decide) ?_
        refine b_icmp_eq (tgt := 41) rfl rfl (fun c32 => ?_) (fun c32 => ?_)
        · first
          | (have hz : tk n (I0 2) q = 3 := by omega
             have hv := e3 hz
             exact yes_ _ hz (by omega) (by omega))
          | (exfalso; omega)
        · refine b_iload_n rfl rfl ?_
          refine b_bipush rfl (by decide) ?_
          refine b_icmp_ne (tgt := 51) rfl rfl (fun c38 => ?_) (fun c38 => ?_)
          · first
            | (have hz : tk n (I0 2) q ≠ 3 := by omega
               exact no_ _ (fun w => hz w.1))
            | (have hz : tk n (I0 2) q = 3 := by omega
               have hv := e3 hz
               exact no_ _ (by omega))
          · first
            | (have hz : tk n (I0 2) q = 3 := by omega
               have hv := e3 hz
               exact yes_ _ hz (by omega) (by omega))
            | (exfalso; omega)
theorem fc_fact (hX : TX I0 n) : FC I0 n k0 MX0_readFact 7 := by
  intro x d k pl H Q hd hS kq
  refine rj_of okX0_readFact (Nat.le_of_ble_eq_true rfl) rfl ?_
  refine b_aload_n rfl rfl ?_
  refine b_getR (r := 24) rfl fl0_9 rfl (by decide) rfl rfl ?_
  refine b_bipush rfl (by decide) ?_
  refine b_callV1i (ν := MX1_takeWord) rfl ml0_67 cvX1_takeWord (d' := 2) (by omega) rfl (by decide) rfl (Nat.le_of_ble_eq_true rfl) ?_
  refine rs_takeWordB hS ?_
  refine ⟨_, rfl, ?_⟩
  refine b_if_eq (tgt := 39) rfl rfl (fun c9 => ?_) (fun c9 => ?_)
  · refine b_aload_n rfl rfl ?_
    refine b_getR (r := 24) rfl fl0_9 rfl (by decide) rfl rfl ?_
    refine b_bipush rfl (by decide) ?_
    refine b_callV1i (ν := MX1_takeSign) rfl ml0_79 cvX1_takeSign (d' := 2) (by omega) rfl (by decide) rfl (Nat.le_of_ble_eq_true rfl) ?_
    refine rs_takeSignB hS ?_
    refine ⟨_, rfl, ?_⟩
    refine b_if_eq (tgt := 78) rfl rfl (fun c48 => ?_) (fun c48 => ?_)
    · refine b_aload_n rfl rfl ?_
      refine b_getR (r := 24) rfl fl0_9 rfl (by decide) rfl rfl ?_
      refine b_bipush rfl (by decide) ?_
      refine b_callV1i (ν := MX1_takeWord) rfl ml0_67 cvX1_takeWord (d' := 2) (by omega) rfl (by decide) rfl (Nat.le_of_ble_eq_true rfl) ?_
      refine rs_takeWordB hS ?_
      refine ⟨_, rfl, ?_⟩
      refine b_if_eq (tgt := 101) rfl rfl (fun c87 => ?_) (fun c87 => ?_)
      · refine b_aload_n rfl rfl ?_
        refine b_iload_n rfl rfl ?_
        refine b_callV1v (ν := MX0_readSum) rfl ml0_55 cvX0_readSum (d' := 6) (by omega) rfl (by decide) rfl (Nat.le_of_ble_eq_true rfl) ?_
        refine fc_sum _ _ _ _ _ _ (Nat.le_refl _) hS (fun H1 s1 => ?_)
        refine ⟨rfl, ?_⟩
        refine b_aload_n rfl rfl ?_
        refine b_callV0i (ν := MX0_readComparison) rfl ml0_85 cvX0_readComparison (d' := 2) (by omega) rfl (by decide) rfl (Nat.le_of_ble_eq_true rfl) ?_
        refine rs_cmp hX s1 ro_inl (fun x2 H2 s2 _ => ?_)
        refine ⟨_, rfl, ?_⟩
        refine b_istoreX_n (F := fun z110 => [some (aR 26), some (aI x), some (aI z110)]) rfl (by decide) (fun _ => rfl) (fun z110 ez110 => ?_)
        refine b_aload_n rfl rfl ?_
        refine b_iload_n rfl rfl ?_
        refine b_callV1v (ν := MX0_readSum) rfl ml0_55 cvX0_readSum (d' := 6) (by omega) rfl (by decide) rfl (Nat.le_of_ble_eq_true rfl) ?_
        refine fc_sum _ _ _ _ _ _ (Nat.le_refl _) s2 (fun H3 s3 => ?_)
        refine ⟨rfl, ?_⟩
        refine b_aload_n rfl rfl ?_
        refine b_getR (r := 12) rfl fl0_15 rfl (by decide) rfl rfl ?_
        refine b_iload_n rfl rfl ?_
        refine b_callV1v (ν := MX3_emit) rfl ml0_70 cvX3_emit (d' := 0) (by omega) rfl (by decide) rfl (Nat.le_of_ble_eq_true rfl) ?_
        refine rs_emitB hX.2.1 s3 (fun H4 s4 => ?_)
        refine ⟨rfl, ?_⟩
        refine b_vret rfl rfl ?_
        exact kq _ s4
      · omega
    · omega
  · omega
theorem fc_both (hX : TX I0 n) : FC I0 n k0 MX0_readBoth 8 := by
  intro x d k pl H Q hd hS kq
  refine rj_of okX0_readBoth (Nat.le_of_ble_eq_true rfl) rfl ?_
  refine b_aload_n rfl rfl ?_
  refine b_iload_n rfl rfl ?_
  refine b_callV1v (ν := MX0_readFact) rfl ml0_73 cvX0_readFact (d' := 7) (by omega) rfl (by decide) rfl (Nat.le_of_ble_eq_true rfl) ?_
  refine fc_fact hX _ _ _ _ _ _ (Nat.le_refl _) hS (fun H1 s1 => ?_)
  refine ⟨rfl, ?_⟩
  refine b_iconst rfl (by decide) ?_
  refine b_istoreX_n (F := fun z6 => [some (aR 26), some (aI x), some (aI z6)]) rfl (by decide) (fun _ => rfl) (fun z6 ez6 => ?_)
  refine b_iload_n rfl rfl ?_
  refine b_sipush rfl (by decide) ?_
  refine b_icmp_ge (tgt := 46) rfl rfl (fun c11 => ?_) (fun c11 => ?_)
  · omega
  · refine b_aload_n rfl rfl ?_
    refine b_getR (r := 24) rfl fl0_9 rfl (by decide) rfl rfl ?_
    refine b_bipush rfl (by decide) ?_
    refine b_callV1i (ν := MX1_takeWord) rfl ml0_67 cvX1_takeWord (d' := 2) (by omega) rfl (by decide) rfl (Nat.le_of_ble_eq_true rfl) ?_
    refine rs_takeWordB s1 ?_
    refine ⟨_, rfl, ?_⟩
    refine b_if_eq (tgt := 46) rfl rfl (fun c23 => ?_) (fun c23 => ?_)
    · refine b_vret rfl rfl ?_
      exact kq _ s1
    · omega
theorem fc_test (hX : TX I0 n) : FC I0 n k0 MX0_readTest 9 := by
  intro x d k pl H Q hd hS kq
  refine rj_of okX0_readTest (Nat.le_of_ble_eq_true rfl) rfl ?_
  refine b_aload_n rfl rfl ?_
  refine b_iload_n rfl rfl ?_
  refine b_callV1v (ν := MX0_readBoth) rfl ml0_64 cvX0_readBoth (d' := 8) (by omega) rfl (by decide) rfl (Nat.le_of_ble_eq_true rfl) ?_
  refine fc_both hX _ _ _ _ _ _ (Nat.le_refl _) hS (fun H1 s1 => ?_)
  refine ⟨rfl, ?_⟩
  refine b_iconst rfl (by decide) ?_
  refine b_istoreX_n (F := fun z6 => [some (aR 26), some (aI x), some (aI z6)]) rfl (by decide) (fun _ => rfl) (fun z6 ez6 => ?_)
  refine b_iload_n rfl rfl ?_
  refine b_sipush rfl (by decide) ?_
  refine b_icmp_ge (tgt := 46) rfl rfl (fun c11 => ?_) (fun c11 => ?_)
  · omega
  · refine b_aload_n rfl rfl ?_
    refine b_getR (r := 24) rfl fl0_9 rfl (by decide) rfl rfl ?_
    refine b_bipush rfl (by decide) ?_
    refine b_callV1i (ν := MX1_takeWord) rfl ml0_67 cvX1_takeWord (d' := 2) (by omega) rfl (by decide) rfl (Nat.le_of_ble_eq_true rfl) ?_
    refine rs_takeWordB s1 ?_
    refine ⟨_, rfl, ?_⟩
    refine b_if_eq (tgt := 46) rfl rfl (fun c23 => ?_) (fun c23 => ?_)
    · refine b_vret rfl rfl ?_
      exact kq _ s1
    · omega
theorem see_no {B : Nat → Int} {se p : Nat} (h : tk n B p ≠ 1) : ∀ f k, k + f ≤ 8 → seeF n B se p f k = .inl (1, (tsp n B p : Int)) := by
  intro f
  induction f with
  | zero => intro k _; rfl
  | succ f ih =>
    intro k hk
    have hs : ∀ k : Fin 8, 0 ≤ seW k.val := by decide
    have h2 : ¬ (se / 2 ^ k % 2 = 1 ∧ tw n B p = seW k) := fun w => h (tw_1 w.2 (hs ⟨k, by omega⟩))
    rw [show seeF n B se p (f + 1) k = (if se / 2 ^ k % 2 = 1 ∧ tw n B p = seW k then .inr (te n B p, [-1 - (k : Int)]) else seeF n B se p f (k + 1)) from rfl, if_neg h2]
    exact ih _ (by omega)
theorem rs_seen {se d p : Nat} {c : List Int} (hX : TX I0 n) (hd : 2 ≤ d) (hse : I0 26 2 = (se : Int) ∧ se < 256) (hS : RS I0 n k0 (.inr (p, c)) H) (hk : Ro k0 0 n (.inr (p, c))) (kq : ∀ H', RS I0 n k0 (pcat c (seeF n (I0 2) se p 8 0)) H' → Q none H') : Rj MX0_readSeen d [aR 26] H Q := by
  refine rj_of okX0_readSeen (Nat.le_of_ble_eq_true rfl) rfl ?_
  have hb := hk p c rfl
  have hn := hX.2.1
  obtain ⟨ts, tu, hL⟩ := hS
  have hL' := hL
  obtain ⟨po, va, e, h⟩ := hL
  have no_ : ∀ z : Option AV, (∀ H', RS I0 n k0 (.inl (1, (tsp n (I0 2) p : Int))) H' → Q none H') → Bj MX0_readSeen d 70 [some (aR 26), z] [] H Q := by
    intro z kn
    refine b_aload_n rfl rfl ?_
    refine b_getR (r := 24) rfl fl0_9 rfl (by decide) rfl rfl ?_
    refine b_callV0v (ν := MX1_wrong) rfl ml0_95 cvX1_wrong (d' := 1) (by omega) rfl (by decide) rfl (Nat.le_of_ble_eq_true rfl) ?_
    refine sp_wrong hL' (fun H' hH' => ?_)
    refine ⟨rfl, ?_⟩
    refine b_vret rfl rfl ?_
    exact kn _ ⟨_, FA_st (by omega), hH'⟩
  have yes_ : ∀ (k : Nat) (z : Int), k < 8 → z = (k : Int) → tk n (I0 2) p = 1 → (∀ H', RS I0 n k0 (.inr (te n (I0 2) p, c ++ [-1 - (k : Int)])) H' → Q none H') → Bj MX0_readSeen d 46 [some (aR 26), some (aI z)] [] H Q := by
    intro k z hk8 hz h1 kn
    have hr : Ro (k0 + 1) 0 n (.inr (te n (I0 2) p, c)) := (ro_te hk (Or.inl h1)).w (by omega) (by omega)
    refine b_aload_n rfl rfl ?_
    refine b_getR (r := 24) rfl fl0_9 rfl (by decide) rfl rfl ?_
    refine b_callV0v (ν := MX1_take) rfl ml0_35 cvX1_take (d' := 1) (by omega) rfl (by decide) rfl (Nat.le_of_ble_eq_true rfl) ?_
    refine sp_take (stW_TX hX) hL' (Or.inl h1) (fun H' hH' => ?_)
    refine ⟨rfl, ?_⟩
    refine b_aload_n rfl rfl ?_
    refine b_getR (r := 12) rfl fl0_15 rfl (by decide) rfl rfl ?_
    refine b_iconst rfl (by decide) ?_
    refine b_iload_n rfl rfl ?_
    refine b_isubN rfl (by omega) (by omega) ?_
    refine b_callV1v (ν := MX3_emit) rfl ml0_70 cvX3_emit (d' := 0) (by omega) rfl (by decide) rfl (Nat.le_of_ble_eq_true rfl) ?_
    refine rs_emit (r := .inr (te n (I0 2) p, c)) hn ⟨_, _, hH'⟩ hr (fun H2 s2 => ?_)
    refine ⟨rfl, ?_⟩
    refine b_vret rfl rfl ?_
    exact kn _ (rsE (by rw [hz]; rfl) s2)
  subst e
  have lp : ∀ (g k : Nat) (z : Int), k + g = 8 → z = (k : Int) → (∀ H', RS I0 n k0 (pcat c (seeF n (I0 2) se p g k)) H' → Q none H') → Bj MX0_readSeen d 2 [some (aR 26), some (aI z)] [] (LX (stW I0 k0 c) po (tk n (stW I0 k0 c 2) p : Int) (tq n (stW I0 k0 c 2) p : Int) (tsp n (stW I0 k0 c 2) p : Int) va (tw n (stW I0 k0 c 2) p) ts tu 0 (-1)) Q := by
    intro g
    induction g with
    | zero =>
      intro k z hk hz kk
      refine b_iload_n rfl rfl ?_
      refine b_bipush rfl (by decide) ?_
      refine b_icmp_ge (tgt := 70) rfl rfl (fun c5 => ?_) (fun c5 => ?_)
      · exact no_ _ kk
      · omega
    | succ g ih =>
      intro k z hk hz kk
      have e26 : stW I0 k0 c 26 2 = (se : Int) := hse.1
      have sh : iAnd (iShr (stW I0 k0 c 26 2) z) 1 = ((se / 2 ^ k % 2 : Nat) : Int) := by
        rw [e26, hz, iShr_p k (by unfold in32; omega) (by omega), iAnd_1]
        push_cast
        rfl
      have ew : (stl 6).getD z.toNat 0 = seW k := by
        rw [hz, Int.toNat_natCast]
        rfl
      have eS : seeF n (I0 2) se p (g + 1) k = (if se / 2 ^ k % 2 = 1 ∧ tw n (I0 2) p = seW k then .inr (te n (I0 2) p, [-1 - (k : Int)]) else seeF n (I0 2) se p g (k + 1)) := rfl
      have in6 : in32 ((stl 6).getD z.toNat 0) := by
        rw [ew]
        have hs : ∀ k : Fin 8, 0 ≤ seW k.val ∧ seW k.val < 100 := by decide
        have hq : 0 ≤ seW k ∧ seW k < 100 := hs ⟨k, by omega⟩
        unfold in32
        show -2147483648 ≤ seW k ∧ seW k < 2147483648
        exact ⟨by have := hq.1; omega, by have := hq.2; omega⟩
      have l8 : (((stl 6).length : Nat) : Int) = 8 := rfl
      refine b_iload_n rfl rfl ?_
      refine b_bipush rfl (by decide) ?_
      refine b_icmp_ge (tgt := 70) rfl rfl (fun c5 => ?_) (fun c5 => ?_)
      · omega
      · refine b_aload_n rfl rfl ?_
        refine b_getR (r := 24) rfl fl0_9 rfl (by decide) rfl rfl ?_
        refine b_getI rfl fl0_89 rfl (by decide) rfl ?_
        rw [LX_3]
        refine b_iconst rfl (by decide) ?_
        refine b_icmp_ne (tgt := 70) rfl rfl (fun c16 => ?_) (fun c16 => ?_)
        · have h1 : tk n (I0 2) p ≠ 1 := fun w => c16 (by rw [stW_2, w]; rfl)
          refine no_ _ (fun H' s => kk H' (rsE ?_ s))
          rw [see_no h1 _ _ (by omega)]
          rfl
        · refine b_aload_n rfl rfl ?_
          refine b_getI rfl fl0_42 rfl (by decide) rfl ?_
          rw [LXc (by decide)]
          refine b_iload_n rfl rfl ?_
          refine b_ishr rfl ?_
          refine b_iconst rfl (by decide) ?_
          refine b_iand rfl ?_
          rw [sh]
          refine b_iconst rfl (by decide) ?_
          refine b_icmp_ne (tgt := 64) rfl rfl (fun c28 => ?_) (fun c28 => ?_)
          · refine b_iincX (F := fun z64 => [some (aR 26), some (aI z64)]) rfl rfl (by omega) (by omega) (fun _ => rfl) (fun z64 ez64 => ?_)
            refine b_goto (tgt := 2) rfl rfl ?_
            first
            | (have h2 : ¬ (se / 2 ^ k % 2 = 1 ∧ tw n (I0 2) p = seW k) := fun w => by have := w.1; omega
               refine ih (k + 1) _ (by omega) (by omega) (fun H' s => kk H' (rsE ?_ s))
               rw [eS, if_neg h2])
            | (have h2 : ¬ (se / 2 ^ k % 2 = 1 ∧ tw n (I0 2) p = seW k) := fun w => by have := w.2; rw [stW_2] at c43; omega
               refine ih (k + 1) _ (by omega) (by omega) (fun H' s => kk H' (rsE ?_ s))
               rw [eS, if_neg h2])
          · refine b_aload_n rfl rfl ?_
            refine b_getR (r := 24) rfl fl0_9 rfl (by decide) rfl rfl ?_
            refine b_getI rfl fl0_119 rfl (by decide) rfl ?_
            rw [LX_7]
            refine b_gets rfl (by decide) fs0_122 ?_
            refine b_iload_n rfl rfl ?_
            refine b_sald rfl (by decide) (by omega) (by omega) in6 ?_
            rw [ew]
            refine b_icmp_ne (tgt := 64) rfl rfl (fun c43 => ?_) (fun c43 => ?_)
            · refine b_iincX (F := fun z64 => [some (aR 26), some (aI z64)]) rfl rfl (by omega) (by omega) (fun _ => rfl) (fun z64 ez64 => ?_)
              refine b_goto (tgt := 2) rfl rfl ?_
              first
              | (have h2 : ¬ (se / 2 ^ k % 2 = 1 ∧ tw n (I0 2) p = seW k) := fun w => by have := w.1; omega
                 refine ih (k + 1) _ (by omega) (by omega) (fun H' s => kk H' (rsE ?_ s))
                 rw [eS, if_neg h2])
              | (have h2 : ¬ (se / 2 ^ k % 2 = 1 ∧ tw n (I0 2) p = seW k) := fun w => by have := w.2; rw [stW_2] at c43; omega
                 refine ih (k + 1) _ (by omega) (by omega) (fun H' s => kk H' (rsE ?_ s))
                 rw [eS, if_neg h2])
            · have h1 : tk n (I0 2) p = 1 := by rw [stW_2] at c16; omega
              have h2 : se / 2 ^ k % 2 = 1 ∧ tw n (I0 2) p = seW k := ⟨by omega, by rw [stW_2] at c43; exact c43⟩
              refine yes_ k z (by omega) hz h1 (fun H' s => kk H' (rsE ?_ s))
              rw [eS, if_pos h2]
              rfl
  refine b_iconst rfl (by decide) ?_
  refine b_istoreX_n (F := fun z1 => [some (aR 26), some (aI z1)]) rfl (by decide) (fun _ => rfl) (fun z1 ez1 => ?_)
  exact lp 8 0 _ rfl (by omega) kq
end FRX
