/-! ===== the reference: what the reading rests on ===== -/
section MMU
variable {K H : HI} {Q : Option AV → HI → Prop} {n p : Nat} {B : Nat → Int}
theorem mx_blame {si sa en va wo lx k pl : Int} (kq : Q none (MX K si sa en va wo k pl lx)) : Rj MX12_blame 0 [aR 57, aI k, aI pl] (MX K si sa en va wo 0 (-1) lx) Q := by
  refine rj_of okX12_blame (Nat.le_of_ble_eq_true rfl) rfl ?_
  refine b_aload_n rfl rfl ?_
  refine b_getI rfl fl12_36 rfl (by decide) rfl ?_
  rw [MX_8]
  refine b_if_le (tgt := 8) rfl rfl (fun c4 => ?_) (fun c4 => ?_)
  · refine b_aload_n rfl rfl ?_
    refine b_iload_n rfl rfl ?_
    refine b_putI rfl fl12_36 rfl (by decide) rfl ?_
    rw [MX_u8]
    refine b_aload_n rfl rfl ?_
    refine b_iload_n rfl rfl ?_
    refine b_putI rfl fl12_39 rfl (by decide) rfl ?_
    rw [MX_u9]
    refine b_vret rfl rfl ?_
    exact kq
  · omega
theorem mx_blameB {si sa en va wo lx k pl k' pl' : Int} (hk : 0 < k') (kq : Q none (MX K si sa en va wo k' pl' lx)) : Rj MX12_blame 0 [aR 57, aI k, aI pl] (MX K si sa en va wo k' pl' lx) Q := by
  refine rj_of okX12_blame (Nat.le_of_ble_eq_true rfl) rfl ?_
  refine b_aload_n rfl rfl ?_
  refine b_getI rfl fl12_36 rfl (by decide) rfl ?_
  rw [MX_8]
  refine b_if_le (tgt := 8) rfl rfl (fun c4 => ?_) (fun c4 => ?_)
  · omega
  · refine b_vret rfl rfl ?_
    exact kq
theorem mk_blame {k pl : Int} (hk : 0 < k) (hM : Mok K n B p H) (kq : ∀ H', Mbad K k pl H' → Q none H') : Rj MX12_blame 0 [aR 57, aI k, aI pl] H Q := by
  obtain ⟨si, sa, en, va, wo, lx, e, h⟩ := hM
  subst e
  exact mx_blame (kq _ ⟨_, _, _, _, _, _, rfl, hk⟩)
theorem mk_blameB {k pl k' pl' : Int} (hM : Mbad K k' pl' H) (kq : Q none H) : Rj MX12_blame 0 [aR 57, aI k, aI pl] H Q := by
  obtain ⟨si, sa, en, va, wo, lx, e, h⟩ := hM
  subst e
  exact mx_blameB h kq
theorem mk_lex (hM : Mok K n B p H) (k0 : tk n B p ≠ 4 → Q none H) (k4 : tk n B p = 4 → ∀ H', Mbad K 1 (tsp n B p : Int) H' → Q none H') : Rj MX12_lex 1 [aR 57] H Q := by
  have hM' := hM
  obtain ⟨si, sa, en, va, wo, lx, e, h1, h2, h3, h4⟩ := hM
  subst e
  refine rj_of okX12_lex (Nat.le_of_ble_eq_true rfl) rfl ?_
  by_cases hk : tk n B p = 4
  · have h5 := h3 hk
    refine b_aload_n rfl rfl ?_
    refine b_getI rfl fl12_48 rfl (by decide) rfl ?_
    rw [MX_12]
    refine b_iconst rfl (by decide) ?_
    refine b_icmp_eq (tgt := 17) rfl rfl (fun c5 => ?_) (fun c5 => ?_)
    · omega
    · refine b_aload_n rfl rfl ?_
      refine b_iconst rfl (by decide) ?_
      refine b_aload_n rfl rfl ?_
      refine b_getI rfl fl12_48 rfl (by decide) rfl ?_
      rw [MX_12]
      refine b_callV2v (ν := MX12_blame) rfl ml12_236 cvX12_blame (d' := 0) (by omega) rfl (by decide) rfl (Nat.le_of_ble_eq_true rfl) ?_
      refine mk_blame (by decide) hM' (fun H' hb => ?_)
      refine ⟨rfl, ?_⟩
      refine b_vret rfl rfl ?_
      rw [h5.1] at hb
      exact k4 hk _ hb
  · have h5 := h2 hk
    refine b_aload_n rfl rfl ?_
    refine b_getI rfl fl12_48 rfl (by decide) rfl ?_
    rw [MX_12]
    refine b_iconst rfl (by decide) ?_
    refine b_icmp_eq (tgt := 17) rfl rfl (fun c5 => ?_) (fun c5 => ?_)
    · refine b_vret rfl rfl ?_
      exact k0 hk
    · omega
theorem mk_lexB {k pl : Int} (hM : Mbad K k pl H) (kq : Q none H) : Rj MX12_lex 1 [aR 57] H Q := by
  have hM' := hM
  obtain ⟨si, sa, en, va, wo, lx, e, h⟩ := hM
  subst e
  refine rj_of okX12_lex (Nat.le_of_ble_eq_true rfl) rfl ?_
  refine b_aload_n rfl rfl ?_
  refine b_getI rfl fl12_48 rfl (by decide) rfl ?_
  rw [MX_12]
  refine b_iconst rfl (by decide) ?_
  refine b_icmp_eq (tgt := 17) rfl rfl (fun c5 => ?_) (fun c5 => ?_)
  · refine b_vret rfl rfl ?_
    exact kq
  · refine b_aload_n rfl rfl ?_
    refine b_iconst rfl (by decide) ?_
    refine b_aload_n rfl rfl ?_
    refine b_getI rfl fl12_48 rfl (by decide) rfl ?_
    rw [MX_12]
    refine b_callV2v (ν := MX12_blame) rfl ml12_236 cvX12_blame (d' := 0) (by omega) rfl (by decide) rfl (Nat.le_of_ble_eq_true rfl) ?_
    refine mk_blameB hM' ?_
    refine ⟨rfl, ?_⟩
    refine b_vret rfl rfl ?_
    exact kq
theorem mk_isSign {c : Int} (h4 : tk n B p ≠ 4) (hM : Mok K n B p H) (k1 : sg n B p c → Q (some (aI 1)) H) (k0 : ¬ sg n B p c → Q (some (aI 0)) H) : Rj MX12_isSign 0 [aR 57, aI c] H Q := by
  obtain ⟨si, sa, en, va, wo, lx, e, h1, h2, h3, h5, h6, h7⟩ := hM
  subst e
  have h8 := h2 h4
  have h9 : tk n B p = 3 → va = tv n B p := fun z => h7 (Or.inr z)
  refine rj_of okX12_isSign (Nat.le_of_ble_eq_true rfl) rfl ?_
  by_cases hs : sg n B p c
  · have e1 := hs.1
    have e2 := h9 hs.1
    have e3 := hs.2
    refine b_aload_n rfl rfl ?_
    refine b_getI rfl fl12_20 rfl (by decide) rfl ?_
    rw [MX_3]
    refine b_iconst rfl (by decide) ?_
    refine b_icmp_ne (tgt := 20) rfl rfl (fun c5 => ?_) (fun c5 => ?_)
    · omega
    · refine b_aload_n rfl rfl ?_
      refine b_getI rfl fl12_29 rfl (by decide) rfl ?_
      rw [MX_6]
      refine b_iload_n rfl rfl ?_
      refine b_icmp_ne (tgt := 20) rfl rfl (fun c13 => ?_) (fun c13 => ?_)
      · omega
      · refine b_iconst rfl (by decide) ?_
        refine b_goto (tgt := 21) rfl rfl ?_
        refine b_zret rfl rfl (by first | decide | omega) ?_
        exact k1 hs
  · skip
    refine b_aload_n rfl rfl ?_
    refine b_getI rfl fl12_20 rfl (by decide) rfl ?_
    rw [MX_3]
    refine b_iconst rfl (by decide) ?_
    refine b_icmp_ne (tgt := 20) rfl rfl (fun c5 => ?_) (fun c5 => ?_)
    · refine b_iconst rfl (by decide) ?_
      refine b_zret rfl rfl (by first | decide | omega) ?_
      first
      | exact k0 hs
      | (exfalso
         have e1 : tk n B p = 3 := by omega
         have e2 := h9 e1
         exact hs ⟨e1, by omega⟩)
    · refine b_aload_n rfl rfl ?_
      refine b_getI rfl fl12_29 rfl (by decide) rfl ?_
      rw [MX_6]
      refine b_iload_n rfl rfl ?_
      refine b_icmp_ne (tgt := 20) rfl rfl (fun c13 => ?_) (fun c13 => ?_)
      · refine b_iconst rfl (by decide) ?_
        refine b_zret rfl rfl (by first | decide | omega) ?_
        first
        | exact k0 hs
        | (exfalso
           have e1 : tk n B p = 3 := by omega
           have e2 := h9 e1
           exact hs ⟨e1, by omega⟩)
      · refine b_iconst rfl (by decide) ?_
        refine b_goto (tgt := 21) rfl rfl ?_
        refine b_zret rfl rfl (by first | decide | omega) ?_
        first
        | exact k0 hs
        | (exfalso
           have e1 : tk n B p = 3 := by omega
           have e2 := h9 e1
           exact hs ⟨e1, by omega⟩)
theorem mk_isSignB {c k pl : Int} (hM : Mbad K k pl H) (kq : ∀ z, z = 0 ∨ z = 1 → Q (some (aI z)) H) : Rj MX12_isSign 0 [aR 57, aI c] H Q := by
  obtain ⟨si, sa, en, va, wo, lx, e, h⟩ := hM
  subst e
  refine rj_of okX12_isSign (Nat.le_of_ble_eq_true rfl) rfl ?_
  refine b_aload_n rfl rfl ?_
  refine b_getI rfl fl12_20 rfl (by decide) rfl ?_
  rw [MX_3]
  refine b_iconst rfl (by decide) ?_
  refine b_icmp_ne (tgt := 20) rfl rfl (fun c5 => ?_) (fun c5 => ?_)
  · refine b_iconst rfl (by decide) ?_
    refine b_zret rfl rfl (by first | decide | omega) ?_
    exact kq _ (by omega)
  · refine b_aload_n rfl rfl ?_
    refine b_getI rfl fl12_29 rfl (by decide) rfl ?_
    rw [MX_6]
    refine b_iload_n rfl rfl ?_
    refine b_icmp_ne (tgt := 20) rfl rfl (fun c13 => ?_) (fun c13 => ?_)
    · refine b_iconst rfl (by decide) ?_
      refine b_zret rfl rfl (by first | decide | omega) ?_
      exact kq _ (by omega)
    · refine b_iconst rfl (by decide) ?_
      refine b_goto (tgt := 21) rfl rfl ?_
      refine b_zret rfl rfl (by first | decide | omega) ?_
      exact kq _ (by omega)
theorem mk_isWord {w : Int} {k : Nat} (hk : k < 29) (hw : w = own8 k) (h4 : tk n B p ≠ 4) (hM : Mok K n B p H) (k1 : tw n B p = (k : Int) → Q (some (aI 1)) H) (k0 : tw n B p ≠ (k : Int) → Q (some (aI 0)) H) : Rj MX12_isWord 0 [aR 57, aJ w] H Q := by
  obtain ⟨si, sa, en, va, wo, lx, e, h1, h2, h3, h5, h6, h7⟩ := hM
  subst e
  have h8 := h2 h4
  refine rj_of okX12_isWord (Nat.le_of_ble_eq_true rfl) rfl ?_
  by_cases hs : tk n B p = 1
  · have e1 := h6 hs
    have e2 := tw_8 hs hk
    refine b_aload_n rfl rfl ?_
    refine b_getI rfl fl12_20 rfl (by decide) rfl ?_
    rw [MX_3]
    refine b_iconst rfl (by decide) ?_
    refine b_icmp_ne (tgt := 21) rfl rfl (fun c5 => ?_) (fun c5 => ?_)
    · omega
    · refine b_aload_n rfl rfl ?_
      refine b_getJ rfl fl12_32 rfl (by decide) rfl ?_
      rw [MX_7]
      refine b_lload_n rfl rfl ?_
      refine b_lcmpX rfl (fun lc13 hlc13 => ?_)
      refine b_if_ne (tgt := 21) rfl rfl (fun c14 => ?_) (fun c14 => ?_)
      · refine b_iconst rfl (by decide) ?_
        refine b_zret rfl rfl (by first | decide | omega) ?_
        first
        | (have e3 : tw n B p = (k : Int) := e2.2 (by omega)
           exact k1 e3)
        | (have e3 : tw n B p ≠ (k : Int) := fun z => by have := e2.1 z; omega
           exact k0 e3)
      · refine b_iconst rfl (by decide) ?_
        refine b_goto (tgt := 22) rfl rfl ?_
        refine b_zret rfl rfl (by first | decide | omega) ?_
        first
        | (have e3 : tw n B p = (k : Int) := e2.2 (by omega)
           exact k1 e3)
        | (have e3 : tw n B p ≠ (k : Int) := fun z => by have := e2.1 z; omega
           exact k0 e3)
  · have e3 : tw n B p ≠ (k : Int) := by rw [tw_q hs]; omega
    refine b_aload_n rfl rfl ?_
    refine b_getI rfl fl12_20 rfl (by decide) rfl ?_
    rw [MX_3]
    refine b_iconst rfl (by decide) ?_
    refine b_icmp_ne (tgt := 21) rfl rfl (fun c5 => ?_) (fun c5 => ?_)
    · refine b_iconst rfl (by decide) ?_
      refine b_zret rfl rfl (by first | decide | omega) ?_
      exact k0 e3
    · omega
theorem mk_isWordB {w k pl : Int} (hM : Mbad K k pl H) (kq : ∀ z, z = 0 ∨ z = 1 → Q (some (aI z)) H) : Rj MX12_isWord 0 [aR 57, aJ w] H Q := by
  obtain ⟨si, sa, en, va, wo, lx, e, h⟩ := hM
  subst e
  refine rj_of okX12_isWord (Nat.le_of_ble_eq_true rfl) rfl ?_
  refine b_aload_n rfl rfl ?_
  refine b_getI rfl fl12_20 rfl (by decide) rfl ?_
  rw [MX_3]
  refine b_iconst rfl (by decide) ?_
  refine b_icmp_ne (tgt := 21) rfl rfl (fun c5 => ?_) (fun c5 => ?_)
  · refine b_iconst rfl (by decide) ?_
    refine b_zret rfl rfl (by first | decide | omega) ?_
    exact kq _ (by omega)
  · refine b_aload_n rfl rfl ?_
    refine b_getJ rfl fl12_32 rfl (by decide) rfl ?_
    rw [MX_7]
    refine b_lload_n rfl rfl ?_
    refine b_lcmpX rfl (fun lc13 hlc13 => ?_)
    refine b_if_ne (tgt := 21) rfl rfl (fun c14 => ?_) (fun c14 => ?_)
    · refine b_iconst rfl (by decide) ?_
      refine b_zret rfl rfl (by first | decide | omega) ?_
      exact kq _ (by omega)
    · refine b_iconst rfl (by decide) ?_
      refine b_goto (tgt := 22) rfl rfl ?_
      refine b_zret rfl rfl (by first | decide | omega) ?_
      exact kq _ (by omega)
theorem mk_ahead (hT : MTx K n B) (hM : Mok K n B p H) (hk : tk n B p = 1 ∨ tk n B p = 2 ∨ tk n B p = 3) (kq : ∀ H', Mok K n B (te n B p) H' → Q none H') : Rj MX12_ahead 1 [aR 57] H Q := by
  obtain ⟨si, sa, en, va, wo, lx, e, h1, h2, h3, h5, h6, h7⟩ := hM
  subst e
  exact sp_ahead hT (te_ok hk) (h5 (by omega)) kq
theorem Mok_f (hM : Mok K n B p H) : H 57 8 = 0 ∧ H 57 4 = (tq n B p : Int) := by
  obtain ⟨si, sa, en, va, wo, lx, e, h1, h⟩ := hM
  subst e
  exact ⟨rfl, h1⟩
theorem Mbad_f {k pl : Int} (hM : Mbad K k pl H) : H 57 8 = k ∧ 0 < k ∧ H 57 9 = pl := by
  obtain ⟨si, sa, en, va, wo, lx, e, h1⟩ := hM
  subst e
  exact ⟨rfl, h1, rfl⟩
theorem mk_must {c : Int} (hT : MTx K n B) (hM : Mok K n B p H) (k1 : sg n B p c → ∀ H', Mok K n B (te n B p) H' → Q none H') (k0 : ¬ sg n B p c → ∀ H', Mbad K 1 (tsp n B p : Int) H' → Q none H') : Rj MX12_must 2 [aR 57, aI c] H Q := by
  refine rj_of okX12_must (Nat.le_of_ble_eq_true rfl) rfl ?_
  have bd : ∀ (H1 : HI), ¬ sg n B p c → Mbad K 1 (tsp n B p : Int) H1 → Bj MX12_must 2 21 [some (aR 57), some (aI c)] [] H1 Q := by
    intro H1 hs hb
    have hf := Mbad_f hb
    refine b_aload_n rfl rfl ?_
    refine b_getI rfl fl12_36 rfl (by decide) rfl ?_
    refine b_if_ne (tgt := 32) rfl rfl (fun c25 => ?_) (fun c25 => ?_)
    · refine b_vret rfl rfl ?_
      exact k0 hs _ hb
    · omega
  have b4 : ∀ (H1 : HI), ¬ sg n B p c → Mbad K 1 (tsp n B p : Int) H1 → Bj MX12_must 2 4 [some (aR 57), some (aI c)] [] H1 Q := by
    intro H1 hs hb
    refine b_aload_n rfl rfl ?_
    refine b_iload_n rfl rfl ?_
    refine b_callV1i (ν := MX12_isSign) rfl ml12_250 cvX12_isSign (d' := 0) (by omega) rfl (by decide) rfl (Nat.le_of_ble_eq_true rfl) ?_
    refine mk_isSignB hb (fun z hz => ?_)
    refine ⟨_, rfl, ?_⟩
    refine b_if_ne (tgt := 21) rfl rfl (fun c9 => ?_) (fun c9 => ?_)
    · exact bd _ hs hb
    · refine b_aload_n rfl rfl ?_
      refine b_iconst rfl (by decide) ?_
      refine b_aload_n rfl rfl ?_
      refine b_getI rfl fl12_23 rfl (by decide) rfl ?_
      refine b_callV2v (ν := MX12_blame) rfl ml12_236 cvX12_blame (d' := 0) (by omega) rfl (by decide) rfl (Nat.le_of_ble_eq_true rfl) ?_
      refine mk_blameB hb ?_
      refine ⟨rfl, ?_⟩
      exact bd _ hs hb
  have hf := Mok_f hM
  have g21 : sg n B p c → Bj MX12_must 2 21 [some (aR 57), some (aI c)] [] H Q := by
    intro hs
    refine b_aload_n rfl rfl ?_
    refine b_getI rfl fl12_36 rfl (by decide) rfl ?_
    rw [hf.1]
    refine b_if_ne (tgt := 32) rfl rfl (fun c25 => ?_) (fun c25 => ?_)
    · omega
    · refine b_aload_n rfl rfl ?_
      refine b_callV0v (ν := MX12_ahead) rfl ml12_253 cvX12_ahead (d' := 1) (by omega) rfl (by decide) rfl (Nat.le_of_ble_eq_true rfl) ?_
      refine mk_ahead hT hM (sg_c hs) (fun H1 hM1 => ?_)
      refine ⟨rfl, ?_⟩
      refine b_vret rfl rfl ?_
      exact k1 hs _ hM1
  have g4 : tk n B p ≠ 4 → Bj MX12_must 2 4 [some (aR 57), some (aI c)] [] H Q := by
    intro h4
    refine b_aload_n rfl rfl ?_
    refine b_iload_n rfl rfl ?_
    refine b_callV1i (ν := MX12_isSign) rfl ml12_250 cvX12_isSign (d' := 0) (by omega) rfl (by decide) rfl (Nat.le_of_ble_eq_true rfl) ?_
    refine mk_isSign h4 hM (fun hs => ?_) (fun hs => ?_)
    · refine ⟨_, rfl, ?_⟩
      refine b_if_ne (tgt := 21) rfl rfl (fun _ => ?_) (fun z => absurd z (by decide))
      first
      | exact bd _ hs hb
      | exact g21 hs
    · refine ⟨_, rfl, ?_⟩
      refine b_if_ne (tgt := 21) rfl rfl (fun z => absurd z (by decide)) (fun _ => ?_)
      refine b_aload_n rfl rfl ?_
      refine b_iconst rfl (by decide) ?_
      refine b_aload_n rfl rfl ?_
      refine b_getI rfl fl12_23 rfl (by decide) rfl ?_
      rw [hf.2, ← tsp_q h4]
      refine b_callV2v (ν := MX12_blame) rfl ml12_236 cvX12_blame (d' := 0) (by omega) rfl (by decide) rfl (Nat.le_of_ble_eq_true rfl) ?_
      refine mk_blame (by decide) hM (fun H1 hb => ?_)
      refine ⟨rfl, ?_⟩
      first
      | exact bd _ hs hb
      | exact g21 hs
  refine b_aload_n rfl rfl ?_
  refine b_callV0v (ν := MX12_lex) rfl ml12_247 cvX12_lex (d' := 1) (by omega) rfl (by decide) rfl (Nat.le_of_ble_eq_true rfl) ?_
  refine mk_lex hM (fun h4 => ?_) (fun h4 H1 hb => ?_)
  · refine ⟨rfl, ?_⟩
    first
    | exact b4 _ (fun w => by have := w.1; omega) hb
    | exact g4 h4
  · refine ⟨rfl, ?_⟩
    first
    | exact b4 _ (fun w => by have := w.1; omega) hb
    | exact g4 h4
theorem mk_mustB {c k pl : Int} (hM : Mbad K k pl H) (kq : Q none H) : Rj MX12_must 2 [aR 57, aI c] H Q := by
  have hf := Mbad_f hM
  refine rj_of okX12_must (Nat.le_of_ble_eq_true rfl) rfl ?_
  refine b_aload_n rfl rfl ?_
  refine b_callV0v (ν := MX12_lex) rfl ml12_247 cvX12_lex (d' := 1) (by omega) rfl (by decide) rfl (Nat.le_of_ble_eq_true rfl) ?_
  refine mk_lexB hM ?_
  refine ⟨rfl, ?_⟩
  refine b_aload_n rfl rfl ?_
  refine b_iload_n rfl rfl ?_
  refine b_callV1i (ν := MX12_isSign) rfl ml12_250 cvX12_isSign (d' := 0) (by omega) rfl (by decide) rfl (Nat.le_of_ble_eq_true rfl) ?_
  refine mk_isSignB hM (fun z hz => ?_)
  refine ⟨_, rfl, ?_⟩
  refine b_if_ne (tgt := 21) rfl rfl (fun c9 => ?_) (fun c9 => ?_)
  · refine b_aload_n rfl rfl ?_
    refine b_getI rfl fl12_36 rfl (by decide) rfl ?_
    refine b_if_ne (tgt := 32) rfl rfl (fun c25 => ?_) (fun c25 => ?_)
    · refine b_vret rfl rfl ?_
      exact kq
    · omega
  · refine b_aload_n rfl rfl ?_
    refine b_iconst rfl (by decide) ?_
    refine b_aload_n rfl rfl ?_
    refine b_getI rfl fl12_23 rfl (by decide) rfl ?_
    refine b_callV2v (ν := MX12_blame) rfl ml12_236 cvX12_blame (d' := 0) (by omega) rfl (by decide) rfl (Nat.le_of_ble_eq_true rfl) ?_
    refine mk_blameB hM ?_
    refine ⟨rfl, ?_⟩
    refine b_aload_n rfl rfl ?_
    refine b_getI rfl fl12_36 rfl (by decide) rfl ?_
    refine b_if_ne (tgt := 32) rfl rfl (fun c25 => ?_) (fun c25 => ?_)
    · refine b_vret rfl rfl ?_
      exact kq
    · omega
theorem mk_mustW {w : Int} {k : Nat} (hk : k < 29) (hw : w = own8 k) (hT : MTx K n B) (hM : Mok K n B p H) (k1 : tw n B p = (k : Int) → ∀ H', Mok K n B (te n B p) H' → Q none H') (k0 : tw n B p ≠ (k : Int) → ∀ H', Mbad K 1 (tsp n B p : Int) H' → Q none H') : Rj MX12_must_ 2 [aR 57, aJ w] H Q := by
  refine rj_of okX12_must_ (Nat.le_of_ble_eq_true rfl) rfl ?_
  have hf := Mok_f hM
  have bd : ∀ (H1 : HI), tw n B p ≠ (k : Int) → Mbad K 1 (tsp n B p : Int) H1 → Bj MX12_must_ 2 29 [some (aR 57), some (aJ w), none] [] H1 Q := by
    intro H1 hs hb
    have hf := Mbad_f hb
    refine b_aload_n rfl rfl ?_
    refine b_getI rfl fl12_36 rfl (by decide) rfl ?_
    refine b_if_ne (tgt := 40) rfl rfl (fun c33 => ?_) (fun c33 => ?_)
    · refine b_vret rfl rfl ?_
      exact k0 hs _ hb
    · omega
  have b4 : ∀ (H1 : HI), tw n B p ≠ (k : Int) → Mbad K 1 (tsp n B p : Int) H1 → Bj MX12_must_ 2 4 [some (aR 57), some (aJ w), none] [] H1 Q := by
    intro H1 hs hb
    have hf := Mbad_f hb
    refine b_aload_n rfl rfl ?_
    refine b_getI rfl fl12_36 rfl (by decide) rfl ?_
    refine b_if_le (tgt := 12) rfl rfl (fun c8 => ?_) (fun c8 => ?_)
    · omega
    · refine b_vret rfl rfl ?_
      exact k0 hs _ hb
  have g29 : tw n B p = (k : Int) → Bj MX12_must_ 2 29 [some (aR 57), some (aJ w), none] [] H Q := by
    intro hs
    refine b_aload_n rfl rfl ?_
    refine b_getI rfl fl12_36 rfl (by decide) rfl ?_
    rw [hf.1]
    refine b_if_ne (tgt := 40) rfl rfl (fun c33 => ?_) (fun c33 => ?_)
    · omega
    · refine b_aload_n rfl rfl ?_
      refine b_callV0v (ν := MX12_ahead) rfl ml12_253 cvX12_ahead (d' := 1) (by omega) rfl (by decide) rfl (Nat.le_of_ble_eq_true rfl) ?_
      refine mk_ahead hT hM (tw_c (by omega) hs) (fun H1 hM1 => ?_)
      refine ⟨rfl, ?_⟩
      refine b_vret rfl rfl ?_
      exact k1 hs _ hM1
  have g4 : tk n B p ≠ 4 → Bj MX12_must_ 2 4 [some (aR 57), some (aJ w), none] [] H Q := by
    intro h4
    refine b_aload_n rfl rfl ?_
    refine b_getI rfl fl12_36 rfl (by decide) rfl ?_
    rw [hf.1]
    refine b_if_le (tgt := 12) rfl rfl (fun c8 => ?_) (fun c8 => ?_)
    · refine b_aload_n rfl rfl ?_
      refine b_lload_n rfl rfl ?_
      refine b_callV1i (ν := MX12_isWord) rfl ml12_338 cvX12_isWord (d' := 0) (by omega) rfl (by decide) rfl (Nat.le_of_ble_eq_true rfl) ?_
      refine mk_isWord hk hw h4 hM (fun hs => ?_) (fun hs => ?_)
      · refine ⟨_, rfl, ?_⟩
        refine b_if_ne (tgt := 29) rfl rfl (fun _ => ?_) (fun z => absurd z (by decide))
        first
        | exact bd _ hs hb
        | exact g29 hs
      · refine ⟨_, rfl, ?_⟩
        refine b_if_ne (tgt := 29) rfl rfl (fun z => absurd z (by decide)) (fun _ => ?_)
        refine b_aload_n rfl rfl ?_
        refine b_iconst rfl (by decide) ?_
        refine b_aload_n rfl rfl ?_
        refine b_getI rfl fl12_23 rfl (by decide) rfl ?_
        rw [hf.2, ← tsp_q h4]
        refine b_callV2v (ν := MX12_blame) rfl ml12_236 cvX12_blame (d' := 0) (by omega) rfl (by decide) rfl (Nat.le_of_ble_eq_true rfl) ?_
        refine mk_blame (by decide) hM (fun H1 hb => ?_)
        refine ⟨rfl, ?_⟩
        first
        | exact bd _ hs hb
        | exact g29 hs
    · omega
  refine b_aload_n rfl rfl ?_
  refine b_callV0v (ν := MX12_lex) rfl ml12_247 cvX12_lex (d' := 1) (by omega) rfl (by decide) rfl (Nat.le_of_ble_eq_true rfl) ?_
  refine mk_lex hM (fun h4 => ?_) (fun h4 H1 hb => ?_)
  · refine ⟨rfl, ?_⟩
    first
    | exact b4 _ (by rw [tw_q (by omega)]; omega) hb
    | exact g4 h4
  · refine ⟨rfl, ?_⟩
    first
    | exact b4 _ (by rw [tw_q (by omega)]; omega) hb
    | exact g4 h4
theorem mk_mustWB {w k pl : Int} (hM : Mbad K k pl H) (kq : Q none H) : Rj MX12_must_ 2 [aR 57, aJ w] H Q := by
  have hf := Mbad_f hM
  refine rj_of okX12_must_ (Nat.le_of_ble_eq_true rfl) rfl ?_
  refine b_aload_n rfl rfl ?_
  refine b_callV0v (ν := MX12_lex) rfl ml12_247 cvX12_lex (d' := 1) (by omega) rfl (by decide) rfl (Nat.le_of_ble_eq_true rfl) ?_
  refine mk_lexB hM ?_
  refine ⟨rfl, ?_⟩
  refine b_aload_n rfl rfl ?_
  refine b_getI rfl fl12_36 rfl (by decide) rfl ?_
  refine b_if_le (tgt := 12) rfl rfl (fun c8 => ?_) (fun c8 => ?_)
  · omega
  · refine b_vret rfl rfl ?_
    exact kq
theorem Mok_v (hM : Mok K n B p H) (h2 : tk n B p = 2) : H 57 6 = tv n B p ∧ H 57 3 = 2 := by
  obtain ⟨si, sa, en, va, wo, lx, e, h1, h3, h4, h5, h6, h7⟩ := hM
  subst e
  exact ⟨h7 (Or.inl h2), by rw [MX_3, (h3 (by omega)).2, h2]; rfl⟩
theorem Mok_s (hM : Mok K n B p H) (h4 : tk n B p ≠ 4) : H 57 3 = (tk n B p : Int) := by
  obtain ⟨si, sa, en, va, wo, lx, e, h1, h3, h⟩ := hM
  subst e
  exact (h3 h4).2
theorem Mok_w (hM : Mok K n B p H) (h1 : tk n B p = 1) : H 57 7 = t8 n B p := by
  obtain ⟨si, sa, en, va, wo, lx, e, h2, h3, h4, h5, h6, h7⟩ := hM
  subst e
  exact h6 h1
theorem mk_number {a b : Int} (hT : MTx K n B) (hM : Mok K n B p H) (k1 : tk n B p = 2 → a ≤ tv n B p → tv n B p ≤ b → ∀ H', Mok K n B (te n B p) H' → Q (some (aI (tv n B p))) H') (k4 : tk n B p = 2 → ¬ (a ≤ tv n B p ∧ tv n B p ≤ b) → ∀ z H', Mbad K 4 (tq n B p : Int) H' → Q (some (aI z)) H') (k0 : tk n B p ≠ 2 → ∀ z H', Mbad K 1 (tsp n B p : Int) H' → Q (some (aI z)) H') : Rj MX12_number 2 [aR 57, aI a, aI b] H Q := by
  refine rj_of okX12_number (Nat.le_of_ble_eq_true rfl) rfl ?_
  have hf := Mok_f hM
  have b58 : ∀ (k pl : Int) (H1 : HI), Mbad K k pl H1 → (∀ z, Q (some (aI z)) H1) → Bj MX12_number 2 58 [some (aR 57), some (aI a), some (aI b), none] [] H1 Q := by
    intro k pl H1 hb kk
    have hf := Mbad_f hb
    refine b_aload_n rfl rfl ?_
    refine b_getI rfl fl12_29 rfl (by decide) rfl ?_
    refine b_istoreX_n (F := fun z62 => [some (aR 57), some (aI a), some (aI b), some (aI z62)]) rfl (by decide) (fun _ => rfl) (fun z62 ez62 => ?_)
    refine b_aload_n rfl rfl ?_
    refine b_getI rfl fl12_36 rfl (by decide) rfl ?_
    refine b_if_ne (tgt := 74) rfl rfl (fun c67 => ?_) (fun c67 => ?_)
    · refine b_iload_n rfl rfl ?_
      refine b_iret rfl rfl ?_
      exact kk _
    · omega
  have b30 : ∀ (k pl : Int) (H1 : HI), Mbad K k pl H1 → (∀ z, Q (some (aI z)) H1) → Bj MX12_number 2 30 [some (aR 57), some (aI a), some (aI b), none] [] H1 Q := by
    intro k pl H1 hb kk
    have hf := Mbad_f hb
    refine b_aload_n rfl rfl ?_
    refine b_getI rfl fl12_36 rfl (by decide) rfl ?_
    refine b_if_ne (tgt := 58) rfl rfl (fun c34 => ?_) (fun c34 => ?_)
    · exact b58 _ _ _ hb kk
    · omega
  have b4 : ∀ (k pl : Int) (H1 : HI), Mbad K k pl H1 → (∀ z, Q (some (aI z)) H1) → Bj MX12_number 2 4 [some (aR 57), some (aI a), some (aI b), none] [] H1 Q := by
    intro k pl H1 hb kk
    have hf := Mbad_f hb
    refine b_aload_n rfl rfl ?_
    refine b_getI rfl fl12_36 rfl (by decide) rfl ?_
    refine b_if_le (tgt := 13) rfl rfl (fun c8 => ?_) (fun c8 => ?_)
    · omega
    · refine b_iconst rfl (by decide) ?_
      refine b_iret rfl rfl ?_
      exact kk _
  have g58 : tk n B p = 2 → a ≤ tv n B p → tv n B p ≤ b → Bj MX12_number 2 58 [some (aR 57), some (aI a), some (aI b), none] [] H Q := by
    intro h2 ha hb
    have hv := Mok_v hM h2
    refine b_aload_n rfl rfl ?_
    refine b_getI rfl fl12_29 rfl (by decide) rfl ?_
    rw [hv.1]
    refine b_istoreX_n (F := fun z62 => [some (aR 57), some (aI a), some (aI b), some (aI z62)]) rfl (by decide) (fun _ => rfl) (fun z62 ez62 => ?_)
    refine b_aload_n rfl rfl ?_
    refine b_getI rfl fl12_36 rfl (by decide) rfl ?_
    rw [hf.1]
    refine b_if_ne (tgt := 74) rfl rfl (fun c67 => ?_) (fun c67 => ?_)
    · omega
    · refine b_aload_n rfl rfl ?_
      refine b_callV0v (ν := MX12_ahead) rfl ml12_253 cvX12_ahead (d' := 1) (by omega) rfl (by decide) rfl (Nat.le_of_ble_eq_true rfl) ?_
      refine mk_ahead hT hM (Or.inr (Or.inl h2)) (fun H1 hM1 => ?_)
      refine ⟨rfl, ?_⟩
      refine b_iload_n rfl rfl ?_
      refine b_iret rfl rfl ?_
      rw [ez62]
      exact k1 h2 ha hb _ hM1
  have g4 : tk n B p ≠ 4 → Bj MX12_number 2 4 [some (aR 57), some (aI a), some (aI b), none] [] H Q := by
    intro h4
    have hs := Mok_s hM h4
    by_cases h2 : tk n B p = 2
    · have hv := Mok_v hM h2
      refine b_aload_n rfl rfl ?_
      refine b_getI rfl fl12_36 rfl (by decide) rfl ?_
      rw [hf.1]
      refine b_if_le (tgt := 13) rfl rfl (fun c8 => ?_) (fun c8 => ?_)
      · refine b_aload_n rfl rfl ?_
        refine b_getI rfl fl12_20 rfl (by decide) rfl ?_
        rw [hv.2]
        refine b_iconst rfl (by decide) ?_
        refine b_icmp_eq (tgt := 30) rfl rfl (fun c18 => ?_) (fun c18 => ?_)
        · refine b_aload_n rfl rfl ?_
          refine b_getI rfl fl12_36 rfl (by decide) rfl ?_
          rw [hf.1]
          refine b_if_ne (tgt := 58) rfl rfl (fun c34 => ?_) (fun c34 => ?_)
          · omega
          · refine b_aload_n rfl rfl ?_
            refine b_getI rfl fl12_29 rfl (by decide) rfl ?_
            rw [hv.1]
            refine b_iload_n rfl rfl ?_
            refine b_iload_n rfl rfl ?_
            refine b_callS3i (ν := MX12_is) rfl ml12_322 csX12_is (d' := 0) (by omega) (Nat.le_of_ble_eq_true rfl) ?_
            refine spm_is (fun hi => ?_) (fun hi => ?_)
            · refine ⟨_, rfl, ?_⟩
              refine b_if_ne (tgt := 58) rfl rfl (fun _ => ?_) (fun z => absurd z (by decide))
              first
              | exact b58 _ _ _ hb (fun z => k4 h2 hi z _ hb)
              | exact g58 h2 hi.1 hi.2
            · refine ⟨_, rfl, ?_⟩
              refine b_if_ne (tgt := 58) rfl rfl (fun z => absurd z (by decide)) (fun _ => ?_)
              refine b_aload_n rfl rfl ?_
              refine b_iconst rfl (by decide) ?_
              refine b_aload_n rfl rfl ?_
              refine b_getI rfl fl12_23 rfl (by decide) rfl ?_
              rw [hf.2]
              refine b_callV2v (ν := MX12_blame) rfl ml12_236 cvX12_blame (d' := 0) (by omega) rfl (by decide) rfl (Nat.le_of_ble_eq_true rfl) ?_
              refine mk_blame (by decide) hM (fun H1 hb => ?_)
              refine ⟨rfl, ?_⟩
              first
              | exact b58 _ _ _ hb (fun z => k4 h2 hi z _ hb)
              | exact g58 h2 hi.1 hi.2
        · omega
      · omega
    · skip
      refine b_aload_n rfl rfl ?_
      refine b_getI rfl fl12_36 rfl (by decide) rfl ?_
      rw [hf.1]
      refine b_if_le (tgt := 13) rfl rfl (fun c8 => ?_) (fun c8 => ?_)
      · refine b_aload_n rfl rfl ?_
        refine b_getI rfl fl12_20 rfl (by decide) rfl ?_
        rw [hs]
        refine b_iconst rfl (by decide) ?_
        refine b_icmp_eq (tgt := 30) rfl rfl (fun c18 => ?_) (fun c18 => ?_)
        · omega
        · refine b_aload_n rfl rfl ?_
          refine b_iconst rfl (by decide) ?_
          refine b_aload_n rfl rfl ?_
          refine b_getI rfl fl12_23 rfl (by decide) rfl ?_
          rw [hf.2, ← tsp_q h4]
          refine b_callV2v (ν := MX12_blame) rfl ml12_236 cvX12_blame (d' := 0) (by omega) rfl (by decide) rfl (Nat.le_of_ble_eq_true rfl) ?_
          refine mk_blame (by decide) hM (fun H1 hb => ?_)
          refine ⟨rfl, ?_⟩
          exact b30 _ _ _ hb (fun z => k0 h2 z _ hb)
      · omega
  refine b_aload_n rfl rfl ?_
  refine b_callV0v (ν := MX12_lex) rfl ml12_247 cvX12_lex (d' := 1) (by omega) rfl (by decide) rfl (Nat.le_of_ble_eq_true rfl) ?_
  refine mk_lex hM (fun h4 => ?_) (fun h4 H1 hb => ?_)
  · refine ⟨rfl, ?_⟩
    first
    | exact b4 _ _ _ hb (fun z => k0 (by omega) z _ hb)
    | exact g4 h4
  · refine ⟨rfl, ?_⟩
    first
    | exact b4 _ _ _ hb (fun z => k0 (by omega) z _ hb)
    | exact g4 h4
theorem mk_numberB {a b k pl : Int} (hM : Mbad K k pl H) (kq : ∀ z, Q (some (aI z)) H) : Rj MX12_number 2 [aR 57, aI a, aI b] H Q := by
  have hf := Mbad_f hM
  refine rj_of okX12_number (Nat.le_of_ble_eq_true rfl) rfl ?_
  refine b_aload_n rfl rfl ?_
  refine b_callV0v (ν := MX12_lex) rfl ml12_247 cvX12_lex (d' := 1) (by omega) rfl (by decide) rfl (Nat.le_of_ble_eq_true rfl) ?_
  refine mk_lexB hM ?_
  refine ⟨rfl, ?_⟩
  refine b_aload_n rfl rfl ?_
  refine b_getI rfl fl12_36 rfl (by decide) rfl ?_
  refine b_if_le (tgt := 13) rfl rfl (fun c8 => ?_) (fun c8 => ?_)
  · omega
  · refine b_iconst rfl (by decide) ?_
    refine b_iret rfl rfl ?_
    exact kq _
theorem mk_counts {z : Int} (hz : z = 0 ∨ z = 1) (hT : MTx K n B) (hM : Mok K n B p H) (h1 : tk n B p = 1) (k1 : z = 0 → ∀ H', Mok K n B (te n B p) H' → Q (some (aI 1)) H') (k0 : z = 1 → ∀ H', Mbad K 6 (tq n B p : Int) H' → Q (some (aI 0)) H') : Rj MX12_counts 2 [aR 57, aI z] H Q := by
  refine rj_of okX12_counts (Nat.le_of_ble_eq_true rfl) rfl ?_
  have hf := Mok_f hM
  have b21 : ∀ (H1 : HI), z = 1 → Mbad K 6 (tq n B p : Int) H1 → Bj MX12_counts 2 21 [some (aR 57), some (aI z)] [] H1 Q := by
    intro H1 e1 hb
    have hf := Mbad_f hb
    refine b_aload_n rfl rfl ?_
    refine b_getI rfl fl12_36 rfl (by decide) rfl ?_
    refine b_if_ne (tgt := 32) rfl rfl (fun c25 => ?_) (fun c25 => ?_)
    · refine b_aload_n rfl rfl ?_
      refine b_getI rfl fl12_36 rfl (by decide) rfl ?_
      refine b_if_ne (tgt := 43) rfl rfl (fun c36 => ?_) (fun c36 => ?_)
      · refine b_iconst rfl (by decide) ?_
        refine b_zret rfl rfl (by first | decide | omega) ?_
        exact k0 e1 _ hb
      · omega
    · omega
  have g32 : ∀ (H1 : HI), z = 0 → Mok K n B (te n B p) H1 → Bj MX12_counts 2 32 [some (aR 57), some (aI z)] [] H1 Q := by
    intro H1 e1 hb
    have hf := Mok_f hb
    refine b_aload_n rfl rfl ?_
    refine b_getI rfl fl12_36 rfl (by decide) rfl ?_
    rw [hf.1]
    refine b_if_ne (tgt := 43) rfl rfl (fun c36 => ?_) (fun c36 => ?_)
    · omega
    · refine b_iconst rfl (by decide) ?_
      refine b_goto (tgt := 44) rfl rfl ?_
      refine b_zret rfl rfl (by first | decide | omega) ?_
      exact k1 e1 _ hb
  have g21 : z = 0 → Bj MX12_counts 2 21 [some (aR 57), some (aI z)] [] H Q := by
    intro e1
    refine b_aload_n rfl rfl ?_
    refine b_getI rfl fl12_36 rfl (by decide) rfl ?_
    rw [hf.1]
    refine b_if_ne (tgt := 32) rfl rfl (fun c25 => ?_) (fun c25 => ?_)
    · omega
    · refine b_aload_n rfl rfl ?_
      refine b_callV0v (ν := MX12_ahead) rfl ml12_253 cvX12_ahead (d' := 1) (by omega) rfl (by decide) rfl (Nat.le_of_ble_eq_true rfl) ?_
      refine mk_ahead hT hM (Or.inl h1) (fun H1 hM1 => ?_)
      refine ⟨rfl, ?_⟩
      exact g32 _ e1 hM1
  refine b_aload_n rfl rfl ?_
  refine b_getI rfl fl12_36 rfl (by decide) rfl ?_
  rw [hf.1]
  refine b_if_ne (tgt := 21) rfl rfl (fun c4 => ?_) (fun c4 => ?_)
  · omega
  · refine b_iload_n rfl rfl ?_
    refine b_if_eq (tgt := 21) rfl rfl (fun c8 => ?_) (fun c8 => ?_)
    · first
      | exact b21 _ (by omega) hb
      | exact g21 (by omega)
    · refine b_aload_n rfl rfl ?_
      refine b_bipush rfl (by decide) ?_
      refine b_aload_n rfl rfl ?_
      refine b_getI rfl fl12_23 rfl (by decide) rfl ?_
      rw [hf.2]
      refine b_callV2v (ν := MX12_blame) rfl ml12_236 cvX12_blame (d' := 0) (by omega) rfl (by decide) rfl (Nat.le_of_ble_eq_true rfl) ?_
      refine mk_blame (by decide) hM (fun H1 hb => ?_)
      refine ⟨rfl, ?_⟩
      first
      | exact b21 _ (by omega) hb
      | exact g21 (by omega)
end MMU
