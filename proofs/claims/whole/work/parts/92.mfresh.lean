/-! ===== the reference: a new name, a known name ===== -/
section MFS
variable {I K H : HI} {Q : Option AV → HI → Prop} {n p m : Nat} {B : Nat → Int}
theorem RDn_o {K' : HI} (h : RDn I K m) (h57 : K' 57 34 = K 57 34) (hq : ∀ q, q ≠ 57 → K' q = K q) : RDn I K' m := by
  obtain ⟨h1, h2, h3, h4⟩ := h
  have hc : ∀ k, k < 3 → cnC k ≠ 57 := by decide
  refine ⟨by rw [h57]; exact h1, h2, fun k hk => ?_, fun k hk w hw => ?_⟩
  · rw [hq _ (hc k hk)]
    exact h3 k hk
  · rw [hq _ (by omega)]
    exact h4 k hk w hw
theorem Mok_R (hM : Mok K n B p H) (hR : RDn I K m) : RDn I H m := by
  obtain ⟨si, sa, en, va, wo, lx, e, h⟩ := hM
  subst e
  exact RDn_o hR (MXo (by decide)) (fun q hq => MXc hq)
theorem mk_fresh (hT : MTx K n B) (hC : cOK I 13) (hR : RDn I K m) (hM : Mok K n B p H) (k1 : tk n B p = 1 → tw n B p = -1 → ¬ givN I (tv n B p) → ∀ H', Mok K n B (te n B p) H' → Q (some (aJ (t8 n B p))) H') (k2 : tk n B p = 1 → tw n B p = -1 → givN I (tv n B p) → ∀ z H', Mbad K 2 (tq n B p : Int) H' → Q (some (aJ z)) H') (k0 : ¬ (tk n B p = 1 ∧ tw n B p = -1) → ∀ z H', Mbad K 1 (tsp n B p : Int) H' → Q (some (aJ z)) H') : Rj MX12_fresh 2 [aR 57] H Q := by
  refine rj_of okX12_fresh (Nat.le_of_ble_eq_true rfl) rfl ?_
  have hf := Mok_f hM
  have hRH := Mok_R hM hR
  have b83 : ∀ (k pl : Int) (x : Option AV) (H1 : HI), Mbad K k pl H1 → (∀ z, Q (some (aJ z)) H1) → Bj MX12_fresh 2 83 [some (aR 57), x, none] [] H1 Q := by
    intro k pl x H1 hb kk
    have hf := Mbad_f hb
    refine b_aload_n rfl rfl ?_
    refine b_getJ rfl fl12_32 rfl (by decide) rfl ?_
    refine b_lstoreX_n (F := fun z87 => [some (aR 57), some (aJ z87), none]) rfl (by decide) (fun _ => rfl) (fun z87 ez87 => ?_)
    refine b_aload_n rfl rfl ?_
    refine b_getI rfl fl12_36 rfl (by decide) rfl ?_
    refine b_if_ne (tgt := 99) rfl rfl (fun c92 => ?_) (fun c92 => ?_)
    · refine b_lload_n rfl rfl ?_
      refine b_lret rfl rfl ?_
      exact kk _
    · omega
  have b43 : ∀ (k pl z : Int) (H1 : HI), Mbad K k pl H1 → (∀ z, Q (some (aJ z)) H1) → Bj MX12_fresh 2 43 [some (aR 57), some (aI z), none] [] H1 Q := by
    intro k pl z H1 hb kk
    have hf := Mbad_f hb
    refine b_iload_n rfl rfl ?_
    refine b_iconst rfl (by decide) ?_
    refine b_icmp_gt (tgt := 83) rfl rfl (fun c45 => ?_) (fun c45 => ?_)
    · exact b83 _ _ _ _ hb kk
    · refine b_aload_n rfl rfl ?_
      refine b_getI rfl fl12_36 rfl (by decide) rfl ?_
      refine b_if_ne (tgt := 83) rfl rfl (fun c52 => ?_) (fun c52 => ?_)
      · exact b83 _ _ _ _ hb kk
      · omega
  have b4 : ∀ (k pl : Int) (H1 : HI), Mbad K k pl H1 → (∀ z, Q (some (aJ z)) H1) → Bj MX12_fresh 2 4 [some (aR 57), none, none] [] H1 Q := by
    intro k pl H1 hb kk
    have hf := Mbad_f hb
    refine b_aload_n rfl rfl ?_
    refine b_getI rfl fl12_36 rfl (by decide) rfl ?_
    refine b_if_le (tgt := 13) rfl rfl (fun c8 => ?_) (fun c8 => ?_)
    · omega
    · refine b_lconst (z := 0) rfl rfl ?_
      refine b_lret rfl rfl ?_
      exact kk _
  have g83 : ∀ x : Option AV, tk n B p = 1 → tw n B p = -1 → ¬ givN I (tv n B p) → Bj MX12_fresh 2 83 [some (aR 57), x, none] [] H Q := by
    intro x h1 h2 h3
    have hw := Mok_w hM h1
    refine b_aload_n rfl rfl ?_
    refine b_getJ rfl fl12_32 rfl (by decide) rfl ?_
    rw [hw]
    refine b_lstoreX_n (F := fun z87 => [some (aR 57), some (aJ z87), none]) rfl (by decide) (fun _ => rfl) (fun z87 ez87 => ?_)
    refine b_aload_n rfl rfl ?_
    refine b_getI rfl fl12_36 rfl (by decide) rfl ?_
    rw [hf.1]
    refine b_if_ne (tgt := 99) rfl rfl (fun c92 => ?_) (fun c92 => ?_)
    · omega
    · refine b_aload_n rfl rfl ?_
      refine b_callV0v (ν := MX12_ahead) rfl ml12_253 cvX12_ahead (d' := 1) (by omega) rfl (by decide) rfl (Nat.le_of_ble_eq_true rfl) ?_
      refine mk_ahead hT hM (Or.inl h1) (fun H1 hM1 => ?_)
      refine ⟨rfl, ?_⟩
      refine b_lload_n rfl rfl ?_
      refine b_lret rfl rfl ?_
      rw [ez87]
      exact k1 h1 h2 h3 _ hM1
  have lp : ∀ (g j : Nat) (z : Int), z = (j : Int) → j + g = 3 → tk n B p = 1 → tw n B p = -1 → (∀ i, i < j → finN I i (tv n B p) = -1) → Bj MX12_fresh 2 43 [some (aR 57), some (aI z), none] [] H Q := by
    intro g
    induction g with
    | zero =>
      intro j z hz hg h1 h2 h3
      refine b_iload_n rfl rfl ?_
      refine b_iconst rfl (by decide) ?_
      refine b_icmp_gt (tgt := 83) rfl rfl (fun c45 => ?_) (fun c45 => ?_)
      · exact g83 _ h1 h2 (by
        have a0 := h3 0 (by omega)
        have a1 := h3 1 (by omega)
        have a2 := h3 2 (by omega)
        unfold givN
        omega)
      · omega
    | succ g ih =>
      intro j z hz hg h1 h2 h3
      subst hz
      have hw := Mok_w hM h1
      have hgv : finN I j (tv n B p) ≠ -1 → givN I (tv n B p) := by
        intro h
        have hj : j = 0 ∨ j = 1 ∨ j = 2 := by omega
        rcases hj with e | e | e <;> subst e
        · exact Or.inl h
        · exact Or.inr (Or.inl h)
        · exact Or.inr (Or.inr h)
      refine b_iload_n rfl rfl ?_
      refine b_iconst rfl (by decide) ?_
      refine b_icmp_gt (tgt := 83) rfl rfl (fun c45 => ?_) (fun c45 => ?_)
      · omega
      · refine b_aload_n rfl rfl ?_
        refine b_getI rfl fl12_36 rfl (by decide) rfl ?_
        rw [hf.1]
        refine b_if_ne (tgt := 83) rfl rfl (fun c52 => ?_) (fun c52 => ?_)
        · omega
        · refine b_aload_n rfl rfl ?_
          refine b_iload_n rfl rfl ?_
          refine b_aload_n rfl rfl ?_
          refine b_getJ rfl fl12_32 rfl (by decide) rfl ?_
          rw [hw]
          refine b_callV2i (ν := MX12_named) rfl ml12_360 cvX12_named (d' := 1) (by omega) rfl (by decide) rfl (Nat.le_of_ble_eq_true rfl) ?_
          refine spr_named (by omega) hC hRH (t_NR h1) ?_
          refine ⟨_, rfl, ?_⟩
          refine b_iconst rfl (by decide) ?_
          refine b_icmp_eq (tgt := 77) rfl rfl (fun c65 => ?_) (fun c65 => ?_)
          · refine b_iincX (F := fun z77 => [some (aR 57), some (aI z77), none]) rfl rfl (by omega) (by omega) (fun _ => rfl) (fun z77 ez77 => ?_)
            refine b_goto (tgt := 43) rfl rfl ?_
            first
            | exact b43 _ _ _ _ hb (fun z => k2 h1 h2 (hgv c65) z _ hb)
            | exact ih (j + 1) _ (by omega) (by omega) h1 h2 (fun i hi => by
                by_cases e : i = j
                · rw [e]; exact c65
                · exact h3 i (by omega))
          · refine b_aload_n rfl rfl ?_
            refine b_iconst rfl (by decide) ?_
            refine b_aload_n rfl rfl ?_
            refine b_getI rfl fl12_23 rfl (by decide) rfl ?_
            rw [hf.2]
            refine b_callV2v (ν := MX12_blame) rfl ml12_236 cvX12_blame (d' := 0) (by omega) rfl (by decide) rfl (Nat.le_of_ble_eq_true rfl) ?_
            refine mk_blame (by decide) hM (fun H1 hb => ?_)
            refine ⟨rfl, ?_⟩
            refine b_iincX (F := fun z77 => [some (aR 57), some (aI z77), none]) rfl rfl (by omega) (by omega) (fun _ => rfl) (fun z77 ez77 => ?_)
            refine b_goto (tgt := 43) rfl rfl ?_
            first
            | exact b43 _ _ _ _ hb (fun z => k2 h1 h2 (hgv c65) z _ hb)
            | exact ih (j + 1) _ (by omega) (by omega) h1 h2 (fun i hi => by
                by_cases e : i = j
                · rw [e]; exact c65
                · exact h3 i (by omega))
  have g4 : tk n B p ≠ 4 → Bj MX12_fresh 2 4 [some (aR 57), none, none] [] H Q := by
    intro h4
    have hs := Mok_s hM h4
    by_cases h1 : tk n B p = 1
    · have hw := Mok_w hM h1
      have hto := tw_own h1
      refine b_aload_n rfl rfl ?_
      refine b_getI rfl fl12_36 rfl (by decide) rfl ?_
      rw [hf.1]
      refine b_if_le (tgt := 13) rfl rfl (fun c8 => ?_) (fun c8 => ?_)
      · refine b_aload_n rfl rfl ?_
        refine b_getI rfl fl12_20 rfl (by decide) rfl ?_
        rw [hs]
        refine b_iconst rfl (by decide) ?_
        refine b_icmp_ne (tgt := 32) rfl rfl (fun c18 => ?_) (fun c18 => ?_)
        · omega
        · refine b_aload_n rfl rfl ?_
          refine b_aload_n rfl rfl ?_
          refine b_getJ rfl fl12_32 rfl (by decide) rfl ?_
          rw [hw]
          refine b_callV1i (ν := MX12_isOwn) rfl ml12_357 cvX12_isOwn (d' := 0) (by omega) rfl (by decide) rfl (Nat.le_of_ble_eq_true rfl) ?_
          refine spr_isOwn (fun ho => ?_) (fun ho => ?_)
          · refine ⟨_, rfl, ?_⟩
            refine b_if_eq (tgt := 41) rfl rfl (fun z => absurd z (by decide)) (fun _ => ?_)
            refine b_aload_n rfl rfl ?_
            refine b_iconst rfl (by decide) ?_
            refine b_aload_n rfl rfl ?_
            refine b_getI rfl fl12_23 rfl (by decide) rfl ?_
            rw [hf.2, ← tsp_q h4]
            refine b_callV2v (ν := MX12_blame) rfl ml12_236 cvX12_blame (d' := 0) (by omega) rfl (by decide) rfl (Nat.le_of_ble_eq_true rfl) ?_
            refine mk_blame (by decide) hM (fun H1 hb => ?_)
            refine ⟨rfl, ?_⟩
            refine b_iconst rfl (by decide) ?_
            refine b_istoreX_n (F := fun z42 => [some (aR 57), some (aI z42), none]) rfl (by decide) (fun _ => rfl) (fun z42 ez42 => ?_)
            first
            | exact b43 _ _ _ _ hb (fun z => k0 (fun w => (hto.1 w.2) ho) z _ hb)
            | exact lp 3 0 _ (by omega) rfl h1 (hto.2 ho) (fun i hi => absurd hi (by omega))
          · refine ⟨_, rfl, ?_⟩
            refine b_if_eq (tgt := 41) rfl rfl (fun _ => ?_) (fun z => absurd z (by decide))
            refine b_iconst rfl (by decide) ?_
            refine b_istoreX_n (F := fun z42 => [some (aR 57), some (aI z42), none]) rfl (by decide) (fun _ => rfl) (fun z42 ez42 => ?_)
            first
            | exact b43 _ _ _ _ hb (fun z => k0 (fun w => (hto.1 w.2) ho) z _ hb)
            | exact lp 3 0 _ (by omega) rfl h1 (hto.2 ho) (fun i hi => absurd hi (by omega))
      · omega
    · skip
      refine b_aload_n rfl rfl ?_
      refine b_getI rfl fl12_36 rfl (by decide) rfl ?_
      rw [hf.1]
      refine b_if_le (tgt := 13) rfl rfl (fun c8 => ?_) (fun c8 => ?_)
      · refine b_aload_n rfl rfl ?_
        refine b_getI rfl fl12_20 rfl (by decide) rfl ?_
        rw [hs]
        refine b_iconst rfl (by decide) ?_
        refine b_icmp_ne (tgt := 32) rfl rfl (fun c18 => ?_) (fun c18 => ?_)
        · refine b_aload_n rfl rfl ?_
          refine b_iconst rfl (by decide) ?_
          refine b_aload_n rfl rfl ?_
          refine b_getI rfl fl12_23 rfl (by decide) rfl ?_
          rw [hf.2, ← tsp_q h4]
          refine b_callV2v (ν := MX12_blame) rfl ml12_236 cvX12_blame (d' := 0) (by omega) rfl (by decide) rfl (Nat.le_of_ble_eq_true rfl) ?_
          refine mk_blame (by decide) hM (fun H1 hb => ?_)
          refine ⟨rfl, ?_⟩
          refine b_iconst rfl (by decide) ?_
          refine b_istoreX_n (F := fun z42 => [some (aR 57), some (aI z42), none]) rfl (by decide) (fun _ => rfl) (fun z42 ez42 => ?_)
          exact b43 _ _ _ _ hb (fun z => k0 (fun w => h1 w.1) z _ hb)
        · omega
      · omega
  refine b_aload_n rfl rfl ?_
  refine b_callV0v (ν := MX12_lex) rfl ml12_247 cvX12_lex (d' := 1) (by omega) rfl (by decide) rfl (Nat.le_of_ble_eq_true rfl) ?_
  refine mk_lex hM (fun h4 => ?_) (fun h4 H1 hb => ?_)
  · refine ⟨rfl, ?_⟩
    first
    | exact b4 _ _ _ hb (fun z => k0 (fun w => by have := w.1; omega) z _ hb)
    | exact g4 h4
  · refine ⟨rfl, ?_⟩
    first
    | exact b4 _ _ _ hb (fun z => k0 (fun w => by have := w.1; omega) z _ hb)
    | exact g4 h4
theorem mk_freshB {k pl : Int} (hM : Mbad K k pl H) (kq : ∀ z, Q (some (aJ z)) H) : Rj MX12_fresh 2 [aR 57] H Q := by
  have hf := Mbad_f hM
  refine rj_of okX12_fresh (Nat.le_of_ble_eq_true rfl) rfl ?_
  refine b_aload_n rfl rfl ?_
  refine b_callV0v (ν := MX12_lex) rfl ml12_247 cvX12_lex (d' := 1) (by omega) rfl (by decide) rfl (Nat.le_of_ble_eq_true rfl) ?_
  refine mk_lexB hM ?_
  refine ⟨rfl, ?_⟩
  refine b_aload_n rfl rfl ?_
  refine b_getI rfl fl12_36 rfl (by decide) rfl ?_
  refine b_if_le (tgt := 13) rfl rfl (fun c8 => ?_) (fun c8 => ?_)
  · omega
  · refine b_lconst (z := 0) rfl rfl ?_
    refine b_lret rfl rfl ?_
    exact kq _
theorem spr_has2 {b k : Nat} (hb : b < 64) (hk : k < 6) (k1 : b / 2 ^ k % 2 = 1 → Q (some (aI 1)) H) (k0 : ¬ b / 2 ^ k % 2 = 1 → Q (some (aI 0)) H) : Rj MX12_has2 0 [aI (b : Int), aI (k : Int)] H Q := by
  refine rj_of okX12_has2 (Nat.le_of_ble_eq_true rfl) rfl ?_
  have sh : iAnd (iShr (b : Int) (k : Int)) 1 = ((b / 2 ^ k % 2 : Nat) : Int) := by
    rw [iShr_p k (by unfold in32; omega) (by omega), iAnd_1]
    push_cast
    rfl
  refine b_iload_n rfl rfl ?_
  refine b_iload_n rfl rfl ?_
  refine b_ishr rfl ?_
  refine b_iconst rfl (by decide) ?_
  refine b_iand rfl ?_
  rw [sh]
  refine b_iconst rfl (by decide) ?_
  refine b_icmp_ne (tgt := 13) rfl rfl (fun c6 => ?_) (fun c6 => ?_)
  · refine b_iconst rfl (by decide) ?_
    refine b_zret rfl rfl (by first | decide | omega) ?_
    first
    | (have e : b / 2 ^ k % 2 = 1 := by omega
       exact k1 e)
    | (have e : ¬ b / 2 ^ k % 2 = 1 := by omega
       exact k0 e)
  · refine b_iconst rfl (by decide) ?_
    refine b_goto (tgt := 14) rfl rfl ?_
    refine b_zret rfl rfl (by first | decide | omega) ?_
    first
    | (have e : b / 2 ^ k % 2 = 1 := by omega
       exact k1 e)
    | (have e : ¬ b / 2 ^ k % 2 = 1 := by omega
       exact k0 e)
theorem mk_asked {kk bs : Nat} (hkk : kk < 3) (hbs : bs < 64) (hT : MTx K n B) (hC : cOK I 13) (hR : RDn I K m) (hM : Mok K n B p H) (k1 : tk n B p = 1 ∧ tw n B p = -1 → finN I kk (tv n B p) ≠ -1 → ¬ bs / 2 ^ (finN I kk (tv n B p)).toNat % 2 = 1 → ∀ H', Mok K n B (te n B p) H' → Q (some (aI (finN I kk (tv n B p)))) H') (k3 : tk n B p = 1 ∧ tw n B p = -1 → (finN I kk (tv n B p) = -1 ∨ bs / 2 ^ (finN I kk (tv n B p)).toNat % 2 = 1) → ∀ H', Mbad K 3 (tq n B p : Int) H' → Q (some (aI 0)) H') (k0 : ¬ (tk n B p = 1 ∧ tw n B p = -1) → ∀ H', Mbad K 1 (tsp n B p : Int) H' → Q (some (aI 0)) H') : Rj MX12_askedBut 2 [aR 57, aI (kk : Int), aI (bs : Int)] H Q := by
  refine rj_of okX12_askedBut (Nat.le_of_ble_eq_true rfl) rfl ?_
  have hf := Mok_f hM
  have hRH := Mok_R hM hR
  have b91 : ∀ (k pl z : Int) (H1 : HI), Mbad K k pl H1 → Q (some (aI 0)) H1 → Bj MX12_askedBut 2 91 [some (aR 57), some (aI (kk : Int)), some (aI (bs : Int)), some (aI z)] [] H1 Q := by
    intro k pl z H1 hb kq
    have hf := Mbad_f hb
    refine b_aload_n rfl rfl ?_
    refine b_getI rfl fl12_36 rfl (by decide) rfl ?_
    refine b_if_ne (tgt := 102) rfl rfl (fun c95 => ?_) (fun c95 => ?_)
    · refine b_aload_n rfl rfl ?_
      refine b_getI rfl fl12_36 rfl (by decide) rfl ?_
      refine b_if_le (tgt := 113) rfl rfl (fun c106 => ?_) (fun c106 => ?_)
      · omega
      · refine b_iconst rfl (by decide) ?_
        refine b_goto (tgt := 114) rfl rfl ?_
        refine b_iret rfl rfl ?_
        exact kq
    · omega
  have b41 : ∀ (k pl : Int) (H1 : HI), Mbad K k pl H1 → Q (some (aI 0)) H1 → Bj MX12_askedBut 2 41 [some (aR 57), some (aI (kk : Int)), some (aI (bs : Int)), none] [] H1 Q := by
    intro k pl H1 hb kq
    have hf := Mbad_f hb
    refine b_aload_n rfl rfl ?_
    refine b_getI rfl fl12_36 rfl (by decide) rfl ?_
    refine b_if_le (tgt := 52) rfl rfl (fun c45 => ?_) (fun c45 => ?_)
    · omega
    · refine b_iconst rfl (by decide) ?_
      refine b_goto (tgt := 61) rfl rfl ?_
      refine b_istoreX_n (F := fun z61 => [some (aR 57), some (aI (kk : Int)), some (aI (bs : Int)), some (aI z61)]) rfl (by decide) (fun _ => rfl) (fun z61 ez61 => ?_)
      refine b_aload_n rfl rfl ?_
      refine b_getI rfl fl12_36 rfl (by decide) rfl ?_
      refine b_if_ne (tgt := 91) rfl rfl (fun c66 => ?_) (fun c66 => ?_)
      · exact b91 _ _ _ _ hb kq
      · omega
  have b4 : ∀ (k pl : Int) (H1 : HI), Mbad K k pl H1 → Q (some (aI 0)) H1 → Bj MX12_askedBut 2 4 [some (aR 57), some (aI (kk : Int)), some (aI (bs : Int)), none] [] H1 Q := by
    intro k pl H1 hb kq
    have hf := Mbad_f hb
    refine b_aload_n rfl rfl ?_
    refine b_getI rfl fl12_36 rfl (by decide) rfl ?_
    refine b_if_le (tgt := 13) rfl rfl (fun c8 => ?_) (fun c8 => ?_)
    · omega
    · refine b_iconst rfl (by decide) ?_
      refine b_iret rfl rfl ?_
      exact kq
  have g102 : ∀ (z : Int) (H1 : HI), Mok K n B (te n B p) H1 → Q (some (aI z)) H1 → Bj MX12_askedBut 2 102 [some (aR 57), some (aI (kk : Int)), some (aI (bs : Int)), some (aI z)] [] H1 Q := by
    intro z H1 hM1 kq
    have hf := Mok_f hM1
    refine b_aload_n rfl rfl ?_
    refine b_getI rfl fl12_36 rfl (by decide) rfl ?_
    rw [hf.1]
    refine b_if_le (tgt := 113) rfl rfl (fun c106 => ?_) (fun c106 => ?_)
    · refine b_iload_n rfl rfl ?_
      refine b_iret rfl rfl ?_
      exact kq
    · omega
  have g91 : ∀ (z : Int), z = finN I kk (tv n B p) → tk n B p = 1 ∧ tw n B p = -1 → finN I kk (tv n B p) ≠ -1 → ¬ bs / 2 ^ (finN I kk (tv n B p)).toNat % 2 = 1 → Bj MX12_askedBut 2 91 [some (aR 57), some (aI (kk : Int)), some (aI (bs : Int)), some (aI z)] [] H Q := by
    intro z hz h1 h2 h3
    refine b_aload_n rfl rfl ?_
    refine b_getI rfl fl12_36 rfl (by decide) rfl ?_
    rw [hf.1]
    refine b_if_ne (tgt := 102) rfl rfl (fun c95 => ?_) (fun c95 => ?_)
    · omega
    · refine b_aload_n rfl rfl ?_
      refine b_callV0v (ν := MX12_ahead) rfl ml12_253 cvX12_ahead (d' := 1) (by omega) rfl (by decide) rfl (Nat.le_of_ble_eq_true rfl) ?_
      refine mk_ahead hT hM (Or.inl h1.1) (fun H1 hM1 => ?_)
      refine ⟨rfl, ?_⟩
      exact g102 _ _ hM1 (by rw [hz]; exact k1 h1 h2 h3 _ hM1)
  have g41 : tk n B p = 1 ∧ tw n B p = -1 → Bj MX12_askedBut 2 41 [some (aR 57), some (aI (kk : Int)), some (aI (bs : Int)), none] [] H Q := by
    intro h1
    have hw := Mok_w hM h1.1
    generalize hv : finN I kk (tv n B p) = v at *
    have hfn : v ≠ -1 → v = (v.toNat : Int) ∧ v.toNat < 6 := by
      intro h
      rw [← hv] at h ⊢
      have := fin_nat hC hkk h
      exact ⟨this.1, this.2.2⟩
    refine b_aload_n rfl rfl ?_
    refine b_getI rfl fl12_36 rfl (by decide) rfl ?_
    rw [hf.1]
    refine b_if_le (tgt := 52) rfl rfl (fun c45 => ?_) (fun c45 => ?_)
    · refine b_aload_n rfl rfl ?_
      refine b_iload_n rfl rfl ?_
      refine b_aload_n rfl rfl ?_
      refine b_getJ rfl fl12_32 rfl (by decide) rfl ?_
      rw [hw]
      refine b_callV2i (ν := MX12_named) rfl ml12_360 cvX12_named (d' := 1) (by omega) rfl (by decide) rfl (Nat.le_of_ble_eq_true rfl) ?_
      refine spr_named hkk hC hRH (t_NR h1.1) ?_
      rw [hv]
      refine ⟨_, rfl, ?_⟩
      refine b_istoreX_n (F := fun z61 => [some (aR 57), some (aI (kk : Int)), some (aI (bs : Int)), some (aI z61)]) rfl (by decide) (fun _ => rfl) (fun z61 ez61 => ?_)
      refine b_aload_n rfl rfl ?_
      refine b_getI rfl fl12_36 rfl (by decide) rfl ?_
      rw [hf.1]
      refine b_if_ne (tgt := 91) rfl rfl (fun c66 => ?_) (fun c66 => ?_)
      · omega
      · refine b_iload_n rfl rfl ?_
        refine b_iconst rfl (by decide) ?_
        refine b_icmp_eq (tgt := 82) rfl rfl (fun c71 => ?_) (fun c71 => ?_)
        · refine b_aload_n rfl rfl ?_
          refine b_iconst rfl (by decide) ?_
          refine b_aload_n rfl rfl ?_
          refine b_getI rfl fl12_23 rfl (by decide) rfl ?_
          rw [hf.2]
          refine b_callV2v (ν := MX12_blame) rfl ml12_236 cvX12_blame (d' := 0) (by omega) rfl (by decide) rfl (Nat.le_of_ble_eq_true rfl) ?_
          refine mk_blame (by decide) hM (fun H1 hb => ?_)
          refine ⟨rfl, ?_⟩
          first
          | exact b91 _ _ _ _ hb (k3 h1 (Or.inr hh) _ hb)
          | exact b91 _ _ _ _ hb (k3 h1 (Or.inl (by omega)) _ hb)
          | exact g91 _ (by omega) h1 (by omega) hh
        · refine b_iload_n rfl rfl ?_
          refine b_iload_n rfl rfl ?_
          refine b_callS2i (ν := MX12_has2) rfl ml12_364 csX12_has2 (d' := 0) (by omega) (Nat.le_of_ble_eq_true rfl) ?_
          have hz := hfn (by omega)
          rw [show z61 = (v.toNat : Int) by omega]
          refine spr_has2 hbs hz.2 (fun hh => ?_) (fun hh => ?_)
          · refine ⟨_, rfl, ?_⟩
            refine b_if_eq (tgt := 91) rfl rfl (fun z => absurd z (by decide)) (fun _ => ?_)
            refine b_aload_n rfl rfl ?_
            refine b_iconst rfl (by decide) ?_
            refine b_aload_n rfl rfl ?_
            refine b_getI rfl fl12_23 rfl (by decide) rfl ?_
            rw [hf.2]
            refine b_callV2v (ν := MX12_blame) rfl ml12_236 cvX12_blame (d' := 0) (by omega) rfl (by decide) rfl (Nat.le_of_ble_eq_true rfl) ?_
            refine mk_blame (by decide) hM (fun H1 hb => ?_)
            refine ⟨rfl, ?_⟩
            first
            | exact b91 _ _ _ _ hb (k3 h1 (Or.inr hh) _ hb)
            | exact b91 _ _ _ _ hb (k3 h1 (Or.inl (by omega)) _ hb)
            | exact g91 _ (by omega) h1 (by omega) hh
          · refine ⟨_, rfl, ?_⟩
            refine b_if_eq (tgt := 91) rfl rfl (fun _ => ?_) (fun z => absurd z (by decide))
            first
            | exact b91 _ _ _ _ hb (k3 h1 (Or.inr hh) _ hb)
            | exact b91 _ _ _ _ hb (k3 h1 (Or.inl (by omega)) _ hb)
            | exact g91 _ (by omega) h1 (by omega) hh
    · omega
  have g4 : tk n B p ≠ 4 → Bj MX12_askedBut 2 4 [some (aR 57), some (aI (kk : Int)), some (aI (bs : Int)), none] [] H Q := by
    intro h4
    have hs := Mok_s hM h4
    by_cases h1 : tk n B p = 1
    · have hw := Mok_w hM h1
      have hto := tw_own h1
      refine b_aload_n rfl rfl ?_
      refine b_getI rfl fl12_36 rfl (by decide) rfl ?_
      rw [hf.1]
      refine b_if_le (tgt := 13) rfl rfl (fun c8 => ?_) (fun c8 => ?_)
      · refine b_aload_n rfl rfl ?_
        refine b_getI rfl fl12_20 rfl (by decide) rfl ?_
        rw [hs]
        refine b_iconst rfl (by decide) ?_
        refine b_icmp_ne (tgt := 32) rfl rfl (fun c18 => ?_) (fun c18 => ?_)
        · omega
        · refine b_aload_n rfl rfl ?_
          refine b_aload_n rfl rfl ?_
          refine b_getJ rfl fl12_32 rfl (by decide) rfl ?_
          rw [hw]
          refine b_callV1i (ν := MX12_isOwn) rfl ml12_357 cvX12_isOwn (d' := 0) (by omega) rfl (by decide) rfl (Nat.le_of_ble_eq_true rfl) ?_
          refine spr_isOwn (fun ho => ?_) (fun ho => ?_)
          · refine ⟨_, rfl, ?_⟩
            refine b_if_eq (tgt := 41) rfl rfl (fun z => absurd z (by decide)) (fun _ => ?_)
            refine b_aload_n rfl rfl ?_
            refine b_iconst rfl (by decide) ?_
            refine b_aload_n rfl rfl ?_
            refine b_getI rfl fl12_23 rfl (by decide) rfl ?_
            rw [hf.2, ← tsp_q h4]
            refine b_callV2v (ν := MX12_blame) rfl ml12_236 cvX12_blame (d' := 0) (by omega) rfl (by decide) rfl (Nat.le_of_ble_eq_true rfl) ?_
            refine mk_blame (by decide) hM (fun H1 hb => ?_)
            refine ⟨rfl, ?_⟩
            first
            | exact b41 _ _ _ hb (k0 (fun w => (hto.1 w.2) ho) _ hb)
            | exact g41 ⟨h1, hto.2 ho⟩
          · refine ⟨_, rfl, ?_⟩
            refine b_if_eq (tgt := 41) rfl rfl (fun _ => ?_) (fun z => absurd z (by decide))
            first
            | exact b41 _ _ _ hb (k0 (fun w => (hto.1 w.2) ho) _ hb)
            | exact g41 ⟨h1, hto.2 ho⟩
      · omega
    · skip
      refine b_aload_n rfl rfl ?_
      refine b_getI rfl fl12_36 rfl (by decide) rfl ?_
      rw [hf.1]
      refine b_if_le (tgt := 13) rfl rfl (fun c8 => ?_) (fun c8 => ?_)
      · refine b_aload_n rfl rfl ?_
        refine b_getI rfl fl12_20 rfl (by decide) rfl ?_
        rw [hs]
        refine b_iconst rfl (by decide) ?_
        refine b_icmp_ne (tgt := 32) rfl rfl (fun c18 => ?_) (fun c18 => ?_)
        · refine b_aload_n rfl rfl ?_
          refine b_iconst rfl (by decide) ?_
          refine b_aload_n rfl rfl ?_
          refine b_getI rfl fl12_23 rfl (by decide) rfl ?_
          rw [hf.2, ← tsp_q h4]
          refine b_callV2v (ν := MX12_blame) rfl ml12_236 cvX12_blame (d' := 0) (by omega) rfl (by decide) rfl (Nat.le_of_ble_eq_true rfl) ?_
          refine mk_blame (by decide) hM (fun H1 hb => ?_)
          refine ⟨rfl, ?_⟩
          exact b41 _ _ _ hb (k0 (fun w => h1 w.1) _ hb)
        · omega
      · omega
  refine b_aload_n rfl rfl ?_
  refine b_callV0v (ν := MX12_lex) rfl ml12_247 cvX12_lex (d' := 1) (by omega) rfl (by decide) rfl (Nat.le_of_ble_eq_true rfl) ?_
  refine mk_lex hM (fun h4 => ?_) (fun h4 H1 hb => ?_)
  · refine ⟨rfl, ?_⟩
    first
    | exact b4 _ _ _ hb (k0 (fun w => by have := w.1; omega) _ hb)
    | exact g4 h4
  · refine ⟨rfl, ?_⟩
    first
    | exact b4 _ _ _ hb (k0 (fun w => by have := w.1; omega) _ hb)
    | exact g4 h4
theorem mk_askedB {a b k pl : Int} (hM : Mbad K k pl H) (kq : Q (some (aI 0)) H) : Rj MX12_askedBut 2 [aR 57, aI a, aI b] H Q := by
  have hf := Mbad_f hM
  refine rj_of okX12_askedBut (Nat.le_of_ble_eq_true rfl) rfl ?_
  refine b_aload_n rfl rfl ?_
  refine b_callV0v (ν := MX12_lex) rfl ml12_247 cvX12_lex (d' := 1) (by omega) rfl (by decide) rfl (Nat.le_of_ble_eq_true rfl) ?_
  refine mk_lexB hM ?_
  refine ⟨rfl, ?_⟩
  refine b_aload_n rfl rfl ?_
  refine b_getI rfl fl12_36 rfl (by decide) rfl ?_
  refine b_if_le (tgt := 13) rfl rfl (fun c8 => ?_) (fun c8 => ?_)
  · omega
  · refine b_iconst rfl (by decide) ?_
    refine b_iret rfl rfl ?_
    exact kq
end MFS
