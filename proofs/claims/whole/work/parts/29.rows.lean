/-! ===== Rows: what the tape tells ===== -/
def awP (I : HI) : Prop := 1 ≤ I 1 1 ∧ I 1 1 ≤ 6 ∧ ∀ k : Nat, (k : Int) < I 1 1 → kO I 4 0 (tAt I (k : Int))
theorem spf_areWares {I : HI} {Q : Option AV → HI → Prop} (hT : 0 ≤ I 1 1 ∧ I 1 1 ≤ 1600) (k1 : awP I → Q (some (aI 1)) I) (k0 : ¬ awP I → Q (some (aI 0)) I) : Rj MX6_areWares 1 [aR 44] I Q := by
  refine rj_of okX6_areWares (Nat.le_of_ble_eq_true rfl) rfl ?_
  have z0 : ∀ (y z : Int), y = 0 → ¬ awP I → Bj MX6_areWares 1 31 [some (aR 44), some (aI y), some (aI z)] [] I Q := by
    intro y z hy hn
    refine b_iload_n rfl rfl ?_
    refine b_if_eq (tgt := 69) rfl rfl (fun c32 => ?_) (fun c32 => ?_)
    · refine b_iload_n rfl rfl ?_
      refine b_zret rfl rfl (by first | decide | omega) ?_
      exact qI (k0 hn) hy.symm rfl
    · omega
  have lp : ∀ (n i : Nat) (y z : Int), y = 1 → (1 ≤ I 1 1 ∧ I 1 1 ≤ 6) → (∀ k : Nat, k < i → kO I 4 0 (tAt I (k : Int))) → z = (i : Int) → (i : Int) + n = I 1 1 → Bj MX6_areWares 1 31 [some (aR 44), some (aI y), some (aI z)] [] I Q := by
    intro n
    induction n with
    | zero =>
      intro i y z hy hr hk hz hi
      refine b_iload_n rfl rfl ?_
      refine b_if_eq (tgt := 69) rfl rfl (fun c32 => ?_) (fun c32 => ?_)
      · omega
      · refine b_iload_n rfl rfl ?_
        refine b_aload_n rfl rfl ?_
        refine b_getR (r := 1) rfl fl6_42 rfl (by decide) rfl rfl ?_
        refine b_getI rfl fl6_53 rfl (by decide) rfl ?_
        refine b_icmp_ge (tgt := 69) rfl rfl (fun c43 => ?_) (fun c43 => ?_)
        · refine b_iload_n rfl rfl ?_
          refine b_zret rfl rfl (by first | decide | omega) ?_
          exact qI (k1 ⟨hr.1, hr.2, fun k hk2 => hk k (by omega)⟩) hy.symm rfl
        · omega
    | succ n ih =>
      intro i y z hy hr hk hz hi
      subst hz
      refine b_iload_n rfl rfl ?_
      refine b_if_eq (tgt := 69) rfl rfl (fun c32 => ?_) (fun c32 => ?_)
      · omega
      · refine b_iload_n rfl rfl ?_
        refine b_aload_n rfl rfl ?_
        refine b_getR (r := 1) rfl fl6_42 rfl (by decide) rfl rfl ?_
        refine b_getI rfl fl6_53 rfl (by decide) rfl ?_
        refine b_icmp_ge (tgt := 69) rfl rfl (fun c43 => ?_) (fun c43 => ?_)
        · omega
        · refine b_aload_n rfl rfl ?_
          refine b_getR (r := 3) rfl fl6_34 rfl (by decide) rfl rfl ?_
          refine b_iconst rfl (by decide) ?_
          refine b_aload_n rfl rfl ?_
          refine b_getR (r := 1) rfl fl6_42 rfl (by decide) rfl rfl ?_
          refine b_iload_n rfl rfl ?_
          refine b_callV1i (ν := MX9_at) rfl ml6_58 cvX9_at (d' := 0) (by omega) rfl (by decide) rfl (Nat.le_of_ble_eq_true rfl) ?_
          refine sp_X9_at (by omega) ?_
          refine ⟨_, rfl, ?_⟩
          refine b_callV2i (ν := MX3_knows) rfl ml6_62 cvX3_knows (d' := 0) (by omega) rfl (by decide) rfl (Nat.le_of_ble_eq_true rfl) ?_
          refine spf_knows (fun hw => ?_) (fun hw => ?_)
          · refine ⟨_, rfl, ?_⟩
            refine b_istoreX_n (F := fun z62 => [some (aR 44), some (aI z62), some (aI (i : Int))]) rfl (by decide) (fun _ => rfl) (fun z62 ez62 => ?_)
            refine b_iincX (F := fun z63 => [some (aR 44), some (aI z62), some (aI z63)]) rfl rfl (by omega) (by omega) (fun _ => rfl) (fun z63 ez63 => ?_)
            refine b_goto (tgt := 31) rfl rfl ?_
            first
            | exact ih (i + 1) _ _ (by omega) hr (fun k hk2 => by
                by_cases e : k = i
                · rw [e]; assumption
                · exact hk k (by omega)) (by omega) (by omega)
            | exact z0 _ _ (by omega) (fun w => absurd (w.2.2 i (by omega)) (by assumption))
          · refine ⟨_, rfl, ?_⟩
            refine b_istoreX_n (F := fun z62 => [some (aR 44), some (aI z62), some (aI (i : Int))]) rfl (by decide) (fun _ => rfl) (fun z62 ez62 => ?_)
            refine b_iincX (F := fun z63 => [some (aR 44), some (aI z62), some (aI z63)]) rfl rfl (by omega) (by omega) (fun _ => rfl) (fun z63 ez63 => ?_)
            refine b_goto (tgt := 31) rfl rfl ?_
            first
            | exact ih (i + 1) _ _ (by omega) hr (fun k hk2 => by
                by_cases e : k = i
                · rw [e]; assumption
                · exact hk k (by omega)) (by omega) (by omega)
            | exact z0 _ _ (by omega) (fun w => absurd (w.2.2 i (by omega)) (by assumption))
  refine b_aload_n rfl rfl ?_
  refine b_getR (r := 1) rfl fl6_42 rfl (by decide) rfl rfl ?_
  refine b_getI rfl fl6_53 rfl (by decide) rfl ?_
  refine b_iconst rfl (by decide) ?_
  refine b_icmp_lt (tgt := 27) rfl rfl (fun c8 => ?_) (fun c8 => ?_)
  · refine b_iconst rfl (by decide) ?_
    refine b_istoreX_n (F := fun z28 => [some (aR 44), some (aI z28), none]) rfl (by decide) (fun _ => rfl) (fun z28 ez28 => ?_)
    refine b_iconst rfl (by decide) ?_
    refine b_istoreX_n (F := fun z30 => [some (aR 44), some (aI z28), some (aI z30)]) rfl (by decide) (fun _ => rfl) (fun z30 ez30 => ?_)
    first
    | exact lp (I 1 1).toNat 0 _ _ (by omega) (by omega) (fun k hk => absurd hk (by omega)) (by omega) (by omega)
    | exact z0 _ _ (by omega) (fun w => by have h1 := w.1; have h2 := w.2.1; omega)
  · refine b_aload_n rfl rfl ?_
    refine b_getR (r := 1) rfl fl6_42 rfl (by decide) rfl rfl ?_
    refine b_getI rfl fl6_53 rfl (by decide) rfl ?_
    refine b_bipush rfl (by decide) ?_
    refine b_icmp_gt (tgt := 27) rfl rfl (fun c20 => ?_) (fun c20 => ?_)
    · refine b_iconst rfl (by decide) ?_
      refine b_istoreX_n (F := fun z28 => [some (aR 44), some (aI z28), none]) rfl (by decide) (fun _ => rfl) (fun z28 ez28 => ?_)
      refine b_iconst rfl (by decide) ?_
      refine b_istoreX_n (F := fun z30 => [some (aR 44), some (aI z28), some (aI z30)]) rfl (by decide) (fun _ => rfl) (fun z30 ez30 => ?_)
      first
      | exact lp (I 1 1).toNat 0 _ _ (by omega) (by omega) (fun k hk => absurd hk (by omega)) (by omega) (by omega)
      | exact z0 _ _ (by omega) (fun w => by have h1 := w.1; have h2 := w.2.1; omega)
    · refine b_iconst rfl (by decide) ?_
      refine b_goto (tgt := 28) rfl rfl ?_
      refine b_istoreX_n (F := fun z28 => [some (aR 44), some (aI z28), none]) rfl (by decide) (fun _ => rfl) (fun z28 ez28 => ?_)
      refine b_iconst rfl (by decide) ?_
      refine b_istoreX_n (F := fun z30 => [some (aR 44), some (aI z28), some (aI z30)]) rfl (by decide) (fun _ => rfl) (fun z30 ez30 => ?_)
      first
      | exact lp (I 1 1).toNat 0 _ _ (by omega) (by omega) (fun k hk => absurd hk (by omega)) (by omega) (by omega)
      | exact z0 _ _ (by omega) (fun w => by have h1 := w.1; have h2 := w.2.1; omega)
def acP (I : HI) (s : Int) : Prop := 2 ≤ I 1 1 ∧ I 1 1 ≤ 12 ∧ I 1 1 % 2 = 0 ∧ ∀ k : Nat, 2 * (k : Int) < I 1 1 → kc_3 I s (tAt I (2 * (k : Int))) (tAt I (2 * (k : Int) + 1))
theorem spf_areCrates {I : HI} {Q : Option AV → HI → Prop} {s : Int} (hC : cOK I 4) (hT : 0 ≤ I 1 1 ∧ I 1 1 ≤ 1600) (k1 : acP I s → Q (some (aI 1)) I) (k0 : ¬ acP I s → Q (some (aI 0)) I) : Rj MX6_areCrates 3 [aR 44, aI s] I Q := by
  refine rj_of okX6_areCrates (Nat.le_of_ble_eq_true rfl) rfl ?_
  have z0 : ∀ (y z : Int), y = 0 → ¬ acP I s → Bj MX6_areCrates 3 43 [some (aR 44), some (aI s), some (aI y), some (aI z)] [] I Q := by
    intro y z hy hn
    refine b_iload_n rfl rfl ?_
    refine b_if_eq (tgt := 91) rfl rfl (fun c44 => ?_) (fun c44 => ?_)
    · refine b_iload_n rfl rfl ?_
      refine b_zret rfl rfl (by first | decide | omega) ?_
      exact qI (k0 hn) hy.symm rfl
    · omega
  have lp : ∀ (n i : Nat) (y z : Int), y = 1 → (2 ≤ I 1 1 ∧ I 1 1 ≤ 12 ∧ I 1 1 % 2 = 0) → (∀ k : Nat, k < i → kc_3 I s (tAt I (2 * (k : Int))) (tAt I (2 * (k : Int) + 1))) → z = 2 * (i : Int) → 2 * ((i : Int) + n) = I 1 1 → Bj MX6_areCrates 3 43 [some (aR 44), some (aI s), some (aI y), some (aI z)] [] I Q := by
    intro n
    induction n with
    | zero =>
      intro i y z hy hr hk hz hi
      refine b_iload_n rfl rfl ?_
      refine b_if_eq (tgt := 91) rfl rfl (fun c44 => ?_) (fun c44 => ?_)
      · omega
      · refine b_iload_n rfl rfl ?_
        refine b_aload_n rfl rfl ?_
        refine b_getR (r := 1) rfl fl6_42 rfl (by decide) rfl rfl ?_
        refine b_getI rfl fl6_53 rfl (by decide) rfl ?_
        refine b_icmp_ge (tgt := 91) rfl rfl (fun c55 => ?_) (fun c55 => ?_)
        · refine b_iload_n rfl rfl ?_
          refine b_zret rfl rfl (by first | decide | omega) ?_
          exact qI (k1 ⟨hr.1, hr.2.1, hr.2.2, fun k hk2 => hk k (by omega)⟩) hy.symm rfl
        · omega
    | succ n ih =>
      intro i y z hy hr hk hz hi
      subst hz
      refine b_iload_n rfl rfl ?_
      refine b_if_eq (tgt := 91) rfl rfl (fun c44 => ?_) (fun c44 => ?_)
      · omega
      · refine b_iload_n rfl rfl ?_
        refine b_aload_n rfl rfl ?_
        refine b_getR (r := 1) rfl fl6_42 rfl (by decide) rfl rfl ?_
        refine b_getI rfl fl6_53 rfl (by decide) rfl ?_
        refine b_icmp_ge (tgt := 91) rfl rfl (fun c55 => ?_) (fun c55 => ?_)
        · omega
        · refine b_aload_n rfl rfl ?_
          refine b_getR (r := 3) rfl fl6_34 rfl (by decide) rfl rfl ?_
          refine b_iload_n rfl rfl ?_
          refine b_aload_n rfl rfl ?_
          refine b_getR (r := 1) rfl fl6_42 rfl (by decide) rfl rfl ?_
          refine b_iload_n rfl rfl ?_
          refine b_callV1i (ν := MX9_at) rfl ml6_58 cvX9_at (d' := 0) (by omega) rfl (by decide) rfl (Nat.le_of_ble_eq_true rfl) ?_
          refine sp_X9_at (by omega) ?_
          refine ⟨_, rfl, ?_⟩
          refine b_aload_n rfl rfl ?_
          refine b_getR (r := 1) rfl fl6_42 rfl (by decide) rfl rfl ?_
          refine b_iload_n rfl rfl ?_
          refine b_iconst rfl (by decide) ?_
          refine b_iaddN rfl (by omega) (by omega) ?_
          refine b_callV1i (ν := MX9_at) rfl ml6_58 cvX9_at (d' := 0) (by omega) rfl (by decide) rfl (Nat.le_of_ble_eq_true rfl) ?_
          refine sp_X9_at (by omega) ?_
          refine ⟨_, rfl, ?_⟩
          refine b_callV3i (ν := MX3_knowsCell) rfl ml6_110 cvX3_knowsCell (d' := 2) (by omega) rfl (by decide) rfl (Nat.le_of_ble_eq_true rfl) ?_
          refine sp_X3_knowsCell_3 hC (fun hw => ?_) (fun hw => ?_)
          · refine ⟨_, rfl, ?_⟩
            refine b_istoreX_n (F := fun z84 => [some (aR 44), some (aI s), some (aI z84), some (aI (2 * (i : Int)))]) rfl (by decide) (fun _ => rfl) (fun z84 ez84 => ?_)
            refine b_iincX (F := fun z85 => [some (aR 44), some (aI s), some (aI z84), some (aI z85)]) rfl rfl (by omega) (by omega) (fun _ => rfl) (fun z85 ez85 => ?_)
            refine b_goto (tgt := 43) rfl rfl ?_
            first
            | exact ih (i + 1) _ _ (by omega) hr (fun k hk2 => by
                by_cases e : k = i
                · rw [e]; assumption
                · exact hk k (by omega)) (by omega) (by omega)
            | exact z0 _ _ (by omega) (fun w => absurd (w.2.2.2 i (by omega)) (by assumption))
          · refine ⟨_, rfl, ?_⟩
            refine b_istoreX_n (F := fun z84 => [some (aR 44), some (aI s), some (aI z84), some (aI (2 * (i : Int)))]) rfl (by decide) (fun _ => rfl) (fun z84 ez84 => ?_)
            refine b_iincX (F := fun z85 => [some (aR 44), some (aI s), some (aI z84), some (aI z85)]) rfl rfl (by omega) (by omega) (fun _ => rfl) (fun z85 ez85 => ?_)
            refine b_goto (tgt := 43) rfl rfl ?_
            first
            | exact ih (i + 1) _ _ (by omega) hr (fun k hk2 => by
                by_cases e : k = i
                · rw [e]; assumption
                · exact hk k (by omega)) (by omega) (by omega)
            | exact z0 _ _ (by omega) (fun w => absurd (w.2.2.2 i (by omega)) (by assumption))
  refine b_aload_n rfl rfl ?_
  refine b_getR (r := 1) rfl fl6_42 rfl (by decide) rfl rfl ?_
  refine b_getI rfl fl6_53 rfl (by decide) rfl ?_
  refine b_iconst rfl (by decide) ?_
  refine b_icmp_lt (tgt := 39) rfl rfl (fun c8 => ?_) (fun c8 => ?_)
  · refine b_iconst rfl (by decide) ?_
    refine b_istoreX_n (F := fun z40 => [some (aR 44), some (aI s), some (aI z40), none]) rfl (by decide) (fun _ => rfl) (fun z40 ez40 => ?_)
    refine b_iconst rfl (by decide) ?_
    refine b_istoreX_n (F := fun z42 => [some (aR 44), some (aI s), some (aI z40), some (aI z42)]) rfl (by decide) (fun _ => rfl) (fun z42 ez42 => ?_)
    first
    | exact lp (I 1 1 / 2).toNat 0 _ _ (by omega) (by omega) (fun k hk => absurd hk (by omega)) (by omega) (by omega)
    | exact z0 _ _ (by omega) (fun w => by have h1 := w.1; have h2 := w.2.1; have h3 := w.2.2.1; omega)
  · refine b_aload_n rfl rfl ?_
    refine b_getR (r := 1) rfl fl6_42 rfl (by decide) rfl rfl ?_
    refine b_getI rfl fl6_53 rfl (by decide) rfl ?_
    refine b_bipush rfl (by decide) ?_
    refine b_icmp_gt (tgt := 39) rfl rfl (fun c20 => ?_) (fun c20 => ?_)
    · refine b_iconst rfl (by decide) ?_
      refine b_istoreX_n (F := fun z40 => [some (aR 44), some (aI s), some (aI z40), none]) rfl (by decide) (fun _ => rfl) (fun z40 ez40 => ?_)
      refine b_iconst rfl (by decide) ?_
      refine b_istoreX_n (F := fun z42 => [some (aR 44), some (aI s), some (aI z40), some (aI z42)]) rfl (by decide) (fun _ => rfl) (fun z42 ez42 => ?_)
      first
      | exact lp (I 1 1 / 2).toNat 0 _ _ (by omega) (by omega) (fun k hk => absurd hk (by omega)) (by omega) (by omega)
      | exact z0 _ _ (by omega) (fun w => by have h1 := w.1; have h2 := w.2.1; have h3 := w.2.2.1; omega)
    · refine b_aload_n rfl rfl ?_
      refine b_getR (r := 1) rfl fl6_42 rfl (by decide) rfl rfl ?_
      refine b_getI rfl fl6_53 rfl (by decide) rfl ?_
      refine b_iconst rfl (by decide) ?_
      refine b_iremP rfl (by omega) (by omega) ?_
      refine b_if_ne (tgt := 39) rfl rfl (fun c32 => ?_) (fun c32 => ?_)
      · refine b_iconst rfl (by decide) ?_
        refine b_istoreX_n (F := fun z40 => [some (aR 44), some (aI s), some (aI z40), none]) rfl (by decide) (fun _ => rfl) (fun z40 ez40 => ?_)
        refine b_iconst rfl (by decide) ?_
        refine b_istoreX_n (F := fun z42 => [some (aR 44), some (aI s), some (aI z40), some (aI z42)]) rfl (by decide) (fun _ => rfl) (fun z42 ez42 => ?_)
        first
        | exact lp (I 1 1 / 2).toNat 0 _ _ (by omega) (by omega) (fun k hk => absurd hk (by omega)) (by omega) (by omega)
        | exact z0 _ _ (by omega) (fun w => by have h1 := w.1; have h2 := w.2.1; have h3 := w.2.2.1; omega)
      · refine b_iconst rfl (by decide) ?_
        refine b_goto (tgt := 40) rfl rfl ?_
        refine b_istoreX_n (F := fun z40 => [some (aR 44), some (aI s), some (aI z40), none]) rfl (by decide) (fun _ => rfl) (fun z40 ez40 => ?_)
        refine b_iconst rfl (by decide) ?_
        refine b_istoreX_n (F := fun z42 => [some (aR 44), some (aI s), some (aI z40), some (aI z42)]) rfl (by decide) (fun _ => rfl) (fun z42 ez42 => ?_)
        first
        | exact lp (I 1 1 / 2).toNat 0 _ _ (by omega) (by omega) (fun k hk => absurd hk (by omega)) (by omega) (by omega)
        | exact z0 _ _ (by omega) (fun w => by have h1 := w.1; have h2 := w.2.1; have h3 := w.2.2.1; omega)
def pr (I : HI) (k : Int) : Int := tAt I k * 256 + tAt I (k + 1)
theorem pr_eq {I : HI} {k : Int} : tAt I k * 256 + tAt I (k + 1) = pr I k := rfl
def ahP (I : HI) : Prop := 4 ≤ I 1 1 ∧ I 1 1 ≤ 40 ∧ I 1 1 % 4 = 0 ∧ ∀ k : Nat, 4 * (k : Int) < I 1 1 → pr I (4 * (k : Int)) ≤ 9999 ∧ pr I (4 * (k : Int) + 2) ≤ 9999
theorem spf_areHeights {I : HI} {Q : Option AV → HI → Prop} (hT : 0 ≤ I 1 1 ∧ I 1 1 ≤ 1600) (hB : ∀ j, 0 ≤ I 2 j ∧ I 2 j < 256) (k1 : ahP I → Q (some (aI 1)) I) (k0 : ¬ ahP I → Q (some (aI 0)) I) : Rj MX6_areHeights 2 [aR 44] I Q := by
  refine rj_of okX6_areHeights (Nat.le_of_ble_eq_true rfl) rfl ?_
  have z0 : ∀ (y z : Int), y = 0 → ¬ ahP I → Bj MX6_areHeights 2 43 [some (aR 44), some (aI y), some (aI z)] [] I Q := by
    intro y z hy hn
    refine b_iload_n rfl rfl ?_
    refine b_if_eq (tgt := 100) rfl rfl (fun c44 => ?_) (fun c44 => ?_)
    · refine b_iload_n rfl rfl ?_
      refine b_zret rfl rfl (by first | decide | omega) ?_
      exact qI (k0 hn) hy.symm rfl
    · omega
  have lp : ∀ (n i : Nat) (y z : Int), y = 1 → (4 ≤ I 1 1 ∧ I 1 1 ≤ 40 ∧ I 1 1 % 4 = 0) → (∀ k : Nat, k < i → pr I (4 * (k : Int)) ≤ 9999 ∧ pr I (4 * (k : Int) + 2) ≤ 9999) → z = 4 * (i : Int) → 4 * ((i : Int) + n) = I 1 1 → Bj MX6_areHeights 2 43 [some (aR 44), some (aI y), some (aI z)] [] I Q := by
    intro n
    induction n with
    | zero =>
      intro i y z hy hr hk hz hi
      refine b_iload_n rfl rfl ?_
      refine b_if_eq (tgt := 100) rfl rfl (fun c44 => ?_) (fun c44 => ?_)
      · omega
      · refine b_iload_n rfl rfl ?_
        refine b_aload_n rfl rfl ?_
        refine b_getR (r := 1) rfl fl6_42 rfl (by decide) rfl rfl ?_
        refine b_getI rfl fl6_53 rfl (by decide) rfl ?_
        refine b_icmp_ge (tgt := 100) rfl rfl (fun c55 => ?_) (fun c55 => ?_)
        · refine b_iload_n rfl rfl ?_
          refine b_zret rfl rfl (by first | decide | omega) ?_
          exact qI (k1 ⟨hr.1, hr.2.1, hr.2.2, fun k hk2 => hk k (by omega)⟩) hy.symm rfl
        · omega
    | succ n ih =>
      intro i y z hy hr hk hz hi
      subst hz
      refine b_iload_n rfl rfl ?_
      refine b_if_eq (tgt := 100) rfl rfl (fun c44 => ?_) (fun c44 => ?_)
      · omega
      · refine b_iload_n rfl rfl ?_
        refine b_aload_n rfl rfl ?_
        refine b_getR (r := 1) rfl fl6_42 rfl (by decide) rfl rfl ?_
        refine b_getI rfl fl6_53 rfl (by decide) rfl ?_
        refine b_icmp_ge (tgt := 100) rfl rfl (fun c55 => ?_) (fun c55 => ?_)
        · omega
        · refine b_aload_n rfl rfl ?_
          refine b_getR (r := 1) rfl fl6_42 rfl (by decide) rfl rfl ?_
          refine b_iload_n rfl rfl ?_
          refine b_callV1i (ν := MX9_pairAt) rfl ml6_145 cvX9_pairAt (d' := 1) (by omega) rfl (by decide) rfl (Nat.le_of_ble_eq_true rfl) ?_
          refine sp_X9_pairAt (by omega) hB (by omega) ?_
          rw [pr_eq]
          refine ⟨_, rfl, ?_⟩
          refine b_sipush rfl (by decide) ?_
          refine b_icmp_gt (tgt := 92) rfl rfl (fun c69 => ?_) (fun c69 => ?_)
          · refine b_iconst rfl (by decide) ?_
            refine b_istoreX_n (F := fun z93 => [some (aR 44), some (aI z93), some (aI (4 * (i : Int)))]) rfl (by decide) (fun _ => rfl) (fun z93 ez93 => ?_)
            refine b_iincX (F := fun z94 => [some (aR 44), some (aI z93), some (aI z94)]) rfl rfl (by omega) (by omega) (fun _ => rfl) (fun z94 ez94 => ?_)
            refine b_goto (tgt := 43) rfl rfl ?_
            first
            | exact ih (i + 1) _ _ (by omega) hr (fun k hk2 => by
                by_cases e : k = i
                · rw [e]; exact ⟨by omega, by omega⟩
                · exact hk k (by omega)) (by omega) (by omega)
            | exact z0 _ _ (by omega) (fun w => by have := w.2.2.2 i (by omega); omega)
          · refine b_aload_n rfl rfl ?_
            refine b_getR (r := 1) rfl fl6_42 rfl (by decide) rfl rfl ?_
            refine b_iload_n rfl rfl ?_
            refine b_iconst rfl (by decide) ?_
            refine b_iaddN rfl (by omega) (by omega) ?_
            refine b_callV1i (ν := MX9_pairAt) rfl ml6_145 cvX9_pairAt (d' := 1) (by omega) rfl (by decide) rfl (Nat.le_of_ble_eq_true rfl) ?_
            refine sp_X9_pairAt (by omega) hB (by omega) ?_
            rw [pr_eq]
            refine ⟨_, rfl, ?_⟩
            refine b_sipush rfl (by decide) ?_
            refine b_icmp_gt (tgt := 92) rfl rfl (fun c85 => ?_) (fun c85 => ?_)
            · refine b_iconst rfl (by decide) ?_
              refine b_istoreX_n (F := fun z93 => [some (aR 44), some (aI z93), some (aI (4 * (i : Int)))]) rfl (by decide) (fun _ => rfl) (fun z93 ez93 => ?_)
              refine b_iincX (F := fun z94 => [some (aR 44), some (aI z93), some (aI z94)]) rfl rfl (by omega) (by omega) (fun _ => rfl) (fun z94 ez94 => ?_)
              refine b_goto (tgt := 43) rfl rfl ?_
              first
              | exact ih (i + 1) _ _ (by omega) hr (fun k hk2 => by
                  by_cases e : k = i
                  · rw [e]; exact ⟨by omega, by omega⟩
                  · exact hk k (by omega)) (by omega) (by omega)
              | exact z0 _ _ (by omega) (fun w => by have := w.2.2.2 i (by omega); omega)
            · refine b_iconst rfl (by decide) ?_
              refine b_goto (tgt := 93) rfl rfl ?_
              refine b_istoreX_n (F := fun z93 => [some (aR 44), some (aI z93), some (aI (4 * (i : Int)))]) rfl (by decide) (fun _ => rfl) (fun z93 ez93 => ?_)
              refine b_iincX (F := fun z94 => [some (aR 44), some (aI z93), some (aI z94)]) rfl rfl (by omega) (by omega) (fun _ => rfl) (fun z94 ez94 => ?_)
              refine b_goto (tgt := 43) rfl rfl ?_
              first
              | exact ih (i + 1) _ _ (by omega) hr (fun k hk2 => by
                  by_cases e : k = i
                  · rw [e]; exact ⟨by omega, by omega⟩
                  · exact hk k (by omega)) (by omega) (by omega)
              | exact z0 _ _ (by omega) (fun w => by have := w.2.2.2 i (by omega); omega)
  refine b_aload_n rfl rfl ?_
  refine b_getR (r := 1) rfl fl6_42 rfl (by decide) rfl rfl ?_
  refine b_getI rfl fl6_53 rfl (by decide) rfl ?_
  refine b_iconst rfl (by decide) ?_
  refine b_icmp_lt (tgt := 39) rfl rfl (fun c8 => ?_) (fun c8 => ?_)
  · refine b_iconst rfl (by decide) ?_
    refine b_istoreX_n (F := fun z40 => [some (aR 44), some (aI z40), none]) rfl (by decide) (fun _ => rfl) (fun z40 ez40 => ?_)
    refine b_iconst rfl (by decide) ?_
    refine b_istoreX_n (F := fun z42 => [some (aR 44), some (aI z40), some (aI z42)]) rfl (by decide) (fun _ => rfl) (fun z42 ez42 => ?_)
    first
    | exact lp (I 1 1 / 4).toNat 0 _ _ (by omega) (by omega) (fun k hk => absurd hk (by omega)) (by omega) (by omega)
    | exact z0 _ _ (by omega) (fun w => by have h1 := w.1; have h2 := w.2.1; have h3 := w.2.2.1; omega)
  · refine b_aload_n rfl rfl ?_
    refine b_getR (r := 1) rfl fl6_42 rfl (by decide) rfl rfl ?_
    refine b_getI rfl fl6_53 rfl (by decide) rfl ?_
    refine b_bipush rfl (by decide) ?_
    refine b_icmp_gt (tgt := 39) rfl rfl (fun c20 => ?_) (fun c20 => ?_)
    · refine b_iconst rfl (by decide) ?_
      refine b_istoreX_n (F := fun z40 => [some (aR 44), some (aI z40), none]) rfl (by decide) (fun _ => rfl) (fun z40 ez40 => ?_)
      refine b_iconst rfl (by decide) ?_
      refine b_istoreX_n (F := fun z42 => [some (aR 44), some (aI z40), some (aI z42)]) rfl (by decide) (fun _ => rfl) (fun z42 ez42 => ?_)
      first
      | exact lp (I 1 1 / 4).toNat 0 _ _ (by omega) (by omega) (fun k hk => absurd hk (by omega)) (by omega) (by omega)
      | exact z0 _ _ (by omega) (fun w => by have h1 := w.1; have h2 := w.2.1; have h3 := w.2.2.1; omega)
    · refine b_aload_n rfl rfl ?_
      refine b_getR (r := 1) rfl fl6_42 rfl (by decide) rfl rfl ?_
      refine b_getI rfl fl6_53 rfl (by decide) rfl ?_
      refine b_iconst rfl (by decide) ?_
      refine b_iremP rfl (by omega) (by omega) ?_
      refine b_if_ne (tgt := 39) rfl rfl (fun c32 => ?_) (fun c32 => ?_)
      · refine b_iconst rfl (by decide) ?_
        refine b_istoreX_n (F := fun z40 => [some (aR 44), some (aI z40), none]) rfl (by decide) (fun _ => rfl) (fun z40 ez40 => ?_)
        refine b_iconst rfl (by decide) ?_
        refine b_istoreX_n (F := fun z42 => [some (aR 44), some (aI z40), some (aI z42)]) rfl (by decide) (fun _ => rfl) (fun z42 ez42 => ?_)
        first
        | exact lp (I 1 1 / 4).toNat 0 _ _ (by omega) (by omega) (fun k hk => absurd hk (by omega)) (by omega) (by omega)
        | exact z0 _ _ (by omega) (fun w => by have h1 := w.1; have h2 := w.2.1; have h3 := w.2.2.1; omega)
      · refine b_iconst rfl (by decide) ?_
        refine b_goto (tgt := 40) rfl rfl ?_
        refine b_istoreX_n (F := fun z40 => [some (aR 44), some (aI z40), none]) rfl (by decide) (fun _ => rfl) (fun z40 ez40 => ?_)
        refine b_iconst rfl (by decide) ?_
        refine b_istoreX_n (F := fun z42 => [some (aR 44), some (aI z40), some (aI z42)]) rfl (by decide) (fun _ => rfl) (fun z42 ez42 => ?_)
        first
        | exact lp (I 1 1 / 4).toNat 0 _ _ (by omega) (by omega) (fun k hk => absurd hk (by omega)) (by omega) (by omega)
        | exact z0 _ _ (by omega) (fun w => by have h1 := w.1; have h2 := w.2.1; have h3 := w.2.2.1; omega)
