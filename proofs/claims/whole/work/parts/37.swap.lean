/-! ===== Swapper ===== -/
def cz (f : Nat → Int) (s h g w : Nat) : Prop := 0 < f (24 * s + 6 * h + g) ∧ f (24 * s + 6 * h + w) < 20
def csP (f : Nat → Int) (s : Nat) (e : Int) (g w : Nat) : Prop := (0 < e → cz f s 0 g w ∨ cz f s 2 g w) ∧ (e ≤ 0 → cz f s 1 g w ∨ cz f s 3 g w)
def ab1 (x t : Int) : Prop := -t ≤ x ∧ x ≤ t
def olP (f : Nat → Int) (b : Nat) (tb tB ch : Int) (g w : Nat) : Prop := ∃ e : Int, (e = -1 ∨ e = 1) ∧ ab1 (tB - e * ch) tb ∧ csP f b e w g
def o1e (f nt : Nat → Int) (a b : Nat) (ta tb tA tB : Int) (g w : Nat) (e : Int) : Prop := ab1 (tA + e * (nt w - nt g)) ta ∧ csP f a e g w ∧ olP f b tb tB (nt w - nt g) g w
def osQ (f nt : Nat → Int) (nw a b : Nat) (ta tb tA tB : Int) : Prop := ∃ g w, g < nw ∧ w < nw ∧ g ≠ w ∧ ∃ e : Int, (e = -1 ∨ e = 1) ∧ o1e f nt a b ta tb tA tB g w e
/-- what a Swapper is set to -/
def SWp (I : HI) (nw a b : Nat) (ta tb : Int) : Prop := I 4 0 = (nw : Int) ∧ nw ≤ 6 ∧ I 52 5 = (a : Int) ∧ I 52 6 = (b : Int) ∧ a < 6 ∧ b < 6 ∧ I 52 7 = ta ∧ I 52 8 = tb ∧ (0 ≤ ta ∧ ta ≤ 999 ∧ 0 ≤ tb ∧ tb ≤ 999) ∧ (0 ≤ I 52 4 ∧ I 52 4 ≤ 198) ∧ (∀ w, -99 ≤ I 54 w ∧ I 54 w ≤ 99) ∧ (∀ g w, g < nw → w < nw → I 54 w - I 54 g ≤ I 52 4)
theorem spf_canSwap {I : HI} {Q : Option AV → HI → Prop} {s g w : Nat} {e : Int} (hs : s < 6) (hg : g < 6) (hw : w < 6) (k1 : csP (I 53) s e g w → Q (some (aI 1)) I) (k0 : ¬ csP (I 53) s e g w → Q (some (aI 0)) I) : Rj MX8_canSwap 1 [aR 52, aI (s : Int), aI e, aI (g : Int), aI (w : Int)] I Q := by
  have out : ∀ z : Int, 4 ≤ z → ¬ csP (I 53) s e g w → Bj MX8_canSwap 1 11 [some (aR 52), some (aI (s : Int)), some (aI e), some (aI (g : Int)), some (aI (w : Int)), some (aI z)] [] I Q := by
    intro z hz hn
    refine b_iload rfl rfl ?_
    refine b_iconst rfl (by decide) ?_
    refine b_icmp_ge (tgt := 58) rfl rfl (fun c14 => ?_) (fun c14 => ?_)
    · refine b_iconst rfl (by decide) ?_
      refine b_zret rfl rfl (by first | decide | omega) ?_
      exact k0 hn
    · omega
  have step : ∀ h : Nat, h < 4 → (cz (I 53) s h g w → csP (I 53) s e g w) → (¬ cz (I 53) s h g w → ∀ z : Int, z = (h : Int) + 2 → Bj MX8_canSwap 1 11 [some (aR 52), some (aI (s : Int)), some (aI e), some (aI (g : Int)), some (aI (w : Int)), some (aI z)] [] I Q) → Bj MX8_canSwap 1 11 [some (aR 52), some (aI (s : Int)), some (aI e), some (aI (g : Int)), some (aI (w : Int)), some (aI (h : Int))] [] I Q := by
    intro h hh hy hn
    unfold cz at hy hn
    have e1 : ((s : Int) * 24 + (h : Int) * 6 + (g : Int)).toNat = 24 * s + 6 * h + g := by omega
    have e2 : ((s : Int) * 24 + (h : Int) * 6 + (w : Int)).toNat = 24 * s + 6 * h + w := by omega
    refine b_iload rfl rfl ?_
    refine b_iconst rfl (by decide) ?_
    refine b_icmp_ge (tgt := 58) rfl rfl (fun c14 => ?_) (fun c14 => ?_)
    · omega
    · refine b_aload_n rfl rfl ?_
      refine b_getR (r := 53) rfl fl8_9 rfl (by decide) rfl rfl ?_
      refine b_iload_n rfl rfl ?_
      refine b_iload rfl rfl ?_
      refine b_iload_n rfl rfl ?_
      refine b_callSN3i (ν := MX11_cell) rfl ml8_99 csX11_cell (d' := 0) (by omega) (Nat.le_of_ble_eq_true rfl) ?_
      refine sp_X11_cell (by omega) ?_
      refine ⟨_, rfl, ?_⟩
      refine b_iald rfl rfl (by omega) (by omega) ?_
      rw [e1]
      refine b_if_le (tgt := 52) rfl rfl (fun c29 => ?_) (fun c29 => ?_)
      · refine b_iincX (F := fun z52 => [some (aR 52), some (aI (s : Int)), some (aI e), some (aI (g : Int)), some (aI (w : Int)), some (aI z52)]) rfl rfl (by omega) (by omega) (fun _ => rfl) (fun z52 ez52 => ?_)
        refine b_goto (tgt := 11) rfl rfl ?_
        exact hn (by omega) _ (by omega)
      · refine b_aload_n rfl rfl ?_
        refine b_getR (r := 53) rfl fl8_9 rfl (by decide) rfl rfl ?_
        refine b_iload_n rfl rfl ?_
        refine b_iload rfl rfl ?_
        refine b_iload rfl rfl ?_
        refine b_callSN3i (ν := MX11_cell) rfl ml8_99 csX11_cell (d' := 0) (by omega) (Nat.le_of_ble_eq_true rfl) ?_
        refine sp_X11_cell (by omega) ?_
        refine ⟨_, rfl, ?_⟩
        refine b_iald rfl rfl (by omega) (by omega) ?_
        rw [e2]
        refine b_bipush rfl (by decide) ?_
        refine b_icmp_ge (tgt := 52) rfl rfl (fun c47 => ?_) (fun c47 => ?_)
        · refine b_iincX (F := fun z52 => [some (aR 52), some (aI (s : Int)), some (aI e), some (aI (g : Int)), some (aI (w : Int)), some (aI z52)]) rfl rfl (by omega) (by omega) (fun _ => rfl) (fun z52 ez52 => ?_)
          refine b_goto (tgt := 11) rfl rfl ?_
          exact hn (by omega) _ (by omega)
        · refine b_iconst rfl (by decide) ?_
          refine b_zret rfl rfl (by first | decide | omega) ?_
          exact k1 (hy ⟨by omega, by omega⟩)
  refine rj_of okX8_canSwap (Nat.le_of_ble_eq_true rfl) rfl ?_
  refine b_iload_n rfl rfl ?_
  refine b_if_le (tgt := 8) rfl rfl (fun c1 => ?_) (fun c1 => ?_)
  · refine b_iconst rfl (by decide) ?_
    refine b_istoreX (F := fun z9 => [some (aR 52), some (aI (s : Int)), some (aI e), some (aI (g : Int)), some (aI (w : Int)), some (aI z9)]) rfl (by decide) (fun _ => rfl) (fun z9 ez9 => ?_)
    by_cases he : 0 < e
    · have ez : z9 = ((0 : Nat) : Int) := by omega
      subst ez
      refine step 0 (by omega) (fun c => ⟨fun _ => Or.inl c, fun w => absurd w (by omega)⟩) (fun n0 z hz => ?_)
      have ez : z = ((2 : Nat) : Int) := by omega
      subst ez
      refine step 2 (by omega) (fun c => ⟨fun _ => Or.inr c, fun w => absurd w (by omega)⟩) (fun n2 z hz => ?_)
      exact out z (by omega) (fun c => (c.1 he).elim n0 n2)
    · have ez : z9 = ((1 : Nat) : Int) := by omega
      subst ez
      refine step 1 (by omega) (fun c => ⟨fun w => absurd w (by omega), fun _ => Or.inl c⟩) (fun n0 z hz => ?_)
      have ez : z = ((3 : Nat) : Int) := by omega
      subst ez
      refine step 3 (by omega) (fun c => ⟨fun w => absurd w (by omega), fun _ => Or.inr c⟩) (fun n2 z hz => ?_)
      exact out z (by omega) (fun c => (c.2 (by omega)).elim n0 n2)
  · refine b_iconst rfl (by decide) ?_
    refine b_goto (tgt := 9) rfl rfl ?_
    refine b_istoreX (F := fun z9 => [some (aR 52), some (aI (s : Int)), some (aI e), some (aI (g : Int)), some (aI (w : Int)), some (aI z9)]) rfl (by decide) (fun _ => rfl) (fun z9 ez9 => ?_)
    by_cases he : 0 < e
    · have ez : z9 = ((0 : Nat) : Int) := by omega
      subst ez
      refine step 0 (by omega) (fun c => ⟨fun _ => Or.inl c, fun w => absurd w (by omega)⟩) (fun n0 z hz => ?_)
      have ez : z = ((2 : Nat) : Int) := by omega
      subst ez
      refine step 2 (by omega) (fun c => ⟨fun _ => Or.inr c, fun w => absurd w (by omega)⟩) (fun n2 z hz => ?_)
      exact out z (by omega) (fun c => (c.1 he).elim n0 n2)
    · have ez : z9 = ((1 : Nat) : Int) := by omega
      subst ez
      refine step 1 (by omega) (fun c => ⟨fun w => absurd w (by omega), fun _ => Or.inl c⟩) (fun n0 z hz => ?_)
      have ez : z = ((3 : Nat) : Int) := by omega
      subst ez
      refine step 3 (by omega) (fun c => ⟨fun w => absurd w (by omega), fun _ => Or.inr c⟩) (fun n2 z hz => ?_)
      exact out z (by omega) (fun c => (c.2 (by omega)).elim n0 n2)
theorem spf_otherLevels {I : HI} {Q : Option AV → HI → Prop} {nw a b g w : Nat} {ta tb tB ch : Int} (hS : SWp I nw a b ta tb) (hg : g < 6) (hw : w < 6) (ht : -2000000 ≤ tB ∧ tB ≤ 2000000) (hc : -198 ≤ ch ∧ ch ≤ 198) (k1 : olP (I 53) b tb tB ch g w → Q (some (aI 1)) I) (k0 : ¬ olP (I 53) b tb tB ch g w → Q (some (aI 0)) I) : Rj MX8_otherLevels 2 [aR 52, aI tB, aI ch, aI (g : Int), aI (w : Int)] I Q := by
  obtain ⟨s1, s2, s3, s4, s5, s6, s7, s8, s9, s10, s11, s12⟩ := hS
  have out : ∀ z : Int, 1 < z → ¬ olP (I 53) b tb tB ch g w → Bj MX8_otherLevels 2 3 [some (aR 52), some (aI tB), some (aI ch), some (aI (g : Int)), some (aI (w : Int)), some (aI z)] [] I Q := by
    intro z hz hn
    refine b_iload rfl rfl ?_
    refine b_iconst rfl (by decide) ?_
    refine b_icmp_gt (tgt := 49) rfl rfl (fun c6 => ?_) (fun c6 => ?_)
    · refine b_iconst rfl (by decide) ?_
      refine b_zret rfl rfl (by first | decide | omega) ?_
      exact k0 hn
    · omega
  have step : ∀ e : Int, (e = -1 ∨ e = 1) → (¬ (ab1 (tB - e * ch) tb ∧ csP (I 53) b e w g) → ∀ z : Int, z = e + 2 → Bj MX8_otherLevels 2 3 [some (aR 52), some (aI tB), some (aI ch), some (aI (g : Int)), some (aI (w : Int)), some (aI z)] [] I Q) → Bj MX8_otherLevels 2 3 [some (aR 52), some (aI tB), some (aI ch), some (aI (g : Int)), some (aI (w : Int)), some (aI e)] [] I Q := by
    intro e he hn
    have hm := mulB (a := e) (b := ch) (A := 1) (B := 198) (by omega) (by omega)
    generalize hec : e * ch = ec at *
    refine b_iload rfl rfl ?_
    refine b_iconst rfl (by decide) ?_
    refine b_icmp_gt (tgt := 49) rfl rfl (fun c6 => ?_) (fun c6 => ?_)
    · omega
    · refine b_iload_n rfl rfl ?_
      refine b_iload rfl rfl ?_
      refine b_iload_n rfl rfl ?_
      refine b_imulN rfl (by omega) (by omega) ?_
      rw [hec]
      refine b_isubN rfl (by omega) (by omega) ?_
      refine b_mabs (z := if 0 ≤ tB - ec then tB - ec else -(tB - ec)) rfl ml8_60 (by omega) (Nat.le_of_ble_eq_true rfl) (by omega) ?_
      refine b_aload_n rfl rfl ?_
      refine b_getI rfl fl8_48 rfl (by decide) rfl ?_
      rw [s8]
      refine b_icmp_gt (tgt := 43) rfl rfl (fun c22 => ?_) (fun c22 => ?_)
      · refine b_iincX (F := fun z43 => [some (aR 52), some (aI tB), some (aI ch), some (aI (g : Int)), some (aI (w : Int)), some (aI z43)]) rfl rfl (by omega) (by omega) (fun _ => rfl) (fun z43 ez43 => ?_)
        refine b_goto (tgt := 3) rfl rfl ?_
        first
        | exact hn (fun w => hcn w.2) _ (by omega)
        | exact hn (fun w => by have := w.1; unfold ab1 at this; split at c22 <;> omega) _ (by omega)
      · refine b_aload_n rfl rfl ?_
        refine b_aload_n rfl rfl ?_
        refine b_getI rfl fl8_36 rfl (by decide) rfl ?_
        rw [s4]
        refine b_iload rfl rfl ?_
        refine b_iload rfl rfl ?_
        refine b_iload_n rfl rfl ?_
        refine b_callV4i (ν := MX8_canSwap) rfl ml8_92 cvX8_canSwap (d' := 1) (by omega) rfl (by decide) rfl (Nat.le_of_ble_eq_true rfl) ?_
        refine spf_canSwap (by omega) hw hg (fun hcs => ?_) (fun hcn => ?_)
        · refine ⟨_, rfl, ?_⟩
          refine b_if_eq (tgt := 43) rfl rfl (fun z => absurd z (by decide)) (fun _ => ?_)
          refine b_iconst rfl (by decide) ?_
          refine b_zret rfl rfl (by first | decide | omega) ?_
          exact k1 ⟨e, he, by rw [hec]; unfold ab1; split at c22 <;> omega, hcs⟩
        · refine ⟨_, rfl, ?_⟩
          refine b_if_eq (tgt := 43) rfl rfl (fun _ => ?_) (fun z => absurd z (by decide))
          refine b_iincX (F := fun z43 => [some (aR 52), some (aI tB), some (aI ch), some (aI (g : Int)), some (aI (w : Int)), some (aI z43)]) rfl rfl (by omega) (by omega) (fun _ => rfl) (fun z43 ez43 => ?_)
          refine b_goto (tgt := 3) rfl rfl ?_
          first
          | exact hn (fun w => hcn w.2) _ (by omega)
          | exact hn (fun w => by have := w.1; unfold ab1 at this; split at c22 <;> omega) _ (by omega)
  refine rj_of okX8_otherLevels (Nat.le_of_ble_eq_true rfl) rfl ?_
  refine b_iconst rfl (by decide) ?_
  refine b_istoreX (F := fun z1 => [some (aR 52), some (aI tB), some (aI ch), some (aI (g : Int)), some (aI (w : Int)), some (aI z1)]) rfl (by decide) (fun _ => rfl) (fun z1 ez1 => ?_)
  subst ez1
  refine step (-1) (Or.inl rfl) (fun n1 z hz => ?_)
  have ez : z = 1 := by omega
  subst ez
  refine step 1 (Or.inr rfl) (fun n2 z hz => ?_)
  refine out z (by omega) (fun w => ?_)
  obtain ⟨e, he, h1⟩ := w
  rcases he with he | he
  · subst he; exact n1 h1
  · subst he; exact n2 h1
theorem spf_isNear {I : HI} {Q : Option AV → HI → Prop} {nw a b : Nat} {ta tb tA tB n : Int} (hS : SWp I nw a b ta tb) (hA : -2000000 ≤ tA ∧ tA ≤ 2000000) (hB : -2000000 ≤ tB ∧ tB ≤ 2000000) (hn : n = 1 ∨ n = 2) (k1 : ab1 tA (ta + n * I 52 4) ∧ ab1 tB (tb + n * I 52 4) → Q (some (aI 1)) I) (k0 : ¬ (ab1 tA (ta + n * I 52 4) ∧ ab1 tB (tb + n * I 52 4)) → Q (some (aI 0)) I) : Rj MX8_isNear 1 [aR 52, aI tA, aI tB, aI n] I Q := by
  obtain ⟨s1, s2, s3, s4, s5, s6, s7, s8, s9, s10, s11, s12⟩ := hS
  have hm := mulB (a := n) (b := I 52 4) (A := 2) (B := 198) (by omega) (by omega)
  unfold ab1 at k1 k0
  generalize hns : n * I 52 4 = ns at *
  refine rj_of okX8_isNear (Nat.le_of_ble_eq_true rfl) rfl ?_
  refine b_iload_n rfl rfl ?_
  refine b_aload_n rfl rfl ?_
  refine b_getI rfl fl8_89 rfl (by decide) rfl ?_
  refine b_imulN rfl (by omega) (by omega) ?_
  rw [hns]
  refine b_istoreX (F := fun z6 => [some (aR 52), some (aI tA), some (aI tB), some (aI n), some (aI z6)]) rfl (by decide) (fun _ => rfl) (fun z6 ez6 => ?_)
  refine b_iload_n rfl rfl ?_
  refine b_mabs (z := if 0 ≤ tA then tA else -tA) rfl ml8_60 (by omega) (Nat.le_of_ble_eq_true rfl) (by omega) ?_
  refine b_aload_n rfl rfl ?_
  refine b_getI rfl fl8_45 rfl (by decide) rfl ?_
  refine b_iload rfl rfl ?_
  refine b_iaddN rfl (by omega) (by omega) ?_
  refine b_icmp_gt (tgt := 40) rfl rfl (fun c19 => ?_) (fun c19 => ?_)
  · refine b_iconst rfl (by decide) ?_
    refine b_zret rfl rfl (by first | decide | omega) ?_
    first
    | exact k1 ⟨by split at c19 <;> omega, by split at c33 <;> omega⟩
    | exact k0 (fun w => by have := w.2; split at c33 <;> omega)
    | exact k0 (fun w => by have := w.1; split at c19 <;> omega)
  · refine b_iload_n rfl rfl ?_
    refine b_mabs (z := if 0 ≤ tB then tB else -tB) rfl ml8_60 (by omega) (Nat.le_of_ble_eq_true rfl) (by omega) ?_
    refine b_aload_n rfl rfl ?_
    refine b_getI rfl fl8_48 rfl (by decide) rfl ?_
    refine b_iload rfl rfl ?_
    refine b_iaddN rfl (by omega) (by omega) ?_
    refine b_icmp_gt (tgt := 40) rfl rfl (fun c33 => ?_) (fun c33 => ?_)
    · refine b_iconst rfl (by decide) ?_
      refine b_zret rfl rfl (by first | decide | omega) ?_
      first
      | exact k1 ⟨by split at c19 <;> omega, by split at c33 <;> omega⟩
      | exact k0 (fun w => by have := w.2; split at c33 <;> omega)
      | exact k0 (fun w => by have := w.1; split at c19 <;> omega)
    · refine b_iconst rfl (by decide) ?_
      refine b_goto (tgt := 41) rfl rfl ?_
      refine b_zret rfl rfl (by first | decide | omega) ?_
      first
      | exact k1 ⟨by split at c19 <;> omega, by split at c33 <;> omega⟩
      | exact k0 (fun w => by have := w.2; split at c33 <;> omega)
      | exact k0 (fun w => by have := w.1; split at c19 <;> omega)
theorem spf_oneSwap {I : HI} {Q : Option AV → HI → Prop} {nw a b : Nat} {ta tb tA tB : Int} (hS : SWp I nw a b ta tb) (hA : -2000000 ≤ tA ∧ tA ≤ 2000000) (hB : -2000000 ≤ tB ∧ tB ≤ 2000000) (k1 : osQ (I 53) (I 54) nw a b ta tb tA tB → Q (some (aI 1)) I) (k0 : ¬ osQ (I 53) (I 54) nw a b ta tb tA tB → Q (some (aI 0)) I) : Rj MX8_oneSwapLevels 3 [aR 52, aI tA, aI tB] I Q := by
  have hS' := hS
  obtain ⟨s1, s2, s3, s4, s5, s6, s7, s8, s9, s10, s11, s12⟩ := hS'
  have out : ∀ (y z : Int) (x5 x6 x7 x8 : Option AV), (y = 0 ∧ z = 0) ∨ (y = (nw : Int) ∧ z = ((nw * nw : Nat) : Int)) → ¬ osQ (I 53) (I 54) nw a b ta tb tA tB → Bj MX8_oneSwapLevels 3 27 [some (aR 52), some (aI tA), some (aI tB), some (aI y), some (aI z), x5, x6, x7, x8] [] I Q := by
    intro y z x5 x6 x7 x8 hy hn
    have hyy : y * y ≤ z ∧ 0 ≤ y * y ∧ y * y ≤ 36 := by
      rcases hy with ⟨e1, e2⟩ | ⟨e1, e2⟩
      · subst e1; subst e2; decide
      · subst e1; subst e2
        have h1 : ((nw : Int)) * (nw : Int) = ((nw * nw : Nat) : Int) := by push_cast; rfl
        have h2 : nw * nw ≤ 6 * 6 := Nat.mul_le_mul s2 s2
        rw [h1]
        omega
    generalize hq : y * y = yy at *
    refine b_iload rfl rfl ?_
    refine b_iload_n rfl rfl ?_
    refine b_iload_n rfl rfl ?_
    refine b_imulN rfl (by omega) (by omega) ?_
    rw [hq]
    refine b_icmp_ge (tgt := 142) rfl rfl (fun c32 => ?_) (fun c32 => ?_)
    · refine b_iconst rfl (by decide) ?_
      refine b_zret rfl rfl (by first | decide | omega) ?_
      exact k0 hn
    · omega
  have step : ∀ (k g w : Nat) (e : Int), k < 36 → g < nw → w < nw → g ≠ w → (e = -1 ∨ e = 1) → (¬ o1e (I 53) (I 54) a b ta tb tA tB g w e → ∀ z : Int, z = e + 2 → Bj MX8_oneSwapLevels 3 67 [some (aR 52), some (aI tA), some (aI tB), some (aI (nw : Int)), some (aI (k : Int)), some (aI (g : Int)), some (aI (w : Int)), some (aI (I 54 w - I 54 g)), some (aI z)] [] I Q) → Bj MX8_oneSwapLevels 3 67 [some (aR 52), some (aI tA), some (aI tB), some (aI (nw : Int)), some (aI (k : Int)), some (aI (g : Int)), some (aI (w : Int)), some (aI (I 54 w - I 54 g)), some (aI e)] [] I Q := by
    intro k g w e hk hg hw hgw he hn
    have b1 := s11 w
    have b2 := s11 g
    have hm := mulB (a := e) (b := I 54 w - I 54 g) (A := 1) (B := 198) (by omega) (by omega)
    unfold o1e at hn
    have k1' : ab1 (tA + e * (I 54 w - I 54 g)) ta ∧ csP (I 53) a e g w ∧ olP (I 53) b tb tB (I 54 w - I 54 g) g w → Q (some (aI 1)) I := fun w2 => k1 ⟨g, w, hg, hw, hgw, e, he, w2⟩
    generalize hch : I 54 w - I 54 g = ch at *
    generalize hec : e * ch = ec at *
    refine b_iload rfl rfl ?_
    refine b_iload rfl rfl ?_
    refine b_icmp_eq (tgt := 136) rfl rfl (fun c71 => ?_) (fun c71 => ?_)
    · omega
    · refine b_iload rfl rfl ?_
      refine b_iconst rfl (by decide) ?_
      refine b_icmp_gt (tgt := 136) rfl rfl (fun c77 => ?_) (fun c77 => ?_)
      · omega
      · refine b_iload_n rfl rfl ?_
        refine b_iload rfl rfl ?_
        refine b_iload rfl rfl ?_
        refine b_imulN rfl (by omega) (by omega) ?_
        rw [hec]
        refine b_iaddN rfl (by omega) (by omega) ?_
        refine b_mabs (z := if 0 ≤ tA + ec then tA + ec else -(tA + ec)) rfl ml8_60 (by omega) (Nat.le_of_ble_eq_true rfl) (by omega) ?_
        refine b_aload_n rfl rfl ?_
        refine b_getI rfl fl8_45 rfl (by decide) rfl ?_
        rw [s7]
        refine b_icmp_gt (tgt := 130) rfl rfl (fun c94 => ?_) (fun c94 => ?_)
        · refine b_iincX (F := fun z130 => [some (aR 52), some (aI tA), some (aI tB), some (aI (nw : Int)), some (aI (k : Int)), some (aI (g : Int)), some (aI (w : Int)), some (aI ch), some (aI z130)]) rfl rfl (by omega) (by omega) (fun _ => rfl) (fun z130 ez130 => ?_)
          refine b_goto (tgt := 67) rfl rfl ?_
          first
          | exact hn (fun w => hon w.2.2) _ (by omega)
          | exact hn (fun w => hcn w.2.1) _ (by omega)
          | exact hn (fun w => by have := w.1; unfold ab1 at this; split at c94 <;> omega) _ (by omega)
        · refine b_aload_n rfl rfl ?_
          refine b_aload_n rfl rfl ?_
          refine b_getI rfl fl8_32 rfl (by decide) rfl ?_
          rw [s3]
          refine b_iload rfl rfl ?_
          refine b_iload rfl rfl ?_
          refine b_iload rfl rfl ?_
          refine b_callV4i (ν := MX8_canSwap) rfl ml8_92 cvX8_canSwap (d' := 1) (by omega) rfl (by decide) rfl (Nat.le_of_ble_eq_true rfl) ?_
          refine spf_canSwap (by omega) (by omega) (by omega) (fun hcs => ?_) (fun hcn => ?_)
          · refine ⟨_, rfl, ?_⟩
            refine b_if_eq (tgt := 130) rfl rfl (fun z => absurd z (by decide)) (fun _ => ?_)
            refine b_aload_n rfl rfl ?_
            refine b_iload_n rfl rfl ?_
            refine b_iload rfl rfl ?_
            refine b_iload rfl rfl ?_
            refine b_iload rfl rfl ?_
            refine b_callV4i (ν := MX8_otherLevels) rfl ml8_96 cvX8_otherLevels (d' := 2) (by omega) rfl (by decide) rfl (Nat.le_of_ble_eq_true rfl) ?_
            refine spf_otherLevels hS (by omega) (by omega) hB (by omega) (fun hol => ?_) (fun hon => ?_)
            · refine ⟨_, rfl, ?_⟩
              refine b_if_eq (tgt := 130) rfl rfl (fun z => absurd z (by decide)) (fun _ => ?_)
              refine b_iconst rfl (by decide) ?_
              refine b_zret rfl rfl (by first | decide | omega) ?_
              exact k1' ⟨by unfold ab1; split at c94 <;> omega, hcs, hol⟩
            · refine ⟨_, rfl, ?_⟩
              refine b_if_eq (tgt := 130) rfl rfl (fun _ => ?_) (fun z => absurd z (by decide))
              refine b_iincX (F := fun z130 => [some (aR 52), some (aI tA), some (aI tB), some (aI (nw : Int)), some (aI (k : Int)), some (aI (g : Int)), some (aI (w : Int)), some (aI ch), some (aI z130)]) rfl rfl (by omega) (by omega) (fun _ => rfl) (fun z130 ez130 => ?_)
              refine b_goto (tgt := 67) rfl rfl ?_
              first
              | exact hn (fun w => hon w.2.2) _ (by omega)
              | exact hn (fun w => hcn w.2.1) _ (by omega)
              | exact hn (fun w => by have := w.1; unfold ab1 at this; split at c94 <;> omega) _ (by omega)
          · refine ⟨_, rfl, ?_⟩
            refine b_if_eq (tgt := 130) rfl rfl (fun _ => ?_) (fun z => absurd z (by decide))
            refine b_iincX (F := fun z130 => [some (aR 52), some (aI tA), some (aI tB), some (aI (nw : Int)), some (aI (k : Int)), some (aI (g : Int)), some (aI (w : Int)), some (aI ch), some (aI z130)]) rfl rfl (by omega) (by omega) (fun _ => rfl) (fun z130 ez130 => ?_)
            refine b_goto (tgt := 67) rfl rfl ?_
            first
            | exact hn (fun w => hon w.2.2) _ (by omega)
            | exact hn (fun w => hcn w.2.1) _ (by omega)
            | exact hn (fun w => by have := w.1; unfold ab1 at this; split at c94 <;> omega) _ (by omega)
  have lp : ∀ (n k : Nat) (z : Int) (x5 x6 x7 x8 : Option AV), z = (k : Int) → k + n = nw * nw → (∀ g w, g < nw → w < nw → g * nw + w < k → g ≠ w → ¬ ∃ e : Int, (e = -1 ∨ e = 1) ∧ o1e (I 53) (I 54) a b ta tb tA tB g w e) → Bj MX8_oneSwapLevels 3 27 [some (aR 52), some (aI tA), some (aI tB), some (aI (nw : Int)), some (aI z), x5, x6, x7, x8] [] I Q := by
    have hsq : nw * nw ≤ 36 := Nat.mul_le_mul s2 s2
    have hsi : (nw : Int) * (nw : Int) = ((nw * nw : Nat) : Int) := by push_cast; rfl
    intro n
    induction n with
    | zero =>
      intro k z x5 x6 x7 x8 hz hk hno
      refine out (nw : Int) z _ _ _ _ (Or.inr ⟨rfl, by omega⟩) (fun w => ?_)
      obtain ⟨g, w, h1, h2, h3, h4⟩ := w
      refine hno g w h1 h2 ?_ h3 h4
      have : g * nw + w < nw * nw := by
        have h5 : (g + 1) * nw ≤ nw * nw := Nat.mul_le_mul_right nw h1
        rw [Nat.add_mul, Nat.one_mul] at h5
        omega
      omega
    | succ n ih =>
      intro k z x5 x6 x7 x8 hz hk hno
      subst hz
      have hnw : 0 < nw := by
        rcases Nat.eq_zero_or_pos nw with h | h
        · subst h; simp at hk
        · exact h
      have hg : k / nw < nw := Nat.div_lt_of_lt_mul (by omega)
      have hw : k % nw < nw := Nat.mod_lt _ hnw
      have hdm : k / nw * nw + k % nw = k := by rw [Nat.mul_comm]; exact Nat.div_add_mod k nw
      have id1 : (k : Int) / (nw : Int) = ((k / nw : Nat) : Int) := by push_cast; rfl
      have id2 : (k : Int) % (nw : Int) = ((k % nw : Nat) : Int) := by push_cast; rfl
      have b1 := s11 (k % nw)
      have b2 := s11 (k / nw)
      have nxt_ : (k / nw ≠ k % nw → ¬ ∃ e : Int, (e = -1 ∨ e = 1) ∧ o1e (I 53) (I 54) a b ta tb tA tB (k / nw) (k % nw) e) → ∀ (z : Int) (x5 x6 x7 x8 : Option AV), z = (k : Int) + 1 → Bj MX8_oneSwapLevels 3 27 [some (aR 52), some (aI tA), some (aI tB), some (aI (nw : Int)), some (aI z), x5, x6, x7, x8] [] I Q := by
        intro hq z x5 x6 x7 x8 hz
        refine ih (k + 1) z _ _ _ _ (by omega) (by omega) (fun g w h1 h2 h3 h4 => ?_)
        by_cases e : g * nw + w = k
        · have e1 : g = k / nw := by
            rw [← e, Nat.add_comm, Nat.add_mul_div_right _ _ hnw, Nat.div_eq_of_lt h2, Nat.zero_add]
          have e2 : w = k % nw := by
            rw [← e, Nat.add_comm, Nat.add_mul_mod_self_right, Nat.mod_eq_of_lt h2]
          rw [e1, e2] at h4 ⊢
          exact hq h4
        · exact hno g w h1 h2 (by omega) h4
      generalize hgk : k / nw = g at *
      generalize hwk : k % nw = w at *
      have endE : ∀ z : Int, g = w ∨ 1 < z → (g ≠ w → ¬ ∃ e : Int, (e = -1 ∨ e = 1) ∧ o1e (I 53) (I 54) a b ta tb tA tB g w e) → Bj MX8_oneSwapLevels 3 67 [some (aR 52), some (aI tA), some (aI tB), some (aI (nw : Int)), some (aI (k : Int)), some (aI (g : Int)), some (aI (w : Int)), some (aI (I 54 w - I 54 g)), some (aI z)] [] I Q := by
        intro z hz hq
        refine b_iload rfl rfl ?_
        refine b_iload rfl rfl ?_
        refine b_icmp_eq (tgt := 136) rfl rfl (fun c71 => ?_) (fun c71 => ?_)
        · refine b_iincX (F := fun z136 => [some (aR 52), some (aI tA), some (aI tB), some (aI (nw : Int)), some (aI z136), some (aI (g : Int)), some (aI (w : Int)), some (aI (I 54 w - I 54 g)), some (aI z)]) rfl rfl (by omega) (by omega) (fun _ => rfl) (fun z136 ez136 => ?_)
          refine b_goto (tgt := 27) rfl rfl ?_
          exact nxt_ hq _ _ _ _ _ (by omega)
        · refine b_iload rfl rfl ?_
          refine b_iconst rfl (by decide) ?_
          refine b_icmp_gt (tgt := 136) rfl rfl (fun c77 => ?_) (fun c77 => ?_)
          · refine b_iincX (F := fun z136 => [some (aR 52), some (aI tA), some (aI tB), some (aI (nw : Int)), some (aI z136), some (aI (g : Int)), some (aI (w : Int)), some (aI (I 54 w - I 54 g)), some (aI z)]) rfl rfl (by omega) (by omega) (fun _ => rfl) (fun z136 ez136 => ?_)
            refine b_goto (tgt := 27) rfl rfl ?_
            exact nxt_ hq _ _ _ _ _ (by omega)
          · omega
      refine b_iload rfl rfl ?_
      refine b_iload_n rfl rfl ?_
      refine b_iload_n rfl rfl ?_
      refine b_imulN rfl (by omega) (by omega) ?_
      rw [hsi]
      refine b_icmp_ge (tgt := 142) rfl rfl (fun c32 => ?_) (fun c32 => ?_)
      · omega
      · refine b_iload rfl rfl ?_
        refine b_iload_n rfl rfl ?_
        refine b_idivP rfl (by omega) (by omega) ?_
        rw [id1]
        refine b_istoreX (F := fun z39 => [some (aR 52), some (aI tA), some (aI tB), some (aI (nw : Int)), some (aI (k : Int)), some (aI z39), x6, x7, x8]) rfl (by decide) (fun _ => rfl) (fun z39 ez39 => ?_)
        refine b_iload rfl rfl ?_
        refine b_iload_n rfl rfl ?_
        refine b_iremP rfl (by omega) (by omega) ?_
        rw [id2]
        refine b_istoreX (F := fun z45 => [some (aR 52), some (aI tA), some (aI tB), some (aI (nw : Int)), some (aI (k : Int)), some (aI z39), some (aI z45), x7, x8]) rfl (by decide) (fun _ => rfl) (fun z45 ez45 => ?_)
        refine b_aload_n rfl rfl ?_
        refine b_getR (r := 54) rfl fl8_15 rfl (by decide) rfl rfl ?_
        refine b_iload rfl rfl ?_
        refine b_iald rfl rfl (by omega) (by omega) ?_
        rw [show z45.toNat = w by omega]
        refine b_aload_n rfl rfl ?_
        refine b_getR (r := 54) rfl fl8_15 rfl (by decide) rfl rfl ?_
        refine b_iload rfl rfl ?_
        refine b_iald rfl rfl (by omega) (by omega) ?_
        rw [show z39.toNat = g by omega]
        refine b_isubN rfl (by omega) (by omega) ?_
        refine b_istoreX (F := fun z62 => [some (aR 52), some (aI tA), some (aI tB), some (aI (nw : Int)), some (aI (k : Int)), some (aI z39), some (aI z45), some (aI z62), x8]) rfl (by decide) (fun _ => rfl) (fun z62 ez62 => ?_)
        refine b_iconst rfl (by decide) ?_
        refine b_istoreX (F := fun z65 => [some (aR 52), some (aI tA), some (aI tB), some (aI (nw : Int)), some (aI (k : Int)), some (aI z39), some (aI z45), some (aI z62), some (aI z65)]) rfl (by decide) (fun _ => rfl) (fun z65 ez65 => ?_)
        subst ez39
        subst ez45
        subst ez62
        subst ez65
        by_cases hgw : g = w
        · exact endE _ (Or.inl hgw) (fun h => absurd hgw h)
        · refine step k g w (-1) (by omega) hg hw hgw (Or.inl rfl) (fun n1 z hz => ?_)
          have ez : z = 1 := by omega
          subst ez
          refine step k g w 1 (by omega) hg hw hgw (Or.inr rfl) (fun n2 z hz => ?_)
          refine endE z (Or.inr (by omega)) (fun _ w2 => ?_)
          obtain ⟨e, he, h1⟩ := w2
          rcases he with he | he
          · subst he; exact n1 h1
          · subst he; exact n2 h1
  have far : ¬ (ab1 tA (ta + 1 * I 52 4) ∧ ab1 tB (tb + 1 * I 52 4)) → ¬ osQ (I 53) (I 54) nw a b ta tb tA tB := by
    intro hn w
    obtain ⟨g, w, h1, h2, h3, e, he, ⟨g1, g2⟩, _, e2, he2, ⟨g3, g4⟩, _⟩ := w
    have q1 := s12 g w h1 h2
    have q2 := s12 w g h2 h1
    refine hn ?_
    unfold ab1
    rcases he with he | he <;> rcases he2 with he2 | he2 <;> subst he <;> subst he2 <;> omega
  refine rj_of okX8_oneSwapLevels (Nat.le_of_ble_eq_true rfl) rfl ?_
  refine b_aload_n rfl rfl ?_
  refine b_iload_n rfl rfl ?_
  refine b_iload_n rfl rfl ?_
  refine b_iconst rfl (by decide) ?_
  refine b_callV3i (ν := MX8_isNear) rfl ml8_70 cvX8_isNear (d' := 1) (by omega) rfl (by decide) rfl (Nat.le_of_ble_eq_true rfl) ?_
  refine spf_isNear hS hA hB (Or.inl rfl) (fun hne => ?_) (fun hfa => ?_)
  · refine ⟨_, rfl, ?_⟩
    refine b_if_eq (tgt := 22) rfl rfl (fun z => absurd z (by decide)) (fun _ => ?_)
    refine b_aload_n rfl rfl ?_
    refine b_getR (r := 3) rfl fl8_18 rfl (by decide) rfl rfl ?_
    refine b_getR (r := 4) rfl fl8_77 rfl (by decide) rfl rfl ?_
    refine b_iconst rfl (by decide) ?_
    refine b_ialdL (k := 0) rfl rfl rfl (by decide) ?_
    rw [s1]
    refine b_goto (tgt := 23) rfl rfl ?_
    refine b_istoreX_n (F := fun z23 => [some (aR 52), some (aI tA), some (aI tB), some (aI z23), none, none, none, none, none]) rfl (by decide) (fun _ => rfl) (fun z23 ez23 => ?_)
    refine b_iconst rfl (by decide) ?_
    refine b_istoreX (F := fun z25 => [some (aR 52), some (aI tA), some (aI tB), some (aI z23), some (aI z25), none, none, none, none]) rfl (by decide) (fun _ => rfl) (fun z25 ez25 => ?_)
    first
    | (have hff := far hfa
       exact out _ _ _ _ _ _ (Or.inl ⟨by omega, by omega⟩) hff)
    | (have hnn := hne
       subst ez23
       exact lp (nw * nw) 0 _ _ _ _ _ (by omega) (by omega) (fun g w _ _ h3 => absurd h3 (by omega)))
  · refine ⟨_, rfl, ?_⟩
    refine b_if_eq (tgt := 22) rfl rfl (fun _ => ?_) (fun z => absurd z (by decide))
    refine b_iconst rfl (by decide) ?_
    refine b_istoreX_n (F := fun z23 => [some (aR 52), some (aI tA), some (aI tB), some (aI z23), none, none, none, none, none]) rfl (by decide) (fun _ => rfl) (fun z23 ez23 => ?_)
    refine b_iconst rfl (by decide) ?_
    refine b_istoreX (F := fun z25 => [some (aR 52), some (aI tA), some (aI tB), some (aI z23), some (aI z25), none, none, none, none]) rfl (by decide) (fun _ => rfl) (fun z25 ez25 => ?_)
    first
    | (have hff := far hfa
       exact out _ _ _ _ _ _ (Or.inl ⟨by omega, by omega⟩) hff)
    | (have hnn := hne
       subst ez23
       exact lp (nw * nw) 0 _ _ _ _ _ (by omega) (by omega) (fun g w _ _ h3 => absurd h3 (by omega)))
