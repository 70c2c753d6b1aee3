/-! ===== Swapper: fewest; WrongTide: swaps ===== -/
theorem spf_twoSwaps {I : HI} {Q : Option AV → HI → Prop} {nw a b : Nat} {ta tb tA tB : Int} (hS : SWp I nw a b ta tb) (hf : ∀ c, 0 ≤ I 53 c ∧ I 53 c ≤ 20) (hA : -1000000 ≤ tA ∧ tA ≤ 1000000) (hB : -1000000 ≤ tB ∧ tB ≤ 1000000) (k1 : tsQ (I 53) (I 54) nw a b ta tb tA tB → Q (some (aI 1)) I) (k0 : ¬ tsQ (I 53) (I 54) nw a b ta tb tA tB → Q (some (aI 0)) I) : Rj MX8_twoSwapsLevel 5 [aR 52, aI tA, aI tB] I Q := by
  have hS' := hS
  obtain ⟨s1, s2, s3, s4, s5, s6, s7, s8, s9, s10, s11, s12⟩ := hS'
  have outer : ∀ (n k : Nat) (z : Int) (x : Option AV), z = (k : Int) → k + n = 24 → (∀ k' j, k' < k → j < 24 → ¬ (0 < I 53 (24 * a + k') ∧ 0 < I 53 (24 * b + j) ∧ lbP (I 53) (I 54) nw a b ta tb tA tB k' j)) → Bj MX8_twoSwapsLevel 5 2 [some (aR 52), some (aI tA), some (aI tB), some (aI z), x] [] I Q := by
    intro n
    induction n with
    | zero =>
      intro k z x hz hk hno
      refine b_iload_n rfl rfl ?_
      refine b_bipush rfl (by decide) ?_
      refine b_icmp_ge (tgt := 79) rfl rfl (fun c5 => ?_) (fun c5 => ?_)
      · refine b_iconst rfl (by decide) ?_
        refine b_zret rfl rfl (by first | decide | omega) ?_
        refine k0 (fun w => ?_)
        obtain ⟨k', j, h1, h2, h3⟩ := w
        exact hno k' j (by omega) h2 h3
      · omega
    | succ n ih =>
      intro k z x hz hk hno
      subst hz
      have eA : ((a : Int) * 24 + (k : Int)).toNat = 24 * a + k := by omega
      have inner : ∀ (n j : Nat) (z : Int), z = (j : Int) → j + n = 24 → (∀ j', j' < j → ¬ (0 < I 53 (24 * a + k) ∧ 0 < I 53 (24 * b + j') ∧ lbP (I 53) (I 54) nw a b ta tb tA tB k j')) → Bj MX8_twoSwapsLevel 5 11 [some (aR 52), some (aI tA), some (aI tB), some (aI (k : Int)), some (aI z)] [] I Q := by
        intro n
        induction n with
        | zero =>
          intro j z hz hj hn2
          refine b_aload_n rfl rfl ?_
          refine b_getR (r := 53) rfl fl8_9 rfl (by decide) rfl rfl ?_
          refine b_aload_n rfl rfl ?_
          refine b_getI rfl fl8_32 rfl (by decide) rfl ?_
          rw [s3]
          refine b_bipush rfl (by decide) ?_
          refine b_imulN rfl (by omega) (by omega) ?_
          refine b_iload_n rfl rfl ?_
          refine b_iaddN rfl (by omega) (by omega) ?_
          refine b_iald rfl rfl (by omega) (by omega) ?_
          rw [eA]
          refine b_if_le (tgt := 73) rfl rfl (fun c25 => ?_) (fun c25 => ?_)
          · refine b_iincX (F := fun z73 => [some (aR 52), some (aI tA), some (aI tB), some (aI z73), some (aI z)]) rfl rfl (by omega) (by omega) (fun _ => rfl) (fun z73 ez73 => ?_)
            refine b_goto (tgt := 2) rfl rfl ?_
            refine ih (k + 1) _ _ (by omega) (by omega) (fun k' j' h1 h2 => ?_)
            by_cases e : k' = k
            · subst e; exact hn2 j' (by omega)
            · exact hno k' j' (by omega) h2
          · refine b_iload rfl rfl ?_
            refine b_bipush rfl (by decide) ?_
            refine b_icmp_ge (tgt := 73) rfl rfl (fun c32 => ?_) (fun c32 => ?_)
            · refine b_iincX (F := fun z73 => [some (aR 52), some (aI tA), some (aI tB), some (aI z73), some (aI z)]) rfl rfl (by omega) (by omega) (fun _ => rfl) (fun z73 ez73 => ?_)
              refine b_goto (tgt := 2) rfl rfl ?_
              refine ih (k + 1) _ _ (by omega) (by omega) (fun k' j' h1 h2 => ?_)
              by_cases e : k' = k
              · subst e; exact hn2 j' (by omega)
              · exact hno k' j' (by omega) h2
            · omega
        | succ n ihn =>
          intro j z hz hj hn2
          subst hz
          have eB : ((b : Int) * 24 + (j : Int)).toNat = 24 * b + j := by omega
          refine b_aload_n rfl rfl ?_
          refine b_getR (r := 53) rfl fl8_9 rfl (by decide) rfl rfl ?_
          refine b_aload_n rfl rfl ?_
          refine b_getI rfl fl8_32 rfl (by decide) rfl ?_
          rw [s3]
          refine b_bipush rfl (by decide) ?_
          refine b_imulN rfl (by omega) (by omega) ?_
          refine b_iload_n rfl rfl ?_
          refine b_iaddN rfl (by omega) (by omega) ?_
          refine b_iald rfl rfl (by omega) (by omega) ?_
          rw [eA]
          refine b_if_le (tgt := 73) rfl rfl (fun c25 => ?_) (fun c25 => ?_)
          · refine b_iincX (F := fun z73 => [some (aR 52), some (aI tA), some (aI tB), some (aI z73), some (aI (j : Int))]) rfl rfl (by omega) (by omega) (fun _ => rfl) (fun z73 ez73 => ?_)
            refine b_goto (tgt := 2) rfl rfl ?_
            refine ih (k + 1) _ _ (by omega) (by omega) (fun k' j' h1 h2 => ?_)
            by_cases e : k' = k
            · subst e; intro w; have := w.1; omega
            · exact hno k' j' (by omega) h2
          · refine b_iload rfl rfl ?_
            refine b_bipush rfl (by decide) ?_
            refine b_icmp_ge (tgt := 73) rfl rfl (fun c32 => ?_) (fun c32 => ?_)
            · omega
            · refine b_aload_n rfl rfl ?_
              refine b_getR (r := 53) rfl fl8_9 rfl (by decide) rfl rfl ?_
              refine b_aload_n rfl rfl ?_
              refine b_getI rfl fl8_36 rfl (by decide) rfl ?_
              rw [s4]
              refine b_bipush rfl (by decide) ?_
              refine b_imulN rfl (by omega) (by omega) ?_
              refine b_iload rfl rfl ?_
              refine b_iaddN rfl (by omega) (by omega) ?_
              refine b_iald rfl rfl (by omega) (by omega) ?_
              rw [eB]
              refine b_if_le (tgt := 67) rfl rfl (fun c50 => ?_) (fun c50 => ?_)
              · refine b_iincX (F := fun z67 => [some (aR 52), some (aI tA), some (aI tB), some (aI (k : Int)), some (aI z67)]) rfl rfl (by omega) (by omega) (fun _ => rfl) (fun z67 ez67 => ?_)
                refine b_goto (tgt := 11) rfl rfl ?_
                refine ihn (j + 1) _ (by omega) (by omega) (fun j' h1 => ?_)
                by_cases e : j' = j
                · subst e
                  first
                    | exact fun w => hnl w.2.2
                    | (intro w; have := w.2.1; omega)
                · exact hn2 j' (by omega)
              · refine b_aload_n rfl rfl ?_
                refine b_iload_n rfl rfl ?_
                refine b_iload rfl rfl ?_
                refine b_iload_n rfl rfl ?_
                refine b_iload_n rfl rfl ?_
                rw [show I = row I 53 (I 53) from row_self.symm]
                refine b_callV4i (ν := MX8_levelsBehind) rfl ml8_103 cvX8_levelsBehind (d' := 4) (by omega) rfl (by decide) rfl (Nat.le_of_ble_eq_true rfl) ?_
                refine spf_levelsBehind hS hf (by omega) (by omega) hA hB (fun hy => ?_) (fun hnl => ?_)
                · refine ⟨_, rfl, ?_⟩
                  rw [row_self]
                  refine b_if_eq (tgt := 67) rfl rfl (fun z => absurd z (by decide)) (fun _ => ?_)
                  refine b_iconst rfl (by decide) ?_
                  refine b_zret rfl rfl (by first | decide | omega) ?_
                  refine k1 ⟨k, j, by omega, by omega, by omega, by omega, hy⟩
                · refine ⟨_, rfl, ?_⟩
                  rw [row_self]
                  refine b_if_eq (tgt := 67) rfl rfl (fun _ => ?_) (fun z => absurd z (by decide))
                  refine b_iincX (F := fun z67 => [some (aR 52), some (aI tA), some (aI tB), some (aI (k : Int)), some (aI z67)]) rfl rfl (by omega) (by omega) (fun _ => rfl) (fun z67 ez67 => ?_)
                  refine b_goto (tgt := 11) rfl rfl ?_
                  refine ihn (j + 1) _ (by omega) (by omega) (fun j' h1 => ?_)
                  by_cases e : j' = j
                  · subst e
                    first
                      | exact fun w => hnl w.2.2
                      | (intro w; have := w.2.1; omega)
                  · exact hn2 j' (by omega)
      refine b_iload_n rfl rfl ?_
      refine b_bipush rfl (by decide) ?_
      refine b_icmp_ge (tgt := 79) rfl rfl (fun c5 => ?_) (fun c5 => ?_)
      · omega
      · refine b_iconst rfl (by decide) ?_
        refine b_istoreX (F := fun z9 => [some (aR 52), some (aI tA), some (aI tB), some (aI (k : Int)), some (aI z9)]) rfl (by decide) (fun _ => rfl) (fun z9 ez9 => ?_)
        exact inner 24 0 _ (by omega) (by omega) (fun j' h => absurd h (by omega))
  refine rj_of okX8_twoSwapsLevel (Nat.le_of_ble_eq_true rfl) rfl ?_
  refine b_iconst rfl (by decide) ?_
  refine b_istoreX_n (F := fun z1 => [some (aR 52), some (aI tA), some (aI tB), some (aI z1), none]) rfl (by decide) (fun _ => rfl) (fun z1 ez1 => ?_)
  exact outer 24 0 _ _ (by omega) (by omega) (fun k' j h => absurd h (by omega))
def meK (I K : HI) : Prop := (∀ q, q ≠ 52 → q ≠ 54 → K q = I q) ∧ (∀ j, j ≠ 4 → K 52 j = I 52 j) ∧ (0 ≤ K 52 4 ∧ K 52 4 ≤ 198) ∧ (∀ w : Nat, (w : Int) < I 4 0 → K 54 w = I 6 w - I 7 w) ∧ (∀ w, -99 ≤ K 54 w ∧ K 54 w ≤ 99) ∧ (∀ g w : Nat, (g : Int) < I 4 0 → (w : Int) < I 4 0 → K 54 w - K 54 g ≤ K 52 4)
theorem sp_X8_measureWares {I : HI} {Q : Option AV → HI → Prop} (hp : pOK I) (h54 : ∀ w, -99 ≤ I 54 w ∧ I 54 w ≤ 99) (kq : ∀ K, meK I K → Q none K) : Rj MX8_measureWares 3 [aR 52] I Q := by
  obtain ⟨w1, w2⟩ := nW_in hp
  have lp : ∀ (n i : Nat) (lo hi z : Int) (f : Nat → Int), z = (i : Int) → i + n = nW I → (∀ w, w < i → f w = I 6 w - I 7 w) → (∀ w, -99 ≤ f w ∧ f w ≤ 99) → (∀ w, w < i → lo ≤ f w ∧ f w ≤ hi) → (-99 ≤ lo ∧ lo ≤ hi ∧ hi ≤ 99) → Bj MX8_measureWares 3 6 [some (aR 52), some (aI lo), some (aI hi), some (aI z)] [] (row I 54 f) Q := by
    intro n
    induction n with
    | zero =>
      intro i lo hi z f hz hi' h1 h2 h3 h4
      have e4 : row I 54 f 4 0 = I 4 0 := by rw [row_cell (by decide)]
      refine b_iload_n rfl rfl ?_
      refine b_aload_n rfl rfl ?_
      refine b_getR (r := 3) rfl fl8_18 rfl (by decide) rfl rfl ?_
      refine b_getR (r := 4) rfl fl8_77 rfl (by decide) rfl rfl ?_
      refine b_iconst rfl (by decide) ?_
      refine b_ialdL (k := 0) rfl rfl rfl (by decide) ?_
      refine b_icmp_ge (tgt := 87) rfl rfl (fun c16 => ?_) (fun c16 => ?_)
      · refine b_aload_n rfl rfl ?_
        refine b_iload_n rfl rfl ?_
        refine b_iload_n rfl rfl ?_
        refine b_isubN rfl (by omega) (by omega) ?_
        refine b_putI rfl fl8_89 rfl (by decide) rfl ?_
        refine b_vret rfl rfl ?_
        refine kq _ ⟨fun q n1 n2 => by rw [up_cell n1, row_cell n2], fun j hj => by rw [up_n (fun w => hj w.2), row_cell (by decide)], by rw [up_s]; omega, fun w hw => ?_, fun w => ?_, fun g w hg hw => ?_⟩
        · rw [up_cell (by decide), row_same]; exact h1 w (by omega)
        · rw [up_cell (by decide), row_same]; exact h2 w
        · rw [up_cell (by decide), row_same, up_s]
          have := h3 g (by omega)
          have := h3 w (by omega)
          omega
      · omega
    | succ n ih =>
      intro i lo hi z f hz hi' h1 h2 h3 h4
      subst hz
      have e4 : row I 54 f 4 0 = I 4 0 := by rw [row_cell (by decide)]
      have hr := hp.2.1 i (by omega)
      have hpr : pOK (row I 54 f) := pOK_to hp (row_cell (by decide)) (row_cell (by decide)) (row_cell (by decide))
      have e6 : row I 54 f 6 i = I 6 i := by rw [row_cell (by decide)]
      have e7 : row I 54 f 7 i = I 7 i := by rw [row_cell (by decide)]
      have hu : ∀ v, ud f i v i = v := fun v => if_pos rfl
      have go : ∀ (lo' hi' z : Int), z = (i : Int) + 1 → (∀ w, w < i → lo' ≤ f w ∧ f w ≤ hi') → lo' ≤ I 6 i - I 7 i → I 6 i - I 7 i ≤ hi' → -99 ≤ lo' → hi' ≤ 99 → Bj MX8_measureWares 3 6 [some (aR 52), some (aI lo'), some (aI hi'), some (aI z)] [] (row I 54 (ud f i (I 6 i - I 7 i))) Q := by
        intro lo' hi'' z hz g1 g2 g3 g4 g5
        refine ih (i + 1) lo' hi'' z _ (by omega) (by omega) (fun w hw => ?_) (fun w => ?_) (fun w hw => ?_) (by omega)
        · by_cases e : w = i
          · subst e; exact hu _
          · rw [show ud f i (I 6 i - I 7 i) w = f w from if_neg e]; exact h1 w (by omega)
        · by_cases e : w = i
          · subst e; rw [hu]; omega
          · rw [show ud f i (I 6 i - I 7 i) w = f w from if_neg e]; exact h2 w
        · by_cases e : w = i
          · subst e; rw [hu]; omega
          · rw [show ud f i (I 6 i - I 7 i) w = f w from if_neg e]; exact g1 w (by omega)
      refine b_iload_n rfl rfl ?_
      refine b_aload_n rfl rfl ?_
      refine b_getR (r := 3) rfl fl8_18 rfl (by decide) rfl rfl ?_
      refine b_getR (r := 4) rfl fl8_77 rfl (by decide) rfl rfl ?_
      refine b_iconst rfl (by decide) ?_
      refine b_ialdL (k := 0) rfl rfl rfl (by decide) ?_
      refine b_icmp_ge (tgt := 87) rfl rfl (fun c16 => ?_) (fun c16 => ?_)
      · omega
      · refine b_aload_n rfl rfl ?_
        refine b_getR (r := 54) rfl fl8_15 rfl (by decide) rfl rfl ?_
        refine b_iload_n rfl rfl ?_
        refine b_aload_n rfl rfl ?_
        refine b_getR (r := 3) rfl fl8_18 rfl (by decide) rfl rfl ?_
        refine b_iload_n rfl rfl ?_
        refine b_callV1i (ν := MX3_net) rfl ml8_80 cvX3_net (d' := 2) (by omega) rfl (by decide) rfl (Nat.le_of_ble_eq_true rfl) ?_
        refine sp_X3_net_3 hpr.1 ⟨by omega, by omega, by omega, by show (i : Int) < row I 54 f 4 0; omega⟩ (by rw [Int.toNat_natCast]; omega) ?_
        rw [Int.toNat_natCast, e6, e7]
        refine ⟨_, rfl, ?_⟩
        refine b_iast rfl rfl (by omega) (by omega) ?_
        rw [Int.toNat_natCast, row_ud]
        refine b_iload_n rfl rfl ?_
        refine b_if_ne (tgt := 46) rfl rfl (fun c34 => ?_) (fun c34 => ?_)
        · refine b_iload_n rfl rfl ?_
          refine b_aload_n rfl rfl ?_
          refine b_getR (r := 54) rfl fl8_15 rfl (by decide) rfl rfl ?_
          refine b_iload_n rfl rfl ?_
          refine b_iald rfl rfl (by omega) (by omega) ?_
          rw [Int.toNat_natCast, row_same, hu]
          refine b_mmin rfl ml8_83 (by omega) (Nat.le_of_ble_eq_true rfl) ?_
          refine b_istoreX_n (F := fun z56 => [some (aR 52), some (aI z56), some (aI hi), some (aI (i : Int))]) rfl (by decide) (fun _ => rfl) (fun z56 ez56 => ?_)
          refine b_iload_n rfl rfl ?_
          refine b_if_ne (tgt := 70) rfl rfl (fun c58 => ?_) (fun c58 => ?_)
          · refine b_iload_n rfl rfl ?_
            refine b_aload_n rfl rfl ?_
            refine b_getR (r := 54) rfl fl8_15 rfl (by decide) rfl rfl ?_
            refine b_iload_n rfl rfl ?_
            refine b_iald rfl rfl (by omega) (by omega) ?_
            rw [Int.toNat_natCast, row_same, hu]
            refine b_mmax rfl ml8_86 (by omega) (Nat.le_of_ble_eq_true rfl) ?_
            refine b_istoreX_n (F := fun z80 => [some (aR 52), some (aI z56), some (aI z80), some (aI (i : Int))]) rfl (by decide) (fun _ => rfl) (fun z80 ez80 => ?_)
            refine b_iincX (F := fun z81 => [some (aR 52), some (aI z56), some (aI z80), some (aI z81)]) rfl rfl (by omega) (by omega) (fun _ => rfl) (fun z81 ez81 => ?_)
            refine b_goto (tgt := 6) rfl rfl ?_
            exact go _ _ _ (by omega) (fun w hw => by have := h3 w hw; omega) (by omega) (by omega) (by omega) (by omega)
          · refine b_aload_n rfl rfl ?_
            refine b_getR (r := 54) rfl fl8_15 rfl (by decide) rfl rfl ?_
            refine b_iload_n rfl rfl ?_
            refine b_iald rfl rfl (by omega) (by omega) ?_
            rw [Int.toNat_natCast, row_same, hu]
            refine b_goto (tgt := 80) rfl rfl ?_
            refine b_istoreX_n (F := fun z80 => [some (aR 52), some (aI z56), some (aI z80), some (aI (i : Int))]) rfl (by decide) (fun _ => rfl) (fun z80 ez80 => ?_)
            refine b_iincX (F := fun z81 => [some (aR 52), some (aI z56), some (aI z80), some (aI z81)]) rfl rfl (by omega) (by omega) (fun _ => rfl) (fun z81 ez81 => ?_)
            refine b_goto (tgt := 6) rfl rfl ?_
            exact go _ _ _ (by omega) (fun w hw => by have := h3 w hw; omega) (by omega) (by omega) (by omega) (by omega)
        · refine b_aload_n rfl rfl ?_
          refine b_getR (r := 54) rfl fl8_15 rfl (by decide) rfl rfl ?_
          refine b_iload_n rfl rfl ?_
          refine b_iald rfl rfl (by omega) (by omega) ?_
          rw [Int.toNat_natCast, row_same, hu]
          refine b_goto (tgt := 56) rfl rfl ?_
          refine b_istoreX_n (F := fun z56 => [some (aR 52), some (aI z56), some (aI hi), some (aI (i : Int))]) rfl (by decide) (fun _ => rfl) (fun z56 ez56 => ?_)
          refine b_iload_n rfl rfl ?_
          refine b_if_ne (tgt := 70) rfl rfl (fun c58 => ?_) (fun c58 => ?_)
          · refine b_iload_n rfl rfl ?_
            refine b_aload_n rfl rfl ?_
            refine b_getR (r := 54) rfl fl8_15 rfl (by decide) rfl rfl ?_
            refine b_iload_n rfl rfl ?_
            refine b_iald rfl rfl (by omega) (by omega) ?_
            rw [Int.toNat_natCast, row_same, hu]
            refine b_mmax rfl ml8_86 (by omega) (Nat.le_of_ble_eq_true rfl) ?_
            refine b_istoreX_n (F := fun z80 => [some (aR 52), some (aI z56), some (aI z80), some (aI (i : Int))]) rfl (by decide) (fun _ => rfl) (fun z80 ez80 => ?_)
            refine b_iincX (F := fun z81 => [some (aR 52), some (aI z56), some (aI z80), some (aI z81)]) rfl rfl (by omega) (by omega) (fun _ => rfl) (fun z81 ez81 => ?_)
            refine b_goto (tgt := 6) rfl rfl ?_
            exact go _ _ _ (by omega) (fun w hw => by have := h3 w hw; omega) (by omega) (by omega) (by omega) (by omega)
          · refine b_aload_n rfl rfl ?_
            refine b_getR (r := 54) rfl fl8_15 rfl (by decide) rfl rfl ?_
            refine b_iload_n rfl rfl ?_
            refine b_iald rfl rfl (by omega) (by omega) ?_
            rw [Int.toNat_natCast, row_same, hu]
            refine b_goto (tgt := 80) rfl rfl ?_
            refine b_istoreX_n (F := fun z80 => [some (aR 52), some (aI z56), some (aI z80), some (aI (i : Int))]) rfl (by decide) (fun _ => rfl) (fun z80 ez80 => ?_)
            refine b_iincX (F := fun z81 => [some (aR 52), some (aI z56), some (aI z80), some (aI z81)]) rfl rfl (by omega) (by omega) (fun _ => rfl) (fun z81 ez81 => ?_)
            refine b_goto (tgt := 6) rfl rfl ?_
            exact go _ _ _ (by omega) (fun w hw => by have := h3 w hw; omega) (by omega) (by omega) (by omega) (by omega)
  refine rj_of okX8_measureWares (Nat.le_of_ble_eq_true rfl) rfl ?_
  refine b_iconst rfl (by decide) ?_
  refine b_istoreX_n (F := fun z1 => [some (aR 52), some (aI z1), none, none]) rfl (by decide) (fun _ => rfl) (fun z1 ez1 => ?_)
  refine b_iconst rfl (by decide) ?_
  refine b_istoreX_n (F := fun z3 => [some (aR 52), some (aI z1), some (aI z3), none]) rfl (by decide) (fun _ => rfl) (fun z3 ez3 => ?_)
  refine b_iconst rfl (by decide) ?_
  refine b_istoreX_n (F := fun z5 => [some (aR 52), some (aI z1), some (aI z3), some (aI z5)]) rfl (by decide) (fun _ => rfl) (fun z5 ez5 => ?_)
  rw [show I = row I 54 (I 54) from row_self.symm]
  exact lp (nW I) 0 _ _ _ (I 54) (by omega) (by omega) (fun w h => absurd h (by omega)) h54 (fun w h => absurd h (by omega)) (by omega)
/-- holds and wares that are not there hold nothing -/
def CZ (I : HI) : Prop := ∀ s h w : Nat, s < 6 → h < 4 → w < 6 → ¬ ((s : Int) < I 4 1 ∧ h < nH I s ∧ (w : Int) < I 4 0) → I 32 (24 * s + 6 * h + w) = 0
noncomputable def swV (f nt : Nat → Int) (nw a b : Nat) (ta tb tA tB : Int) : Int := pI (ab1 tA ta ∧ ab1 tB tb) 0 (pI (osQ f nt nw a b ta tb tA tB) 1 (pI (tsQ f nt nw a b ta tb tA tB) 2 (-1)))
def swK (I K : HI) : Prop := (∀ q, q ≠ 52 → q ≠ 53 → q ≠ 54 → K q = I q) ∧ (∀ c, 0 ≤ K 53 c ∧ K 53 c ≤ 20) ∧ (∀ w, -99 ≤ K 54 w ∧ K 54 w ≤ 99)
def tr3 (I : HI) : Nat → Int := fun j => if j < 144 then I 32 j else I 53 j
theorem cpy_tr3 {I : HI} : cpy I 32 53 0 0 144 = row I 53 (tr3 I) := by
  funext q j
  rw [cpy_ap, row_ap]
  unfold tr3
  grind
theorem sp_X8_fewest {I : HI} {Q : Option AV → HI → Prop} {a b : Nat} (hp : pOK I) (hz : CZ I) (hc : ∀ k, 0 ≤ I 32 k ∧ I 32 k ≤ 20) (hc3 : ∀ k, 0 ≤ I 53 k ∧ I 53 k ≤ 20) (h54 : ∀ w, -99 ≤ I 54 w ∧ I 54 w ≤ 99) (ha : (a : Int) < I 4 1) (hb : (b : Int) < I 4 1) (kq : ∀ K nt, swK I K → (∀ w : Nat, (w : Int) < I 4 0 → nt w = I 6 w - I 7 w) → Q (some (aI (swV (tr3 I) nt (nW I) a b (I 7 (6 + a)) (I 7 (6 + b)) (tT (row I 53 (tr3 I)) 53 a) (tT (row I 53 (tr3 I)) 53 b)))) K) : Rj MX8_fewest 6 [aR 52, aR 32, aI (a : Int), aI (b : Int)] I Q := by
  obtain ⟨w1, w2⟩ := nW_in hp
  have h41 := hp.1 1 (by decide)
  have pa := hp.2.2.1 a ha
  have pb := hp.2.2.1 b hb
  have htr : ∀ j, 0 ≤ tr3 I j ∧ tr3 I j ≤ 20 := by
    intro j
    have h1 := hc j
    have h2 := hc3 j
    unfold tr3
    split <;> omega
  have hzz : ∀ s k, s < 6 → k < 24 → 0 < tr3 I (24 * s + k) → k % 6 < nW I := by
    intro s k hs hk h
    have e : tr3 I (24 * s + k) = I 32 (24 * s + 6 * (k / 6) + k % 6) := by
      unfold tr3
      rw [if_pos (by omega), show 24 * s + 6 * (k / 6) + k % 6 = 24 * s + k by omega]
    rw [e] at h
    have h2 := hz s (k / 6) (k % 6) hs (by omega) (by omega)
    refine Classical.byContradiction (fun z => ?_)
    have := h2 (fun w => z (by omega))
    omega
  refine rj_of okX8_fewest (Nat.le_of_ble_eq_true rfl) rfl ?_
  generalize hF : tr3 I = F at *
  have hp1 : pOK (row I 53 F) := pOK_to hp (row_cell (by decide)) (row_cell (by decide)) (row_cell (by decide))
  have hs1 : ∀ s : Nat, (s : Int) < I 4 1 → (s : Int) < row I 53 F 4 1 := fun s h => by rw [row_cell (by decide)]; exact h
  have t1 := t_in (I := row I 53 F) (cr := 53) (s := a) hp1 (fun k => by rw [row_same]; have := htr k; omega) (hs1 a ha)
  have t2 := t_in (I := row I 53 F) (cr := 53) (s := b) hp1 (fun k => by rw [row_same]; have := htr k; omega) (hs1 b hb)
  generalize htA : tT (row I 53 F) 53 a = tA at *
  generalize htB : tT (row I 53 F) 53 b = tB at *
  have main : ∀ K, SWp K (nW I) a b (I 7 (6 + a)) (I 7 (6 + b)) → K 53 = F → (∀ q, q ≠ 52 → q ≠ 53 → q ≠ 54 → K q = I q) → (∀ w : Nat, (w : Int) < I 4 0 → K 54 w = I 6 w - I 7 w) → Bj MX8_fewest 6 53 [some (aR 52), some (aR 32), some (aI (a : Int)), some (aI (b : Int)), none, none] [] K Q := by
    intro K hS h53 hq hnt
    have hS' := hS
    obtain ⟨s1, s2, s3, s4, s5, s6, s7, s8, s9, s10, s11, s12⟩ := hS'
    have k1 := kq K (K 54) ⟨hq, by rw [h53]; exact htr, s11⟩ hnt
    have hpK : pOK K := pOK_to hp (hq 4 (by decide) (by decide) (by decide)) (hq 6 (by decide) (by decide) (by decide)) (hq 7 (by decide) (by decide) (by decide))
    have hsK : ∀ s : Nat, (s : Int) < I 4 1 → (s : Int) < K 4 1 := fun s h => by rw [hq 4 (by decide) (by decide) (by decide)]; exact h
    have eT : ∀ s, tT K 53 s = tT (row I 53 F) 53 s := fun s => (tX_to (cr := 53) (by rw [hq 4 (by decide) (by decide) (by decide), row_cell (by decide)]) (by rw [hq 6 (by decide) (by decide) (by decide), row_cell (by decide)]) (by rw [hq 7 (by decide) (by decide) (by decide), row_cell (by decide)]) (by rw [h53, row_same])).2.2.1
    have hcb : crB K 53 := fun k => by rw [h53]; have := htr k; omega
    have far : ¬ (ab1 tA (I 7 (6 + a) + 2 * K 52 4) ∧ ab1 tB (I 7 (6 + b) + 2 * K 52 4)) → ¬ tsQ F (K 54) (nW I) a b (I 7 (6 + a)) (I 7 (6 + b)) tA tB := by
      intro hn w
      obtain ⟨k, j, g1, g2, g3, g4, _, _, _, g, w, h1, h2, h3, e, he, ⟨i1, i2⟩, _, e2, he2, ⟨i3, i4⟩, _⟩ := w
      have z1 := hzz a k (by omega) g1 g3
      have z2 := hzz b j (by omega) g2 g4
      have q1 := s12 g w h1 h2
      have q2 := s12 w g h2 h1
      have q3 := s12 (k % 6) (j % 6) z1 z2
      have q4 := s12 (j % 6) (k % 6) z2 z1
      refine hn ?_
      unfold ab1
      rcases sd_in ((k / 6 : Nat) : Int) with d1 | d1 <;> rcases sd_in ((j / 6 : Nat) : Int) with d2 | d2 <;> rw [d1] at i1 i2 <;> rw [d2] at i3 i4 <;> rcases he with he | he <;> rcases he2 with he2 | he2 <;> subst he <;> subst he2 <;> omega
    unfold swV at k1
    rw [← h53] at k1 far
    have l1 : ab1 tA (I 7 (6 + a)) ∧ ab1 tB (I 7 (6 + b)) → Q (some (aI 0)) K := fun h => by rw [pI_1 h] at k1; exact k1
    have l2 : ¬ (ab1 tA (I 7 (6 + a)) ∧ ab1 tB (I 7 (6 + b))) → osQ (K 53) (K 54) (nW I) a b (I 7 (6 + a)) (I 7 (6 + b)) tA tB → Q (some (aI 1)) K := fun h h2 => by rw [pI_0 h, pI_1 h2] at k1; exact k1
    have l3 : ¬ (ab1 tA (I 7 (6 + a)) ∧ ab1 tB (I 7 (6 + b))) → ¬ osQ (K 53) (K 54) (nW I) a b (I 7 (6 + a)) (I 7 (6 + b)) tA tB → tsQ (K 53) (K 54) (nW I) a b (I 7 (6 + a)) (I 7 (6 + b)) tA tB → Q (some (aI 2)) K := fun h h2 h3 => by rw [pI_0 h, pI_0 h2, pI_1 h3] at k1; exact k1
    have l4 : ¬ (ab1 tA (I 7 (6 + a)) ∧ ab1 tB (I 7 (6 + b))) → ¬ osQ (K 53) (K 54) (nW I) a b (I 7 (6 + a)) (I 7 (6 + b)) tA tB → ¬ tsQ (K 53) (K 54) (nW I) a b (I 7 (6 + a)) (I 7 (6 + b)) tA tB → Q (some (aI (-1))) K := fun h h2 h3 => by rw [pI_0 h, pI_0 h2, pI_0 h3] at k1; exact k1
    unfold ab1 at l1 l2 l3 l4
    have hf3 : ∀ c, 0 ≤ K 53 c ∧ K 53 c ≤ 20 := by rw [h53]; exact htr
    generalize hTA : I 7 (6 + a) = TA at *
    generalize hTB : I 7 (6 + b) = TB at *
    have tail_ : (osQ (K 53) (K 54) (nW I) a b TA TB tA tB → Q (some (aI 1)) K) → (¬ osQ (K 53) (K 54) (nW I) a b TA TB tA tB → tsQ (K 53) (K 54) (nW I) a b TA TB tA tB → Q (some (aI 2)) K) → (¬ osQ (K 53) (K 54) (nW I) a b TA TB tA tB → ¬ tsQ (K 53) (K 54) (nW I) a b TA TB tA tB → Q (some (aI (-1))) K) → Bj MX8_fewest 6 107 [some (aR 52), some (aR 32), some (aI (a : Int)), some (aI (b : Int)), some (aI tA), some (aI tB)] [] K Q := by
      intro m1 m2 m3
      refine b_aload_n rfl rfl ?_
      refine b_iload rfl rfl ?_
      refine b_iload rfl rfl ?_
      refine b_callV2i (ν := MX8_oneSwapLevels) rfl ml8_66 cvX8_oneSwapLevels (d' := 3) (by omega) rfl (by decide) rfl (Nat.le_of_ble_eq_true rfl) ?_
      refine spf_oneSwap hS (by omega) (by omega) (fun ho => ?_) (fun hno => ?_)
      · refine ⟨_, rfl, ?_⟩
        refine b_if_eq (tgt := 120) rfl rfl (fun z => absurd z (by decide)) (fun _ => ?_)
        refine b_iconst rfl (by decide) ?_
        refine b_iret rfl rfl ?_
        first
        | exact m2 hno ht
        | exact m3 hno hnt2
        | exact m3 hno (far hfa)
        | exact m1 ho
      · refine ⟨_, rfl, ?_⟩
        refine b_if_eq (tgt := 120) rfl rfl (fun _ => ?_) (fun z => absurd z (by decide))
        refine b_aload_n rfl rfl ?_
        refine b_iload rfl rfl ?_
        refine b_iload rfl rfl ?_
        refine b_iconst rfl (by decide) ?_
        refine b_callV3i (ν := MX8_isNear) rfl ml8_70 cvX8_isNear (d' := 1) (by omega) rfl (by decide) rfl (Nat.le_of_ble_eq_true rfl) ?_
        refine spf_isNear hS (by omega) (by omega) (Or.inr rfl) (fun hne => ?_) (fun hfa => ?_)
        · refine ⟨_, rfl, ?_⟩
          refine b_if_eq (tgt := 147) rfl rfl (fun z => absurd z (by decide)) (fun _ => ?_)
          refine b_aload_n rfl rfl ?_
          refine b_iload rfl rfl ?_
          refine b_iload rfl rfl ?_
          refine b_callV2i (ν := MX8_twoSwapsLevel) rfl ml8_74 cvX8_twoSwapsLevel (d' := 5) (by omega) rfl (by decide) rfl (Nat.le_of_ble_eq_true rfl) ?_
          refine spf_twoSwaps hS hf3 (by omega) (by omega) (fun ht => ?_) (fun hnt2 => ?_)
          · refine ⟨_, rfl, ?_⟩
            refine b_if_eq (tgt := 147) rfl rfl (fun z => absurd z (by decide)) (fun _ => ?_)
            refine b_iconst rfl (by decide) ?_
            refine b_goto (tgt := 148) rfl rfl ?_
            refine b_iret rfl rfl ?_
            first
            | exact m2 hno ht
            | exact m3 hno hnt2
            | exact m3 hno (far hfa)
            | exact m1 ho
          · refine ⟨_, rfl, ?_⟩
            refine b_if_eq (tgt := 147) rfl rfl (fun _ => ?_) (fun z => absurd z (by decide))
            refine b_iconst rfl (by decide) ?_
            refine b_iret rfl rfl ?_
            first
            | exact m2 hno ht
            | exact m3 hno hnt2
            | exact m3 hno (far hfa)
            | exact m1 ho
        · refine ⟨_, rfl, ?_⟩
          refine b_if_eq (tgt := 147) rfl rfl (fun _ => ?_) (fun z => absurd z (by decide))
          refine b_iconst rfl (by decide) ?_
          refine b_iret rfl rfl ?_
          first
          | exact m2 hno ht
          | exact m3 hno hnt2
          | exact m3 hno (far hfa)
          | exact m1 ho
    refine b_aload_n rfl rfl ?_
    refine b_getR (r := 27) rfl fl8_22 rfl (by decide) rfl rfl ?_
    refine b_aload_n rfl rfl ?_
    refine b_getR (r := 53) rfl fl8_9 rfl (by decide) rfl rfl ?_
    refine b_iload_n rfl rfl ?_
    refine b_callV2i (ν := MX5_tipOf) rfl ml8_54 cvX5_tipOf (d' := 3) (by omega) rfl (by decide) rfl (Nat.le_of_ble_eq_true rfl) ?_
    refine sp_X5_tipOf_53 hpK hcb (hsK a ha) ?_
    rw [eT, htA]
    refine ⟨_, rfl, ?_⟩
    refine b_istoreX (F := fun z65 => [some (aR 52), some (aR 32), some (aI (a : Int)), some (aI (b : Int)), some (aI z65), none]) rfl (by decide) (fun _ => rfl) (fun z65 ez65 => ?_)
    refine b_aload_n rfl rfl ?_
    refine b_getR (r := 27) rfl fl8_22 rfl (by decide) rfl rfl ?_
    refine b_aload_n rfl rfl ?_
    refine b_getR (r := 53) rfl fl8_9 rfl (by decide) rfl rfl ?_
    refine b_iload_n rfl rfl ?_
    refine b_callV2i (ν := MX5_tipOf) rfl ml8_54 cvX5_tipOf (d' := 3) (by omega) rfl (by decide) rfl (Nat.le_of_ble_eq_true rfl) ?_
    refine sp_X5_tipOf_53 hpK hcb (hsK b hb) ?_
    rw [eT, htB]
    refine ⟨_, rfl, ?_⟩
    refine b_istoreX (F := fun z79 => [some (aR 52), some (aR 32), some (aI (a : Int)), some (aI (b : Int)), some (aI z65), some (aI z79)]) rfl (by decide) (fun _ => rfl) (fun z79 ez79 => ?_)
    refine b_iload rfl rfl ?_
    refine b_mabs (z := if 0 ≤ z65 then z65 else -z65) rfl ml8_60 (by omega) (Nat.le_of_ble_eq_true rfl) (by omega) ?_
    refine b_aload_n rfl rfl ?_
    refine b_getI rfl fl8_45 rfl (by decide) rfl ?_
    rw [s7]
    refine b_icmp_gt (tgt := 107) rfl rfl (fun c90 => ?_) (fun c90 => ?_)
    · have hnl : ¬ ((-TA ≤ tA ∧ tA ≤ TA) ∧ (-TB ≤ tB ∧ tB ≤ TB)) := by
        first
          | (split at c102 <;> omega)
          | (split at c90 <;> omega)
      subst ez65
      subst ez79
      exact tail_ (fun h2 => l2 hnl h2) (fun h2 h3 => l3 hnl h2 h3) (fun h2 h3 => l4 hnl h2 h3)
    · refine b_iload rfl rfl ?_
      refine b_mabs (z := if 0 ≤ z79 then z79 else -z79) rfl ml8_60 (by omega) (Nat.le_of_ble_eq_true rfl) (by omega) ?_
      refine b_aload_n rfl rfl ?_
      refine b_getI rfl fl8_48 rfl (by decide) rfl ?_
      rw [s8]
      refine b_icmp_gt (tgt := 107) rfl rfl (fun c102 => ?_) (fun c102 => ?_)
      · have hnl : ¬ ((-TA ≤ tA ∧ tA ≤ TA) ∧ (-TB ≤ tB ∧ tB ≤ TB)) := by
          first
            | (split at c102 <;> omega)
            | (split at c90 <;> omega)
        subst ez65
        subst ez79
        exact tail_ (fun h2 => l2 hnl h2) (fun h2 h3 => l3 hnl h2 h3) (fun h2 h3 => l4 hnl h2 h3)
      · refine b_iconst rfl (by decide) ?_
        refine b_iret rfl rfl ?_
        exact l1 ⟨by split at c90 <;> omega, by split at c102 <;> omega⟩
  have f7a := fo_ship (f := 7) ha
  have f7b := fo_ship (f := 7) hb
  refine b_aload_n rfl rfl ?_
  refine b_iconst rfl (by decide) ?_
  refine b_aload_n rfl rfl ?_
  refine b_getR (r := 53) rfl fl8_9 rfl (by decide) rfl rfl ?_
  refine b_iconst rfl (by decide) ?_
  refine b_sipush rfl (by decide) ?_
  refine b_copy rfl ml8_26 (by omega) rfl rfl (by omega) (by omega) (by omega) (by omega) (by omega) ?_
  rw [show cpy I 32 53 (Int.toNat 0) (Int.toNat 0) (Int.toNat 144) = row I 53 F from by rw [← hF]; exact cpy_tr3]
  refine b_aload_n rfl rfl ?_
  refine b_iload_n rfl rfl ?_
  refine b_putI rfl fl8_32 rfl (by decide) rfl ?_
  refine b_aload_n rfl rfl ?_
  refine b_iload_n rfl rfl ?_
  refine b_putI rfl fl8_36 rfl (by decide) rfl ?_
  refine b_aload_n rfl rfl ?_
  refine b_aload_n rfl rfl ?_
  refine b_getR (r := 3) rfl fl8_18 rfl (by decide) rfl rfl ?_
  refine b_iconst rfl (by decide) ?_
  refine b_iload_n rfl rfl ?_
  refine b_callV2i (ν := MX3_secondOf) rfl ml8_39 cvX3_secondOf (d' := 1) (by omega) rfl (by decide) rfl (Nat.le_of_ble_eq_true rfl) ?_
  refine sp_X3_secondOf_3 (I := up (up (row I 53 F) 52 5 (a : Int)) 52 6 (b : Int)) hp.1 ?_
  rw [show fo (up (up (row I 53 F) 52 5 (a : Int)) 52 6 (b : Int)) 4 7 1 (a : Int) = fo I 4 7 1 (a : Int) from rfl, f7a]
  refine ⟨_, rfl, ?_⟩
  refine b_putI rfl fl8_45 rfl (by decide) rfl ?_
  refine b_aload_n rfl rfl ?_
  refine b_aload_n rfl rfl ?_
  refine b_getR (r := 3) rfl fl8_18 rfl (by decide) rfl rfl ?_
  refine b_iconst rfl (by decide) ?_
  refine b_iload_n rfl rfl ?_
  refine b_callV2i (ν := MX3_secondOf) rfl ml8_39 cvX3_secondOf (d' := 1) (by omega) rfl (by decide) rfl (Nat.le_of_ble_eq_true rfl) ?_
  refine sp_X3_secondOf_3 (I := up (up (up (row I 53 F) 52 5 (a : Int)) 52 6 (b : Int)) 52 7 (I 7 (6 + a))) hp.1 ?_
  rw [show fo (up (up (up (row I 53 F) 52 5 (a : Int)) 52 6 (b : Int)) 52 7 (I 7 (6 + a))) 4 7 1 (b : Int) = fo I 4 7 1 (b : Int) from rfl, f7b]
  refine ⟨_, rfl, ?_⟩
  refine b_putI rfl fl8_48 rfl (by decide) rfl ?_
  refine b_aload_n rfl rfl ?_
  refine b_callV0v (ν := MX8_measureWares) rfl ml8_51 cvX8_measureWares (d' := 3) (by omega) rfl (by decide) rfl (Nat.le_of_ble_eq_true rfl) ?_
  refine sp_X8_measureWares (I := up (up (up (up (row I 53 F) 52 5 (a : Int)) 52 6 (b : Int)) 52 7 (I 7 (6 + a))) 52 8 (I 7 (6 + b))) hp h54 (fun K hK => ?_)
  refine ⟨rfl, ?_⟩
  obtain ⟨m1, m2, m3, m4, m5, m6⟩ := hK
  have e5 : K 52 5 = (a : Int) := m2 5 (by decide)
  have e6 : K 52 6 = (b : Int) := m2 6 (by decide)
  have e7 : K 52 7 = I 7 (6 + a) := m2 7 (by decide)
  have e8 : K 52 8 = I 7 (6 + b) := m2 8 (by decide)
  have e40 : K 4 0 = I 4 0 := by rw [m1 4 (by decide) (by decide)]; rfl
  refine main K ⟨by omega, w1, e5, e6, by omega, by omega, e7, e8, by omega, m3, m5, fun g w hg hw => m6 g w (show (g : Int) < I 4 0 by omega) (show (w : Int) < I 4 0 by omega)⟩ ?_ (fun q n1 n2 n3 => ?_) (fun w hw => m4 w hw)
  · rw [m1 53 (by decide) (by decide)]; rfl
  · rw [m1 q n1 n3, up_cell n1, up_cell n1, up_cell n1, up_cell n1, row_cell n2]
theorem sp_X11_swaps {I : HI} {Q : Option AV → HI → Prop} {a b : Int} (hp : pOK I) (hz : CZ I) (hc : ∀ k, 0 ≤ I 32 k ∧ I 32 k ≤ 20) (hc3 : ∀ k, 0 ≤ I 53 k ∧ I 53 k ≤ 20) (h54 : ∀ w, -99 ≤ I 54 w ∧ I 54 w ≤ 99) (k1 : ∀ s t : Nat, a = (s : Int) → b = (t : Int) → (s : Int) < I 4 1 → (t : Int) < I 4 1 → s ≠ t → ∀ K nt, swK I K → (∀ w : Nat, (w : Int) < I 4 0 → nt w = I 6 w - I 7 w) → Q (some (aI (swV (tr3 I) nt (nW I) s t (I 7 (6 + s)) (I 7 (6 + t)) (tT (row I 53 (tr3 I)) 53 s) (tT (row I 53 (tr3 I)) 53 t)))) K) (k0 : ¬ (kO I 4 1 a ∧ kO I 4 1 b ∧ a ≠ b) → Q (some (aI (-1))) I) : Rj MX11_swaps 7 [aR 0, aI a, aI b] I Q := by
  refine rj_of okX11_swaps (Nat.le_of_ble_eq_true rfl) rfl ?_
  have good : ∀ s t : Nat, a = (s : Int) → b = (t : Int) → (s : Int) < I 4 1 → (t : Int) < I 4 1 → s ≠ t → Bj MX11_swaps 7 31 [some (aR 0), some (aI (s : Int)), some (aI (t : Int))] [] I Q := by
    intro s t ha hb hs ht hst
    refine b_aload_n rfl rfl ?_
    refine b_getR (r := 52) rfl fl11_79 rfl (by decide) rfl rfl ?_
    refine b_aload_n rfl rfl ?_
    refine b_getR (r := 30) rfl fl11_44 rfl (by decide) rfl rfl ?_
    refine b_getR (r := 32) rfl fl11_198 rfl (by decide) rfl rfl ?_
    refine b_iload_n rfl rfl ?_
    refine b_iload_n rfl rfl ?_
    refine b_callV3i (ν := MX8_fewest) rfl ml11_276 cvX8_fewest (d' := 6) (by omega) rfl (by decide) rfl (Nat.le_of_ble_eq_true rfl) ?_
    refine sp_X8_fewest hp hz hc hc3 h54 hs ht (fun K nt hK hnt => ?_)
    refine ⟨_, rfl, ?_⟩
    refine b_iret rfl rfl ?_
    exact k1 s t ha hb hs ht hst K nt hK hnt
  refine b_aload_n rfl rfl ?_
  refine b_getR (r := 3) rfl fl11_19 rfl (by decide) rfl rfl ?_
  refine b_iconst rfl (by decide) ?_
  refine b_iload_n rfl rfl ?_
  refine b_callV2i (ν := MX3_knows) rfl ml11_175 cvX3_knows (d' := 0) (by omega) rfl (by decide) rfl (Nat.le_of_ble_eq_true rfl) ?_
  refine spf_knows (fun hk => ?_) (fun hk => ?_)
  · refine ⟨_, rfl, ?_⟩
    refine b_if_eq (tgt := 29) rfl rfl (fun z => absurd z (by decide)) (fun _ => ?_)
    refine b_aload_n rfl rfl ?_
    refine b_getR (r := 3) rfl fl11_19 rfl (by decide) rfl rfl ?_
    refine b_iconst rfl (by decide) ?_
    refine b_iload_n rfl rfl ?_
    refine b_callV2i (ν := MX3_knows) rfl ml11_175 cvX3_knows (d' := 0) (by omega) rfl (by decide) rfl (Nat.le_of_ble_eq_true rfl) ?_
    refine spf_knows (fun hk => ?_) (fun hk => ?_)
    · refine ⟨_, rfl, ?_⟩
      refine b_if_eq (tgt := 29) rfl rfl (fun z => absurd z (by decide)) (fun _ => ?_)
      refine b_iload_n rfl rfl ?_
      refine b_iload_n rfl rfl ?_
      refine b_icmp_ne (tgt := 31) rfl rfl (fun c26 => ?_) (fun c26 => ?_)
      · have g1 : 0 ≤ a ∧ a < I 4 1 := (show kO I 4 1 a by assumption).2.2
        have g2 : 0 ≤ b ∧ b < I 4 1 := (show kO I 4 1 b by assumption).2.2
        obtain ⟨s, hsa⟩ : ∃ s : Nat, a = (s : Int) := ⟨a.toNat, by omega⟩
        obtain ⟨t, htb⟩ : ∃ t : Nat, b = (t : Int) := ⟨b.toNat, by omega⟩
        subst hsa
        subst htb
        exact good s t rfl rfl g1.2 g2.2 (by omega)
      · refine b_iconst rfl (by decide) ?_
        refine b_iret rfl rfl ?_
        first
        | exact k0 (fun w => absurd w.2.1 (by assumption))
        | exact k0 (fun w => absurd w.1 (by assumption))
        | exact k0 (fun w => w.2.2 (by assumption))
    · refine ⟨_, rfl, ?_⟩
      refine b_if_eq (tgt := 29) rfl rfl (fun _ => ?_) (fun z => absurd z (by decide))
      refine b_iconst rfl (by decide) ?_
      refine b_iret rfl rfl ?_
      first
      | exact k0 (fun w => absurd w.2.1 (by assumption))
      | exact k0 (fun w => absurd w.1 (by assumption))
      | exact k0 (fun w => w.2.2 (by assumption))
  · refine ⟨_, rfl, ?_⟩
    refine b_if_eq (tgt := 29) rfl rfl (fun _ => ?_) (fun z => absurd z (by decide))
    refine b_iconst rfl (by decide) ?_
    refine b_iret rfl rfl ?_
    first
    | exact k0 (fun w => absurd w.2.1 (by assumption))
    | exact k0 (fun w => absurd w.1 (by assumption))
    | exact k0 (fun w => w.2.2 (by assumption))
