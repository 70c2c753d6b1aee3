/-! ===== Rows: rode ===== -/
def rdP (I : HI) (C : Nat → List Int) (w c : Nat) : Prop := ∀ k : Nat, 4 * (k : Int) < I 1 1 → hei C (pr I (4 * (k : Int))) (c * I 6 w) (c * I 7 w) (c * I 6 w - c * I 7 w) = pr I (4 * (k : Int) + 2)
theorem pr_to {I J : HI} {k : Int} (h1 : J 1 = I 1) (h2 : J 2 = I 2) : tAt J k * 256 + tAt J (k + 1) = pr I k := by
  unfold pr
  rw [tAt_to h1 h2, tAt_to h1 h2]
theorem pr_in {I : HI} {k : Int} (hB : ∀ j, 0 ≤ I 2 j ∧ I 2 j < 256) (h0 : 0 ≤ k) (h1 : k + 1 < I 1 1) : 0 ≤ pr I k ∧ pr I k ≤ 65535 := by
  unfold pr tAt
  rw [if_pos ⟨h0, by omega⟩, if_pos ⟨by omega, by omega⟩]
  have a := hB k.toNat
  have b := hB (k + 1).toNat
  omega
theorem Sc_at2 {I K : HI} {C : Nat → List Int} {h : Int} (hS : Sc I K) (hh : 0 ≤ h ∧ h ≤ 100000) : At I (atH K C h) C h := by
  refine ⟨⟨fun q h1 h2 => by rw [atH_cell h1]; exact hS.1 q h1 h2, seB_at hS.2 hh⟩, ?_, ?_, ?_⟩
  · unfold atH; simp only [up_ap, Nat.reduceEqDiff, and_false, true_and, reduceIte]
  · unfold atH; simp only [up_ap, Nat.reduceEqDiff, and_false, true_and, reduceIte]
  · unfold atH; simp only [up_ap, Nat.reduceEqDiff, and_false, true_and, reduceIte]
theorem Sc_lkA {I K : HI} {C : Nat → List Int} {h w l t c : Int} {g : Nat → Int} (hS : Sc I K) (hb : -900000 ≤ w ∧ w ≤ 900000 ∧ 0 ≤ l ∧ l ≤ 200000 ∧ -900000 ≤ t ∧ t ≤ 900000 ∧ -900000 ≤ c ∧ c ≤ 900000) : Sc I (row (lkA K C h w l t c) 29 g) := by
  refine ⟨fun q h1 h2 => by rw [row_cell h2, lkA_cell h1]; exact hS.1 q h1 h2, ?_⟩
  have := hei_in C h w l t
  refine seB_row ?_
  unfold lkA
  exact seB_up (seB_up (seB_up (seB_up (seB_up hS.2 (by omega)) (by omega)) (by omega)) (by omega)) (by omega)
theorem spa_rodeSo {I J : HI} {Q : Option AV → HI → Prop} {C : Nat → List Int} {w c : Nat} (hP : CP I C) (hS : Sc I J) (hB : ∀ j, 0 ≤ I 2 j ∧ I 2 j < 256) (hH : ahP I) (hw : (w : Int) < I 4 0) (hc : c ≤ 20) (h50 : ∀ k : Nat, 4 * (k : Int) < I 1 1 → I 50 k = wat C (pr I (4 * (k : Int))) ∧ I 51 k = mon C (pr I (4 * (k : Int)))) (k1 : rdP I C w c → ∀ K, Sc I K → Q (some (aI 1)) K) (k0 : ¬ rdP I C w c → ∀ K, Sc I K → Q (some (aI 0)) K) : Rj MX6_rodeSo 4 [aR 44, aI (w : Int), aI (c : Int)] J Q := by
  have hw6 : w < 6 := by have := hP.1.1 0 (by decide); omega
  have hr := hP.1.2.1 w hw6
  have m1 := mulB (a := (c : Int)) (b := I 6 w) (A := 20) (B := 99) (by omega) (by omega)
  have m2 := mulB (a := (c : Int)) (b := I 7 w) (A := 20) (B := 99) (by omega) (by omega)
  have m3 : 0 ≤ (c : Int) * I 7 w := Int.mul_nonneg (by omega) (by omega)
  have h1 := hH.1
  have h2 := hH.2.1
  have h3 := hH.2.2.1
  have lp : ∀ (n i : Nat) (y z : Int) (K : HI), Sc I K → (∀ k : Nat, k < i → hei C (pr I (4 * (k : Int))) (c * I 6 w) (c * I 7 w) (c * I 6 w - c * I 7 w) = pr I (4 * (k : Int) + 2)) → z = (i : Int) → 4 * ((i : Int) + n) = I 1 1 → Bj MX6_rodeSo 4 28 [some (aR 44), some (aI (w : Int)), some (aI (c : Int)), some (aI (c * I 6 w)), some (aI (c * I 7 w)), some (aI z)] [] K Q := by
    intro n
    induction n with
    | zero =>
      intro i y z K hK hh hz hi
      have q11 : K 1 1 = I 1 1 := by rw [hK.1 1 (by decide) (by decide)]
      refine b_iconst rfl (by decide) ?_
      refine b_iload rfl rfl ?_
      refine b_imulN rfl (by omega) (by omega) ?_
      refine b_aload_n rfl rfl ?_
      refine b_getR (r := 1) rfl fl6_42 rfl (by decide) rfl rfl ?_
      refine b_getI rfl fl6_53 rfl (by decide) rfl ?_
      refine b_icmp_ge (tgt := 143) rfl rfl (fun c39 => ?_) (fun c39 => ?_)
      · refine b_iconst rfl (by decide) ?_
        refine b_zret rfl rfl (by first | decide | omega) ?_
        exact k1 (fun k hk => hh k (by omega)) K hK
      · omega
    | succ n ih =>
      intro i y z K hK hh hz hi
      subst hz
      have q1 : K 1 = I 1 := hK.1 1 (by decide) (by decide)
      have q2 : K 2 = I 2 := hK.1 2 (by decide) (by decide)
      have q11 : K 1 1 = I 1 1 := by rw [q1]
      have q50 : K 50 i = wat C (pr I (4 * (i : Int))) := by rw [hK.1 50 (by decide) (by decide)]; exact (h50 i (by omega)).1
      have q51 : K 51 i = mon C (pr I (4 * (i : Int))) := by rw [hK.1 51 (by decide) (by decide)]; exact (h50 i (by omega)).2
      have hB2 : ∀ j, 0 ≤ K 2 j ∧ K 2 j < 256 := by rw [q2]; exact hB
      have hpr := pr_in (I := I) (k := 4 * (i : Int)) hB (by omega) (by omega)
      have hA := Sc_at2 (C := C) hK (h := pr I (4 * (i : Int))) (by omega)
      have g1 : atH K C (pr I (4 * (i : Int))) 1 = I 1 := hA.1.1 1 (by decide) (by decide)
      have g2 : atH K C (pr I (4 * (i : Int))) 2 = I 2 := hA.1.1 2 (by decide) (by decide)
      have hP2 := hP.to hA.1
      have hgo : ∀ g : Nat → Int, Sc I (row (lkA (atH K C (pr I (4 * (i : Int)))) C (pr I (4 * (i : Int))) (c * I 6 w) (c * I 7 w) (c * I 6 w - c * I 7 w) c) 29 g) := fun g => Sc_lkA hA.1 (by omega)
      have hg7 : ∀ g : Nat → Int, row (lkA (atH K C (pr I (4 * (i : Int)))) C (pr I (4 * (i : Int))) (c * I 6 w) (c * I 7 w) (c * I 6 w - c * I 7 w) c) 29 g 28 7 = hei C (pr I (4 * (i : Int))) (c * I 6 w) (c * I 7 w) (c * I 6 w - c * I 7 w) := fun g => by
        rw [row_cell (by decide)]
        unfold lkA
        exact up_s
      refine b_iconst rfl (by decide) ?_
      refine b_iload rfl rfl ?_
      refine b_imulN rfl (by omega) (by omega) ?_
      refine b_aload_n rfl rfl ?_
      refine b_getR (r := 1) rfl fl6_42 rfl (by decide) rfl rfl ?_
      refine b_getI rfl fl6_53 rfl (by decide) rfl ?_
      refine b_icmp_ge (tgt := 143) rfl rfl (fun c39 => ?_) (fun c39 => ?_)
      · omega
      · refine b_aload_n rfl rfl ?_
        refine b_getR (r := 27) rfl fl6_38 rfl (by decide) rfl rfl ?_
        refine b_getR (r := 28) rfl fl6_148 rfl (by decide) rfl rfl ?_
        refine b_iconst rfl (by decide) ?_
        refine b_aload_n rfl rfl ?_
        refine b_getR (r := 1) rfl fl6_42 rfl (by decide) rfl rfl ?_
        refine b_iconst rfl (by decide) ?_
        refine b_iload rfl rfl ?_
        refine b_imulN rfl (by omega) (by omega) ?_
        refine b_callV1i (ν := MX9_pairAt) rfl ml6_145 cvX9_pairAt (d' := 1) (by omega) rfl (by decide) rfl (Nat.le_of_ble_eq_true rfl) ?_
        refine sp_X9_pairAt (by omega) hB2 (by omega) ?_
        rw [pr_to q1 q2]
        refine ⟨_, rfl, ?_⟩
        refine b_iastL (k := 0) rfl rfl rfl (by decide) ?_
        refine b_aload_n rfl rfl ?_
        refine b_getR (r := 27) rfl fl6_38 rfl (by decide) rfl rfl ?_
        refine b_getR (r := 28) rfl fl6_148 rfl (by decide) rfl rfl ?_
        refine b_iconst rfl (by decide) ?_
        refine b_aload_n rfl rfl ?_
        refine b_getR (r := 50) rfl fl6_28 rfl (by decide) rfl rfl ?_
        refine b_iload rfl rfl ?_
        refine b_iald rfl rfl (by omega) (by omega) ?_
        try simp only [up_ap, cpy_ap, fil_ap, row_ap, Nat.reduceEqDiff, Nat.reduceLT, Nat.reduceLeDiff, Int.toNat_natCast, Int.reduceToNat, reduceCtorEq, false_and, and_false, true_and, and_true, and_self, reduceIte]
        rw [q50]
        refine b_iastL (k := 1) rfl rfl rfl (by decide) ?_
        refine b_aload_n rfl rfl ?_
        refine b_getR (r := 27) rfl fl6_38 rfl (by decide) rfl rfl ?_
        refine b_getR (r := 28) rfl fl6_148 rfl (by decide) rfl rfl ?_
        refine b_iconst rfl (by decide) ?_
        refine b_aload_n rfl rfl ?_
        refine b_getR (r := 51) rfl fl6_31 rfl (by decide) rfl rfl ?_
        refine b_iload rfl rfl ?_
        refine b_iald rfl rfl (by omega) (by omega) ?_
        try simp only [up_ap, cpy_ap, fil_ap, row_ap, Nat.reduceEqDiff, Nat.reduceLT, Nat.reduceLeDiff, Int.toNat_natCast, Int.reduceToNat, reduceCtorEq, false_and, and_false, true_and, and_true, and_self, reduceIte]
        rw [q51]
        refine b_iastL (k := 2) rfl rfl rfl (by decide) ?_
        rw [show up (up (up K 28 0 (pr I (4 * (i : Int)))) 28 1 (wat C (pr I (4 * (i : Int))))) 28 2 (mon C (pr I (4 * (i : Int)))) = atH K C (pr I (4 * (i : Int))) from rfl]
        refine b_aload_n rfl rfl ?_
        refine b_getR (r := 27) rfl fl6_38 rfl (by decide) rfl rfl ?_
        refine b_iload_n rfl rfl ?_
        refine b_iload rfl rfl ?_
        refine b_iload_n rfl rfl ?_
        refine b_iload rfl rfl ?_
        refine b_isubN rfl (by omega) (by omega) ?_
        refine b_iload_n rfl rfl ?_
        refine b_callV4v (ν := MX5_lookAt) rfl ml6_160 cvX5_lookAt (d' := 3) (by omega) rfl (by decide) rfl (Nat.le_of_ble_eq_true rfl) ?_
        refine sp_X5_lookAt (h := pr I (4 * (i : Int))) hP2.2.1 hP2.2.2 hA.1.2 hA.2.1 hA.2.2.1 hA.2.2.2 (by omega) (fun g => ?_)
        have g3 : row (lkA (atH K C (pr I (4 * (i : Int)))) C (pr I (4 * (i : Int))) (c * I 6 w) (c * I 7 w) (c * I 6 w - c * I 7 w) c) 29 g 1 = I 1 := (hgo g).1 1 (by decide) (by decide)
        have g4 : row (lkA (atH K C (pr I (4 * (i : Int)))) C (pr I (4 * (i : Int))) (c * I 6 w) (c * I 7 w) (c * I 6 w - c * I 7 w) c) 29 g 2 = I 2 := (hgo g).1 2 (by decide) (by decide)
        have g5 : row (lkA (atH K C (pr I (4 * (i : Int)))) C (pr I (4 * (i : Int))) (c * I 6 w) (c * I 7 w) (c * I 6 w - c * I 7 w) c) 29 g 1 1 = I 1 1 := by rw [g3]
        have hg := hgo g
        have h7 := hg7 g
        generalize row (lkA (atH K C (pr I (4 * (i : Int)))) C (pr I (4 * (i : Int))) (c * I 6 w) (c * I 7 w) (c * I 6 w - c * I 7 w) c) 29 g = M at *
        refine ⟨rfl, ?_⟩
        refine b_aload_n rfl rfl ?_
        refine b_getR (r := 27) rfl fl6_38 rfl (by decide) rfl rfl ?_
        refine b_getR (r := 28) rfl fl6_148 rfl (by decide) rfl rfl ?_
        refine b_bipush rfl (by decide) ?_
        refine b_ialdL (k := 7) rfl rfl rfl (by decide) ?_
        rw [h7]
        refine b_aload_n rfl rfl ?_
        refine b_getR (r := 1) rfl fl6_42 rfl (by decide) rfl rfl ?_
        refine b_iconst rfl (by decide) ?_
        refine b_iload rfl rfl ?_
        refine b_imulN rfl (by omega) (by omega) ?_
        refine b_iconst rfl (by decide) ?_
        refine b_iaddN rfl (by omega) (by omega) ?_
        refine b_callV1i (ν := MX9_pairAt) rfl ml6_145 cvX9_pairAt (d' := 1) (by omega) rfl (by decide) rfl (Nat.le_of_ble_eq_true rfl) ?_
        refine sp_X9_pairAt (by omega) (by rw [g4]; exact hB) (by omega) ?_
        rw [pr_to g3 g4]
        refine ⟨_, rfl, ?_⟩
        refine b_icmp_eq (tgt := 137) rfl rfl (fun c132 => ?_) (fun c132 => ?_)
        · refine b_iincX (F := fun z137 => [some (aR 44), some (aI (w : Int)), some (aI (c : Int)), some (aI (c * I 6 w)), some (aI (c * I 7 w)), some (aI z137)]) rfl rfl (by omega) (by omega) (fun _ => rfl) (fun z137 ez137 => ?_)
          refine b_goto (tgt := 28) rfl rfl ?_
          refine ih (i + 1) y _ M hg (fun k hk => ?_) (by omega) (by omega)
          by_cases e : k = i
          · subst e; exact c132
          · exact hh k (by omega)
        · refine b_iconst rfl (by decide) ?_
          refine b_zret rfl rfl (by first | decide | omega) ?_
          exact k0 (fun w => c132 (w i (by omega))) M hg
  have q4 : J 4 = I 4 := hS.1 4 (by decide) (by decide)
  have q6 : J 6 = I 6 := hS.1 6 (by decide) (by decide)
  have q7 : J 7 = I 7 := hS.1 7 (by decide) (by decide)
  have f6 := fo_ware (I := J) (f := 6) (w := w) (by rw [q4]; exact hw)
  have f7 := fo_ware (I := J) (f := 7) (w := w) (by rw [q4]; exact hw)
  rw [q6] at f6
  rw [q7] at f7
  refine rj_of okX6_rodeSo (Nat.le_of_ble_eq_true rfl) rfl ?_
  refine b_iload_n rfl rfl ?_
  refine b_aload_n rfl rfl ?_
  refine b_getR (r := 3) rfl fl6_34 rfl (by decide) rfl rfl ?_
  refine b_iconst rfl (by decide) ?_
  refine b_iload_n rfl rfl ?_
  refine b_callV2i (ν := MX3_firstOf) rfl ml6_96 cvX3_firstOf (d' := 1) (by omega) rfl (by decide) rfl (Nat.le_of_ble_eq_true rfl) ?_
  refine sp_X3_firstOf_3 (hP.to hS).1.1 ?_
  rw [f6]
  refine ⟨_, rfl, ?_⟩
  refine b_imulN rfl (by omega) (by omega) ?_
  refine b_istoreX_n (F := fun z11 => [some (aR 44), some (aI (w : Int)), some (aI (c : Int)), some (aI z11), none, none]) rfl (by decide) (fun _ => rfl) (fun z11 ez11 => ?_)
  refine b_iload_n rfl rfl ?_
  refine b_aload_n rfl rfl ?_
  refine b_getR (r := 3) rfl fl6_34 rfl (by decide) rfl rfl ?_
  refine b_iconst rfl (by decide) ?_
  refine b_iload_n rfl rfl ?_
  refine b_callV2i (ν := MX3_secondOf) rfl ml6_157 cvX3_secondOf (d' := 1) (by omega) rfl (by decide) rfl (Nat.le_of_ble_eq_true rfl) ?_
  refine sp_X3_secondOf_3 (hP.to hS).1.1 ?_
  rw [f7]
  refine ⟨_, rfl, ?_⟩
  refine b_imulN rfl (by omega) (by omega) ?_
  refine b_istoreX (F := fun z23 => [some (aR 44), some (aI (w : Int)), some (aI (c : Int)), some (aI z11), some (aI z23), none]) rfl (by decide) (fun _ => rfl) (fun z23 ez23 => ?_)
  refine b_iconst rfl (by decide) ?_
  refine b_istoreX (F := fun z26 => [some (aR 44), some (aI (w : Int)), some (aI (c : Int)), some (aI z11), some (aI z23), some (aI z26)]) rfl (by decide) (fun _ => rfl) (fun z26 ez26 => ?_)
  subst ez11
  subst ez23
  exact lp (I 1 1 / 4).toNat 0 0 _ J hS (fun k hk => absurd hk (by omega)) (by omega) (by omega)
noncomputable def rdN (I : HI) (C : Nat → List Int) (n w : Nat) : Int := sumN n (fun c => pI (rdP I C w (c + 1)) 1 0)
noncomputable def rdT (I : HI) (C : Nat → List Int) (n : Nat) : Int := sumN n (fun w => rdN I C 20 w)
theorem rdN_in {I : HI} {C : Nat → List Int} (n w : Nat) : 0 ≤ rdN I C n w ∧ rdN I C n w ≤ n := by
  have h := sumN_le (n := n) (f := fun c => pI (rdP I C w (c + 1)) 1 0) (a := 0) (b := 1) (fun c _ => by
    show 0 ≤ pI (rdP I C w (c + 1)) 1 0 ∧ pI (rdP I C w (c + 1)) 1 0 ≤ 1
    by_cases e : rdP I C w (c + 1)
    · rw [pI_1 e]; omega
    · rw [pI_0 e]; omega)
  unfold rdN
  omega
theorem rdT_in {I : HI} {C : Nat → List Int} (n : Nat) : 0 ≤ rdT I C n ∧ rdT I C n ≤ n * 20 := by
  have h := sumN_le (n := n) (f := fun w => rdN I C 20 w) (a := 0) (b := 20) (fun w _ => by have := rdN_in (I := I) (C := C) 20 w; omega)
  unfold rdT
  omega
def rdK (I K : HI) : Prop := (∀ q, q ≠ 28 → q ≠ 29 → q ≠ 50 → q ≠ 51 → K q = I q) ∧ seB K
theorem rdP_to {I J : HI} {C : Nat → List Int} {w c : Nat} (h1 : J 1 = I 1) (h2 : J 2 = I 2) (h6 : J 6 = I 6) (h7 : J 7 = I 7) : rdP J C w c ↔ rdP I C w c := by
  have e : ∀ k, pr J k = pr I k := fun k => pr_to h1 h2
  unfold rdP
  simp only [e, h1, h6, h7]
theorem sp_X6_pairsThatRode {I : HI} {Q : Option AV → HI → Prop} {C : Nat → List Int} (hP : CP I C) (hse : seB I) (hB : ∀ j, 0 ≤ I 2 j ∧ I 2 j < 256) (hH : ahP I) (kq : ∀ K, rdK I K → Q (some (aI (rdT I C (nW I)))) K) : Rj MX6_pairsThatRode 5 [aR 44] I Q := by
  have h1 := hH.1
  have h2 := hH.2.1
  have h3 := hH.2.2.1
  obtain ⟨w1, w2⟩ := nW_in hP.1
  have wares : ∀ (M : HI), (∀ q, q ≠ 50 → q ≠ 51 → M q = I q) → (∀ k : Nat, 4 * (k : Int) < I 1 1 → M 50 k = wat C (pr I (4 * (k : Int))) ∧ M 51 k = mon C (pr I (4 * (k : Int)))) → ∀ (n i : Nat) (y z : Int) (x : Option AV) (K : HI), Sc M K → y = rdT I C i → z = (i : Int) → i + n = nW I → Bj MX6_pairsThatRode 5 72 [some (aR 44), some (aI y), some (aI z), x] [] K Q := by
    intro M hM h50
    have m1 : M 1 = I 1 := hM 1 (by decide) (by decide)
    have m2 : M 2 = I 2 := hM 2 (by decide) (by decide)
    have m4 : M 4 = I 4 := hM 4 (by decide) (by decide)
    have m6 : M 6 = I 6 := hM 6 (by decide) (by decide)
    have m7 : M 7 = I 7 := hM 7 (by decide) (by decide)
    have m11 : M 1 1 = I 1 1 := by rw [m1]
    have hPM : CP M C := ⟨pOK_to hP.1 m4 m6 m7, FM_to hP.2.1 (hM 8 (by decide) (by decide)) (hM 9 (by decide) (by decide)) (hM 10 (by decide) (by decide)), hP.2.2⟩
    have hrd : ∀ w c, rdP M C w c ↔ rdP I C w c := fun w c => rdP_to m1 m2 m6 m7
    have hpr : ∀ k, pr M k = pr I k := fun k => pr_to m1 m2
    have hHM : ahP M := by
      unfold ahP
      rw [m11]
      simp only [hpr]
      exact hH
    intro n
    induction n with
    | zero =>
      intro i y z x K hK hy hz hi
      have ei : i = nW I := by omega
      subst ei
      have q4 : K 4 0 = I 4 0 := by rw [hK.1 4 (by decide) (by decide), m4]
      refine b_iload_n rfl rfl ?_
      refine b_aload_n rfl rfl ?_
      refine b_getR (r := 3) rfl fl6_34 rfl (by decide) rfl rfl ?_
      refine b_getR (r := 4) rfl fl6_151 rfl (by decide) rfl rfl ?_
      refine b_iconst rfl (by decide) ?_
      refine b_ialdL (k := 0) rfl rfl rfl (by decide) ?_
      refine b_icmp_ge (tgt := 117) rfl rfl (fun c82 => ?_) (fun c82 => ?_)
      · refine b_iload_n rfl rfl ?_
        refine b_iret rfl rfl ?_
        exact qI (kq K ⟨fun q n1 n2 n3 n4 => by rw [hK.1 q n1 n2, hM q n3 n4], hK.2⟩) hy.symm rfl
      · omega
    | succ n ih =>
      intro i y z x K hK hy hz hi
      subst hz
      have q4 : K 4 0 = I 4 0 := by rw [hK.1 4 (by decide) (by decide), m4]
      have hT := rdT_in (I := I) (C := C) i
      have inner : ∀ (n c : Nat) (y z : Int) (K : HI), Sc M K → y = rdT I C i + rdN I C c i → z = (c : Int) + 1 → c + n = 20 → Bj MX6_pairsThatRode 5 87 [some (aR 44), some (aI y), some (aI (i : Int)), some (aI z)] [] K Q := by
        intro n
        induction n with
        | zero =>
          intro c y z K hK hy hz hc
          have ec : c = 20 := by omega
          subst ec
          refine b_iload_n rfl rfl ?_
          refine b_bipush rfl (by decide) ?_
          refine b_icmp_gt (tgt := 111) rfl rfl (fun c90 => ?_) (fun c90 => ?_)
          · refine b_iincX (F := fun z111 => [some (aR 44), some (aI y), some (aI z111), some (aI z)]) rfl rfl (by omega) (by omega) (fun _ => rfl) (fun z111 ez111 => ?_)
            refine b_goto (tgt := 72) rfl rfl ?_
            exact ih (i + 1) _ _ _ K hK hy (by omega) (by omega)
          · omega
        | succ n ihn =>
          intro c y z K hK hy hz hc
          have hN := rdN_in (I := I) (C := C) c i
          have ez : z = ((c + 1 : Nat) : Int) := by omega
          subst ez
          have hs1 : rdN I C (c + 1) i = rdN I C c i + pI (rdP I C i (c + 1)) 1 0 := rfl
          refine b_iload_n rfl rfl ?_
          refine b_bipush rfl (by decide) ?_
          refine b_icmp_gt (tgt := 111) rfl rfl (fun c90 => ?_) (fun c90 => ?_)
          · omega
          · refine b_aload_n rfl rfl ?_
            refine b_iload_n rfl rfl ?_
            refine b_iload_n rfl rfl ?_
            refine b_callV2i (ν := MX6_rodeSo) rfl ml6_154 cvX6_rodeSo (d' := 4) (by omega) rfl (by decide) rfl (Nat.le_of_ble_eq_true rfl) ?_
            refine spa_rodeSo hPM hK (by rw [m2]; exact hB) hHM (by rw [m4]; omega) (by omega) (fun k hk => by rw [hpr]; exact h50 k (by omega)) (fun hr K2 hK2 => ?_) (fun hr K2 hK2 => ?_)
            · refine ⟨_, rfl, ?_⟩
              refine b_if_eq (tgt := 105) rfl rfl (fun z => absurd z (by decide)) (fun _ => ?_)
              refine b_iincX (F := fun z102 => [some (aR 44), some (aI z102), some (aI (i : Int)), some (aI ((c + 1 : Nat) : Int))]) rfl rfl (by omega) (by omega) (fun _ => rfl) (fun z102 ez102 => ?_)
              refine b_iincX (F := fun z105 => [some (aR 44), some (aI z102), some (aI (i : Int)), some (aI z105)]) rfl rfl (by omega) (by omega) (fun _ => rfl) (fun z105 ez105 => ?_)
              refine b_goto (tgt := 87) rfl rfl ?_
              first
              | exact ihn (c + 1) _ _ K2 hK2 (by rw [hs1, pI_1 ((hrd _ _).1 hr)]; omega) (by omega) (by omega)
              | exact ihn (c + 1) _ _ K2 hK2 (by rw [hs1, pI_0 (fun z => hr ((hrd _ _).2 z))]; omega) (by omega) (by omega)
            · refine ⟨_, rfl, ?_⟩
              refine b_if_eq (tgt := 105) rfl rfl (fun _ => ?_) (fun z => absurd z (by decide))
              refine b_iincX (F := fun z105 => [some (aR 44), some (aI y), some (aI (i : Int)), some (aI z105)]) rfl rfl (by omega) (by omega) (fun _ => rfl) (fun z105 ez105 => ?_)
              refine b_goto (tgt := 87) rfl rfl ?_
              first
              | exact ihn (c + 1) _ _ K2 hK2 (by rw [hs1, pI_1 ((hrd _ _).1 hr)]; omega) (by omega) (by omega)
              | exact ihn (c + 1) _ _ K2 hK2 (by rw [hs1, pI_0 (fun z => hr ((hrd _ _).2 z))]; omega) (by omega) (by omega)
      refine b_iload_n rfl rfl ?_
      refine b_aload_n rfl rfl ?_
      refine b_getR (r := 3) rfl fl6_34 rfl (by decide) rfl rfl ?_
      refine b_getR (r := 4) rfl fl6_151 rfl (by decide) rfl rfl ?_
      refine b_iconst rfl (by decide) ?_
      refine b_ialdL (k := 0) rfl rfl rfl (by decide) ?_
      refine b_icmp_ge (tgt := 117) rfl rfl (fun c82 => ?_) (fun c82 => ?_)
      · omega
      · refine b_iconst rfl (by decide) ?_
        refine b_istoreX_n (F := fun z86 => [some (aR 44), some (aI y), some (aI (i : Int)), some (aI z86)]) rfl (by decide) (fun _ => rfl) (fun z86 ez86 => ?_)
        exact inner 20 0 y _ K hK (by show y = _ + 0; omega) (by omega) (by omega)
  have fill : ∀ (n i : Nat) (z : Int) (f g : Nat → Int) (x2 x3 : Option AV) (K : HI), Sc (row (row I 50 f) 51 g) K → (∀ k : Nat, k < i → f k = wat C (pr I (4 * (k : Int))) ∧ g k = mon C (pr I (4 * (k : Int)))) → z = (i : Int) → 4 * ((i : Int) + n) = I 1 1 → Bj MX6_pairsThatRode 5 2 [some (aR 44), some (aI z), x2, x3] [] K Q := by
    intro n
    induction n with
    | zero =>
      intro i z f g x2 x3 K hK hf hz hi
      have q11 : K 1 1 = I 1 1 := by rw [hK.1 1 (by decide) (by decide), row_cell (by decide), row_cell (by decide)]
      refine b_iconst rfl (by decide) ?_
      refine b_iload_n rfl rfl ?_
      refine b_imulN rfl (by omega) (by omega) ?_
      refine b_aload_n rfl rfl ?_
      refine b_getR (r := 1) rfl fl6_42 rfl (by decide) rfl rfl ?_
      refine b_getI rfl fl6_53 rfl (by decide) rfl ?_
      refine b_icmp_ge (tgt := 68) rfl rfl (fun c12 => ?_) (fun c12 => ?_)
      · refine b_iconst rfl (by decide) ?_
        refine b_istoreX_n (F := fun z69 => [some (aR 44), some (aI z69), x2, x3]) rfl (by decide) (fun _ => rfl) (fun z69 ez69 => ?_)
        refine b_iconst rfl (by decide) ?_
        refine b_istoreX_n (F := fun z71 => [some (aR 44), some (aI z69), some (aI z71), x3]) rfl (by decide) (fun _ => rfl) (fun z71 ez71 => ?_)
        refine wares (row (row I 50 f) 51 g) (fun q n1 n2 => by rw [row_cell n2, row_cell n1]) (fun k hk => ?_) (nW I) 0 _ _ _ K hK (by rw [ez69]; rfl) (by omega) (by omega)
        rw [row_cell (by decide), row_same, row_same]
        exact hf k (by omega)
      · omega
    | succ n ih =>
      intro i z f g x2 x3 K hK hf hz hi
      subst hz
      have q1 : K 1 = I 1 := by rw [hK.1 1 (by decide) (by decide), row_cell (by decide), row_cell (by decide)]
      have q2 : K 2 = I 2 := by rw [hK.1 2 (by decide) (by decide), row_cell (by decide), row_cell (by decide)]
      have q11 : K 1 1 = I 1 1 := by rw [q1]
      have hB2 : ∀ j, 0 ≤ K 2 j ∧ K 2 j < 256 := by rw [q2]; exact hB
      have hpr := pr_in (I := I) (k := 4 * (i : Int)) hB (by omega) (by omega)
      have hPM : CP (row (row I 50 f) 51 g) C := CP_row (CP_row hP (by decide)) (by decide)
      refine b_iconst rfl (by decide) ?_
      refine b_iload_n rfl rfl ?_
      refine b_imulN rfl (by omega) (by omega) ?_
      refine b_aload_n rfl rfl ?_
      refine b_getR (r := 1) rfl fl6_42 rfl (by decide) rfl rfl ?_
      refine b_getI rfl fl6_53 rfl (by decide) rfl ?_
      refine b_icmp_ge (tgt := 68) rfl rfl (fun c12 => ?_) (fun c12 => ?_)
      · omega
      · refine b_aload_n rfl rfl ?_
        refine b_getR (r := 27) rfl fl6_38 rfl (by decide) rfl rfl ?_
        refine b_aload_n rfl rfl ?_
        refine b_getR (r := 1) rfl fl6_42 rfl (by decide) rfl rfl ?_
        refine b_iconst rfl (by decide) ?_
        refine b_iload_n rfl rfl ?_
        refine b_imulN rfl (by omega) (by omega) ?_
        refine b_callV1i (ν := MX9_pairAt) rfl ml6_145 cvX9_pairAt (d' := 1) (by omega) rfl (by decide) rfl (Nat.le_of_ble_eq_true rfl) ?_
        refine sp_X9_pairAt (by omega) hB2 (by omega) ?_
        rw [pr_to q1 q2]
        refine ⟨_, rfl, ?_⟩
        refine b_callV1v (ν := MX5_atHour) rfl ml6_122 cvX5_atHour (d' := 3) (by omega) rfl (by decide) rfl (Nat.le_of_ble_eq_true rfl) ?_
        refine spa_atHour hPM hK (by omega) (fun K2 hA => ?_)
        have a1 := hA.2.2.1
        have a2 := hA.2.2.2
        refine ⟨rfl, ?_⟩
        refine b_aload_n rfl rfl ?_
        refine b_getR (r := 50) rfl fl6_28 rfl (by decide) rfl rfl ?_
        refine b_iload_n rfl rfl ?_
        refine b_aload_n rfl rfl ?_
        refine b_getR (r := 27) rfl fl6_38 rfl (by decide) rfl rfl ?_
        refine b_getR (r := 28) rfl fl6_148 rfl (by decide) rfl rfl ?_
        refine b_iconst rfl (by decide) ?_
        refine b_ialdL (k := 1) rfl rfl rfl (by decide) ?_
        rw [a1]
        refine b_iast rfl rfl (by omega) (by omega) ?_
        rw [Int.toNat_natCast]
        refine b_aload_n rfl rfl ?_
        refine b_getR (r := 51) rfl fl6_31 rfl (by decide) rfl rfl ?_
        refine b_iload_n rfl rfl ?_
        refine b_aload_n rfl rfl ?_
        refine b_getR (r := 27) rfl fl6_38 rfl (by decide) rfl rfl ?_
        refine b_getR (r := 28) rfl fl6_148 rfl (by decide) rfl rfl ?_
        refine b_iconst rfl (by decide) ?_
        refine b_ialdL (k := 2) rfl rfl rfl (by decide) ?_
        rw [up_cell (by decide), a2]
        refine b_iast rfl rfl (by omega) (by omega) ?_
        rw [Int.toNat_natCast]
        refine b_iincX (F := fun z62 => [some (aR 44), some (aI z62), x2, x3]) rfl rfl (by omega) (by omega) (fun _ => rfl) (fun z62 ez62 => ?_)
        refine b_goto (tgt := 2) rfl rfl ?_
        refine ih (i + 1) _ (ud f i (wat C (pr I (4 * (i : Int))))) (ud g i (mon C (pr I (4 * (i : Int))))) _ _ _ ?_ (fun k hk => ?_) (by omega) (by omega)
        · refine Sc_cell (by decide) ?_
          have hA1 := hA.1
          rw [show row (row I 50 f) 51 g = row (row I 51 g) 50 f by funext q j; simp only [row_ap]; grind] at hA1
          have := Sc_cell (k := i) (v := wat C (pr I (4 * (i : Int)))) (by decide) hA1
          rw [show row (row I 50 (ud f i (wat C (pr I (4 * (i : Int)))))) 51 g = row (row I 51 g) 50 (ud f i (wat C (pr I (4 * (i : Int))))) by funext q j; simp only [row_ap]; grind]
          exact this
        · unfold ud
          by_cases e : k = i
          · rw [if_pos e, if_pos e, e]; exact ⟨rfl, rfl⟩
          · rw [if_neg e, if_neg e]; exact hf k (by omega)
  refine rj_of okX6_pairsThatRode (Nat.le_of_ble_eq_true rfl) rfl ?_
  refine b_iconst rfl (by decide) ?_
  refine b_istoreX_n (F := fun z1 => [some (aR 44), some (aI z1), none, none]) rfl (by decide) (fun _ => rfl) (fun z1 ez1 => ?_)
  refine fill (I 1 1 / 4).toNat 0 _ (I 50) (I 51) _ _ I ?_ (fun k hk => absurd hk (by omega)) (by omega) (by omega)
  rw [row_self, row_self]
  exact Sc.rf hse
theorem sp_X11_rode {I : HI} {Q : Option AV → HI → Prop} {C : Nat → List Int} {a : Int} (hW : WF I C) (hT : 0 ≤ I 1 1 ∧ I 1 1 ≤ 1600) (hB : ∀ j, 0 ≤ I 2 j ∧ I 2 j < 256) (k1 : kO I 4 1 a ∧ ahP I → ∀ K, rdK I K → Q (some (aI (rdT I C (nW I)))) (up K 1 1 0)) (k0 : ¬ (kO I 4 1 a ∧ ahP I) → Q (some (aI (-1))) (up (rfs I 5) 1 1 0)) : Rj MX11_rode 6 [aR 0, aI a] I Q := by
  refine rj_of okX11_rode (Nat.le_of_ble_eq_true rfl) rfl ?_
  have bad : ∀ z : Int, z = 0 → ¬ (kO I 4 1 a ∧ ahP I) → Bj MX11_rode 6 28 [some (aR 0), some (aI a), some (aI z), none] [] I Q := by
    intro z hz hn
    refine b_iload_n rfl rfl ?_
    refine b_if_eq (tgt := 42) rfl rfl (fun c29 => ?_) (fun c29 => ?_)
    · refine b_aload_n rfl rfl ?_
      refine b_iconst rfl (by decide) ?_
      refine b_callV1i (ν := MX11_refuse) rfl ml11_100 cvX11_refuse (d' := 0) (by omega) rfl (by decide) rfl (Nat.le_of_ble_eq_true rfl) ?_
      refine sp_X11_refuse (k := 5) (by decide) ?_
      refine ⟨_, rfl, ?_⟩
      refine b_istoreX_n (F := fun z47 => [some (aR 0), some (aI a), some (aI z), some (aI z47)]) rfl (by decide) (fun _ => rfl) (fun z47 ez47 => ?_)
      refine b_aload_n rfl rfl ?_
      refine b_getR (r := 1) rfl fl11_10 rfl (by decide) rfl rfl ?_
      refine b_iconst rfl (by decide) ?_
      refine b_putI rfl fl11_97 rfl (by decide) rfl ?_
      refine b_iload_n rfl rfl ?_
      refine b_iret rfl rfl ?_
      refine qI (k0 hn) ?_ rfl
      omega
    · omega
  have good : ∀ z : Int, z = 1 → kO I 4 1 a ∧ ahP I → Bj MX11_rode 6 28 [some (aR 0), some (aI a), some (aI z), none] [] I Q := by
    intro z hz hg
    refine b_iload_n rfl rfl ?_
    refine b_if_eq (tgt := 42) rfl rfl (fun c29 => ?_) (fun c29 => ?_)
    · omega
    · refine b_aload_n rfl rfl ?_
      refine b_getR (r := 44) rfl fl11_72 rfl (by decide) rfl rfl ?_
      refine b_callV0i (ν := MX6_pairsThatRode) rfl ml11_283 cvX6_pairsThatRode (d' := 5) (by omega) rfl (by decide) rfl (Nat.le_of_ble_eq_true rfl) ?_
      refine sp_X6_pairsThatRode hW.1 hW.2.1 hB hg.2 (fun K hK => ?_)
      refine ⟨_, rfl, ?_⟩
      refine b_goto (tgt := 47) rfl rfl ?_
      refine b_istoreX_n (F := fun z47 => [some (aR 0), some (aI a), some (aI z), some (aI z47)]) rfl (by decide) (fun _ => rfl) (fun z47 ez47 => ?_)
      refine b_aload_n rfl rfl ?_
      refine b_getR (r := 1) rfl fl11_10 rfl (by decide) rfl rfl ?_
      refine b_iconst rfl (by decide) ?_
      refine b_putI rfl fl11_97 rfl (by decide) rfl ?_
      refine b_iload_n rfl rfl ?_
      refine b_iret rfl rfl ?_
      exact qI (k1 hg K hK) (by omega) rfl
  refine b_aload_n rfl rfl ?_
  refine b_getR (r := 3) rfl fl11_19 rfl (by decide) rfl rfl ?_
  refine b_iconst rfl (by decide) ?_
  refine b_iload_n rfl rfl ?_
  refine b_callV2i (ν := MX3_knows) rfl ml11_175 cvX3_knows (d' := 0) (by omega) rfl (by decide) rfl (Nat.le_of_ble_eq_true rfl) ?_
  refine spf_knows (fun hk => ?_) (fun hk => ?_)
  · refine ⟨_, rfl, ?_⟩
    refine b_if_eq (tgt := 26) rfl rfl (fun z => absurd z (by decide)) (fun _ => ?_)
    refine b_aload_n rfl rfl ?_
    refine b_getR (r := 44) rfl fl11_72 rfl (by decide) rfl rfl ?_
    refine b_callV0i (ν := MX6_areHeights) rfl ml11_280 cvX6_areHeights (d' := 2) (by omega) rfl (by decide) rfl (Nat.le_of_ble_eq_true rfl) ?_
    refine spf_areHeights hT hB (fun hA => ?_) (fun hA => ?_)
    · refine ⟨_, rfl, ?_⟩
      refine b_if_eq (tgt := 26) rfl rfl (fun z => absurd z (by decide)) (fun _ => ?_)
      refine b_iconst rfl (by decide) ?_
      refine b_goto (tgt := 27) rfl rfl ?_
      refine b_istoreX_n (F := fun z27 => [some (aR 0), some (aI a), some (aI z27), none]) rfl (by decide) (fun _ => rfl) (fun z27 ez27 => ?_)
      first
      | exact good _ (by omega) ⟨by assumption, by assumption⟩
      | exact bad _ (by omega) (fun w => absurd w.2 (by assumption))
      | exact bad _ (by omega) (fun w => absurd w.1 (by assumption))
    · refine ⟨_, rfl, ?_⟩
      refine b_if_eq (tgt := 26) rfl rfl (fun _ => ?_) (fun z => absurd z (by decide))
      refine b_iconst rfl (by decide) ?_
      refine b_istoreX_n (F := fun z27 => [some (aR 0), some (aI a), some (aI z27), none]) rfl (by decide) (fun _ => rfl) (fun z27 ez27 => ?_)
      first
      | exact good _ (by omega) ⟨by assumption, by assumption⟩
      | exact bad _ (by omega) (fun w => absurd w.2 (by assumption))
      | exact bad _ (by omega) (fun w => absurd w.1 (by assumption))
  · refine ⟨_, rfl, ?_⟩
    refine b_if_eq (tgt := 26) rfl rfl (fun _ => ?_) (fun z => absurd z (by decide))
    refine b_iconst rfl (by decide) ?_
    refine b_istoreX_n (F := fun z27 => [some (aR 0), some (aI a), some (aI z27), none]) rfl (by decide) (fun _ => rfl) (fun z27 ez27 => ?_)
    first
    | exact good _ (by omega) ⟨by assumption, by assumption⟩
    | exact bad _ (by omega) (fun w => absurd w.2 (by assumption))
    | exact bad _ (by omega) (fun w => absurd w.1 (by assumption))
