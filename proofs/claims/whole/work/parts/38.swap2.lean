/-! ===== Swapper, two swaps; WrongTide: swaps ===== -/
def ad (F : Nat → Int) (c : Nat) (v : Int) : Nat → Int := fun x => F x + (if x = c then v else 0)
theorem ud_ad {F : Nat → Int} {c : Nat} {v : Int} : ud F c (F c + v) = ad F c v := by
  funext x
  unfold ud ad
  by_cases e : x = c
  · rw [if_pos e, if_pos e, e]
  · rw [if_neg e, if_neg e, Int.add_zero]
theorem ud_adm {F : Nat → Int} {c : Nat} : ud F c (F c - 1) = ad F c (-1) := by rw [Int.sub_eq_add_neg]; exact ud_ad
/-- the trial with cell k of ship a and cell j of ship b swapped -/
def swF (f : Nat → Int) (a b k j : Nat) : Nat → Int := ad (ad (ad (ad f (24 * a + k) (-1)) (24 * a + (k - k % 6 + j % 6)) 1) (24 * b + j) (-1)) (24 * b + (j - j % 6 + k % 6)) 1
def lbP (f nt : Nat → Int) (nw a b : Nat) (ta tb tA tB : Int) (k j : Nat) : Prop := k % 6 ≠ j % 6 ∧ f (24 * a + (k - k % 6 + j % 6)) < 20 ∧ f (24 * b + (j - j % 6 + k % 6)) < 20 ∧ osQ (swF f a b k j) nt nw a b ta tb (tA + sd ((k / 6 : Nat) : Int) * (nt (j % 6) - nt (k % 6))) (tB - sd ((j / 6 : Nat) : Int) * (nt (j % 6) - nt (k % 6)))
def tsQ (f nt : Nat → Int) (nw a b : Nat) (ta tb tA tB : Int) : Prop := ∃ k j, k < 24 ∧ j < 24 ∧ 0 < f (24 * a + k) ∧ 0 < f (24 * b + j) ∧ lbP f nt nw a b ta tb tA tB k j
theorem SWp_row {I : HI} {nw a b : Nat} {ta tb : Int} {f : Nat → Int} (h : SWp I nw a b ta tb) : SWp (row I 53 f) nw a b ta tb := by
  unfold SWp at *
  rw [row_cell (by decide), row_cell (by decide), row_cell (by decide)]
  exact h
theorem row_ud {I : HI} {c k : Nat} {f : Nat → Int} {v : Int} : up (row I c f) c k v = row I c (ud f k v) := row_up
theorem ad_back {f : Nat → Int} {c1 c2 c3 c4 : Nat} : ad (ad (ad (ad (ad (ad (ad (ad f c1 (-1)) c2 1) c3 (-1)) c4 1) c1 1) c2 (-1)) c3 1) c4 (-1) = f := by
  funext x
  unfold ad
  split <;> split <;> split <;> split <;> omega
set_option maxRecDepth 8000 in
theorem spf_levelsBehind {I : HI} {Q : Option AV → HI → Prop} {nw a b k j : Nat} {ta tb tA tB : Int} {f : Nat → Int} (hS : SWp I nw a b ta tb) (hf : ∀ c, 0 ≤ f c ∧ f c ≤ 20) (hk : k < 24) (hj : j < 24) (hA : -1000000 ≤ tA ∧ tA ≤ 1000000) (hB : -1000000 ≤ tB ∧ tB ≤ 1000000) (k1 : lbP f (I 54) nw a b ta tb tA tB k j → Q (some (aI 1)) (row I 53 f)) (k0 : ¬ lbP f (I 54) nw a b ta tb tA tB k j → Q (some (aI 0)) (row I 53 f)) : Rj MX8_levelsBehind 4 [aR 52, aI (k : Int), aI (j : Int), aI tA, aI tB] (row I 53 f) Q := by
  have hS' := hS
  obtain ⟨s1, s2, s3, s4, s5, s6, s7, s8, s9, s10, s11, s12⟩ := hS'
  unfold lbP at k1 k0
  have id1 : (k : Int) % 6 = ((k % 6 : Nat) : Int) := by push_cast; rfl
  have id2 : (j : Int) % 6 = ((j % 6 : Nat) : Int) := by push_cast; rfl
  have id3 : (k : Int) / 6 = ((k / 6 : Nat) : Int) := by push_cast; rfl
  have id4 : (j : Int) / 6 = ((j / 6 : Nat) : Int) := by push_cast; rfl
  have r54 : ∀ F, row I 53 F 54 = I 54 := fun F => row_cell (by decide)
  have r525 : ∀ F, row I 53 F 52 5 = (a : Int) := fun F => by rw [row_cell (by decide)]; exact s3
  have r526 : ∀ F, row I 53 F 52 6 = (b : Int) := fun F => by rw [row_cell (by decide)]; exact s4
  have b1 := s11 (k % 6)
  have b2 := s11 (j % 6)
  have d1 := sd_in ((k / 6 : Nat) : Int)
  have d2 := sd_in ((j / 6 : Nat) : Int)
  have m1 := mulB (a := sd ((k / 6 : Nat) : Int)) (b := I 54 (j % 6) - I 54 (k % 6)) (A := 1) (B := 198) (by omega) (by omega)
  have m2 := mulB (a := sd ((j / 6 : Nat) : Int)) (b := I 54 (j % 6) - I 54 (k % 6)) (A := 1) (B := 198) (by omega) (by omega)
  have hm6 : k % 6 < 6 ∧ j % 6 < 6 ∧ k - k % 6 + k % 6 = k ∧ j - j % 6 + j % 6 = j ∧ k - k % 6 ≤ 18 ∧ j - j % 6 ≤ 18 := by omega
  have bnd : ∀ (F : Nat → Int) (n : Int), (∀ c, -n ≤ F c ∧ F c ≤ 20 + n) → ∀ c v x, (v = 1 ∨ v = -1) → -(n + 1) ≤ ad F c v x ∧ ad F c v x ≤ 20 + (n + 1) := by
    intro F n h c v x hv
    have := h x
    unfold ad
    split <;> omega
  have n0 : ∀ c, -0 ≤ f c ∧ f c ≤ 20 + 0 := fun c => by have := hf c; omega
  generalize hec : sd ((k / 6 : Nat) : Int) * (I 54 (j % 6) - I 54 (k % 6)) = e1 at *
  generalize hed : sd ((j / 6 : Nat) : Int) * (I 54 (j % 6) - I 54 (k % 6)) = e2 at *
  have hc1 : f (24 * a + k) - 1 = f (24 * a + k) - 1 := rfl
  have g0 := hf (24 * a + k)
  have bA : ∀ F : Nat → Int, (∀ c, -100 ≤ F c ∧ F c ≤ 100) → ∀ c, -2147483648 ≤ F c - 1 ∧ F c + 1 < 2147483648 := fun F h c => by have := h c; omega
  have f1 : ∀ c, -1 ≤ ad f (24 * a + k) (-1) c ∧ ad f (24 * a + k) (-1) c ≤ 20 + 1 := fun c => bnd f 0 n0 _ _ c (Or.inr rfl)
  have f2 : ∀ c, -2 ≤ ad (ad f (24 * a + k) (-1)) (24 * a + (k - k % 6 + j % 6)) 1 c ∧ ad (ad f (24 * a + k) (-1)) (24 * a + (k - k % 6 + j % 6)) 1 c ≤ 20 + 2 := fun c => bnd _ 1 f1 _ _ c (Or.inl rfl)
  have f3 : ∀ c, -3 ≤ ad (ad (ad f (24 * a + k) (-1)) (24 * a + (k - k % 6 + j % 6)) 1) (24 * b + j) (-1) c ∧ ad (ad (ad f (24 * a + k) (-1)) (24 * a + (k - k % 6 + j % 6)) 1) (24 * b + j) (-1) c ≤ 20 + 3 := fun c => bnd _ 2 f2 _ _ c (Or.inr rfl)
  have f4 : ∀ c, -4 ≤ swF f a b k j c ∧ swF f a b k j c ≤ 20 + 4 := fun c => bnd _ 3 f3 _ _ c (Or.inl rfl)
  have f5 : ∀ c, -5 ≤ ad (swF f a b k j) (24 * a + k) 1 c ∧ ad (swF f a b k j) (24 * a + k) 1 c ≤ 20 + 5 := fun c => bnd _ 4 f4 _ _ c (Or.inl rfl)
  have f6 : ∀ c, -6 ≤ ad (ad (swF f a b k j) (24 * a + k) 1) (24 * a + (k - k % 6 + j % 6)) (-1) c ∧ ad (ad (swF f a b k j) (24 * a + k) 1) (24 * a + (k - k % 6 + j % 6)) (-1) c ≤ 20 + 6 := fun c => bnd _ 5 f5 _ _ c (Or.inr rfl)
  have f7 : ∀ c, -7 ≤ ad (ad (ad (swF f a b k j) (24 * a + k) 1) (24 * a + (k - k % 6 + j % 6)) (-1)) (24 * b + j) 1 c ∧ ad (ad (ad (swF f a b k j) (24 * a + k) 1) (24 * a + (k - k % 6 + j % 6)) (-1)) (24 * b + j) 1 c ≤ 20 + 7 := fun c => bnd _ 6 f6 _ _ c (Or.inl rfl)
  have fb : ad (ad (ad (ad (swF f a b k j) (24 * a + k) 1) (24 * a + (k - k % 6 + j % 6)) (-1)) (24 * b + j) 1) (24 * b + (j - j % 6 + k % 6)) (-1) = f := ad_back
  have q1 := f1 (24 * a + (k - k % 6 + j % 6))
  have q2 := f2 (24 * b + j)
  have q3 := f3 (24 * b + (j - j % 6 + k % 6))
  have q4 := f4 (24 * a + k)
  have q5 := f5 (24 * a + (k - k % 6 + j % 6))
  have q6 := f6 (24 * b + j)
  have q7 := f7 (24 * b + (j - j % 6 + k % 6))
  have h3e : ad (ad (ad (ad f (24 * a + k) (-1)) (24 * a + (k - k % 6 + j % 6)) 1) (24 * b + j) (-1)) (24 * b + (j - j % 6 + k % 6)) 1 = swF f a b k j := rfl
  generalize hCA : 24 * a + k = CA at *
  generalize hOA : 24 * a + (k - k % 6 + j % 6) = OA at *
  generalize hCB : 24 * b + j = CB at *
  generalize hOB : 24 * b + (j - j % 6 + k % 6) = OB at *
  have back : ∀ y5 y6 y7 y8 y9 y10 : Int, y7 = (OA : Int) → y8 = (OB : Int) → (y10 = 0 ∨ y10 = 1) → Q (some (aI y10)) (row I 53 f) → Bj MX8_levelsBehind 4 185 [some (aR 52), some (aI (k : Int)), some (aI (j : Int)), some (aI tA), some (aI tB), some (aI y5), some (aI y6), some (aI y7), some (aI y8), some (aI y9), some (aI y10)] [] (row I 53 (swF f a b k j)) Q := by
    intro y5 y6 y7 y8 y9 y10 h7 h8 h10 hq
    have o7 : y7.toNat = OA := by omega
    have o8 : y8.toNat = OB := by omega
    refine b_aload_n rfl rfl ?_
    refine b_getR (r := 53) rfl fl8_9 rfl (by decide) rfl rfl ?_
    refine b_aload_n rfl rfl ?_
    refine b_getI rfl fl8_32 rfl (by decide) rfl ?_
    rw [r525]
    refine b_bipush rfl (by decide) ?_
    refine b_imulN rfl (by omega) (by omega) ?_
    refine b_iload_n rfl rfl ?_
    refine b_iaddN rfl (by omega) (by omega) ?_
    refine b_dup2 rfl rfl rfl ?_
    refine b_iald rfl rfl (by omega) (by omega) ?_
    rw [show ((a : Int) * 24 + (k : Int)).toNat = CA by omega, row_same]
    refine b_iconst rfl (by decide) ?_
    refine b_iaddN rfl (by omega) (by omega) ?_
    refine b_iast rfl rfl (by omega) (by omega) ?_
    rw [show ((a : Int) * 24 + (k : Int)).toNat = CA by omega, row_ud, ud_ad]
    refine b_aload_n rfl rfl ?_
    refine b_getR (r := 53) rfl fl8_9 rfl (by decide) rfl rfl ?_
    refine b_iload rfl rfl ?_
    refine b_dup2 rfl rfl rfl ?_
    refine b_iald rfl rfl (by omega) (by omega) ?_
    rw [o7, row_same]
    refine b_iconst rfl (by decide) ?_
    refine b_isubN rfl (by omega) (by omega) ?_
    refine b_iast rfl rfl (by omega) (by omega) ?_
    rw [o7, row_ud, ud_adm]
    refine b_aload_n rfl rfl ?_
    refine b_getR (r := 53) rfl fl8_9 rfl (by decide) rfl rfl ?_
    refine b_aload_n rfl rfl ?_
    refine b_getI rfl fl8_36 rfl (by decide) rfl ?_
    rw [r526]
    refine b_bipush rfl (by decide) ?_
    refine b_imulN rfl (by omega) (by omega) ?_
    refine b_iload_n rfl rfl ?_
    refine b_iaddN rfl (by omega) (by omega) ?_
    refine b_dup2 rfl rfl rfl ?_
    refine b_iald rfl rfl (by omega) (by omega) ?_
    rw [show ((b : Int) * 24 + (j : Int)).toNat = CB by omega, row_same]
    refine b_iconst rfl (by decide) ?_
    refine b_iaddN rfl (by omega) (by omega) ?_
    refine b_iast rfl rfl (by omega) (by omega) ?_
    rw [show ((b : Int) * 24 + (j : Int)).toNat = CB by omega, row_ud, ud_ad]
    refine b_aload_n rfl rfl ?_
    refine b_getR (r := 53) rfl fl8_9 rfl (by decide) rfl rfl ?_
    refine b_iload rfl rfl ?_
    refine b_dup2 rfl rfl rfl ?_
    refine b_iald rfl rfl (by omega) (by omega) ?_
    rw [o8, row_same]
    refine b_iconst rfl (by decide) ?_
    refine b_isubN rfl (by omega) (by omega) ?_
    refine b_iast rfl rfl (by omega) (by omega) ?_
    rw [o8, row_ud, ud_adm, fb]
    refine b_iload rfl rfl ?_
    refine b_zret rfl rfl h10 ?_
    exact hq
  refine rj_of okX8_levelsBehind (Nat.le_of_ble_eq_true rfl) rfl ?_
  refine b_iload_n rfl rfl ?_
  refine b_bipush rfl (by decide) ?_
  refine b_iremP rfl (by omega) (by omega) ?_
  refine b_istoreX (F := fun z4 => [some (aR 52), some (aI (k : Int)), some (aI (j : Int)), some (aI tA), some (aI tB), some (aI z4), none, none, none, none, none]) rfl (by decide) (fun _ => rfl) (fun z4 ez4 => ?_)
  refine b_iload_n rfl rfl ?_
  refine b_bipush rfl (by decide) ?_
  refine b_iremP rfl (by omega) (by omega) ?_
  refine b_istoreX (F := fun z10 => [some (aR 52), some (aI (k : Int)), some (aI (j : Int)), some (aI tA), some (aI tB), some (aI z4), some (aI z10), none, none, none, none]) rfl (by decide) (fun _ => rfl) (fun z10 ez10 => ?_)
  refine b_aload_n rfl rfl ?_
  refine b_getI rfl fl8_32 rfl (by decide) rfl ?_
  rw [r525]
  refine b_bipush rfl (by decide) ?_
  refine b_imulN rfl (by omega) (by omega) ?_
  refine b_iload_n rfl rfl ?_
  refine b_iaddN rfl (by omega) (by omega) ?_
  refine b_iload rfl rfl ?_
  refine b_isubN rfl (by omega) (by omega) ?_
  refine b_iload rfl rfl ?_
  refine b_iaddN rfl (by omega) (by omega) ?_
  refine b_istoreX (F := fun z27 => [some (aR 52), some (aI (k : Int)), some (aI (j : Int)), some (aI tA), some (aI tB), some (aI z4), some (aI z10), some (aI z27), none, none, none]) rfl (by decide) (fun _ => rfl) (fun z27 ez27 => ?_)
  refine b_aload_n rfl rfl ?_
  refine b_getI rfl fl8_36 rfl (by decide) rfl ?_
  rw [r526]
  refine b_bipush rfl (by decide) ?_
  refine b_imulN rfl (by omega) (by omega) ?_
  refine b_iload_n rfl rfl ?_
  refine b_iaddN rfl (by omega) (by omega) ?_
  refine b_iload rfl rfl ?_
  refine b_isubN rfl (by omega) (by omega) ?_
  refine b_iload rfl rfl ?_
  refine b_iaddN rfl (by omega) (by omega) ?_
  refine b_istoreX (F := fun z44 => [some (aR 52), some (aI (k : Int)), some (aI (j : Int)), some (aI tA), some (aI tB), some (aI z4), some (aI z10), some (aI z27), some (aI z44), none, none]) rfl (by decide) (fun _ => rfl) (fun z44 ez44 => ?_)
  have o7 : z27.toNat = OA := by omega
  have o8 : z44.toNat = OB := by omega
  have o5 : z4.toNat = k % 6 := by omega
  have o6 : z10.toNat = j % 6 := by omega
  refine b_iload rfl rfl ?_
  refine b_iload rfl rfl ?_
  refine b_icmp_eq (tgt := 77) rfl rfl (fun c50 => ?_) (fun c50 => ?_)
  · refine b_iconst rfl (by decide) ?_
    refine b_zret rfl rfl (by first | decide | omega) ?_
    exact k0 (fun w => by have w1 := w.1; have w2 := w.2.1; have w3 := w.2.2.1; omega)
  · refine b_aload_n rfl rfl ?_
    refine b_getR (r := 53) rfl fl8_9 rfl (by decide) rfl rfl ?_
    refine b_iload rfl rfl ?_
    refine b_iald rfl rfl (by omega) (by omega) ?_
    rw [o7, row_same]
    refine b_bipush rfl (by decide) ?_
    refine b_icmp_ge (tgt := 77) rfl rfl (fun c62 => ?_) (fun c62 => ?_)
    · refine b_iconst rfl (by decide) ?_
      refine b_zret rfl rfl (by first | decide | omega) ?_
      exact k0 (fun w => by have w1 := w.1; have w2 := w.2.1; have w3 := w.2.2.1; omega)
    · refine b_aload_n rfl rfl ?_
      refine b_getR (r := 53) rfl fl8_9 rfl (by decide) rfl rfl ?_
      refine b_iload rfl rfl ?_
      refine b_iald rfl rfl (by omega) (by omega) ?_
      rw [o8, row_same]
      refine b_bipush rfl (by decide) ?_
      refine b_icmp_lt (tgt := 79) rfl rfl (fun c74 => ?_) (fun c74 => ?_)
      · refine b_aload_n rfl rfl ?_
        refine b_getR (r := 54) rfl fl8_15 rfl (by decide) rfl rfl ?_
        refine b_iload rfl rfl ?_
        refine b_iald rfl rfl (by omega) (by omega) ?_
        rw [o6, r54]
        refine b_aload_n rfl rfl ?_
        refine b_getR (r := 54) rfl fl8_15 rfl (by decide) rfl rfl ?_
        refine b_iload rfl rfl ?_
        refine b_iald rfl rfl (by omega) (by omega) ?_
        rw [o5, r54]
        refine b_isubN rfl (by omega) (by omega) ?_
        refine b_istoreX (F := fun z94 => [some (aR 52), some (aI (k : Int)), some (aI (j : Int)), some (aI tA), some (aI tB), some (aI z4), some (aI z10), some (aI z27), some (aI z44), some (aI z94), none]) rfl (by decide) (fun _ => rfl) (fun z94 ez94 => ?_)
        refine b_aload_n rfl rfl ?_
        refine b_getR (r := 53) rfl fl8_9 rfl (by decide) rfl rfl ?_
        refine b_aload_n rfl rfl ?_
        refine b_getI rfl fl8_32 rfl (by decide) rfl ?_
        rw [r525]
        refine b_bipush rfl (by decide) ?_
        refine b_imulN rfl (by omega) (by omega) ?_
        refine b_iload_n rfl rfl ?_
        refine b_iaddN rfl (by omega) (by omega) ?_
        refine b_dup2 rfl rfl rfl ?_
        refine b_iald rfl rfl (by omega) (by omega) ?_
        rw [show ((a : Int) * 24 + (k : Int)).toNat = CA by omega, row_same]
        refine b_iconst rfl (by decide) ?_
        refine b_isubN rfl (by omega) (by omega) ?_
        refine b_iast rfl rfl (by omega) (by omega) ?_
        rw [show ((a : Int) * 24 + (k : Int)).toNat = CA by omega, row_ud, ud_adm]
        refine b_aload_n rfl rfl ?_
        refine b_getR (r := 53) rfl fl8_9 rfl (by decide) rfl rfl ?_
        refine b_iload rfl rfl ?_
        refine b_dup2 rfl rfl rfl ?_
        refine b_iald rfl rfl (by omega) (by omega) ?_
        rw [o7, row_same]
        refine b_iconst rfl (by decide) ?_
        refine b_iaddN rfl (by omega) (by omega) ?_
        refine b_iast rfl rfl (by omega) (by omega) ?_
        rw [o7, row_ud, ud_ad]
        refine b_aload_n rfl rfl ?_
        refine b_getR (r := 53) rfl fl8_9 rfl (by decide) rfl rfl ?_
        refine b_aload_n rfl rfl ?_
        refine b_getI rfl fl8_36 rfl (by decide) rfl ?_
        rw [r526]
        refine b_bipush rfl (by decide) ?_
        refine b_imulN rfl (by omega) (by omega) ?_
        refine b_iload_n rfl rfl ?_
        refine b_iaddN rfl (by omega) (by omega) ?_
        refine b_dup2 rfl rfl rfl ?_
        refine b_iald rfl rfl (by omega) (by omega) ?_
        rw [show ((b : Int) * 24 + (j : Int)).toNat = CB by omega, row_same]
        refine b_iconst rfl (by decide) ?_
        refine b_isubN rfl (by omega) (by omega) ?_
        refine b_iast rfl rfl (by omega) (by omega) ?_
        rw [show ((b : Int) * 24 + (j : Int)).toNat = CB by omega, row_ud, ud_adm]
        refine b_aload_n rfl rfl ?_
        refine b_getR (r := 53) rfl fl8_9 rfl (by decide) rfl rfl ?_
        refine b_iload rfl rfl ?_
        refine b_dup2 rfl rfl rfl ?_
        refine b_iald rfl rfl (by omega) (by omega) ?_
        rw [o8, row_same]
        refine b_iconst rfl (by decide) ?_
        refine b_iaddN rfl (by omega) (by omega) ?_
        refine b_iast rfl rfl (by omega) (by omega) ?_
        rw [o8, row_ud, ud_ad, h3e]
        refine b_aload_n rfl rfl ?_
        refine b_iload_n rfl rfl ?_
        refine b_iload_n rfl rfl ?_
        refine b_bipush rfl (by decide) ?_
        refine b_idivP rfl (by omega) (by omega) ?_
        rw [id3]
        refine b_callSN1i (ν := MX11_side) rfl ml8_106 csX11_side (d' := 0) (by omega) (Nat.le_of_ble_eq_true rfl) ?_
        refine sp_X11_side (by omega) ?_
        refine ⟨_, rfl, ?_⟩
        refine b_iload rfl rfl ?_
        refine b_imulN rfl (by rw [ez94, hec]; omega) (by rw [ez94, hec]; omega) ?_
        rw [show sd ((k / 6 : Nat) : Int) * z94 = e1 by rw [ez94]; exact hec]
        refine b_iaddN rfl (by omega) (by omega) ?_
        refine b_iload rfl rfl ?_
        refine b_iload_n rfl rfl ?_
        refine b_bipush rfl (by decide) ?_
        refine b_idivP rfl (by omega) (by omega) ?_
        rw [id4]
        refine b_callSN1i (ν := MX11_side) rfl ml8_106 csX11_side (d' := 0) (by omega) (Nat.le_of_ble_eq_true rfl) ?_
        refine sp_X11_side (by omega) ?_
        refine ⟨_, rfl, ?_⟩
        refine b_iload rfl rfl ?_
        refine b_imulN rfl (by rw [ez94, hed]; omega) (by rw [ez94, hed]; omega) ?_
        rw [show sd ((j / 6 : Nat) : Int) * z94 = e2 by rw [ez94]; exact hed]
        refine b_isubN rfl (by omega) (by omega) ?_
        refine b_callV2i (ν := MX8_oneSwapLevels) rfl ml8_66 cvX8_oneSwapLevels (d' := 3) (by omega) rfl (by decide) rfl (Nat.le_of_ble_eq_true rfl) ?_
        refine spf_oneSwap (SWp_row hS) (by omega) (by omega) (fun hy => ?_) (fun hn => ?_)
        · refine ⟨_, rfl, ?_⟩
          refine b_istoreX (F := fun z183 => [some (aR 52), some (aI (k : Int)), some (aI (j : Int)), some (aI tA), some (aI tB), some (aI z4), some (aI z10), some (aI z27), some (aI z44), some (aI z94), some (aI z183)]) rfl (by decide) (fun _ => rfl) (fun z183 ez183 => ?_)
          first
          | (rw [row_same, r54] at hy
             exact back _ _ _ _ _ _ (by omega) (by omega) (Or.inr ez183) (qI (k1 ⟨by omega, by omega, by omega, hy⟩) ez183.symm rfl))
          | (rw [row_same, r54] at hn
             exact back _ _ _ _ _ _ (by omega) (by omega) (Or.inl ez183) (qI (k0 (fun w => hn w.2.2.2)) ez183.symm rfl))
        · refine ⟨_, rfl, ?_⟩
          refine b_istoreX (F := fun z183 => [some (aR 52), some (aI (k : Int)), some (aI (j : Int)), some (aI tA), some (aI tB), some (aI z4), some (aI z10), some (aI z27), some (aI z44), some (aI z94), some (aI z183)]) rfl (by decide) (fun _ => rfl) (fun z183 ez183 => ?_)
          first
          | (rw [row_same, r54] at hy
             exact back _ _ _ _ _ _ (by omega) (by omega) (Or.inr ez183) (qI (k1 ⟨by omega, by omega, by omega, hy⟩) ez183.symm rfl))
          | (rw [row_same, r54] at hn
             exact back _ _ _ _ _ _ (by omega) (by omega) (Or.inl ez183) (qI (k0 (fun w => hn w.2.2.2)) ez183.symm rfl))
      · refine b_iconst rfl (by decide) ?_
        refine b_zret rfl rfl (by first | decide | omega) ?_
        exact k0 (fun w => by have w1 := w.1; have w2 := w.2.1; have w3 := w.2.2.1; omega)
