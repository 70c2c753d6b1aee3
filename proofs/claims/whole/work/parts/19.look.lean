def lkA (I : HI) (C : Nat → List Int) (h w l t c : Int) : HI := up (up (up (up (up I 28 3 w) 28 4 l) 28 5 t) 28 6 c) 28 7 (hei C h w l t)
theorem lkA_cell {I : HI} {C : Nat → List Int} {h w l t c : Int} {q : Nat} (hq : q ≠ 28) : lkA I C h w l t c q = I q := by
  unfold lkA
  rw [up_cell hq, up_cell hq, up_cell hq, up_cell hq, up_cell hq]
theorem sp_X5_lookAt {I : HI} {Q : Option AV → HI → Prop} {C : Nat → List Int} {h w l t c : Int} (hF : FM I C) (hS : FS C) (hse : seB I) (hh : I 28 0 = h) (hw : I 28 1 = wat C h) (hm : I 28 2 = mon C h) (hb : -900000 ≤ w ∧ w ≤ 900000 ∧ 0 ≤ l ∧ l ≤ 200000 ∧ -900000 ≤ t ∧ t ≤ 900000 ∧ -900000 ≤ c ∧ c ≤ 900000) (kq : ∀ g, Q none (row (lkA I C h w l t c) 29 g)) : Rj MX5_lookAt 3 [aR 27, aI w, aI l, aI t, aI c] I Q := by
  have w1 := wat_in C h
  have m1 := mon_in C h
  have hml : 0 ≤ l * mon C h ∧ l * mon C h ≤ 1999800000 := by
    have := mulB (a := l) (b := mon C h) (A := 200000) (B := 9999) (by omega) (by omega)
    have h2 := Int.mul_nonneg (show 0 ≤ l by omega) m1.1
    omega
  refine rj_of okX5_lookAt (Nat.le_of_ble_eq_true rfl) rfl ?_
  have hJ : ∀ J : HI, J = up (up (up (up I 28 3 w) 28 4 l) 28 5 t) 28 6 c → FM J C ∧ seB J ∧ J 28 1 = wat C h ∧ J 28 2 = mon C h ∧ (C 2 ≠ [] → ev (J 28) (C 2) = ev (seR C h w l t) (C 2)) := by
    intro J e
    subst e
    refine ⟨FM_to hF (by rw [up_cell (by decide), up_cell (by decide), up_cell (by decide), up_cell (by decide)]) (by rw [up_cell (by decide), up_cell (by decide), up_cell (by decide), up_cell (by decide)]) (by rw [up_cell (by decide), up_cell (by decide), up_cell (by decide), up_cell (by decide)]), seB_up (seB_up (seB_up (seB_up hse (by omega)) (by omega)) (by omega)) (by omega), hw, hm, fun _ => ev_congr (fun s hs h1 h2 => ?_)⟩
    have h3 := hS.2.2.1 s hs h1
    obtain ⟨k, hk⟩ : ∃ k : Nat, (-1 - s).toNat = k := ⟨_, rfl⟩
    have hk6 : k < 6 := by omega
    rw [hk]
    unfold seR
    match k, hk6 with
    | 0, _ => exact hh
    | 1, _ => exact hw
    | 2, _ => exact hm
    | 3, _ => rfl
    | 4, _ => rfl
    | 5, _ => rfl
  refine b_aload_n rfl rfl ?_
  refine b_getR (r := 28) rfl fl5_9 rfl (by decide) rfl rfl ?_
  refine b_iconst rfl (by decide) ?_
  refine b_iload_n rfl rfl ?_
  refine b_iastL (k := 3) rfl rfl rfl (by decide) ?_
  refine b_aload_n rfl rfl ?_
  refine b_getR (r := 28) rfl fl5_9 rfl (by decide) rfl rfl ?_
  refine b_iconst rfl (by decide) ?_
  refine b_iload_n rfl rfl ?_
  refine b_iastL (k := 4) rfl rfl rfl (by decide) ?_
  refine b_aload_n rfl rfl ?_
  refine b_getR (r := 28) rfl fl5_9 rfl (by decide) rfl rfl ?_
  refine b_iconst rfl (by decide) ?_
  refine b_iload_n rfl rfl ?_
  refine b_iastL (k := 5) rfl rfl rfl (by decide) ?_
  refine b_aload_n rfl rfl ?_
  refine b_getR (r := 28) rfl fl5_9 rfl (by decide) rfl rfl ?_
  refine b_bipush rfl (by decide) ?_
  refine b_iload rfl rfl ?_
  refine b_iastL (k := 6) rfl rfl rfl (by decide) ?_
  obtain ⟨j1, j2, j3, j4, j5⟩ := hJ _ rfl
  generalize hJe : up (up (up (up I 28 3 w) 28 4 l) 28 5 t) 28 6 c = J at *
  refine b_aload_n rfl rfl ?_
  refine b_getR (r := 3) rfl fl5_18 rfl (by decide) rfl rfl ?_
  refine b_iconst rfl (by decide) ?_
  refine b_callV1i (ν := MX3_tells) rfl ml5_22 cvX3_tells (d' := 0) (by omega) rfl (by decide) rfl (Nat.le_of_ble_eq_true rfl) ?_
  refine spf_tells 2 (by decide) j1 (fun ht => ?_) (fun ht => ?_)
  · refine ⟨_, rfl, ?_⟩
    refine b_if_eq (tgt := 59) rfl rfl (fun z => absurd z (by decide)) (fun _ => ?_)
    refine b_aload_n rfl rfl ?_
    refine b_getR (r := 28) rfl fl5_9 rfl (by decide) rfl rfl ?_
    refine b_bipush rfl (by decide) ?_
    refine b_aload_n rfl rfl ?_
    refine b_iconst rfl (by decide) ?_
    refine b_callV1i (ν := MX5_reckon) rfl ml5_28 cvX5_reckon (d' := 2) (by omega) rfl (by decide) rfl (Nat.le_of_ble_eq_true rfl) ?_
    refine sp_X5_reckon (cs := C 2) (by decide) (FM_fcs j1 (f := 2) (by decide) ht) j2 ?_
    intro g2
    rw [j5 ht]
    refine ⟨_, rfl, ?_⟩
    refine b_callS1i (ν := MX5_height) rfl ml5_32 csX5_height (d' := 1) (by omega) (Nat.le_of_ble_eq_true rfl) ?_
    refine sp_X5_height ?_
    refine ⟨_, rfl, ?_⟩
    refine b_iastL (k := 7) rfl rfl rfl (by decide) ?_
    refine b_goto (tgt := 89) rfl rfl ?_
    refine b_vret rfl rfl ?_
    first
    | (rw [up_row' (by decide), ← hJe]
       have := kq
       unfold lkA hei at this
       simp only [if_neg ht] at this
       exact this _)
    | (have := kq (J 29)
       unfold lkA hei at this
       simp only [if_pos ht] at this
       rw [hJe] at this
       rw [show J 29 = up J 28 7 (hg (wat C h + l * mon C h / 100 - w)) 29 from (up_cell (by decide)).symm, row_self] at this
       exact this)
  · refine ⟨_, rfl, ?_⟩
    refine b_if_eq (tgt := 59) rfl rfl (fun _ => ?_) (fun z => absurd z (by decide))
    refine b_aload_n rfl rfl ?_
    refine b_getR (r := 28) rfl fl5_9 rfl (by decide) rfl rfl ?_
    refine b_bipush rfl (by decide) ?_
    refine b_aload_n rfl rfl ?_
    refine b_getR (r := 28) rfl fl5_9 rfl (by decide) rfl rfl ?_
    refine b_iconst rfl (by decide) ?_
    refine b_ialdL (k := 1) rfl rfl rfl (by decide) ?_
    try simp only [up_ap, cpy_ap, fil_ap, row_ap, Nat.reduceEqDiff, Nat.reduceLT, Nat.reduceLeDiff, Int.toNat_natCast, Int.reduceToNat, reduceCtorEq, false_and, and_false, true_and, and_true, and_self, reduceIte]
    rw [j3]
    refine b_iload_n rfl rfl ?_
    refine b_aload_n rfl rfl ?_
    refine b_getR (r := 28) rfl fl5_9 rfl (by decide) rfl rfl ?_
    refine b_iconst rfl (by decide) ?_
    refine b_ialdL (k := 2) rfl rfl rfl (by decide) ?_
    try simp only [up_ap, cpy_ap, fil_ap, row_ap, Nat.reduceEqDiff, Nat.reduceLT, Nat.reduceLeDiff, Int.toNat_natCast, Int.reduceToNat, reduceCtorEq, false_and, and_false, true_and, and_true, and_self, reduceIte]
    rw [j4]
    refine b_imulN rfl (by omega) (by omega) ?_
    refine b_bipush rfl (by decide) ?_
    refine b_idivP rfl (by omega) (by omega) ?_
    refine b_iaddN rfl (by omega) (by omega) ?_
    refine b_iload_n rfl rfl ?_
    refine b_isubN rfl (by omega) (by omega) ?_
    refine b_callS1i (ν := MX5_height) rfl ml5_32 csX5_height (d' := 1) (by omega) (Nat.le_of_ble_eq_true rfl) ?_
    refine sp_X5_height ?_
    refine ⟨_, rfl, ?_⟩
    refine b_iastL (k := 7) rfl rfl rfl (by decide) ?_
    refine b_vret rfl rfl ?_
    first
    | (rw [up_row' (by decide), ← hJe]
       have := kq
       unfold lkA hei at this
       simp only [if_neg ht] at this
       exact this _)
    | (have := kq (J 29)
       unfold lkA hei at this
       simp only [if_pos ht] at this
       rw [hJe] at this
       rw [show J 29 = up J 28 7 (hg (wat C h + l * mon C h / 100 - w)) 29 from (up_cell (by decide)).symm, row_self] at this
       exact this)
def lkS (I : HI) (C : Nat → List Int) (h : Int) (cr s : Nat) : HI := lkA I C h (tW I cr s) (tL I cr s) (tT I cr s) (tN I cr s)
theorem lift_b {I : HI} {cr s : Nat} (hp : pOK I) (hb : ∀ k, 0 ≤ I cr k ∧ I cr k ≤ 50) (hs : (s : Int) < I 4 1) : 0 ≤ S2 (nH I s) (nW I) (cL I cr s) ∧ S2 (nH I s) (nW I) (cL I cr s) ≤ 200000 := by
  obtain ⟨h1, h2, h3⟩ := nH_in hp hs
  obtain ⟨w1, w2⟩ := nW_in hp
  have key : ∀ i, 0 ≤ sumN (nW I) (fun w => cL I cr s i w) ∧ sumN (nW I) (fun w => cL I cr s i w) ≤ 29700 := by
    intro i
    have := sumN_le (n := nW I) (f := fun w => cL I cr s i w) (a := 0) (b := 4950) (fun j hj => by
      have q1 := hb (24 * s + 6 * i + j)
      have q2 := hp.2.1 j (by omega)
      have q3 := mulB (a := I cr (24 * s + 6 * i + j)) (b := I 7 j) (A := 50) (B := 99) (by omega) (by omega)
      have q4 := Int.mul_nonneg q1.1 q2.2.2.1
      unfold cL
      omega)
    omega
  have := sumN_le (n := nH I s) (f := fun i => sumN (nW I) (fun w => cL I cr s i w)) (a := 0) (b := 29700) (fun i _ => key i)
  unfold S2
  omega
theorem sp_X5_look_32 {I : HI} {Q : Option AV → HI → Prop} {C : Nat → List Int} {h : Int} {s : Nat} (hF : FM I C) (hS : FS C) (hse : seB I) (hh : I 28 0 = h) (hw : I 28 1 = wat C h) (hm : I 28 2 = mon C h) (hp : pOK I) (hb : ∀ k, 0 ≤ I 32 k ∧ I 32 k ≤ 50) (hs : (s : Int) < I 4 1) (kq : ∀ g, Q none (row (lkS I C h 32 s) 29 g)) : Rj MX5_look 4 [aR 27, aR 32, aI (s : Int)] I Q := by
  have hb' : crB I 32 := fun k => by have := hb k; omega
  obtain ⟨h1, h2, h3⟩ := nH_in hp hs
  obtain ⟨w1, w2⟩ := nW_in hp
  have hs6 : s < 6 := by have := hp.1 1 (by decide); omega
  have e1 := fo_ship (f := 6) hs
  have cNi : ∀ i j, j < 6 → -29700 ≤ cN I 32 s i j ∧ cN I 32 s i j ≤ 29700 := fun i j _ => by have := hb (24 * s + 6 * i + j); unfold cN; omega
  have inn : ∀ (n j : Nat) (i : Nat) (z y a b c t : Int) (x9 : Option AV), (∀ (a' b' c' t' : Int) (x8 x9 : Option AV), a' = S2 (i + 1) (nW I) (cW I 32 s) → b' = S2 (i + 1) (nW I) (cL I 32 s) → c' = S2 (i + 1) (nW I) (cN I 32 s) → t' = S2 (i + 1) (nW I) (cT I 32 s) → Bj MX5_look 4 132 [some (aR 27), some (aR 32), some (aI (s : Int)), some (aI a'), some (aI b'), some (aI c'), some (aI t'), some (aI y), x8, x9] [] I Q) → i < nH I s → z = (j : Int) → y = (i : Int) → j + n = nW I → a = S2 i (nW I) (cW I 32 s) + sumN j (fun w => cW I 32 s i w) → b = S2 i (nW I) (cL I 32 s) + sumN j (fun w => cL I 32 s i w) → c = S2 i (nW I) (cN I 32 s) + sumN j (fun w => cN I 32 s i w) → t = S2 i (nW I) (cT I 32 s) + sumN j (fun w => cT I 32 s i w) → Bj MX5_look 4 31 [some (aR 27), some (aR 32), some (aI (s : Int)), some (aI a), some (aI b), some (aI c), some (aI t), some (aI y), some (aI z), x9] [] I Q := by
    intro n
    induction n with
    | zero =>
      intro j i z y a b c t x9 hk hi hz hy hj ha hbb hc ht
      refine b_iload rfl rfl ?_
      refine b_aload_n rfl rfl ?_
      refine b_getR (r := 3) rfl fl5_18 rfl (by decide) rfl rfl ?_
      refine b_getR (r := 4) rfl fl5_43 rfl (by decide) rfl rfl ?_
      refine b_iconst rfl (by decide) ?_
      refine b_ialdL (k := 0) rfl rfl rfl (by decide) ?_
      refine b_icmp_ge (tgt := 132) rfl rfl (fun c42 => ?_) (fun c42 => ?_)
      · have ej : j = nW I := by omega
        exact hk _ _ _ _ _ _ (by rw [ha, S2_s, ej]) (by rw [hbb, S2_s, ej]) (by rw [hc, S2_s, ej]) (by rw [ht, S2_s, ej])
      · omega
    | succ n ih =>
      intro j i z y a b c t x9 hk hi hz hy hj ha hbb hc ht
      subst hz
      subst hy
      have ba := S2_b (f := cW I 32 s) (h := i) (w := j) (nh := nH I s) (nw := nW I) (by omega) (by omega) h2 w1 (fun i j hj => cW_in hp hb' hj)
      have bl := S2_b (f := cL I 32 s) (h := i) (w := j) (nh := nH I s) (nw := nW I) (by omega) (by omega) h2 w1 (fun i j hj => cL_in hp hb' hj)
      have bn := S2_b (f := cN I 32 s) (h := i) (w := j) (nh := nH I s) (nw := nW I) (by omega) (by omega) h2 w1 cNi
      have bt := S2_b (f := cT I 32 s) (h := i) (w := j) (nh := nH I s) (nw := nW I) (by omega) (by omega) h2 w1 (fun i j hj => cT_in hp hb' hj)
      have b1 := cW_in (s := s) (h := i) (w := j) hp hb' (by omega)
      have b2 := cL_in (s := s) (h := i) (w := j) hp hb' (by omega)
      have b3 := cT_in (s := s) (h := i) (w := j) hp hb' (by omega)
      have hcell := hb (24 * s + 6 * i + j)
      have hwr := hp.2.1 j (by omega)
      have ec : ((s : Int) * 24 + (i : Int) * 6 + (j : Int)).toNat = 24 * s + 6 * i + j := by omega
      have hsd := sd_in (i : Int)
      have hwl : (j : Int) < I 4 0 := by omega
      have f6 := fo_ware (f := 6) hwl
      have f7 := fo_ware (f := 7) hwl
      have u1 : cW I 32 s i j = I 32 (24 * s + 6 * i + j) * I 6 j := rfl
      have u2 : cL I 32 s i j = I 32 (24 * s + 6 * i + j) * I 7 j := rfl
      have u3 : cT I 32 s i j = sd (i : Int) * I 32 (24 * s + 6 * i + j) * (I 6 j - I 7 j) := rfl
      have u4 : cN I 32 s i j = I 32 (24 * s + 6 * i + j) := rfl
      generalize hx : I 32 (24 * s + 6 * i + j) = x at *
      have hsm : -300 ≤ sd (i : Int) * x ∧ sd (i : Int) * x ≤ 300 := by rcases hsd with e | e <;> rw [e] <;> omega
      have fin : ∀ (a' b' c' t' z' : Int) (x9 : Option AV), z' = (j : Int) + 1 → a' = a + x * I 6 j → b' = b + x * I 7 j → c' = c + x → t' = t + sd (i : Int) * x * (I 6 j - I 7 j) → Bj MX5_look 4 31 [some (aR 27), some (aR 32), some (aI (s : Int)), some (aI a'), some (aI b'), some (aI c'), some (aI t'), some (aI (i : Int)), some (aI z'), x9] [] I Q := by
        intro a' b' c' t' z' x9 g1 g2 g3 g4 g5
        refine ih (j + 1) i _ _ _ _ _ _ _ hk hi (by omega) rfl (by omega) ?_ ?_ ?_ ?_
        · rw [g2, ha]; show _ = _ + (sumN j _ + cW I 32 s i j); omega
        · rw [g3, hbb]; show _ = _ + (sumN j _ + cL I 32 s i j); omega
        · rw [g4, hc]; show _ = _ + (sumN j _ + cN I 32 s i j); omega
        · rw [g5, ht]; show _ = _ + (sumN j _ + cT I 32 s i j); omega
      clear ih
      refine b_iload rfl rfl ?_
      refine b_aload_n rfl rfl ?_
      refine b_getR (r := 3) rfl fl5_18 rfl (by decide) rfl rfl ?_
      refine b_getR (r := 4) rfl fl5_43 rfl (by decide) rfl rfl ?_
      refine b_iconst rfl (by decide) ?_
      refine b_ialdL (k := 0) rfl rfl rfl (by decide) ?_
      refine b_icmp_ge (tgt := 132) rfl rfl (fun c42 => ?_) (fun c42 => ?_)
      · omega
      · refine b_aload_n rfl rfl ?_
        refine b_iload_n rfl rfl ?_
        refine b_iload rfl rfl ?_
        refine b_iload rfl rfl ?_
        refine b_callSN3i (ν := MX11_cell) rfl ml5_46 csX11_cell (d' := 0) (by omega) (Nat.le_of_ble_eq_true rfl) ?_
        refine sp_X11_cell (by omega) ?_
        refine ⟨_, rfl, ?_⟩
        refine b_iald rfl rfl (by omega) (by omega) ?_
        rw [ec, hx]
        refine b_istoreX (F := fun z55 => [some (aR 27), some (aR 32), some (aI (s : Int)), some (aI a), some (aI b), some (aI c), some (aI t), some (aI (i : Int)), some (aI (j : Int)), some (aI z55)]) rfl (by decide) (fun _ => rfl) (fun z55 ez55 => ?_)
        have es : z55 = x := ez55
        subst es
        refine b_iload rfl rfl ?_
        refine b_if_le (tgt := 126) rfl rfl (fun c59 => ?_) (fun c59 => ?_)
        · refine b_iincX (F := fun z126 => [some (aR 27), some (aR 32), some (aI (s : Int)), some (aI a), some (aI b), some (aI c), some (aI t), some (aI (i : Int)), some (aI z126), some (aI z55)]) rfl rfl (by omega) (by omega) (fun _ => rfl) (fun z126 ez126 => ?_)
          refine b_goto (tgt := 31) rfl rfl ?_
          first
          | exact fin _ _ _ _ _ _ (by omega) (by omega) (by omega) (by omega) (by omega)
          | (have ez0 : z55 = 0 := by omega
             subst ez0
             exact fin _ _ _ _ _ _ (by omega) (by simp) (by simp) (by simp) (by simp))
        · refine b_iload_n rfl rfl ?_
          refine b_iload rfl rfl ?_
          refine b_aload_n rfl rfl ?_
          refine b_getR (r := 3) rfl fl5_18 rfl (by decide) rfl rfl ?_
          refine b_iconst rfl (by decide) ?_
          refine b_iload rfl rfl ?_
          refine b_callV2i (ν := MX3_firstOf) rfl ml5_39 cvX3_firstOf (d' := 1) (by omega) rfl (by decide) rfl (Nat.le_of_ble_eq_true rfl) ?_
          refine sp_X3_firstOf_3 hp.1 ?_
          rw [f6]
          refine ⟨_, rfl, ?_⟩
          refine b_imulN rfl (by omega) (by omega) ?_
          refine b_iaddN rfl (by omega) (by omega) ?_
          refine b_istoreX_n (F := fun z77 => [some (aR 27), some (aR 32), some (aI (s : Int)), some (aI z77), some (aI b), some (aI c), some (aI t), some (aI (i : Int)), some (aI (j : Int)), some (aI z55)]) rfl (by decide) (fun _ => rfl) (fun z77 ez77 => ?_)
          refine b_iload rfl rfl ?_
          refine b_iload rfl rfl ?_
          refine b_aload_n rfl rfl ?_
          refine b_getR (r := 3) rfl fl5_18 rfl (by decide) rfl rfl ?_
          refine b_iconst rfl (by decide) ?_
          refine b_iload rfl rfl ?_
          refine b_callV2i (ν := MX3_secondOf) rfl ml5_50 cvX3_secondOf (d' := 1) (by omega) rfl (by decide) rfl (Nat.le_of_ble_eq_true rfl) ?_
          refine sp_X3_secondOf_3 hp.1 ?_
          rw [f7]
          refine ⟨_, rfl, ?_⟩
          refine b_imulN rfl (by omega) (by omega) ?_
          refine b_iaddN rfl (by omega) (by omega) ?_
          refine b_istoreX (F := fun z94 => [some (aR 27), some (aR 32), some (aI (s : Int)), some (aI z77), some (aI z94), some (aI c), some (aI t), some (aI (i : Int)), some (aI (j : Int)), some (aI z55)]) rfl (by decide) (fun _ => rfl) (fun z94 ez94 => ?_)
          refine b_iload rfl rfl ?_
          refine b_iload rfl rfl ?_
          refine b_callSN1i (ν := MX11_side) rfl ml5_53 csX11_side (d' := 0) (by omega) (Nat.le_of_ble_eq_true rfl) ?_
          refine sp_X11_side (by omega) ?_
          refine ⟨_, rfl, ?_⟩
          refine b_iload rfl rfl ?_
          refine b_imulN rfl (by omega) (by omega) ?_
          refine b_aload_n rfl rfl ?_
          refine b_getR (r := 3) rfl fl5_18 rfl (by decide) rfl rfl ?_
          refine b_iload rfl rfl ?_
          refine b_callV1i (ν := MX3_net) rfl ml5_56 cvX3_net (d' := 2) (by omega) rfl (by decide) rfl (Nat.le_of_ble_eq_true rfl) ?_
          refine sp_X3_net_3 hp.1 ⟨by omega, by omega, by omega, hwl⟩ (by rw [Int.toNat_natCast]; omega) ?_
          rw [Int.toNat_natCast]
          refine ⟨_, rfl, ?_⟩
          refine b_imulN rfl (by omega) (by omega) ?_
          refine b_iaddN rfl (by omega) (by omega) ?_
          refine b_istoreX (F := fun z117 => [some (aR 27), some (aR 32), some (aI (s : Int)), some (aI z77), some (aI z94), some (aI c), some (aI z117), some (aI (i : Int)), some (aI (j : Int)), some (aI z55)]) rfl (by decide) (fun _ => rfl) (fun z117 ez117 => ?_)
          refine b_iload rfl rfl ?_
          refine b_iload rfl rfl ?_
          refine b_iaddN rfl (by omega) (by omega) ?_
          refine b_istoreX (F := fun z124 => [some (aR 27), some (aR 32), some (aI (s : Int)), some (aI z77), some (aI z94), some (aI z124), some (aI z117), some (aI (i : Int)), some (aI (j : Int)), some (aI z55)]) rfl (by decide) (fun _ => rfl) (fun z124 ez124 => ?_)
          refine b_iincX (F := fun z126 => [some (aR 27), some (aR 32), some (aI (s : Int)), some (aI z77), some (aI z94), some (aI z124), some (aI z117), some (aI (i : Int)), some (aI z126), some (aI z55)]) rfl rfl (by omega) (by omega) (fun _ => rfl) (fun z126 ez126 => ?_)
          refine b_goto (tgt := 31) rfl rfl ?_
          first
          | exact fin _ _ _ _ _ _ (by omega) (by omega) (by omega) (by omega) (by omega)
          | (have ez0 : z55 = 0 := by omega
             subst ez0
             exact fin _ _ _ _ _ _ (by omega) (by simp) (by simp) (by simp) (by simp))
  have lp : ∀ (n i : Nat) (y a b c t : Int) (x8 x9 : Option AV), y = (i : Int) → i + n = nH I s → a = S2 i (nW I) (cW I 32 s) → b = S2 i (nW I) (cL I 32 s) → c = S2 i (nW I) (cN I 32 s) → t = S2 i (nW I) (cT I 32 s) → Bj MX5_look 4 14 [some (aR 27), some (aR 32), some (aI (s : Int)), some (aI a), some (aI b), some (aI c), some (aI t), some (aI y), x8, x9] [] I Q := by
    intro n
    induction n with
    | zero =>
      intro i y a b c t x8 x9 hy hi ha hbb hc ht
      obtain rfl : i = nH I s := by omega
      have q1 := S2_b0 (f := cW I 32 s) h2 w1 (fun i j hj => cW_in hp hb' hj)
      have q2 := S2_b0 (f := cL I 32 s) h2 w1 (fun i j hj => cL_in hp hb' hj)
      have q3 := S2_b0 (f := cT I 32 s) h2 w1 (fun i j hj => cT_in hp hb' hj)
      have q4 := S2_b0 (f := cN I 32 s) h2 w1 cNi
      have q5 : 0 ≤ S2 (nH I s) (nW I) (cL I 32 s) ∧ S2 (nH I s) (nW I) (cL I 32 s) ≤ 200000 := lift_b hp hb hs
      refine b_iload rfl rfl ?_
      refine b_aload_n rfl rfl ?_
      refine b_getR (r := 3) rfl fl5_18 rfl (by decide) rfl rfl ?_
      refine b_iconst rfl (by decide) ?_
      refine b_iload_n rfl rfl ?_
      refine b_callV2i (ν := MX3_firstOf) rfl ml5_39 cvX3_firstOf (d' := 1) (by omega) rfl (by decide) rfl (Nat.le_of_ble_eq_true rfl) ?_
      refine sp_X3_firstOf_3 hp.1 ?_
      rw [e1]
      refine ⟨_, rfl, ?_⟩
      refine b_icmp_ge (tgt := 138) rfl rfl (fun c25 => ?_) (fun c25 => ?_)
      · refine b_aload_n rfl rfl ?_
        refine b_iload_n rfl rfl ?_
        refine b_iload rfl rfl ?_
        refine b_iload rfl rfl ?_
        refine b_iload rfl rfl ?_
        refine b_callV4v (ν := MX5_lookAt) rfl ml5_59 cvX5_lookAt (d' := 3) (by omega) rfl (by decide) rfl (Nat.le_of_ble_eq_true rfl) ?_
        refine sp_X5_lookAt hF hS hse hh hw hm (by omega) ?_
        intro g
        refine ⟨rfl, ?_⟩
        refine b_vret rfl rfl ?_
        rw [ha, hbb, hc, ht]
        exact kq g
      · omega
    | succ n ih =>
      intro i y a b c t x8 x9 hy hi ha hbb hc ht
      refine b_iload rfl rfl ?_
      refine b_aload_n rfl rfl ?_
      refine b_getR (r := 3) rfl fl5_18 rfl (by decide) rfl rfl ?_
      refine b_iconst rfl (by decide) ?_
      refine b_iload_n rfl rfl ?_
      refine b_callV2i (ν := MX3_firstOf) rfl ml5_39 cvX3_firstOf (d' := 1) (by omega) rfl (by decide) rfl (Nat.le_of_ble_eq_true rfl) ?_
      refine sp_X3_firstOf_3 hp.1 ?_
      rw [e1]
      refine ⟨_, rfl, ?_⟩
      refine b_icmp_ge (tgt := 138) rfl rfl (fun c25 => ?_) (fun c25 => ?_)
      · omega
      · refine b_iconst rfl (by decide) ?_
        refine b_istoreX (F := fun z29 => [some (aR 27), some (aR 32), some (aI (s : Int)), some (aI a), some (aI b), some (aI c), some (aI t), some (aI y), some (aI z29), x9]) rfl (by decide) (fun _ => rfl) (fun z29 ez29 => ?_)
        refine inn (nW I) 0 i _ _ _ _ _ _ _ (fun a' b' c' t' x8 x9 g1 g2 g3 g4 => ?_) (by omega) (by omega) hy (by omega) (by rw [ha]; simp [sumN]) (by rw [hbb]; simp [sumN]) (by rw [hc]; simp [sumN]) (by rw [ht]; simp [sumN])
        refine b_iincX (F := fun z71 => [some (aR 27), some (aR 32), some (aI (s : Int)), some (aI a'), some (aI b'), some (aI c'), some (aI t'), some (aI z71), x8, x9]) rfl rfl (by omega) (by omega) (fun _ => rfl) (fun z71 ez71 => ?_)
        refine b_goto (tgt := 14) rfl rfl ?_
        exact ih (i + 1) _ _ _ _ _ _ _ (by omega) (by omega) g1 g2 g3 g4
  refine rj_of okX5_look (Nat.le_of_ble_eq_true rfl) rfl ?_
  refine b_iconst rfl (by decide) ?_
  refine b_istoreX_n (F := fun z1 => [some (aR 27), some (aR 32), some (aI (s : Int)), some (aI z1), none, none, none, none, none, none]) rfl (by decide) (fun _ => rfl) (fun z1 ez1 => ?_)
  refine b_iconst rfl (by decide) ?_
  refine b_istoreX (F := fun z3 => [some (aR 27), some (aR 32), some (aI (s : Int)), some (aI z1), some (aI z3), none, none, none, none, none]) rfl (by decide) (fun _ => rfl) (fun z3 ez3 => ?_)
  refine b_iconst rfl (by decide) ?_
  refine b_istoreX (F := fun z6 => [some (aR 27), some (aR 32), some (aI (s : Int)), some (aI z1), some (aI z3), some (aI z6), none, none, none, none]) rfl (by decide) (fun _ => rfl) (fun z6 ez6 => ?_)
  refine b_iconst rfl (by decide) ?_
  refine b_istoreX (F := fun z9 => [some (aR 27), some (aR 32), some (aI (s : Int)), some (aI z1), some (aI z3), some (aI z6), some (aI z9), none, none, none]) rfl (by decide) (fun _ => rfl) (fun z9 ez9 => ?_)
  refine b_iconst rfl (by decide) ?_
  refine b_istoreX (F := fun z12 => [some (aR 27), some (aR 32), some (aI (s : Int)), some (aI z1), some (aI z3), some (aI z6), some (aI z9), some (aI z12), none, none]) rfl (by decide) (fun _ => rfl) (fun z12 ez12 => ?_)
  exact lp (nH I s) 0 _ _ _ _ _ _ _ (by omega) (by omega) (by rw [ez1]; rfl) (by rw [ez3]; rfl) (by rw [ez6]; rfl) (by rw [ez9]; rfl)
theorem sp_X5_look_45 {I : HI} {Q : Option AV → HI → Prop} {C : Nat → List Int} {h : Int} {s : Nat} (hF : FM I C) (hS : FS C) (hse : seB I) (hh : I 28 0 = h) (hw : I 28 1 = wat C h) (hm : I 28 2 = mon C h) (hp : pOK I) (hb : ∀ k, 0 ≤ I 45 k ∧ I 45 k ≤ 50) (hs : (s : Int) < I 4 1) (kq : ∀ g, Q none (row (lkS I C h 45 s) 29 g)) : Rj MX5_look 4 [aR 27, aR 45, aI (s : Int)] I Q := by
  have hb' : crB I 45 := fun k => by have := hb k; omega
  obtain ⟨h1, h2, h3⟩ := nH_in hp hs
  obtain ⟨w1, w2⟩ := nW_in hp
  have hs6 : s < 6 := by have := hp.1 1 (by decide); omega
  have e1 := fo_ship (f := 6) hs
  have cNi : ∀ i j, j < 6 → -29700 ≤ cN I 45 s i j ∧ cN I 45 s i j ≤ 29700 := fun i j _ => by have := hb (24 * s + 6 * i + j); unfold cN; omega
  have inn : ∀ (n j : Nat) (i : Nat) (z y a b c t : Int) (x9 : Option AV), (∀ (a' b' c' t' : Int) (x8 x9 : Option AV), a' = S2 (i + 1) (nW I) (cW I 45 s) → b' = S2 (i + 1) (nW I) (cL I 45 s) → c' = S2 (i + 1) (nW I) (cN I 45 s) → t' = S2 (i + 1) (nW I) (cT I 45 s) → Bj MX5_look 4 132 [some (aR 27), some (aR 45), some (aI (s : Int)), some (aI a'), some (aI b'), some (aI c'), some (aI t'), some (aI y), x8, x9] [] I Q) → i < nH I s → z = (j : Int) → y = (i : Int) → j + n = nW I → a = S2 i (nW I) (cW I 45 s) + sumN j (fun w => cW I 45 s i w) → b = S2 i (nW I) (cL I 45 s) + sumN j (fun w => cL I 45 s i w) → c = S2 i (nW I) (cN I 45 s) + sumN j (fun w => cN I 45 s i w) → t = S2 i (nW I) (cT I 45 s) + sumN j (fun w => cT I 45 s i w) → Bj MX5_look 4 31 [some (aR 27), some (aR 45), some (aI (s : Int)), some (aI a), some (aI b), some (aI c), some (aI t), some (aI y), some (aI z), x9] [] I Q := by
    intro n
    induction n with
    | zero =>
      intro j i z y a b c t x9 hk hi hz hy hj ha hbb hc ht
      refine b_iload rfl rfl ?_
      refine b_aload_n rfl rfl ?_
      refine b_getR (r := 3) rfl fl5_18 rfl (by decide) rfl rfl ?_
      refine b_getR (r := 4) rfl fl5_43 rfl (by decide) rfl rfl ?_
      refine b_iconst rfl (by decide) ?_
      refine b_ialdL (k := 0) rfl rfl rfl (by decide) ?_
      refine b_icmp_ge (tgt := 132) rfl rfl (fun c42 => ?_) (fun c42 => ?_)
      · have ej : j = nW I := by omega
        exact hk _ _ _ _ _ _ (by rw [ha, S2_s, ej]) (by rw [hbb, S2_s, ej]) (by rw [hc, S2_s, ej]) (by rw [ht, S2_s, ej])
      · omega
    | succ n ih =>
      intro j i z y a b c t x9 hk hi hz hy hj ha hbb hc ht
      subst hz
      subst hy
      have ba := S2_b (f := cW I 45 s) (h := i) (w := j) (nh := nH I s) (nw := nW I) (by omega) (by omega) h2 w1 (fun i j hj => cW_in hp hb' hj)
      have bl := S2_b (f := cL I 45 s) (h := i) (w := j) (nh := nH I s) (nw := nW I) (by omega) (by omega) h2 w1 (fun i j hj => cL_in hp hb' hj)
      have bn := S2_b (f := cN I 45 s) (h := i) (w := j) (nh := nH I s) (nw := nW I) (by omega) (by omega) h2 w1 cNi
      have bt := S2_b (f := cT I 45 s) (h := i) (w := j) (nh := nH I s) (nw := nW I) (by omega) (by omega) h2 w1 (fun i j hj => cT_in hp hb' hj)
      have b1 := cW_in (s := s) (h := i) (w := j) hp hb' (by omega)
      have b2 := cL_in (s := s) (h := i) (w := j) hp hb' (by omega)
      have b3 := cT_in (s := s) (h := i) (w := j) hp hb' (by omega)
      have hcell := hb (24 * s + 6 * i + j)
      have hwr := hp.2.1 j (by omega)
      have ec : ((s : Int) * 24 + (i : Int) * 6 + (j : Int)).toNat = 24 * s + 6 * i + j := by omega
      have hsd := sd_in (i : Int)
      have hwl : (j : Int) < I 4 0 := by omega
      have f6 := fo_ware (f := 6) hwl
      have f7 := fo_ware (f := 7) hwl
      have u1 : cW I 45 s i j = I 45 (24 * s + 6 * i + j) * I 6 j := rfl
      have u2 : cL I 45 s i j = I 45 (24 * s + 6 * i + j) * I 7 j := rfl
      have u3 : cT I 45 s i j = sd (i : Int) * I 45 (24 * s + 6 * i + j) * (I 6 j - I 7 j) := rfl
      have u4 : cN I 45 s i j = I 45 (24 * s + 6 * i + j) := rfl
      generalize hx : I 45 (24 * s + 6 * i + j) = x at *
      have hsm : -300 ≤ sd (i : Int) * x ∧ sd (i : Int) * x ≤ 300 := by rcases hsd with e | e <;> rw [e] <;> omega
      have fin : ∀ (a' b' c' t' z' : Int) (x9 : Option AV), z' = (j : Int) + 1 → a' = a + x * I 6 j → b' = b + x * I 7 j → c' = c + x → t' = t + sd (i : Int) * x * (I 6 j - I 7 j) → Bj MX5_look 4 31 [some (aR 27), some (aR 45), some (aI (s : Int)), some (aI a'), some (aI b'), some (aI c'), some (aI t'), some (aI (i : Int)), some (aI z'), x9] [] I Q := by
        intro a' b' c' t' z' x9 g1 g2 g3 g4 g5
        refine ih (j + 1) i _ _ _ _ _ _ _ hk hi (by omega) rfl (by omega) ?_ ?_ ?_ ?_
        · rw [g2, ha]; show _ = _ + (sumN j _ + cW I 45 s i j); omega
        · rw [g3, hbb]; show _ = _ + (sumN j _ + cL I 45 s i j); omega
        · rw [g4, hc]; show _ = _ + (sumN j _ + cN I 45 s i j); omega
        · rw [g5, ht]; show _ = _ + (sumN j _ + cT I 45 s i j); omega
      clear ih
      refine b_iload rfl rfl ?_
      refine b_aload_n rfl rfl ?_
      refine b_getR (r := 3) rfl fl5_18 rfl (by decide) rfl rfl ?_
      refine b_getR (r := 4) rfl fl5_43 rfl (by decide) rfl rfl ?_
      refine b_iconst rfl (by decide) ?_
      refine b_ialdL (k := 0) rfl rfl rfl (by decide) ?_
      refine b_icmp_ge (tgt := 132) rfl rfl (fun c42 => ?_) (fun c42 => ?_)
      · omega
      · refine b_aload_n rfl rfl ?_
        refine b_iload_n rfl rfl ?_
        refine b_iload rfl rfl ?_
        refine b_iload rfl rfl ?_
        refine b_callSN3i (ν := MX11_cell) rfl ml5_46 csX11_cell (d' := 0) (by omega) (Nat.le_of_ble_eq_true rfl) ?_
        refine sp_X11_cell (by omega) ?_
        refine ⟨_, rfl, ?_⟩
        refine b_iald rfl rfl (by omega) (by omega) ?_
        rw [ec, hx]
        refine b_istoreX (F := fun z55 => [some (aR 27), some (aR 45), some (aI (s : Int)), some (aI a), some (aI b), some (aI c), some (aI t), some (aI (i : Int)), some (aI (j : Int)), some (aI z55)]) rfl (by decide) (fun _ => rfl) (fun z55 ez55 => ?_)
        have es : z55 = x := ez55
        subst es
        refine b_iload rfl rfl ?_
        refine b_if_le (tgt := 126) rfl rfl (fun c59 => ?_) (fun c59 => ?_)
        · refine b_iincX (F := fun z126 => [some (aR 27), some (aR 45), some (aI (s : Int)), some (aI a), some (aI b), some (aI c), some (aI t), some (aI (i : Int)), some (aI z126), some (aI z55)]) rfl rfl (by omega) (by omega) (fun _ => rfl) (fun z126 ez126 => ?_)
          refine b_goto (tgt := 31) rfl rfl ?_
          first
          | exact fin _ _ _ _ _ _ (by omega) (by omega) (by omega) (by omega) (by omega)
          | (have ez0 : z55 = 0 := by omega
             subst ez0
             exact fin _ _ _ _ _ _ (by omega) (by simp) (by simp) (by simp) (by simp))
        · refine b_iload_n rfl rfl ?_
          refine b_iload rfl rfl ?_
          refine b_aload_n rfl rfl ?_
          refine b_getR (r := 3) rfl fl5_18 rfl (by decide) rfl rfl ?_
          refine b_iconst rfl (by decide) ?_
          refine b_iload rfl rfl ?_
          refine b_callV2i (ν := MX3_firstOf) rfl ml5_39 cvX3_firstOf (d' := 1) (by omega) rfl (by decide) rfl (Nat.le_of_ble_eq_true rfl) ?_
          refine sp_X3_firstOf_3 hp.1 ?_
          rw [f6]
          refine ⟨_, rfl, ?_⟩
          refine b_imulN rfl (by omega) (by omega) ?_
          refine b_iaddN rfl (by omega) (by omega) ?_
          refine b_istoreX_n (F := fun z77 => [some (aR 27), some (aR 45), some (aI (s : Int)), some (aI z77), some (aI b), some (aI c), some (aI t), some (aI (i : Int)), some (aI (j : Int)), some (aI z55)]) rfl (by decide) (fun _ => rfl) (fun z77 ez77 => ?_)
          refine b_iload rfl rfl ?_
          refine b_iload rfl rfl ?_
          refine b_aload_n rfl rfl ?_
          refine b_getR (r := 3) rfl fl5_18 rfl (by decide) rfl rfl ?_
          refine b_iconst rfl (by decide) ?_
          refine b_iload rfl rfl ?_
          refine b_callV2i (ν := MX3_secondOf) rfl ml5_50 cvX3_secondOf (d' := 1) (by omega) rfl (by decide) rfl (Nat.le_of_ble_eq_true rfl) ?_
          refine sp_X3_secondOf_3 hp.1 ?_
          rw [f7]
          refine ⟨_, rfl, ?_⟩
          refine b_imulN rfl (by omega) (by omega) ?_
          refine b_iaddN rfl (by omega) (by omega) ?_
          refine b_istoreX (F := fun z94 => [some (aR 27), some (aR 45), some (aI (s : Int)), some (aI z77), some (aI z94), some (aI c), some (aI t), some (aI (i : Int)), some (aI (j : Int)), some (aI z55)]) rfl (by decide) (fun _ => rfl) (fun z94 ez94 => ?_)
          refine b_iload rfl rfl ?_
          refine b_iload rfl rfl ?_
          refine b_callSN1i (ν := MX11_side) rfl ml5_53 csX11_side (d' := 0) (by omega) (Nat.le_of_ble_eq_true rfl) ?_
          refine sp_X11_side (by omega) ?_
          refine ⟨_, rfl, ?_⟩
          refine b_iload rfl rfl ?_
          refine b_imulN rfl (by omega) (by omega) ?_
          refine b_aload_n rfl rfl ?_
          refine b_getR (r := 3) rfl fl5_18 rfl (by decide) rfl rfl ?_
          refine b_iload rfl rfl ?_
          refine b_callV1i (ν := MX3_net) rfl ml5_56 cvX3_net (d' := 2) (by omega) rfl (by decide) rfl (Nat.le_of_ble_eq_true rfl) ?_
          refine sp_X3_net_3 hp.1 ⟨by omega, by omega, by omega, hwl⟩ (by rw [Int.toNat_natCast]; omega) ?_
          rw [Int.toNat_natCast]
          refine ⟨_, rfl, ?_⟩
          refine b_imulN rfl (by omega) (by omega) ?_
          refine b_iaddN rfl (by omega) (by omega) ?_
          refine b_istoreX (F := fun z117 => [some (aR 27), some (aR 45), some (aI (s : Int)), some (aI z77), some (aI z94), some (aI c), some (aI z117), some (aI (i : Int)), some (aI (j : Int)), some (aI z55)]) rfl (by decide) (fun _ => rfl) (fun z117 ez117 => ?_)
          refine b_iload rfl rfl ?_
          refine b_iload rfl rfl ?_
          refine b_iaddN rfl (by omega) (by omega) ?_
          refine b_istoreX (F := fun z124 => [some (aR 27), some (aR 45), some (aI (s : Int)), some (aI z77), some (aI z94), some (aI z124), some (aI z117), some (aI (i : Int)), some (aI (j : Int)), some (aI z55)]) rfl (by decide) (fun _ => rfl) (fun z124 ez124 => ?_)
          refine b_iincX (F := fun z126 => [some (aR 27), some (aR 45), some (aI (s : Int)), some (aI z77), some (aI z94), some (aI z124), some (aI z117), some (aI (i : Int)), some (aI z126), some (aI z55)]) rfl rfl (by omega) (by omega) (fun _ => rfl) (fun z126 ez126 => ?_)
          refine b_goto (tgt := 31) rfl rfl ?_
          first
          | exact fin _ _ _ _ _ _ (by omega) (by omega) (by omega) (by omega) (by omega)
          | (have ez0 : z55 = 0 := by omega
             subst ez0
             exact fin _ _ _ _ _ _ (by omega) (by simp) (by simp) (by simp) (by simp))
  have lp : ∀ (n i : Nat) (y a b c t : Int) (x8 x9 : Option AV), y = (i : Int) → i + n = nH I s → a = S2 i (nW I) (cW I 45 s) → b = S2 i (nW I) (cL I 45 s) → c = S2 i (nW I) (cN I 45 s) → t = S2 i (nW I) (cT I 45 s) → Bj MX5_look 4 14 [some (aR 27), some (aR 45), some (aI (s : Int)), some (aI a), some (aI b), some (aI c), some (aI t), some (aI y), x8, x9] [] I Q := by
    intro n
    induction n with
    | zero =>
      intro i y a b c t x8 x9 hy hi ha hbb hc ht
      obtain rfl : i = nH I s := by omega
      have q1 := S2_b0 (f := cW I 45 s) h2 w1 (fun i j hj => cW_in hp hb' hj)
      have q2 := S2_b0 (f := cL I 45 s) h2 w1 (fun i j hj => cL_in hp hb' hj)
      have q3 := S2_b0 (f := cT I 45 s) h2 w1 (fun i j hj => cT_in hp hb' hj)
      have q4 := S2_b0 (f := cN I 45 s) h2 w1 cNi
      have q5 : 0 ≤ S2 (nH I s) (nW I) (cL I 45 s) ∧ S2 (nH I s) (nW I) (cL I 45 s) ≤ 200000 := lift_b hp hb hs
      refine b_iload rfl rfl ?_
      refine b_aload_n rfl rfl ?_
      refine b_getR (r := 3) rfl fl5_18 rfl (by decide) rfl rfl ?_
      refine b_iconst rfl (by decide) ?_
      refine b_iload_n rfl rfl ?_
      refine b_callV2i (ν := MX3_firstOf) rfl ml5_39 cvX3_firstOf (d' := 1) (by omega) rfl (by decide) rfl (Nat.le_of_ble_eq_true rfl) ?_
      refine sp_X3_firstOf_3 hp.1 ?_
      rw [e1]
      refine ⟨_, rfl, ?_⟩
      refine b_icmp_ge (tgt := 138) rfl rfl (fun c25 => ?_) (fun c25 => ?_)
      · refine b_aload_n rfl rfl ?_
        refine b_iload_n rfl rfl ?_
        refine b_iload rfl rfl ?_
        refine b_iload rfl rfl ?_
        refine b_iload rfl rfl ?_
        refine b_callV4v (ν := MX5_lookAt) rfl ml5_59 cvX5_lookAt (d' := 3) (by omega) rfl (by decide) rfl (Nat.le_of_ble_eq_true rfl) ?_
        refine sp_X5_lookAt hF hS hse hh hw hm (by omega) ?_
        intro g
        refine ⟨rfl, ?_⟩
        refine b_vret rfl rfl ?_
        rw [ha, hbb, hc, ht]
        exact kq g
      · omega
    | succ n ih =>
      intro i y a b c t x8 x9 hy hi ha hbb hc ht
      refine b_iload rfl rfl ?_
      refine b_aload_n rfl rfl ?_
      refine b_getR (r := 3) rfl fl5_18 rfl (by decide) rfl rfl ?_
      refine b_iconst rfl (by decide) ?_
      refine b_iload_n rfl rfl ?_
      refine b_callV2i (ν := MX3_firstOf) rfl ml5_39 cvX3_firstOf (d' := 1) (by omega) rfl (by decide) rfl (Nat.le_of_ble_eq_true rfl) ?_
      refine sp_X3_firstOf_3 hp.1 ?_
      rw [e1]
      refine ⟨_, rfl, ?_⟩
      refine b_icmp_ge (tgt := 138) rfl rfl (fun c25 => ?_) (fun c25 => ?_)
      · omega
      · refine b_iconst rfl (by decide) ?_
        refine b_istoreX (F := fun z29 => [some (aR 27), some (aR 45), some (aI (s : Int)), some (aI a), some (aI b), some (aI c), some (aI t), some (aI y), some (aI z29), x9]) rfl (by decide) (fun _ => rfl) (fun z29 ez29 => ?_)
        refine inn (nW I) 0 i _ _ _ _ _ _ _ (fun a' b' c' t' x8 x9 g1 g2 g3 g4 => ?_) (by omega) (by omega) hy (by omega) (by rw [ha]; simp [sumN]) (by rw [hbb]; simp [sumN]) (by rw [hc]; simp [sumN]) (by rw [ht]; simp [sumN])
        refine b_iincX (F := fun z71 => [some (aR 27), some (aR 45), some (aI (s : Int)), some (aI a'), some (aI b'), some (aI c'), some (aI t'), some (aI z71), x8, x9]) rfl rfl (by omega) (by omega) (fun _ => rfl) (fun z71 ez71 => ?_)
        refine b_goto (tgt := 14) rfl rfl ?_
        exact ih (i + 1) _ _ _ _ _ _ _ (by omega) (by omega) g1 g2 g3 g4
  refine rj_of okX5_look (Nat.le_of_ble_eq_true rfl) rfl ?_
  refine b_iconst rfl (by decide) ?_
  refine b_istoreX_n (F := fun z1 => [some (aR 27), some (aR 45), some (aI (s : Int)), some (aI z1), none, none, none, none, none, none]) rfl (by decide) (fun _ => rfl) (fun z1 ez1 => ?_)
  refine b_iconst rfl (by decide) ?_
  refine b_istoreX (F := fun z3 => [some (aR 27), some (aR 45), some (aI (s : Int)), some (aI z1), some (aI z3), none, none, none, none, none]) rfl (by decide) (fun _ => rfl) (fun z3 ez3 => ?_)
  refine b_iconst rfl (by decide) ?_
  refine b_istoreX (F := fun z6 => [some (aR 27), some (aR 45), some (aI (s : Int)), some (aI z1), some (aI z3), some (aI z6), none, none, none, none]) rfl (by decide) (fun _ => rfl) (fun z6 ez6 => ?_)
  refine b_iconst rfl (by decide) ?_
  refine b_istoreX (F := fun z9 => [some (aR 27), some (aR 45), some (aI (s : Int)), some (aI z1), some (aI z3), some (aI z6), some (aI z9), none, none, none]) rfl (by decide) (fun _ => rfl) (fun z9 ez9 => ?_)
  refine b_iconst rfl (by decide) ?_
  refine b_istoreX (F := fun z12 => [some (aR 27), some (aR 45), some (aI (s : Int)), some (aI z1), some (aI z3), some (aI z6), some (aI z9), some (aI z12), none, none]) rfl (by decide) (fun _ => rfl) (fun z12 ez12 => ?_)
  exact lp (nH I s) 0 _ _ _ _ _ _ _ (by omega) (by omega) (by rw [ez1]; rfl) (by rw [ez3]; rfl) (by rw [ez6]; rfl) (by rw [ez9]; rfl)
