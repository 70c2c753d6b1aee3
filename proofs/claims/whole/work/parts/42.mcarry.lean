/-! ===== the reference: cargo ===== -/
theorem spm_at {I : HI} {Q : Option AV → HI → Prop} {s h w : Nat} (hs : s < 100) (hh : h < 300) (hw : w < 300) (kq : Q (some (aI ((24 * s + 6 * h + w : Nat) : Int))) I) : Rj MX12_at 0 [aR 57, aI (s : Int), aI (h : Int), aI (w : Int)] I Q := by
  refine rj_of okX12_at (Nat.le_of_ble_eq_true rfl) rfl ?_
  refine b_bipush rfl (by decide) ?_
  refine b_iconst rfl (by decide) ?_
  refine b_iload_n rfl rfl ?_
  refine b_imulN rfl (by omega) (by omega) ?_
  refine b_iload_n rfl rfl ?_
  refine b_iaddN rfl (by omega) (by omega) ?_
  refine b_imulN rfl (by omega) (by omega) ?_
  refine b_iload_n rfl rfl ?_
  refine b_iaddN rfl (by omega) (by omega) ?_
  refine b_iret rfl rfl ?_
  exact qI kq (by omega) rfl
theorem spm_adds {J K : HI} {Q : Option AV → HI → Prop} {C : Nat → List Int} {b w h : Nat} {n W L T N : Int} (hR : RP J K C b) (hw : (w : Int) < J 4 0) (hh : h < 100) (hn : -1000 ≤ n ∧ n ≤ 1000) (hb : bd9 W L T N) (kq : Q none (mS K (W + n * J 6 w) (L + n * J 7 w) (T + sd (h : Int) * n * (J 6 w - J 7 w)) (N + n))) : Rj MX12_adds 0 [aR 57, aI (w : Int), aI (h : Int), aI n] (mS K W L T N) Q := by
  have hRm : RP J (mS K W L T N) C b := hR.mS
  have hb1 := hRm.1
  have hb2 := hR.2.1
  have hp := hR.2.2.2.2.2.2.2.2.2
  have hw6 : w < 6 := by have := hp.1 0 (by decide); omega
  have r := hp.2.1 w hw6
  have q := hRm.2.2.2.2.2.1 w hw
  have q1 := q.1
  have q2 := q.2
  have m1 := mulB (a := n) (b := J 6 w) (A := 1000) (B := 99) (by omega) (by omega)
  have m2 := mulB (a := n) (b := J 7 w) (A := 1000) (B := 99) (by omega) (by omega)
  have ed : n * (J 6 w - J 7 w) = n * J 6 w - n * J 7 w := Int.mul_sub _ _ _
  have es : sd (h : Int) * n * (J 6 w - J 7 w) = if h % 2 = 0 then n * J 6 w - n * J 7 w else n * J 7 w - n * J 6 w := by
    unfold sd
    by_cases e : h % 2 = 0
    · rw [if_pos (by omega), if_pos e, Int.one_mul, ed]
    · rw [if_neg (by omega), if_neg e, Int.mul_assoc, ed]; omega
  rw [es] at kq
  have f57 : mS K W L T N 57 57 = W := rfl
  unfold bd9 at hb
  refine rj_of okX12_adds (Nat.le_of_ble_eq_true rfl) rfl ?_
  refine b_iload_n rfl rfl ?_
  refine b_aload_n rfl rfl ?_
  refine b_getR (r := 60) rfl fl12_57 rfl (by decide) rfl rfl ?_
  refine b_bipush rfl (by decide) ?_
  refine b_aload_n rfl rfl ?_
  refine b_getI rfl fl12_51 rfl (by decide) rfl ?_
  rw [hb1]
  refine b_imulN rfl (by omega) (by omega) ?_
  refine b_iload_n rfl rfl ?_
  refine b_iaddN rfl (by omega) (by omega) ?_
  refine b_iald rfl rfl (by omega) (by omega) ?_
  try simp only [tn6, tn4, tn2, tn144, tn24, tn_cast, Int.reduceToNat]
  rw [q1]
  refine b_imulN rfl (by omega) (by omega) ?_
  refine b_istoreX (F := fun z16 => [some (aR 57), some (aI (w : Int)), some (aI (h : Int)), some (aI n), some (aI z16), none]) rfl (by decide) (fun _ => rfl) (fun z16 ez16 => ?_)
  refine b_iload_n rfl rfl ?_
  refine b_aload_n rfl rfl ?_
  refine b_getR (r := 61) rfl fl12_60 rfl (by decide) rfl rfl ?_
  refine b_bipush rfl (by decide) ?_
  refine b_aload_n rfl rfl ?_
  refine b_getI rfl fl12_51 rfl (by decide) rfl ?_
  rw [hb1]
  refine b_imulN rfl (by omega) (by omega) ?_
  refine b_iload_n rfl rfl ?_
  refine b_iaddN rfl (by omega) (by omega) ?_
  refine b_iald rfl rfl (by omega) (by omega) ?_
  try simp only [tn6, tn4, tn2, tn144, tn24, tn_cast, Int.reduceToNat]
  rw [q2]
  refine b_imulN rfl (by omega) (by omega) ?_
  refine b_istoreX (F := fun z34 => [some (aR 57), some (aI (w : Int)), some (aI (h : Int)), some (aI n), some (aI z16), some (aI z34)]) rfl (by decide) (fun _ => rfl) (fun z34 ez34 => ?_)
  refine b_aload_n rfl rfl ?_
  refine b_dup rfl rfl ?_
  refine b_getI rfl fl12_186 rfl (by decide) rfl ?_
  rw [show mS K W L T N 57 57 = W from rfl]
  refine b_iload rfl rfl ?_
  refine b_iaddN rfl (by omega) (by omega) ?_
  refine b_putI rfl fl12_186 rfl (by decide) rfl ?_
  rw [mS_W]
  refine b_aload_n rfl rfl ?_
  refine b_dup rfl rfl ?_
  refine b_getI rfl fl12_189 rfl (by decide) rfl ?_
  rw [show ∀ x, mS K x L T N 57 58 = L from fun _ => rfl]
  refine b_iload rfl rfl ?_
  refine b_iaddN rfl (by omega) (by omega) ?_
  refine b_putI rfl fl12_189 rfl (by decide) rfl ?_
  rw [mS_L]
  refine b_aload_n rfl rfl ?_
  refine b_dup rfl rfl ?_
  refine b_getI rfl fl12_195 rfl (by decide) rfl ?_
  rw [show ∀ x y, mS K x y T N 57 60 = N from fun _ _ => rfl]
  refine b_iload_n rfl rfl ?_
  refine b_iaddN rfl (by omega) (by omega) ?_
  refine b_putI rfl fl12_195 rfl (by decide) rfl ?_
  rw [mS_N]
  refine b_aload_n rfl rfl ?_
  refine b_dup rfl rfl ?_
  refine b_getI rfl fl12_192 rfl (by decide) rfl ?_
  rw [show ∀ x y z, mS K x y T z 57 59 = T from fun _ _ _ => rfl]
  refine b_iload_n rfl rfl ?_
  refine b_iconst rfl (by decide) ?_
  refine b_iremP rfl (by omega) (by omega) ?_
  refine b_if_ne (tgt := 87) rfl rfl (fun c76 => ?_) (fun c76 => ?_)
  · refine b_iload rfl rfl ?_
    refine b_iload rfl rfl ?_
    refine b_isubN rfl (by omega) (by omega) ?_
    refine b_iaddN rfl (by omega) (by omega) ?_
    refine b_putI rfl fl12_192 rfl (by decide) rfl ?_
    refine b_vret rfl rfl ?_
    rw [mS_T]
    first
      | (rw [if_neg (by omega)] at kq; exact qN kq (by rw [ez16, ez34]))
      | (rw [if_pos (by omega)] at kq; exact qN kq (by rw [ez16, ez34]))
  · refine b_iload rfl rfl ?_
    refine b_iload rfl rfl ?_
    refine b_isubN rfl (by omega) (by omega) ?_
    refine b_goto (tgt := 92) rfl rfl ?_
    refine b_iaddN rfl (by omega) (by omega) ?_
    refine b_putI rfl fl12_192 rfl (by decide) rfl ?_
    refine b_vret rfl rfl ?_
    rw [mS_T]
    first
      | (rw [if_neg (by omega)] at kq; exact qN kq (by rw [ez16, ez34]))
      | (rw [if_pos (by omega)] at kq; exact qN kq (by rw [ez16, ez34]))
theorem spm_empties {K : HI} {Q : Option AV → HI → Prop} (kq : Q none (mS K 0 0 0 0)) : Rj MX12_empties 0 [aR 57] K Q := by
  refine rj_of okX12_empties (Nat.le_of_ble_eq_true rfl) rfl ?_
  refine b_aload_n rfl rfl ?_
  refine b_iconst rfl (by decide) ?_
  refine b_putI rfl fl12_186 rfl (by decide) rfl ?_
  refine b_aload_n rfl rfl ?_
  refine b_iconst rfl (by decide) ?_
  refine b_putI rfl fl12_189 rfl (by decide) rfl ?_
  refine b_aload_n rfl rfl ?_
  refine b_iconst rfl (by decide) ?_
  refine b_putI rfl fl12_192 rfl (by decide) rfl ?_
  refine b_aload_n rfl rfl ?_
  refine b_iconst rfl (by decide) ?_
  refine b_putI rfl fl12_195 rfl (by decide) rfl ?_
  refine b_vret rfl rfl ?_
  exact kq
/-- what ship s carries if the crates lie as f says -/
def wOf (J : HI) (f : Nat → Int) (s : Nat) : Int := tW (row J 32 f) 32 s
def lOf (J : HI) (f : Nat → Int) (s : Nat) : Int := tL (row J 32 f) 32 s
def tOf (J : HI) (f : Nat → Int) (s : Nat) : Int := tT (row J 32 f) 32 s
def nOf (J : HI) (f : Nat → Int) (s : Nat) : Int := tN (row J 32 f) 32 s
def mCar (J K : HI) (f : Nat → Int) (s : Nat) : HI := mS K (wOf J f s) (lOf J f s) (tOf J f s) (nOf J f s)
theorem S2_ext {nh nw : Nat} {f : Nat → Nat → Int} : ∀ m, (∀ h w, nh ≤ h → h < nh + m → w < nw → f h w = 0) → S2 (nh + m) nw f = S2 nh nw f := by
  intro m
  induction m with
  | zero => intro _; rfl
  | succ m ih =>
    intro h
    show S2 (nh + m) nw f + sumN nw (fun w => f (nh + m) w) = _
    rw [ih (fun a b h1 h2 h3 => h a b h1 (by omega) h3), sumN_zero (fun w hw => h (nh + m) w (by omega) (by omega) hw), Int.add_zero]
/-- what is not there is empty -/
def ZF (J : HI) (f : Nat → Int) : Prop := ∀ s h w : Nat, s < 6 → h < 4 → w < 6 → ¬ ((s : Int) < J 4 1 ∧ h < nH J s ∧ (w : Int) < J 4 0) → f (24 * s + 6 * h + w) = 0
theorem spm_carries {J K : HI} {Q : Option AV → HI → Prop} {C : Nat → List Int} {b v s : Nat} {f : Nat → Int} (hR : RP J K C b) (hv : v < 22) (hs : (s : Int) < J 4 1) (hf : ∀ c, c < 144 → K 87 (144 * v + c) = f c) (hfb : ∀ c, 0 ≤ f c ∧ f c ≤ 50) (hz : ZF J f) (kq : Q none (mCar J K f s)) : Rj MX12_carries 1 [aR 57, aI (v : Int), aI (s : Int)] K Q := by
  have hp := hR.2.2.2.2.2.2.2.2.2
  have hb2 := hR.2.1
  have hs6 : s < 6 := by have := hp.1 1 (by decide); omega
  obtain ⟨w1, w2⟩ := nW_in hp
  obtain ⟨n1, n2, n3⟩ := nH_in hp hs
  have hpG : pOK (row J 32 f) := pOK_to hp (row_cell (by decide)) (row_cell (by decide)) (row_cell (by decide))
  have hcB : crB (row J 32 f) 32 := fun k => by rw [row_same]; have := hfb k; omega
  have g6 : row J 32 f 6 = J 6 := row_cell (by decide)
  have g7 : row J 32 f 7 = J 7 := row_cell (by decide)
  have fcr : ∀ c, row J 32 f 32 c = f c := fun c => by rw [row_same]
  have hnb : ∀ i j, j < 6 → -29700 ≤ cN (row J 32 f) 32 s i j ∧ cN (row J 32 f) 32 s i j ≤ 29700 := fun i j _ => by unfold cN; rw [fcr]; have := hfb (24 * s + 6 * i + j); omega
  have ext : ∀ g : Nat → Nat → Int, (∀ h w, f (24 * s + 6 * h + w) = 0 → g h w = 0) → S2 4 (nW J) g = S2 (nH J s) (nW J) g := by
    intro g hg
    have h1 := S2_ext (nh := nH J s) (nw := nW J) (f := g) (4 - nH J s) (fun h w h1 h2 h3 => hg h w (hz s h w hs6 (by omega) (by omega) (fun z => by omega)))
    rw [show nH J s + (4 - nH J s) = 4 by omega] at h1
    exact h1
  have eW : wOf J f s = S2 4 (nW J) (cW (row J 32 f) 32 s) := (ext _ (fun h w e => by unfold cW; rw [fcr, e, Int.zero_mul])).symm
  have eL : lOf J f s = S2 4 (nW J) (cL (row J 32 f) 32 s) := (ext _ (fun h w e => by unfold cL; rw [fcr, e, Int.zero_mul])).symm
  have eT : tOf J f s = S2 4 (nW J) (cT (row J 32 f) 32 s) := (ext _ (fun h w e => by unfold cT; rw [fcr, e, Int.mul_zero, Int.zero_mul])).symm
  have eN : nOf J f s = S2 4 (nW J) (cN (row J 32 f) 32 s) := (ext _ (fun h w e => by unfold cN; rw [fcr, e])).symm
  unfold mCar at kq
  rw [eW, eL, eT, eN] at kq
  have bdp : ∀ i j, i < 4 → j ≤ nW J → bd9 (S2 i (nW J) (cW (row J 32 f) 32 s) + sumN j (fun w => cW (row J 32 f) 32 s i w)) (S2 i (nW J) (cL (row J 32 f) 32 s) + sumN j (fun w => cL (row J 32 f) 32 s i w)) (S2 i (nW J) (cT (row J 32 f) 32 s) + sumN j (fun w => cT (row J 32 f) 32 s i w)) (S2 i (nW J) (cN (row J 32 f) 32 s) + sumN j (fun w => cN (row J 32 f) 32 s i w)) := by
    intro i j hi hj
    have a1 := S2_b (nh := 4) (h := i) (w := j) (nw := nW J) (f := cW (row J 32 f) 32 s) (by omega) hj (by omega) w1 (fun i j hj => cW_in hpG hcB hj)
    have a2 := S2_b (nh := 4) (h := i) (w := j) (nw := nW J) (f := cL (row J 32 f) 32 s) (by omega) hj (by omega) w1 (fun i j hj => cL_in hpG hcB hj)
    have a3 := S2_b (nh := 4) (h := i) (w := j) (nw := nW J) (f := cT (row J 32 f) 32 s) (by omega) hj (by omega) w1 (fun i j hj => cT_in hpG hcB hj)
    have a4 := S2_b (nh := 4) (h := i) (w := j) (nw := nW J) (f := cN (row J 32 f) 32 s) (by omega) hj (by omega) w1 hnb
    exact ⟨a1.1, a1.2, a2.1, a2.2, a3.1, a3.2, a4.1, a4.2⟩
  have outer : ∀ (n i : Nat) (z : Int) (x : Option AV), z = (i : Int) → i + n = 4 → Bj MX12_carries 1 6 [some (aR 57), some (aI (v : Int)), some (aI (s : Int)), some (aI z), x] [] (mS K (S2 i (nW J) (cW (row J 32 f) 32 s)) (S2 i (nW J) (cL (row J 32 f) 32 s)) (S2 i (nW J) (cT (row J 32 f) 32 s)) (S2 i (nW J) (cN (row J 32 f) 32 s))) Q := by
    intro n
    induction n with
    | zero =>
      intro i z x hz hi
      have ei : i = 4 := by omega
      subst ei
      refine b_iload_n rfl rfl ?_
      refine b_iconst rfl (by decide) ?_
      refine b_icmp_ge (tgt := 66) rfl rfl (fun c8 => ?_) (fun c8 => ?_)
      · refine b_vret rfl rfl ?_
        exact kq
      · omega
    | succ n ih =>
      intro i z x hz hi
      subst hz
      have inner : ∀ (n j : Nat) (z : Int), z = (j : Int) → j + n = nW J → Bj MX12_carries 1 14 [some (aR 57), some (aI (v : Int)), some (aI (s : Int)), some (aI (i : Int)), some (aI z)] [] (mS K (S2 i (nW J) (cW (row J 32 f) 32 s) + sumN j (fun w => cW (row J 32 f) 32 s i w)) (S2 i (nW J) (cL (row J 32 f) 32 s) + sumN j (fun w => cL (row J 32 f) 32 s i w)) (S2 i (nW J) (cT (row J 32 f) 32 s) + sumN j (fun w => cT (row J 32 f) 32 s i w)) (S2 i (nW J) (cN (row J 32 f) 32 s) + sumN j (fun w => cN (row J 32 f) 32 s i w))) Q := by
        intro n
        induction n with
        | zero =>
          intro j z hz hj
          have ej : j = nW J := by omega
          subst ej
          have hb1 := (hR.mS (W := S2 i (nW J) (cW (row J 32 f) 32 s) + sumN (nW J) (fun w => cW (row J 32 f) 32 s i w)) (L := S2 i (nW J) (cL (row J 32 f) 32 s) + sumN (nW J) (fun w => cL (row J 32 f) 32 s i w)) (T := S2 i (nW J) (cT (row J 32 f) 32 s) + sumN (nW J) (fun w => cT (row J 32 f) 32 s i w)) (N := S2 i (nW J) (cN (row J 32 f) 32 s) + sumN (nW J) (fun w => cN (row J 32 f) 32 s i w))).1
          have q59 := hR.2.2.1
          refine b_iload rfl rfl ?_
          refine b_aload_n rfl rfl ?_
          refine b_getR (r := 59) rfl fl12_54 rfl (by decide) rfl rfl ?_
          refine b_aload_n rfl rfl ?_
          refine b_getI rfl fl12_51 rfl (by decide) rfl ?_
          rw [hb1]
          refine b_iald rfl rfl (by omega) (by omega) ?_
          try simp only [tn6, tn4, tn2, tn144, tn24, tn_cast, Int.reduceToNat]
          rw [mS_cell (by decide), q59]
          refine b_icmp_ge (tgt := 60) rfl rfl (fun c25 => ?_) (fun c25 => ?_)
          · refine b_iincX (F := fun z60 => [some (aR 57), some (aI (v : Int)), some (aI (s : Int)), some (aI z60), some (aI z)]) rfl rfl (by omega) (by omega) (fun _ => rfl) (fun z60 ez60 => ?_)
            refine b_goto (tgt := 6) rfl rfl ?_
            exact ih (i + 1) _ _ (by omega) (by omega)
          · omega
        | succ n ihn =>
          intro j z hz hj
          subst hz
          have hbp := bdp i j (by omega) (by omega)
          have q59 := hR.2.2.1
          have q87 := hf (24 * s + 6 * i + j) (by omega)
          have e87 : (144 * (v : Int) + ((24 * s + 6 * i + j : Nat) : Int)).toNat = 144 * v + (24 * s + 6 * i + j) := by omega
          have hfc := hfb (24 * s + 6 * i + j)
          have nx : ∀ c : Nat → Nat → Int, S2 i (nW J) c + sumN (j + 1) (fun w => c i w) = S2 i (nW J) c + sumN j (fun w => c i w) + c i j := fun c => by
            show _ + (sumN j (fun w => c i w) + c i j) = _
            omega
          have cW1 : cW (row J 32 f) 32 s i j = f (24 * s + 6 * i + j) * J 6 j := by unfold cW; rw [fcr, g6]
          have cL1 : cL (row J 32 f) 32 s i j = f (24 * s + 6 * i + j) * J 7 j := by unfold cL; rw [fcr, g7]
          have cT1 : cT (row J 32 f) 32 s i j = sd (i : Int) * f (24 * s + 6 * i + j) * (J 6 j - J 7 j) := by unfold cT; rw [fcr, g6, g7]
          have cN1 : cN (row J 32 f) 32 s i j = f (24 * s + 6 * i + j) := by unfold cN; rw [fcr]
          have ihj := ihn (j + 1)
          rw [nx, nx, nx, nx, cW1, cL1, cT1, cN1] at ihj
          have hbk := hR.1
          generalize S2 i (nW J) (cW (row J 32 f) 32 s) + sumN j (fun w => cW (row J 32 f) 32 s i w) = W0 at *
          generalize S2 i (nW J) (cL (row J 32 f) 32 s) + sumN j (fun w => cL (row J 32 f) 32 s i w) = L0 at *
          generalize S2 i (nW J) (cT (row J 32 f) 32 s) + sumN j (fun w => cT (row J 32 f) 32 s i w) = T0 at *
          generalize S2 i (nW J) (cN (row J 32 f) 32 s) + sumN j (fun w => cN (row J 32 f) 32 s i w) = N0 at *
          refine b_iload rfl rfl ?_
          refine b_aload_n rfl rfl ?_
          refine b_getR (r := 59) rfl fl12_54 rfl (by decide) rfl rfl ?_
          refine b_aload_n rfl rfl ?_
          refine b_getI rfl fl12_51 rfl (by decide) rfl ?_
          rw [show mS K W0 L0 T0 N0 57 13 = (b : Int) from hbk]
          refine b_iald rfl rfl (by omega) (by omega) ?_
          try simp only [tn6, tn4, tn2, tn144, tn24, tn_cast, Int.reduceToNat]
          rw [mS_cell (by decide), q59]
          refine b_icmp_ge (tgt := 60) rfl rfl (fun c25 => ?_) (fun c25 => ?_)
          · omega
          · refine b_aload_n rfl rfl ?_
            refine b_iload rfl rfl ?_
            refine b_iload_n rfl rfl ?_
            refine b_aload_n rfl rfl ?_
            refine b_getR (r := 87) rfl fl12_162 rfl (by decide) rfl rfl ?_
            refine b_sipush rfl (by decide) ?_
            refine b_iload_n rfl rfl ?_
            refine b_imulN rfl (by omega) (by omega) ?_
            refine b_aload_n rfl rfl ?_
            refine b_iload_n rfl rfl ?_
            refine b_iload_n rfl rfl ?_
            refine b_iload rfl rfl ?_
            refine b_callV3i (ν := MX12_at) rfl ml12_460 cvX12_at (d' := 0) (by omega) rfl (by decide) rfl (Nat.le_of_ble_eq_true rfl) ?_
            refine spm_at (by omega) (by omega) (by omega) ?_
            refine ⟨_, rfl, ?_⟩
            refine b_iaddN rfl (by omega) (by omega) ?_
            refine b_iald rfl rfl (by omega) (by omega) ?_
            try simp only [tn6, tn4, tn2, tn144, tn24, tn_cast, Int.reduceToNat]
            rw [mS_cell (by decide), q87]
            refine b_callV3v (ν := MX12_adds) rfl ml12_464 cvX12_adds (d' := 0) (by omega) rfl (by decide) rfl (Nat.le_of_ble_eq_true rfl) ?_
            refine spm_adds hR (by omega) (by omega) (by omega) hbp ?_
            refine ⟨rfl, ?_⟩
            refine b_iincX (F := fun z54 => [some (aR 57), some (aI (v : Int)), some (aI (s : Int)), some (aI (i : Int)), some (aI z54)]) rfl rfl (by omega) (by omega) (fun _ => rfl) (fun z54 ez54 => ?_)
            refine b_goto (tgt := 14) rfl rfl ?_
            exact ihj _ (by omega) (by omega)
      refine b_iload_n rfl rfl ?_
      refine b_iconst rfl (by decide) ?_
      refine b_icmp_ge (tgt := 66) rfl rfl (fun c8 => ?_) (fun c8 => ?_)
      · omega
      · refine b_iconst rfl (by decide) ?_
        refine b_istoreX (F := fun z12 => [some (aR 57), some (aI (v : Int)), some (aI (s : Int)), some (aI (i : Int)), some (aI z12)]) rfl (by decide) (fun _ => rfl) (fun z12 ez12 => ?_)
        have h0 := inner (nW J) 0 _ ez12 (by omega)
        simp only [sumN, Int.add_zero] at h0
        exact h0
  refine rj_of okX12_carries (Nat.le_of_ble_eq_true rfl) rfl ?_
  refine b_aload_n rfl rfl ?_
  refine b_callV0v (ν := MX12_empties) rfl ml12_457 cvX12_empties (d' := 0) (by omega) rfl (by decide) rfl (Nat.le_of_ble_eq_true rfl) ?_
  refine spm_empties ?_
  refine ⟨rfl, ?_⟩
  refine b_iconst rfl (by decide) ?_
  refine b_istoreX_n (F := fun z5 => [some (aR 57), some (aI (v : Int)), some (aI (s : Int)), some (aI z5), none]) rfl (by decide) (fun _ => rfl) (fun z5 ez5 => ?_)
  exact outer 4 0 _ _ (by omega) (by omega)
