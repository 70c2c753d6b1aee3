/-! ===== the reference: stow ===== -/
theorem mS_r95 {H : HI} {g : Nat → Int} {W L T N : Int} : mS (row H 95 g) W L T N = row (mS H W L T N) 95 g := by
  funext q j; simp only [mS, up_ap, row_ap]; grind
theorem pV_sh {W : Nat → Nat} {nt : Nat → Int} {nh : Nat} {t d : Int} : ∀ k q, pV W nt nh (t + d) k q = pV W nt nh t k q + d := by
  intro k
  induction k with
  | zero => intro q; rfl
  | succ k ih =>
    intro q
    show pV W nt nh (t + d) k (q / nh) + _ = pV W nt nh t k (q / nh) + _ + d
    rw [ih]; omega
theorem car_t {J : HI} {f : Nat → Int} {s : Nat} (hp : pOK J) (hf : ∀ k, 0 ≤ f k ∧ f k ≤ 20) (hs : (s : Int) < J 4 1) : (-50000 ≤ wOf J f s ∧ wOf J f s ≤ 50000) ∧ (-50000 ≤ lOf J f s ∧ lOf J f s ≤ 50000) ∧ (-50000 ≤ tOf J f s ∧ tOf J f s ≤ 50000) ∧ (-50000 ≤ nOf J f s ∧ nOf J f s ≤ 50000) := by
  obtain ⟨w1, w2⟩ := nW_in hp
  obtain ⟨g1, g2, g3⟩ := nH_in hp hs
  have hm : (nH J s : Int) * ((nW J : Int) * 1980) ≤ 4 * (6 * 1980) := by
    have h9 : nH J s * nW J ≤ 4 * 6 := Nat.mul_le_mul (by omega) (by omega)
    rw [← Int.mul_assoc, ← Int.natCast_mul]
    omega
  have gen : ∀ g : Nat → Nat → Int, (∀ i j, i < nH J s → j < nW J → -1980 ≤ g i j ∧ g i j ≤ 1980) → -50000 ≤ S2 (nH J s) (nW J) g ∧ S2 (nH J s) (nW J) g ≤ 50000 := fun g hg => by
    have := S2_le (nh := nH J s) (nw := nW J) (f := g) (b := 1980) (by omega) hg
    omega
  refine ⟨gen _ (fun i j hi hj => ?_), gen _ (fun i j hi hj => ?_), gen _ (fun i j hi hj => ?_), gen _ (fun i j hi hj => ?_)⟩
  · have h1 := hf (24 * s + 6 * i + j)
    have h2 := hp.2.1 j (by omega)
    have := mulB (a := f (24 * s + 6 * i + j)) (b := J 6 j) (A := 20) (B := 99) (by omega) (by omega)
    show -1980 ≤ f (24 * s + 6 * i + j) * J 6 j ∧ f (24 * s + 6 * i + j) * J 6 j ≤ 1980
    omega
  · have h1 := hf (24 * s + 6 * i + j)
    have h2 := hp.2.1 j (by omega)
    have := mulB (a := f (24 * s + 6 * i + j)) (b := J 7 j) (A := 20) (B := 99) (by omega) (by omega)
    show -1980 ≤ f (24 * s + 6 * i + j) * J 7 j ∧ f (24 * s + 6 * i + j) * J 7 j ≤ 1980
    omega
  · have h1 := hf (24 * s + 6 * i + j)
    have h2 := hp.2.1 j (by omega)
    have := mulB (a := sd (i : Int) * f (24 * s + 6 * i + j)) (b := J 6 j - J 7 j) (A := 20) (B := 99) (by rcases sd_in (i : Int) with e | e <;> rw [e] <;> omega) (by omega)
    show -1980 ≤ sd (i : Int) * f (24 * s + 6 * i + j) * (J 6 j - J 7 j) ∧ sd (i : Int) * f (24 * s + 6 * i + j) * (J 6 j - J 7 j) ≤ 1980
    omega
  · have h1 := hf (24 * s + 6 * i + j)
    show -1980 ≤ f (24 * s + 6 * i + j) ∧ f (24 * s + 6 * i + j) ≤ 1980
    omega
theorem spm_at' {I : HI} {Q : Option AV → HI → Prop} {s h w : Nat} {x y z : Int} (hx : x = (s : Int)) (hy : y = (h : Int)) (hz : z = (w : Int)) (hs : s < 100) (hh : h < 300) (hw : w < 300) (kq : Q (some (aI ((24 * s + 6 * h + w : Nat) : Int))) I) : Rj MX12_at 0 [aR 57, aI x, aI y, aI z] I Q := by
  subst hx; subst hy; subst hz
  exact spm_at hs hh hw kq
theorem spm_adds' {J K : HI} {Q : Option AV → HI → Prop} {C : Nat → List Int} {b w h : Nat} {n W L T N y z : Int} (hy : y = (w : Int)) (hz : z = (h : Int)) (hR : RP J K C b) (hw : (w : Int) < J 4 0) (hh : h < 100) (hn : -1000 ≤ n ∧ n ≤ 1000) (hb : bd9 W L T N) (kq : Q none (mS K (W + n * J 6 w) (L + n * J 7 w) (T + sd (h : Int) * n * (J 6 w - J 7 w)) (N + n))) : Rj MX12_adds 0 [aR 57, aI y, aI z, aI n] (mS K W L T N) Q := by
  subst hy; subst hz
  exact spm_adds hR hw hh hn hb kq
def bM (J : HI) (s : Nat) (M : Nat → Int) : Nat → Int := fun c => J 32 c + (if 24 * s ≤ c ∧ c < 24 * s + 24 then M (c - 24 * s) else 0)
theorem bM_ad {J : HI} {s i : Nat} {M : Nat → Int} (hi : i < 24) : bM J s (ud M i (M i + 1)) = ad (bM J s M) (24 * s + i) 1 := by
  funext c
  simp only [bM, ad, ud]
  by_cases e : c = 24 * s + i
  · rw [if_pos (by omega), if_pos (by omega), if_pos (by omega), if_pos e, show c - 24 * s = i by omega]; omega
  · by_cases q : 24 * s ≤ c ∧ c < 24 * s + 24
    · rw [if_pos q, if_pos q, if_neg (by omega), if_neg e]; omega
    · rw [if_neg q, if_neg q, if_neg e]; omega
theorem spm_goesIn {J I : HI} {Q : Option AV → HI → Prop} {C : Nat → List Int} {b s n way : Nat} {W : Nat → Nat} (hM : MN J I C b) (hs : (s : Int) < J 4 1) (hn : n ≤ 6) (hway : way < 1000000) (hW : ∀ k, k < n → I 58 k = (W k : Int) ∧ (W k : Int) < J 4 0) (k1 : pG W (nH J s) s (J 32) n way → ∀ W' L' N' M, Q (some (aI 1)) (mS (row I 95 M) W' L' (pV W (ntJ J) (nH J s) (tOf J (J 32) s) n way) N')) (k0 : ¬ pG W (nH J s) s (J 32) n way → ∀ W' L' T' N' M, Q (some (aI 0)) (mS (row I 95 M) W' L' T' N')) : Rj MX12_goesIn 2 [aR 57, aI (s : Int), aI (n : Int), aI (way : Int)] I Q := by
  have hR := hM.1
  have hp := hR.2.2.2.2.2.2.2.2.2
  have hb2 := hR.2.1
  have hs6 : s < 6 := by have := hp.1 1 (by decide); omega
  obtain ⟨w1, w2⟩ := nW_in hp
  obtain ⟨g1, g2, g3⟩ := nH_in hp hs
  have hRM : ∀ M W' L' T' N', RP J (mS (row I 95 M) W' L' T' N') C b := fun M W' L' T' N' => RP.mS (hR.to rfl (fun q hq => row_cell (by unfold mcell at hq; omega)))
  have hRM0 : ∀ M, RP J (row I 95 M) C b := fun M => hR.to rfl (fun q hq => row_cell (by unfold mcell at hq; omega))
  obtain ⟨ct1, ct2, ct3, ct4⟩ := car_t hp hM.2.2.1.2.2.2.1 hs
  rw [← gI_pG] at k1 k0
  have lp : ∀ (k q : Nat) (z5 z6 : Int) (x7 x8 : Option AV) (M : Nat → Int) (W' L' T' N' : Int), z5 = (q : Int) → z6 = (k : Int) - 1 → k ≤ n → q < 1000000 → (∀ i, i < 24 → 0 ≤ M i ∧ M i ≤ n - k) → (gI W (nH J s) s n way (J 32) ↔ gI W (nH J s) s k q (bM J s M)) → pV W (ntJ J) (nH J s) (tOf J (J 32) s) n way = pV W (ntJ J) (nH J s) T' k q → (-(50000 + 100 * (n - k : Int)) ≤ W' ∧ W' ≤ 50000 + 100 * (n - k : Int)) → (-(50000 + 100 * (n - k : Int)) ≤ L' ∧ L' ≤ 50000 + 100 * (n - k : Int)) → (-(50000 + 100 * (n - k : Int)) ≤ T' ∧ T' ≤ 50000 + 100 * (n - k : Int)) → (-(50000 + 100 * (n - k : Int)) ≤ N' ∧ N' ≤ 50000 + 100 * (n - k : Int)) → Bj MX12_goesIn 2 54 [some (aR 57), some (aI (s : Int)), some (aI (n : Int)), some (aI (way : Int)), some (aI (nH J s : Int)), some (aI z5), some (aI z6), x7, x8] [] (mS (row I 95 M) W' L' T' N') Q := by
    intro k
    induction k with
    | zero =>
      intro q z5 z6 x7 x8 M W' L' T' N' h5 h6 hk hq hMb hg hv b1 b2 b3 b4
      have hv2 : pV W (ntJ J) (nH J s) (tOf J (J 32) s) n way = T' := hv
      refine b_iload rfl rfl ?_
      refine b_if_lt (tgt := 149) rfl rfl (fun c56 => ?_) (fun c56 => ?_)
      · refine b_iconst rfl (by decide) ?_
        refine b_zret rfl rfl (by first | decide | omega) ?_
        have := k1 (hg.2 trivial) W' L' N' M
        rw [hv2] at this
        exact this
      · omega
    | succ k ih =>
      intro q z5 z6 x7 x8 M W' L' T' N' h5 h6 hk hq hMb hg hv b1 b2 b3 b4
      have e6 : z6 = (k : Int) := by omega
      subst e6
      subst h5
      obtain ⟨t1, t2⟩ := hW k (by omega)
      have hmod : q % nH J s < nH J s := Nat.mod_lt _ (by omega)
      have hdl : q / nH J s ≤ q := Nat.div_le_self _ _
      have id1 : (q : Int) % (nH J s : Int) = ((q % nH J s : Nat) : Int) := by push_cast; rfl
      have id2 : (q : Int) / (nH J s : Int) = ((q / nH J s : Nat) : Int) := by push_cast; rfl
      have hg2 : gI W (nH J s) s (k + 1) q (bM J s M) ↔ bM J s M (clS W s k (q % nH J s)) < 20 ∧ gI W (nH J s) s k (q / nH J s) (ad (bM J s M) (clS W s k (q % nH J s)) 1) := Iff.rfl
      have hv2 : pV W (ntJ J) (nH J s) T' (k + 1) q = pV W (ntJ J) (nH J s) (T' + sd ((q % nH J s : Nat) : Int) * ntJ J (W k)) k (q / nH J s) := by
        rw [pV_sh]; rfl
      rw [hg2] at hg
      rw [hv2] at hv
      generalize hh : q % nH J s = h at *
      have hcl : clS W s k h = 24 * s + (6 * h + W k) := by unfold clS; omega
      rw [hcl, ← bM_ad (by omega)] at hg
      have hbv : bM J s M (24 * s + (6 * h + W k)) = J 32 (24 * s + 6 * h + W k) + M (6 * h + W k) := by
        unfold bM
        rw [if_pos (by omega), show 24 * s + (6 * h + W k) - 24 * s = 6 * h + W k by omega, show 24 * s + (6 * h + W k) = 24 * s + 6 * h + W k by omega]
      rw [hbv] at hg
      have q87 := hM.2.2.2.1.2.2.1 (24 * s + 6 * h + W k) (by omega)
      rw [Nat.mul_zero, Nat.zero_add] at q87
      have hcc := hM.2.2.1.2.2.2.1 (24 * s + 6 * h + W k)
      have hMk := hMb (6 * h + W k) (by omega)
      have r := hp.2.1 (W k) (by omega)
      have esd := sd_in (h : Int)
      have msd := mulB (a := sd (h : Int)) (b := J 6 (W k) - J 7 (W k)) (A := 1) (B := 99) (by omega) (by omega)
      have u95 : ∀ v, up (mS (row I 95 M) W' L' T' N') 95 (6 * h + W k) v = mS (row I 95 (ud M (6 * h + W k) v)) W' L' T' N' := fun v => by
        rw [mS_r95, mS_r95, row_ud]
      have r95 : ∀ M', mS (row I 95 M') W' L' T' N' 95 = M' := fun M' => by rw [mS_cell (by decide), row_same]
      have i95 : (6 * (h : Int) + (W k : Int)).toNat = 6 * h + W k := by omega
      have c58 : mS (row I 95 M) W' L' T' N' 58 k = (W k : Int) := by rw [mS_cell (by decide), row_cell (by decide)]; exact t1
      have c87 : ∀ M', mS (row I 95 M') W' L' T' N' 87 (24 * s + 6 * h + W k) = J 32 (24 * s + 6 * h + W k) := fun M' => by rw [mS_cell (by decide), row_cell (by decide)]; exact q87
      have nud : ud M (6 * h + W k) (M (6 * h + W k) + 1) (6 * h + W k) = M (6 * h + W k) + 1 := if_pos rfl
      refine b_iload rfl rfl ?_
      refine b_if_lt (tgt := 149) rfl rfl (fun c56 => ?_) (fun c56 => ?_)
      · omega
      · refine b_iload rfl rfl ?_
        refine b_iload rfl rfl ?_
        refine b_iremP rfl (by omega) (by omega) ?_
        rw [id1]
        refine b_istoreX (F := fun z64 => [some (aR 57), some (aI (s : Int)), some (aI (n : Int)), some (aI (way : Int)), some (aI (nH J s : Int)), some (aI (q : Int)), some (aI (k : Int)), some (aI z64), x8]) rfl (by decide) (fun _ => rfl) (fun z64 ez64 => ?_)
        refine b_aload_n rfl rfl ?_
        refine b_getR (r := 58) rfl fl12_7 rfl (by decide) rfl rfl ?_
        refine b_iload rfl rfl ?_
        refine b_iald rfl rfl (by omega) (by omega) ?_
        try simp only [tn6, tn4, tn2, tn144, tn24, tn_cast, Int.reduceToNat]
        rw [c58]
        refine b_istoreX (F := fun z73 => [some (aR 57), some (aI (s : Int)), some (aI (n : Int)), some (aI (way : Int)), some (aI (nH J s : Int)), some (aI (q : Int)), some (aI (k : Int)), some (aI z64), some (aI z73)]) rfl (by decide) (fun _ => rfl) (fun z73 ez73 => ?_)
        refine b_iload rfl rfl ?_
        refine b_iload rfl rfl ?_
        refine b_idivP rfl (by omega) (by omega) ?_
        rw [id2]
        refine b_istoreX (F := fun z80 => [some (aR 57), some (aI (s : Int)), some (aI (n : Int)), some (aI (way : Int)), some (aI (nH J s : Int)), some (aI z80), some (aI (k : Int)), some (aI z64), some (aI z73)]) rfl (by decide) (fun _ => rfl) (fun z80 ez80 => ?_)
        have e7 : z64 = (h : Int) := ez64
        have e8 : z73 = (W k : Int) := ez73
        have e9 : z80 = ((q / nH J s : Nat) : Int) := ez80
        have j95 : (6 * z64 + z73).toNat = 6 * h + W k := by omega
        refine b_aload_n rfl rfl ?_
        refine b_getR (r := 95) rfl fl12_210 rfl (by decide) rfl rfl ?_
        refine b_bipush rfl (by decide) ?_
        refine b_iload rfl rfl ?_
        refine b_imulN rfl (by omega) (by omega) ?_
        refine b_iload rfl rfl ?_
        refine b_iaddN rfl (by omega) (by omega) ?_
        refine b_dup2 rfl rfl rfl ?_
        refine b_iald rfl rfl (by omega) (by omega) ?_
        try simp only [tn6, tn4, tn2, tn144, tn24, tn_cast, Int.reduceToNat]
        rw [j95, r95]
        refine b_iconst rfl (by decide) ?_
        refine b_iaddN rfl (by omega) (by omega) ?_
        refine b_iast rfl rfl (by omega) (by omega) ?_
        try simp only [tn6, tn4, tn2, tn144, tn24, tn_cast, Int.reduceToNat]
        rw [j95, u95]
        refine b_aload_n rfl rfl ?_
        refine b_getR (r := 87) rfl fl12_162 rfl (by decide) rfl rfl ?_
        refine b_aload_n rfl rfl ?_
        refine b_iload_n rfl rfl ?_
        refine b_iload rfl rfl ?_
        refine b_iload rfl rfl ?_
        refine b_callV3i (ν := MX12_at) rfl ml12_460 cvX12_at (d' := 0) (by omega) rfl (by decide) rfl (Nat.le_of_ble_eq_true rfl) ?_
        refine spm_at' (h := h) (w := W k) rfl e7 e8 (by omega) (by omega) (by omega) ?_
        refine ⟨_, rfl, ?_⟩
        refine b_iald rfl rfl (by omega) (by omega) ?_
        try simp only [tn6, tn4, tn2, tn144, tn24, tn_cast, Int.reduceToNat]
        rw [c87]
        refine b_aload_n rfl rfl ?_
        refine b_getR (r := 95) rfl fl12_210 rfl (by decide) rfl rfl ?_
        refine b_bipush rfl (by decide) ?_
        refine b_iload rfl rfl ?_
        refine b_imulN rfl (by omega) (by omega) ?_
        refine b_iload rfl rfl ?_
        refine b_iaddN rfl (by omega) (by omega) ?_
        refine b_iald rfl rfl (by omega) (by omega) ?_
        try simp only [tn6, tn4, tn2, tn144, tn24, tn_cast, Int.reduceToNat]
        rw [j95, r95, nud]
        refine b_iaddN rfl (by omega) (by omega) ?_
        refine b_bipush rfl (by decide) ?_
        refine b_icmp_le (tgt := 134) rfl rfl (fun c129 => ?_) (fun c129 => ?_)
        · refine b_aload_n rfl rfl ?_
          refine b_iload rfl rfl ?_
          refine b_iload rfl rfl ?_
          refine b_iconst rfl (by decide) ?_
          refine b_callV3v (ν := MX12_adds) rfl ml12_464 cvX12_adds (d' := 0) (by omega) rfl (by decide) rfl (Nat.le_of_ble_eq_true rfl) ?_
          refine spm_adds' (w := W k) (h := h) e8 e7 (hRM0 _) t2 (by omega) (by omega) (by unfold bd9; omega) ?_
          rw [Int.one_mul, Int.one_mul, Int.mul_one]
          refine ⟨rfl, ?_⟩
          refine b_iincX (F := fun z143 => [some (aR 57), some (aI (s : Int)), some (aI (n : Int)), some (aI (way : Int)), some (aI (nH J s : Int)), some (aI z80), some (aI z143), some (aI z64), some (aI z73)]) rfl rfl (by omega) (by omega) (fun _ => rfl) (fun z143 ez143 => ?_)
          refine b_goto (tgt := 54) rfl rfl ?_
          refine ih (q / nH J s) _ _ _ _ _ _ _ _ _ e9 (by omega) (by omega) (by omega) (fun i hi => ?_) ?_ ?_ (by omega) (by omega) (by omega) (by omega)
          · have := hMb i hi
            unfold ud
            split <;> omega
          · rw [hg]
            exact ⟨fun w => w.2, fun w => ⟨by omega, w⟩⟩
          · rw [hv]; rfl
        · refine b_iconst rfl (by decide) ?_
          refine b_zret rfl rfl (by first | decide | omega) ?_
          refine k0 (fun w => ?_) _ _ _ _ _
          have := (hg.1 w).1
          omega
  have fin_ : ∀ M : Nat → Int, (∀ j, j < 24 → M j = 0) → ∀ (z5 z6 : Int) (x7 x8 : Option AV), z5 = (way : Int) → z6 = (n : Int) - 1 → Bj MX12_goesIn 2 54 [some (aR 57), some (aI (s : Int)), some (aI (n : Int)), some (aI (way : Int)), some (aI (nH J s : Int)), some (aI z5), some (aI z6), x7, x8] [] (mS (row I 95 M) (wOf J (J 32) s) (lOf J (J 32) s) (tOf J (J 32) s) (nOf J (J 32) s)) Q := by
    intro M hM0 z5 z6 x7 x8 h5 h6
    have e : bM J s M = J 32 := by
      funext c
      unfold bM
      by_cases q : 24 * s ≤ c ∧ c < 24 * s + 24
      · rw [if_pos q, hM0 _ (by omega), Int.add_zero]
      · rw [if_neg q, Int.add_zero]
    exact lp n way _ _ _ _ M _ _ _ _ h5 h6 (Nat.le_refl _) hway (fun i hi => by rw [hM0 i hi]; omega) (by rw [e]) rfl (by omega) (by omega) (by omega) (by omega)
  have zero : ∀ (m i : Nat) (z : Int) (M : Nat → Int) (x5 x6 x7 x8 : Option AV), z = (i : Int) → i + m = 24 → (∀ j, j < i → M j = 0) → Bj MX12_goesIn 2 9 [some (aR 57), some (aI (s : Int)), some (aI (n : Int)), some (aI (way : Int)), some (aI z), x5, x6, x7, x8] [] (mS (row I 95 M) (wOf J (J 32) s) (lOf J (J 32) s) (tOf J (J 32) s) (nOf J (J 32) s)) Q := by
    intro m
    induction m with
    | zero =>
      intro i z M x5 x6 x7 x8 hz hi hz0
      have hbI := (hRM M (wOf J (J 32) s) (lOf J (J 32) s) (tOf J (J 32) s) (nOf J (J 32) s)).1
      have q63 := ((hRM M (wOf J (J 32) s) (lOf J (J 32) s) (tOf J (J 32) s) (nOf J (J 32) s)).2.2.2.2.2.2.1 s hs).1
      have hM0 : row I 95 M = row I 95 M := rfl
      refine b_iload rfl rfl ?_
      refine b_bipush rfl (by decide) ?_
      refine b_icmp_ge (tgt := 30) rfl rfl (fun c13 => ?_) (fun c13 => ?_)
      · refine b_aload_n rfl rfl ?_
        refine b_getR (r := 63) rfl fl12_66 rfl (by decide) rfl rfl ?_
        refine b_bipush rfl (by decide) ?_
        refine b_aload_n rfl rfl ?_
        refine b_getI rfl fl12_51 rfl (by decide) rfl ?_
        rw [hbI]
        refine b_imulN rfl (by omega) (by omega) ?_
        refine b_iload_n rfl rfl ?_
        refine b_iaddN rfl (by omega) (by omega) ?_
        refine b_iald rfl rfl (by omega) (by omega) ?_
        try simp only [tn6, tn4, tn2, tn144, tn24, tn_cast, Int.reduceToNat]
        rw [q63]
        refine b_istoreX (F := fun z44 => [some (aR 57), some (aI (s : Int)), some (aI (n : Int)), some (aI (way : Int)), some (aI z44), x5, x6, x7, x8]) rfl (by decide) (fun _ => rfl) (fun z44 ez44 => ?_)
        refine b_iload_n rfl rfl ?_
        refine b_istoreX (F := fun z47 => [some (aR 57), some (aI (s : Int)), some (aI (n : Int)), some (aI (way : Int)), some (aI z44), some (aI z47), x6, x7, x8]) rfl (by decide) (fun _ => rfl) (fun z47 ez47 => ?_)
        refine b_iload_n rfl rfl ?_
        refine b_iconst rfl (by decide) ?_
        refine b_isubN rfl (by omega) (by omega) ?_
        refine b_istoreX (F := fun z52 => [some (aR 57), some (aI (s : Int)), some (aI (n : Int)), some (aI (way : Int)), some (aI z44), some (aI z47), some (aI z52), x7, x8]) rfl (by decide) (fun _ => rfl) (fun z52 ez52 => ?_)
        have e44 : z44 = (nH J s : Int) := by omega
        subst e44
        exact fin_ M (fun j hj => hz0 j (by omega)) _ _ _ _ ez47 ez52
      · omega
    | succ m ih =>
      intro i z M x5 x6 x7 x8 hz hi hz0
      subst hz
      have u95 : up (mS (row I 95 M) (wOf J (J 32) s) (lOf J (J 32) s) (tOf J (J 32) s) (nOf J (J 32) s)) 95 i 0 = mS (row I 95 (ud M i 0)) (wOf J (J 32) s) (lOf J (J 32) s) (tOf J (J 32) s) (nOf J (J 32) s) := by
        rw [mS_r95, mS_r95, row_ud]
      refine b_iload rfl rfl ?_
      refine b_bipush rfl (by decide) ?_
      refine b_icmp_ge (tgt := 30) rfl rfl (fun c13 => ?_) (fun c13 => ?_)
      · omega
      · refine b_aload_n rfl rfl ?_
        refine b_getR (r := 95) rfl fl12_210 rfl (by decide) rfl rfl ?_
        refine b_iload rfl rfl ?_
        refine b_iconst rfl (by decide) ?_
        refine b_iast rfl rfl (by omega) (by omega) ?_
        try simp only [tn6, tn4, tn2, tn144, tn24, tn_cast, Int.reduceToNat]
        rw [u95]
        refine b_iincX (F := fun z24 => [some (aR 57), some (aI (s : Int)), some (aI (n : Int)), some (aI (way : Int)), some (aI z24), x5, x6, x7, x8]) rfl rfl (by omega) (by omega) (fun _ => rfl) (fun z24 ez24 => ?_)
        refine b_goto (tgt := 9) rfl rfl ?_
        refine ih (i + 1) _ _ _ _ _ _ (by omega) (by omega) (fun j hj => ?_)
        unfold ud
        by_cases e : j = i
        · rw [if_pos e]
        · rw [if_neg e]; exact hz0 j (by omega)
  refine rj_of okX12_goesIn (Nat.le_of_ble_eq_true rfl) rfl ?_
  refine b_aload_n rfl rfl ?_
  refine b_iconst rfl (by decide) ?_
  refine b_iload_n rfl rfl ?_
  refine b_callV2v (ν := MX12_carries) rfl ml12_493 cvX12_carries (d' := 1) (by omega) rfl (by decide) rfl (Nat.le_of_ble_eq_true rfl) ?_
  refine spq_carries hM hs ?_
  unfold mCar
  refine ⟨rfl, ?_⟩
  refine b_iconst rfl (by decide) ?_
  refine b_istoreX (F := fun z7 => [some (aR 57), some (aI (s : Int)), some (aI (n : Int)), some (aI (way : Int)), some (aI z7), none, none, none, none]) rfl (by decide) (fun _ => rfl) (fun z7 ez7 => ?_)
  refine b_cg ?_ (zero 24 0 _ (I 95) _ _ _ _ (by omega) (by omega) (fun j hj => absurd hj (by omega)))
  rw [row_self]
