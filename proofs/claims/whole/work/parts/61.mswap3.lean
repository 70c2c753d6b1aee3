/-! ===== the reference: swaps ===== -/
theorem cz_m {f f' : Nat → Int} (h : ∀ c, c < 144 → f c = f' c) {s k g w : Nat} (hs : s < 6) (hk : k < 4) (hg : g < 6) (hw : w < 6) (c : cz f s k g w) : cz f' s k g w := by
  unfold cz at *
  rw [← h _ (by omega), ← h _ (by omega)]
  exact c
theorem csP_m {f f' : Nat → Int} (h : ∀ c, c < 144 → f c = f' c) {s g w : Nat} {e : Int} (hs : s < 6) (hg : g < 6) (hw : w < 6) (c : csP f s e g w) : csP f' s e g w :=
  ⟨fun z => (c.1 z).elim (fun q => Or.inl (cz_m h hs (by decide) hg hw q)) (fun q => Or.inr (cz_m h hs (by decide) hg hw q)), fun z => (c.2 z).elim (fun q => Or.inl (cz_m h hs (by decide) hg hw q)) (fun q => Or.inr (cz_m h hs (by decide) hg hw q))⟩
theorem osQ_m {f f' nt : Nat → Int} (h : ∀ c, c < 144 → f c = f' c) {nw a b : Nat} {ta tb tA tB : Int} (hn : nw ≤ 6) (ha : a < 6) (hb : b < 6) (c : osQ f nt nw a b ta tb tA tB) : osQ f' nt nw a b ta tb tA tB := by
  obtain ⟨g, w, h1, h2, h3, e, he, q1, q2, e2, he2, q3, q4⟩ := c
  exact ⟨g, w, h1, h2, h3, e, he, q1, csP_m h ha (by omega) (by omega) q2, e2, he2, q3, csP_m h hb (by omega) (by omega) q4⟩
theorem tsQ_m {f f' nt : Nat → Int} (h : ∀ c, c < 144 → f c = f' c) {nw a b : Nat} {ta tb tA tB : Int} (hn : nw ≤ 6) (ha : a < 6) (hb : b < 6) (c : tsQ f nt nw a b ta tb tA tB) : tsQ f' nt nw a b ta tb tA tB := by
  obtain ⟨k, j, h1, h2, s1, s2, h3, r1, r2, q⟩ := c
  refine ⟨k, j, h1, h2, by rw [← h _ (by omega)]; exact s1, by rw [← h _ (by omega)]; exact s2, h3, by rw [← h _ (by omega)]; exact r1, by rw [← h _ (by omega)]; exact r2, osQ_m (fun c hc => ?_) hn ha hb q⟩
  unfold swF ad
  rw [h c hc]
theorem swV_m {f f' nt : Nat → Int} (h : ∀ c, c < 144 → f c = f' c) {nw a b : Nat} {ta tb tA tB : Int} (hn : nw ≤ 6) (ha : a < 6) (hb : b < 6) : swV f nt nw a b ta tb tA tB = swV f' nt nw a b ta tb tA tB := by
  have h' : ∀ c, c < 144 → f' c = f c := fun c hc => (h c hc).symm
  unfold swV
  rw [show osQ f nt nw a b ta tb tA tB = osQ f' nt nw a b ta tb tA tB from propext ⟨osQ_m h hn ha hb, osQ_m h' hn ha hb⟩, show tsQ f nt nw a b ta tb tA tB = tsQ f' nt nw a b ta tb tA tB from propext ⟨tsQ_m h hn ha hb, tsQ_m h' hn ha hb⟩]
theorem swF_b {f : Nat → Int} {a b x y : Nat} (hf : ∀ c, 0 ≤ f c ∧ f c ≤ 20) (hab : a ≠ b) (hx : x < 24) (hy : y < 24) (hs : swX f a b x y) : ∀ c, 0 ≤ swF f a b x y c ∧ swF f a b x y c ≤ 20 := by
  obtain ⟨s1, s2, s3⟩ := hs
  by_cases e : x % 6 = y % 6
  · rw [swF_same e (by omega)]; exact hf
  · obtain ⟨r1, r2⟩ := s3 e
    intro c
    have := hf c
    unfold swF ad
    by_cases c1 : c = 24 * a + x
    · subst c1
      rw [if_pos rfl, if_neg (by omega), if_neg (by omega), if_neg (by omega)]; omega
    · by_cases c2 : c = 24 * a + (x - x % 6 + y % 6)
      · subst c2
        rw [if_neg c1, if_pos rfl, if_neg (by omega), if_neg (by omega)]; omega
      · by_cases c3 : c = 24 * b + y
        · subst c3
          rw [if_neg c1, if_neg c2, if_pos rfl, if_neg (by omega)]; omega
        · by_cases c4 : c = 24 * b + (y - y % 6 + x % 6)
          · subst c4
            rw [if_neg c1, if_neg c2, if_neg c3, if_pos rfl]; omega
          · rw [if_neg c1, if_neg c2, if_neg c3, if_neg c4]; omega
theorem ZF_ZX {J : HI} {f : Nat → Int} (hp : pOK J) (hz : ZF J f) : ZX J f := by
  intro s x hs hx h
  have hs6 : s < 6 := by have := hp.1 1 (by decide); omega
  have hw := (nW_in hp).2
  have := hz s (x / 6) (x % 6) hs6 (by omega) (by omega)
  rw [show 24 * s + 6 * (x / 6) + x % 6 = 24 * s + x by omega] at this
  refine Classical.byContradiction (fun w => ?_)
  have h2 := this (fun z => w ⟨by omega, z.2.1⟩)
  omega
theorem swF_ZF {J : HI} {f : Nat → Int} {a b x y : Nat} (hp : pOK J) (hz : ZF J f) (ha : (a : Int) < J 4 1) (hb : (b : Int) < J 4 1) (hx : x < 24) (hy : y < 24) (s1 : 0 < f (24 * a + x)) (s2 : 0 < f (24 * b + y)) : ZF J (swF f a b x y) := by
  have hw := (nW_in hp).2
  have zx := ZF_ZX hp hz a x ha hx s1
  have zy := ZF_ZX hp hz b y hb hy s2
  intro s h w h1 h2 h3 hn
  have h0 := hz s h w h1 h2 h3 hn
  have key : ∀ (t k : Nat), k < 24 → (t : Int) < J 4 1 → k / 6 < nH J t → k % 6 < nW J → 24 * s + 6 * h + w ≠ 24 * t + k := by
    intro t k hk ht q1 q2 e
    have e1 : s = t ∧ h = k / 6 ∧ w = k % 6 := by omega
    exact hn ⟨by omega, by rw [e1.1, e1.2.1]; exact q1, by omega⟩
  have w6 := (nW_in hp).1
  have n1 := key a x hx ha zx.2 zx.1
  have n2 := key a (x - x % 6 + y % 6) (by omega) ha (by rw [show (x - x % 6 + y % 6) / 6 = x / 6 by omega]; exact zx.2) (by rw [show (x - x % 6 + y % 6) % 6 = y % 6 by omega]; exact zy.1)
  have n3 := key b y hy hb zy.2 zy.1
  have n4 := key b (y - y % 6 + x % 6) (by omega) hb (by rw [show (y - y % 6 + x % 6) / 6 = y / 6 by omega]; exact zy.2) (by rw [show (y - y % 6 + x % 6) % 6 = x % 6 by omega]; exact zx.1)
  unfold swF ad
  rw [if_neg n1, if_neg n2, if_neg n3, if_neg n4]
  omega
theorem spm_isLevelTried {J H : HI} {Q : Option AV → HI → Prop} {C : Nat → List Int} {bk a b s : Nat} {g : Nat → Int} (hT : TW J H C bk g a b) (has : asB H) (hs : (s : Int) < J 4 1) (k1 : ab1 (tOf J (tryF g) s) (J 7 (6 + s)) → ∀ W L T N, Q (some (aI 1)) (row (mS H W L T N) 87 g)) (k0 : ¬ ab1 (tOf J (tryF g) s) (J 7 (6 + s)) → ∀ W L T N, Q (some (aI 0)) (row (mS H W L T N) 87 g)) : Rj MX12_isLevelTried 2 [aR 57, aI (s : Int)] (row H 87 g) Q := by
  obtain ⟨hR, hg, hf, hz, ha, hb, hab⟩ := hT
  have has2 : asB (row H 87 g) := fun k => by rw [row_cell (by decide)]; exact has k
  refine rj_of okX12_isLevelTried (Nat.le_of_ble_eq_true rfl) rfl ?_
  refine b_aload_n rfl rfl ?_
  refine b_iconst rfl (by decide) ?_
  refine b_iload_n rfl rfl ?_
  refine b_callV2v (ν := MX12_carries) rfl ml12_493 cvX12_carries (d' := 1) (by omega) rfl (by decide) rfl (Nat.le_of_ble_eq_true rfl) ?_
  refine spm_carries (v := 1) hR (by decide) hs (fun c hc => by rw [row_same]; unfold tryF; rw [if_pos hc, Nat.mul_one]) (fun k => by have := hf k; omega) hz ?_
  refine ⟨rfl, ?_⟩
  refine b_aload_n rfl rfl ?_
  refine b_iload_n rfl rfl ?_
  refine b_callV1i (ν := MX12_isLevel) rfl ml12_473 cvX12_isLevel (d' := 1) (by omega) rfl (by decide) rfl (Nat.le_of_ble_eq_true rfl) ?_
  refine spm_isLevel (K0 := row H 87 g) (W := wOf J (tryF g) s) (L := lOf J (tryF g) s) (T := tOf J (tryF g) s) (N := nOf J (tryF g) s) hR (AsM.rf (asB_mS has2)) hs (fun hl => ?_) (fun hl => ?_)
  all_goals unfold mCar
  all_goals rw [mS_row]
  · refine ⟨_, rfl, ?_⟩
    refine b_zret rfl rfl (by first | decide | omega) ?_
    first
    | exact k1 hl _ _ _ _
    | exact k0 hl _ _ _ _
  · refine ⟨_, rfl, ?_⟩
    refine b_zret rfl rfl (by first | decide | omega) ?_
    first
    | exact k1 hl _ _ _ _
    | exact k0 hl _ _ _ _
theorem spq_swaps {J K : HI} {Q : Option AV → HI → Prop} {C : Nat → List Int} {b : Nat} {a d : Int} {nt : Nat → Int} (hM : MN J K C b) (hU : RUn J K) (hk4 : 0 ≤ J 30 4 ∧ J 30 4 ≤ 60) (hnt : ∀ w : Nat, (w : Int) < J 4 0 → nt w = J 6 w - J 7 w) (k1 : ∀ s t : Nat, a = (s : Int) → d = (t : Int) → (s : Int) < J 4 1 → (t : Int) < J 4 1 → s ≠ t → ∀ K', MFr K K' → SRn J K' → RUn J K' → Q (some (aI (swV (tr3 J) nt (nW J) s t (J 7 (6 + s)) (J 7 (6 + t)) (tT (row J 53 (tr3 J)) 53 s) (tT (row J 53 (tr3 J)) 53 t)))) K') (k0 : ¬ (kO J 4 1 a ∧ kO J 4 1 d ∧ a ≠ d) → Q (some (aI (-1))) K) : Rj MX12_swaps 3 [aR 57, aI a, aI d] K Q := by
  have hR := hM.1
  have hp := hR.2.2.2.2.2.2.2.2.2
  have h41 := hp.1 1 (by decide)
  obtain ⟨w6, w1⟩ := nW_in hp
  have hk8 : K 88 0 = J 30 4 := hM.2.2.2.1.2.2.2.1
  have main : ∀ s t : Nat, a = (s : Int) → d = (t : Int) → (s : Int) < J 4 1 → (t : Int) < J 4 1 → s ≠ t → Bj MX12_swaps 3 23 [some (aR 57), some (aI (s : Int)), some (aI (t : Int)), none, none, none, none, none, none] [] K Q := by
    intro s t has hdt hs ht hst
    have kk := k1 s t has hdt hs ht hst
    generalize hK1 : mcp K 1 0 = K1 at *
    have fr : ∀ W L T N, MFr K (mS K1 W L T N) := fun W L T N => by
      rw [← hK1]
      have h1 : MFr K (mcp K 1 0) := (MFr.rf hM.2.1).cp
      exact h1.tr (MFr.sc (ScM.rf h1.2.2).ms)
    have as1 : asB K1 := by rw [← hK1]; exact ((MFr.rf hM.2.1).cp).2.2
    have sr : ∀ W L T N, SRn J (mS K1 W L T N) := fun W L T N => by
      rw [← hK1]
      exact SR_to (SR_mcp_ne hM.2.2.2.1 (by decide) (by omega) hk4.2) (mS_cell (by decide)) (mS_cell (by decide)) (mS_cell (by decide)) (mS_cell (by decide)) (mS_cell (by decide)) (shp_of (mS_cell (by decide)) rfl)
    have ru : ∀ W L T N, RUn J (mS K1 W L T N) := fun W L T N => by
      rw [← hK1]
      refine RUn_to hU rfl rfl rfl rfl (fun q _ h1 h2 => ?_)
      exact SR_to (SR_mcp_ne h1 (by omega) (by omega) h2) (mS_cell (by decide)) (mS_cell (by decide)) (mS_cell (by decide)) (mS_cell (by decide)) (mS_cell (by decide)) (shp_of (mS_cell (by decide)) rfl)
    have g0 : ∀ c, c < 144 → K1 87 (144 + c) = J 32 c := fun c hc => by
      rw [← hK1]
      have := (SR_mcp_to (t := 1) hM.2.2.2.1).2.2.1 c hc
      rw [Nat.mul_one] at this
      exact this
    generalize hg : K1 87 = g at *
    have hK1r : ∀ W L T N, row (mS K1 W L T N) 87 g = mS K1 W L T N := fun W L T N => by
      rw [← hg, show K1 87 = mS K1 W L T N 87 from (mS_cell (by decide)).symm, row_self]
    have ftr : ∀ c, c < 144 → tryF g c = tr3 J c := fun c hc => by
      rw [tryF_at hc, g0 c hc]
      unfold tr3
      rw [if_pos hc]
    have hf : ∀ c, 0 ≤ tryF g c ∧ tryF g c ≤ 20 := fun c => by
      by_cases hc : c < 144
      · rw [tryF_at hc, g0 c hc]; exact hM.2.2.1.2.2.2.1 c
      · unfold tryF; rw [if_neg hc]; decide
    have hz : ZF J (tryF g) := fun s h w h1 h2 h3 hn => by
      rw [tryF_at (by omega), g0 _ (by omega)]
      exact hM.2.2.2.2.1 s h w h1 h2 h3 hn
    have tw : ∀ (W L T N : Int) (g' : Nat → Int), (∀ c, 0 ≤ tryF g' c ∧ tryF g' c ≤ 20) → ZF J (tryF g') → TW J (mS K1 W L T N) C b g' s t := fun W L T N g' h1 h2 => by
      refine ⟨(hR.fr (fr W L T N)).to rfl (fun q hq => row_cell (by unfold mcell at hq; omega)), fun c c1 c2 => ?_, h1, h2, hs, ht, hst⟩
      have := h1 (c - 144)
      rw [tryF_at (by omega), show 144 + (c - 144) = c by omega] at this
      omega
    have asm : ∀ W L T N, asB (mS K1 W L T N) := fun W L T N => asB_mS as1
    have ev_ : swV (tr3 J) nt (nW J) s t (J 7 (6 + s)) (J 7 (6 + t)) (tT (row J 53 (tr3 J)) 53 s) (tT (row J 53 (tr3 J)) 53 t) = rvS J (tryF g) s t := by
      rw [rv_sw (nt := nt) hp (ZF_ZX hp hz) hs ht hst (fun w hw => hnt w (by omega)), swV_m ftr w6 (by omega) (by omega)]
      have t1 : tT (row J 53 (tr3 J)) 53 s = tOf J (tryF g) s := (tOf_cg hp hs (fun c c1 c2 => ftr c (by omega))).symm
      have t2 : tT (row J 53 (tr3 J)) 53 t = tOf J (tryF g) t := (tOf_cg hp ht (fun c c1 c2 => ftr c (by omega))).symm
      rw [t1, t2]
    rw [ev_] at kk
    have l1e : ∀ g', (∀ c, 0 ≤ tryF g' c ∧ tryF g' c ≤ 20) → (l1Q J g' s t ↔ ∃ x y, x < 24 ∧ y < 24 ∧ l1X J (tryF g') s t (tOf J (tryF g') s) (tOf J (tryF g') t) x y) := fun g' h1 => by
      unfold l1Q l1P l1X
      constructor
      · intro ⟨x, y, hx, hy, q1, q2⟩
        exact ⟨x, y, hx, hy, (swC_iff (by omega) (by omega) hst hx hy h1).1 q1, q2⟩
      · intro ⟨x, y, hx, hy, q1, q2⟩
        exact ⟨x, y, hx, hy, (swC_iff (by omega) (by omega) hst hx hy h1).2 q1, q2⟩
    have le := l1e g hf
    unfold rvS at kk
    have kf : ∀ (v : Int), pI (ab1 (tOf J (tryF g) s) (J 7 (6 + s)) ∧ ab1 (tOf J (tryF g) t) (J 7 (6 + t))) 0 (pI (∃ x y, x < 24 ∧ y < 24 ∧ l1X J (tryF g) s t (tOf J (tryF g) s) (tOf J (tryF g) t) x y) 1 (pI (∃ x y, x < 24 ∧ y < 24 ∧ swX (tryF g) s t x y ∧ ∃ x' y', x' < 24 ∧ y' < 24 ∧ l1X J (swF (tryF g) s t x y) s t (tOf J (swF (tryF g) s t x y) s) (tOf J (swF (tryF g) s t x y) t) x' y') 2 (-1))) = v → ∀ W L T N, Q (some (aI v)) (row (mS K1 W L T N) 87 g) := fun v hv W L T N => by
      rw [hK1r]
      exact qI (kk _ (fr W L T N) (sr W L T N) (ru W L T N)) hv rfl
    have two : ¬ (ab1 (tOf J (tryF g) s) (J 7 (6 + s)) ∧ ab1 (tOf J (tryF g) t) (J 7 (6 + t))) → ¬ l1Q J g s t → ∀ (n x : Nat) (W L T N z : Int) (x5 x6 x7 x8 : Option AV), z = (x : Int) → x + n = 24 → (∀ x' y, x' < x → y < 24 → ¬ (swX (tryF g) s t x' y ∧ ∃ x2 y2, x2 < 24 ∧ y2 < 24 ∧ l1X J (swF (tryF g) s t x' y) s t (tOf J (swF (tryF g) s t x' y) s) (tOf J (swF (tryF g) s t x' y) t) x2 y2)) → Bj MX12_swaps 3 65 [some (aR 57), some (aI (s : Int)), some (aI (t : Int)), some (aI 144), some (aI z), x5, x6, x7, x8] [] (row (mS K1 W L T N) 87 g) Q := by
      intro hnl hn1 n
      have e1 := fun z => hn1 (le.2 z)
      induction n with
      | zero =>
        intro x W L T N z x5 x6 x7 x8 hz' hx hno
        refine b_iload rfl rfl ?_
        refine b_bipush rfl (by decide) ?_
        refine b_icmp_ge (tgt := 173) rfl rfl (fun c69 => ?_) (fun c69 => ?_)
        · refine b_iconst rfl (by decide) ?_
          refine b_iret rfl rfl ?_
          refine kf (-1) ?_ _ _ _ _
          rw [pI_0 hnl, pI_0 e1, pI_0]
          rintro ⟨x', y, h1, h2, h3⟩
          exact hno x' y (by omega) h2 h3
        · omega
      | succ n ih =>
        intro x W L T N z x5 x6 x7 x8 hz' hx hno
        subst hz'
        have inner : ∀ (n y : Nat) (W L T N z : Int) (x6 x7 x8 : Option AV), z = (y : Int) → y + n = 24 → (∀ y', y' < y → ¬ (swX (tryF g) s t x y' ∧ ∃ x2 y2, x2 < 24 ∧ y2 < 24 ∧ l1X J (swF (tryF g) s t x y') s t (tOf J (swF (tryF g) s t x y') s) (tOf J (swF (tryF g) s t x y') t) x2 y2)) → Bj MX12_swaps 3 75 [some (aR 57), some (aI (s : Int)), some (aI (t : Int)), some (aI 144), some (aI (x : Int)), some (aI z), x6, x7, x8] [] (row (mS K1 W L T N) 87 g) Q := by
          intro n
          induction n with
          | zero =>
            intro y W L T N z x6 x7 x8 hz' hy hn2
            refine b_iload rfl rfl ?_
            refine b_bipush rfl (by decide) ?_
            refine b_icmp_ge (tgt := 167) rfl rfl (fun c79 => ?_) (fun c79 => ?_)
            · refine b_iincX (F := fun z167 => [some (aR 57), some (aI (s : Int)), some (aI (t : Int)), some (aI (144 : Int)), some (aI z167), some (aI z), x6, x7, x8]) rfl rfl (by omega) (by omega) (fun _ => rfl) (fun z167 ez167 => ?_)
              refine b_goto (tgt := 65) rfl rfl ?_
              refine ih (x + 1) _ _ _ _ _ _ _ _ _ (by omega) (by omega) (fun x' y' h1 h2 => ?_)
              by_cases e : x' = x
              · subst e; exact hn2 y' (by omega)
              · exact hno x' y' (by omega) h2
            · omega
          | succ n ihn =>
            intro y W L T N z x6 x7 x8 hz' hy hn2
            subst hz'
            have id1 : (x : Int) % 6 = ((x % 6 : Nat) : Int) := by omega
            have id2 : (y : Int) % 6 = ((y % 6 : Nat) : Int) := by omega
            have tg := (tw W L T N g hf hz).2.1
            have hsw := swC_iff (g := g) (a := s) (b := t) (x := x) (y := y) (by omega) (by omega) hst (by omega) (by omega) hf
            have ets := try_sw (g := g) (a := s) (b := t) (x := x) (y := y) (by omega) (by omega) (by omega) (by omega)
            have skip : ¬ (swX (tryF g) s t x y ∧ ∃ x2 y2, x2 < 24 ∧ y2 < 24 ∧ l1X J (swF (tryF g) s t x y) s t (tOf J (swF (tryF g) s t x y) s) (tOf J (swF (tryF g) s t x y) t) x2 y2) → ∀ (W L T N z : Int) (x6 x7 x8 : Option AV), z = (y : Int) + 1 → Bj MX12_swaps 3 75 [some (aR 57), some (aI (s : Int)), some (aI (t : Int)), some (aI 144), some (aI (x : Int)), some (aI z), x6, x7, x8] [] (row (mS K1 W L T N) 87 g) Q := by
              intro hn W L T N z x6 x7 x8 hz'
              refine ihn (y + 1) _ _ _ _ _ _ _ _ (by omega) (by omega) (fun y' h => ?_)
              by_cases e : y' = y
              · subst e; exact hn
              · exact hn2 y' (by omega)
            have yes_ : swX (tryF g) s t x y → ∀ (W L T N z6 z7 : Int) (x8 : Option AV), z6 = ((144 + 24 * s + x : Nat) : Int) → z7 = ((144 + 24 * t + y : Nat) : Int) → (∀ c, 0 ≤ tryF (sw4 g (144 + 24 * s + x) (144 + 24 * s + x - x % 6 + y % 6) (144 + 24 * t + y) (144 + 24 * t + y - y % 6 + x % 6)) c ∧ tryF (sw4 g (144 + 24 * s + x) (144 + 24 * s + x - x % 6 + y % 6) (144 + 24 * t + y) (144 + 24 * t + y - y % 6 + x % 6)) c ≤ 20) → ZF J (tryF (sw4 g (144 + 24 * s + x) (144 + 24 * s + x - x % 6 + y % 6) (144 + 24 * t + y) (144 + 24 * t + y - y % 6 + x % 6))) → (l1Q J (sw4 g (144 + 24 * s + x) (144 + 24 * s + x - x % 6 + y % 6) (144 + 24 * t + y) (144 + 24 * t + y - y % 6 + x % 6)) s t ↔ ∃ x2 y2, x2 < 24 ∧ y2 < 24 ∧ l1X J (swF (tryF g) s t x y) s t (tOf J (swF (tryF g) s t x y) s) (tOf J (swF (tryF g) s t x y) t) x2 y2) → Bj MX12_swaps 3 128 [some (aR 57), some (aI (s : Int)), some (aI (t : Int)), some (aI 144), some (aI (x : Int)), some (aI (y : Int)), some (aI z6), some (aI z7), x8] [] (row (mS K1 W L T N) 87 (sw4 g (144 + 24 * s + x) (144 + 24 * s + x - x % 6 + y % 6) (144 + 24 * t + y) (144 + 24 * t + y - y % 6 + x % 6))) Q := by
              intro hX W L T N z6 z7 x8 h6 h7 hb2 hz2 le2
              have tg2 : ∀ c, 144 ≤ c → c < 288 → -100 ≤ sw4 g (144 + 24 * s + x) (144 + 24 * s + x - x % 6 + y % 6) (144 + 24 * t + y) (144 + 24 * t + y - y % 6 + x % 6) c ∧ sw4 g (144 + 24 * s + x) (144 + 24 * s + x - x % 6 + y % 6) (144 + 24 * t + y) (144 + 24 * t + y - y % 6 + x % 6) c ≤ 100 := fun c c1 c2 => by
                have := (tw W L T N _ hb2 hz2).2.1 c c1 c2
                omega
              have htw := tw W L T N _ hb2 hz2
              refine b_aload_n rfl rfl ?_
              refine b_iload_n rfl rfl ?_
              refine b_iload_n rfl rfl ?_
              refine b_callV2i (ν := MX12_levelsByOne) rfl ml12_545 cvX12_levelsByOne (d' := 2) (by omega) rfl (by decide) rfl (Nat.le_of_ble_eq_true rfl) ?_
              refine spm_levelsByOne htw (fun hl1 W2 L2 T2 N2 => ?_) (fun hl0 W2 L2 T2 N2 => ?_)
              all_goals rw [mS_mS]
              · refine ⟨_, rfl, ?_⟩
                refine b_istoreX (F := fun z134 => [some (aR 57), some (aI (s : Int)), some (aI (t : Int)), some (aI (144 : Int)), some (aI (x : Int)), some (aI (y : Int)), some (aI z6), some (aI z7), some (aI z134)]) rfl (by decide) (fun _ => rfl) (fun z134 ez134 => ?_)
                refine b_aload_n rfl rfl ?_
                refine b_iload rfl rfl ?_
                refine b_iload rfl rfl ?_
                refine b_bipush rfl (by decide) ?_
                refine b_iremP rfl (by omega) (by omega) ?_
                refine b_iload rfl rfl ?_
                refine b_iload rfl rfl ?_
                refine b_bipush rfl (by decide) ?_
                refine b_iremP rfl (by omega) (by omega) ?_
                rw [id1, id2]
                refine b_callV4v (ν := MX12_swapsBack) rfl ml12_528 cvX12_swapsBack (d' := 0) (by omega) rfl (by decide) rfl (Nat.le_of_ble_eq_true rfl) ?_
                refine spm_swapsBack' (ca := 144 + 24 * s + x) (cb := 144 + 24 * t + y) h6 h7 tg2 (by omega) ?_
                rw [sw4_back]
                refine ⟨rfl, ?_⟩
                refine b_iload rfl rfl ?_
                refine b_if_eq (tgt := 161) rfl rfl (fun c156 => ?_) (fun c156 => ?_)
                · refine b_iincX (F := fun z161 => [some (aR 57), some (aI (s : Int)), some (aI (t : Int)), some (aI (144 : Int)), some (aI (x : Int)), some (aI z161), some (aI z6), some (aI z7), some (aI z134)]) rfl rfl (by omega) (by omega) (fun _ => rfl) (fun z161 ez161 => ?_)
                  refine b_goto (tgt := 75) rfl rfl ?_
                  first
                  | exact skip (fun w => hl0 (le2.2 w.2)) _ _ _ _ _ _ _ _ (by omega)
                  | (exfalso; clear le2 hX htw tg2 hb2 hz2 e1; omega)
                · refine b_iconst rfl (by decide) ?_
                  refine b_iret rfl rfl ?_
                  first
                  | (have hl2 := le2.1 hl1
                     refine kf 2 ?_ _ _ _ _
                     rw [pI_0 hnl, pI_0 e1, pI_1 ⟨x, y, by omega, by omega, hX, hl2⟩])
                  | (exfalso; clear le2 hX htw tg2 hb2 hz2 e1; omega)
              · refine ⟨_, rfl, ?_⟩
                refine b_istoreX (F := fun z134 => [some (aR 57), some (aI (s : Int)), some (aI (t : Int)), some (aI (144 : Int)), some (aI (x : Int)), some (aI (y : Int)), some (aI z6), some (aI z7), some (aI z134)]) rfl (by decide) (fun _ => rfl) (fun z134 ez134 => ?_)
                refine b_aload_n rfl rfl ?_
                refine b_iload rfl rfl ?_
                refine b_iload rfl rfl ?_
                refine b_bipush rfl (by decide) ?_
                refine b_iremP rfl (by omega) (by omega) ?_
                refine b_iload rfl rfl ?_
                refine b_iload rfl rfl ?_
                refine b_bipush rfl (by decide) ?_
                refine b_iremP rfl (by omega) (by omega) ?_
                rw [id1, id2]
                refine b_callV4v (ν := MX12_swapsBack) rfl ml12_528 cvX12_swapsBack (d' := 0) (by omega) rfl (by decide) rfl (Nat.le_of_ble_eq_true rfl) ?_
                refine spm_swapsBack' (ca := 144 + 24 * s + x) (cb := 144 + 24 * t + y) h6 h7 tg2 (by omega) ?_
                rw [sw4_back]
                refine ⟨rfl, ?_⟩
                refine b_iload rfl rfl ?_
                refine b_if_eq (tgt := 161) rfl rfl (fun c156 => ?_) (fun c156 => ?_)
                · refine b_iincX (F := fun z161 => [some (aR 57), some (aI (s : Int)), some (aI (t : Int)), some (aI (144 : Int)), some (aI (x : Int)), some (aI z161), some (aI z6), some (aI z7), some (aI z134)]) rfl rfl (by omega) (by omega) (fun _ => rfl) (fun z161 ez161 => ?_)
                  refine b_goto (tgt := 75) rfl rfl ?_
                  first
                  | exact skip (fun w => hl0 (le2.2 w.2)) _ _ _ _ _ _ _ _ (by omega)
                  | (exfalso; clear le2 hX htw tg2 hb2 hz2 e1; omega)
                · refine b_iconst rfl (by decide) ?_
                  refine b_iret rfl rfl ?_
                  first
                  | (have hl2 := le2.1 hl1
                     refine kf 2 ?_ _ _ _ _
                     rw [pI_0 hnl, pI_0 e1, pI_1 ⟨x, y, by omega, by omega, hX, hl2⟩])
                  | (exfalso; clear le2 hX htw tg2 hb2 hz2 e1; omega)
            refine b_iload rfl rfl ?_
            refine b_bipush rfl (by decide) ?_
            refine b_icmp_ge (tgt := 167) rfl rfl (fun c79 => ?_) (fun c79 => ?_)
            · omega
            · refine b_iload_n rfl rfl ?_
              refine b_bipush rfl (by decide) ?_
              refine b_iload_n rfl rfl ?_
              refine b_imulN rfl (by omega) (by omega) ?_
              refine b_iaddN rfl (by omega) (by omega) ?_
              refine b_iload rfl rfl ?_
              refine b_iaddN rfl (by omega) (by omega) ?_
              refine b_istoreX (F := fun z91 => [some (aR 57), some (aI (s : Int)), some (aI (t : Int)), some (aI (144 : Int)), some (aI (x : Int)), some (aI (y : Int)), some (aI z91), x7, x8]) rfl (by decide) (fun _ => rfl) (fun z91 ez91 => ?_)
              refine b_iload_n rfl rfl ?_
              refine b_bipush rfl (by decide) ?_
              refine b_iload_n rfl rfl ?_
              refine b_imulN rfl (by omega) (by omega) ?_
              refine b_iaddN rfl (by omega) (by omega) ?_
              refine b_iload rfl rfl ?_
              refine b_iaddN rfl (by omega) (by omega) ?_
              refine b_istoreX (F := fun z102 => [some (aR 57), some (aI (s : Int)), some (aI (t : Int)), some (aI (144 : Int)), some (aI (x : Int)), some (aI (y : Int)), some (aI z91), some (aI z102), x8]) rfl (by decide) (fun _ => rfl) (fun z102 ez102 => ?_)
              refine b_aload_n rfl rfl ?_
              refine b_iload rfl rfl ?_
              refine b_iload rfl rfl ?_
              refine b_bipush rfl (by decide) ?_
              refine b_iremP rfl (by omega) (by omega) ?_
              refine b_iload rfl rfl ?_
              refine b_iload rfl rfl ?_
              refine b_bipush rfl (by decide) ?_
              refine b_iremP rfl (by omega) (by omega) ?_
              rw [id1, id2]
              refine b_callV4i (ν := MX12_swapped) rfl ml12_532 cvX12_swapped (d' := 1) (by omega) rfl (by decide) rfl (Nat.le_of_ble_eq_true rfl) ?_
              refine spm_swapped' (ca := 144 + 24 * s + x) (cb := 144 + 24 * t + y) (by omega) (by omega) tg (by omega) (fun hy1 => ?_) (fun hy0 => ?_)
              · refine ⟨_, rfl, ?_⟩
                refine b_if_ne (tgt := 128) rfl rfl (fun _ => ?_) (fun z => absurd z (by decide))
                have hX := hsw.1 hy1
                have hb2 : ∀ c, 0 ≤ tryF (sw4 g (144 + 24 * s + x) (144 + 24 * s + x - x % 6 + y % 6) (144 + 24 * t + y) (144 + 24 * t + y - y % 6 + x % 6)) c ∧ tryF (sw4 g (144 + 24 * s + x) (144 + 24 * s + x - x % 6 + y % 6) (144 + 24 * t + y) (144 + 24 * t + y - y % 6 + x % 6)) c ≤ 20 := by rw [ets]; exact swF_b hf hst (by omega) (by omega) hX
                have hz2 : ZF J (tryF (sw4 g (144 + 24 * s + x) (144 + 24 * s + x - x % 6 + y % 6) (144 + 24 * t + y) (144 + 24 * t + y - y % 6 + x % 6))) := by rw [ets]; exact swF_ZF hp hz hs ht (by omega) (by omega) hX.1 hX.2.1
                have le2 := l1e _ hb2
                rw [ets] at le2
                exact yes_ hX _ _ _ _ _ _ _ (by omega) (by omega) hb2 hz2 le2
              · refine ⟨_, rfl, ?_⟩
                refine b_if_ne (tgt := 128) rfl rfl (fun z => absurd z (by decide)) (fun _ => ?_)
                refine b_goto (tgt := 161) rfl rfl ?_
                refine b_iincX (F := fun z161 => [some (aR 57), some (aI (s : Int)), some (aI (t : Int)), some (aI (144 : Int)), some (aI (x : Int)), some (aI z161), some (aI z91), some (aI z102), x8]) rfl rfl (by omega) (by omega) (fun _ => rfl) (fun z161 ez161 => ?_)
                refine b_goto (tgt := 75) rfl rfl ?_
                exact skip (fun w => hy0 (hsw.2 w.1)) _ _ _ _ _ _ _ _ (by omega)
        refine b_iload rfl rfl ?_
        refine b_bipush rfl (by decide) ?_
        refine b_icmp_ge (tgt := 173) rfl rfl (fun c69 => ?_) (fun c69 => ?_)
        · omega
        · refine b_iconst rfl (by decide) ?_
          refine b_istoreX (F := fun z73 => [some (aR 57), some (aI (s : Int)), some (aI (t : Int)), some (aI (144 : Int)), some (aI (x : Int)), some (aI z73), x6, x7, x8]) rfl (by decide) (fun _ => rfl) (fun z73 ez73 => ?_)
          exact inner 24 0 _ _ _ _ _ _ _ _ (by omega) (by omega) (fun y' h => absurd h (by omega))
    have rest_ : ¬ (ab1 (tOf J (tryF g) s) (J 7 (6 + s)) ∧ ab1 (tOf J (tryF g) t) (J 7 (6 + t))) → ∀ W L T N, Bj MX12_swaps 3 47 [some (aR 57), some (aI (s : Int)), some (aI (t : Int)), none, none, none, none, none, none] [] (row (mS K1 W L T N) 87 g) Q := by
      intro hnl W L T N
      have htw := tw W L T N g hf hz
      refine b_aload_n rfl rfl ?_
      refine b_iload_n rfl rfl ?_
      refine b_iload_n rfl rfl ?_
      refine b_callV2i (ν := MX12_levelsByOne) rfl ml12_545 cvX12_levelsByOne (d' := 2) (by omega) rfl (by decide) rfl (Nat.le_of_ble_eq_true rfl) ?_
      refine spm_levelsByOne htw (fun hl1 W2 L2 T2 N2 => ?_) (fun hl0 W2 L2 T2 N2 => ?_)
      all_goals rw [mS_mS]
      · refine ⟨_, rfl, ?_⟩
        refine b_if_eq (tgt := 58) rfl rfl (fun z => absurd z (by decide)) (fun _ => ?_)
        refine b_iconst rfl (by decide) ?_
        refine b_iret rfl rfl ?_
        refine kf 1 ?_ _ _ _ _
        rw [pI_0 hnl, pI_1 (le.1 hl1)]
      · refine ⟨_, rfl, ?_⟩
        refine b_if_eq (tgt := 58) rfl rfl (fun _ => ?_) (fun z => absurd z (by decide))
        refine b_sipush rfl (by decide) ?_
        refine b_istoreX_n (F := fun z61 => [some (aR 57), some (aI (s : Int)), some (aI (t : Int)), some (aI z61), none, none, none, none, none]) rfl (by decide) (fun _ => rfl) (fun z61 ez61 => ?_)
        refine b_iconst rfl (by decide) ?_
        refine b_istoreX (F := fun z63 => [some (aR 57), some (aI (s : Int)), some (aI (t : Int)), some (aI z61), some (aI z63), none, none, none, none]) rfl (by decide) (fun _ => rfl) (fun z63 ez63 => ?_)
        subst ez61
        exact two hnl hl0 24 0 _ _ _ _ _ _ _ _ _ (by omega) (by omega) (fun x' y h => absurd h (by omega))
    refine b_aload_n rfl rfl ?_
    refine b_iconst rfl (by decide) ?_
    refine b_iconst rfl (by decide) ?_
    refine b_callV2v (ν := MX12_copies) rfl ml12_425 cvX12_copies (d' := 0) (by omega) rfl (by decide) rfl (Nat.le_of_ble_eq_true rfl) ?_
    refine spm_copies (t := 1) (f := 0) (by decide) (by decide) (by decide) (by omega) ?_
    rw [hK1, ← mS_self (K := K1), ← hK1r]
    refine ⟨rfl, ?_⟩
    refine b_aload_n rfl rfl ?_
    refine b_iload_n rfl rfl ?_
    refine b_callV1i (ν := MX12_isLevelTried) rfl ml12_542 cvX12_isLevelTried (d' := 2) (by omega) rfl (by decide) rfl (Nat.le_of_ble_eq_true rfl) ?_
    refine spm_isLevelTried (tw _ _ _ _ g hf hz) (asm _ _ _ _) hs (fun ha1 W L T N => ?_) (fun ha0 W L T N => ?_)
    all_goals rw [mS_mS]
    · refine ⟨_, rfl, ?_⟩
      refine b_if_eq (tgt := 47) rfl rfl (fun z => absurd z (by decide)) (fun _ => ?_)
      refine b_aload_n rfl rfl ?_
      refine b_iload_n rfl rfl ?_
      refine b_callV1i (ν := MX12_isLevelTried) rfl ml12_542 cvX12_isLevelTried (d' := 2) (by omega) rfl (by decide) rfl (Nat.le_of_ble_eq_true rfl) ?_
      refine spm_isLevelTried (tw _ _ _ _ g hf hz) (asm _ _ _ _) ht (fun hb1 W2 L2 T2 N2 => ?_) (fun hb0 W2 L2 T2 N2 => ?_)
      all_goals rw [mS_mS]
      · refine ⟨_, rfl, ?_⟩
        refine b_if_eq (tgt := 47) rfl rfl (fun z => absurd z (by decide)) (fun _ => ?_)
        refine b_iconst rfl (by decide) ?_
        refine b_iret rfl rfl ?_
        exact kf 0 (pI_1 ⟨ha1, hb1⟩) _ _ _ _
      · refine ⟨_, rfl, ?_⟩
        refine b_if_eq (tgt := 47) rfl rfl (fun _ => ?_) (fun z => absurd z (by decide))
        first
        | exact rest_ (fun w => hb0 w.2) _ _ _ _
        | exact rest_ (fun w => ha0 w.1) _ _ _ _
    · refine ⟨_, rfl, ?_⟩
      refine b_if_eq (tgt := 47) rfl rfl (fun _ => ?_) (fun z => absurd z (by decide))
      first
      | exact rest_ (fun w => hb0 w.2) _ _ _ _
      | exact rest_ (fun w => ha0 w.1) _ _ _ _
  refine rj_of okX12_swaps (Nat.le_of_ble_eq_true rfl) rfl ?_
  refine b_aload_n rfl rfl ?_
  refine b_iload_n rfl rfl ?_
  refine b_callV1i (ν := MX12_isShip) rfl ml12_479 cvX12_isShip (d' := 0) (by omega) rfl (by decide) rfl (Nat.le_of_ble_eq_true rfl) ?_
  refine spm_isShip hR (fun hk1 => ?_) (fun hk1 => ?_)
  · refine ⟨_, rfl, ?_⟩
    refine b_if_eq (tgt := 21) rfl rfl (fun z => absurd z (by decide)) (fun _ => ?_)
    refine b_aload_n rfl rfl ?_
    refine b_iload_n rfl rfl ?_
    refine b_callV1i (ν := MX12_isShip) rfl ml12_479 cvX12_isShip (d' := 0) (by omega) rfl (by decide) rfl (Nat.le_of_ble_eq_true rfl) ?_
    refine spm_isShip hR (fun hk2 => ?_) (fun hk2 => ?_)
    · refine ⟨_, rfl, ?_⟩
      refine b_if_eq (tgt := 21) rfl rfl (fun z => absurd z (by decide)) (fun _ => ?_)
      refine b_iload_n rfl rfl ?_
      refine b_iload_n rfl rfl ?_
      refine b_icmp_ne (tgt := 23) rfl rfl (fun c18 => ?_) (fun c18 => ?_)
      · obtain ⟨s, rfl, hs⟩ := kO_nat (i := 1) hk1
        obtain ⟨t, rfl, ht⟩ := kO_nat (i := 1) hk2
        exact main s t rfl rfl hs ht (by omega)
      · refine b_iconst rfl (by decide) ?_
        refine b_iret rfl rfl ?_
        first
        | exact k0 (fun w => hk2 w.2.1)
        | exact k0 (fun w => hk1 w.1)
        | exact k0 (fun w => w.2.2 (by omega))
    · refine ⟨_, rfl, ?_⟩
      refine b_if_eq (tgt := 21) rfl rfl (fun _ => ?_) (fun z => absurd z (by decide))
      refine b_iconst rfl (by decide) ?_
      refine b_iret rfl rfl ?_
      first
      | exact k0 (fun w => hk2 w.2.1)
      | exact k0 (fun w => hk1 w.1)
      | exact k0 (fun w => w.2.2 (by omega))
  · refine ⟨_, rfl, ?_⟩
    refine b_if_eq (tgt := 21) rfl rfl (fun _ => ?_) (fun z => absurd z (by decide))
    refine b_iconst rfl (by decide) ?_
    refine b_iret rfl rfl ?_
    first
    | exact k0 (fun w => hk2 w.2.1)
    | exact k0 (fun w => hk1 w.1)
    | exact k0 (fun w => w.2.2 (by omega))
