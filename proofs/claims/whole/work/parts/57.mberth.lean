/-! ===== the reference: berthed ===== -/
theorem spm_has2 {I : HI} {Q : Option AV → HI → Prop} {t c : Nat} (ht : t < 64) (hc : c < 6) (k1 : t.testBit c = true → Q (some (aI 1)) I) (k0 : t.testBit c = false → Q (some (aI 0)) I) : Rj MX12_has2 0 [aI (t : Int), aI (c : Int)] I Q := by
  have h := bit_1 ht hc
  have hb := bt_in t c
  have e := bt_eq ht hc
  refine rj_of okX12_has2 (Nat.le_of_ble_eq_true rfl) rfl ?_
  refine b_iload_n rfl rfl ?_
  refine b_iload_n rfl rfl ?_
  refine b_ishr rfl ?_
  refine b_iconst rfl (by decide) ?_
  refine b_iand rfl ?_
  refine b_iconst rfl (by decide) ?_
  refine b_icmp_ne (tgt := 13) rfl rfl (fun c6 => ?_) (fun c6 => ?_)
  · refine b_iconst rfl (by decide) ?_
    refine b_zret rfl rfl (by first | decide | omega) ?_
    first
    | exact k1 (h.1.1 (by assumption))
    | exact k0 (h.2.1 (by omega))
  · refine b_iconst rfl (by decide) ?_
    refine b_goto (tgt := 14) rfl rfl ?_
    refine b_zret rfl rfl (by first | decide | omega) ?_
    first
    | exact k1 (h.1.1 (by assumption))
    | exact k0 (h.2.1 (by omega))
theorem mb_ext {g : Nat → Int} {f t n : Nat} : ∀ m, (∀ c, n ≤ c → c < n + m → ¬ frB f t c) → mb g f t (n + m) = mb g f t n := by
  intro m
  induction m with
  | zero => intro _; rfl
  | succ m ih =>
    intro h
    show pI (frB f t (n + m)) _ (mb g f t (n + m)) = _
    rw [pI_0 (h (n + m) (by omega) (by omega))]
    exact ih (fun c a b => h c a (by omega))
theorem fP_ext {p : Nat → Prop} {n : Nat} (m i : Nat) (h : ∀ c, i + n ≤ c → c < i + n + m → ¬ p c) : fP p (n + m) i = fP p n i := by
  by_cases e : fP p n i = -1
  · rw [e]
    refine (fP_no (n + m) i).2 (fun k a b => ?_)
    by_cases q : k < i + n
    · exact (fP_no n i).1 e k a q
    · exact h k (by omega) (by omega)
  · obtain ⟨k, e1, e2, e3, e4, e5⟩ := fP_yes n i e
    have e' : fP p (n + m) i ≠ -1 := fun z => (fP_no (n + m) i).1 z k e2 (by omega) e4
    obtain ⟨k', f1, f2, f3, f4, f5⟩ := fP_yes (n + m) i e'
    rw [e1, f1]
    have : ¬ k < k' := fun z => f5 k e2 z e4
    have : ¬ k' < k := fun z => e5 k' f2 z f4
    omega
def SB (K H : HI) : Prop := (∀ q, q ≠ 57 → (q < 90 ∨ 93 < q) → H q = K q) ∧ (∀ j, ¬ (57 ≤ j ∧ j ≤ 60) → H 57 j = K 57 j) ∧ asB H
theorem SB.rf {K : HI} (h : asB K) : SB K K := ⟨fun _ _ _ => rfl, fun _ _ => rfl, h⟩
theorem SB.sc {K H H' : HI} (h : SB K H) (h2 : ScM H H') : SB K H' := ⟨fun q a b => by rw [h2.1 q a (by omega) (by omega)]; exact h.1 q a b, fun j hj => by rw [h2.2.1 j hj]; exact h.2.1 j hj, h2.2.2⟩
theorem SB.ux {K H : HI} {q j : Nat} {v : Int} (h : SB K H) (hq : q = 92 ∨ q = 93) : SB K (up H q j v) := ⟨fun p a b => by rw [up_cell (by omega)]; exact h.1 p a b, fun k hk => by rw [up_cell (by omega)]; exact h.2.1 k hk, fun k => by rw [up_cell (by omega)]; exact h.2.2 k⟩
theorem MN.sb {J K H : HI} {C : Nat → List Int} {b : Nat} (h : MN J K C b) (h2 : SB K H) : MN J H C b :=
  ⟨h.1.to (h2.2.1 13 (by omega)) (fun q hq => h2.1 q (by unfold mcell at hq; omega) (by unfold mcell at hq; omega)), h2.2.2, h.2.2.1, SR_to h.2.2.2.1 (h2.1 85 (by decide) (by decide)) (h2.1 86 (by decide) (by decide)) (h2.1 87 (by decide) (by decide)) (h2.1 88 (by decide) (by decide)) (h2.1 89 (by decide) (by decide)) (shp_of (h2.1 62 (by decide) (by decide)) (h2.2.1 13 (by omega))), h.2.2.2.2⟩
set_option maxRecDepth 16000 in
set_option maxHeartbeats 2000000 in
theorem spq_berthed {J K : HI} {Q : Option AV → HI → Prop} {C : Nat → List Int} {b : Nat} {n a : Int} (hM : MN J K C b) (k1 : clk J n ∧ (a = -1 ∨ kO J 4 1 a) → ∀ K', SB K K' → Q (some (aI (bdV J C (J 30 5 + n) a))) K') (k0 : ¬ (clk J n ∧ (a = -1 ∨ kO J 4 1 a)) → Q (some (aI (-1000000000))) K) : Rj MX12_berthed 6 [aR 57, aI n, aI a] K Q := by
  have hR := hM.1
  have hp := hR.2.2.2.2.2.2.2.2.2
  have hb2 := hR.2.1
  have r := hM.2.2.1.2.2.1
  obtain ⟨n6, n1⟩ := nS_in hp
  obtain ⟨b6, b1⟩ := nB_in hp
  generalize hh0 : J 30 5 + n = h at *
  have ft6 : ∀ s, ftN J C h s < 64 := fun s => ftN_lt hp
  have ftb : ∀ s c, nB J ≤ c → (ftN J C h s).testBit c = false := fun s c hc => Nat.testBit_lt_two_pow (Nat.lt_of_lt_of_le (bN_lt (p := sbP J C h s) (nB J)) (Nat.pow_le_pow_right (by decide) hc))
  have nofr : ∀ s t c, nB J ≤ c → ¬ frB (ftN J C h s) t c := fun s t c hc z => by have h9 := z.1; rw [ftb s c hc] at h9; cases h9
  have mbe : ∀ g s t, mb g (ftN J C h s) t 6 = mb g (ftN J C h s) t (nB J) := fun g s t => by
    have := mb_ext (g := g) (f := ftN J C h s) (t := t) (n := nB J) (6 - nB J) (fun c x y => nofr s t c x)
    rw [show nB J + (6 - nB J) = 6 by omega] at this
    exact this
  have fpe : ∀ g v s t, fP (fbP g v (ftN J C h s) t) 6 0 = fP (fbP g v (ftN J C h s) t) (nB J) 0 := fun g v s t => by
    have := fP_ext (p := fbP g v (ftN J C h s) t) (n := nB J) (6 - nB J) 0 (fun c x y z => nofr s t c (by omega) z.1)
    rw [show nB J + (6 - nB J) = 6 by omega] at this
    exact this
  have mWb : ∀ f s t, f ≤ 6 → 0 ≤ mW (ftN J C h) f s t ∧ mW (ftN J C h) f s t ≤ 10 := fun f s t hf => by have := mW_in (ft := ftN J C h) f s t; omega
  generalize hft : ftN J C h = ft at *
  have find : ∀ s : Nat, a = (s : Int) → (s : Int) < J 4 1 → clk J n → ∀ (m i : Nat) (y z : Int) (x6 x7 x8 : Option AV) (H : HI), SB K H → (∀ s, s < nS J → H 92 s = (ft s : Int)) → (∀ s t, s ≤ nS J → t < 64 → H 93 (64 * s + t) = mW ft (nS J - s) s t) → y = ((chN ft (nS J) i).2 : Int) → (chN ft (nS J) i).2 < 64 → z = (i : Int) → i + m = s + 1 → 1 ≤ m → Bj MX12_berthed 6 328 [some (aR 57), some (aI n), some (aI (s : Int)), some (aI (nS J : Int)), some (aI y), some (aI z), x6, x7, x8] [] H Q := by
    intro s has hs hcl m
    induction m with
    | zero => intro i y z x6 x7 x8 H _ _ _ _ _ _ _ h1; omega
    | succ m ih =>
      intro i y z x6 x7 x8 H f h92 h93 hy ht hz hi h1
      subst hz
      have his : i < nS J := by omega
      have hMH := hM.sb f
      have hbH := hMH.1.1
      have q67 := hMH.1.2.2.2.2.1
      have nx : chN ft (nS J) (i + 1) = (fP (fbP (mW ft (nS J - (i + 1)) (i + 1)) (mW ft (nS J - i) i (chN ft (nS J) i).2) (ft i) (chN ft (nS J) i).2) 6 0, if fP (fbP (mW ft (nS J - (i + 1)) (i + 1)) (mW ft (nS J - i) i (chN ft (nS J) i).2) (ft i) (chN ft (nS J) i).2) 6 0 = -1 then (chN ft (nS J) i).2 else (chN ft (nS J) i).2 ||| 2 ^ (fP (fbP (mW ft (nS J - (i + 1)) (i + 1)) (mW ft (nS J - i) i (chN ft (nS J) i).2) (ft i) (chN ft (nS J) i).2) 6 0).toNat) := rfl
      rw [fpe] at nx
      have q92 := h92 i his
      have ih2 := fun y z x6 x7 x8 H => ih (i + 1) y z x6 x7 x8 H
      have fin := k1 ⟨hcl, Or.inr (by rw [has]; exact ⟨by omega, by omega, by omega, hs⟩)⟩ H f
      have hbd : i = s → bdV J C h a = (chN ft (nS J) (i + 1)).1 := fun e => by
        unfold bdV
        rw [if_neg (by omega), hft, has, Int.toNat_natCast, e]
      rw [nx] at ih2 hbd
      generalize hT : (chN ft (nS J) i).2 = t at *
      subst hy
      have e930 := h93 i t (by omega) ht
      have e93 : ∀ c, c < 6 → H 93 (64 * (i + 1) + (t ||| 2 ^ c)) = mW ft (nS J - (i + 1)) (i + 1) (t ||| 2 ^ c) := fun c hc => h93 (i + 1) _ (by omega) (or_lt ht hc)
      have eb : ∀ c, c < 6 → 0 ≤ mW ft (nS J - (i + 1)) (i + 1) (t ||| 2 ^ c) ∧ mW ft (nS J - (i + 1)) (i + 1) (t ||| 2 ^ c) ≤ 10 := fun c hc => mWb _ _ _ (by omega)
      have tail_ : ∀ (z6 : Int) (x7 x8 : Option AV), z6 = fP (fbP (mW ft (nS J - (i + 1)) (i + 1)) (mW ft (nS J - i) i t) (ft i) t) (nB J) 0 → Bj MX12_berthed 6 437 [some (aR 57), some (aI n), some (aI (s : Int)), some (aI (nS J : Int)), some (aI (t : Int)), some (aI (i : Int)), some (aI z6), x7, x8] [] H Q := by
        intro z6 x7 x8 hz6
        rw [← hz6] at ih2 hbd
        have hz6b := fP_in (p := fbP (mW ft (nS J - (i + 1)) (i + 1)) (mW ft (nS J - i) i t) (ft i) t) (nB J) 0
        rw [← hz6] at hz6b
        refine b_iload rfl rfl ?_
        refine b_iload_n rfl rfl ?_
        refine b_icmp_ne (tgt := 446) rfl rfl (fun c440 => ?_) (fun c440 => ?_)
        · refine b_iload rfl rfl ?_
          refine b_iload rfl rfl ?_
          refine b_iconst rfl (by decide) ?_
          refine b_icmp_ne (tgt := 458) rfl rfl (fun c451 => ?_) (fun c451 => ?_)
          · refine b_iconst rfl (by decide) ?_
            refine b_iload rfl rfl ?_
            refine b_ishl rfl ?_
            refine b_ior rfl ?_
            refine b_istoreX (F := fun z463 => [some (aR 57), some (aI n), some (aI (s : Int)), some (aI (nS J : Int)), some (aI z463), some (aI (i : Int)), some (aI z6), x7, x8]) rfl (by decide) (fun _ => rfl) (fun z463 ez463 => ?_)
            refine b_iincX (F := fun z465 => [some (aR 57), some (aI n), some (aI (s : Int)), some (aI (nS J : Int)), some (aI z463), some (aI z465), some (aI z6), x7, x8]) rfl rfl (by omega) (by omega) (fun _ => rfl) (fun z465 ez465 => ?_)
            refine b_goto (tgt := 328) rfl rfl ?_
            refine ih2 _ _ _ _ _ H f h92 h93 ?_ ?_ (by omega) (by omega) (by omega)
            · first
                | (rw [if_pos (by omega), ez463]; exact iOr_0 ht)
                | (rw [if_neg (by omega), ez463, ← or_bit (b := z6.toNat) (by omega) ht, show ((z6.toNat : Nat) : Int) = z6 by omega])
            · show (if z6 = -1 then t else t ||| 2 ^ z6.toNat) < 64
              by_cases e : z6 = -1
              · rw [if_pos e]; exact ht
              · rw [if_neg e]; exact or_lt ht (by omega)
          · refine b_iconst rfl (by decide) ?_
            refine b_goto (tgt := 462) rfl rfl ?_
            refine b_ior rfl ?_
            refine b_istoreX (F := fun z463 => [some (aR 57), some (aI n), some (aI (s : Int)), some (aI (nS J : Int)), some (aI z463), some (aI (i : Int)), some (aI z6), x7, x8]) rfl (by decide) (fun _ => rfl) (fun z463 ez463 => ?_)
            refine b_iincX (F := fun z465 => [some (aR 57), some (aI n), some (aI (s : Int)), some (aI (nS J : Int)), some (aI z463), some (aI z465), some (aI z6), x7, x8]) rfl rfl (by omega) (by omega) (fun _ => rfl) (fun z465 ez465 => ?_)
            refine b_goto (tgt := 328) rfl rfl ?_
            refine ih2 _ _ _ _ _ H f h92 h93 ?_ ?_ (by omega) (by omega) (by omega)
            · first
                | (rw [if_pos (by omega), ez463]; exact iOr_0 ht)
                | (rw [if_neg (by omega), ez463, ← or_bit (b := z6.toNat) (by omega) ht, show ((z6.toNat : Nat) : Int) = z6 by omega])
            · show (if z6 = -1 then t else t ||| 2 ^ z6.toNat) < 64
              by_cases e : z6 = -1
              · rw [if_pos e]; exact ht
              · rw [if_neg e]; exact or_lt ht (by omega)
        · refine b_iload rfl rfl ?_
          refine b_iret rfl rfl ?_
          exact qI fin (hbd (by omega)) rfl
      have scan : ∀ (m c : Nat) (z : Int) (x7 x8 : Option AV), z = (c : Int) → c + m = nB J → fP (fbP (mW ft (nS J - (i + 1)) (i + 1)) (mW ft (nS J - i) i t) (ft i) t) (nB J) 0 = fP (fbP (mW ft (nS J - (i + 1)) (i + 1)) (mW ft (nS J - i) i t) (ft i) t) m c → Bj MX12_berthed 6 337 [some (aR 57), some (aI n), some (aI (s : Int)), some (aI (nS J : Int)), some (aI (t : Int)), some (aI (i : Int)), some (aI z), x7, x8] [] H Q := by
        intro m
        induction m with
        | zero =>
          intro c z x7 x8 hz hc hf
          refine b_iload rfl rfl ?_
          refine b_aload_n rfl rfl ?_
          refine b_getR (r := 67) rfl fl12_78 rfl (by decide) rfl rfl ?_
          refine b_aload_n rfl rfl ?_
          refine b_getI rfl fl12_51 rfl (by decide) rfl ?_
          rw [hbH]
          refine b_iald rfl rfl (by omega) (by omega) ?_
          try simp only [tn6, tn4, tn2, tn144, tn24, tn_cast, Int.reduceToNat]
          rw [q67]
          refine b_icmp_ge (tgt := 420) rfl rfl (fun c348 => ?_) (fun c348 => ?_)
          · refine b_iload rfl rfl ?_
            refine b_aload_n rfl rfl ?_
            refine b_getR (r := 67) rfl fl12_78 rfl (by decide) rfl rfl ?_
            refine b_aload_n rfl rfl ?_
            refine b_getI rfl fl12_51 rfl (by decide) rfl ?_
            rw [hbH]
            refine b_iald rfl rfl (by omega) (by omega) ?_
            try simp only [tn6, tn4, tn2, tn144, tn24, tn_cast, Int.reduceToNat]
            rw [q67]
            refine b_icmp_ne (tgt := 437) rfl rfl (fun c431 => ?_) (fun c431 => ?_)
            · omega
            · refine b_iconst rfl (by decide) ?_
              refine b_istoreX (F := fun z435 => [some (aR 57), some (aI n), some (aI (s : Int)), some (aI (nS J : Int)), some (aI (t : Int)), some (aI (i : Int)), some (aI z435), x7, x8]) rfl (by decide) (fun _ => rfl) (fun z435 ez435 => ?_)
              exact tail_ _ _ _ (by rw [hf]; assumption)
          · omega
        | succ m ihm =>
          intro c z x7 x8 hz hc hf
          subst hz
          have hc6 : c < 6 := by omega
          have hf1 : fP (fbP (mW ft (nS J - (i + 1)) (i + 1)) (mW ft (nS J - i) i t) (ft i) t) (nB J) 0 = pI (fbP (mW ft (nS J - (i + 1)) (i + 1)) (mW ft (nS J - i) i t) (ft i) t c) (c : Int) (fP (fbP (mW ft (nS J - (i + 1)) (i + 1)) (mW ft (nS J - i) i t) (ft i) t) m (c + 1)) := hf
          have q93 := e93 c hc6
          have q93b := eb c hc6
          have i93 : (64 * ((i : Int) + 1) + ((t ||| 2 ^ c : Nat) : Int)).toNat = 64 * (i + 1) + (t ||| 2 ^ c) := by omega
          have i94 : (64 * (i : Int) + (t : Int)).toNat = 64 * i + t := by omega
          have ol := or_lt ht hc6
          refine b_iload rfl rfl ?_
          refine b_aload_n rfl rfl ?_
          refine b_getR (r := 67) rfl fl12_78 rfl (by decide) rfl rfl ?_
          refine b_aload_n rfl rfl ?_
          refine b_getI rfl fl12_51 rfl (by decide) rfl ?_
          rw [hbH]
          refine b_iald rfl rfl (by omega) (by omega) ?_
          try simp only [tn6, tn4, tn2, tn144, tn24, tn_cast, Int.reduceToNat]
          rw [q67]
          refine b_icmp_ge (tgt := 420) rfl rfl (fun c348 => ?_) (fun c348 => ?_)
          · omega
          · refine b_iload rfl rfl ?_
            refine b_iload rfl rfl ?_
            refine b_callS2i (ν := MX12_has2) rfl ml12_364 csX12_has2 (d' := 0) (by omega) (Nat.le_of_ble_eq_true rfl) ?_
            refine spm_has2 ht hc6 (fun hb1 => ?_) (fun hb0 => ?_)
            · refine ⟨_, rfl, ?_⟩
              refine b_if_ne (tgt := 414) rfl rfl (fun _ => ?_) (fun z => absurd z (by decide))
              refine b_iincX (F := fun z414 => [some (aR 57), some (aI n), some (aI (s : Int)), some (aI (nS J : Int)), some (aI (t : Int)), some (aI (i : Int)), some (aI z414), x7, x8]) rfl rfl (by omega) (by omega) (fun _ => rfl) (fun z414 ez414 => ?_)
              refine b_goto (tgt := 337) rfl rfl ?_
              refine ihm (c + 1) _ _ _ (by omega) (by omega) ?_
              rw [hf1]
              first
                | exact pI_0 (fun z => by have h9 := z.1.2; rw [hb1] at h9; cases h9)
                | exact pI_0 (fun z => by have h9 := z.1.1; rw [hs0] at h9; cases h9)
                | exact pI_0 (fun z => absurd z.2 (by assumption))
            · refine ⟨_, rfl, ?_⟩
              refine b_if_ne (tgt := 414) rfl rfl (fun z => absurd z (by decide)) (fun _ => ?_)
              refine b_aload_n rfl rfl ?_
              refine b_getR (r := 92) rfl fl12_198 rfl (by decide) rfl rfl ?_
              refine b_iload rfl rfl ?_
              refine b_iald rfl rfl (by omega) (by omega) ?_
              try simp only [tn6, tn4, tn2, tn144, tn24, tn_cast, Int.reduceToNat]
              rw [q92]
              refine b_iload rfl rfl ?_
              refine b_callS2i (ν := MX12_has2) rfl ml12_364 csX12_has2 (d' := 0) (by omega) (Nat.le_of_ble_eq_true rfl) ?_
              refine spm_has2 (ft6 i) hc6 (fun hs1 => ?_) (fun hs0 => ?_)
              · refine ⟨_, rfl, ?_⟩
                refine b_if_eq (tgt := 414) rfl rfl (fun z => absurd z (by decide)) (fun _ => ?_)
                refine b_iconst rfl (by decide) ?_
                refine b_aload_n rfl rfl ?_
                refine b_getR (r := 93) rfl fl12_201 rfl (by decide) rfl rfl ?_
                refine b_bipush rfl (by decide) ?_
                refine b_iload rfl rfl ?_
                refine b_iconst rfl (by decide) ?_
                refine b_iaddN rfl (by omega) (by omega) ?_
                refine b_imulN rfl (by omega) (by omega) ?_
                refine b_iload rfl rfl ?_
                refine b_iconst rfl (by decide) ?_
                refine b_iload rfl rfl ?_
                refine b_ishl rfl ?_
                refine b_ior rfl ?_
                rw [or_bit hc6 ht]
                refine b_iaddN rfl (by omega) (by omega) ?_
                refine b_iald rfl rfl (by omega) (by omega) ?_
                try simp only [tn6, tn4, tn2, tn144, tn24, tn_cast, Int.reduceToNat]
                rw [i93, q93]
                refine b_iaddN rfl (by omega) (by omega) ?_
                refine b_aload_n rfl rfl ?_
                refine b_getR (r := 93) rfl fl12_201 rfl (by decide) rfl rfl ?_
                refine b_bipush rfl (by decide) ?_
                refine b_iload rfl rfl ?_
                refine b_imulN rfl (by omega) (by omega) ?_
                refine b_iload rfl rfl ?_
                refine b_iaddN rfl (by omega) (by omega) ?_
                refine b_iald rfl rfl (by omega) (by omega) ?_
                try simp only [tn6, tn4, tn2, tn144, tn24, tn_cast, Int.reduceToNat]
                rw [i94, e930]
                refine b_icmp_eq (tgt := 420) rfl rfl (fun c411 => ?_) (fun c411 => ?_)
                · refine b_iload rfl rfl ?_
                  refine b_aload_n rfl rfl ?_
                  refine b_getR (r := 67) rfl fl12_78 rfl (by decide) rfl rfl ?_
                  refine b_aload_n rfl rfl ?_
                  refine b_getI rfl fl12_51 rfl (by decide) rfl ?_
                  rw [hbH]
                  refine b_iald rfl rfl (by omega) (by omega) ?_
                  try simp only [tn6, tn4, tn2, tn144, tn24, tn_cast, Int.reduceToNat]
                  rw [q67]
                  refine b_icmp_ne (tgt := 437) rfl rfl (fun c431 => ?_) (fun c431 => ?_)
                  · exact tail_ _ _ _ (by rw [hf1, pI_1 ⟨⟨hs1, hb0⟩, by assumption⟩])
                  · omega
                · refine b_iincX (F := fun z414 => [some (aR 57), some (aI n), some (aI (s : Int)), some (aI (nS J : Int)), some (aI (t : Int)), some (aI (i : Int)), some (aI z414), x7, x8]) rfl rfl (by omega) (by omega) (fun _ => rfl) (fun z414 ez414 => ?_)
                  refine b_goto (tgt := 337) rfl rfl ?_
                  refine ihm (c + 1) _ _ _ (by omega) (by omega) ?_
                  rw [hf1]
                  first
                    | exact pI_0 (fun z => by have h9 := z.1.2; rw [hb1] at h9; cases h9)
                    | exact pI_0 (fun z => by have h9 := z.1.1; rw [hs0] at h9; cases h9)
                    | exact pI_0 (fun z => absurd z.2 (by assumption))
              · refine ⟨_, rfl, ?_⟩
                refine b_if_eq (tgt := 414) rfl rfl (fun _ => ?_) (fun z => absurd z (by decide))
                refine b_iincX (F := fun z414 => [some (aR 57), some (aI n), some (aI (s : Int)), some (aI (nS J : Int)), some (aI (t : Int)), some (aI (i : Int)), some (aI z414), x7, x8]) rfl rfl (by omega) (by omega) (fun _ => rfl) (fun z414 ez414 => ?_)
                refine b_goto (tgt := 337) rfl rfl ?_
                refine ihm (c + 1) _ _ _ (by omega) (by omega) ?_
                rw [hf1]
                first
                  | exact pI_0 (fun z => by have h9 := z.1.2; rw [hb1] at h9; cases h9)
                  | exact pI_0 (fun z => by have h9 := z.1.1; rw [hs0] at h9; cases h9)
                  | exact pI_0 (fun z => absurd z.2 (by assumption))
      refine b_iload rfl rfl ?_
      refine b_iload_n rfl rfl ?_
      refine b_icmp_gt (tgt := 471) rfl rfl (fun c331 => ?_) (fun c331 => ?_)
      · omega
      · refine b_iconst rfl (by decide) ?_
        refine b_istoreX (F := fun z335 => [some (aR 57), some (aI n), some (aI (s : Int)), some (aI (nS J : Int)), some (aI (t : Int)), some (aI (i : Int)), some (aI z335), x7, x8]) rfl (by decide) (fun _ => rfl) (fun z335 ez335 => ?_)
        exact scan (nB J) 0 _ _ _ (by omega) (by omega) rfl
  have last : clk J n ∧ (a = -1 ∨ kO J 4 1 a) → ∀ (y4 : Int) (x5 x6 x7 x8 : Option AV) (H : HI), SB K H → (∀ s, s < nS J → H 92 s = (ft s : Int)) → (∀ s t, s ≤ nS J → t < 64 → H 93 (64 * s + t) = mW ft (nS J - s) s t) → Bj MX12_berthed 6 310 [some (aR 57), some (aI n), some (aI a), some (aI (nS J : Int)), some (aI y4), x5, x6, x7, x8] [] H Q := by
    intro hcl y4 x5 x6 x7 x8 H f h92 h93
    have q0 := h93 0 0 (by omega) (by decide)
    have fin := k1 hcl H f
    refine b_iload_n rfl rfl ?_
    refine b_iconst rfl (by decide) ?_
    refine b_icmp_ne (tgt := 322) rfl rfl (fun c312 => ?_) (fun c312 => ?_)
    · refine b_iconst rfl (by decide) ?_
      refine b_istoreX (F := fun z323 => [some (aR 57), some (aI n), some (aI a), some (aI (nS J : Int)), some (aI z323), x5, x6, x7, x8]) rfl (by decide) (fun _ => rfl) (fun z323 ez323 => ?_)
      refine b_iconst rfl (by decide) ?_
      refine b_istoreX (F := fun z326 => [some (aR 57), some (aI n), some (aI a), some (aI (nS J : Int)), some (aI z323), some (aI z326), x6, x7, x8]) rfl (by decide) (fun _ => rfl) (fun z326 ez326 => ?_)
      obtain ⟨s, rfl, hs⟩ := kO_nat (i := 1) (hcl.2.resolve_left c312)
      exact find s rfl hs hcl.1 (s + 1) 0 _ _ _ _ _ H f h92 h93 (by rw [ez323]; rfl) (by show 0 < 64; decide) (by omega) (by omega) (by omega)
    · refine b_aload_n rfl rfl ?_
      refine b_getR (r := 93) rfl fl12_201 rfl (by decide) rfl rfl ?_
      refine b_iconst rfl (by decide) ?_
      refine b_ialdL (k := 0) rfl rfl rfl (by decide) ?_
      try simp only [tn6, tn4, tn2, tn144, tn24, tn_cast, Int.reduceToNat]
      refine b_iret rfl rfl ?_
      refine qI fin ?_ rfl
      unfold bdV
      rw [if_pos c312, hft]
      exact q0.symm
  have down : clk J n ∧ (a = -1 ∨ kO J 4 1 a) → ∀ (k : Nat) (y4 : Int) (x5 x6 x7 x8 : Option AV) (H : HI), k ≤ nS J → y4 = (k : Int) - 1 → SB K H → (∀ s, s < nS J → H 92 s = (ft s : Int)) → (∀ s t, k ≤ s → s ≤ nS J → t < 64 → H 93 (64 * s + t) = mW ft (nS J - s) s t) → Bj MX12_berthed 6 160 [some (aR 57), some (aI n), some (aI a), some (aI (nS J : Int)), some (aI y4), x5, x6, x7, x8] [] H Q := by
    intro hcl k
    induction k with
    | zero =>
      intro y4 x5 x6 x7 x8 H hk hy f h92 h93
      refine b_iload rfl rfl ?_
      refine b_if_lt (tgt := 310) rfl rfl (fun c162 => ?_) (fun c162 => ?_)
      · exact last hcl _ _ _ _ _ H f h92 (fun s t a b => h93 s t (by omega) a b)
      · omega
    | succ k ih =>
      intro y4 x5 x6 x7 x8 H hk hy f h92 h93
      have ey : y4 = (k : Int) := by omega
      subst ey
      have esk : nS J - k = nS J - (k + 1) + 1 := by omega
      have hmW : ∀ t, mW ft (nS J - k) k t = mb (mW ft (nS J - (k + 1)) (k + 1)) (ft k) t (nB J) := fun t => by
        rw [esk]
        show mb (mW ft (nS J - (k + 1)) (k + 1)) (ft k) t 6 = _
        exact mbe _ _ _
      have gb : ∀ t, 0 ≤ mW ft (nS J - (k + 1)) (k + 1) t ∧ mW ft (nS J - (k + 1)) (k + 1) t ≤ 10 := fun t => mWb _ _ _ (by omega)
      have sets : ∀ (m t : Nat) (y5 : Int) (x6 x7 x8 : Option AV) (H : HI), y5 = (t : Int) → t + m = 64 → SB K H → (∀ s, s < nS J → H 92 s = (ft s : Int)) → (∀ s t, k + 1 ≤ s → s ≤ nS J → t < 64 → H 93 (64 * s + t) = mW ft (nS J - s) s t) → (∀ u, u < t → H 93 (64 * k + u) = mW ft (nS J - k) k u) → Bj MX12_berthed 6 168 [some (aR 57), some (aI n), some (aI a), some (aI (nS J : Int)), some (aI (k : Int)), some (aI y5), x6, x7, x8] [] H Q := by
        intro m
        induction m with
        | zero =>
          intro t y5 x6 x7 x8 H hy5 ht f h92 h93 hk93
          refine b_iload rfl rfl ?_
          refine b_bipush rfl (by decide) ?_
          refine b_icmp_ge (tgt := 304) rfl rfl (fun c172 => ?_) (fun c172 => ?_)
          · refine b_iincX (F := fun z304 => [some (aR 57), some (aI n), some (aI a), some (aI (nS J : Int)), some (aI z304), some (aI y5), x6, x7, x8]) rfl rfl (by omega) (by omega) (fun _ => rfl) (fun z304 ez304 => ?_)
            refine b_goto (tgt := 160) rfl rfl ?_
            refine ih _ _ _ _ _ H (by omega) (by omega) f h92 (fun s u h1 h2 h3 => ?_)
            by_cases e : s = k
            · subst e; exact hk93 u (by omega)
            · exact h93 s u (by omega) h2 h3
          · omega
        | succ m ihm =>
          intro t y5 x6 x7 x8 H hy5 ht f h92 h93 hk93
          subst hy5
          have ht64 : t < 64 := by omega
          have hMH := hM.sb f
          have hbH := hMH.1.1
          have q67 := hMH.1.2.2.2.2.1
          have q92 := h92 k (by omega)
          have q930 := h93 (k + 1) t (by omega) (by omega) ht64
          have i930 : (64 * ((k : Int) + 1) + (t : Int)).toNat = 64 * (k + 1) + t := by omega
          have i94 : (64 * (k : Int) + (t : Int)).toNat = 64 * k + t := by omega
          have best : ∀ (m c : Nat) (z6 z7 : Int) (x8 : Option AV), z7 = (c : Int) → c + m = nB J → z6 = mb (mW ft (nS J - (k + 1)) (k + 1)) (ft k) t c → Bj MX12_berthed 6 195 [some (aR 57), some (aI n), some (aI a), some (aI (nS J : Int)), some (aI (k : Int)), some (aI (t : Int)), some (aI z6), some (aI z7), x8] [] H Q := by
            intro m
            induction m with
            | zero =>
              intro c z6 z7 x8 hz7 hc hz6
              have ec : c = nB J := by omega
              subst ec
              refine b_iload rfl rfl ?_
              refine b_aload_n rfl rfl ?_
              refine b_getR (r := 67) rfl fl12_78 rfl (by decide) rfl rfl ?_
              refine b_aload_n rfl rfl ?_
              refine b_getI rfl fl12_51 rfl (by decide) rfl ?_
              rw [hbH]
              refine b_iald rfl rfl (by omega) (by omega) ?_
              try simp only [tn6, tn4, tn2, tn144, tn24, tn_cast, Int.reduceToNat]
              rw [q67]
              refine b_icmp_ge (tgt := 283) rfl rfl (fun c206 => ?_) (fun c206 => ?_)
              · refine b_aload_n rfl rfl ?_
                refine b_getR (r := 93) rfl fl12_201 rfl (by decide) rfl rfl ?_
                refine b_bipush rfl (by decide) ?_
                refine b_iload rfl rfl ?_
                refine b_imulN rfl (by omega) (by omega) ?_
                refine b_iload rfl rfl ?_
                refine b_iaddN rfl (by omega) (by omega) ?_
                refine b_iload rfl rfl ?_
                refine b_iast rfl rfl (by omega) (by omega) ?_
                try simp only [tn6, tn4, tn2, tn144, tn24, tn_cast, Int.reduceToNat]
                rw [i94]
                refine b_iincX (F := fun z298 => [some (aR 57), some (aI n), some (aI a), some (aI (nS J : Int)), some (aI (k : Int)), some (aI z298), some (aI z6), some (aI z7), x8]) rfl rfl (by omega) (by omega) (fun _ => rfl) (fun z298 ez298 => ?_)
                refine b_goto (tgt := 168) rfl rfl ?_
                refine ihm (t + 1) _ _ _ _ _ (by omega) (by omega) (f.ux (Or.inr rfl)) (fun s hs => by rw [up_cell (by decide)]; exact h92 s hs) (fun s u h1 h2 h3 => by rw [up_n (by omega)]; exact h93 s u h1 h2 h3) (fun u hu => ?_)
                rw [up_ap]
                by_cases e : u = t
                · rw [if_pos ⟨rfl, by omega⟩, hz6, e, hmW]
                · rw [if_neg (by omega)]; exact hk93 u (by omega)
              · omega
            | succ m ihb =>
              intro c z6 z7 x8 hz7 hc hz6
              subst hz7
              have hc6 : c < 6 := by omega
              have ol := or_lt ht64 hc6
              have q93 := h93 (k + 1) (t ||| 2 ^ c) (by omega) (by omega) ol
              have i93 : (64 * ((k : Int) + 1) + ((t ||| 2 ^ c : Nat) : Int)).toNat = 64 * (k + 1) + (t ||| 2 ^ c) := by omega
              have gbc := gb (t ||| 2 ^ c)
              have mbb := mb_in (g := mW ft (nS J - (k + 1)) (k + 1)) (f := ft k) (t := t) (B := 10) gb c
              have nx : mb (mW ft (nS J - (k + 1)) (k + 1)) (ft k) t (c + 1) = pI (frB (ft k) t c) (max (mb (mW ft (nS J - (k + 1)) (k + 1)) (ft k) t c) (1 + mW ft (nS J - (k + 1)) (k + 1) (t ||| 2 ^ c))) (mb (mW ft (nS J - (k + 1)) (k + 1)) (ft k) t c) := rfl
              refine b_iload rfl rfl ?_
              refine b_aload_n rfl rfl ?_
              refine b_getR (r := 67) rfl fl12_78 rfl (by decide) rfl rfl ?_
              refine b_aload_n rfl rfl ?_
              refine b_getI rfl fl12_51 rfl (by decide) rfl ?_
              rw [hbH]
              refine b_iald rfl rfl (by omega) (by omega) ?_
              try simp only [tn6, tn4, tn2, tn144, tn24, tn_cast, Int.reduceToNat]
              rw [q67]
              refine b_icmp_ge (tgt := 283) rfl rfl (fun c206 => ?_) (fun c206 => ?_)
              · omega
              · refine b_iload rfl rfl ?_
                refine b_iload rfl rfl ?_
                refine b_callS2i (ν := MX12_has2) rfl ml12_364 csX12_has2 (d' := 0) (by omega) (Nat.le_of_ble_eq_true rfl) ?_
                refine spm_has2 ht64 hc6 (fun hb1 => ?_) (fun hb0 => ?_)
                · refine ⟨_, rfl, ?_⟩
                  refine b_if_ne (tgt := 277) rfl rfl (fun _ => ?_) (fun z => absurd z (by decide))
                  refine b_iincX (F := fun z277 => [some (aR 57), some (aI n), some (aI a), some (aI (nS J : Int)), some (aI (k : Int)), some (aI (t : Int)), some (aI z6), some (aI z277), x8]) rfl rfl (by omega) (by omega) (fun _ => rfl) (fun z277 ez277 => ?_)
                  refine b_goto (tgt := 195) rfl rfl ?_
                  refine ihb (c + 1) _ _ _ (by omega) (by omega) ?_
                  rw [nx]
                  first
                    | (rw [pI_0 (fun z => by have h9 := z.2; rw [hb1] at h9; cases h9)]; exact hz6)
                    | (rw [pI_0 (fun z => by have h9 := z.1; rw [hs0] at h9; cases h9)]; exact hz6)
                    | (rw [pI_1 ⟨hs1, hb0⟩]; omega)
                · refine ⟨_, rfl, ?_⟩
                  refine b_if_ne (tgt := 277) rfl rfl (fun z => absurd z (by decide)) (fun _ => ?_)
                  refine b_aload_n rfl rfl ?_
                  refine b_getR (r := 92) rfl fl12_198 rfl (by decide) rfl rfl ?_
                  refine b_iload rfl rfl ?_
                  refine b_iald rfl rfl (by omega) (by omega) ?_
                  try simp only [tn6, tn4, tn2, tn144, tn24, tn_cast, Int.reduceToNat]
                  rw [q92]
                  refine b_iload rfl rfl ?_
                  refine b_callS2i (ν := MX12_has2) rfl ml12_364 csX12_has2 (d' := 0) (by omega) (Nat.le_of_ble_eq_true rfl) ?_
                  refine spm_has2 (ft6 k) hc6 (fun hs1 => ?_) (fun hs0 => ?_)
                  · refine ⟨_, rfl, ?_⟩
                    refine b_if_ne (tgt := 237) rfl rfl (fun _ => ?_) (fun z => absurd z (by decide))
                    refine b_iconst rfl (by decide) ?_
                    refine b_aload_n rfl rfl ?_
                    refine b_getR (r := 93) rfl fl12_201 rfl (by decide) rfl rfl ?_
                    refine b_bipush rfl (by decide) ?_
                    refine b_iload rfl rfl ?_
                    refine b_iconst rfl (by decide) ?_
                    refine b_iaddN rfl (by omega) (by omega) ?_
                    refine b_imulN rfl (by omega) (by omega) ?_
                    refine b_iload rfl rfl ?_
                    refine b_iconst rfl (by decide) ?_
                    refine b_iload rfl rfl ?_
                    refine b_ishl rfl ?_
                    refine b_ior rfl ?_
                    rw [or_bit hc6 ht64]
                    refine b_iaddN rfl (by omega) (by omega) ?_
                    refine b_iald rfl rfl (by omega) (by omega) ?_
                    try simp only [tn6, tn4, tn2, tn144, tn24, tn_cast, Int.reduceToNat]
                    rw [i93, q93]
                    refine b_iaddN rfl (by omega) (by omega) ?_
                    refine b_istoreX (F := fun z259 => [some (aR 57), some (aI n), some (aI a), some (aI (nS J : Int)), some (aI (k : Int)), some (aI (t : Int)), some (aI z6), some (aI (c : Int)), some (aI z259)]) rfl (by decide) (fun _ => rfl) (fun z259 ez259 => ?_)
                    refine b_iload rfl rfl ?_
                    refine b_iload rfl rfl ?_
                    refine b_icmp_le (tgt := 273) rfl rfl (fun c265 => ?_) (fun c265 => ?_)
                    · refine b_iload rfl rfl ?_
                      refine b_istoreX (F := fun z275 => [some (aR 57), some (aI n), some (aI a), some (aI (nS J : Int)), some (aI (k : Int)), some (aI (t : Int)), some (aI z275), some (aI (c : Int)), some (aI z259)]) rfl (by decide) (fun _ => rfl) (fun z275 ez275 => ?_)
                      refine b_iincX (F := fun z277 => [some (aR 57), some (aI n), some (aI a), some (aI (nS J : Int)), some (aI (k : Int)), some (aI (t : Int)), some (aI z275), some (aI z277), some (aI z259)]) rfl rfl (by omega) (by omega) (fun _ => rfl) (fun z277 ez277 => ?_)
                      refine b_goto (tgt := 195) rfl rfl ?_
                      refine ihb (c + 1) _ _ _ (by omega) (by omega) ?_
                      rw [nx]
                      first
                        | (rw [pI_0 (fun z => by have h9 := z.2; rw [hb1] at h9; cases h9)]; exact hz6)
                        | (rw [pI_0 (fun z => by have h9 := z.1; rw [hs0] at h9; cases h9)]; exact hz6)
                        | (rw [pI_1 ⟨hs1, hb0⟩]; omega)
                    · refine b_iload rfl rfl ?_
                      refine b_goto (tgt := 275) rfl rfl ?_
                      refine b_istoreX (F := fun z275 => [some (aR 57), some (aI n), some (aI a), some (aI (nS J : Int)), some (aI (k : Int)), some (aI (t : Int)), some (aI z275), some (aI (c : Int)), some (aI z259)]) rfl (by decide) (fun _ => rfl) (fun z275 ez275 => ?_)
                      refine b_iincX (F := fun z277 => [some (aR 57), some (aI n), some (aI a), some (aI (nS J : Int)), some (aI (k : Int)), some (aI (t : Int)), some (aI z275), some (aI z277), some (aI z259)]) rfl rfl (by omega) (by omega) (fun _ => rfl) (fun z277 ez277 => ?_)
                      refine b_goto (tgt := 195) rfl rfl ?_
                      refine ihb (c + 1) _ _ _ (by omega) (by omega) ?_
                      rw [nx]
                      first
                        | (rw [pI_0 (fun z => by have h9 := z.2; rw [hb1] at h9; cases h9)]; exact hz6)
                        | (rw [pI_0 (fun z => by have h9 := z.1; rw [hs0] at h9; cases h9)]; exact hz6)
                        | (rw [pI_1 ⟨hs1, hb0⟩]; omega)
                  · refine ⟨_, rfl, ?_⟩
                    refine b_if_ne (tgt := 237) rfl rfl (fun z => absurd z (by decide)) (fun _ => ?_)
                    refine b_goto (tgt := 277) rfl rfl ?_
                    refine b_iincX (F := fun z277 => [some (aR 57), some (aI n), some (aI a), some (aI (nS J : Int)), some (aI (k : Int)), some (aI (t : Int)), some (aI z6), some (aI z277), x8]) rfl rfl (by omega) (by omega) (fun _ => rfl) (fun z277 ez277 => ?_)
                    refine b_goto (tgt := 195) rfl rfl ?_
                    refine ihb (c + 1) _ _ _ (by omega) (by omega) ?_
                    rw [nx]
                    first
                      | (rw [pI_0 (fun z => by have h9 := z.2; rw [hb1] at h9; cases h9)]; exact hz6)
                      | (rw [pI_0 (fun z => by have h9 := z.1; rw [hs0] at h9; cases h9)]; exact hz6)
                      | (rw [pI_1 ⟨hs1, hb0⟩]; omega)
          refine b_iload rfl rfl ?_
          refine b_bipush rfl (by decide) ?_
          refine b_icmp_ge (tgt := 304) rfl rfl (fun c172 => ?_) (fun c172 => ?_)
          · omega
          · refine b_aload_n rfl rfl ?_
            refine b_getR (r := 93) rfl fl12_201 rfl (by decide) rfl rfl ?_
            refine b_bipush rfl (by decide) ?_
            refine b_iload rfl rfl ?_
            refine b_iconst rfl (by decide) ?_
            refine b_iaddN rfl (by omega) (by omega) ?_
            refine b_imulN rfl (by omega) (by omega) ?_
            refine b_iload rfl rfl ?_
            refine b_iaddN rfl (by omega) (by omega) ?_
            refine b_iald rfl rfl (by omega) (by omega) ?_
            try simp only [tn6, tn4, tn2, tn144, tn24, tn_cast, Int.reduceToNat]
            rw [i930, q930]
            refine b_istoreX (F := fun z190 => [some (aR 57), some (aI n), some (aI a), some (aI (nS J : Int)), some (aI (k : Int)), some (aI (t : Int)), some (aI z190), x7, x8]) rfl (by decide) (fun _ => rfl) (fun z190 ez190 => ?_)
            refine b_iconst rfl (by decide) ?_
            refine b_istoreX (F := fun z193 => [some (aR 57), some (aI n), some (aI a), some (aI (nS J : Int)), some (aI (k : Int)), some (aI (t : Int)), some (aI z190), some (aI z193), x8]) rfl (by decide) (fun _ => rfl) (fun z193 ez193 => ?_)
            exact best (nB J) 0 _ _ _ (by omega) (by omega) ez190
      refine b_iload rfl rfl ?_
      refine b_if_lt (tgt := 310) rfl rfl (fun c162 => ?_) (fun c162 => ?_)
      · omega
      · refine b_iconst rfl (by decide) ?_
        refine b_istoreX (F := fun z166 => [some (aR 57), some (aI n), some (aI a), some (aI (nS J : Int)), some (aI (k : Int)), some (aI z166), x6, x7, x8]) rfl (by decide) (fun _ => rfl) (fun z166 ez166 => ?_)
        exact sets 64 0 _ _ _ _ H (by omega) (by omega) f h92 h93 (fun u hu => absurd hu (by omega))
  have zeros : clk J n ∧ (a = -1 ∨ kO J 4 1 a) → ∀ (m t : Nat) (y4 : Int) (x5 x6 x7 x8 : Option AV) (H : HI), y4 = (t : Int) → t + m = 64 → SB K H → (∀ s, s < nS J → H 92 s = (ft s : Int)) → (∀ u, u < t → H 93 (64 * nS J + u) = 0) → Bj MX12_berthed 6 129 [some (aR 57), some (aI n), some (aI a), some (aI (nS J : Int)), some (aI y4), x5, x6, x7, x8] [] H Q := by
    intro hcl m
    induction m with
    | zero =>
      intro t y4 x5 x6 x7 x8 H hy ht f h92 hz
      refine b_iload rfl rfl ?_
      refine b_bipush rfl (by decide) ?_
      refine b_icmp_ge (tgt := 155) rfl rfl (fun c133 => ?_) (fun c133 => ?_)
      · refine b_iload_n rfl rfl ?_
        refine b_iconst rfl (by decide) ?_
        refine b_isubN rfl (by omega) (by omega) ?_
        refine b_istoreX (F := fun z158 => [some (aR 57), some (aI n), some (aI a), some (aI (nS J : Int)), some (aI z158), x5, x6, x7, x8]) rfl (by decide) (fun _ => rfl) (fun z158 ez158 => ?_)
        refine down hcl (nS J) _ _ _ _ _ H (by omega) (by omega) f h92 (fun s u h1 h2 h3 => ?_)
        have e : s = nS J := by omega
        subst e
        rw [hz u (by omega), Nat.sub_self]
        rfl
      · omega
    | succ m ih =>
      intro t y4 x5 x6 x7 x8 H hy ht f h92 hz
      subst hy
      have i94 : (64 * (nS J : Int) + (t : Int)).toNat = 64 * nS J + t := by omega
      refine b_iload rfl rfl ?_
      refine b_bipush rfl (by decide) ?_
      refine b_icmp_ge (tgt := 155) rfl rfl (fun c133 => ?_) (fun c133 => ?_)
      · omega
      · refine b_aload_n rfl rfl ?_
        refine b_getR (r := 93) rfl fl12_201 rfl (by decide) rfl rfl ?_
        refine b_bipush rfl (by decide) ?_
        refine b_iload_n rfl rfl ?_
        refine b_imulN rfl (by omega) (by omega) ?_
        refine b_iload rfl rfl ?_
        refine b_iaddN rfl (by omega) (by omega) ?_
        refine b_iconst rfl (by decide) ?_
        refine b_iast rfl rfl (by omega) (by omega) ?_
        try simp only [tn6, tn4, tn2, tn144, tn24, tn_cast, Int.reduceToNat]
        rw [i94]
        refine b_iincX (F := fun z149 => [some (aR 57), some (aI n), some (aI a), some (aI (nS J : Int)), some (aI z149), x5, x6, x7, x8]) rfl rfl (by omega) (by omega) (fun _ => rfl) (fun z149 ez149 => ?_)
        refine b_goto (tgt := 129) rfl rfl ?_
        refine ih (t + 1) _ _ _ _ _ _ (by omega) (by omega) (f.ux (Or.inr rfl)) (fun s hs => by rw [up_cell (by decide)]; exact h92 s hs) (fun u hu => ?_)
        rw [up_ap]
        by_cases e : u = t
        · rw [if_pos ⟨rfl, by omega⟩]
        · rw [if_neg (by omega)]; exact hz u (by omega)
  have fill : clk J n ∧ (a = -1 ∨ kO J 4 1 a) → ∀ (m i : Nat) (y4 : Int) (x5 x6 x7 x8 : Option AV) (H : HI), y4 = (i : Int) → i + m = nS J → SB K H → (∀ s, s < i → H 92 s = (ft s : Int)) → Bj MX12_berthed 6 39 [some (aR 57), some (aI n), some (aI a), some (aI (nS J : Int)), some (aI y4), x5, x6, x7, x8] [] H Q := by
    intro hcl m
    have hcl1 := hcl.1
    unfold clk at hcl1
    induction m with
    | zero =>
      intro i y4 x5 x6 x7 x8 H hy hi f h92
      refine b_iload rfl rfl ?_
      refine b_iload_n rfl rfl ?_
      refine b_icmp_ge (tgt := 126) rfl rfl (fun c42 => ?_) (fun c42 => ?_)
      · refine b_iconst rfl (by decide) ?_
        refine b_istoreX (F := fun z127 => [some (aR 57), some (aI n), some (aI a), some (aI (nS J : Int)), some (aI z127), x5, x6, x7, x8]) rfl (by decide) (fun _ => rfl) (fun z127 ez127 => ?_)
        exact zeros hcl 64 0 _ _ _ _ _ H (by omega) (by omega) f (fun s hs => h92 s (by omega)) (fun u hu => absurd hu (by omega))
      · omega
    | succ m ih =>
      intro i y4 x5 x6 x7 x8 H hy hi f h92
      subst hy
      have hs : (i : Int) < J 4 1 := by omega
      have hcb := car_b hp (f := J 32) (fun k => by have := hM.2.2.1.2.2.2.1 k; omega) hs
      have hftd : ft i = bN (sbP J C h i) (nB J) := by rw [← hft]; rfl
      have inner : ∀ (m c : Nat) (z5 : Int) (x6 x7 x8 : Option AV) (H : HI), z5 = (c : Int) → c + m = nB J → SB K H → (∀ s, s < i → H 92 s = (ft s : Int)) → H 92 i = ((bN (sbP J C h i) c : Nat) : Int) → mS H (wOf J (J 32) i) (lOf J (J 32) i) (tOf J (J 32) i) (nOf J (J 32) i) = H → Bj MX12_berthed 6 63 [some (aR 57), some (aI n), some (aI a), some (aI (nS J : Int)), some (aI (i : Int)), some (aI z5), x6, x7, x8] [] H Q := by
        intro m
        induction m with
        | zero =>
          intro c z5 x6 x7 x8 H hz hc f h92 hi92 hmS
          have hMH := hM.sb f
          have hbH := hMH.1.1
          have q67 := hMH.1.2.2.2.2.1
          have ec : c = nB J := by omega
          subst ec
          refine b_iload rfl rfl ?_
          refine b_aload_n rfl rfl ?_
          refine b_getR (r := 67) rfl fl12_78 rfl (by decide) rfl rfl ?_
          refine b_aload_n rfl rfl ?_
          refine b_getI rfl fl12_51 rfl (by decide) rfl ?_
          rw [hbH]
          refine b_iald rfl rfl (by omega) (by omega) ?_
          try simp only [tn6, tn4, tn2, tn144, tn24, tn_cast, Int.reduceToNat]
          rw [q67]
          refine b_icmp_ge (tgt := 120) rfl rfl (fun c74 => ?_) (fun c74 => ?_)
          · refine b_iincX (F := fun z120 => [some (aR 57), some (aI n), some (aI a), some (aI (nS J : Int)), some (aI z120), some (aI z5), x6, x7, x8]) rfl rfl (by omega) (by omega) (fun _ => rfl) (fun z120 ez120 => ?_)
            refine b_goto (tgt := 39) rfl rfl ?_
            refine ih (i + 1) _ _ _ _ _ H (by omega) (by omega) f (fun s hs => ?_)
            by_cases e : s = i
            · rw [e, hi92, hftd]
            · exact h92 s (by omega)
          · omega
        | succ m ihm =>
          intro c z5 x6 x7 x8 H hz hc f h92 hi92 hmS
          subst hz
          have hMH := hM.sb f
          have hbH := hMH.1.1
          have q67 := hMH.1.2.2.2.2.1
          have q85 := hMH.2.2.2.1.1
          have hbn := bN_lt (p := sbP J C h i) c
          have h26 : 2 ^ c ≤ 2 ^ 6 := Nat.pow_le_pow_right (by decide) (by omega)
          have eSF : SFV J i c (tOf J (J 32) i) (hei C h (wOf J (J 32) i) (lOf J (J 32) i) (tOf J (J 32) i)) ↔ sbP J C h i c := by
            rw [own_W.1, own_W.2.1, own_W.2.2.1]
            exact Iff.rfl
          have nxt_ : ∀ (K2 : HI), AsM (mS H (wOf J (J 32) i) (lOf J (J 32) i) (tOf J (J 32) i) (nOf J (J 32) i)) K2 → ∀ v : Int, v = ((bN (sbP J C h i) (c + 1) : Nat) : Int) → ∀ (z5 : Int) (x6 x7 x8 : Option AV), z5 = (c : Int) + 1 → Bj MX12_berthed 6 63 [some (aR 57), some (aI n), some (aI a), some (aI (nS J : Int)), some (aI (i : Int)), some (aI z5), x6, x7, x8] [] (up K2 92 i v) Q := by
            intro K2 hK2 v hv z5 x6 x7 x8 hz5
            rw [hmS] at hK2
            refine ihm (c + 1) z5 _ _ _ _ (by omega) (by omega) ((f.sc ((ScM.rf f.2.2).as hK2)).ux (Or.inl rfl)) (fun s hs => ?_) (by rw [up_s]; exact hv) ?_
            · rw [up_n (by omega), hK2.1 92 (by decide) (by decide)]; exact h92 s hs
            · have e57 : ∀ j, up K2 92 i v 57 j = H 57 j := fun j => by rw [up_cell (by decide), hK2.1 57 (by decide) (by decide)]
              have d1 : H 57 57 = wOf J (J 32) i := by rw [← hmS]; rfl
              have d2 : H 57 58 = lOf J (J 32) i := by rw [← hmS]; rfl
              have d3 : H 57 59 = tOf J (J 32) i := by rw [← hmS]; rfl
              have d4 : H 57 60 = nOf J (J 32) i := by rw [← hmS]; rfl
              rw [← d1, ← d2, ← d3, ← d4, ← e57, ← e57, ← e57, ← e57]
              exact mS_self
          refine b_iload rfl rfl ?_
          refine b_aload_n rfl rfl ?_
          refine b_getR (r := 67) rfl fl12_78 rfl (by decide) rfl rfl ?_
          refine b_aload_n rfl rfl ?_
          refine b_getI rfl fl12_51 rfl (by decide) rfl ?_
          rw [hbH]
          refine b_iald rfl rfl (by omega) (by omega) ?_
          try simp only [tn6, tn4, tn2, tn144, tn24, tn_cast, Int.reduceToNat]
          rw [q67]
          refine b_icmp_ge (tgt := 120) rfl rfl (fun c74 => ?_) (fun c74 => ?_)
          · omega
          · refine b_aload_n rfl rfl ?_
            refine b_getR (r := 92) rfl fl12_198 rfl (by decide) rfl rfl ?_
            refine b_iload rfl rfl ?_
            refine b_dup2 rfl rfl rfl ?_
            refine b_iald rfl rfl (by omega) (by omega) ?_
            try simp only [tn6, tn4, tn2, tn144, tn24, tn_cast, Int.reduceToNat]
            rw [hi92]
            refine b_aload_n rfl rfl ?_
            refine b_iload rfl rfl ?_
            refine b_iload rfl rfl ?_
            refine b_aload_n rfl rfl ?_
            refine b_getR (r := 85) rfl fl12_156 rfl (by decide) rfl rfl ?_
            refine b_iconst rfl (by decide) ?_
            refine b_ialdL (k := 0) rfl rfl rfl (by decide) ?_
            try simp only [tn6, tn4, tn2, tn144, tn24, tn_cast, Int.reduceToNat]
            rw [q85]
            refine b_iload_n rfl rfl ?_
            refine b_iaddN rfl (by omega) (by omega) ?_
            rw [hh0]
            refine b_callV3i (ν := MX12_isSafe) rfl ml12_506 cvX12_isSafe (d' := 5) (by omega) rfl (by decide) rfl (Nat.le_of_ble_eq_true rfl) ?_
            refine spm_isSafe (K0 := H) (W := wOf J (J 32) i) (L := lOf J (J 32) i) (T := tOf J (J 32) i) (N := nOf J (J 32) i) hMH.1 (by rw [hmS]; exact AsM.rf f.2.2) hs (by omega) hcb.1 hcb.2 (by omega) (fun hsf K2 hK2 => ?_) (fun hsn K2 hK2 => ?_)
            · refine ⟨_, rfl, ?_⟩
              refine b_if_eq (tgt := 111) rfl rfl (fun z => absurd z (by decide)) (fun _ => ?_)
              refine b_iconst rfl (by decide) ?_
              refine b_iload rfl rfl ?_
              refine b_ishl rfl ?_
              refine b_goto (tgt := 112) rfl rfl ?_
              refine b_ior rfl ?_
              refine b_iast rfl rfl (by omega) (by omega) ?_
              try simp only [tn6, tn4, tn2, tn144, tn24, tn_cast, Int.reduceToNat]
              refine b_iincX (F := fun z114 => [some (aR 57), some (aI n), some (aI a), some (aI (nS J : Int)), some (aI (i : Int)), some (aI z114), x6, x7, x8]) rfl rfl (by omega) (by omega) (fun _ => rfl) (fun z114 ez114 => ?_)
              refine b_goto (tgt := 63) rfl rfl ?_
              first
              | exact nxt_ K2 hK2 _ (by rw [bN_1 (p := sbP J C h i) (eSF.1 hsf), ← or_new (by omega) (bN_lt c)]) _ _ _ _ (by omega)
              | exact nxt_ K2 hK2 _ (by rw [bN_0 (p := sbP J C h i) (fun z => hsn (eSF.2 z))]; exact iOr_0 (by omega)) _ _ _ _ (by omega)
            · refine ⟨_, rfl, ?_⟩
              refine b_if_eq (tgt := 111) rfl rfl (fun _ => ?_) (fun z => absurd z (by decide))
              refine b_iconst rfl (by decide) ?_
              refine b_ior rfl ?_
              refine b_iast rfl rfl (by omega) (by omega) ?_
              try simp only [tn6, tn4, tn2, tn144, tn24, tn_cast, Int.reduceToNat]
              refine b_iincX (F := fun z114 => [some (aR 57), some (aI n), some (aI a), some (aI (nS J : Int)), some (aI (i : Int)), some (aI z114), x6, x7, x8]) rfl rfl (by omega) (by omega) (fun _ => rfl) (fun z114 ez114 => ?_)
              refine b_goto (tgt := 63) rfl rfl ?_
              first
              | exact nxt_ K2 hK2 _ (by rw [bN_1 (p := sbP J C h i) (eSF.1 hsf), ← or_new (by omega) (bN_lt c)]) _ _ _ _ (by omega)
              | exact nxt_ K2 hK2 _ (by rw [bN_0 (p := sbP J C h i) (fun z => hsn (eSF.2 z))]; exact iOr_0 (by omega)) _ _ _ _ (by omega)
      have hMH := hM.sb f
      refine b_iload rfl rfl ?_
      refine b_iload_n rfl rfl ?_
      refine b_icmp_ge (tgt := 126) rfl rfl (fun c42 => ?_) (fun c42 => ?_)
      · omega
      · refine b_aload_n rfl rfl ?_
        refine b_iconst rfl (by decide) ?_
        refine b_iload rfl rfl ?_
        refine b_callV2v (ν := MX12_carries) rfl ml12_493 cvX12_carries (d' := 1) (by omega) rfl (by decide) rfl (Nat.le_of_ble_eq_true rfl) ?_
        refine spq_carries hMH hs ?_
        refine ⟨rfl, ?_⟩
        refine b_aload_n rfl rfl ?_
        refine b_getR (r := 92) rfl fl12_198 rfl (by decide) rfl rfl ?_
        refine b_iload rfl rfl ?_
        refine b_iconst rfl (by decide) ?_
        refine b_iast rfl rfl (by omega) (by omega) ?_
        try simp only [tn6, tn4, tn2, tn144, tn24, tn_cast, Int.reduceToNat]
        refine b_iconst rfl (by decide) ?_
        refine b_istoreX (F := fun z61 => [some (aR 57), some (aI n), some (aI a), some (aI (nS J : Int)), some (aI (i : Int)), some (aI z61), x6, x7, x8]) rfl (by decide) (fun _ => rfl) (fun z61 ez61 => ?_)
        refine inner (nB J) 0 _ _ _ _ _ (by omega) (by omega) ((f.sc (ScM.rf f.2.2).ms).ux (Or.inl rfl)) (fun s hs => ?_) (by rw [up_s]; rfl) ?_
        · rw [up_n (by omega), mCar_cell (by decide)]; exact h92 s hs
        · unfold mCar
          funext q j
          simp only [mS, up_ap]
          grind
  have hb := hR.1
  have q62 := hR.2.2.2.1
  have start : clk J n ∧ (a = -1 ∨ kO J 4 1 a) → Bj MX12_berthed 6 26 [some (aR 57), some (aI n), some (aI a), none, none, none, none, none, none] [] K Q := by
    intro hcl
    refine b_aload_n rfl rfl ?_
    refine b_getR (r := 62) rfl fl12_63 rfl (by decide) rfl rfl ?_
    refine b_aload_n rfl rfl ?_
    refine b_getI rfl fl12_51 rfl (by decide) rfl ?_
    rw [hb]
    refine b_iald rfl rfl (by omega) (by omega) ?_
    try simp only [tn6, tn4, tn2, tn144, tn24, tn_cast, Int.reduceToNat]
    rw [q62]
    refine b_istoreX_n (F := fun z35 => [some (aR 57), some (aI n), some (aI a), some (aI z35), none, none, none, none, none]) rfl (by decide) (fun _ => rfl) (fun z35 ez35 => ?_)
    refine b_iconst rfl (by decide) ?_
    refine b_istoreX (F := fun z37 => [some (aR 57), some (aI n), some (aI a), some (aI z35), some (aI z37), none, none, none, none]) rfl (by decide) (fun _ => rfl) (fun z37 ez37 => ?_)
    have e35 : z35 = (nS J : Int) := by omega
    subst e35
    exact fill hcl (nS J) 0 _ _ _ _ _ K (by omega) (by omega) (SB.rf hM.2.1) (fun s hs => absurd hs (by omega))
  refine rj_of okX12_berthed (Nat.le_of_ble_eq_true rfl) rfl ?_
  refine b_aload_n rfl rfl ?_
  refine b_iload_n rfl rfl ?_
  refine b_iconst rfl (by decide) ?_
  refine b_callV2i (ν := MX12_isAhead) rfl ml12_509 cvX12_isAhead (d' := 1) (by omega) rfl (by decide) rfl (Nat.le_of_ble_eq_true rfl) ?_
  refine spq_isAhead hM (fun hy => ?_) (fun hn => ?_) (by decide)
  · refine ⟨_, rfl, ?_⟩
    refine b_if_eq (tgt := 22) rfl rfl (fun z => absurd z (by decide)) (fun _ => ?_)
    refine b_iload_n rfl rfl ?_
    refine b_iconst rfl (by decide) ?_
    refine b_icmp_eq (tgt := 26) rfl rfl (fun c11 => ?_) (fun c11 => ?_)
    · first
      | exact start ⟨hy, Or.inr hk⟩
      | exact start ⟨hy, Or.inl c11⟩
    · refine b_aload_n rfl rfl ?_
      refine b_iload_n rfl rfl ?_
      refine b_callV1i (ν := MX12_isShip) rfl ml12_479 cvX12_isShip (d' := 0) (by omega) rfl (by decide) rfl (Nat.le_of_ble_eq_true rfl) ?_
      refine spm_isShip hR (fun hk => ?_) (fun hk => ?_)
      · refine ⟨_, rfl, ?_⟩
        refine b_if_ne (tgt := 26) rfl rfl (fun _ => ?_) (fun z => absurd z (by decide))
        first
        | exact start ⟨hy, Or.inr hk⟩
        | exact start ⟨hy, Or.inl c11⟩
      · refine ⟨_, rfl, ?_⟩
        refine b_if_ne (tgt := 26) rfl rfl (fun z => absurd z (by decide)) (fun _ => ?_)
        refine b_ldcw (z := -1000000000) rfl kc12_496 (by decide) ?_
        refine b_iret rfl rfl ?_
        first
        | exact k0 (fun w => w.2.elim c11 hk)
        | exact k0 (fun w => hn w.1)
  · refine ⟨_, rfl, ?_⟩
    refine b_if_eq (tgt := 22) rfl rfl (fun _ => ?_) (fun z => absurd z (by decide))
    refine b_ldcw (z := -1000000000) rfl kc12_496 (by decide) ?_
    refine b_iret rfl rfl ?_
    first
    | exact k0 (fun w => w.2.elim c11 hk)
    | exact k0 (fun w => hn w.1)
