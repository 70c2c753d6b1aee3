/-! ===== the reference: lies ===== -/
section MLI
variable {Kb K H I : HI} {m n p : Nat} {Q : Option AV → HI → Prop}
def BA (I : HI) (a i : Nat) : Prop := a < 64 ∧ ∀ k, k < 6 → (a.testBit k = true ↔ (k < i ∧ I 21 k ≠ -1))
def BB (I : HI) (b i : Nat) : Prop := b < 64 ∧ ∀ k, k < 6 → (b.testBit k = true ↔ ∃ s, s < i ∧ I 21 s = (k : Int))
theorem or_sh {a s : Nat} (ha : a < 64) (hs : s < 6) : iOr (a : Int) (iShl 1 (s : Int)) = ((a ||| 2 ^ s : Nat) : Int) ∧ a ||| 2 ^ s < 64 := by
  have h2 : 2 ^ s < 64 := Nat.pow_lt_pow_right (by decide) hs
  have h3 : a ||| 2 ^ s < 2 ^ 6 := Nat.or_lt_two_pow ha h2
  have e : iShl 1 (s : Int) = ((2 ^ s : Nat) : Int) := by
    rw [iShl_p s (by omega), Int.one_mul, show ((2 : Int) ^ s) = ((2 ^ s : Nat) : Int) by push_cast; rfl]
    generalize 2 ^ s = P at h2
    exact w32_id (by omega) (by omega)
  rw [e, iOr_nat (by omega)]
  exact ⟨rfl, h3⟩
theorem bt_1 {a k : Nat} : a / 2 ^ k % 2 = 1 ↔ a.testBit k = true := by
  rw [Nat.testBit_eq_decide_div_mod_eq, decide_eq_true_eq]
theorem BA_s {a i : Nat} (h : BA I a i) (hi : i < 6) (hl : I 21 i ≠ -1) : BA I (a ||| 2 ^ i) (i + 1) := by
  refine ⟨(or_sh h.1 hi).2, fun k hk => ?_⟩
  rw [Nat.testBit_or, Bool.or_eq_true, h.2 k hk, Nat.testBit_two_pow, decide_eq_true_eq]
  constructor
  · rintro (⟨h1, h2⟩ | h1)
    · exact ⟨by omega, h2⟩
    · subst h1; exact ⟨by omega, hl⟩
  · rintro ⟨h1, h2⟩
    by_cases e : i = k
    · exact Or.inr e
    · exact Or.inl ⟨by omega, h2⟩
theorem BA_n {a i : Nat} (h : BA I a i) (hl : I 21 i = -1) : BA I a (i + 1) := by
  refine ⟨h.1, fun k hk => ?_⟩
  rw [h.2 k hk]
  constructor
  · rintro ⟨h1, h2⟩; exact ⟨by omega, h2⟩
  · rintro ⟨h1, h2⟩
    by_cases e : k = i
    · rw [e] at h2; exact absurd hl h2
    · exact ⟨by omega, h2⟩
theorem BB_s {b i t : Nat} (h : BB I b i) (ht : t < 6) (hl : I 21 i = (t : Int)) : BB I (b ||| 2 ^ t) (i + 1) := by
  refine ⟨(or_sh h.1 ht).2, fun k hk => ?_⟩
  rw [Nat.testBit_or, Bool.or_eq_true, h.2 k hk, Nat.testBit_two_pow, decide_eq_true_eq]
  constructor
  · rintro (⟨s, h1, h2⟩ | h1)
    · exact ⟨s, by omega, h2⟩
    · subst h1; exact ⟨i, by omega, hl⟩
  · rintro ⟨s, h1, h2⟩
    by_cases e : s = i
    · subst e
      rw [hl] at h2
      exact Or.inr (by omega)
    · exact Or.inl ⟨s, by omega, h2⟩
theorem BB_n {b i : Nat} (h : BB I b i) (hl : I 21 i = -1) : BB I b (i + 1) := by
  refine ⟨h.1, fun k hk => ?_⟩
  rw [h.2 k hk]
  constructor
  · rintro ⟨s, h1, h2⟩; exact ⟨s, by omega, h2⟩
  · rintro ⟨s, h1, h2⟩
    by_cases e : s = i
    · rw [e, hl] at h2; omega
    · exact ⟨s, by omega, h2⟩
theorem fi_ex (f : Nat → Int) (b : Int) : ∀ n k : Nat, (fi f b n k ≠ -1 ↔ ∃ s, k ≤ s ∧ s < k + n ∧ f s = b) := by
  intro n
  induction n with
  | zero =>
    intro k
    constructor
    · intro h; exact absurd rfl h
    · rintro ⟨s, h1, h2, _⟩; omega
  | succ n ih =>
    intro k
    by_cases h : f k = b
    · rw [show fi f b (n + 1) k = (k : Int) from if_pos h]
      exact ⟨fun _ => ⟨k, by omega, by omega, h⟩, fun _ => by omega⟩
    · rw [show fi f b (n + 1) k = fi f b n (k + 1) from if_neg h, ih (k + 1)]
      constructor
      · rintro ⟨s, h1, h2, h3⟩; exact ⟨s, by omega, by omega, h3⟩
      · rintro ⟨s, h1, h2, h3⟩
        by_cases e : s = k
        · rw [e] at h3; exact absurd h3 h
        · exact ⟨s, by omega, by omega, h3⟩
/-- who lies where, in the draft -/
def DL (I : HI) : Prop := (∀ s : Nat, s < 6 → ¬ (s : Int) < I 13 1 → I 21 s = -1) ∧ ∀ s : Nat, s < 6 → I 21 s = -1 ∨ (0 ≤ I 21 s ∧ I 21 s < 6)
theorem mr_lying (hT : MTx Kb n (I 2)) (hF : FrB Kb m K) (hR : RDr I K m) (hI : DI I p) (hL : DL I) (hk : tk n (I 2) p = 1) (hM : Mok K n (I 2) p H) (kq : ∀ H', MSO n m Kb I (stLi n I p) H' → Q none H') : Rj MX12_lying 3 [aR 57] H Q := by
  refine rj_of okX12_lying (Nat.le_of_ble_eq_true rfl) rfl ?_
  have hm := hR.1.2.1
  have hTK := MTx_B hT hF
  have hC := hI.1
  have hRn := hR.1
  have hc1 := hC 1 (by decide)
  have hcn : K 62 m = I 13 1 := hRn.2.2.1 1 (by decide)
  have f95 : ∀ (k pl : Int) (x1 x2 x3 x4 : Option AV) (H1 : HI), Mbad K k pl H1 → (∀ H', Mbad K k pl H' → Q none H') → Bj MX12_lying 3 95 [some (aR 57), x1, x2, x3, x4] [] H1 Q := by
    intro k pl x1 x2 x3 x4 H1 hb kk
    have hf := Mbad_f hb
    refine b_aload_n rfl rfl ?_
    refine b_getI rfl fl12_36 rfl (by decide) rfl ?_
    refine b_if_ne (tgt := 118) rfl rfl (fun c99 => ?_) (fun c99 => ?_)
    · refine b_vret rfl rfl ?_
      exact kk _ hb
    · omega
  have f87 : ∀ (k pl : Int) (z1 z2 z3 : Int) (H1 : HI), Mbad K k pl H1 → (∀ H', Mbad K k pl H' → Q none H') → Bj MX12_lying 3 87 [some (aR 57), some (aI z1), some (aI z2), some (aI z3), none] [] H1 Q := by
    intro k pl z1 z2 z3 H1 hb kk
    refine b_aload_n rfl rfl ?_
    refine b_iconst rfl (by decide) ?_
    refine b_iload_n rfl rfl ?_
    refine b_callV2i (ν := MX12_askedBut) rfl ml12_383 cvX12_askedBut (d' := 2) (by omega) rfl (by decide) rfl (Nat.le_of_ble_eq_true rfl) ?_
    refine mk_askedB hb ?_
    refine ⟨_, rfl, ?_⟩
    refine b_istoreX (F := fun z93 => [some (aR 57), some (aI z1), some (aI z2), some (aI z3), some (aI z93)]) rfl (by decide) (fun _ => rfl) (fun z93 ez93 => ?_)
    exact f95 _ _ _ _ _ _ _ hb kk
  have g95 : ∀ (s b p3 : Nat) (x1 x2 : Option AV) (z3 z4 : Int) (H1 : HI), z3 = (s : Int) → z4 = (b : Int) → s < 6 → Mok K n (I 2) p3 H1 → (∀ H', MSO n m Kb I (.inr (up I 21 s (b : Int), p3)) H' → Q none H') → Bj MX12_lying 3 95 [some (aR 57), x1, x2, some (aI z3), some (aI z4)] [] H1 Q := by
    intro s b p3 x1 x2 z3 z4 H1 e3 e4 hs6 hM1 kk
    obtain ⟨si, sa, en, va, wo, lx, e, hh⟩ := hM1
    subst e
    subst e3
    subst e4
    have h34 := hR.1.1
    have ez : (6 * (m : Int) + (s : Int)).toNat = 6 * m + s := by omega
    refine b_aload_n rfl rfl ?_
    refine b_getI rfl fl12_36 rfl (by decide) rfl ?_
    rw [MX_8]
    refine b_if_ne (tgt := 118) rfl rfl (fun c99 => ?_) (fun c99 => ?_)
    · omega
    · refine b_aload_n rfl rfl ?_
      refine b_getR (r := 65) rfl fl12_72 rfl (by decide) rfl rfl ?_
      refine b_bipush rfl (by decide) ?_
      refine b_aload_n rfl rfl ?_
      refine b_getI rfl fl12_115 rfl (by decide) rfl ?_
      rw [MXo (by decide)]
      rw [h34]
      refine b_imulN rfl (by omega) (by omega) ?_
      refine b_iload_n rfl rfl ?_
      refine b_iaddN rfl (by omega) (by omega) ?_
      refine b_iload rfl rfl ?_
      refine b_iast rfl rfl (by omega) (by omega) ?_
      try simp only [tn6, tn4, tn2, tn144, tn24, tn_cast, Int.reduceToNat]
      rw [MX_ux (by decide)]
      refine b_vret rfl rfl ?_
      try rw [ez]
      exact kk _ (MSO_r rfl (FrB_up hF (by omega) (by show 6 * m ≤ _ ∧ _ < 6 * m + 6; omega)) (RDr_li hR) ⟨si, sa, en, va, wo, lx, rfl, hh⟩)
  have g87 : ∀ (s a b p2 : Nat) (z3 : Int) (H1 : HI), z3 = (s : Int) → s < 6 → BB I b (I 13 1).toNat → Mok K n (I 2) p2 H1 → (∀ H', MSO n m Kb I (knw n I 2 p2 (kLi2 n I s p2)) H' → Q none H') → Bj MX12_lying 3 87 [some (aR 57), some (aI (a : Int)), some (aI (b : Int)), some (aI z3), none] [] H1 Q := by
    intro s a b p2 z3 H1 e3 hs6 hB hM1 kk
    have hex : ∀ t : Nat, t < 6 → (b / 2 ^ t % 2 = 1 ↔ fi (I 21) (t : Int) 6 0 ≠ -1) := by
      intro t ht
      rw [bt_1, hB.2 t ht, fi_ex]
      constructor
      · rintro ⟨s, h1, h2⟩; exact ⟨s, by omega, by omega, h2⟩
      · rintro ⟨s, h1, h2, h3⟩
        by_cases e : (s : Int) < I 13 1
        · exact ⟨s, by omega, h3⟩
        · rw [hL.1 s (by omega) e] at h3; omega
    refine b_aload_n rfl rfl ?_
    refine b_iconst rfl (by decide) ?_
    refine b_iload_n rfl rfl ?_
    refine b_callV2i (ν := MX12_askedBut) rfl ml12_383 cvX12_askedBut (d' := 2) (by omega) rfl (by decide) rfl (Nat.le_of_ble_eq_true rfl) ?_
    refine mk_asked (kk := 2) (bs := b) (by decide) hB.1 hTK hC hRn hM1 (fun h1 h2 h3 H2 hM2 => ?_) (fun h1 h2 H2 hb => ?_) (fun h1 H2 hb => ?_)
    · refine ⟨_, rfl, ?_⟩
      refine b_istoreX (F := fun z93 => [some (aR 57), some (aI (a : Int)), some (aI (b : Int)), some (aI z3), some (aI z93)]) rfl (by decide) (fun _ => rfl) (fun z93 ez93 => ?_)
      first
      | (have hf := fin_nat hC (by decide) h2
         exact g95 s (finN I 2 (tv n (I 2) p2)).toNat _ _ _ _ _ _ e3 (by omega) hs6 hM2 (fun H' q => kk _ (MSO_e ((if_pos h1).trans ((if_neg h2).trans (if_neg (fun w => h3 ((hex _ hf.2.2).2 w))))) q)))
      | exact f95 _ _ _ _ _ _ _ hb (fun H' hb => kk _ (MSO_l ((if_pos h1).trans (by
          by_cases e : finN I 2 (tv n (I 2) p2) = -1
          · exact if_pos e
          · have hf := fin_nat hC (by decide) e
            exact (if_neg e).trans (if_pos ((hex _ hf.2.2).1 (h2.resolve_left e))))) hF hb))
      | exact f95 _ _ _ _ _ _ _ hb (fun H' hb => kk _ (MSO_l (if_neg h1) hF hb))
    · refine ⟨_, rfl, ?_⟩
      refine b_istoreX (F := fun z93 => [some (aR 57), some (aI (a : Int)), some (aI (b : Int)), some (aI z3), some (aI z93)]) rfl (by decide) (fun _ => rfl) (fun z93 ez93 => ?_)
      first
      | (have hf := fin_nat hC (by decide) h2
         exact g95 s (finN I 2 (tv n (I 2) p2)).toNat _ _ _ _ _ _ e3 (by omega) hs6 hM2 (fun H' q => kk _ (MSO_e ((if_pos h1).trans ((if_neg h2).trans (if_neg (fun w => h3 ((hex _ hf.2.2).2 w))))) q)))
      | exact f95 _ _ _ _ _ _ _ hb (fun H' hb => kk _ (MSO_l ((if_pos h1).trans (by
          by_cases e : finN I 2 (tv n (I 2) p2) = -1
          · exact if_pos e
          · have hf := fin_nat hC (by decide) e
            exact (if_neg e).trans (if_pos ((hex _ hf.2.2).1 (h2.resolve_left e))))) hF hb))
      | exact f95 _ _ _ _ _ _ _ hb (fun H' hb => kk _ (MSO_l (if_neg h1) hF hb))
    · refine ⟨_, rfl, ?_⟩
      refine b_istoreX (F := fun z93 => [some (aR 57), some (aI (a : Int)), some (aI (b : Int)), some (aI z3), some (aI z93)]) rfl (by decide) (fun _ => rfl) (fun z93 ez93 => ?_)
      first
      | (have hf := fin_nat hC (by decide) h2
         exact g95 s (finN I 2 (tv n (I 2) p2)).toNat _ _ _ _ _ _ e3 (by omega) hs6 hM2 (fun H' q => kk _ (MSO_e ((if_pos h1).trans ((if_neg h2).trans (if_neg (fun w => h3 ((hex _ hf.2.2).2 w))))) q)))
      | exact f95 _ _ _ _ _ _ _ hb (fun H' hb => kk _ (MSO_l ((if_pos h1).trans (by
          by_cases e : finN I 2 (tv n (I 2) p2) = -1
          · exact if_pos e
          · have hf := fin_nat hC (by decide) e
            exact (if_neg e).trans (if_pos ((hex _ hf.2.2).1 (h2.resolve_left e))))) hF hb))
      | exact f95 _ _ _ _ _ _ _ hb (fun H' hb => kk _ (MSO_l (if_neg h1) hF hb))
  have g80 : ∀ (a b : Nat) (x3 : Int) (H1 : HI), BA I a (I 13 1).toNat → BB I b (I 13 1).toNat → Mok K n (I 2) (te n (I 2) p) H1 → Bj MX12_lying 3 80 [some (aR 57), some (aI (a : Int)), some (aI (b : Int)), some (aI x3), none] [] H1 Q := by
    intro a b x3 H1 hA hB hM1
    have hea : ∀ t : Nat, (t : Int) < I 13 1 → t < 6 → (a / 2 ^ t % 2 = 1 ↔ I 21 t ≠ -1) := by
      intro t h1 h2
      rw [bt_1, hA.2 t h2]
      exact ⟨fun w => w.2, fun w => ⟨by omega, w⟩⟩
    refine b_aload_n rfl rfl ?_
    refine b_iconst rfl (by decide) ?_
    refine b_iload_n rfl rfl ?_
    refine b_callV2i (ν := MX12_askedBut) rfl ml12_383 cvX12_askedBut (d' := 2) (by omega) rfl (by decide) rfl (Nat.le_of_ble_eq_true rfl) ?_
    refine mk_asked (kk := 1) (bs := a) (by decide) hA.1 hTK hC hRn hM1 (fun h1 h2 h3 H2 hM2 => ?_) (fun h1 h2 H2 hb => ?_) (fun h1 H2 hb => ?_)
    · refine ⟨_, rfl, ?_⟩
      refine b_istoreX_n (F := fun z86 => [some (aR 57), some (aI (a : Int)), some (aI (b : Int)), some (aI z86), none]) rfl (by decide) (fun _ => rfl) (fun z86 ez86 => ?_)
      first
      | (have hf := fin_nat hC (by decide) h2
         exact g87 (finN I 1 (tv n (I 2) (te n (I 2) p))).toNat a b _ _ _ (by omega) hf.2.2 hB hM2 (fun H' q => kq _ (MSO_e ((if_pos h1).trans ((if_neg h2).trans (if_neg (fun w => h3 ((hea _ hf.2.1 hf.2.2).2 w))))) q)))
      | exact f87 _ _ _ _ _ _ hb (fun H' hb => kq _ (MSO_l ((if_pos h1).trans (by
          by_cases e : finN I 1 (tv n (I 2) (te n (I 2) p)) = -1
          · exact if_pos e
          · have hf := fin_nat hC (by decide) e
            exact (if_neg e).trans (if_pos ((hea _ hf.2.1 hf.2.2).1 (h2.resolve_left e))))) hF hb))
      | exact f87 _ _ _ _ _ _ hb (fun H' hb => kq _ (MSO_l (if_neg h1) hF hb))
    · refine ⟨_, rfl, ?_⟩
      refine b_istoreX_n (F := fun z86 => [some (aR 57), some (aI (a : Int)), some (aI (b : Int)), some (aI z86), none]) rfl (by decide) (fun _ => rfl) (fun z86 ez86 => ?_)
      first
      | (have hf := fin_nat hC (by decide) h2
         exact g87 (finN I 1 (tv n (I 2) (te n (I 2) p))).toNat a b _ _ _ (by omega) hf.2.2 hB hM2 (fun H' q => kq _ (MSO_e ((if_pos h1).trans ((if_neg h2).trans (if_neg (fun w => h3 ((hea _ hf.2.1 hf.2.2).2 w))))) q)))
      | exact f87 _ _ _ _ _ _ hb (fun H' hb => kq _ (MSO_l ((if_pos h1).trans (by
          by_cases e : finN I 1 (tv n (I 2) (te n (I 2) p)) = -1
          · exact if_pos e
          · have hf := fin_nat hC (by decide) e
            exact (if_neg e).trans (if_pos ((hea _ hf.2.1 hf.2.2).1 (h2.resolve_left e))))) hF hb))
      | exact f87 _ _ _ _ _ _ hb (fun H' hb => kq _ (MSO_l (if_neg h1) hF hb))
    · refine ⟨_, rfl, ?_⟩
      refine b_istoreX_n (F := fun z86 => [some (aR 57), some (aI (a : Int)), some (aI (b : Int)), some (aI z86), none]) rfl (by decide) (fun _ => rfl) (fun z86 ez86 => ?_)
      first
      | (have hf := fin_nat hC (by decide) h2
         exact g87 (finN I 1 (tv n (I 2) (te n (I 2) p))).toNat a b _ _ _ (by omega) hf.2.2 hB hM2 (fun H' q => kq _ (MSO_e ((if_pos h1).trans ((if_neg h2).trans (if_neg (fun w => h3 ((hea _ hf.2.1 hf.2.2).2 w))))) q)))
      | exact f87 _ _ _ _ _ _ hb (fun H' hb => kq _ (MSO_l ((if_pos h1).trans (by
          by_cases e : finN I 1 (tv n (I 2) (te n (I 2) p)) = -1
          · exact if_pos e
          · have hf := fin_nat hC (by decide) e
            exact (if_neg e).trans (if_pos ((hea _ hf.2.1 hf.2.2).1 (h2.resolve_left e))))) hF hb))
      | exact f87 _ _ _ _ _ _ hb (fun H' hb => kq _ (MSO_l (if_neg h1) hF hb))
  have lp : ∀ (g i a b : Nat) (za zb z3 : Int) (H1 : HI), za = (a : Int) → zb = (b : Int) → z3 = (i : Int) → i + g = (I 13 1).toNat → BA I a i → BB I b i → Mok K n (I 2) (te n (I 2) p) H1 → Bj MX12_lying 3 15 [some (aR 57), some (aI za), some (aI zb), some (aI z3), none] [] H1 Q := by
    intro g
    induction g with
    | zero =>
      intro i a b za zb z3 H1 ea eb e3 hg hA hB hM1
      have h34 : H1 57 34 = (m : Int) := by rw [Mok_g hM1 (by decide)]; exact hR.1.1
      have h62 : H1 62 m = I 13 1 := by rw [Mok_q hM1 (by decide)]; exact hcn
      have ei : i = (I 13 1).toNat := by omega
      rw [ei] at hA hB
      subst ea
      subst eb
      refine b_iload_n rfl rfl ?_
      refine b_aload_n rfl rfl ?_
      refine b_getR (r := 62) rfl fl12_63 rfl (by decide) rfl rfl ?_
      refine b_aload_n rfl rfl ?_
      refine b_getI rfl fl12_115 rfl (by decide) rfl ?_
      rw [h34]
      refine b_iald rfl rfl (by omega) (by omega) ?_
      try simp only [tn6, tn4, tn2, tn144, tn24, tn_cast, Int.reduceToNat]
      try rw [Int.toNat_natCast]
      rw [h62]
      refine b_icmp_ge (tgt := 80) rfl rfl (fun c25 => ?_) (fun c25 => ?_)
      · exact g80 _ _ _ _ hA hB hM1
      · omega
    | succ g ih =>
      intro i a b za zb z3 H1 ea eb e3 hg hA hB hM1
      have h34 : H1 57 34 = (m : Int) := by rw [Mok_g hM1 (by decide)]; exact hR.1.1
      have h62 : H1 62 m = I 13 1 := by rw [Mok_q hM1 (by decide)]; exact hcn
      have h65 : H1 65 (6 * m + i) = I 21 i := by rw [Mok_q hM1 (by decide)]; exact (hR.2.2.1 i (by omega)).2.2.1
      have ez : (6 * (m : Int) + z3).toNat = 6 * m + i := by omega
      have hli := hL.2 i (by omega)
      have oA := or_sh hA.1 (s := i) (by omega)
      have oB : I 21 i ≠ -1 → iOr (b : Int) (iShl 1 (I 21 i)) = ((b ||| 2 ^ (I 21 i).toNat : Nat) : Int) := by
        intro h
        have := (or_sh hB.1 (s := (I 21 i).toNat) (by omega)).1
        rw [show (((I 21 i).toNat : Nat) : Int) = I 21 i by omega] at this
        exact this
      subst ea
      subst eb
      subst e3
      refine b_iload_n rfl rfl ?_
      refine b_aload_n rfl rfl ?_
      refine b_getR (r := 62) rfl fl12_63 rfl (by decide) rfl rfl ?_
      refine b_aload_n rfl rfl ?_
      refine b_getI rfl fl12_115 rfl (by decide) rfl ?_
      rw [h34]
      refine b_iald rfl rfl (by omega) (by omega) ?_
      try simp only [tn6, tn4, tn2, tn144, tn24, tn_cast, Int.reduceToNat]
      try rw [Int.toNat_natCast]
      rw [h62]
      refine b_icmp_ge (tgt := 80) rfl rfl (fun c25 => ?_) (fun c25 => ?_)
      · omega
      · refine b_aload_n rfl rfl ?_
        refine b_getR (r := 65) rfl fl12_72 rfl (by decide) rfl rfl ?_
        refine b_bipush rfl (by decide) ?_
        refine b_aload_n rfl rfl ?_
        refine b_getI rfl fl12_115 rfl (by decide) rfl ?_
        rw [h34]
        refine b_imulN rfl (by omega) (by omega) ?_
        refine b_iload_n rfl rfl ?_
        refine b_iaddN rfl (by omega) (by omega) ?_
        refine b_iald rfl rfl (by omega) (by omega) ?_
        try simp only [tn6, tn4, tn2, tn144, tn24, tn_cast, Int.reduceToNat]
        try rw [ez]
        rw [h65]
        refine b_iconst rfl (by decide) ?_
        refine b_icmp_ne (tgt := 49) rfl rfl (fun c43 => ?_) (fun c43 => ?_)
        · refine b_iload_n rfl rfl ?_
          refine b_iconst rfl (by decide) ?_
          refine b_iload_n rfl rfl ?_
          refine b_ishl rfl ?_
          refine b_ior rfl ?_
          rw [oA.1]
          refine b_istoreX_n (F := fun z54 => [some (aR 57), some (aI z54), some (aI (b : Int)), some (aI (i : Int)), none]) rfl (by decide) (fun _ => rfl) (fun z54 ez54 => ?_)
          refine b_iload_n rfl rfl ?_
          refine b_iconst rfl (by decide) ?_
          refine b_aload_n rfl rfl ?_
          refine b_getR (r := 65) rfl fl12_72 rfl (by decide) rfl rfl ?_
          refine b_bipush rfl (by decide) ?_
          refine b_aload_n rfl rfl ?_
          refine b_getI rfl fl12_115 rfl (by decide) rfl ?_
          rw [h34]
          refine b_imulN rfl (by omega) (by omega) ?_
          refine b_iload_n rfl rfl ?_
          refine b_iaddN rfl (by omega) (by omega) ?_
          refine b_iald rfl rfl (by omega) (by omega) ?_
          try simp only [tn6, tn4, tn2, tn144, tn24, tn_cast, Int.reduceToNat]
          try rw [ez]
          rw [h65]
          refine b_ishl rfl ?_
          refine b_ior rfl ?_
          rw [oB (by omega)]
          refine b_istoreX_n (F := fun z73 => [some (aR 57), some (aI z54), some (aI z73), some (aI (i : Int)), none]) rfl (by decide) (fun _ => rfl) (fun z73 ez73 => ?_)
          refine b_iincX (F := fun z74 => [some (aR 57), some (aI z54), some (aI z73), some (aI z74), none]) rfl rfl (by omega) (by omega) (fun _ => rfl) (fun z74 ez74 => ?_)
          refine b_goto (tgt := 15) rfl rfl ?_
          first
          | (have hl : I 21 i = -1 := by omega
             exact ih (i + 1) a b _ _ _ _ rfl rfl (by omega) (by omega) (BA_n hA hl) (BB_n hB hl) hM1)
          | (have hl : I 21 i ≠ -1 := by omega
             exact ih (i + 1) _ _ _ _ _ _ ez54 ez73 (by omega) (by omega) (BA_s hA (by omega) hl) (BB_s hB (by omega) (by omega)) hM1)
        · refine b_goto (tgt := 74) rfl rfl ?_
          refine b_iincX (F := fun z74 => [some (aR 57), some (aI (a : Int)), some (aI (b : Int)), some (aI z74), none]) rfl rfl (by omega) (by omega) (fun _ => rfl) (fun z74 ez74 => ?_)
          refine b_goto (tgt := 15) rfl rfl ?_
          first
          | (have hl : I 21 i = -1 := by omega
             exact ih (i + 1) a b _ _ _ _ rfl rfl (by omega) (by omega) (BA_n hA hl) (BB_n hB hl) hM1)
          | (have hl : I 21 i ≠ -1 := by omega
             exact ih (i + 1) _ _ _ _ _ _ ez54 ez73 (by omega) (by omega) (BA_s hA (by omega) hl) (BB_s hB (by omega) (by omega)) hM1)
  refine b_aload_n rfl rfl ?_
  refine b_iconst rfl (by decide) ?_
  refine b_callV1i (ν := MX12_counts) rfl ml12_368 cvX12_counts (d' := 2) (by omega) rfl (by decide) rfl (Nat.le_of_ble_eq_true rfl) ?_
  refine mk_counts (Or.inl rfl) hTK hM hk (fun _ H1 hM1 => ?_) (fun w => absurd w (by decide))
  refine ⟨_, rfl, ?_⟩
  refine b_if_ne (tgt := 9) rfl rfl (fun c5 => ?_) (fun c5 => ?_)
  · refine b_iconst rfl (by decide) ?_
    refine b_istoreX_n (F := fun z10 => [some (aR 57), some (aI z10), none, none, none]) rfl (by decide) (fun _ => rfl) (fun z10 ez10 => ?_)
    refine b_iconst rfl (by decide) ?_
    refine b_istoreX_n (F := fun z12 => [some (aR 57), some (aI z10), some (aI z12), none, none]) rfl (by decide) (fun _ => rfl) (fun z12 ez12 => ?_)
    refine b_iconst rfl (by decide) ?_
    refine b_istoreX_n (F := fun z14 => [some (aR 57), some (aI z10), some (aI z12), some (aI z14), none]) rfl (by decide) (fun _ => rfl) (fun z14 ez14 => ?_)
    exact lp _ 0 0 0 _ _ _ _ (by omega) (by omega) (by omega) (Nat.zero_add _) ⟨by decide, fun k _ => by simp⟩ ⟨by decide, fun k _ => by simp⟩ hM1
  · omega
end MLI
