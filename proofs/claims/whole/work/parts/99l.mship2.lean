/-! ===== the reference: a ship ===== -/
def zci (K : HI) (b i : Nat) : HI := fun q j => if q = 66 ∧ b ≤ j ∧ j < b + i then 0 else K q j
theorem zci_0 {K : HI} {b : Nat} : zci K b 0 = K := by
  funext q j
  exact if_neg (by omega)
theorem zci_s {K : HI} {b i : Nat} : up (zci K b i) 66 (b + i) 0 = zci K b (i + 1) := by
  funext q j
  rw [up_ap]
  show (if q = 66 ∧ j = b + i then 0 else (if q = 66 ∧ b ≤ j ∧ j < b + i then 0 else K q j)) = (if q = 66 ∧ b ≤ j ∧ j < b + (i + 1) then 0 else K q j)
  repeat' split
  all_goals first | rfl | omega
theorem zci_M {K : HI} {b i : Nat} {si sa en va wo fk fp lx : Int} : zci (MX K si sa en va wo fk fp lx) b i = MX (zci K b i) si sa en va wo fk fp lx := by
  funext q j
  by_cases e : q = 57
  · subst e
    show (if 57 = 66 ∧ b ≤ j ∧ j < b + i then 0 else MX K si sa en va wo fk fp lx 57 j) = MX (zci K b i) si sa en va wo fk fp lx 57 j
    rw [if_neg (by omega)]
    unfold MX
    rw [row_ap, row_ap, if_pos rfl, if_pos rfl]
    have e2 : zci K b i 57 j = K 57 j := if_neg (by omega)
    rw [e2]
  · rw [MXc e]
    show (if q = 66 ∧ b ≤ j ∧ j < b + i then 0 else MX K si sa en va wo fk fp lx q j) = zci K b i q j
    rw [MXc e]
    rfl
section MSH
variable {Kb K H I : HI} {m n p : Nat} {Q : Option AV → HI → Prop}
theorem Mbad_z {b i : Nat} {k pl : Int} (h : Mbad K k pl H) : Mbad (zci K b i) k pl (zci H b i) := by
  obtain ⟨si, sa, en, va, wo, lx, e, h⟩ := h
  subst e
  exact ⟨si, sa, en, va, wo, lx, zci_M, h⟩
theorem Mok_z {B : Nat → Int} {b i : Nat} (h : Mok K n B p H) : Mok (zci K b i) n B p (zci H b i) := by
  obtain ⟨si, sa, en, va, wo, lx, e, h⟩ := h
  subst e
  exact ⟨si, sa, en, va, wo, lx, zci_M, h⟩
theorem FrB_z {b i : Nat} (h : FrB Kb m K) (hb : 144 * m ≤ b ∧ b + i ≤ 144 * m + 144) : FrB Kb m (zci K b i) := by
  obtain ⟨h1, h2, h3⟩ := h
  refine ⟨fun q a => ?_, fun j a => ?_, fun q j a c => ?_⟩
  · funext j
    rw [show zci K b i q j = K q j from if_neg (by omega), h1 q a]
  · rw [show zci K b i 57 j = K 57 j from if_neg (by omega), h2 j a]
  · rw [show zci K b i q j = K q j from if_neg (fun w => by
      have hw : bkw q = 144 := by rw [w.1]; rfl
      rw [hw] at c
      omega), h3 q j a c]
theorem mr_shipping (hZ : (∀ s : Nat, s < 6 → ¬ (s : Int) < I 13 1 → I 21 s = -1) ∧ ∀ s j : Nat, s < 6 → ¬ (s : Int) < I 13 1 → j < 24 → I 22 (24 * s + j) = 0) (hT : MTx Kb n (I 2)) (hF : FrB Kb m K) (hR : RDr I K m) (hI : DI I p) (hk : tk n (I 2) p = 1) (hM : Mok K n (I 2) p H) (kq : ∀ H', MSO n m Kb I (stTh n I 1 p) H' → Q none H') : Rj MX12_shipping 3 [aR 57] H Q := by
  refine rj_of okX12_shipping (Nat.le_of_ble_eq_true rfl) rfl ?_
  have hm := hR.1.2.1
  have hTK := MTx_B hT hF
  have hC := hI.1
  have hc0 := hC 1 (by decide)
  obtain ⟨c, hc⟩ : ∃ c : Nat, I 13 1 = (c : Int) := ⟨(I 13 1).toNat, by omega⟩
  have hcn : K 62 m = (c : Int) := by rw [← hc]; exact hR.1.2.2.1 1 (by decide)
  have hb6 : ∀ q, q = 76 ∨ q = 63 ∨ q = 64 → c < 6 → bkw q * m ≤ 6 * m + c ∧ 6 * m + c < bkw q * m + bkw q := by
    intro q hq h6
    have : bkw q = 6 := by rcases hq with e | e | e <;> (rw [e]; rfl)
    rw [this]
    omega
  have lp : ∀ (g i : Nat) (z1 z2 : Int) (H1 : HI), c < 6 → z1 = (6 * m + c : Nat) → i + g = 24 → z2 = (i : Int) → (∀ z2, Bj MX12_shipping 3 128 [some (aR 57), some (aI z1), some (aI z2)] [] (zci H1 (144 * m + 24 * c) 24) Q) → Bj MX12_shipping 3 104 [some (aR 57), some (aI z1), some (aI z2)] [] (zci H1 (144 * m + 24 * c) i) Q := by
    intro g
    induction g with
    | zero =>
      intro i z1 z2 H1 h6 hz hg hz2 kk
      have ei : i = 24 := by omega
      subst ei
      refine b_iload_n rfl rfl ?_
      refine b_bipush rfl (by decide) ?_
      refine b_icmp_ge (tgt := 128) rfl rfl (fun c107 => ?_) (fun c107 => ?_)
      · exact kk _
      · omega
    | succ g ih =>
      intro i z1 z2 H1 h6 hz hg hz2 kk
      have ez : (24 * z1 + z2).toNat = 144 * m + 24 * c + i := by omega
      refine b_iload_n rfl rfl ?_
      refine b_bipush rfl (by decide) ?_
      refine b_icmp_ge (tgt := 128) rfl rfl (fun c107 => ?_) (fun c107 => ?_)
      · omega
      · refine b_aload_n rfl rfl ?_
        refine b_getR (r := 66) rfl fl12_75 rfl (by decide) rfl rfl ?_
        refine b_bipush rfl (by decide) ?_
        refine b_iload_n rfl rfl ?_
        refine b_imulN rfl (by omega) (by omega) ?_
        refine b_iload_n rfl rfl ?_
        refine b_iaddN rfl (by omega) (by omega) ?_
        refine b_iconst rfl (by decide) ?_
        refine b_iast rfl rfl (by omega) (by omega) ?_
        try simp only [tn6, tn4, tn2, tn144, tn24, tn_cast, Int.reduceToNat]
        refine b_iincX (F := fun z122 => [some (aR 57), some (aI z1), some (aI z122)]) rfl rfl (by omega) (by omega) (fun _ => rfl) (fun z122 ez122 => ?_)
        refine b_goto (tgt := 104) rfl rfl ?_
        try rw [ez]
        rw [zci_s]
        exact ih (i + 1) _ _ _ h6 hz (by omega) (by omega) kk
  have mid : ∀ (z1 : Int) (H1 : HI), c < 6 → z1 = (6 * m + c : Nat) → (∀ z2, Bj MX12_shipping 3 128 [some (aR 57), some (aI z1), some (aI z2)] [] (zci (up H1 65 (6 * m + c) (-1)) (144 * m + 24 * c) 24) Q) → Bj MX12_shipping 3 95 [some (aR 57), some (aI z1), none] [] H1 Q := by
    intro z1 H1 h6 hz kk
    have ez : z1.toNat = 6 * m + c := by omega
    refine b_aload_n rfl rfl ?_
    refine b_getR (r := 65) rfl fl12_72 rfl (by decide) rfl rfl ?_
    refine b_iload_n rfl rfl ?_
    refine b_iconst rfl (by decide) ?_
    refine b_iast rfl rfl (by omega) (by omega) ?_
    try simp only [tn6, tn4, tn2, tn144, tn24, tn_cast, Int.reduceToNat]
    refine b_iconst rfl (by decide) ?_
    refine b_istoreX_n (F := fun z103 => [some (aR 57), some (aI z1), some (aI z103)]) rfl (by decide) (fun _ => rfl) (fun z103 ez103 => ?_)
    try rw [ez]
    have := lp 24 0 z1 z103 (up H1 65 (6 * m + c) (-1)) h6 hz rfl (by omega) kk
    rw [zci_0] at this
    exact this
  have hbz : c < 6 → ∀ K', FrB Kb m K' → FrB Kb m (zci (up K' 65 (6 * m + c) (-1)) (144 * m + 24 * c) 24) := by
    intro h6 K' hF'
    exact FrB_z (FrB_up hF' (by decide) (by show 6 * m ≤ _ ∧ _ < 6 * m + 6; omega)) (by omega)
  have f95 : ∀ (z1 k pl : Int) (K' H1 : HI), c < 6 → z1 = (6 * m + c : Nat) → FrB Kb m K' → Mbad K' k pl H1 → (∀ K'' H', FrB Kb m K'' → Mbad K'' k pl H' → Q none H') → Bj MX12_shipping 3 95 [some (aR 57), some (aI z1), none] [] H1 Q := by
    intro z1 k pl K' H1 h6 hz hF' hb kk
    have hb2 := Mbad_z (b := 144 * m + 24 * c) (i := 24) (Mbad_u (q := 65) (j := 6 * m + c) (x := -1) (by decide) hb)
    refine mid z1 H1 h6 hz (fun z2 => ?_)
    have hf := Mbad_f hb2
    refine b_aload_n rfl rfl ?_
    refine b_getI rfl fl12_36 rfl (by decide) rfl ?_
    refine b_if_ne (tgt := 148) rfl rfl (fun c132 => ?_) (fun c132 => ?_)
    · refine b_vret rfl rfl ?_
      exact kk _ _ (hbz h6 _ hF') hb2
    · omega
  have f75 : ∀ (z1 k pl : Int) (K' H1 : HI), c < 6 → z1 = (6 * m + c : Nat) → FrB Kb m K' → Mbad K' k pl H1 → (∀ K'' H', FrB Kb m K'' → Mbad K'' k pl H' → Q none H') → Bj MX12_shipping 3 74 [some (aR 57), some (aI z1), none] [] H1 Q := by
    intro z1 k pl K' H1 h6 hz hF' hb kk
    have ez : z1.toNat = 6 * m + c := by omega
    refine b_aload_n rfl rfl ?_
    refine b_ldc2 (z := 500135718259) rfl kl12_266 (by decide) ?_
    refine b_callV1v (ν := MX12_must_) rfl ml12_376 cvX12_must_ (d' := 2) (by omega) rfl (by decide) rfl (Nat.le_of_ble_eq_true rfl) ?_
    refine mk_mustWB hb ?_
    refine ⟨rfl, ?_⟩
    refine b_aload_n rfl rfl ?_
    refine b_getR (r := 64) rfl fl12_69 rfl (by decide) rfl rfl ?_
    refine b_iload_n rfl rfl ?_
    refine b_aload_n rfl rfl ?_
    refine b_iconst rfl (by decide) ?_
    refine b_sipush rfl (by decide) ?_
    refine b_callV2i (ν := MX12_number) rfl ml12_380 cvX12_number (d' := 2) (by omega) rfl (by decide) rfl (Nat.le_of_ble_eq_true rfl) ?_
    refine mk_numberB hb (fun z => ?_)
    refine ⟨_, rfl, ?_⟩
    refine b_iast rfl rfl (by omega) (by omega) ?_
    try simp only [tn6, tn4, tn2, tn144, tn24, tn_cast, Int.reduceToNat]
    try rw [ez]
    exact f95 _ _ _ _ _ h6 hz (FrB_up hF' (by decide) (hb6 64 (by decide) h6)) (Mbad_u (by decide) hb) kk
  have f55 : ∀ (z1 k pl : Int) (K' H1 : HI), c < 6 → z1 = (6 * m + c : Nat) → FrB Kb m K' → Mbad K' k pl H1 → (∀ K'' H', FrB Kb m K'' → Mbad K'' k pl H' → Q none H') → Bj MX12_shipping 3 55 [some (aR 57), some (aI z1), none] [] H1 Q := by
    intro z1 k pl K' H1 h6 hz hF' hb kk
    have ez : z1.toNat = 6 * m + c := by omega
    refine b_aload_n rfl rfl ?_
    refine b_ldc2 (z := 448545973363) rfl kl12_264 (by decide) ?_
    refine b_callV1v (ν := MX12_must_) rfl ml12_376 cvX12_must_ (d' := 2) (by omega) rfl (by decide) rfl (Nat.le_of_ble_eq_true rfl) ?_
    refine mk_mustWB hb ?_
    refine ⟨rfl, ?_⟩
    refine b_aload_n rfl rfl ?_
    refine b_getR (r := 63) rfl fl12_66 rfl (by decide) rfl rfl ?_
    refine b_iload_n rfl rfl ?_
    refine b_aload_n rfl rfl ?_
    refine b_iconst rfl (by decide) ?_
    refine b_iconst rfl (by decide) ?_
    refine b_callV2i (ν := MX12_number) rfl ml12_380 cvX12_number (d' := 2) (by omega) rfl (by decide) rfl (Nat.le_of_ble_eq_true rfl) ?_
    refine mk_numberB hb (fun z => ?_)
    refine ⟨_, rfl, ?_⟩
    refine b_iast rfl rfl (by omega) (by omega) ?_
    try simp only [tn6, tn4, tn2, tn144, tn24, tn_cast, Int.reduceToNat]
    try rw [ez]
    exact f75 _ _ _ _ _ h6 hz (FrB_up hF' (by decide) (hb6 63 (by decide) h6)) (Mbad_u (by decide) hb) kk
  have g95 : ∀ (z1 v w a b : Int) (p6 : Nat) (H1 : HI), c < 6 → z1 = (6 * m + c : Nat) → NR v w → Mok (up (up (up K 76 (6 * m + c) w) 63 (6 * m + c) a) 64 (6 * m + c) b) n (I 2) p6 H1 → (∀ H', MSO n m Kb I (.inr (thI I 1 v a b, p6)) H' → Q none H') → Bj MX12_shipping 3 95 [some (aR 57), some (aI z1), none] [] H1 Q := by
    intro z1 v w a b p6 H1 h6 hz hv hM1 kk
    have hM2 := Mok_z (b := 144 * m + 24 * c) (i := 24) (Mok_u (q := 65) (j := 6 * m + c) (x := -1) (by decide) hM1)
    have hf1 := Mok_f hM2
    have zo : ∀ (X : HI) (q j : Nat), q ≠ 66 → zci X (144 * m + 24 * c) 24 q j = X q j := fun X q j hq => if_neg (fun w => hq w.1)
    have h34 : zci (up H1 65 (6 * m + c) (-1)) (144 * m + 24 * c) 24 57 34 = (m : Int) := by rw [Mok_g hM2 (by decide), zo _ _ _ (by decide), up_ap, if_neg (by omega), up_ap, if_neg (by omega), up_ap, if_neg (by omega), up_ap, if_neg (by omega)]; exact hR.1.1
    have h62 : zci (up H1 65 (6 * m + c) (-1)) (144 * m + 24 * c) 24 62 m = (c : Int) := by rw [Mok_q hM2 (by decide), zo _ _ _ (by decide), up_ap, if_neg (by omega), up_ap, if_neg (by omega), up_ap, if_neg (by omega), up_ap, if_neg (by omega)]; exact hcn
    have hF' := hbz h6 _ (FrB_up (FrB_up (FrB_up hF (by decide) (hb6 76 (by decide) h6)) (by decide) (hb6 63 (by decide) h6) (x := a)) (by decide) (hb6 64 (by decide) h6) (x := b) (K := up (up K 76 (6 * m + c) w) 63 (6 * m + c) a))
    have hF'' := FrB_up (x := (c : Int) + 1) (q := 62) (j := m) hF' (by decide) (by show 1 * m ≤ m ∧ m < 1 * m + 1; omega)
    have hR' : RDr (thI I 1 v a b) (up (zci (up (up (up (up K 76 (6 * m + c) w) 63 (6 * m + c) a) 64 (6 * m + c) b) 65 (6 * m + c) (-1)) (144 * m + 24 * c) 24) 62 m ((c : Int) + 1)) m := by
      refine RDr_t1 hc hC h6 hR ?_ ?_ (fun j a1 => ?_) (fun j a1 => ?_) ?_ (hZ.1 c (by omega) (by omega)) (fun j a1 => hZ.2 c j h6 (by omega) a1) (fun q j a1 a0 a2 a3 => ?_) ?_ (w := w) ?_ hv ?_ ?_
      · rw [up_ap, if_neg (by omega), zo _ _ _ (by decide), up_ap, if_neg (by omega), up_ap, if_neg (by omega), up_ap, if_neg (by omega), up_ap, if_neg (by omega)]
      · rw [up_ap, if_neg (by omega), zo _ _ _ (by decide), up_ap, if_neg (by omega), up_ap, if_neg (by omega), up_ap, if_neg (by omega), up_ap, if_neg (by omega)]
      · rw [up_ap, if_neg (by omega), show zci (up (up (up (up K 76 (6 * m + c) w) 63 (6 * m + c) a) 64 (6 * m + c) b) 65 (6 * m + c) (-1)) (144 * m + 24 * c) 24 66 j = _ from if_neg (by omega), up_ap, if_neg (by omega), up_ap, if_neg (by omega), up_ap, if_neg (by omega), up_ap, if_neg (by omega)]
      · rw [up_ap, if_neg (by omega)]
        exact if_pos (by omega)
      · rw [up_ap, if_neg (by omega), zo _ _ _ (by decide), up_ap, if_pos ⟨rfl, rfl⟩]
      · rw [up_ap, if_neg a3, zo _ _ _ a0, up_ap, if_neg (by omega), up_ap, if_neg (by omega), up_ap, if_neg (by omega), up_ap, if_neg (by omega)]
      · rw [up_ap, if_pos ⟨rfl, rfl⟩]
      · rw [up_ap, if_neg (by omega), zo _ _ _ (by decide), up_ap, if_neg (by omega), up_ap, if_neg (by omega), up_ap, if_neg (by omega), up_ap, if_pos ⟨rfl, rfl⟩]
      · rw [up_ap, if_neg (by omega), zo _ _ _ (by decide), up_ap, if_neg (by omega), up_ap, if_neg (by omega), up_ap, if_pos ⟨rfl, rfl⟩]
      · rw [up_ap, if_neg (by omega), zo _ _ _ (by decide), up_ap, if_neg (by omega), up_ap, if_pos ⟨rfl, rfl⟩]
    refine mid z1 H1 h6 hz (fun z2 => ?_)
    generalize zci (up H1 65 (6 * m + c) (-1)) (144 * m + 24 * c) 24 = H2 at *
    refine b_aload_n rfl rfl ?_
    refine b_getI rfl fl12_36 rfl (by decide) rfl ?_
    rw [hf1.1]
    refine b_if_ne (tgt := 148) rfl rfl (fun c132 => ?_) (fun c132 => ?_)
    · omega
    · refine b_aload_n rfl rfl ?_
      refine b_getR (r := 62) rfl fl12_63 rfl (by decide) rfl rfl ?_
      refine b_aload_n rfl rfl ?_
      refine b_getI rfl fl12_115 rfl (by decide) rfl ?_
      rw [h34]
      refine b_dup2 rfl rfl rfl ?_
      refine b_iald rfl rfl (by omega) (by omega) ?_
      try simp only [tn6, tn4, tn2, tn144, tn24, tn_cast, Int.reduceToNat]
      try rw [Int.toNat_natCast]
      rw [h62]
      refine b_iconst rfl (by decide) ?_
      refine b_iaddN rfl (by omega) (by omega) ?_
      refine b_iast rfl rfl (by omega) (by omega) ?_
      try simp only [tn6, tn4, tn2, tn144, tn24, tn_cast, Int.reduceToNat]
      refine b_vret rfl rfl ?_
      try rw [Int.toNat_natCast]
      exact kk _ (MSO_r rfl hF'' hR' (Mok_u (by decide) hM2))
  have g75 : ∀ (z1 v w a : Int) (p4 : Nat) (H1 : HI), c < 6 → z1 = (6 * m + c : Nat) → NR v w → Mok (up (up K 76 (6 * m + c) w) 63 (6 * m + c) a) n (I 2) p4 H1 → (∀ H', MSO n m Kb I (kTh3 n I 1 v a p4) H' → Q none H') → Bj MX12_shipping 3 74 [some (aR 57), some (aI z1), none] [] H1 Q := by
    intro z1 v w a p4 H1 h6 hz hv hM1 kk
    have ez : z1.toNat = 6 * m + c := by omega
    have hF' : FrB Kb m (up (up K 76 (6 * m + c) w) 63 (6 * m + c) a) := FrB_up (FrB_up hF (by decide) (hb6 76 (by decide) h6)) (by decide) (hb6 63 (by decide) h6)
    have bd : ∀ (k pl : Int) (H2 : HI), Mbad (up (up K 76 (6 * m + c) w) 63 (6 * m + c) a) k pl H2 → kTh3 n I 1 v a p4 = .inl (k, pl) → Bj MX12_shipping 3 81 [some (aR 57), some (aI z1), none] [] H2 Q := by
      intro k pl H2 hb e
      refine b_aload_n rfl rfl ?_
      refine b_getR (r := 64) rfl fl12_69 rfl (by decide) rfl rfl ?_
      refine b_iload_n rfl rfl ?_
      refine b_aload_n rfl rfl ?_
      refine b_iconst rfl (by decide) ?_
      refine b_sipush rfl (by decide) ?_
      refine b_callV2i (ν := MX12_number) rfl ml12_380 cvX12_number (d' := 2) (by omega) rfl (by decide) rfl (Nat.le_of_ble_eq_true rfl) ?_
      refine mk_numberB hb (fun z => ?_)
      refine ⟨_, rfl, ?_⟩
      refine b_iast rfl rfl (by omega) (by omega) ?_
      try simp only [tn6, tn4, tn2, tn144, tn24, tn_cast, Int.reduceToNat]
      try rw [ez]
      exact f95 _ _ _ _ _ h6 hz (FrB_up hF' (by decide) (hb6 64 (by decide) h6)) (Mbad_u (by decide) hb) (fun K'' H' hF'' hb' => kk _ (MSO_l e hF'' hb'))
    have gd : ∀ (p5 : Nat) (H2 : HI), Mok (up (up K 76 (6 * m + c) w) 63 (6 * m + c) a) n (I 2) p5 H2 → kTh3 n I 1 v a p4 = kTh4 n I 1 v a p5 → Bj MX12_shipping 3 81 [some (aR 57), some (aI z1), none] [] H2 Q := by
      intro p5 H2 hM2 e
      refine b_aload_n rfl rfl ?_
      refine b_getR (r := 64) rfl fl12_69 rfl (by decide) rfl rfl ?_
      refine b_iload_n rfl rfl ?_
      refine b_aload_n rfl rfl ?_
      refine b_iconst rfl (by decide) ?_
      refine b_sipush rfl (by decide) ?_
      refine b_callV2i (ν := MX12_number) rfl ml12_380 cvX12_number (d' := 2) (by omega) rfl (by decide) rfl (Nat.le_of_ble_eq_true rfl) ?_
      refine mk_number (MTx_B hT hF') hM2 (fun h1 h2 h3 H3 hM3 => ?_) (fun h1 h2 z H3 hb => ?_) (fun h1 z H3 hb => ?_)
      · refine ⟨_, rfl, ?_⟩
        refine b_iast rfl rfl (by omega) (by omega) ?_
        try simp only [tn6, tn4, tn2, tn144, tn24, tn_cast, Int.reduceToNat]
        first
        | (have q := hM3
           try rw [ez]
           exact g95 _ v w a _ _ _ h6 hz hv (Mok_u (by decide) hM3) (fun H' s => kk _ (MSO_e (e.trans ((if_pos h1).trans (if_pos ⟨h2, h3⟩))) s)))
        | (have q := h2
           try rw [ez]
           exact f95 _ _ _ _ _ h6 hz (FrB_up hF' (by decide) (hb6 64 (by decide) h6)) (Mbad_u (by decide) hb) (fun K'' H' hF'' hb' => kk _ (MSO_l (e.trans ((if_pos h1).trans (if_neg h2))) hF'' hb')))
        | (try rw [ez]
           exact f95 _ _ _ _ _ h6 hz (FrB_up hF' (by decide) (hb6 64 (by decide) h6)) (Mbad_u (by decide) hb) (fun K'' H' hF'' hb' => kk _ (MSO_l (e.trans (if_neg h1)) hF'' hb')))
      · refine ⟨_, rfl, ?_⟩
        refine b_iast rfl rfl (by omega) (by omega) ?_
        try simp only [tn6, tn4, tn2, tn144, tn24, tn_cast, Int.reduceToNat]
        first
        | (have q := hM3
           try rw [ez]
           exact g95 _ v w a _ _ _ h6 hz hv (Mok_u (by decide) hM3) (fun H' s => kk _ (MSO_e (e.trans ((if_pos h1).trans (if_pos ⟨h2, h3⟩))) s)))
        | (have q := h2
           try rw [ez]
           exact f95 _ _ _ _ _ h6 hz (FrB_up hF' (by decide) (hb6 64 (by decide) h6)) (Mbad_u (by decide) hb) (fun K'' H' hF'' hb' => kk _ (MSO_l (e.trans ((if_pos h1).trans (if_neg h2))) hF'' hb')))
        | (try rw [ez]
           exact f95 _ _ _ _ _ h6 hz (FrB_up hF' (by decide) (hb6 64 (by decide) h6)) (Mbad_u (by decide) hb) (fun K'' H' hF'' hb' => kk _ (MSO_l (e.trans (if_neg h1)) hF'' hb')))
      · refine ⟨_, rfl, ?_⟩
        refine b_iast rfl rfl (by omega) (by omega) ?_
        try simp only [tn6, tn4, tn2, tn144, tn24, tn_cast, Int.reduceToNat]
        first
        | (have q := hM3
           try rw [ez]
           exact g95 _ v w a _ _ _ h6 hz hv (Mok_u (by decide) hM3) (fun H' s => kk _ (MSO_e (e.trans ((if_pos h1).trans (if_pos ⟨h2, h3⟩))) s)))
        | (have q := h2
           try rw [ez]
           exact f95 _ _ _ _ _ h6 hz (FrB_up hF' (by decide) (hb6 64 (by decide) h6)) (Mbad_u (by decide) hb) (fun K'' H' hF'' hb' => kk _ (MSO_l (e.trans ((if_pos h1).trans (if_neg h2))) hF'' hb')))
        | (try rw [ez]
           exact f95 _ _ _ _ _ h6 hz (FrB_up hF' (by decide) (hb6 64 (by decide) h6)) (Mbad_u (by decide) hb) (fun K'' H' hF'' hb' => kk _ (MSO_l (e.trans (if_neg h1)) hF'' hb')))
    refine b_aload_n rfl rfl ?_
    refine b_ldc2 (z := 500135718259) rfl kl12_266 (by decide) ?_
    refine b_callV1v (ν := MX12_must_) rfl ml12_376 cvX12_must_ (d' := 2) (by omega) rfl (by decide) rfl (Nat.le_of_ble_eq_true rfl) ?_
    exact mk_mustW (k := 5) (by decide) (by decide) (MTx_B hT hF') hM1 (fun hw H2 hM2 => ⟨rfl, gd _ _ hM2 (if_pos hw)⟩) (fun hw H2 hb => ⟨rfl, bd _ _ _ hb (if_neg hw)⟩)
  have g55 : ∀ (z1 v w : Int) (p2 : Nat) (H1 : HI), c < 6 → z1 = (6 * m + c : Nat) → NR v w → Mok (up K 76 (6 * m + c) w) n (I 2) p2 H1 → (∀ H', MSO n m Kb I (kTh1 n I 1 v p2) H' → Q none H') → Bj MX12_shipping 3 55 [some (aR 57), some (aI z1), none] [] H1 Q := by
    intro z1 v w p2 H1 h6 hz hv hM1 kk
    have ez : z1.toNat = 6 * m + c := by omega
    have hF' : FrB Kb m (up K 76 (6 * m + c) w) := FrB_up hF (by decide) (hb6 76 (by decide) h6)
    have bd : ∀ (k pl : Int) (H2 : HI), Mbad (up K 76 (6 * m + c) w) k pl H2 → kTh1 n I 1 v p2 = .inl (k, pl) → Bj MX12_shipping 3 62 [some (aR 57), some (aI z1), none] [] H2 Q := by
      intro k pl H2 hb e
      refine b_aload_n rfl rfl ?_
      refine b_getR (r := 63) rfl fl12_66 rfl (by decide) rfl rfl ?_
      refine b_iload_n rfl rfl ?_
      refine b_aload_n rfl rfl ?_
      refine b_iconst rfl (by decide) ?_
      refine b_iconst rfl (by decide) ?_
      refine b_callV2i (ν := MX12_number) rfl ml12_380 cvX12_number (d' := 2) (by omega) rfl (by decide) rfl (Nat.le_of_ble_eq_true rfl) ?_
      refine mk_numberB hb (fun z => ?_)
      refine ⟨_, rfl, ?_⟩
      refine b_iast rfl rfl (by omega) (by omega) ?_
      try simp only [tn6, tn4, tn2, tn144, tn24, tn_cast, Int.reduceToNat]
      try rw [ez]
      exact f75 _ _ _ _ _ h6 hz (FrB_up hF' (by decide) (hb6 63 (by decide) h6)) (Mbad_u (by decide) hb) (fun K'' H' hF'' hb' => kk _ (MSO_l e hF'' hb'))
    have gd : ∀ (p3 : Nat) (H2 : HI), Mok (up K 76 (6 * m + c) w) n (I 2) p3 H2 → kTh1 n I 1 v p2 = kTh2 n I 1 v p3 → Bj MX12_shipping 3 62 [some (aR 57), some (aI z1), none] [] H2 Q := by
      intro p3 H2 hM2 e
      refine b_aload_n rfl rfl ?_
      refine b_getR (r := 63) rfl fl12_66 rfl (by decide) rfl rfl ?_
      refine b_iload_n rfl rfl ?_
      refine b_aload_n rfl rfl ?_
      refine b_iconst rfl (by decide) ?_
      refine b_iconst rfl (by decide) ?_
      refine b_callV2i (ν := MX12_number) rfl ml12_380 cvX12_number (d' := 2) (by omega) rfl (by decide) rfl (Nat.le_of_ble_eq_true rfl) ?_
      refine mk_number (MTx_B hT hF') hM2 (fun h1 h2 h3 H3 hM3 => ?_) (fun h1 h2 z H3 hb => ?_) (fun h1 z H3 hb => ?_)
      · refine ⟨_, rfl, ?_⟩
        refine b_iast rfl rfl (by omega) (by omega) ?_
        try simp only [tn6, tn4, tn2, tn144, tn24, tn_cast, Int.reduceToNat]
        first
        | (have q := hM3
           try rw [ez]
           exact g75 _ v w _ _ _ h6 hz hv (Mok_u (by decide) hM3) (fun H' s => kk _ (MSO_e (e.trans ((if_pos h1).trans (if_pos ⟨h2, h3⟩))) s)))
        | (have q := h2
           try rw [ez]
           exact f75 _ _ _ _ _ h6 hz (FrB_up hF' (by decide) (hb6 63 (by decide) h6)) (Mbad_u (by decide) hb) (fun K'' H' hF'' hb' => kk _ (MSO_l (e.trans ((if_pos h1).trans (if_neg h2))) hF'' hb')))
        | (try rw [ez]
           exact f75 _ _ _ _ _ h6 hz (FrB_up hF' (by decide) (hb6 63 (by decide) h6)) (Mbad_u (by decide) hb) (fun K'' H' hF'' hb' => kk _ (MSO_l (e.trans (if_neg h1)) hF'' hb')))
      · refine ⟨_, rfl, ?_⟩
        refine b_iast rfl rfl (by omega) (by omega) ?_
        try simp only [tn6, tn4, tn2, tn144, tn24, tn_cast, Int.reduceToNat]
        first
        | (have q := hM3
           try rw [ez]
           exact g75 _ v w _ _ _ h6 hz hv (Mok_u (by decide) hM3) (fun H' s => kk _ (MSO_e (e.trans ((if_pos h1).trans (if_pos ⟨h2, h3⟩))) s)))
        | (have q := h2
           try rw [ez]
           exact f75 _ _ _ _ _ h6 hz (FrB_up hF' (by decide) (hb6 63 (by decide) h6)) (Mbad_u (by decide) hb) (fun K'' H' hF'' hb' => kk _ (MSO_l (e.trans ((if_pos h1).trans (if_neg h2))) hF'' hb')))
        | (try rw [ez]
           exact f75 _ _ _ _ _ h6 hz (FrB_up hF' (by decide) (hb6 63 (by decide) h6)) (Mbad_u (by decide) hb) (fun K'' H' hF'' hb' => kk _ (MSO_l (e.trans (if_neg h1)) hF'' hb')))
      · refine ⟨_, rfl, ?_⟩
        refine b_iast rfl rfl (by omega) (by omega) ?_
        try simp only [tn6, tn4, tn2, tn144, tn24, tn_cast, Int.reduceToNat]
        first
        | (have q := hM3
           try rw [ez]
           exact g75 _ v w _ _ _ h6 hz hv (Mok_u (by decide) hM3) (fun H' s => kk _ (MSO_e (e.trans ((if_pos h1).trans (if_pos ⟨h2, h3⟩))) s)))
        | (have q := h2
           try rw [ez]
           exact f75 _ _ _ _ _ h6 hz (FrB_up hF' (by decide) (hb6 63 (by decide) h6)) (Mbad_u (by decide) hb) (fun K'' H' hF'' hb' => kk _ (MSO_l (e.trans ((if_pos h1).trans (if_neg h2))) hF'' hb')))
        | (try rw [ez]
           exact f75 _ _ _ _ _ h6 hz (FrB_up hF' (by decide) (hb6 63 (by decide) h6)) (Mbad_u (by decide) hb) (fun K'' H' hF'' hb' => kk _ (MSO_l (e.trans (if_neg h1)) hF'' hb')))
    refine b_aload_n rfl rfl ?_
    refine b_ldc2 (z := 448545973363) rfl kl12_264 (by decide) ?_
    refine b_callV1v (ν := MX12_must_) rfl ml12_376 cvX12_must_ (d' := 2) (by omega) rfl (by decide) rfl (Nat.le_of_ble_eq_true rfl) ?_
    exact mk_mustW (k := 4) (by decide) (by decide) (MTx_B hT hF') hM1 (fun hw H2 hM2 => ⟨rfl, gd _ _ hM2 (if_pos hw)⟩) (fun hw H2 hb => ⟨rfl, bd _ _ _ hb (if_neg hw)⟩)
  have g27 : ∀ (H1 : HI), c < 6 → Mok K n (I 2) (te n (I 2) p) H1 → Bj MX12_shipping 3 27 [some (aR 57), none, none] [] H1 Q := by
    intro H1 h6 hM1
    have n6 : ¬ 6 ≤ I 13 1 := by omega
    have h34 : H1 57 34 = (m : Int) := by rw [Mok_g hM1 (by decide)]; exact hR.1.1
    have h62 : H1 62 m = (c : Int) := by rw [Mok_q hM1 (by decide)]; exact hcn
    refine b_bipush rfl (by decide) ?_
    refine b_aload_n rfl rfl ?_
    refine b_getI rfl fl12_115 rfl (by decide) rfl ?_
    rw [h34]
    refine b_imulN rfl (by omega) (by omega) ?_
    refine b_aload_n rfl rfl ?_
    refine b_getR (r := 62) rfl fl12_63 rfl (by decide) rfl rfl ?_
    refine b_aload_n rfl rfl ?_
    refine b_getI rfl fl12_115 rfl (by decide) rfl ?_
    rw [h34]
    refine b_iald rfl rfl (by omega) (by omega) ?_
    try simp only [tn6, tn4, tn2, tn144, tn24, tn_cast, Int.reduceToNat]
    try rw [Int.toNat_natCast]
    rw [h62]
    refine b_iaddN rfl (by omega) (by omega) ?_
    refine b_istoreX_n (F := fun z44 => [some (aR 57), some (aI z44), none]) rfl (by decide) (fun _ => rfl) (fun z44 ez44 => ?_)
    have ez : z44.toNat = 6 * m + c := by omega
    refine b_aload_n rfl rfl ?_
    refine b_getR (r := 76) rfl fl12_106 rfl (by decide) rfl rfl ?_
    refine b_iload_n rfl rfl ?_
    refine b_aload_n rfl rfl ?_
    refine b_callV0j (ν := MX12_fresh) rfl ml12_372 cvX12_fresh (d' := 2) (by omega) rfl (by decide) rfl (Nat.le_of_ble_eq_true rfl) ?_
    refine mk_fresh hTK hC hR.1 hM1 (fun h1 h2 h3 H2 hM2 => ?_) (fun h1 h2 h3 z H2 hb => ?_) (fun h1 z H2 hb => ?_)
    · refine ⟨_, rfl, ?_⟩
      refine b_last rfl rfl (by omega) (by omega) ?_
      try simp only [tn6, tn4, tn2, tn144, tn24, tn_cast, Int.reduceToNat]
      first
      | (have q := hM2
         try rw [ez]
         exact g55 _ (tv n (I 2) (te n (I 2) p)) _ _ _ h6 (by omega) (t_NR h1) (Mok_u (by decide) hM2) (fun H' s => kq _ (MSO_e ((if_neg n6).trans ((if_pos ⟨h1, h2⟩).trans (if_neg h3))) s)))
      | (have q := h3
         try rw [ez]
         exact f55 _ _ _ _ _ h6 (by omega) (FrB_up hF (by decide) (hb6 76 (by decide) h6)) (Mbad_u (by decide) hb) (fun K'' H' hF'' hb' => kq _ (MSO_l ((if_neg n6).trans ((if_pos ⟨h1, h2⟩).trans (if_pos h3))) hF'' hb')))
      | (try rw [ez]
         exact f55 _ _ _ _ _ h6 (by omega) (FrB_up hF (by decide) (hb6 76 (by decide) h6)) (Mbad_u (by decide) hb) (fun K'' H' hF'' hb' => kq _ (MSO_l ((if_neg n6).trans (if_neg h1)) hF'' hb')))
    · refine ⟨_, rfl, ?_⟩
      refine b_last rfl rfl (by omega) (by omega) ?_
      try simp only [tn6, tn4, tn2, tn144, tn24, tn_cast, Int.reduceToNat]
      first
      | (have q := hM2
         try rw [ez]
         exact g55 _ (tv n (I 2) (te n (I 2) p)) _ _ _ h6 (by omega) (t_NR h1) (Mok_u (by decide) hM2) (fun H' s => kq _ (MSO_e ((if_neg n6).trans ((if_pos ⟨h1, h2⟩).trans (if_neg h3))) s)))
      | (have q := h3
         try rw [ez]
         exact f55 _ _ _ _ _ h6 (by omega) (FrB_up hF (by decide) (hb6 76 (by decide) h6)) (Mbad_u (by decide) hb) (fun K'' H' hF'' hb' => kq _ (MSO_l ((if_neg n6).trans ((if_pos ⟨h1, h2⟩).trans (if_pos h3))) hF'' hb')))
      | (try rw [ez]
         exact f55 _ _ _ _ _ h6 (by omega) (FrB_up hF (by decide) (hb6 76 (by decide) h6)) (Mbad_u (by decide) hb) (fun K'' H' hF'' hb' => kq _ (MSO_l ((if_neg n6).trans (if_neg h1)) hF'' hb')))
    · refine ⟨_, rfl, ?_⟩
      refine b_last rfl rfl (by omega) (by omega) ?_
      try simp only [tn6, tn4, tn2, tn144, tn24, tn_cast, Int.reduceToNat]
      first
      | (have q := hM2
         try rw [ez]
         exact g55 _ (tv n (I 2) (te n (I 2) p)) _ _ _ h6 (by omega) (t_NR h1) (Mok_u (by decide) hM2) (fun H' s => kq _ (MSO_e ((if_neg n6).trans ((if_pos ⟨h1, h2⟩).trans (if_neg h3))) s)))
      | (have q := h3
         try rw [ez]
         exact f55 _ _ _ _ _ h6 (by omega) (FrB_up hF (by decide) (hb6 76 (by decide) h6)) (Mbad_u (by decide) hb) (fun K'' H' hF'' hb' => kq _ (MSO_l ((if_neg n6).trans ((if_pos ⟨h1, h2⟩).trans (if_pos h3))) hF'' hb')))
      | (try rw [ez]
         exact f55 _ _ _ _ _ h6 (by omega) (FrB_up hF (by decide) (hb6 76 (by decide) h6)) (Mbad_u (by decide) hb) (fun K'' H' hF'' hb' => kq _ (MSO_l ((if_neg n6).trans (if_neg h1)) hF'' hb')))
  have h34 : H 57 34 = (m : Int) := by rw [Mok_g hM (by decide)]; exact hR.1.1
  have h62 : H 62 m = (c : Int) := by rw [Mok_q hM (by decide)]; exact hcn
  refine b_aload_n rfl rfl ?_
  refine b_aload_n rfl rfl ?_
  refine b_getR (r := 62) rfl fl12_63 rfl (by decide) rfl rfl ?_
  refine b_aload_n rfl rfl ?_
  refine b_getI rfl fl12_115 rfl (by decide) rfl ?_
  rw [h34]
  refine b_iald rfl rfl (by omega) (by omega) ?_
  try simp only [tn6, tn4, tn2, tn144, tn24, tn_cast, Int.reduceToNat]
  try rw [Int.toNat_natCast]
  rw [h62]
  refine b_bipush rfl (by decide) ?_
  refine b_icmp_ne (tgt := 19) rfl rfl (fun c12 => ?_) (fun c12 => ?_)
  · refine b_iconst rfl (by decide) ?_
    refine b_callV1i (ν := MX12_counts) rfl ml12_368 cvX12_counts (d' := 2) (by omega) rfl (by decide) rfl (Nat.le_of_ble_eq_true rfl) ?_
    refine mk_counts (by omega) hTK hM hk (fun hz H1 hM1 => ?_) (fun hz H1 hb => ?_)
    · refine ⟨_, rfl, ?_⟩
      refine b_if_ne (tgt := 27) rfl rfl (fun _ => ?_) (fun z => absurd z (by decide))
      first
      | (exfalso; omega)
      | exact g27 _ (by omega) hM1
    · refine ⟨_, rfl, ?_⟩
      refine b_if_ne (tgt := 27) rfl rfl (fun z => absurd z (by decide)) (fun _ => ?_)
      refine b_vret rfl rfl ?_
      first
      | (exfalso; omega)
      | exact kq _ (MSO_l (if_pos (by omega)) hF hb)
  · refine b_iconst rfl (by decide) ?_
    refine b_goto (tgt := 20) rfl rfl ?_
    refine b_callV1i (ν := MX12_counts) rfl ml12_368 cvX12_counts (d' := 2) (by omega) rfl (by decide) rfl (Nat.le_of_ble_eq_true rfl) ?_
    refine mk_counts (by omega) hTK hM hk (fun hz H1 hM1 => ?_) (fun hz H1 hb => ?_)
    · refine ⟨_, rfl, ?_⟩
      refine b_if_ne (tgt := 27) rfl rfl (fun _ => ?_) (fun z => absurd z (by decide))
      first
      | (exfalso; omega)
      | exact g27 _ (by omega) hM1
    · refine ⟨_, rfl, ?_⟩
      refine b_if_ne (tgt := 27) rfl rfl (fun z => absurd z (by decide)) (fun _ => ?_)
      refine b_vret rfl rfl ?_
      first
      | (exfalso; omega)
      | exact kq _ (MSO_l (if_pos (by omega)) hF hb)
end MSH
