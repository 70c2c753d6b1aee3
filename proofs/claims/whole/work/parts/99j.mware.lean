/-! ===== the reference: a ware ===== -/
section MWA
variable {Kb K H I : HI} {m n p : Nat} {Q : Option AV → HI → Prop}
theorem mr_waring (hT : MTx Kb n (I 2)) (hF : FrB Kb m K) (hR : RDr I K m) (hI : DI I p) (hk : tk n (I 2) p = 1) (hM : Mok K n (I 2) p H) (kq : ∀ H', MSO n m Kb I (stTh n I 0 p) H' → Q none H') : Rj MX12_waring 3 [aR 57] H Q := by
  refine rj_of okX12_waring (Nat.le_of_ble_eq_true rfl) rfl ?_
  have hm := hR.1.2.1
  have hTK := MTx_B hT hF
  have hC := hI.1
  have hc0 := hC 0 (by decide)
  obtain ⟨c, hc⟩ : ∃ c : Nat, I 13 0 = (c : Int) := ⟨(I 13 0).toNat, by omega⟩
  have hcn : K 59 m = (c : Int) := by rw [← hc]; exact hR.1.2.2.1 0 (by decide)
  have hb6 : ∀ q, q = 75 ∨ q = 60 ∨ q = 61 → c < 6 → bkw q * m ≤ 6 * m + c ∧ 6 * m + c < bkw q * m + bkw q := by
    intro q hq h6
    have : bkw q = 6 := by rcases hq with e | e | e <;> (rw [e]; rfl)
    rw [this]
    omega
  have f95 : ∀ (z1 k pl : Int) (K' H1 : HI), FrB Kb m K' → Mbad K' k pl H1 → (∀ K'' H', FrB Kb m K'' → Mbad K'' k pl H' → Q none H') → Bj MX12_waring 3 95 [some (aR 57), some (aI z1)] [] H1 Q := by
    intro z1 k pl K' H1 hF' hb kk
    have hf := Mbad_f hb
    refine b_aload_n rfl rfl ?_
    refine b_getI rfl fl12_36 rfl (by decide) rfl ?_
    refine b_if_ne (tgt := 115) rfl rfl (fun c99 => ?_) (fun c99 => ?_)
    · refine b_vret rfl rfl ?_
      exact kk _ _ hF' hb
    · omega
  have f75 : ∀ (z1 k pl : Int) (K' H1 : HI), c < 6 → z1 = (6 * m + c : Nat) → FrB Kb m K' → Mbad K' k pl H1 → (∀ K'' H', FrB Kb m K'' → Mbad K'' k pl H' → Q none H') → Bj MX12_waring 3 75 [some (aR 57), some (aI z1)] [] H1 Q := by
    intro z1 k pl K' H1 h6 hz hF' hb kk
    have ez : z1.toNat = 6 * m + c := by omega
    refine b_aload_n rfl rfl ?_
    refine b_ldc2 (z := 465624790131) rfl kl12_260 (by decide) ?_
    refine b_callV1v (ν := MX12_must_) rfl ml12_376 cvX12_must_ (d' := 2) (by omega) rfl (by decide) rfl (Nat.le_of_ble_eq_true rfl) ?_
    refine mk_mustWB hb ?_
    refine ⟨rfl, ?_⟩
    refine b_aload_n rfl rfl ?_
    refine b_getR (r := 61) rfl fl12_60 rfl (by decide) rfl rfl ?_
    refine b_iload_n rfl rfl ?_
    refine b_aload_n rfl rfl ?_
    refine b_iconst rfl (by decide) ?_
    refine b_bipush rfl (by decide) ?_
    refine b_callV2i (ν := MX12_number) rfl ml12_380 cvX12_number (d' := 2) (by omega) rfl (by decide) rfl (Nat.le_of_ble_eq_true rfl) ?_
    refine mk_numberB hb (fun z => ?_)
    refine ⟨_, rfl, ?_⟩
    refine b_iast rfl rfl (by omega) (by omega) ?_
    try simp only [tn6, tn4, tn2, tn144, tn24, tn_cast, Int.reduceToNat]
    try rw [ez]
    exact f95 _ _ _ _ _ (FrB_up hF' (by decide) (hb6 61 (by decide) h6)) (Mbad_u (by decide) hb) kk
  have f55 : ∀ (z1 k pl : Int) (K' H1 : HI), c < 6 → z1 = (6 * m + c : Nat) → FrB Kb m K' → Mbad K' k pl H1 → (∀ K'' H', FrB Kb m K'' → Mbad K'' k pl H' → Q none H') → Bj MX12_waring 3 55 [some (aR 57), some (aI z1)] [] H1 Q := by
    intro z1 k pl K' H1 h6 hz hF' hb kk
    have ez : z1.toNat = 6 * m + c := by omega
    refine b_aload_n rfl rfl ?_
    refine b_ldc2 (z := 131277443786867) rfl kl12_258 (by decide) ?_
    refine b_callV1v (ν := MX12_must_) rfl ml12_376 cvX12_must_ (d' := 2) (by omega) rfl (by decide) rfl (Nat.le_of_ble_eq_true rfl) ?_
    refine mk_mustWB hb ?_
    refine ⟨rfl, ?_⟩
    refine b_aload_n rfl rfl ?_
    refine b_getR (r := 60) rfl fl12_57 rfl (by decide) rfl rfl ?_
    refine b_iload_n rfl rfl ?_
    refine b_aload_n rfl rfl ?_
    refine b_iconst rfl (by decide) ?_
    refine b_bipush rfl (by decide) ?_
    refine b_callV2i (ν := MX12_number) rfl ml12_380 cvX12_number (d' := 2) (by omega) rfl (by decide) rfl (Nat.le_of_ble_eq_true rfl) ?_
    refine mk_numberB hb (fun z => ?_)
    refine ⟨_, rfl, ?_⟩
    refine b_iast rfl rfl (by omega) (by omega) ?_
    try simp only [tn6, tn4, tn2, tn144, tn24, tn_cast, Int.reduceToNat]
    try rw [ez]
    exact f75 _ _ _ _ _ h6 hz (FrB_up hF' (by decide) (hb6 60 (by decide) h6)) (Mbad_u (by decide) hb) kk
  have g95 : ∀ (z1 v w a b : Int) (p6 : Nat) (H1 : HI), c < 6 → z1 = (6 * m + c : Nat) → NR v w → Mok (up (up (up K 75 (6 * m + c) w) 60 (6 * m + c) a) 61 (6 * m + c) b) n (I 2) p6 H1 → (∀ H', MSO n m Kb I (.inr (thI I 0 v a b, p6)) H' → Q none H') → Bj MX12_waring 3 95 [some (aR 57), some (aI z1)] [] H1 Q := by
    intro z1 v w a b p6 H1 h6 hz hv hM1 kk
    have hf1 := Mok_f hM1
    have h34 : H1 57 34 = (m : Int) := by rw [Mok_g hM1 (by decide), up_ap, if_neg (by omega), up_ap, if_neg (by omega), up_ap, if_neg (by omega)]; exact hR.1.1
    have h59 : H1 59 m = (c : Int) := by rw [Mok_q hM1 (by decide), up_ap, if_neg (by omega), up_ap, if_neg (by omega), up_ap, if_neg (by omega)]; exact hcn
    have hF' : FrB Kb m (up (up (up (up K 75 (6 * m + c) w) 60 (6 * m + c) a) 61 (6 * m + c) b) 59 m ((c : Int) + 1)) := FrB_up (FrB_up (FrB_up (FrB_up hF (by decide) (hb6 75 (by decide) h6)) (by decide) (hb6 60 (by decide) h6)) (by decide) (hb6 61 (by decide) h6)) (by decide) (by show 1 * m ≤ m ∧ m < 1 * m + 1; omega)
    have hR' : RDr (thI I 0 v a b) (up (up (up (up K 75 (6 * m + c) w) 60 (6 * m + c) a) 61 (6 * m + c) b) 59 m ((c : Int) + 1)) m := by
      refine RDr_t0 hc hC h6 hR ?_ ?_ (fun q j a1 a2 a3 => ?_) ?_ (w := w) ?_ hv ?_ ?_
      · rw [up_ap, if_neg (by omega), up_ap, if_neg (by omega), up_ap, if_neg (by omega), up_ap, if_neg (by omega)]
      · rw [up_ap, if_neg (by omega), up_ap, if_neg (by omega), up_ap, if_neg (by omega), up_ap, if_neg (by omega)]
      · rw [up_ap, if_neg a3, up_ap, if_neg (by omega), up_ap, if_neg (by omega), up_ap, if_neg (by omega)]
      · rw [up_ap, if_pos ⟨rfl, rfl⟩]
      · rw [up_ap, if_neg (by omega), up_ap, if_neg (by omega), up_ap, if_neg (by omega), up_ap, if_pos ⟨rfl, rfl⟩]
      · rw [up_ap, if_neg (by omega), up_ap, if_neg (by omega), up_ap, if_pos ⟨rfl, rfl⟩]
      · rw [up_ap, if_neg (by omega), up_ap, if_pos ⟨rfl, rfl⟩]
    refine b_aload_n rfl rfl ?_
    refine b_getI rfl fl12_36 rfl (by decide) rfl ?_
    rw [hf1.1]
    refine b_if_ne (tgt := 115) rfl rfl (fun c99 => ?_) (fun c99 => ?_)
    · omega
    · refine b_aload_n rfl rfl ?_
      refine b_getR (r := 59) rfl fl12_54 rfl (by decide) rfl rfl ?_
      refine b_aload_n rfl rfl ?_
      refine b_getI rfl fl12_115 rfl (by decide) rfl ?_
      rw [h34]
      refine b_dup2 rfl rfl rfl ?_
      refine b_iald rfl rfl (by omega) (by omega) ?_
      try simp only [tn6, tn4, tn2, tn144, tn24, tn_cast, Int.reduceToNat]
      try rw [Int.toNat_natCast]
      rw [h59]
      refine b_iconst rfl (by decide) ?_
      refine b_iaddN rfl (by omega) (by omega) ?_
      refine b_iast rfl rfl (by omega) (by omega) ?_
      try simp only [tn6, tn4, tn2, tn144, tn24, tn_cast, Int.reduceToNat]
      refine b_vret rfl rfl ?_
      try rw [Int.toNat_natCast]
      exact kk _ (MSO_r rfl hF' hR' (Mok_u (by decide) hM1))
  have g75 : ∀ (z1 v w a : Int) (p4 : Nat) (H1 : HI), c < 6 → z1 = (6 * m + c : Nat) → NR v w → Mok (up (up K 75 (6 * m + c) w) 60 (6 * m + c) a) n (I 2) p4 H1 → (∀ H', MSO n m Kb I (kTh3 n I 0 v a p4) H' → Q none H') → Bj MX12_waring 3 75 [some (aR 57), some (aI z1)] [] H1 Q := by
    intro z1 v w a p4 H1 h6 hz hv hM1 kk
    have ez : z1.toNat = 6 * m + c := by omega
    have hF' : FrB Kb m (up (up K 75 (6 * m + c) w) 60 (6 * m + c) a) := FrB_up (FrB_up hF (by decide) (hb6 75 (by decide) h6)) (by decide) (hb6 60 (by decide) h6)
    have bd : ∀ (k pl : Int) (H2 : HI), Mbad (up (up K 75 (6 * m + c) w) 60 (6 * m + c) a) k pl H2 → kTh3 n I 0 v a p4 = .inl (k, pl) → Bj MX12_waring 3 82 [some (aR 57), some (aI z1)] [] H2 Q := by
      intro k pl H2 hb e
      refine b_aload_n rfl rfl ?_
      refine b_getR (r := 61) rfl fl12_60 rfl (by decide) rfl rfl ?_
      refine b_iload_n rfl rfl ?_
      refine b_aload_n rfl rfl ?_
      refine b_iconst rfl (by decide) ?_
      refine b_bipush rfl (by decide) ?_
      refine b_callV2i (ν := MX12_number) rfl ml12_380 cvX12_number (d' := 2) (by omega) rfl (by decide) rfl (Nat.le_of_ble_eq_true rfl) ?_
      refine mk_numberB hb (fun z => ?_)
      refine ⟨_, rfl, ?_⟩
      refine b_iast rfl rfl (by omega) (by omega) ?_
      try simp only [tn6, tn4, tn2, tn144, tn24, tn_cast, Int.reduceToNat]
      try rw [ez]
      exact f95 _ _ _ _ _ (FrB_up hF' (by decide) (hb6 61 (by decide) h6)) (Mbad_u (by decide) hb) (fun K'' H' hF'' hb' => kk _ (MSO_l e hF'' hb'))
    have gd : ∀ (p5 : Nat) (H2 : HI), Mok (up (up K 75 (6 * m + c) w) 60 (6 * m + c) a) n (I 2) p5 H2 → kTh3 n I 0 v a p4 = kTh4 n I 0 v a p5 → Bj MX12_waring 3 82 [some (aR 57), some (aI z1)] [] H2 Q := by
      intro p5 H2 hM2 e
      refine b_aload_n rfl rfl ?_
      refine b_getR (r := 61) rfl fl12_60 rfl (by decide) rfl rfl ?_
      refine b_iload_n rfl rfl ?_
      refine b_aload_n rfl rfl ?_
      refine b_iconst rfl (by decide) ?_
      refine b_bipush rfl (by decide) ?_
      refine b_callV2i (ν := MX12_number) rfl ml12_380 cvX12_number (d' := 2) (by omega) rfl (by decide) rfl (Nat.le_of_ble_eq_true rfl) ?_
      refine mk_number (MTx_B hT hF') hM2 (fun h1 h2 h3 H3 hM3 => ?_) (fun h1 h2 z H3 hb => ?_) (fun h1 z H3 hb => ?_)
      · refine ⟨_, rfl, ?_⟩
        refine b_iast rfl rfl (by omega) (by omega) ?_
        try simp only [tn6, tn4, tn2, tn144, tn24, tn_cast, Int.reduceToNat]
        first
        | (have q := hM3
           try rw [ez]
           exact g95 _ v w a _ _ _ h6 hz hv (Mok_u (by decide) hM3) (fun H' s => kk _ (MSO_e (e.trans ((if_pos h1).trans (if_pos ⟨h2, h3⟩))) s)))
        | (have q := h2
           try rw [ez]
           exact f95 _ _ _ _ _ (FrB_up hF' (by decide) (hb6 61 (by decide) h6)) (Mbad_u (by decide) hb) (fun K'' H' hF'' hb' => kk _ (MSO_l (e.trans ((if_pos h1).trans (if_neg h2))) hF'' hb')))
        | (try rw [ez]
           exact f95 _ _ _ _ _ (FrB_up hF' (by decide) (hb6 61 (by decide) h6)) (Mbad_u (by decide) hb) (fun K'' H' hF'' hb' => kk _ (MSO_l (e.trans (if_neg h1)) hF'' hb')))
      · refine ⟨_, rfl, ?_⟩
        refine b_iast rfl rfl (by omega) (by omega) ?_
        try simp only [tn6, tn4, tn2, tn144, tn24, tn_cast, Int.reduceToNat]
        first
        | (have q := hM3
           try rw [ez]
           exact g95 _ v w a _ _ _ h6 hz hv (Mok_u (by decide) hM3) (fun H' s => kk _ (MSO_e (e.trans ((if_pos h1).trans (if_pos ⟨h2, h3⟩))) s)))
        | (have q := h2
           try rw [ez]
           exact f95 _ _ _ _ _ (FrB_up hF' (by decide) (hb6 61 (by decide) h6)) (Mbad_u (by decide) hb) (fun K'' H' hF'' hb' => kk _ (MSO_l (e.trans ((if_pos h1).trans (if_neg h2))) hF'' hb')))
        | (try rw [ez]
           exact f95 _ _ _ _ _ (FrB_up hF' (by decide) (hb6 61 (by decide) h6)) (Mbad_u (by decide) hb) (fun K'' H' hF'' hb' => kk _ (MSO_l (e.trans (if_neg h1)) hF'' hb')))
      · refine ⟨_, rfl, ?_⟩
        refine b_iast rfl rfl (by omega) (by omega) ?_
        try simp only [tn6, tn4, tn2, tn144, tn24, tn_cast, Int.reduceToNat]
        first
        | (have q := hM3
           try rw [ez]
           exact g95 _ v w a _ _ _ h6 hz hv (Mok_u (by decide) hM3) (fun H' s => kk _ (MSO_e (e.trans ((if_pos h1).trans (if_pos ⟨h2, h3⟩))) s)))
        | (have q := h2
           try rw [ez]
           exact f95 _ _ _ _ _ (FrB_up hF' (by decide) (hb6 61 (by decide) h6)) (Mbad_u (by decide) hb) (fun K'' H' hF'' hb' => kk _ (MSO_l (e.trans ((if_pos h1).trans (if_neg h2))) hF'' hb')))
        | (try rw [ez]
           exact f95 _ _ _ _ _ (FrB_up hF' (by decide) (hb6 61 (by decide) h6)) (Mbad_u (by decide) hb) (fun K'' H' hF'' hb' => kk _ (MSO_l (e.trans (if_neg h1)) hF'' hb')))
    refine b_aload_n rfl rfl ?_
    refine b_ldc2 (z := 465624790131) rfl kl12_260 (by decide) ?_
    refine b_callV1v (ν := MX12_must_) rfl ml12_376 cvX12_must_ (d' := 2) (by omega) rfl (by decide) rfl (Nat.le_of_ble_eq_true rfl) ?_
    exact mk_mustW (k := 2) (by decide) (by decide) (MTx_B hT hF') hM1 (fun hw H2 hM2 => ⟨rfl, gd _ _ hM2 (if_pos hw)⟩) (fun hw H2 hb => ⟨rfl, bd _ _ _ hb (if_neg hw)⟩)
  have g55 : ∀ (z1 v w : Int) (p2 : Nat) (H1 : HI), c < 6 → z1 = (6 * m + c : Nat) → NR v w → Mok (up K 75 (6 * m + c) w) n (I 2) p2 H1 → (∀ H', MSO n m Kb I (kTh1 n I 0 v p2) H' → Q none H') → Bj MX12_waring 3 55 [some (aR 57), some (aI z1)] [] H1 Q := by
    intro z1 v w p2 H1 h6 hz hv hM1 kk
    have ez : z1.toNat = 6 * m + c := by omega
    have hF' : FrB Kb m (up K 75 (6 * m + c) w) := FrB_up hF (by decide) (hb6 75 (by decide) h6)
    have bd : ∀ (k pl : Int) (H2 : HI), Mbad (up K 75 (6 * m + c) w) k pl H2 → kTh1 n I 0 v p2 = .inl (k, pl) → Bj MX12_waring 3 62 [some (aR 57), some (aI z1)] [] H2 Q := by
      intro k pl H2 hb e
      refine b_aload_n rfl rfl ?_
      refine b_getR (r := 60) rfl fl12_57 rfl (by decide) rfl rfl ?_
      refine b_iload_n rfl rfl ?_
      refine b_aload_n rfl rfl ?_
      refine b_iconst rfl (by decide) ?_
      refine b_bipush rfl (by decide) ?_
      refine b_callV2i (ν := MX12_number) rfl ml12_380 cvX12_number (d' := 2) (by omega) rfl (by decide) rfl (Nat.le_of_ble_eq_true rfl) ?_
      refine mk_numberB hb (fun z => ?_)
      refine ⟨_, rfl, ?_⟩
      refine b_iast rfl rfl (by omega) (by omega) ?_
      try simp only [tn6, tn4, tn2, tn144, tn24, tn_cast, Int.reduceToNat]
      try rw [ez]
      exact f75 _ _ _ _ _ h6 hz (FrB_up hF' (by decide) (hb6 60 (by decide) h6)) (Mbad_u (by decide) hb) (fun K'' H' hF'' hb' => kk _ (MSO_l e hF'' hb'))
    have gd : ∀ (p3 : Nat) (H2 : HI), Mok (up K 75 (6 * m + c) w) n (I 2) p3 H2 → kTh1 n I 0 v p2 = kTh2 n I 0 v p3 → Bj MX12_waring 3 62 [some (aR 57), some (aI z1)] [] H2 Q := by
      intro p3 H2 hM2 e
      refine b_aload_n rfl rfl ?_
      refine b_getR (r := 60) rfl fl12_57 rfl (by decide) rfl rfl ?_
      refine b_iload_n rfl rfl ?_
      refine b_aload_n rfl rfl ?_
      refine b_iconst rfl (by decide) ?_
      refine b_bipush rfl (by decide) ?_
      refine b_callV2i (ν := MX12_number) rfl ml12_380 cvX12_number (d' := 2) (by omega) rfl (by decide) rfl (Nat.le_of_ble_eq_true rfl) ?_
      refine mk_number (MTx_B hT hF') hM2 (fun h1 h2 h3 H3 hM3 => ?_) (fun h1 h2 z H3 hb => ?_) (fun h1 z H3 hb => ?_)
      · refine ⟨_, rfl, ?_⟩
        refine b_iast rfl rfl (by omega) (by omega) ?_
        try simp only [tn6, tn4, tn2, tn144, tn24, tn_cast, Int.reduceToNat]
        first
        | (have q := hM3
           try rw [ez]
           exact g75 _ v w _ _ _ h6 hz hv (Mok_u (by decide) hM3) (fun H' s => kk _ (MSO_e (e.trans ((if_pos h1).trans (if_pos ⟨h2, h3⟩))) s)))
        | (have q := h2
           try rw [ez]
           exact f75 _ _ _ _ _ h6 hz (FrB_up hF' (by decide) (hb6 60 (by decide) h6)) (Mbad_u (by decide) hb) (fun K'' H' hF'' hb' => kk _ (MSO_l (e.trans ((if_pos h1).trans (if_neg h2))) hF'' hb')))
        | (try rw [ez]
           exact f75 _ _ _ _ _ h6 hz (FrB_up hF' (by decide) (hb6 60 (by decide) h6)) (Mbad_u (by decide) hb) (fun K'' H' hF'' hb' => kk _ (MSO_l (e.trans (if_neg h1)) hF'' hb')))
      · refine ⟨_, rfl, ?_⟩
        refine b_iast rfl rfl (by omega) (by omega) ?_
        try simp only [tn6, tn4, tn2, tn144, tn24, tn_cast, Int.reduceToNat]
        first
        | (have q := hM3
           try rw [ez]
           exact g75 _ v w _ _ _ h6 hz hv (Mok_u (by decide) hM3) (fun H' s => kk _ (MSO_e (e.trans ((if_pos h1).trans (if_pos ⟨h2, h3⟩))) s)))
        | (have q := h2
           try rw [ez]
           exact f75 _ _ _ _ _ h6 hz (FrB_up hF' (by decide) (hb6 60 (by decide) h6)) (Mbad_u (by decide) hb) (fun K'' H' hF'' hb' => kk _ (MSO_l (e.trans ((if_pos h1).trans (if_neg h2))) hF'' hb')))
        | (try rw [ez]
           exact f75 _ _ _ _ _ h6 hz (FrB_up hF' (by decide) (hb6 60 (by decide) h6)) (Mbad_u (by decide) hb) (fun K'' H' hF'' hb' => kk _ (MSO_l (e.trans (if_neg h1)) hF'' hb')))
      · refine ⟨_, rfl, ?_⟩
        refine b_iast rfl rfl (by omega) (by omega) ?_
        try simp only [tn6, tn4, tn2, tn144, tn24, tn_cast, Int.reduceToNat]
        first
        | (have q := hM3
           try rw [ez]
           exact g75 _ v w _ _ _ h6 hz hv (Mok_u (by decide) hM3) (fun H' s => kk _ (MSO_e (e.trans ((if_pos h1).trans (if_pos ⟨h2, h3⟩))) s)))
        | (have q := h2
           try rw [ez]
           exact f75 _ _ _ _ _ h6 hz (FrB_up hF' (by decide) (hb6 60 (by decide) h6)) (Mbad_u (by decide) hb) (fun K'' H' hF'' hb' => kk _ (MSO_l (e.trans ((if_pos h1).trans (if_neg h2))) hF'' hb')))
        | (try rw [ez]
           exact f75 _ _ _ _ _ h6 hz (FrB_up hF' (by decide) (hb6 60 (by decide) h6)) (Mbad_u (by decide) hb) (fun K'' H' hF'' hb' => kk _ (MSO_l (e.trans (if_neg h1)) hF'' hb')))
    refine b_aload_n rfl rfl ?_
    refine b_ldc2 (z := 131277443786867) rfl kl12_258 (by decide) ?_
    refine b_callV1v (ν := MX12_must_) rfl ml12_376 cvX12_must_ (d' := 2) (by omega) rfl (by decide) rfl (Nat.le_of_ble_eq_true rfl) ?_
    exact mk_mustW (k := 1) (by decide) (by decide) (MTx_B hT hF') hM1 (fun hw H2 hM2 => ⟨rfl, gd _ _ hM2 (if_pos hw)⟩) (fun hw H2 hb => ⟨rfl, bd _ _ _ hb (if_neg hw)⟩)
  have g27 : ∀ (H1 : HI), c < 6 → Mok K n (I 2) (te n (I 2) p) H1 → Bj MX12_waring 3 27 [some (aR 57), none] [] H1 Q := by
    intro H1 h6 hM1
    have n6 : ¬ 6 ≤ I 13 0 := by omega
    have h34 : H1 57 34 = (m : Int) := by rw [Mok_g hM1 (by decide)]; exact hR.1.1
    have h59 : H1 59 m = (c : Int) := by rw [Mok_q hM1 (by decide)]; exact hcn
    refine b_bipush rfl (by decide) ?_
    refine b_aload_n rfl rfl ?_
    refine b_getI rfl fl12_115 rfl (by decide) rfl ?_
    rw [h34]
    refine b_imulN rfl (by omega) (by omega) ?_
    refine b_aload_n rfl rfl ?_
    refine b_getR (r := 59) rfl fl12_54 rfl (by decide) rfl rfl ?_
    refine b_aload_n rfl rfl ?_
    refine b_getI rfl fl12_115 rfl (by decide) rfl ?_
    rw [h34]
    refine b_iald rfl rfl (by omega) (by omega) ?_
    try simp only [tn6, tn4, tn2, tn144, tn24, tn_cast, Int.reduceToNat]
    try rw [Int.toNat_natCast]
    rw [h59]
    refine b_iaddN rfl (by omega) (by omega) ?_
    refine b_istoreX_n (F := fun z44 => [some (aR 57), some (aI z44)]) rfl (by decide) (fun _ => rfl) (fun z44 ez44 => ?_)
    have ez : z44.toNat = 6 * m + c := by omega
    refine b_aload_n rfl rfl ?_
    refine b_getR (r := 75) rfl fl12_102 rfl (by decide) rfl rfl ?_
    refine b_iload_n rfl rfl ?_
    refine b_aload_n rfl rfl ?_
    refine b_callV0j (ν := MX12_fresh) rfl ml12_372 cvX12_fresh (d' := 2) (by omega) rfl (by decide) rfl (Nat.le_of_ble_eq_true rfl) ?_
    refine mk_fresh hTK hC hR.1 hM1 (fun h1 h2 h3 H2 hM2 => ?_) (fun h1 h2 h3 z H2 hb => ?_) (fun h1 z H2 hb => ?_)
    · refine ⟨_, rfl, ?_⟩
      refine b_last rfl rfl (by omega) (by omega) ?_
      try simp only [tn6, tn4, tn2, tn144, tn24, tn_cast, Int.reduceToNat]
      first
      | (have q := hM2
         try rw [ez]
         exact g55 _ (tv n (I 2) (te n (I 2) p)) _ _ _ h6 (by omega) (t_NR h1) (Mok_u (by decide) hM2) (fun H' s => kq _ (MSO_e ((if_neg n6).trans ((if_pos ⟨h1, h2⟩).trans (if_neg h3))) s)))
      | (have q := h3
         try rw [ez]
         exact f55 _ _ _ _ _ h6 (by omega) (FrB_up hF (by decide) (hb6 75 (by decide) h6)) (Mbad_u (by decide) hb) (fun K'' H' hF'' hb' => kq _ (MSO_l ((if_neg n6).trans ((if_pos ⟨h1, h2⟩).trans (if_pos h3))) hF'' hb')))
      | (try rw [ez]
         exact f55 _ _ _ _ _ h6 (by omega) (FrB_up hF (by decide) (hb6 75 (by decide) h6)) (Mbad_u (by decide) hb) (fun K'' H' hF'' hb' => kq _ (MSO_l ((if_neg n6).trans (if_neg h1)) hF'' hb')))
    · refine ⟨_, rfl, ?_⟩
      refine b_last rfl rfl (by omega) (by omega) ?_
      try simp only [tn6, tn4, tn2, tn144, tn24, tn_cast, Int.reduceToNat]
      first
      | (have q := hM2
         try rw [ez]
         exact g55 _ (tv n (I 2) (te n (I 2) p)) _ _ _ h6 (by omega) (t_NR h1) (Mok_u (by decide) hM2) (fun H' s => kq _ (MSO_e ((if_neg n6).trans ((if_pos ⟨h1, h2⟩).trans (if_neg h3))) s)))
      | (have q := h3
         try rw [ez]
         exact f55 _ _ _ _ _ h6 (by omega) (FrB_up hF (by decide) (hb6 75 (by decide) h6)) (Mbad_u (by decide) hb) (fun K'' H' hF'' hb' => kq _ (MSO_l ((if_neg n6).trans ((if_pos ⟨h1, h2⟩).trans (if_pos h3))) hF'' hb')))
      | (try rw [ez]
         exact f55 _ _ _ _ _ h6 (by omega) (FrB_up hF (by decide) (hb6 75 (by decide) h6)) (Mbad_u (by decide) hb) (fun K'' H' hF'' hb' => kq _ (MSO_l ((if_neg n6).trans (if_neg h1)) hF'' hb')))
    · refine ⟨_, rfl, ?_⟩
      refine b_last rfl rfl (by omega) (by omega) ?_
      try simp only [tn6, tn4, tn2, tn144, tn24, tn_cast, Int.reduceToNat]
      first
      | (have q := hM2
         try rw [ez]
         exact g55 _ (tv n (I 2) (te n (I 2) p)) _ _ _ h6 (by omega) (t_NR h1) (Mok_u (by decide) hM2) (fun H' s => kq _ (MSO_e ((if_neg n6).trans ((if_pos ⟨h1, h2⟩).trans (if_neg h3))) s)))
      | (have q := h3
         try rw [ez]
         exact f55 _ _ _ _ _ h6 (by omega) (FrB_up hF (by decide) (hb6 75 (by decide) h6)) (Mbad_u (by decide) hb) (fun K'' H' hF'' hb' => kq _ (MSO_l ((if_neg n6).trans ((if_pos ⟨h1, h2⟩).trans (if_pos h3))) hF'' hb')))
      | (try rw [ez]
         exact f55 _ _ _ _ _ h6 (by omega) (FrB_up hF (by decide) (hb6 75 (by decide) h6)) (Mbad_u (by decide) hb) (fun K'' H' hF'' hb' => kq _ (MSO_l ((if_neg n6).trans (if_neg h1)) hF'' hb')))
  have h34 : H 57 34 = (m : Int) := by rw [Mok_g hM (by decide)]; exact hR.1.1
  have h59 : H 59 m = (c : Int) := by rw [Mok_q hM (by decide)]; exact hcn
  refine b_aload_n rfl rfl ?_
  refine b_aload_n rfl rfl ?_
  refine b_getR (r := 59) rfl fl12_54 rfl (by decide) rfl rfl ?_
  refine b_aload_n rfl rfl ?_
  refine b_getI rfl fl12_115 rfl (by decide) rfl ?_
  rw [h34]
  refine b_iald rfl rfl (by omega) (by omega) ?_
  try simp only [tn6, tn4, tn2, tn144, tn24, tn_cast, Int.reduceToNat]
  try rw [Int.toNat_natCast]
  rw [h59]
  refine b_bipush rfl (by decide) ?_
  refine b_icmp_ne (tgt := 19) rfl rfl (fun c12 => ?_) (fun c12 => ?_)
  · refine b_iconst rfl (by decide) ?_
    refine b_callV1i (ν := MX12_counts) rfl ml12_368 cvX12_counts (d' := 2) (by omega) rfl (by decide) rfl (Nat.le_of_ble_eq_true rfl) ?_
    refine mk_counts (by omega) hTK hM hk (fun hz H1 hM1 => ?_) (fun hz H1 hb => ?_)
    · refine ⟨_, rfl, ?_⟩
      refine b_if_ne (tgt := 27) rfl rfl (fun _ => ?_) (fun z => absurd z (by decide))
      first
      | (exfalso; omega)
      | exact g27 _ (by omega) hM1
    · refine ⟨_, rfl, ?_⟩
      refine b_if_ne (tgt := 27) rfl rfl (fun z => absurd z (by decide)) (fun _ => ?_)
      refine b_vret rfl rfl ?_
      first
      | (exfalso; omega)
      | exact kq _ (MSO_l (if_pos (by omega)) hF hb)
  · refine b_iconst rfl (by decide) ?_
    refine b_goto (tgt := 20) rfl rfl ?_
    refine b_callV1i (ν := MX12_counts) rfl ml12_368 cvX12_counts (d' := 2) (by omega) rfl (by decide) rfl (Nat.le_of_ble_eq_true rfl) ?_
    refine mk_counts (by omega) hTK hM hk (fun hz H1 hM1 => ?_) (fun hz H1 hb => ?_)
    · refine ⟨_, rfl, ?_⟩
      refine b_if_ne (tgt := 27) rfl rfl (fun _ => ?_) (fun z => absurd z (by decide))
      first
      | (exfalso; omega)
      | exact g27 _ (by omega) hM1
    · refine ⟨_, rfl, ?_⟩
      refine b_if_ne (tgt := 27) rfl rfl (fun z => absurd z (by decide)) (fun _ => ?_)
      refine b_vret rfl rfl ?_
      first
      | (exfalso; omega)
      | exact kq _ (MSO_l (if_pos (by omega)) hF hb)
end MWA
