/-! ===== the reference: what there is ===== -/
def unp (p : Int) (w : Nat) : Int := if w = 0 then p / 3 / 24 / 6 else if w = 1 then p / 3 / 24 % 6 else if w = 2 then p / 3 % 24 / 6 else if w = 3 then p / 3 % 24 % 6 else p % 3
/-- how many ships the reference has -/
def shp (K : HI) : Int := K 62 (K 57 13).toNat
theorem shp_of {K K' : HI} (h62 : K' 62 = K 62) (h13 : K' 57 13 = K 57 13) : shp K' = shp K := by
  unfold shp
  rw [h62, h13]
/-- slot v of the reference stands so; where it lies, only if there are ships -/
def SR (hr kf kc : Int) (li cr rg : Nat → Int) (K : HI) (v : Nat) : Prop := K 85 v = hr ∧ (∀ s, s < 6 → shp K ≠ 0 → K 86 (6 * v + s) = li s) ∧ (∀ c, c < 144 → K 87 (144 * v + c) = cr c) ∧ K 88 v = kc ∧ (∀ k w : Nat, (k : Int) < kc → w < 5 → K 89 (300 * v + 5 * k + w) = unp (rg ((kf + k) % 60).toNat) w)
def SRn (J K : HI) : Prop := SR (J 30 5) (J 30 3) (J 30 4) (J 31) (J 32) (J 33) K 0
theorem SR_to {hr kf kc : Int} {li cr rg : Nat → Int} {K K' : HI} {v : Nat} (h : SR hr kf kc li cr rg K v) (h5 : K' 85 = K 85) (h6 : K' 86 = K 86) (h7 : K' 87 = K 87) (h8 : K' 88 = K 88) (h9 : K' 89 = K 89) (hn : shp K' = shp K) : SR hr kf kc li cr rg K' v := by
  unfold SR at *
  rw [h5, h6, h7, h8, h9, hn]
  exact h
def MN (J K : HI) (C : Nat → List Int) (b : Nat) : Prop := RP J K C b ∧ asB K ∧ WF J C ∧ SRn J K ∧ ZF J (J 32) ∧ (∀ s : Nat, s < 6 → ¬ (s : Int) < J 4 1 → J 31 s = -1)
/-- only scratch of the reference has changed -/
def ScM (K K' : HI) : Prop := (∀ q, q ≠ 57 → q ≠ 90 → q ≠ 91 → K' q = K q) ∧ (∀ j, ¬ (57 ≤ j ∧ j ≤ 60) → K' 57 j = K 57 j) ∧ asB K'
theorem ScM.rf {K : HI} (h : asB K) : ScM K K := ⟨fun _ _ _ _ => rfl, fun _ _ => rfl, h⟩
theorem ScM.tr {K K' K'' : HI} (h : ScM K K') (h2 : ScM K' K'') : ScM K K'' := ⟨fun q a b c => (h2.1 q a b c).trans (h.1 q a b c), fun j hj => (h2.2.1 j hj).trans (h.2.1 j hj), h2.2.2⟩
theorem ScM.ms {K K' : HI} {W L T N : Int} (h : ScM K K') : ScM K (mS K' W L T N) := by
  refine ⟨fun q a b c => by rw [mS_cell a]; exact h.1 q a b c, fun j hj => ?_, asB_mS h.2.2⟩
  rw [← h.2.1 j hj]
  unfold mS
  rw [up_n (by omega), up_n (by omega), up_n (by omega), up_n (by omega)]
theorem ScM.as {K K' K'' : HI} (h : ScM K K') (h2 : AsM K' K'') : ScM K K'' := ⟨fun q a b c => by rw [h2.1 q b c]; exact h.1 q a b c, fun j hj => by rw [h2.1 57 (by decide) (by decide)]; exact h.2.1 j hj, h2.2⟩
theorem MN.sc {J K K' : HI} {C : Nat → List Int} {b : Nat} (h : MN J K C b) (h2 : ScM K K') : MN J K' C b :=
  ⟨h.1.to (h2.2.1 13 (by omega)) (fun q hq => h2.1 q (by unfold mcell at hq; omega) (by unfold mcell at hq; omega) (by unfold mcell at hq; omega)), h2.2.2, h.2.2.1, SR_to h.2.2.2.1 (h2.1 85 (by decide) (by decide) (by decide)) (h2.1 86 (by decide) (by decide) (by decide)) (h2.1 87 (by decide) (by decide) (by decide)) (h2.1 88 (by decide) (by decide) (by decide)) (h2.1 89 (by decide) (by decide) (by decide)) (shp_of (h2.1 62 (by decide) (by decide) (by decide)) (h2.2.1 13 (by omega))), h.2.2.2.2⟩
theorem own_W {J : HI} {s : Nat} : wOf J (J 32) s = tW J 32 s ∧ lOf J (J 32) s = tL J 32 s ∧ tOf J (J 32) s = tT J 32 s ∧ nOf J (J 32) s = tN J 32 s := by
  unfold wOf lOf tOf nOf
  rw [row_self]
  exact ⟨rfl, rfl, rfl, rfl⟩
theorem car_b {J : HI} {f : Nat → Int} {s : Nat} (hp : pOK J) (hf : ∀ k, 0 ≤ f k ∧ f k ≤ 50) (hs : (s : Int) < J 4 1) : bd9 (wOf J f s) (lOf J f s) (tOf J f s) (nOf J f s) ∧ 0 ≤ lOf J f s ∧ lOf J f s ≤ 200000 := by
  have hpG : pOK (row J 32 f) := pOK_to hp (row_cell (by decide)) (row_cell (by decide)) (row_cell (by decide))
  have h1 := t_in (I := row J 32 f) (cr := 32) (s := s) hpG (fun k => by rw [row_same]; exact hf k) (by rw [row_cell (by decide)]; exact hs)
  have h2 := lift_b (I := row J 32 f) (cr := 32) (s := s) hpG (fun k => by rw [row_same]; exact hf k) (by rw [row_cell (by decide)]; exact hs)
  exact ⟨h1, h2⟩
theorem spq_carries {J K : HI} {Q : Option AV → HI → Prop} {C : Nat → List Int} {b s : Nat} (hM : MN J K C b) (hs : (s : Int) < J 4 1) (kq : Q none (mCar J K (J 32) s)) : Rj MX12_carries 1 [aR 57, aI 0, aI (s : Int)] K Q := by
  refine spm_carries (v := 0) hM.1 (by decide) hs (fun c hc => ?_) (fun c => ?_) hM.2.2.2.2.1 kq
  · exact hM.2.2.2.1.2.2.1 c hc
  · have := hM.2.2.1.2.2.2.1 c; omega
theorem spm_isWare {J K : HI} {Q : Option AV → HI → Prop} {C : Nat → List Int} {b : Nat} {a : Int} (hR : RP J K C b) (k1 : kO J 4 0 a → Q (some (aI 1)) K) (k0 : ¬ kO J 4 0 a → Q (some (aI 0)) K) : Rj MX12_isWare 0 [aR 57, aI a] K Q := by
  have hb := hR.1
  have hb2 := hR.2.1
  have q := hR.2.2.1
  have e : kO J 4 0 a ↔ 0 ≤ a ∧ a < J 4 0 := ⟨fun w => w.2.2, fun w => ⟨by omega, by omega, w⟩⟩
  refine rj_of okX12_isWare (Nat.le_of_ble_eq_true rfl) rfl ?_
  refine b_iload_n rfl rfl ?_
  refine b_if_lt (tgt := 21) rfl rfl (fun c1 => ?_) (fun c1 => ?_)
  · refine b_iconst rfl (by decide) ?_
    refine b_zret rfl rfl (by first | decide | omega) ?_
    first | exact k1 (e.2 (by omega)) | exact k0 (fun w => by have := e.1 w; omega)
  · refine b_iload_n rfl rfl ?_
    refine b_aload_n rfl rfl ?_
    refine b_getR (r := 59) rfl fl12_54 rfl (by decide) rfl rfl ?_
    refine b_aload_n rfl rfl ?_
    refine b_getI rfl fl12_51 rfl (by decide) rfl ?_
    rw [hb]
    refine b_iald rfl rfl (by omega) (by omega) ?_
    try simp only [tn6, tn4, tn2, tn144, tn24, tn_cast, Int.reduceToNat]
    rw [q]
    refine b_icmp_ge (tgt := 21) rfl rfl (fun c14 => ?_) (fun c14 => ?_)
    · refine b_iconst rfl (by decide) ?_
      refine b_zret rfl rfl (by first | decide | omega) ?_
      first | exact k1 (e.2 (by omega)) | exact k0 (fun w => by have := e.1 w; omega)
    · refine b_iconst rfl (by decide) ?_
      refine b_goto (tgt := 22) rfl rfl ?_
      refine b_zret rfl rfl (by first | decide | omega) ?_
      first | exact k1 (e.2 (by omega)) | exact k0 (fun w => by have := e.1 w; omega)
theorem spm_isShip {J K : HI} {Q : Option AV → HI → Prop} {C : Nat → List Int} {b : Nat} {a : Int} (hR : RP J K C b) (k1 : kO J 4 1 a → Q (some (aI 1)) K) (k0 : ¬ kO J 4 1 a → Q (some (aI 0)) K) : Rj MX12_isShip 0 [aR 57, aI a] K Q := by
  have hb := hR.1
  have hb2 := hR.2.1
  have q := hR.2.2.2.1
  have e : kO J 4 1 a ↔ 0 ≤ a ∧ a < J 4 1 := ⟨fun w => w.2.2, fun w => ⟨by omega, by omega, w⟩⟩
  refine rj_of okX12_isShip (Nat.le_of_ble_eq_true rfl) rfl ?_
  refine b_iload_n rfl rfl ?_
  refine b_if_lt (tgt := 21) rfl rfl (fun c1 => ?_) (fun c1 => ?_)
  · refine b_iconst rfl (by decide) ?_
    refine b_zret rfl rfl (by first | decide | omega) ?_
    first | exact k1 (e.2 (by omega)) | exact k0 (fun w => by have := e.1 w; omega)
  · refine b_iload_n rfl rfl ?_
    refine b_aload_n rfl rfl ?_
    refine b_getR (r := 62) rfl fl12_63 rfl (by decide) rfl rfl ?_
    refine b_aload_n rfl rfl ?_
    refine b_getI rfl fl12_51 rfl (by decide) rfl ?_
    rw [hb]
    refine b_iald rfl rfl (by omega) (by omega) ?_
    try simp only [tn6, tn4, tn2, tn144, tn24, tn_cast, Int.reduceToNat]
    rw [q]
    refine b_icmp_ge (tgt := 21) rfl rfl (fun c14 => ?_) (fun c14 => ?_)
    · refine b_iconst rfl (by decide) ?_
      refine b_zret rfl rfl (by first | decide | omega) ?_
      first | exact k1 (e.2 (by omega)) | exact k0 (fun w => by have := e.1 w; omega)
    · refine b_iconst rfl (by decide) ?_
      refine b_goto (tgt := 22) rfl rfl ?_
      refine b_zret rfl rfl (by first | decide | omega) ?_
      first | exact k1 (e.2 (by omega)) | exact k0 (fun w => by have := e.1 w; omega)
theorem spm_isBerth {J K : HI} {Q : Option AV → HI → Prop} {C : Nat → List Int} {b : Nat} {a : Int} (hR : RP J K C b) (k1 : kO J 4 2 a → Q (some (aI 1)) K) (k0 : ¬ kO J 4 2 a → Q (some (aI 0)) K) : Rj MX12_isBerth 0 [aR 57, aI a] K Q := by
  have hb := hR.1
  have hb2 := hR.2.1
  have q := hR.2.2.2.2.1
  have e : kO J 4 2 a ↔ 0 ≤ a ∧ a < J 4 2 := ⟨fun w => w.2.2, fun w => ⟨by omega, by omega, w⟩⟩
  refine rj_of okX12_isBerth (Nat.le_of_ble_eq_true rfl) rfl ?_
  refine b_iload_n rfl rfl ?_
  refine b_if_lt (tgt := 21) rfl rfl (fun c1 => ?_) (fun c1 => ?_)
  · refine b_iconst rfl (by decide) ?_
    refine b_zret rfl rfl (by first | decide | omega) ?_
    first | exact k1 (e.2 (by omega)) | exact k0 (fun w => by have := e.1 w; omega)
  · refine b_iload_n rfl rfl ?_
    refine b_aload_n rfl rfl ?_
    refine b_getR (r := 67) rfl fl12_78 rfl (by decide) rfl rfl ?_
    refine b_aload_n rfl rfl ?_
    refine b_getI rfl fl12_51 rfl (by decide) rfl ?_
    rw [hb]
    refine b_iald rfl rfl (by omega) (by omega) ?_
    try simp only [tn6, tn4, tn2, tn144, tn24, tn_cast, Int.reduceToNat]
    rw [q]
    refine b_icmp_ge (tgt := 21) rfl rfl (fun c14 => ?_) (fun c14 => ?_)
    · refine b_iconst rfl (by decide) ?_
      refine b_zret rfl rfl (by first | decide | omega) ?_
      first | exact k1 (e.2 (by omega)) | exact k0 (fun w => by have := e.1 w; omega)
    · refine b_iconst rfl (by decide) ?_
      refine b_goto (tgt := 22) rfl rfl ?_
      refine b_zret rfl rfl (by first | decide | omega) ?_
      first | exact k1 (e.2 (by omega)) | exact k0 (fun w => by have := e.1 w; omega)
theorem kO_nat {J : HI} {i : Nat} {a : Int} (h : kO J 4 (i : Int) a) : ∃ s : Nat, a = (s : Int) ∧ (s : Int) < J 4 i := by
  have h1 : 0 ≤ a := h.2.2.1
  have h2 : a < J 4 (i : Int).toNat := h.2.2.2
  rw [Int.toNat_natCast] at h2
  exact ⟨a.toNat, by omega, by omega⟩
def hoP (J : HI) (a h : Int) : Prop := kO J 4 1 a ∧ 0 ≤ h ∧ h < J 6 (1 * 6 + a).toNat
theorem spm_isHold {J K : HI} {Q : Option AV → HI → Prop} {C : Nat → List Int} {b : Nat} {a h : Int} (hR : RP J K C b) (k1 : hoP J a h → Q (some (aI 1)) K) (k0 : ¬ hoP J a h → Q (some (aI 0)) K) : Rj MX12_isHold 1 [aR 57, aI a, aI h] K Q := by
  have hb := hR.1
  have hb2 := hR.2.1
  have hp := hR.2.2.2.2.2.2.2.2.2
  unfold hoP at k1 k0
  refine rj_of okX12_isHold (Nat.le_of_ble_eq_true rfl) rfl ?_
  refine b_aload_n rfl rfl ?_
  refine b_iload_n rfl rfl ?_
  refine b_callV1i (ν := MX12_isShip) rfl ml12_479 cvX12_isShip (d' := 0) (by omega) rfl (by decide) rfl (Nat.le_of_ble_eq_true rfl) ?_
  refine spm_isShip hR (fun hk => ?_) (fun hk => ?_)
  · refine ⟨_, rfl, ?_⟩
    refine b_if_eq (tgt := 34) rfl rfl (fun z => absurd z (by decide)) (fun _ => ?_)
    obtain ⟨s, rfl, hs⟩ := kO_nat (i := 1) hk
    have q := (hR.2.2.2.2.2.2.1 s hs).1
    have hs6 : s < 6 := by have := hp.1 1 (by decide); omega
    rw [show (1 * 6 + (s : Int)).toNat = 6 + s by omega] at k1 k0
    refine b_iload_n rfl rfl ?_
    refine b_if_lt (tgt := 34) rfl rfl (fun c9 => ?_) (fun c9 => ?_)
    · refine b_iconst rfl (by decide) ?_
      refine b_zret rfl rfl (by first | decide | omega) ?_
      first
      | exact k0 (fun w => hk w.1)
      | exact k1 ⟨hk, by omega, by omega⟩
      | exact k0 (fun w => by have := w.2; omega)
    · refine b_iload_n rfl rfl ?_
      refine b_aload_n rfl rfl ?_
      refine b_getR (r := 63) rfl fl12_66 rfl (by decide) rfl rfl ?_
      refine b_bipush rfl (by decide) ?_
      refine b_aload_n rfl rfl ?_
      refine b_getI rfl fl12_51 rfl (by decide) rfl ?_
      rw [hb]
      refine b_imulN rfl (by omega) (by omega) ?_
      refine b_iload_n rfl rfl ?_
      refine b_iaddN rfl (by omega) (by omega) ?_
      refine b_iald rfl rfl (by omega) (by omega) ?_
      try simp only [tn6, tn4, tn2, tn144, tn24, tn_cast, Int.reduceToNat]
      rw [q]
      refine b_icmp_ge (tgt := 34) rfl rfl (fun c27 => ?_) (fun c27 => ?_)
      · refine b_iconst rfl (by decide) ?_
        refine b_zret rfl rfl (by first | decide | omega) ?_
        first
        | exact k0 (fun w => hk w.1)
        | exact k1 ⟨hk, by omega, by omega⟩
        | exact k0 (fun w => by have := w.2; omega)
      · refine b_iconst rfl (by decide) ?_
        refine b_goto (tgt := 35) rfl rfl ?_
        refine b_zret rfl rfl (by first | decide | omega) ?_
        first
        | exact k0 (fun w => hk w.1)
        | exact k1 ⟨hk, by omega, by omega⟩
        | exact k0 (fun w => by have := w.2; omega)
  · refine ⟨_, rfl, ?_⟩
    refine b_if_eq (tgt := 34) rfl rfl (fun _ => ?_) (fun z => absurd z (by decide))
    refine b_iconst rfl (by decide) ?_
    refine b_zret rfl rfl (by first | decide | omega) ?_
    first
    | exact k0 (fun w => hk w.1)
    | exact k1 ⟨hk, by omega, by omega⟩
    | exact k0 (fun w => by have := w.2; omega)
theorem spm_liesIn {I : HI} {Q : Option AV → HI → Prop} {v s : Nat} (hv : v < 22) (hs : s < 6) (kq : Q (some (aI (I 86 (6 * v + s)))) I) : Rj MX12_liesIn 0 [aR 57, aI (v : Int), aI (s : Int)] I Q := by
  refine rj_of okX12_liesIn (Nat.le_of_ble_eq_true rfl) rfl ?_
  refine b_aload_n rfl rfl ?_
  refine b_getR (r := 86) rfl fl12_159 rfl (by decide) rfl rfl ?_
  refine b_bipush rfl (by decide) ?_
  refine b_iload_n rfl rfl ?_
  refine b_imulN rfl (by omega) (by omega) ?_
  refine b_iload_n rfl rfl ?_
  refine b_iaddN rfl (by omega) (by omega) ?_
  refine b_iald rfl rfl (by omega) (by omega) ?_
  try simp only [tn6, tn4, tn2, tn144, tn24, tn_cast, Int.reduceToNat]
  refine b_iret rfl rfl ?_
  exact kq
theorem shp_RP {J K : HI} {C : Nat → List Int} {b : Nat} (h : RP J K C b) : shp K = J 4 1 := by
  show K 62 (K 57 13).toNat = J 4 1
  rw [h.1, Int.toNat_natCast]
  exact h.2.2.2.1
theorem shp_s {J K : HI} {C : Nat → List Int} {b s : Nat} (hM : MN J K C b) (hs : (s : Int) < J 4 1) : shp K ≠ 0 := by
  rw [shp_RP hM.1]
  omega
theorem spq_liesIn {J K : HI} {Q : Option AV → HI → Prop} {C : Nat → List Int} {b s : Nat} (hM : MN J K C b) (hs : s < 6) (kq : Q (some (aI (J 31 s))) K) (hs1 : (s : Int) < J 4 1 := by omega) : Rj MX12_liesIn 0 [aR 57, aI 0, aI (s : Int)] K Q := by
  refine spm_liesIn (v := 0) (by decide) hs ?_
  rw [hM.2.2.2.1.2.1 s hs (shp_s hM hs1)]
  exact kq
theorem fi_ext {f : Nat → Int} {b : Int} : ∀ n m i, (∀ k, i + n ≤ k → k < i + n + m → f k ≠ b) → fi f b (n + m) i = fi f b n i := by
  intro n
  induction n with
  | zero =>
    intro m
    induction m with
    | zero => intro i _; rfl
    | succ m ih =>
      intro i h
      rw [Nat.zero_add]
      show (if f i = b then (i : Int) else fi f b m (i + 1)) = -1
      rw [if_neg (h i (by omega) (by omega))]
      have := ih (i + 1) (fun k h1 h2 => h k (by omega) (by omega))
      rw [Nat.zero_add] at this
      exact this
  | succ n ih =>
    intro m i h
    rw [Nat.add_right_comm]
    show (if f i = b then (i : Int) else fi f b (n + m) (i + 1)) = (if f i = b then (i : Int) else fi f b n (i + 1))
    rw [ih m (i + 1) (fun k h1 h2 => h k (by omega) (by omega))]
theorem spq_whose {J K : HI} {Q : Option AV → HI → Prop} {C : Nat → List Int} {b : Nat} {a : Int} (hM : MN J K C b) (ha : 0 ≤ a) (kq : Q (some (aI (fi (J 31) a 6 0))) K) : Rj MX12_whose 1 [aR 57, aI a] K Q := by
  have hR := hM.1
  have hb := hR.1
  have hb2 := hR.2.1
  have q := hR.2.2.2.1
  obtain ⟨n6, n1⟩ := nS_in hR.2.2.2.2.2.2.2.2.2
  have he : fi (J 31) a 6 0 = fi (J 31) a (nS J) 0 := by
    have := fi_ext (f := J 31) (b := a) (nS J) (6 - nS J) 0 (fun k h1 h2 => by rw [hM.2.2.2.2.2 k (by omega) (by omega)]; omega)
    rw [show nS J + (6 - nS J) = 6 by omega] at this
    exact this
  rw [he] at kq
  have lp : ∀ (n i : Nat) (z : Int), z = (i : Int) → i + n = nS J → Q (some (aI (fi (J 31) a n i))) K → Bj MX12_whose 1 2 [some (aR 57), some (aI a), some (aI z)] [] K Q := by
    intro n
    induction n with
    | zero =>
      intro i z hz hi hq
      refine b_iload_n rfl rfl ?_
      refine b_aload_n rfl rfl ?_
      refine b_getR (r := 62) rfl fl12_63 rfl (by decide) rfl rfl ?_
      refine b_aload_n rfl rfl ?_
      refine b_getI rfl fl12_51 rfl (by decide) rfl ?_
      rw [hb]
      refine b_iald rfl rfl (by omega) (by omega) ?_
      try simp only [tn6, tn4, tn2, tn144, tn24, tn_cast, Int.reduceToNat]
      rw [q]
      refine b_icmp_ge (tgt := 33) rfl rfl (fun c12 => ?_) (fun c12 => ?_)
      · refine b_iconst rfl (by decide) ?_
        refine b_iret rfl rfl ?_
        exact hq
      · omega
    | succ n ih =>
      intro i z hz hi hq
      subst hz
      have hq' : Q (some (aI (if J 31 i = a then (i : Int) else fi (J 31) a n (i + 1)))) K := hq
      refine b_iload_n rfl rfl ?_
      refine b_aload_n rfl rfl ?_
      refine b_getR (r := 62) rfl fl12_63 rfl (by decide) rfl rfl ?_
      refine b_aload_n rfl rfl ?_
      refine b_getI rfl fl12_51 rfl (by decide) rfl ?_
      rw [hb]
      refine b_iald rfl rfl (by omega) (by omega) ?_
      try simp only [tn6, tn4, tn2, tn144, tn24, tn_cast, Int.reduceToNat]
      rw [q]
      refine b_icmp_ge (tgt := 33) rfl rfl (fun c12 => ?_) (fun c12 => ?_)
      · omega
      · refine b_aload_n rfl rfl ?_
        refine b_iconst rfl (by decide) ?_
        refine b_iload_n rfl rfl ?_
        refine b_callV2i (ν := MX12_liesIn) rfl ml12_482 cvX12_liesIn (d' := 0) (by omega) rfl (by decide) rfl (Nat.le_of_ble_eq_true rfl) ?_
        refine spq_liesIn hM (by omega) ?_
        refine ⟨_, rfl, ?_⟩
        refine b_iload_n rfl rfl ?_
        refine b_icmp_ne (tgt := 27) rfl rfl (fun c22 => ?_) (fun c22 => ?_)
        · refine b_iincX (F := fun z27 => [some (aR 57), some (aI a), some (aI z27)]) rfl rfl (by omega) (by omega) (fun _ => rfl) (fun z27 ez27 => ?_)
          refine b_goto (tgt := 2) rfl rfl ?_
          exact ih (i + 1) _ (by omega) (by omega) (qI hq' (if_neg c22) rfl)
        · refine b_iload_n rfl rfl ?_
          refine b_iret rfl rfl ?_
          exact qI hq' (if_pos c22) rfl
  refine rj_of okX12_whose (Nat.le_of_ble_eq_true rfl) rfl ?_
  refine b_iconst rfl (by decide) ?_
  refine b_istoreX_n (F := fun z1 => [some (aR 57), some (aI a), some (aI z1)]) rfl (by decide) (fun _ => rfl) (fun z1 ez1 => ?_)
  exact lp (nS J) 0 _ (by omega) (by omega) kq
theorem sumN_4 {g : Nat → Int} : ∀ m, sumN (4 * m) g = sumN m (fun s => sumN 4 (fun h => g (4 * s + h))) := by
  intro m
  induction m with
  | zero => rfl
  | succ m ih =>
    show sumN (4 * m + 4) g = sumN m (fun s => sumN 4 (fun h => g (4 * s + h))) + sumN 4 (fun h => g (4 * m + h))
    rw [← ih]
    simp only [sumN, Nat.add_assoc, Nat.add_zero]
    omega
theorem sumN_ext {g : Nat → Int} {n : Nat} : ∀ m, (∀ k, n ≤ k → k < n + m → g k = 0) → sumN (n + m) g = sumN n g := by
  intro m
  induction m with
  | zero => intro _; rfl
  | succ m ih =>
    intro h
    show sumN (n + m) g + g (n + m) = _
    rw [ih (fun k a b => h k a (by omega)), h (n + m) (by omega) (by omega), Int.add_zero]
def crO (J : HI) (w : Nat) : Int := sumN 24 (fun j => J 32 (w + 6 * j))
theorem crO_eq {J : HI} {w : Nat} (hz : ZF J (J 32)) (h6 : nS J ≤ 6) (hn : (nS J : Int) = J 4 1) (hw : w < 6) : crO J w = sumN (nS J) (fun s => sumN 4 (fun h => J 32 (24 * s + 6 * h + w))) := by
  have h1 := sumN_4 (g := fun j => J 32 (w + 6 * j)) 6
  have h2 : ∀ s, sumN 4 (fun h => J 32 (w + 6 * (4 * s + h))) = sumN 4 (fun h => J 32 (24 * s + 6 * h + w)) := fun s => sumN_congr (fun h _ => by rw [show w + 6 * (4 * s + h) = 24 * s + 6 * h + w by omega])
  have h3 : sumN 6 (fun s => sumN 4 (fun h => J 32 (24 * s + 6 * h + w))) = sumN (nS J) (fun s => sumN 4 (fun h => J 32 (24 * s + 6 * h + w))) := by
    have := sumN_ext (g := fun s => sumN 4 (fun h => J 32 (24 * s + 6 * h + w))) (n := nS J) (6 - nS J) (fun s a b => sumN_zero (fun h hh => hz s h w (by omega) hh hw (fun z => by omega)))
    rw [show nS J + (6 - nS J) = 6 by omega] at this
    exact this
  unfold crO
  rw [show (24 : Nat) = 4 * 6 from rfl, h1, ← h3]
  exact sumN_congr (fun s _ => h2 s)
theorem spq_cratesOf {J K : HI} {Q : Option AV → HI → Prop} {C : Nat → List Int} {b w : Nat} (hM : MN J K C b) (hw : w < 6) (kq : Q (some (aI (crO J w))) K) : Rj MX12_cratesOf 1 [aR 57, aI (w : Int)] K Q := by
  have hR := hM.1
  have hb := hR.1
  have hb2 := hR.2.1
  have q := hR.2.2.2.1
  obtain ⟨n6, n1⟩ := nS_in hR.2.2.2.2.2.2.2.2.2
  rw [crO_eq hM.2.2.2.2.1 n6 n1 hw] at kq
  have bd : ∀ n s, 0 ≤ sumN n (fun h => J 32 (24 * s + 6 * h + w)) ∧ sumN n (fun h => J 32 (24 * s + 6 * h + w)) ≤ n * 20 := fun n s => by
    have := sumN_le (n := n) (f := fun h => J 32 (24 * s + 6 * h + w)) (a := 0) (b := 20) (fun k _ => hM.2.2.1.2.2.2.1 _)
    omega
  have bd2 : ∀ n, 0 ≤ sumN n (fun s => sumN 4 (fun h => J 32 (24 * s + 6 * h + w))) ∧ sumN n (fun s => sumN 4 (fun h => J 32 (24 * s + 6 * h + w))) ≤ n * 80 := fun n => by
    have := sumN_le (n := n) (f := fun s => sumN 4 (fun h => J 32 (24 * s + 6 * h + w))) (a := 0) (b := 80) (fun k _ => by have := bd 4 k; omega)
    omega
  have outer : ∀ (n i : Nat) (y z : Int) (x : Option AV), z = (i : Int) → i + n = nS J → y = sumN i (fun s => sumN 4 (fun h => J 32 (24 * s + 6 * h + w))) → Bj MX12_cratesOf 1 4 [some (aR 57), some (aI (w : Int)), some (aI y), some (aI z), x] [] K Q := by
    intro n
    induction n with
    | zero =>
      intro i y z x hz hi hy
      have ei : i = nS J := by omega
      subst ei
      refine b_iload_n rfl rfl ?_
      refine b_aload_n rfl rfl ?_
      refine b_getR (r := 62) rfl fl12_63 rfl (by decide) rfl rfl ?_
      refine b_aload_n rfl rfl ?_
      refine b_getI rfl fl12_51 rfl (by decide) rfl ?_
      rw [hb]
      refine b_iald rfl rfl (by omega) (by omega) ?_
      try simp only [tn6, tn4, tn2, tn144, tn24, tn_cast, Int.reduceToNat]
      rw [q]
      refine b_icmp_ge (tgt := 54) rfl rfl (fun c14 => ?_) (fun c14 => ?_)
      · refine b_iload_n rfl rfl ?_
        refine b_iret rfl rfl ?_
        exact qI kq hy.symm rfl
      · omega
    | succ n ih =>
      intro i y z x hz hi hy
      subst hz
      have hb3 := bd2 i
      have inner : ∀ (n j : Nat) (y z : Int), z = (j : Int) → j + n = 4 → y = sumN i (fun s => sumN 4 (fun h => J 32 (24 * s + 6 * h + w))) + sumN j (fun h => J 32 (24 * i + 6 * h + w)) → Bj MX12_cratesOf 1 20 [some (aR 57), some (aI (w : Int)), some (aI y), some (aI (i : Int)), some (aI z)] [] K Q := by
        intro n
        induction n with
        | zero =>
          intro j y z hz hj hy
          have ej : j = 4 := by omega
          subst ej
          refine b_iload rfl rfl ?_
          refine b_iconst rfl (by decide) ?_
          refine b_icmp_ge (tgt := 48) rfl rfl (fun c23 => ?_) (fun c23 => ?_)
          · refine b_iincX (F := fun z48 => [some (aR 57), some (aI (w : Int)), some (aI y), some (aI z48), some (aI z)]) rfl rfl (by omega) (by omega) (fun _ => rfl) (fun z48 ez48 => ?_)
            refine b_goto (tgt := 4) rfl rfl ?_
            exact ih (i + 1) _ _ _ (by omega) (by omega) hy
          · omega
        | succ n ihn =>
          intro j y z hz hj hy
          subst hz
          have hb4 := bd j i
          have q87 := hM.2.2.2.1.2.2.1 (24 * i + 6 * j + w) (by omega)
          rw [Nat.mul_zero, Nat.zero_add] at q87
          have hc := hM.2.2.1.2.2.2.1 (24 * i + 6 * j + w)
          refine b_iload rfl rfl ?_
          refine b_iconst rfl (by decide) ?_
          refine b_icmp_ge (tgt := 48) rfl rfl (fun c23 => ?_) (fun c23 => ?_)
          · omega
          · refine b_iload_n rfl rfl ?_
            refine b_aload_n rfl rfl ?_
            refine b_getR (r := 87) rfl fl12_162 rfl (by decide) rfl rfl ?_
            refine b_aload_n rfl rfl ?_
            refine b_iload_n rfl rfl ?_
            refine b_iload rfl rfl ?_
            refine b_iload_n rfl rfl ?_
            refine b_callV3i (ν := MX12_at) rfl ml12_460 cvX12_at (d' := 0) (by omega) rfl (by decide) rfl (Nat.le_of_ble_eq_true rfl) ?_
            refine spm_at (by omega) (by omega) (by omega) ?_
            refine ⟨_, rfl, ?_⟩
            refine b_iald rfl rfl (by omega) (by omega) ?_
            try simp only [tn6, tn4, tn2, tn144, tn24, tn_cast, Int.reduceToNat]
            rw [q87]
            refine b_iaddN rfl (by omega) (by omega) ?_
            refine b_istoreX_n (F := fun z41 => [some (aR 57), some (aI (w : Int)), some (aI z41), some (aI (i : Int)), some (aI (j : Int))]) rfl (by decide) (fun _ => rfl) (fun z41 ez41 => ?_)
            refine b_iincX (F := fun z42 => [some (aR 57), some (aI (w : Int)), some (aI z41), some (aI (i : Int)), some (aI z42)]) rfl rfl (by omega) (by omega) (fun _ => rfl) (fun z42 ez42 => ?_)
            refine b_goto (tgt := 20) rfl rfl ?_
            refine ihn (j + 1) _ _ (by omega) (by omega) ?_
            show _ = _ + (sumN j (fun h => J 32 (24 * i + 6 * h + w)) + J 32 (24 * i + 6 * j + w))
            omega
      refine b_iload_n rfl rfl ?_
      refine b_aload_n rfl rfl ?_
      refine b_getR (r := 62) rfl fl12_63 rfl (by decide) rfl rfl ?_
      refine b_aload_n rfl rfl ?_
      refine b_getI rfl fl12_51 rfl (by decide) rfl ?_
      rw [hb]
      refine b_iald rfl rfl (by omega) (by omega) ?_
      try simp only [tn6, tn4, tn2, tn144, tn24, tn_cast, Int.reduceToNat]
      rw [q]
      refine b_icmp_ge (tgt := 54) rfl rfl (fun c14 => ?_) (fun c14 => ?_)
      · omega
      · refine b_iconst rfl (by decide) ?_
        refine b_istoreX (F := fun z18 => [some (aR 57), some (aI (w : Int)), some (aI y), some (aI (i : Int)), some (aI z18)]) rfl (by decide) (fun _ => rfl) (fun z18 ez18 => ?_)
        refine inner 4 0 _ _ (by omega) (by omega) ?_
        show y = _ + 0
        omega
  refine rj_of okX12_cratesOf (Nat.le_of_ble_eq_true rfl) rfl ?_
  refine b_iconst rfl (by decide) ?_
  refine b_istoreX_n (F := fun z1 => [some (aR 57), some (aI (w : Int)), some (aI z1), none, none]) rfl (by decide) (fun _ => rfl) (fun z1 ez1 => ?_)
  refine b_iconst rfl (by decide) ?_
  refine b_istoreX_n (F := fun z3 => [some (aR 57), some (aI (w : Int)), some (aI z1), some (aI z3), none]) rfl (by decide) (fun _ => rfl) (fun z3 ez3 => ?_)
  exact outer (nS J) 0 _ _ _ (by omega) (by omega) (by rw [ez1]; rfl)
theorem spq_isAhead {J K : HI} {Q : Option AV → HI → Prop} {C : Nat → List Int} {b : Nat} {n l : Int} (hM : MN J K C b) (k1 : l ≤ n ∧ n ≤ 200 ∧ J 30 5 + n ≤ 9999 → Q (some (aI 1)) K) (k0 : ¬ (l ≤ n ∧ n ≤ 200 ∧ J 30 5 + n ≤ 9999) → Q (some (aI 0)) K) (hl : 0 ≤ l) : Rj MX12_isAhead 1 [aR 57, aI n, aI l] K Q := by
  have q85 := hM.2.2.2.1.1
  have r := hM.2.2.1.2.2.1
  refine rj_of okX12_isAhead (Nat.le_of_ble_eq_true rfl) rfl ?_
  refine b_iload_n rfl rfl ?_
  refine b_iload_n rfl rfl ?_
  refine b_sipush rfl (by decide) ?_
  refine b_callS3i (ν := MX12_is) rfl ml12_322 csX12_is (d' := 0) (by omega) (Nat.le_of_ble_eq_true rfl) ?_
  refine spm_is (fun hy => ?_) (fun hn => ?_)
  · refine ⟨_, rfl, ?_⟩
    refine b_if_eq (tgt := 29) rfl rfl (fun z => absurd z (by decide)) (fun _ => ?_)
    refine b_aload_n rfl rfl ?_
    refine b_getR (r := 85) rfl fl12_156 rfl (by decide) rfl rfl ?_
    refine b_iconst rfl (by decide) ?_
    refine b_ialdL (k := 0) rfl rfl rfl (by decide) ?_
    try simp only [tn6, tn4, tn2, tn144, tn24, tn_cast, Int.reduceToNat]
    rw [q85]
    refine b_sipush rfl (by decide) ?_
    refine b_iload_n rfl rfl ?_
    refine b_isubN rfl (by omega) (by omega) ?_
    refine b_icmp_gt (tgt := 29) rfl rfl (fun c22 => ?_) (fun c22 => ?_)
    · refine b_iconst rfl (by decide) ?_
      refine b_zret rfl rfl (by first | decide | omega) ?_
      first
      | exact k1 (by omega)
      | exact k0 (by omega)
    · refine b_iconst rfl (by decide) ?_
      refine b_goto (tgt := 30) rfl rfl ?_
      refine b_zret rfl rfl (by first | decide | omega) ?_
      first
      | exact k1 (by omega)
      | exact k0 (by omega)
  · refine ⟨_, rfl, ?_⟩
    refine b_if_eq (tgt := 29) rfl rfl (fun _ => ?_) (fun z => absurd z (by decide))
    refine b_iconst rfl (by decide) ?_
    refine b_zret rfl rfl (by first | decide | omega) ?_
    first
    | exact k1 (by omega)
    | exact k0 (by omega)
theorem spq_tide {J K : HI} {Q : Option AV → HI → Prop} {C : Nat → List Int} {b : Nat} {h w : Int} (hM : MN J K C b) (kq : ∀ K', ScM K K' → Q (some (aI (if 0 ≤ h ∧ h ≤ 9999 then (if w = 0 then wat C h else if w = 1 then mon C h else -1) else -1))) K') : Rj MX12_tide 4 [aR 57, aI h, aI w] K Q := by
  have rr := ScM.rf hM.2.1
  have ra := AsM.rf hM.2.1
  refine rj_of okX12_tide (Nat.le_of_ble_eq_true rfl) rfl ?_
  refine b_iload_n rfl rfl ?_
  refine b_iconst rfl (by decide) ?_
  refine b_sipush rfl (by decide) ?_
  refine b_callS3i (ν := MX12_is) rfl ml12_322 csX12_is (d' := 0) (by omega) (Nat.le_of_ble_eq_true rfl) ?_
  refine spm_is (fun hy => ?_) (fun hn => ?_)
  · refine ⟨_, rfl, ?_⟩
    refine b_if_eq (tgt := 37) rfl rfl (fun z => absurd z (by decide)) (fun _ => ?_)
    refine b_iload_n rfl rfl ?_
    refine b_iconst rfl (by decide) ?_
    refine b_iconst rfl (by decide) ?_
    refine b_callS3i (ν := MX12_is) rfl ml12_322 csX12_is (d' := 0) (by omega) (Nat.le_of_ble_eq_true rfl) ?_
    refine spm_is (fun hy2 => ?_) (fun hn2 => ?_)
    · refine ⟨_, rfl, ?_⟩
      refine b_if_eq (tgt := 37) rfl rfl (fun z => absurd z (by decide)) (fun _ => ?_)
      refine b_aload_n rfl rfl ?_
      refine b_iload_n rfl rfl ?_
      refine b_if_ne (tgt := 29) rfl rfl (fun c22 => ?_) (fun c22 => ?_)
      · refine b_iconst rfl (by decide) ?_
        refine b_iload_n rfl rfl ?_
        refine b_callV2i (ν := MX12_tideIn) rfl ml12_468 cvX12_tideIn (d' := 3) (by omega) rfl (by decide) rfl (Nat.le_of_ble_eq_true rfl) ?_
        first
        | (refine spm_tideIn (f := 0) hM.1 ra (by decide) (by omega) (fun K1 hK1 => ?_)
           rw [show tdV C 0 h = wat C h from rfl])
        | (refine spm_tideIn (f := 1) hM.1 ra (by decide) (by omega) (fun K1 hK1 => ?_)
           rw [show tdV C 1 h = mon C h from rfl])
        refine ⟨_, rfl, ?_⟩
        refine b_goto (tgt := 38) rfl rfl ?_
        refine b_iret rfl rfl ?_
        first
        | exact qI (kq _ (rr.as hK1)) (by rw [if_pos hy, if_pos (by omega)]) rfl
        | exact qI (kq _ (rr.as hK1)) (by rw [if_pos hy, if_neg (by omega), if_pos (by omega)]) rfl
        | exact qI (kq K rr) (by rw [if_neg hn]) rfl
        | exact qI (kq K rr) (by rw [if_pos hy, if_neg (by omega), if_neg (by omega)]) rfl
      · refine b_iconst rfl (by decide) ?_
        refine b_goto (tgt := 30) rfl rfl ?_
        refine b_iload_n rfl rfl ?_
        refine b_callV2i (ν := MX12_tideIn) rfl ml12_468 cvX12_tideIn (d' := 3) (by omega) rfl (by decide) rfl (Nat.le_of_ble_eq_true rfl) ?_
        first
        | (refine spm_tideIn (f := 0) hM.1 ra (by decide) (by omega) (fun K1 hK1 => ?_)
           rw [show tdV C 0 h = wat C h from rfl])
        | (refine spm_tideIn (f := 1) hM.1 ra (by decide) (by omega) (fun K1 hK1 => ?_)
           rw [show tdV C 1 h = mon C h from rfl])
        refine ⟨_, rfl, ?_⟩
        refine b_goto (tgt := 38) rfl rfl ?_
        refine b_iret rfl rfl ?_
        first
        | exact qI (kq _ (rr.as hK1)) (by rw [if_pos hy, if_pos (by omega)]) rfl
        | exact qI (kq _ (rr.as hK1)) (by rw [if_pos hy, if_neg (by omega), if_pos (by omega)]) rfl
        | exact qI (kq K rr) (by rw [if_neg hn]) rfl
        | exact qI (kq K rr) (by rw [if_pos hy, if_neg (by omega), if_neg (by omega)]) rfl
    · refine ⟨_, rfl, ?_⟩
      refine b_if_eq (tgt := 37) rfl rfl (fun _ => ?_) (fun z => absurd z (by decide))
      refine b_iconst rfl (by decide) ?_
      refine b_iret rfl rfl ?_
      first
      | exact qI (kq _ (rr.as hK1)) (by rw [if_pos hy, if_pos (by omega)]) rfl
      | exact qI (kq _ (rr.as hK1)) (by rw [if_pos hy, if_neg (by omega), if_pos (by omega)]) rfl
      | exact qI (kq K rr) (by rw [if_neg hn]) rfl
      | exact qI (kq K rr) (by rw [if_pos hy, if_neg (by omega), if_neg (by omega)]) rfl
  · refine ⟨_, rfl, ?_⟩
    refine b_if_eq (tgt := 37) rfl rfl (fun _ => ?_) (fun z => absurd z (by decide))
    refine b_iconst rfl (by decide) ?_
    refine b_iret rfl rfl ?_
    first
    | exact qI (kq _ (rr.as hK1)) (by rw [if_pos hy, if_pos (by omega)]) rfl
    | exact qI (kq _ (rr.as hK1)) (by rw [if_pos hy, if_neg (by omega), if_pos (by omega)]) rfl
    | exact qI (kq K rr) (by rw [if_neg hn]) rfl
    | exact qI (kq K rr) (by rw [if_pos hy, if_neg (by omega), if_neg (by omega)]) rfl
theorem spq_rides {J K : HI} {Q : Option AV → HI → Prop} {C : Nat → List Int} {b : Nat} {a n : Int} (hM : MN J K C b) (k1 : ∀ s : Nat, a = (s : Int) → (s : Int) < J 4 1 → clk J n → ∀ K', ScM K K' → Q (some (aI (hS_ J C (J 30 5 + n) 32 s))) K') (k0 : ¬ (kO J 4 1 a ∧ clk J n) → Q (some (aI (-1))) K) : Rj MX12_rides 5 [aR 57, aI a, aI n] K Q := by
  have rr := ScM.rf hM.2.1
  have r := hM.2.2.1.2.2.1
  have q85 := hM.2.2.2.1.1
  unfold clk at k1 k0
  refine rj_of okX12_rides (Nat.le_of_ble_eq_true rfl) rfl ?_
  refine b_aload_n rfl rfl ?_
  refine b_iload_n rfl rfl ?_
  refine b_callV1i (ν := MX12_isShip) rfl ml12_479 cvX12_isShip (d' := 0) (by omega) rfl (by decide) rfl (Nat.le_of_ble_eq_true rfl) ?_
  refine spm_isShip hM.1 (fun hk => ?_) (fun hk => ?_)
  · refine ⟨_, rfl, ?_⟩
    refine b_if_eq (tgt := 17) rfl rfl (fun z => absurd z (by decide)) (fun _ => ?_)
    obtain ⟨s, rfl, hs⟩ := kO_nat (i := 1) hk
    refine b_aload_n rfl rfl ?_
    refine b_iload_n rfl rfl ?_
    refine b_iconst rfl (by decide) ?_
    refine b_callV2i (ν := MX12_isAhead) rfl ml12_509 cvX12_isAhead (d' := 1) (by omega) rfl (by decide) rfl (Nat.le_of_ble_eq_true rfl) ?_
    refine spq_isAhead hM (fun hy => ?_) (fun hn => ?_) (by decide)
    · refine ⟨_, rfl, ?_⟩
      refine b_if_ne (tgt := 19) rfl rfl (fun _ => ?_) (fun z => absurd z (by decide))
      refine b_aload_n rfl rfl ?_
      refine b_iconst rfl (by decide) ?_
      refine b_iload_n rfl rfl ?_
      refine b_callV2v (ν := MX12_carries) rfl ml12_493 cvX12_carries (d' := 1) (by omega) rfl (by decide) rfl (Nat.le_of_ble_eq_true rfl) ?_
      refine spq_carries hM hs ?_
      have hcb := car_b hM.1.2.2.2.2.2.2.2.2.2 (f := J 32) (fun k => by have := hM.2.2.1.2.2.2.1 k; omega) hs
      refine ⟨rfl, ?_⟩
      refine b_aload_n rfl rfl ?_
      refine b_aload_n rfl rfl ?_
      refine b_getR (r := 85) rfl fl12_156 rfl (by decide) rfl rfl ?_
      refine b_iconst rfl (by decide) ?_
      refine b_ialdL (k := 0) rfl rfl rfl (by decide) ?_
      try simp only [tn6, tn4, tn2, tn144, tn24, tn_cast, Int.reduceToNat]
      rw [show mCar J K (J 32) s 85 0 = J 30 5 by unfold mCar; rw [mS_cell (by decide)]; exact q85]
      refine b_iload_n rfl rfl ?_
      refine b_iaddN rfl (by omega) (by omega) ?_
      refine b_callV1i (ν := MX12_ridesIn) rfl ml12_476 cvX12_ridesIn (d' := 4) (by omega) rfl (by decide) rfl (Nat.le_of_ble_eq_true rfl) ?_
      refine spm_ridesIn (K0 := K) hM.1 (AsM.rf (asB_mS hM.2.1)) hcb.1 hcb.2 (by omega) (fun K1 hK1 => ?_)
      rw [own_W.1, own_W.2.1, own_W.2.2.1]
      refine ⟨_, rfl, ?_⟩
      refine b_iret rfl rfl ?_
      first
      | exact k1 s rfl hs hy K1 ((rr.ms).as hK1)
      | exact k0 (fun w => hn ⟨w.2.1, w.2.2.1, w.2.2.2⟩)
      | exact k0 (fun w => hk w.1)
    · refine ⟨_, rfl, ?_⟩
      refine b_if_ne (tgt := 19) rfl rfl (fun z => absurd z (by decide)) (fun _ => ?_)
      refine b_iconst rfl (by decide) ?_
      refine b_iret rfl rfl ?_
      first
      | exact k1 s rfl hs hy K1 ((rr.ms).as hK1)
      | exact k0 (fun w => hn ⟨w.2.1, w.2.2.1, w.2.2.2⟩)
      | exact k0 (fun w => hk w.1)
  · refine ⟨_, rfl, ?_⟩
    refine b_if_eq (tgt := 17) rfl rfl (fun _ => ?_) (fun z => absurd z (by decide))
    refine b_iconst rfl (by decide) ?_
    refine b_iret rfl rfl ?_
    first
    | exact k1 s rfl hs hy K1 ((rr.ms).as hK1)
    | exact k0 (fun w => hn ⟨w.2.1, w.2.2.1, w.2.2.2⟩)
    | exact k0 (fun w => hk w.1)
theorem spq_tips {J K : HI} {Q : Option AV → HI → Prop} {C : Nat → List Int} {b : Nat} {a : Int} (hM : MN J K C b) (k1 : ∀ s : Nat, a = (s : Int) → (s : Int) < J 4 1 → ∀ K', ScM K K' → Q (some (aI (tT J 32 s))) K') (k0 : ¬ kO J 4 1 a → Q (some (aI (-1000000000))) K) : Rj MX12_tips 2 [aR 57, aI a] K Q := by
  have rr := ScM.rf hM.2.1
  refine rj_of okX12_tips (Nat.le_of_ble_eq_true rfl) rfl ?_
  refine b_aload_n rfl rfl ?_
  refine b_iload_n rfl rfl ?_
  refine b_callV1i (ν := MX12_isShip) rfl ml12_479 cvX12_isShip (d' := 0) (by omega) rfl (by decide) rfl (Nat.le_of_ble_eq_true rfl) ?_
  refine spm_isShip hM.1 (fun hk => ?_) (fun hk => ?_)
  · refine ⟨_, rfl, ?_⟩
    refine b_if_ne (tgt := 12) rfl rfl (fun _ => ?_) (fun z => absurd z (by decide))
    obtain ⟨s, rfl, hs⟩ := kO_nat (i := 1) hk
    refine b_aload_n rfl rfl ?_
    refine b_iconst rfl (by decide) ?_
    refine b_iload_n rfl rfl ?_
    refine b_callV2v (ν := MX12_carries) rfl ml12_493 cvX12_carries (d' := 1) (by omega) rfl (by decide) rfl (Nat.le_of_ble_eq_true rfl) ?_
    refine spq_carries hM hs ?_
    refine ⟨rfl, ?_⟩
    refine b_aload_n rfl rfl ?_
    refine b_getI rfl fl12_192 rfl (by decide) rfl ?_
    refine b_iret rfl rfl ?_
    first
    | exact k0 hk
    | exact qI (k1 s rfl hs _ rr.ms) own_W.2.2.1.symm rfl
  · refine ⟨_, rfl, ?_⟩
    refine b_if_ne (tgt := 12) rfl rfl (fun z => absurd z (by decide)) (fun _ => ?_)
    refine b_ldcw (z := -1000000000) rfl kc12_496 (by decide) ?_
    refine b_iret rfl rfl ?_
    first
    | exact k0 hk
    | exact qI (k1 s rfl hs _ rr.ms) own_W.2.2.1.symm rfl
theorem spq_crates {J K : HI} {Q : Option AV → HI → Prop} {C : Nat → List Int} {b : Nat} {a h w : Int} (hM : MN J K C b) (k1 : kc_3 J a h w → Q (some (aI (J 32 (a * 24 + h * 6 + w).toNat))) K) (k0 : ¬ kc_3 J a h w → Q (some (aI (-1))) K) : Rj MX12_crates 2 [aR 57, aI a, aI h, aI w] K Q := by
  have hp := hM.1.2.2.2.2.2.2.2.2.2
  refine rj_of okX12_crates (Nat.le_of_ble_eq_true rfl) rfl ?_
  refine b_aload_n rfl rfl ?_
  refine b_iload_n rfl rfl ?_
  refine b_iload_n rfl rfl ?_
  refine b_callV2i (ν := MX12_isHold) rfl ml12_497 cvX12_isHold (d' := 1) (by omega) rfl (by decide) rfl (Nat.le_of_ble_eq_true rfl) ?_
  refine spm_isHold hM.1 (fun hk => ?_) (fun hk => ?_)
  · refine ⟨_, rfl, ?_⟩
    refine b_if_eq (tgt := 32) rfl rfl (fun z => absurd z (by decide)) (fun _ => ?_)
    refine b_aload_n rfl rfl ?_
    refine b_iload_n rfl rfl ?_
    refine b_callV1i (ν := MX12_isWare) rfl ml12_490 cvX12_isWare (d' := 0) (by omega) rfl (by decide) rfl (Nat.le_of_ble_eq_true rfl) ?_
    refine spm_isWare hM.1 (fun hw => ?_) (fun hw => ?_)
    · refine ⟨_, rfl, ?_⟩
      refine b_if_eq (tgt := 32) rfl rfl (fun z => absurd z (by decide)) (fun _ => ?_)
      have hkc : kc_3 J a h w := ⟨hk.1, hk.2.1, hk.2.2, hw⟩
      obtain ⟨s, rfl, hs⟩ := kO_nat (i := 1) hk.1
      obtain ⟨w, rfl, hw'⟩ := kO_nat (i := 0) hw
      have h9 := hk.2
      rw [show (1 * 6 + (s : Int)).toNat = 6 + s by omega] at h9
      have h8 := hp.2.2.1 s hs
      have h7 := hp.1 1 (by decide)
      have h6 := hp.1 0 (by decide)
      obtain ⟨h, rfl⟩ : ∃ x : Nat, h = (x : Int) := ⟨h.toNat, by omega⟩
      have q87 := hM.2.2.2.1.2.2.1 (24 * s + 6 * h + w) (by omega)
      rw [Nat.mul_zero, Nat.zero_add] at q87
      refine b_aload_n rfl rfl ?_
      refine b_getR (r := 87) rfl fl12_162 rfl (by decide) rfl rfl ?_
      refine b_aload_n rfl rfl ?_
      refine b_iload_n rfl rfl ?_
      refine b_iload_n rfl rfl ?_
      refine b_iload_n rfl rfl ?_
      refine b_callV3i (ν := MX12_at) rfl ml12_460 cvX12_at (d' := 0) (by omega) rfl (by decide) rfl (Nat.le_of_ble_eq_true rfl) ?_
      refine spm_at (by omega) (by omega) (by omega) ?_
      refine ⟨_, rfl, ?_⟩
      refine b_iald rfl rfl (by omega) (by omega) ?_
      try simp only [tn6, tn4, tn2, tn144, tn24, tn_cast, Int.reduceToNat]
      rw [q87]
      refine b_goto (tgt := 33) rfl rfl ?_
      refine b_iret rfl rfl ?_
      first
      | exact qI (k1 hkc) (by rw [show ((s : Int) * 24 + (h : Int) * 6 + (w : Int)).toNat = 24 * s + 6 * h + w by omega]) rfl
      | exact k0 (fun z => hw z.2.2.2)
      | exact k0 (fun z => hk ⟨z.1, z.2.1, z.2.2.1⟩)
    · refine ⟨_, rfl, ?_⟩
      refine b_if_eq (tgt := 32) rfl rfl (fun _ => ?_) (fun z => absurd z (by decide))
      refine b_iconst rfl (by decide) ?_
      refine b_iret rfl rfl ?_
      first
      | exact qI (k1 hkc) (by rw [show ((s : Int) * 24 + (h : Int) * 6 + (w : Int)).toNat = 24 * s + 6 * h + w by omega]) rfl
      | exact k0 (fun z => hw z.2.2.2)
      | exact k0 (fun z => hk ⟨z.1, z.2.1, z.2.2.1⟩)
  · refine ⟨_, rfl, ?_⟩
    refine b_if_eq (tgt := 32) rfl rfl (fun _ => ?_) (fun z => absurd z (by decide))
    refine b_iconst rfl (by decide) ?_
    refine b_iret rfl rfl ?_
    first
    | exact qI (k1 hkc) (by rw [show ((s : Int) * 24 + (h : Int) * 6 + (w : Int)).toNat = 24 * s + 6 * h + w by omega]) rfl
    | exact k0 (fun z => hw z.2.2.2)
    | exact k0 (fun z => hk ⟨z.1, z.2.1, z.2.2.1⟩)
theorem spq_ware {J K : HI} {Q : Option AV → HI → Prop} {C : Nat → List Int} {b : Nat} {a w : Int} (hM : MN J K C b) (k1 : kO J 4 0 a → Q (some (aI (if w = 0 then J 6 a.toNat else if w = 1 then J 7 a.toNat else if w = 2 then sumN 24 (fun j => J 32 (a.toNat + 6 * j)) else -1))) K) (k0 : ¬ kO J 4 0 a → Q (some (aI (-1))) K) : Rj MX12_ware 2 [aR 57, aI a, aI w] K Q := by
  have hR := hM.1
  have hb := hR.1
  have hb2 := hR.2.1
  have hp := hM.1.2.2.2.2.2.2.2.2.2
  refine rj_of okX12_ware (Nat.le_of_ble_eq_true rfl) rfl ?_
  refine b_aload_n rfl rfl ?_
  refine b_iload_n rfl rfl ?_
  refine b_callV1i (ν := MX12_isWare) rfl ml12_490 cvX12_isWare (d' := 0) (by omega) rfl (by decide) rfl (Nat.le_of_ble_eq_true rfl) ?_
  refine spm_isWare hR (fun hk => ?_) (fun hk => ?_)
  · refine ⟨_, rfl, ?_⟩
    refine b_if_ne (tgt := 10) rfl rfl (fun _ => ?_) (fun z => absurd z (by decide))
    have kk := k1 hk
    obtain ⟨s, rfl, hs⟩ := kO_nat (i := 0) hk
    rw [Int.toNat_natCast] at kk
    have h6 := hp.1 0 (by decide)
    have q := hR.2.2.2.2.2.1 s hs
    have q1 := q.1
    have q2 := q.2
    refine b_iload_n rfl rfl ?_
    refine b_if_ne (tgt := 31) rfl rfl (fun c11 => ?_) (fun c11 => ?_)
    · refine b_iload_n rfl rfl ?_
      refine b_iconst rfl (by decide) ?_
      refine b_icmp_ne (tgt := 53) rfl rfl (fun c33 => ?_) (fun c33 => ?_)
      · refine b_iload_n rfl rfl ?_
        refine b_iconst rfl (by decide) ?_
        refine b_icmp_ne (tgt := 66) rfl rfl (fun c55 => ?_) (fun c55 => ?_)
        · refine b_iconst rfl (by decide) ?_
          refine b_iret rfl rfl ?_
          first
          | exact k0 hk
          | (rw [if_pos (by omega)] at kk; exact kk)
          | (rw [if_neg (by omega), if_pos (by omega)] at kk; exact kk)
          | (rw [if_neg (by omega), if_neg (by omega), if_pos (by omega)] at kk; exact kk)
          | (rw [if_neg (by omega), if_neg (by omega), if_neg (by omega)] at kk; exact kk)
        · refine b_aload_n rfl rfl ?_
          refine b_iload_n rfl rfl ?_
          refine b_callV1i (ν := MX12_cratesOf) rfl ml12_485 cvX12_cratesOf (d' := 1) (by omega) rfl (by decide) rfl (Nat.le_of_ble_eq_true rfl) ?_
          refine spq_cratesOf hM (by omega) ?_
          refine ⟨_, rfl, ?_⟩
          refine b_goto (tgt := 67) rfl rfl ?_
          refine b_iret rfl rfl ?_
          first
          | exact k0 hk
          | (rw [if_pos (by omega)] at kk; exact kk)
          | (rw [if_neg (by omega), if_pos (by omega)] at kk; exact kk)
          | (rw [if_neg (by omega), if_neg (by omega), if_pos (by omega)] at kk; exact kk)
          | (rw [if_neg (by omega), if_neg (by omega), if_neg (by omega)] at kk; exact kk)
      · refine b_aload_n rfl rfl ?_
        refine b_getR (r := 61) rfl fl12_60 rfl (by decide) rfl rfl ?_
        refine b_bipush rfl (by decide) ?_
        refine b_aload_n rfl rfl ?_
        refine b_getI rfl fl12_51 rfl (by decide) rfl ?_
        rw [hb]
        refine b_imulN rfl (by omega) (by omega) ?_
        refine b_iload_n rfl rfl ?_
        refine b_iaddN rfl (by omega) (by omega) ?_
        refine b_iald rfl rfl (by omega) (by omega) ?_
        try simp only [tn6, tn4, tn2, tn144, tn24, tn_cast, Int.reduceToNat]
        rw [q2]
        refine b_goto (tgt := 67) rfl rfl ?_
        refine b_iret rfl rfl ?_
        first
        | exact k0 hk
        | (rw [if_pos (by omega)] at kk; exact kk)
        | (rw [if_neg (by omega), if_pos (by omega)] at kk; exact kk)
        | (rw [if_neg (by omega), if_neg (by omega), if_pos (by omega)] at kk; exact kk)
        | (rw [if_neg (by omega), if_neg (by omega), if_neg (by omega)] at kk; exact kk)
    · refine b_aload_n rfl rfl ?_
      refine b_getR (r := 60) rfl fl12_57 rfl (by decide) rfl rfl ?_
      refine b_bipush rfl (by decide) ?_
      refine b_aload_n rfl rfl ?_
      refine b_getI rfl fl12_51 rfl (by decide) rfl ?_
      rw [hb]
      refine b_imulN rfl (by omega) (by omega) ?_
      refine b_iload_n rfl rfl ?_
      refine b_iaddN rfl (by omega) (by omega) ?_
      refine b_iald rfl rfl (by omega) (by omega) ?_
      try simp only [tn6, tn4, tn2, tn144, tn24, tn_cast, Int.reduceToNat]
      rw [q1]
      refine b_goto (tgt := 67) rfl rfl ?_
      refine b_iret rfl rfl ?_
      first
      | exact k0 hk
      | (rw [if_pos (by omega)] at kk; exact kk)
      | (rw [if_neg (by omega), if_pos (by omega)] at kk; exact kk)
      | (rw [if_neg (by omega), if_neg (by omega), if_pos (by omega)] at kk; exact kk)
      | (rw [if_neg (by omega), if_neg (by omega), if_neg (by omega)] at kk; exact kk)
  · refine ⟨_, rfl, ?_⟩
    refine b_if_ne (tgt := 10) rfl rfl (fun z => absurd z (by decide)) (fun _ => ?_)
    refine b_iconst rfl (by decide) ?_
    refine b_iret rfl rfl ?_
    first
    | exact k0 hk
    | (rw [if_pos (by omega)] at kk; exact kk)
    | (rw [if_neg (by omega), if_pos (by omega)] at kk; exact kk)
    | (rw [if_neg (by omega), if_neg (by omega), if_pos (by omega)] at kk; exact kk)
    | (rw [if_neg (by omega), if_neg (by omega), if_neg (by omega)] at kk; exact kk)
