/-! ===== the reference: order ===== -/
def LF (X X' : HI) : Prop := (∀ q, q ≠ 57 → q ≠ 87 → q ≠ 90 → q ≠ 91 → X' q = X q) ∧ (∀ j, ¬ (57 ≤ j ∧ j ≤ 60) → X' 57 j = X 57 j) ∧ (∀ j, j < 144 ∨ 288 ≤ j → X' 87 j = X 87 j) ∧ asB X'
theorem LF.rf {X : HI} (h : asB X) : LF X X := ⟨fun _ _ _ _ _ => rfl, fun _ _ => rfl, fun _ _ => rfl, h⟩
theorem LF.tr {X Y Z : HI} (h : LF X Y) (h2 : LF Y Z) : LF X Z := ⟨fun q a b c d => (h2.1 q a b c d).trans (h.1 q a b c d), fun j a => (h2.2.1 j a).trans (h.2.1 j a), fun j a => (h2.2.2.1 j a).trans (h.2.2.1 j a), h2.2.2.2⟩
theorem LF.as {X Y Z : HI} (h : LF X Y) (h2 : AsM Y Z) : LF X Z := ⟨fun q a b c d => by rw [h2.1 q c d]; exact h.1 q a b c d, fun j a => by rw [h2.1 57 (by decide) (by decide)]; exact h.2.1 j a, fun j a => by rw [h2.1 87 (by decide) (by decide)]; exact h.2.2.1 j a, h2.2⟩
theorem LF.ms {X Y : HI} {W L T N : Int} (h : LF X Y) : LF X (mS Y W L T N) := by
  refine ⟨fun q a b c d => by rw [mS_cell a]; exact h.1 q a b c d, fun j a => ?_, fun j a => by rw [mS_cell (by decide)]; exact h.2.2.1 j a, asB_mS h.2.2.2⟩
  rw [← h.2.1 j a]
  unfold mS
  rw [up_n (by omega), up_n (by omega), up_n (by omega), up_n (by omega)]
theorem LF.u {X Y : HI} {c : Nat} {v : Int} (h : LF X Y) (hc : 144 ≤ c ∧ c < 288) : LF X (up Y 87 c v) := ⟨fun q a b c d => by rw [up_cell b]; exact h.1 q a b c d, fun j a => by rw [up_cell (by decide)]; exact h.2.1 j a, fun j a => by rw [up_n (by omega)]; exact h.2.2.1 j a, fun k => by rw [up_cell (by decide)]; exact h.2.2.2 k⟩
theorem LF.sr {hr kf kc : Int} {li cr rg : Nat → Int} {X Y : HI} {v : Nat} (h : LF X Y) (hs : SR hr kf kc li cr rg X v) (hv : v ≠ 1) : SR hr kf kc li cr rg Y v := by
  obtain ⟨e1, e2, e3, e4, e5⟩ := hs
  refine ⟨by rw [h.1 85 (by decide) (by decide) (by decide) (by decide)]; exact e1, fun s hs hn => by rw [h.1 86 (by decide) (by decide) (by decide) (by decide)]; exact e2 s hs (by rw [shp_of (h.1 62 (by decide) (by decide) (by decide) (by decide)) (h.2.1 13 (by omega))] at hn; exact hn), fun c hc => by rw [h.2.2.1 _ (by omega)]; exact e3 c hc, by rw [h.1 88 (by decide) (by decide) (by decide) (by decide)]; exact e4, fun k w hk hw => by rw [h.1 89 (by decide) (by decide) (by decide) (by decide)]; exact e5 k w hk hw⟩
theorem MN.lf {J X Y : HI} {C : Nat → List Int} {b : Nat} (h : MN J X C b) (h2 : LF X Y) : MN J Y C b :=
  ⟨h.1.to (h2.2.1 13 (by omega)) (fun q hq => h2.1 q (by unfold mcell at hq; omega) (by unfold mcell at hq; omega) (by unfold mcell at hq; omega) (by unfold mcell at hq; omega)), h2.2.2.2, h.2.2.1, h2.sr h.2.2.2.1 (by decide), h.2.2.2.2⟩
theorem spm_isLadedSo {J X : HI} {Q : Option AV → HI → Prop} {C : Nat → List Int} {b s t k m : Nat} {f : Nat → Int} (hM : MN J X C b) (hT : RTp J X) (hs : (s : Int) < J 4 1) (hl : J 31 s = (t : Int)) (ht : (t : Int) < J 4 2) (hc : acP J (s : Int)) (hm : J 1 1 = 2 * (m : Int)) (hk : k < m) (hf : ∀ c, c < 144 → X 87 (144 + c) = f c) (hfb : ∀ c, 0 ≤ f c ∧ f c ≤ 30) (hz : ZF J f) (k1 : f (oA J s k) ≠ 20 ∧ SFV J s t (tOf J (ad f (oA J s k) 1) s) (hei C (J 30 5) (wOf J (ad f (oA J s k) 1) s) (lOf J (ad f (oA J s k) 1) s) (tOf J (ad f (oA J s k) 1) s)) ∧ ALV C (J 30 5) (wOf J (ad f (oA J s k) 1) s) (lOf J (ad f (oA J s k) 1) s) (tOf J (ad f (oA J s k) 1) s) (nOf J (ad f (oA J s k) 1) s) (hei C (J 30 5) (wOf J (ad f (oA J s k) 1) s) (lOf J (ad f (oA J s k) 1) s) (tOf J (ad f (oA J s k) 1) s)) → ∀ X', LF X X' → (∀ c, c < 144 → X' 87 (144 + c) = ad f (oA J s k) 1 c) → Q (some (aI 1)) X') (k0 : ¬ (f (oA J s k) ≠ 20 ∧ SFV J s t (tOf J (ad f (oA J s k) 1) s) (hei C (J 30 5) (wOf J (ad f (oA J s k) 1) s) (lOf J (ad f (oA J s k) 1) s) (tOf J (ad f (oA J s k) 1) s)) ∧ ALV C (J 30 5) (wOf J (ad f (oA J s k) 1) s) (lOf J (ad f (oA J s k) 1) s) (tOf J (ad f (oA J s k) 1) s) (nOf J (ad f (oA J s k) 1) s) (hei C (J 30 5) (wOf J (ad f (oA J s k) 1) s) (lOf J (ad f (oA J s k) 1) s) (tOf J (ad f (oA J s k) 1) s))) → ∀ X', LF X X' → Q (some (aI 0)) X') : Rj MX12_isLadedSo 6 [aR 57, aI (s : Int), aI (k : Int)] X Q := by
  have hR := hM.1
  have hp := hR.2.2.2.2.2.2.2.2.2
  have r := hM.2.2.1.2.2.1
  have hm6 : m ≤ 6 := by have := hc.2.1; omega
  obtain ⟨a1, a2, a3, a4, a5, a6⟩ := oA_in hp hc hm hk
  have q1 := hT.2.2 (2 * k) (by omega)
  have q2 := hT.2.2 (2 * k + 1) (by omega)
  rw [show ((2 * k : Nat) : Int) = 2 * (k : Int) by omega] at q1
  rw [show ((2 * k + 1 : Nat) : Int) = 2 * (k : Int) + 1 by omega] at q2
  have hkc := hc.2.2.2 k (by omega)
  have hoe : 24 * s + 6 * (tAt J (2 * (k : Int))).toNat + (tAt J (2 * (k : Int) + 1)).toNat = oA J s k := rfl
  have hfb2 : ∀ c, 0 ≤ ad f (oA J s k) 1 c ∧ ad f (oA J s k) 1 c ≤ 50 := fun c => by
    have := hfb c
    unfold ad
    split <;> omega
  have hz2 : ZF J (ad f (oA J s k) 1) := fun s' h w h1 h2 h3 hn => by
    have h0 := hz s' h w h1 h2 h3 hn
    unfold ad
    rw [if_neg (fun e => hn ?_), Int.add_zero]
    · exact h0
    · have hk1 := hkc.2.2.1
      have hk3 : tAt J (2 * (k : Int) + 1) < J 4 0 := hkc.2.2.2.2.2.2
      rw [show (1 * 6 + (s : Int)).toNat = 6 + s by omega] at hk1
      have e2 : s' = s ∧ h = (tAt J (2 * (k : Int))).toNat ∧ w = (tAt J (2 * (k : Int) + 1)).toNat := by omega
      obtain ⟨rfl, rfl, rfl⟩ := e2
      exact ⟨hs, by unfold nH; omega, by omega⟩
  generalize hA : oA J s k = A at *
  have fA := hfb A
  have qA : X 87 (144 + A) = f A := hf A a6
  have hf2 : ∀ c, c < 144 → up X 87 (144 + A) (f A + 1) 87 (144 + c) = ad f A 1 c := fun c hc => by
    rw [up_ap]
    unfold ad
    by_cases e : c = A
    · rw [if_pos ⟨rfl, by omega⟩, if_pos e, e]
    · rw [if_neg (by omega), if_neg e, Int.add_zero]; exact hf c hc
  have lf2 : LF X (up X 87 (144 + A) (f A + 1)) := (LF.rf hM.2.1).u (by omega)
  have hM2 := hM.lf lf2
  have hcb := car_b hp hfb2 hs
  have e26 : (144 + ((24 * s + 6 * (tAt J (2 * (k : Int))).toNat + (tAt J (2 * (k : Int) + 1)).toNat : Nat) : Int)) = ((144 + A : Nat) : Int) := by omega
  refine rj_of okX12_isLadedSo (Nat.le_of_ble_eq_true rfl) rfl ?_
  refine b_sipush rfl (by decide) ?_
  refine b_aload_n rfl rfl ?_
  refine b_iload_n rfl rfl ?_
  refine b_aload_n rfl rfl ?_
  refine b_getR (r := 58) rfl fl12_7 rfl (by decide) rfl rfl ?_
  refine b_iconst rfl (by decide) ?_
  refine b_iload_n rfl rfl ?_
  refine b_imulN rfl (by omega) (by omega) ?_
  refine b_iald rfl rfl (by omega) (by omega) ?_
  try simp only [tn6, tn4, tn2, tn144, tn24, tn_cast, Int.reduceToNat]
  rw [show (2 * (k : Int)).toNat = 2 * k by omega, q1]
  refine b_aload_n rfl rfl ?_
  refine b_getR (r := 58) rfl fl12_7 rfl (by decide) rfl rfl ?_
  refine b_iconst rfl (by decide) ?_
  refine b_iload_n rfl rfl ?_
  refine b_imulN rfl (by omega) (by omega) ?_
  refine b_iconst rfl (by decide) ?_
  refine b_iaddN rfl (by omega) (by omega) ?_
  refine b_iald rfl rfl (by omega) (by omega) ?_
  try simp only [tn6, tn4, tn2, tn144, tn24, tn_cast, Int.reduceToNat]
  rw [show (2 * (k : Int) + 1).toNat = 2 * k + 1 by omega, q2]
  refine b_callV3i (ν := MX12_at) rfl ml12_460 cvX12_at (d' := 0) (by omega) rfl (by decide) rfl (Nat.le_of_ble_eq_true rfl) ?_
  refine spm_at' (s := s) (h := (tAt J (2 * (k : Int))).toNat) (w := (tAt J (2 * (k : Int) + 1)).toNat) rfl (by omega) (by omega) (by omega) (by omega) (by omega) ?_
  refine ⟨_, rfl, ?_⟩
  refine b_iaddN rfl (by omega) (by omega) ?_
  rw [e26]
  refine b_istoreX_n (F := fun z27 => [some (aR 57), some (aI (s : Int)), some (aI (k : Int)), some (aI z27)]) rfl (by decide) (fun _ => rfl) (fun z27 ez27 => ?_)
  have e27 : z27.toNat = 144 + A := by omega
  refine b_aload_n rfl rfl ?_
  refine b_getR (r := 87) rfl fl12_162 rfl (by decide) rfl rfl ?_
  refine b_iload_n rfl rfl ?_
  refine b_iald rfl rfl (by omega) (by omega) ?_
  try simp only [tn6, tn4, tn2, tn144, tn24, tn_cast, Int.reduceToNat]
  rw [e27, qA]
  refine b_bipush rfl (by decide) ?_
  refine b_icmp_ne (tgt := 41) rfl rfl (fun c36 => ?_) (fun c36 => ?_)
  · refine b_aload_n rfl rfl ?_
    refine b_getR (r := 87) rfl fl12_162 rfl (by decide) rfl rfl ?_
    refine b_iload_n rfl rfl ?_
    refine b_dup2 rfl rfl rfl ?_
    refine b_iald rfl rfl (by omega) (by omega) ?_
    try simp only [tn6, tn4, tn2, tn144, tn24, tn_cast, Int.reduceToNat]
    rw [e27, qA]
    refine b_iconst rfl (by decide) ?_
    refine b_iaddN rfl (by omega) (by omega) ?_
    refine b_iast rfl rfl (by omega) (by omega) ?_
    try simp only [tn6, tn4, tn2, tn144, tn24, tn_cast, Int.reduceToNat]
    rw [e27]
    refine b_aload_n rfl rfl ?_
    refine b_iconst rfl (by decide) ?_
    refine b_iload_n rfl rfl ?_
    refine b_callV2v (ν := MX12_carries) rfl ml12_493 cvX12_carries (d' := 1) (by omega) rfl (by decide) rfl (Nat.le_of_ble_eq_true rfl) ?_
    refine spm_carries (v := 1) (f := ad f A 1) hM2.1 (by decide) hs hf2 hfb2 hz2 ?_
    have q85 : mCar J (up X 87 (144 + A) (f A + 1)) (ad f A 1) s 85 0 = J 30 5 := by rw [mCar_cell (by decide)]; exact hM2.2.2.2.1.1
    refine ⟨rfl, ?_⟩
    refine b_aload_n rfl rfl ?_
    refine b_iload_n rfl rfl ?_
    refine b_aload_n rfl rfl ?_
    refine b_iconst rfl (by decide) ?_
    refine b_iload_n rfl rfl ?_
    refine b_callV2i (ν := MX12_liesIn) rfl ml12_482 cvX12_liesIn (d' := 0) (by omega) rfl (by decide) rfl (Nat.le_of_ble_eq_true rfl) ?_
    refine spq_liesIn (hM2.lf (LF.rf hM2.2.1).ms) a5 ?_
    rw [hl]
    refine ⟨_, rfl, ?_⟩
    refine b_aload_n rfl rfl ?_
    refine b_getR (r := 85) rfl fl12_156 rfl (by decide) rfl rfl ?_
    refine b_iconst rfl (by decide) ?_
    refine b_ialdL (k := 0) rfl rfl rfl (by decide) ?_
    try simp only [tn6, tn4, tn2, tn144, tn24, tn_cast, Int.reduceToNat]
    rw [q85]
    refine b_callV3i (ν := MX12_isSafe) rfl ml12_506 cvX12_isSafe (d' := 5) (by omega) rfl (by decide) rfl (Nat.le_of_ble_eq_true rfl) ?_
    refine spm_isSafe (K0 := up X 87 (144 + A) (f A + 1)) hM2.1 (AsM.rf (asB_mS hM2.2.1)) hs ht hcb.1 hcb.2 (by omega) (fun hsf K2 hK2 => ?_) (fun hsf K2 hK2 => ?_)
    all_goals have q852 : K2 85 0 = J 30 5 := by rw [hK2.1 85 (by decide) (by decide), mS_cell (by decide)]; exact hM2.2.2.2.1.1
    · refine ⟨_, rfl, ?_⟩
      refine b_if_eq (tgt := 94) rfl rfl (fun z => absurd z (by decide)) (fun _ => ?_)
      refine b_aload_n rfl rfl ?_
      refine b_aload_n rfl rfl ?_
      refine b_getR (r := 85) rfl fl12_156 rfl (by decide) rfl rfl ?_
      refine b_iconst rfl (by decide) ?_
      refine b_ialdL (k := 0) rfl rfl rfl (by decide) ?_
      try simp only [tn6, tn4, tn2, tn144, tn24, tn_cast, Int.reduceToNat]
      rw [q852]
      refine b_callV1i (ν := MX12_isAllowed) rfl ml12_516 cvX12_isAllowed (d' := 5) (by omega) rfl (by decide) rfl (Nat.le_of_ble_eq_true rfl) ?_
      refine spm_isAllowed (K0 := up X 87 (144 + A) (f A + 1)) hM2.1 hK2 hcb.1 hcb.2 (by omega) (fun hal K3 hK3 => ?_) (fun hal K3 hK3 => ?_)
      · refine ⟨_, rfl, ?_⟩
        refine b_if_eq (tgt := 94) rfl rfl (fun z => absurd z (by decide)) (fun _ => ?_)
        refine b_iconst rfl (by decide) ?_
        refine b_goto (tgt := 95) rfl rfl ?_
        refine b_zret rfl rfl (by first | decide | omega) ?_
        first
        | exact k1 ⟨by omega, hsf, hal⟩ K3 (lf2.ms.as hK3) (fun c hc => by rw [hK3.1 87 (by decide) (by decide), mS_cell (by decide)]; exact hf2 c hc)
        | exact k0 (fun w => hal w.2.2) K3 (lf2.ms.as hK3)
        | exact k0 (fun w => hsf w.2.1) K2 (lf2.ms.as hK2)
        | exact k0 (fun w => w.1 (by omega)) X (LF.rf hM.2.1)
      · refine ⟨_, rfl, ?_⟩
        refine b_if_eq (tgt := 94) rfl rfl (fun _ => ?_) (fun z => absurd z (by decide))
        refine b_iconst rfl (by decide) ?_
        refine b_zret rfl rfl (by first | decide | omega) ?_
        first
        | exact k1 ⟨by omega, hsf, hal⟩ K3 (lf2.ms.as hK3) (fun c hc => by rw [hK3.1 87 (by decide) (by decide), mS_cell (by decide)]; exact hf2 c hc)
        | exact k0 (fun w => hal w.2.2) K3 (lf2.ms.as hK3)
        | exact k0 (fun w => hsf w.2.1) K2 (lf2.ms.as hK2)
        | exact k0 (fun w => w.1 (by omega)) X (LF.rf hM.2.1)
    · refine ⟨_, rfl, ?_⟩
      refine b_if_eq (tgt := 94) rfl rfl (fun _ => ?_) (fun z => absurd z (by decide))
      refine b_iconst rfl (by decide) ?_
      refine b_zret rfl rfl (by first | decide | omega) ?_
      first
      | exact k1 ⟨by omega, hsf, hal⟩ K3 (lf2.ms.as hK3) (fun c hc => by rw [hK3.1 87 (by decide) (by decide), mS_cell (by decide)]; exact hf2 c hc)
      | exact k0 (fun w => hal w.2.2) K3 (lf2.ms.as hK3)
      | exact k0 (fun w => hsf w.2.1) K2 (lf2.ms.as hK2)
      | exact k0 (fun w => w.1 (by omega)) X (LF.rf hM.2.1)
  · refine b_iconst rfl (by decide) ?_
    refine b_zret rfl rfl (by first | decide | omega) ?_
    first
    | exact k1 ⟨by omega, hsf, hal⟩ K3 (lf2.ms.as hK3) (fun c hc => by rw [hK3.1 87 (by decide) (by decide), mS_cell (by decide)]; exact hf2 c hc)
    | exact k0 (fun w => hal w.2.2) K3 (lf2.ms.as hK3)
    | exact k0 (fun w => hsf w.2.1) K2 (lf2.ms.as hK2)
    | exact k0 (fun w => w.1 (by omega)) X (LF.rf hM.2.1)
def pre (m w j : Nat) : Nat := w / m ^ (m - j)
theorem pre_s {m w j : Nat} (hj : j < m) : pre m w (j + 1) / m = pre m w j := by
  unfold pre
  rw [Nat.div_div_eq_div_mul, ← Nat.pow_succ, show (m - (j + 1)).succ = m - j by omega]
theorem pre_m {m w : Nat} : pre m w m = w := by unfold pre; rw [Nat.sub_self, Nat.pow_zero, Nat.div_one]
def dg (m w j : Nat) : Nat := pre m w (j + 1) % m
theorem spm_isOrder {X : HI} {Q : Option AV → HI → Prop} {m w : Nat} (hm : 0 < m) (hm6 : m ≤ 6) (hw : w < 1000000) (k1 : oT m m w = 2 ^ m - 1 → ∀ g, (∀ j, j < m → g j = (dg m w j : Int)) → Q (some (aI 1)) (row X 97 g)) (k0 : oT m m w ≠ 2 ^ m - 1 → ∀ g, Q (some (aI 0)) (row X 97 g)) : Rj MX12_isOrder 0 [aR 57, aI (m : Int), aI (w : Int)] X Q := by
  obtain ⟨p1, p64, psh⟩ := pw hm6
  have lp : ∀ (k q A : Nat) (z3 z4 z5 : Int) (g : Nat → Int), z3 = (q : Int) → z4 = (A : Int) → z5 = (k : Int) - 1 → k ≤ m → q = pre m w k → A < 64 → A ||| oT m k q = oT m m w → (∀ j, k ≤ j → j < m → g j = (dg m w j : Int)) → Bj MX12_isOrder 0 10 [some (aR 57), some (aI (m : Int)), some (aI (w : Int)), some (aI z3), some (aI z4), some (aI z5)] [] (row X 97 g) Q := by
    intro k
    induction k with
    | zero =>
      intro q A z3 z4 z5 g h3 h4 h5 hk hq hA ho hg
      have ho2 : A = oT m m w := by
        have : A ||| 0 = oT m m w := ho
        rw [Nat.or_zero] at this
        exact this
      refine b_iload rfl rfl ?_
      refine b_if_lt (tgt := 49) rfl rfl (fun c12 => ?_) (fun c12 => ?_)
      · refine b_iload rfl rfl ?_
        refine b_iconst rfl (by decide) ?_
        refine b_iload_n rfl rfl ?_
        refine b_ishl rfl ?_
        rw [psh]
        refine b_iconst rfl (by decide) ?_
        refine b_isubN rfl (by omega) (by omega) ?_
        refine b_icmp_ne (tgt := 63) rfl rfl (fun c56 => ?_) (fun c56 => ?_)
        · refine b_iconst rfl (by decide) ?_
          refine b_zret rfl rfl (by first | decide | omega) ?_
          first
          | exact k0 (by omega) g
          | exact k1 (by omega) g (fun j hj => hg j (by omega) hj)
        · refine b_iconst rfl (by decide) ?_
          refine b_goto (tgt := 64) rfl rfl ?_
          refine b_zret rfl rfl (by first | decide | omega) ?_
          first
          | exact k0 (by omega) g
          | exact k1 (by omega) g (fun j hj => hg j (by omega) hj)
      · omega
    | succ k ih =>
      intro q A z3 z4 z5 g h3 h4 h5 hk hq hA ho hg
      have e5 : z5 = (k : Int) := by omega
      subst e5
      subst h3
      subst h4
      have id1 : (q : Int) % (m : Int) = ((q % m : Nat) : Int) := by push_cast; rfl
      have id2 : (q : Int) / (m : Int) = ((q / m : Nat) : Int) := by push_cast; rfl
      have hmod := Nat.mod_lt q hm
      have hq2 : q / m = pre m w k := by rw [hq]; exact pre_s (by omega)
      have hql : q ≤ w := by rw [hq]; exact Nat.div_le_self _ _
      have ed : dg m w k = q % m := by unfold dg; rw [hq]
      have ol := or_lt hA (show q % m < 6 by omega)
      have ho2 : (A ||| 2 ^ (q % m)) ||| oT m k (q / m) = oT m m w := by
        rw [← ho]
        show _ = A ||| (oT m k (q / m) ||| 2 ^ (q % m))
        rw [Nat.or_assoc, Nat.or_comm (2 ^ (q % m))]
      have nud : ∀ v, ud g k v k = v := fun v => if_pos rfl
      refine b_iload rfl rfl ?_
      refine b_if_lt (tgt := 49) rfl rfl (fun c12 => ?_) (fun c12 => ?_)
      · omega
      · refine b_aload_n rfl rfl ?_
        refine b_getR (r := 97) rfl fl12_219 rfl (by decide) rfl rfl ?_
        refine b_iload rfl rfl ?_
        refine b_iload_n rfl rfl ?_
        refine b_iload_n rfl rfl ?_
        refine b_iremP rfl (by omega) (by omega) ?_
        rw [id1]
        refine b_iast rfl rfl (by omega) (by omega) ?_
        try simp only [tn6, tn4, tn2, tn144, tn24, tn_cast, Int.reduceToNat]
        rw [row_ud]
        refine b_iload rfl rfl ?_
        refine b_iconst rfl (by decide) ?_
        refine b_aload_n rfl rfl ?_
        refine b_getR (r := 97) rfl fl12_219 rfl (by decide) rfl rfl ?_
        refine b_iload rfl rfl ?_
        refine b_iald rfl rfl (by omega) (by omega) ?_
        try simp only [tn6, tn4, tn2, tn144, tn24, tn_cast, Int.reduceToNat]
        rw [row_same, nud]
        refine b_ishl rfl ?_
        refine b_ior rfl ?_
        rw [or_bit (by omega) hA]
        refine b_istoreX (F := fun z37 => [some (aR 57), some (aI (m : Int)), some (aI (w : Int)), some (aI (q : Int)), some (aI z37), some (aI (k : Int))]) rfl (by decide) (fun _ => rfl) (fun z37 ez37 => ?_)
        refine b_iload_n rfl rfl ?_
        refine b_iload_n rfl rfl ?_
        refine b_idivP rfl (by omega) (by omega) ?_
        rw [id2]
        refine b_istoreX_n (F := fun z42 => [some (aR 57), some (aI (m : Int)), some (aI (w : Int)), some (aI z42), some (aI z37), some (aI (k : Int))]) rfl (by decide) (fun _ => rfl) (fun z42 ez42 => ?_)
        refine b_iincX (F := fun z43 => [some (aR 57), some (aI (m : Int)), some (aI (w : Int)), some (aI z42), some (aI z37), some (aI z43)]) rfl rfl (by omega) (by omega) (fun _ => rfl) (fun z43 ez43 => ?_)
        refine b_goto (tgt := 10) rfl rfl ?_
        refine ih (q / m) (A ||| 2 ^ (q % m)) _ _ _ _ (by assumption) (by assumption) (by omega) (by omega) hq2 ol ho2 (fun j j1 j2 => ?_)
        unfold ud
        by_cases e : j = k
        · rw [if_pos e, e, ed]
        · rw [if_neg e]; exact hg j (by omega) j2
  refine rj_of okX12_isOrder (Nat.le_of_ble_eq_true rfl) rfl ?_
  refine b_iload_n rfl rfl ?_
  refine b_istoreX_n (F := fun z1 => [some (aR 57), some (aI (m : Int)), some (aI (w : Int)), some (aI z1), none, none]) rfl (by decide) (fun _ => rfl) (fun z1 ez1 => ?_)
  refine b_iconst rfl (by decide) ?_
  refine b_istoreX (F := fun z3 => [some (aR 57), some (aI (m : Int)), some (aI (w : Int)), some (aI z1), some (aI z3), none]) rfl (by decide) (fun _ => rfl) (fun z3 ez3 => ?_)
  refine b_iload_n rfl rfl ?_
  refine b_iconst rfl (by decide) ?_
  refine b_isubN rfl (by omega) (by omega) ?_
  refine b_istoreX (F := fun z8 => [some (aR 57), some (aI (m : Int)), some (aI (w : Int)), some (aI z1), some (aI z3), some (aI z8)]) rfl (by decide) (fun _ => rfl) (fun z8 ez8 => ?_)
  refine b_cg ?_ (lp m w 0 _ _ _ (X 97) (by omega) (by omega) (by omega) (Nat.le_refl _) pre_m.symm (by decide) (Nat.zero_or _) (fun j a b => absurd b (by omega)))
  rw [row_self]
