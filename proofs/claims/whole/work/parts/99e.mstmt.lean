/-! ===== the reference: statements ===== -/
def bkw (q : Nat) : Nat := if q = 59 ∨ q = 62 ∨ q = 67 ∨ q = 70 then 1 else if q = 66 then 144 else if q = 71 ∨ q = 72 then 4 else if q = 73 ∨ q = 74 then 1600 else 6
abbrev prs (j : Nat) : Prop := j = 3 ∨ j = 4 ∨ j = 5 ∨ j = 6 ∨ j = 7 ∨ j = 8 ∨ j = 9 ∨ j = 12 ∨ j = 33 ∨ j = 35 ∨ j = 41 ∨ j = 42 ∨ j = 44 ∨ j = 45
/-- only the bank m and what reading needs have changed -/
def FrB (Kb : HI) (m : Nat) (K : HI) : Prop := (∀ q, q < 57 ∨ q = 58 ∨ 83 < q → K q = Kb q) ∧ (∀ j, ¬ prs j → K 57 j = Kb 57 j) ∧ (∀ q j, 59 ≤ q ∧ q ≤ 77 → ¬ (bkw q * m ≤ j ∧ j < bkw q * m + bkw q) → K q j = Kb q j)
def RDw (I K : HI) (m : Nat) : Prop := ∀ w : Nat, (w : Int) < I 13 0 → K 60 (6 * m + w) = I 15 w ∧ K 61 (6 * m + w) = I 16 w
def RDs (I K : HI) (m : Nat) : Prop := ∀ s : Nat, (s : Int) < I 13 1 → K 63 (6 * m + s) = I 15 (6 + s) ∧ K 64 (6 * m + s) = I 16 (6 + s) ∧ K 65 (6 * m + s) = I 21 s ∧ ∀ c : Nat, c < 24 → K 66 (144 * m + 24 * s + c) = I 22 (24 * s + c)
def RDb (I K : HI) (m : Nat) : Prop := ∀ b : Nat, (b : Int) < I 13 2 → K 68 (6 * m + b) = I 15 (12 + b) ∧ K 69 (6 * m + b) = I 16 (12 + b)
def RDg (I K : HI) (m : Nat) : Prop := K 70 m = I 12 8
def RDc (I K : HI) (m : Nat) : Prop := K 57 33 = I 12 7 ∧ (∀ j : Nat, (j : Int) < I 12 7 → cm (K 73 (1600 * m + j)) (K 74 (1600 * m + j)) (I 17 j)) ∧ ∀ f, f < 4 → (K 71 (4 * m + f) = -1 ∧ ¬ I 18 f < I 19 f) ∨ (K 71 (4 * m + f) = I 18 f ∧ K 72 (4 * m + f) = I 19 f ∧ 0 ≤ I 18 f ∧ I 18 f < I 19 f ∧ I 19 f ≤ I 12 7)
def RDr (I K : HI) (m : Nat) : Prop := RDn I K m ∧ RDw I K m ∧ RDs I K m ∧ RDb I K m ∧ RDg I K m ∧ RDc I K m
def MSO (n m : Nat) (Kb I : HI) (r : SRt) (H : HI) : Prop := match r with
  | .inl e => ∃ K', FrB Kb m K' ∧ Mbad K' e.1 e.2 H
  | .inr (I', p') => (∃ K', FrB Kb m K' ∧ RDr I' K' m ∧ Mok K' n (I 2) p' H) ∨ (tk n (I 2) p' = 4 ∧ ∃ K', FrB Kb m K' ∧ Mbad K' 1 (tsp n (I 2) p' : Int) H)
section MST
variable {Kb K H I : HI} {m n p : Nat} {B : Nat → Int} {Q : Option AV → HI → Prop}
theorem MSO_e {r r' : SRt} (h : r = r') (s : MSO n m Kb I r' H) : MSO n m Kb I r H := by
  rw [h]
  exact s
theorem MSO_l {r : SRt} {k pl : Int} (h : r = .inl (k, pl)) (hF : FrB Kb m K) (hb : Mbad K k pl H) : MSO n m Kb I r H := by
  rw [h]
  exact ⟨K, hF, hb⟩
theorem MSO_r {r : SRt} {I' : HI} {p' : Nat} (h : r = .inr (I', p')) (hF : FrB Kb m K) (hR : RDr I' K m) (hM : Mok K n (I 2) p' H) : MSO n m Kb I r H := by
  rw [h]
  exact Or.inl ⟨K, hF, hR, hM⟩
theorem MTx_B (hT : MTx Kb n B) (h : FrB Kb m K) : MTx K n B := by
  obtain ⟨h1, h2, h3, h4⟩ := hT
  refine ⟨by rw [h.2.1 2 (by decide)]; exact h1, h2, fun k hk => ?_, h4⟩
  rw [h.1 58 (by omega)]
  exact h3 k hk
theorem FrB_up {q j : Nat} {x : Int} (h : FrB Kb m K) (hq : 59 ≤ q ∧ q ≤ 77) (hj : bkw q * m ≤ j ∧ j < bkw q * m + bkw q) : FrB Kb m (up K q j x) := by
  obtain ⟨h1, h2, h3⟩ := h
  refine ⟨fun q' a => ?_, fun i a => ?_, fun q' i a b => ?_⟩
  · funext i
    rw [up_ap, if_neg (by omega), h1 q' a]
  · rw [up_ap, if_neg (by omega), h2 i a]
  · rw [up_ap, if_neg (fun w => by
      obtain ⟨e1, e2⟩ := w
      subst e1
      subst e2
      exact b hj), h3 q' i a b]
theorem FrB_57 {j : Nat} {x : Int} (h : FrB Kb m K) (hj : prs j) : FrB Kb m (up K 57 j x) := by
  obtain ⟨h1, h2, h3⟩ := h
  refine ⟨fun q' a => ?_, fun i a => ?_, fun q' i a b => ?_⟩
  · funext i
    rw [up_ap, if_neg (by omega), h1 q' a]
  · rw [up_ap, if_neg (fun w => a (by rw [w.2]; exact hj)), h2 i a]
  · rw [up_ap, if_neg (by omega), h3 q' i a b]
theorem FrB_F {k0 : Nat} {x : Int} {K1 : HI} (h : FrB Kb m K) (hF : FrK (up K 57 45 x) m k0 K1) : FrB Kb m K1 := by
  obtain ⟨h1, h2, h3⟩ := h
  obtain ⟨f1, f2, f3⟩ := hF
  refine ⟨fun q' a => ?_, fun i a => ?_, fun q' i a b => ?_⟩
  · rw [f1 q' (by omega) (by omega) (by omega) (by omega)]
    funext i
    rw [up_ap, if_neg (by omega), h1 q' a]
  · unfold prs at a
    rw [f2 i (by omega) (by omega) (by omega) (by omega), up_ap, if_neg (by omega), h2 i (by unfold prs; omega)]
  · by_cases e : q' = 73 ∨ q' = 74
    · have hw : bkw q' = 1600 := by
        rcases e with e | e <;> (rw [e]; rfl)
      rw [hw] at b
      rw [f3 q' i e (by omega), up_ap, if_neg (by omega), h3 q' i a (by rw [hw]; exact b)]
    · rw [f1 q' (by omega) (by omega) (by omega) (by omega), up_ap, if_neg (by omega), h3 q' i a b]
theorem RDn_I {I' : HI} (h : RDn I K m) (h13 : I' 13 = I 13) (h14 : I' 14 = I 14) : RDn I' K m := by
  unfold RDn
  rw [h13, h14]
  exact h
theorem RDn_K {K' : HI} (h : RDn I K m) (h57 : K' 57 34 = K 57 34) (hq : ∀ q, q = 59 ∨ q = 62 ∨ q = 67 ∨ q = 75 ∨ q = 76 ∨ q = 77 → K' q = K q) : RDn I K' m := by
  obtain ⟨h1, h2, h3, h4⟩ := h
  have hc : ∀ k, k < 3 → cnC k = 59 ∨ cnC k = 62 ∨ cnC k = 67 := by decide
  refine ⟨by rw [h57]; exact h1, h2, fun k hk => ?_, fun k hk w hw => ?_⟩
  · rw [hq _ (by have := hc k hk; omega)]
    exact h3 k hk
  · rw [hq _ (by omega)]
    exact h4 k hk w hw
theorem RDr_g {v : Int} (h : RDr I K m) : RDr (up I 12 8 v) (up K 70 m v) m := by
  obtain ⟨h1, h2, h3, h4, h5, h6⟩ := h
  refine ⟨RDn_I (RDn_K h1 (by rw [up_ap, if_neg (by omega)]) (fun q hq => by funext i; rw [up_ap, if_neg (by omega)])) (by funext i; rw [up_ap, if_neg (by omega)]) (by funext i; rw [up_ap, if_neg (by omega)]), fun w hw => ?_, fun s hs => ?_, fun b hb => ?_, ?_, ?_, fun j hj => ?_, fun f hf => ?_⟩
  · rw [up_ap, if_neg (by omega)] at hw
    simp only [up_ap, Nat.reduceEqDiff, false_and, reduceIte]
    exact h2 w hw
  · rw [up_ap, if_neg (by omega)] at hs
    simp only [up_ap, Nat.reduceEqDiff, false_and, reduceIte]
    exact h3 s hs
  · rw [up_ap, if_neg (by omega)] at hb
    simp only [up_ap, Nat.reduceEqDiff, false_and, reduceIte]
    exact h4 b hb
  · unfold RDg
    rw [up_ap, if_pos ⟨rfl, rfl⟩, up_ap, if_pos ⟨rfl, rfl⟩]
  · rw [up_ap, if_neg (by omega), up_ap, if_neg (by omega)]
    exact h6.1
  · rw [up_ap, if_neg (by omega)] at hj
    simp only [up_ap, Nat.reduceEqDiff, false_and, reduceIte]
    exact h6.2.1 j hj
  · rw [show up I 12 8 v 12 7 = I 12 7 by rw [up_ap, if_neg (by omega)]]
    simp only [up_ap, Nat.reduceEqDiff, false_and, reduceIte]
    exact h6.2.2 f hf
theorem RDr_lo {v : Int} {s h w : Nat} (hs : (s : Int) < I 13 1) (hh : h < 4) (hw : w < 6) (hR : RDr I K m) : RDr (up I 22 (24 * s + 6 * h + w) v) (up K 66 (144 * m + 6 * (4 * s + h) + w) v) m := by
  obtain ⟨h1, h2, h3, h4, h5, h6⟩ := hR
  refine ⟨RDn_I (RDn_K h1 (by rw [up_ap, if_neg (by omega)]) (fun q hq => by funext i; rw [up_ap, if_neg (by omega)])) (by funext i; rw [up_ap, if_neg (by omega)]) (by funext i; rw [up_ap, if_neg (by omega)]), fun w hw => ?_, fun s' hs' => ?_, fun b hb => ?_, ?_, ?_, fun j hj => ?_, fun f hf => ?_⟩
  · rw [up_ap, if_neg (by omega)] at hw
    simp only [up_ap, Nat.reduceEqDiff, false_and, reduceIte]
    exact h2 w hw
  · rw [up_ap, if_neg (by omega)] at hs'
    obtain ⟨a1, a2, a3, a4⟩ := h3 s' hs'
    refine ⟨?_, ?_, ?_, fun c hc => ?_⟩
    · rw [up_ap, if_neg (by omega), up_ap, if_neg (by omega)]; exact a1
    · rw [up_ap, if_neg (by omega), up_ap, if_neg (by omega)]; exact a2
    · rw [up_ap, if_neg (by omega), up_ap, if_neg (by omega)]; exact a3
    · rw [up_ap, up_ap]
      by_cases e : 24 * s' + c = 24 * s + 6 * h + w
      · rw [if_pos ⟨rfl, by omega⟩, if_pos ⟨rfl, e⟩]
      · rw [if_neg (by omega), if_neg (by omega)]
        exact a4 c hc
  · rw [up_ap, if_neg (by omega)] at hb
    simp only [up_ap, Nat.reduceEqDiff, false_and, reduceIte]
    exact h4 b hb
  · unfold RDg
    rw [up_ap, if_neg (by omega), up_ap, if_neg (by omega)]
    exact h5
  · rw [up_ap, if_neg (by omega), up_ap, if_neg (by omega)]
    exact h6.1
  · rw [up_ap, if_neg (by omega)] at hj
    simp only [up_ap, Nat.reduceEqDiff, false_and, reduceIte]
    exact h6.2.1 j hj
  · simp only [up_ap, Nat.reduceEqDiff, false_and, reduceIte]
    exact h6.2.2 f hf
theorem RDr_li {v : Int} {s : Nat} (hR : RDr I K m) : RDr (up I 21 s v) (up K 65 (6 * m + s) v) m := by
  obtain ⟨h1, h2, h3, h4, h5, h6⟩ := hR
  refine ⟨RDn_I (RDn_K h1 (by rw [up_ap, if_neg (by omega)]) (fun q hq => by funext i; rw [up_ap, if_neg (by omega)])) (by funext i; rw [up_ap, if_neg (by omega)]) (by funext i; rw [up_ap, if_neg (by omega)]), fun w hw => ?_, fun s' hs' => ?_, fun b hb => ?_, ?_, ?_, fun j hj => ?_, fun f hf => ?_⟩
  · rw [up_ap, if_neg (by omega)] at hw
    simp only [up_ap, Nat.reduceEqDiff, false_and, reduceIte]
    exact h2 w hw
  · rw [up_ap, if_neg (by omega)] at hs'
    obtain ⟨a1, a2, a3, a4⟩ := h3 s' hs'
    refine ⟨?_, ?_, ?_, fun c hc => ?_⟩
    · rw [up_ap, if_neg (by omega), up_ap, if_neg (by omega)]; exact a1
    · rw [up_ap, if_neg (by omega), up_ap, if_neg (by omega)]; exact a2
    · rw [up_ap, up_ap]
      by_cases e : s' = s
      · rw [if_pos ⟨rfl, by omega⟩, if_pos ⟨rfl, e⟩]
      · rw [if_neg (by omega), if_neg (by omega)]; exact a3
    · rw [up_ap, if_neg (by omega), up_ap, if_neg (by omega)]
      exact a4 c hc
  · rw [up_ap, if_neg (by omega)] at hb
    simp only [up_ap, Nat.reduceEqDiff, false_and, reduceIte]
    exact h4 b hb
  · unfold RDg
    rw [up_ap, if_neg (by omega), up_ap, if_neg (by omega)]
    exact h5
  · rw [up_ap, if_neg (by omega), up_ap, if_neg (by omega)]
    exact h6.1
  · rw [up_ap, if_neg (by omega)] at hj
    simp only [up_ap, Nat.reduceEqDiff, false_and, reduceIte]
    exact h6.2.1 j hj
  · simp only [up_ap, Nat.reduceEqDiff, false_and, reduceIte]
    exact h6.2.2 f hf
theorem mr_galeing (hT : MTx Kb n (I 2)) (hF : FrB Kb m K) (hR : RDr I K m) (hk : tk n (I 2) p = 1) (hM : Mok K n (I 2) p H) (kq : ∀ H', MSO n m Kb I (stGa n I p) H' → Q none H') : Rj MX12_galeing 3 [aR 57] H Q := by
  refine rj_of okX12_galeing (Nat.le_of_ble_eq_true rfl) rfl ?_
  have hm := hR.1.2.1
  have hTK := MTx_B hT hF
  have b17 : ∀ (z k pl : Int) (H1 : HI), stGa n I p = .inl (k, pl) → Mbad K k pl H1 → Bj MX12_galeing 3 17 [some (aR 57), some (aI z)] [] H1 Q := by
    intro z k pl H1 e hb
    have hf := Mbad_f hb
    refine b_aload_n rfl rfl ?_
    refine b_getI rfl fl12_36 rfl (by decide) rfl ?_
    refine b_if_ne (tgt := 34) rfl rfl (fun c21 => ?_) (fun c21 => ?_)
    · refine b_vret rfl rfl ?_
      exact kq _ (MSO_l e hF hb)
    · omega
  have g17 : ∀ (z : Int) (p' : Nat) (H1 : HI), stGa n I p = .inr (up I 12 8 z, p') → Mok K n (I 2) p' H1 → Bj MX12_galeing 3 17 [some (aR 57), some (aI z)] [] H1 Q := by
    intro z p' H1 e hM1
    obtain ⟨si, sa, en, va, wo, lx, e1, h⟩ := hM1
    subst e1
    have h34 := hR.1.1
    refine b_aload_n rfl rfl ?_
    refine b_getI rfl fl12_36 rfl (by decide) rfl ?_
    rw [MX_8]
    refine b_if_ne (tgt := 34) rfl rfl (fun c21 => ?_) (fun c21 => ?_)
    · omega
    · refine b_aload_n rfl rfl ?_
      refine b_getR (r := 70) rfl fl12_87 rfl (by decide) rfl rfl ?_
      refine b_aload_n rfl rfl ?_
      refine b_getI rfl fl12_115 rfl (by decide) rfl ?_
      rw [MXo (by decide)]
      rw [h34]
      refine b_iload_n rfl rfl ?_
      refine b_iast rfl rfl (by omega) (by omega) ?_
      try simp only [tn6, tn4, tn2, tn144, tn24, tn_cast, Int.reduceToNat]
      rw [MX_ux (by decide)]
      refine b_vret rfl rfl ?_
      try rw [Int.toNat_natCast]
      exact kq _ (MSO_r e (FrB_up hF (by omega) (by show 1 * m ≤ m ∧ m < 1 * m + 1; omega)) (RDr_g hR) ⟨si, sa, en, va, wo, lx, rfl, h⟩)
  refine b_aload_n rfl rfl ?_
  refine b_iconst rfl (by decide) ?_
  refine b_callV1i (ν := MX12_counts) rfl ml12_368 cvX12_counts (d' := 2) (by omega) rfl (by decide) rfl (Nat.le_of_ble_eq_true rfl) ?_
  refine mk_counts (Or.inl rfl) hTK hM hk (fun _ H1 hM1 => ?_) (fun w => absurd w (by decide))
  refine ⟨_, rfl, ?_⟩
  refine b_if_ne (tgt := 9) rfl rfl (fun c5 => ?_) (fun c5 => ?_)
  · refine b_aload_n rfl rfl ?_
    refine b_iconst rfl (by decide) ?_
    refine b_bipush rfl (by decide) ?_
    refine b_callV2i (ν := MX12_number) rfl ml12_380 cvX12_number (d' := 2) (by omega) rfl (by decide) rfl (Nat.le_of_ble_eq_true rfl) ?_
    refine mk_number hTK hM1 (fun h1 h2 h3 H2 hM2 => ?_) (fun h1 h2 z H2 hb => ?_) (fun h1 z H2 hb => ?_)
    · refine ⟨_, rfl, ?_⟩
      refine b_istoreX_n (F := fun z16 => [some (aR 57), some (aI z16)]) rfl (by decide) (fun _ => rfl) (fun z16 ez16 => ?_)
      first
      | exact b17 _ _ _ _ (if_neg h1) hb
      | exact b17 _ _ _ _ ((if_pos h1).trans (if_neg h2)) hb
      | exact g17 _ _ _ ((if_pos h1).trans ((if_pos ⟨h2, h3⟩).trans (by rw [ez16]))) hM2
    · refine ⟨_, rfl, ?_⟩
      refine b_istoreX_n (F := fun z16 => [some (aR 57), some (aI z16)]) rfl (by decide) (fun _ => rfl) (fun z16 ez16 => ?_)
      first
      | exact b17 _ _ _ _ (if_neg h1) hb
      | exact b17 _ _ _ _ ((if_pos h1).trans (if_neg h2)) hb
      | exact g17 _ _ _ ((if_pos h1).trans ((if_pos ⟨h2, h3⟩).trans (by rw [ez16]))) hM2
    · refine ⟨_, rfl, ?_⟩
      refine b_istoreX_n (F := fun z16 => [some (aR 57), some (aI z16)]) rfl (by decide) (fun _ => rfl) (fun z16 ez16 => ?_)
      first
      | exact b17 _ _ _ _ (if_neg h1) hb
      | exact b17 _ _ _ _ ((if_pos h1).trans (if_neg h2)) hb
      | exact g17 _ _ _ ((if_pos h1).trans ((if_pos ⟨h2, h3⟩).trans (by rw [ez16]))) hM2
  · omega
end MST
