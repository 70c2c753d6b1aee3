/-! ===== the reference: wares, ships, berths ===== -/
section MTH
variable {Kb K H I : HI} {m n p : Nat} {Q : Option AV → HI → Prop}
theorem Mbad_u {q j : Nat} {k pl x : Int} (hq : q ≠ 57) (h : Mbad K k pl H) : Mbad (up K q j x) k pl (up H q j x) := by
  obtain ⟨si, sa, en, va, wo, lx, e, h⟩ := h
  subst e
  exact ⟨si, sa, en, va, wo, lx, MX_ux hq, h⟩
theorem Mok_u {B : Nat → Int} {q j : Nat} {x : Int} (hq : q ≠ 57) (h : Mok K n B p H) : Mok (up K q j x) n B p (up H q j x) := by
  obtain ⟨si, sa, en, va, wo, lx, e, h⟩ := h
  subst e
  exact ⟨si, sa, en, va, wo, lx, MX_ux hq, h⟩
theorem RDr_t0 {c : Nat} {v w a b : Int} {K' : HI} (hc : I 13 0 = (c : Int)) (hC : cOK I 13) (h6 : c < 6) (hR : RDr I K m) (h33 : K' 57 33 = K 57 33) (h34 : K' 57 34 = K 57 34) (hq : ∀ q j, 59 ≤ q ∧ q ≤ 77 → ¬ ((q = 75 ∨ q = 60 ∨ q = 61) ∧ j = 6 * m + c) → ¬ (q = 59 ∧ j = m) → K' q j = K q j) (ecn : K' 59 m = (c : Int) + 1) (enm : K' 75 (6 * m + c) = w) (hv : NR v w) (e1 : K' 60 (6 * m + c) = a) (e2_ : K' 61 (6 * m + c) = b) : RDr (thI I 0 v a b) K' m := by
  obtain ⟨⟨n1, n2, n3, n4⟩, h2, h3, h4, h5, h6c⟩ := hR
  have hct : (I 13 0).toNat = c := by omega
  have i13 : ∀ k, thI I 0 v a b 13 k = if k = 0 then (c : Int) + 1 else I 13 k := by
    intro k
    rw [thI_ap]
    by_cases e : k = 0
    · rw [if_pos ⟨rfl, e⟩, if_pos e, hc]
    · rw [if_neg (by omega), if_neg (by omega), if_neg (by omega), if_neg (by omega), if_neg e]
  have i14 : ∀ j, thI I 0 v a b 14 j = if j = 6 * 0 + c then v else I 14 j := by
    intro j
    rw [thI_ap, if_neg (by omega), if_neg (by omega), if_neg (by omega), hct]
    by_cases e : j = 6 * 0 + c
    · rw [if_pos ⟨rfl, e⟩, if_pos e]
    · rw [if_neg (by omega), if_neg e]
  have i15 : ∀ j, thI I 0 v a b 15 j = if j = 6 * 0 + c then a else I 15 j := by
    intro j
    rw [thI_ap, if_neg (by omega), if_neg (by omega), hct]
    by_cases e : j = 6 * 0 + c
    · rw [if_pos ⟨rfl, e⟩, if_pos e]
    · rw [if_neg (by omega), if_neg e, if_neg (by omega)]
  have i16 : ∀ j, thI I 0 v a b 16 j = if j = 6 * 0 + c then b else I 16 j := by
    intro j
    rw [thI_ap, if_neg (by omega), hct]
    by_cases e : j = 6 * 0 + c
    · rw [if_pos ⟨rfl, e⟩, if_pos e]
    · rw [if_neg (by omega), if_neg e, if_neg (by omega), if_neg (by omega)]
  have io : ∀ q j, q ≠ 13 → q ≠ 14 → q ≠ 15 → q ≠ 16 → thI I 0 v a b q j = I q j := by
    intro q j a1 a2 a3 a4
    rw [thI_ap, if_neg (by omega), if_neg (by omega), if_neg (by omega), if_neg (by omega)]
  have hC0 := hC 0 (by decide)
  have hC1 := hC 1 (by decide)
  have hC2 := hC 2 (by decide)
  refine ⟨⟨by rw [h34]; exact n1, n2, fun k hk => ?_, fun k hk j hj => ?_⟩, fun j hj => ?_, fun s hs => ?_, fun t ht => ?_, ?_, ?_, fun j hj => ?_, fun f hf => ?_⟩
  · rw [i13]
    by_cases e : k = 0
    · subst e
      rw [if_pos rfl]
      exact ecn
    · rw [if_neg e]
      match k, hk, e with
      | 0, _, e => exact absurd rfl e
      | 1, _, e => exact (hq 62 m (by decide) (by omega) (by omega)).trans (n3 1 (by decide))
      | 2, _, e => exact (hq 67 m (by decide) (by omega) (by omega)).trans (n3 2 (by decide))
  · rw [i13] at hj
    rw [i14]
    by_cases e : k = 0
    · subst e
      rw [if_pos rfl] at hj
      by_cases e2 : j = c
      · subst e2
        rw [if_pos rfl]
        show NR v (K' 75 (6 * m + j))
        rw [enm]
        exact hv
      · rw [if_neg (by omega), hq (75 + 0) _ (by decide) (by omega) (by omega)]
        exact n4 0 (by decide) j (by omega)
    · rw [if_neg e] at hj
      have hj6 : j < 6 := by
        have hk3 : k = 0 ∨ k = 1 ∨ k = 2 := by omega
        rcases hk3 with r | r | r <;> (subst r; omega)
      rw [if_neg (by omega), hq (75 + k) _ (by omega) (by omega) (by omega)]
      exact n4 k hk j hj
  · rw [i13, if_pos rfl] at hj
    rw [i15, i16]
    by_cases e2 : j = c
    · subst e2
      rw [if_pos (by omega), if_pos (by omega)]
      exact ⟨e1, e2_⟩
    · rw [if_neg (by omega), if_neg (by omega), hq 60 _ (by decide) (by omega) (by omega), hq 61 _ (by decide) (by omega) (by omega)]
      exact h2 j (by omega)
  · rw [i13, if_neg (by decide)] at hs
    obtain ⟨a1, a2, a3, a4⟩ := h3 s hs
    rw [i15, i16, if_neg (by omega), if_neg (by omega), io 21 _ (by decide) (by decide) (by decide) (by decide), hq 63 _ (by decide) (by omega) (by omega), hq 64 _ (by decide) (by omega) (by omega), hq 65 _ (by decide) (by omega) (by omega)]
    refine ⟨a1, a2, a3, fun j hj => ?_⟩
    rw [io 22 _ (by decide) (by decide) (by decide) (by decide), hq 66 _ (by decide) (by omega) (by omega)]
    exact a4 j hj
  · rw [i13, if_neg (by decide)] at ht
    rw [i15, i16, if_neg (by omega), if_neg (by omega), hq 68 _ (by decide) (by omega) (by omega), hq 69 _ (by decide) (by omega) (by omega)]
    exact h4 t ht
  · unfold RDg
    rw [hq 70 _ (by decide) (by omega) (by omega), io 12 8 (by decide) (by decide) (by decide) (by decide)]
    exact h5
  · rw [h33, io 12 7 (by decide) (by decide) (by decide) (by decide)]
    exact h6c.1
  · rw [io 12 7 (by decide) (by decide) (by decide) (by decide)] at hj
    rw [io 17 _ (by decide) (by decide) (by decide) (by decide), hq 73 _ (by decide) (by omega) (by omega), hq 74 _ (by decide) (by omega) (by omega)]
    exact h6c.2.1 j hj
  · rw [io 12 7 (by decide) (by decide) (by decide) (by decide), io 18 _ (by decide) (by decide) (by decide) (by decide), io 19 _ (by decide) (by decide) (by decide) (by decide), hq 71 _ (by decide) (by omega) (by omega), hq 72 _ (by decide) (by omega) (by omega)]
    exact h6c.2.2 f hf
theorem RDr_t1 {c : Nat} {v w a b : Int} {K' : HI} (hc : I 13 1 = (c : Int)) (hC : cOK I 13) (h6 : c < 6) (hR : RDr I K m) (h33 : K' 57 33 = K 57 33) (h34 : K' 57 34 = K 57 34) (h66 : ∀ j, ¬ (144 * m + 24 * c ≤ j ∧ j < 144 * m + 24 * c + 24) → K' 66 j = K 66 j) (z66 : ∀ j, j < 24 → K' 66 (144 * m + 24 * c + j) = 0) (e65 : K' 65 (6 * m + c) = -1) (i21 : I 21 c = -1) (i22 : ∀ j, j < 24 → I 22 (24 * c + j) = 0) (hq : ∀ q j, 59 ≤ q ∧ q ≤ 77 → q ≠ 66 → ¬ ((q = 76 ∨ q = 63 ∨ q = 64 ∨ q = 65) ∧ j = 6 * m + c) → ¬ (q = 62 ∧ j = m) → K' q j = K q j) (ecn : K' 62 m = (c : Int) + 1) (enm : K' 76 (6 * m + c) = w) (hv : NR v w) (e1 : K' 63 (6 * m + c) = a) (e2_ : K' 64 (6 * m + c) = b) : RDr (thI I 1 v a b) K' m := by
  obtain ⟨⟨n1, n2, n3, n4⟩, h2, h3, h4, h5, h6c⟩ := hR
  have hct : (I 13 1).toNat = c := by omega
  have i13 : ∀ k, thI I 1 v a b 13 k = if k = 1 then (c : Int) + 1 else I 13 k := by
    intro k
    rw [thI_ap]
    by_cases e : k = 1
    · rw [if_pos ⟨rfl, e⟩, if_pos e, hc]
    · rw [if_neg (by omega), if_neg (by omega), if_neg (by omega), if_neg (by omega), if_neg e]
  have i14 : ∀ j, thI I 1 v a b 14 j = if j = 6 * 1 + c then v else I 14 j := by
    intro j
    rw [thI_ap, if_neg (by omega), if_neg (by omega), if_neg (by omega), hct]
    by_cases e : j = 6 * 1 + c
    · rw [if_pos ⟨rfl, e⟩, if_pos e]
    · rw [if_neg (by omega), if_neg e]
  have i15 : ∀ j, thI I 1 v a b 15 j = if j = 6 * 1 + c then a else I 15 j := by
    intro j
    rw [thI_ap, if_neg (by omega), if_neg (by omega), hct]
    by_cases e : j = 6 * 1 + c
    · rw [if_pos ⟨rfl, e⟩, if_pos e]
    · rw [if_neg (by omega), if_neg e, if_neg (by omega)]
  have i16 : ∀ j, thI I 1 v a b 16 j = if j = 6 * 1 + c then b else I 16 j := by
    intro j
    rw [thI_ap, if_neg (by omega), hct]
    by_cases e : j = 6 * 1 + c
    · rw [if_pos ⟨rfl, e⟩, if_pos e]
    · rw [if_neg (by omega), if_neg e, if_neg (by omega), if_neg (by omega)]
  have io : ∀ q j, q ≠ 13 → q ≠ 14 → q ≠ 15 → q ≠ 16 → thI I 1 v a b q j = I q j := by
    intro q j a1 a2 a3 a4
    rw [thI_ap, if_neg (by omega), if_neg (by omega), if_neg (by omega), if_neg (by omega)]
  have hC0 := hC 0 (by decide)
  have hC1 := hC 1 (by decide)
  have hC2 := hC 2 (by decide)
  refine ⟨⟨by rw [h34]; exact n1, n2, fun k hk => ?_, fun k hk j hj => ?_⟩, fun j hj => ?_, fun s hs => ?_, fun t ht => ?_, ?_, ?_, fun j hj => ?_, fun f hf => ?_⟩
  · rw [i13]
    by_cases e : k = 1
    · subst e
      rw [if_pos rfl]
      exact ecn
    · rw [if_neg e]
      match k, hk, e with
      | 0, _, e => exact (hq 59 m (by decide) (by decide) (by omega) (by omega)).trans (n3 0 (by decide))
      | 1, _, e => exact absurd rfl e
      | 2, _, e => exact (hq 67 m (by decide) (by decide) (by omega) (by omega)).trans (n3 2 (by decide))
  · rw [i13] at hj
    rw [i14]
    by_cases e : k = 1
    · subst e
      rw [if_pos rfl] at hj
      by_cases e2 : j = c
      · subst e2
        rw [if_pos rfl]
        show NR v (K' 76 (6 * m + j))
        rw [enm]
        exact hv
      · rw [if_neg (by omega), hq (75 + 1) _ (by decide) (by decide) (by omega) (by omega)]
        exact n4 1 (by decide) j (by omega)
    · rw [if_neg e] at hj
      have hj6 : j < 6 := by
        have hk3 : k = 0 ∨ k = 1 ∨ k = 2 := by omega
        rcases hk3 with r | r | r <;> (subst r; omega)
      rw [if_neg (by omega), hq (75 + k) _ (by omega) (by omega) (by omega) (by omega)]
      exact n4 k hk j hj
  · rw [i13, if_neg (by decide)] at hj
    rw [i15, i16, if_neg (by omega), if_neg (by omega), hq 60 _ (by decide) (by decide) (by omega) (by omega), hq 61 _ (by decide) (by decide) (by omega) (by omega)]
    exact h2 j hj
  · rw [i13, if_pos rfl] at hs
    rw [i15, i16, io 21 _ (by decide) (by decide) (by decide) (by decide)]
    by_cases e2 : s = c
    · subst e2
      rw [if_pos (by omega), if_pos (by omega)]
      refine ⟨e1, e2_, by rw [e65, i21], fun j hj => ?_⟩
      rw [io 22 _ (by decide) (by decide) (by decide) (by decide), z66 j hj, i22 j hj]
    · obtain ⟨a1, a2, a3, a4⟩ := h3 s (by omega)
      rw [if_neg (by omega), if_neg (by omega), hq 63 _ (by decide) (by decide) (by omega) (by omega), hq 64 _ (by decide) (by decide) (by omega) (by omega), hq 65 _ (by decide) (by decide) (by omega) (by omega)]
      refine ⟨a1, a2, a3, fun j hj => ?_⟩
      rw [io 22 _ (by decide) (by decide) (by decide) (by decide), h66 _ (by omega)]
      exact a4 j hj
  · rw [i13, if_neg (by decide)] at ht
    rw [i15, i16, if_neg (by omega), if_neg (by omega), hq 68 _ (by decide) (by decide) (by omega) (by omega), hq 69 _ (by decide) (by decide) (by omega) (by omega)]
    exact h4 t ht
  · unfold RDg
    rw [hq 70 _ (by decide) (by decide) (by omega) (by omega), io 12 8 (by decide) (by decide) (by decide) (by decide)]
    exact h5
  · rw [h33, io 12 7 (by decide) (by decide) (by decide) (by decide)]
    exact h6c.1
  · rw [io 12 7 (by decide) (by decide) (by decide) (by decide)] at hj
    rw [io 17 _ (by decide) (by decide) (by decide) (by decide), hq 73 _ (by decide) (by decide) (by omega) (by omega), hq 74 _ (by decide) (by decide) (by omega) (by omega)]
    exact h6c.2.1 j hj
  · rw [io 12 7 (by decide) (by decide) (by decide) (by decide), io 18 _ (by decide) (by decide) (by decide) (by decide), io 19 _ (by decide) (by decide) (by decide) (by decide), hq 71 _ (by decide) (by decide) (by omega) (by omega), hq 72 _ (by decide) (by decide) (by omega) (by omega)]
    exact h6c.2.2 f hf
theorem RDr_t2 {c : Nat} {v w a b : Int} {K' : HI} (hc : I 13 2 = (c : Int)) (hC : cOK I 13) (h6 : c < 6) (hR : RDr I K m) (h33 : K' 57 33 = K 57 33) (h34 : K' 57 34 = K 57 34) (hq : ∀ q j, 59 ≤ q ∧ q ≤ 77 → ¬ ((q = 77 ∨ q = 68 ∨ q = 69) ∧ j = 6 * m + c) → ¬ (q = 67 ∧ j = m) → K' q j = K q j) (ecn : K' 67 m = (c : Int) + 1) (enm : K' 77 (6 * m + c) = w) (hv : NR v w) (e1 : K' 68 (6 * m + c) = a) (e2_ : K' 69 (6 * m + c) = b) : RDr (thI I 2 v a b) K' m := by
  obtain ⟨⟨n1, n2, n3, n4⟩, h2, h3, h4, h5, h6c⟩ := hR
  have hct : (I 13 2).toNat = c := by omega
  have i13 : ∀ k, thI I 2 v a b 13 k = if k = 2 then (c : Int) + 1 else I 13 k := by
    intro k
    rw [thI_ap]
    by_cases e : k = 2
    · rw [if_pos ⟨rfl, e⟩, if_pos e, hc]
    · rw [if_neg (by omega), if_neg (by omega), if_neg (by omega), if_neg (by omega), if_neg e]
  have i14 : ∀ j, thI I 2 v a b 14 j = if j = 6 * 2 + c then v else I 14 j := by
    intro j
    rw [thI_ap, if_neg (by omega), if_neg (by omega), if_neg (by omega), hct]
    by_cases e : j = 6 * 2 + c
    · rw [if_pos ⟨rfl, e⟩, if_pos e]
    · rw [if_neg (by omega), if_neg e]
  have i15 : ∀ j, thI I 2 v a b 15 j = if j = 6 * 2 + c then a else I 15 j := by
    intro j
    rw [thI_ap, if_neg (by omega), if_neg (by omega), hct]
    by_cases e : j = 6 * 2 + c
    · rw [if_pos ⟨rfl, e⟩, if_pos e]
    · rw [if_neg (by omega), if_neg e, if_neg (by omega)]
  have i16 : ∀ j, thI I 2 v a b 16 j = if j = 6 * 2 + c then b else I 16 j := by
    intro j
    rw [thI_ap, if_neg (by omega), hct]
    by_cases e : j = 6 * 2 + c
    · rw [if_pos ⟨rfl, e⟩, if_pos e]
    · rw [if_neg (by omega), if_neg e, if_neg (by omega), if_neg (by omega)]
  have io : ∀ q j, q ≠ 13 → q ≠ 14 → q ≠ 15 → q ≠ 16 → thI I 2 v a b q j = I q j := by
    intro q j a1 a2 a3 a4
    rw [thI_ap, if_neg (by omega), if_neg (by omega), if_neg (by omega), if_neg (by omega)]
  have hC0 := hC 0 (by decide)
  have hC1 := hC 1 (by decide)
  have hC2 := hC 2 (by decide)
  refine ⟨⟨by rw [h34]; exact n1, n2, fun k hk => ?_, fun k hk j hj => ?_⟩, fun j hj => ?_, fun s hs => ?_, fun t ht => ?_, ?_, ?_, fun j hj => ?_, fun f hf => ?_⟩
  · rw [i13]
    by_cases e : k = 2
    · subst e
      rw [if_pos rfl]
      exact ecn
    · rw [if_neg e]
      match k, hk, e with
      | 0, _, e => exact (hq 59 m (by decide) (by omega) (by omega)).trans (n3 0 (by decide))
      | 1, _, e => exact (hq 62 m (by decide) (by omega) (by omega)).trans (n3 1 (by decide))
      | 2, _, e => exact absurd rfl e
  · rw [i13] at hj
    rw [i14]
    by_cases e : k = 2
    · subst e
      rw [if_pos rfl] at hj
      by_cases e2 : j = c
      · subst e2
        rw [if_pos rfl]
        show NR v (K' 77 (6 * m + j))
        rw [enm]
        exact hv
      · rw [if_neg (by omega), hq (75 + 2) _ (by decide) (by omega) (by omega)]
        exact n4 2 (by decide) j (by omega)
    · rw [if_neg e] at hj
      have hj6 : j < 6 := by
        have hk3 : k = 0 ∨ k = 1 ∨ k = 2 := by omega
        rcases hk3 with r | r | r <;> (subst r; omega)
      rw [if_neg (by omega), hq (75 + k) _ (by omega) (by omega) (by omega)]
      exact n4 k hk j hj
  · rw [i13, if_neg (by decide)] at hj
    rw [i15, i16, if_neg (by omega), if_neg (by omega), hq 60 _ (by decide) (by omega) (by omega), hq 61 _ (by decide) (by omega) (by omega)]
    exact h2 j hj
  · rw [i13, if_neg (by decide)] at hs
    obtain ⟨a1, a2, a3, a4⟩ := h3 s hs
    rw [i15, i16, if_neg (by omega), if_neg (by omega), io 21 _ (by decide) (by decide) (by decide) (by decide), hq 63 _ (by decide) (by omega) (by omega), hq 64 _ (by decide) (by omega) (by omega), hq 65 _ (by decide) (by omega) (by omega)]
    refine ⟨a1, a2, a3, fun j hj => ?_⟩
    rw [io 22 _ (by decide) (by decide) (by decide) (by decide), hq 66 _ (by decide) (by omega) (by omega)]
    exact a4 j hj
  · rw [i13, if_pos rfl] at ht
    rw [i15, i16]
    by_cases e2 : t = c
    · subst e2
      rw [if_pos (by omega), if_pos (by omega)]
      exact ⟨e1, e2_⟩
    · rw [if_neg (by omega), if_neg (by omega), hq 68 _ (by decide) (by omega) (by omega), hq 69 _ (by decide) (by omega) (by omega)]
      exact h4 t (by omega)
  · unfold RDg
    rw [hq 70 _ (by decide) (by omega) (by omega), io 12 8 (by decide) (by decide) (by decide) (by decide)]
    exact h5
  · rw [h33, io 12 7 (by decide) (by decide) (by decide) (by decide)]
    exact h6c.1
  · rw [io 12 7 (by decide) (by decide) (by decide) (by decide)] at hj
    rw [io 17 _ (by decide) (by decide) (by decide) (by decide), hq 73 _ (by decide) (by omega) (by omega), hq 74 _ (by decide) (by omega) (by omega)]
    exact h6c.2.1 j hj
  · rw [io 12 7 (by decide) (by decide) (by decide) (by decide), io 18 _ (by decide) (by decide) (by decide) (by decide), io 19 _ (by decide) (by decide) (by decide) (by decide), hq 71 _ (by decide) (by omega) (by omega), hq 72 _ (by decide) (by omega) (by omega)]
    exact h6c.2.2 f hf
end MTH
