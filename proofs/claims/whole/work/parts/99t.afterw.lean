/-! ===== after a good text: the class is well formed ===== -/
theorem Wm_wff {se f : Nat} {c : List Int} (h : Wm se (if f = 3 then 0 else 3) 0 c) : wff c [] := by
  have e : c ++ [] = c := List.append_nil c
  by_cases hf : f = 3
  · rw [if_pos hf] at h
    have := h.2 [] [] (by decide) rfl
    rw [e] at this
    exact this
  · rw [if_neg hf] at h
    have := h.2 [] [] (by decide) (fun b => rfl)
    rw [e] at this
    exact this
theorem bit_se : ∀ k : Fin 8, (1 / 2 ^ k.val % 2 = 1 → k.val = 0) ∧ (63 / 2 ^ k.val % 2 = 1 → k.val ≤ 5) ∧ (249 / 2 ^ k.val % 2 = 1 → k.val ≠ 1 ∧ k.val ≠ 2) := by decide
theorem bit_k {s : Int} (h1 : -9 < s) (h2 : s < 0) : (-1 - s).toNat < 8 := by omega
theorem FD_se {I : HI} {C : Nat → List Int} (h : FD I C) {f : Nat} (hf : f < 4) : SEv (seO f) (C f) := by
  rcases h f hf with ⟨e, _⟩ | ⟨_, _, _, _, _, e⟩
  · rw [e]; exact sev_nil
  · exact e.1
theorem FD_FS {I : HI} {C : Nat → List Int} (h : FD I C) : FS C := by
  have lo : ∀ f, f < 2 → ∀ s ∈ C f, -9 < s → -1 ≤ s := by
    intro f hf s hs h1
    by_cases h2 : s < 0
    · have hb := FD_se h (f := f) (by omega) s hs h1 h2
      have hk := bit_k h1 h2
      have he : seO f = 1 := by
        have : f = 0 ∨ f = 1 := by omega
        rcases this with e | e <;> (rw [e]; rfl)
      rw [he] at hb
      have := (bit_se ⟨(-1 - s).toNat, hk⟩).1 hb
      have h3 : (-1 - s).toNat = 0 := this
      omega
    · omega
  refine ⟨lo 0 (by decide), lo 1 (by decide), fun s hs h1 => ?_, fun s hs => ?_⟩
  · by_cases h2 : s < 0
    · have hb := FD_se h (f := 2) (by decide) s hs h1 h2
      have hk := bit_k h1 h2
      have := (bit_se ⟨(-1 - s).toNat, hk⟩).2.1 hb
      have h3 : (-1 - s).toNat ≤ 5 := this
      omega
    · omega
  · by_cases h2 : -9 < s ∧ s < 0
    · have hb := FD_se h (f := 3) (by decide) s hs h2.1 h2.2
      have hk := bit_k h2.1 h2.2
      have := (bit_se ⟨(-1 - s).toNat, hk⟩).2.2 hb
      have h3 : (-1 - s).toNat ≠ 1 ∧ (-1 - s).toNat ≠ 2 := this
      omega
    · omega
theorem FD_01 {I : HI} {C : Nat → List Int} (h : FD I C) (hc : C 3 ≠ []) (se : Nat → Int) (hse : ∀ k, k < 8 → -1000000 ≤ se k ∧ se k ≤ 1000000) : ev se (C 3) = 0 ∨ ev se (C 3) = 1 := by
  rcases h 3 (by decide) with ⟨e, _⟩ | ⟨_, _, _, _, _, e⟩
  · exact absurd e hc
  · rw [if_pos rfl] at e
    obtain ⟨v, h1, h2⟩ := wt_01 (by decide) e.2 hse
    unfold ev
    rw [h1]
    exact h2
section AFW
variable {X I : HI} {C : Nat → List Int} {n p : Nat}
theorem af_WF (hX : ∀ q, q ≠ 24 → X q = I q) (hI : DI I p) (hp : p ≤ 1600) (hD : DX I) (hC : FD I C) (h20 : I 20 5 = 0) (hse : seB X) (h32 : ∀ k, 0 ≤ X 32 k ∧ X 32 k ≤ 20) : WF (haG X) C := by
  obtain ⟨d1, d2, d3, d4, d5, d6, d7⟩ := hD
  have e13 : ∀ k, k < 3 → haG X 4 k = I 13 k := fun k hk => by rw [haG_4 hk, hX 13 (by decide)]
  have e15 : ∀ k, k < 18 → haG X 6 k = I 15 k := fun k hk => by rw [haG_6 hk, hX 15 (by decide)]
  have e16 : ∀ k, k < 18 → haG X 7 k = I 16 k := fun k hk => by rw [haG_7 hk, hX 16 (by decide)]
  have c0 := hI.1 0 (by decide)
  have c1 := hI.1 1 (by decide)
  have c2 := hI.1 2 (by decide)
  have h7 := hI.2.2.1
  have h7b := hI.2.2.2.1
  refine ⟨⟨⟨fun a ha => ?_, fun w hw => ?_, fun s hs => ?_, fun b hb => ?_⟩, fun f hf => ?_, FD_FS hC⟩, fun k hk => ?_, ?_, fun k => ?_, fun s hs => ?_⟩
  · rw [e13 a ha]; exact hI.1 a ha
  · rw [e15 w (by omega), e16 w (by omega)]; exact hI.2.2.2.2 w hw
  · rw [e13 1 (by decide)] at hs
    have a := hI.2.1 s hs
    have b := d5 s hs
    rw [e15 _ (by omega), e16 _ (by omega)]
    exact ⟨a.1, a.2, b.1, b.2⟩
  · rw [e13 2 (by decide)] at hb
    rw [e15 _ (by omega), e16 _ (by omega)]
    exact d6 b hb
  · have h9 := haG_9 (X := X) hf
    have x18 : X 18 f = I 18 f := by rw [hX 18 (by decide)]
    have x19 : X 19 f = I 19 f := by rw [hX 19 (by decide)]
    have x7 : X 12 7 = I 12 7 := by rw [hX 12 (by decide)]
    rcases hC f hf with ⟨a1, a2⟩ | ⟨a1, a2, a3, a4, a5, a6⟩
    · left
      rw [h9.1, h9.2, x18, x19]
      exact ⟨a1, a2⟩
    · right
      refine ⟨a1, ?_⟩
      unfold fcs
      rw [h9.1, h9.2, x18, x19]
      refine ⟨a2, a3, by omega, fun j v ej => ?_, Wm_wff a6⟩
      have hj : j < (C f).length := by
        rcases Nat.lt_or_ge j (C f).length with h | h
        · exact h
        · rw [List.getElem?_eq_none h] at ej; cases ej
      rw [haG_8 (by omega), hX 17 (by decide)]
      exact a5 j v ej
  · rw [haG_o (by omega)]
    exact hse k hk
  · rw [haG_3.2.2.1, hX 20 (by decide), h20]
    decide
  · by_cases e : k < 144
    · rw [haG_32 e, hX 22 (by decide)]
      exact d3 k e
    · rw [haG_o (by omega)]
      exact h32 k
  · rw [e13 1 (by decide)] at hs
    rw [haG_31 (by omega), e13 2 (by decide), hX 21 (by decide)]
    exact d2 s (by omega)
theorem af_ZF (hX : ∀ q, q ≠ 24 → X q = I q) (hI : DI I p) (hD : DX I) : ZF (haG X) (haG X 32) ∧ ∀ s : Nat, s < 6 → ¬ (s : Int) < haG X 4 1 → haG X 31 s = -1 := by
  obtain ⟨d1, d2, d3, d4, d5, d6, d7⟩ := hD
  have c1 := hI.1 1 (by decide)
  have e13 : ∀ k, k < 3 → haG X 4 k = I 13 k := fun k hk => by rw [haG_4 hk, hX 13 (by decide)]
  refine ⟨fun s h w a b c d => ?_, fun s a b => ?_⟩
  · rw [haG_32 (by omega), hX 22 (by decide)]
    refine d4 s h w a b c (fun q => d ⟨?_, ?_, ?_⟩)
    · rw [e13 1 (by decide)]; exact q.1
    · unfold nH
      rw [haG_6 (by omega), hX 15 (by decide)]
      have := q.2.1
      omega
    · rw [e13 0 (by decide)]; exact q.2.2
  · rw [e13 1 (by decide)] at b
    rw [haG_31 a, hX 21 (by decide)]
    exact d1 s a b
end AFW
