/-! ===== what the constructors leave ===== -/
def I0 : HI := I12 (I11 (fun _ _ => 0))
theorem ite0 {p : Prop} [Decidable p] {x : Int} (h : x = 0) : (if p then 0 else x) = 0 := by
  split
  · rfl
  · exact h
theorem i0_q {q k : Nat} (h : q ≠ 0 ∧ q ≠ 21 ∧ q ≠ 24 ∧ q ≠ 25 ∧ q ≠ 31 ∧ q ≠ 35 ∧ q ≠ 57 ∧ q ≠ 71) : I0 q k = 0 := by
  unfold I0 I12 I11 clG
  simp only [up_ap, fil_ap, row_ap]
  repeat (first | rfl | rw [if_neg (by omega)] | refine ite0 ?_)
theorem i0_31 : ∀ s, s < 6 → I0 31 s = -1 := by decide +kernel
theorem i0_25 : ∀ k, k < 29 → I0 25 k = own5 k := by decide +kernel
theorem i0_71 : ∀ f, f < 4 → I0 71 f = -1 := by decide +kernel
theorem i0_0 : I0 0 12 = 0 ∧ I0 0 13 = 0 ∧ I0 0 14 = -1 ∧ I0 0 15 = 1 := by decide +kernel
theorem i0_57 : I0 57 1 = 0 ∧ I0 57 10 = 0 ∧ I0 57 11 = -1 ∧ I0 57 13 = 0 ∧ I0 57 52 = 0 ∧ I0 57 53 = 0 ∧ I0 57 54 = 1 ∧ I0 57 63 = 0 ∧ I0 57 66 = 0 ∧ I0 57 70 = 0 := by decide +kernel
theorem iv0 : Iv I0 := by
  have z : ∀ q k, (q ≠ 0 ∧ q ≠ 21 ∧ q ≠ 24 ∧ q ≠ 25 ∧ q ≠ 31 ∧ q ≠ 35 ∧ q ≠ 57 ∧ q ≠ 71) → I0 q k = 0 := fun q k h => i0_q h
  have z4 : ∀ k, I0 4 k = 0 := fun k => z 4 k (by decide)
  have z6 : ∀ k, I0 6 k = 0 := fun k => z 6 k (by decide)
  have z7 : ∀ k, I0 7 k = 0 := fun k => z 7 k (by decide)
  have z30 : ∀ k, I0 30 k = 0 := fun k => z 30 k (by decide)
  have z32 : ∀ k, I0 32 k = 0 := fun k => z 32 k (by decide)
  have z33 : ∀ k, I0 33 k = 0 := fun k => z 33 k (by decide)
  have z38 : ∀ k, I0 38 k = 0 := fun k => z 38 k (by decide)
  have z44 : ∀ k, I0 44 k = 0 := fun k => z 44 k (by decide)
  obtain ⟨a12, a13, a14, a15⟩ := i0_0
  obtain ⟨b1, b10, b11, b13, b52, b53, b54, b63, b66, b70⟩ := i0_57
  have po : pOK I0 := by
    refine ⟨fun j _ => ?_, fun w _ => ?_, fun s hs => ?_, fun b hb => ?_⟩
    · rw [z4]; decide
    · rw [z6, z7]; decide
    · rw [z4] at hs; omega
    · rw [z4] at hb; omega
  have fs : FS (fun _ => []) := by
    refine ⟨fun s h => ?_, fun s h => ?_, fun s h => ?_, fun s h => ?_⟩ <;> exact absurd h List.not_mem_nil
  have rw1 : ∀ k, I0 1 k = 0 := fun k => z 1 k (by decide)
  refine ⟨fun _ => [], 0, ⟨⟨po, fun f _ => Or.inl ⟨rfl, ?_⟩, fs⟩, fun k _ => ?_, ⟨?_, ?_, fun s hs => ⟨fun h => ?_, fun _ => i0_31 s hs⟩, fun k _ => ?_, fun s h w _ _ _ _ => z32 _, fun k _ => ?_⟩, ?_, fun j hj => ?_, ⟨fun k => ?_, fun k => ?_, fun k => ?_, fun k => ?_, fun k => ?_, fun k => ?_, fun k => ?_, ?_⟩, fun w _ => ?_, fun k hk => i0_25 k hk⟩, ⟨⟨?_, by decide, ?_, ?_, ?_, fun w hw => ?_, fun s hs => ?_, fun t ht => ?_, ⟨fun f hf => Or.inl ⟨rfl, ?_⟩, fs, fun h => absurd rfl h⟩, po⟩, fun k => ?_, ⟨?_, fun s hs hn => ?_, fun c _ => ?_, ?_, fun k w hk _ => ?_⟩, ?_, ?_, fun j hj => ?_⟩, ⟨⟨⟨?_, ?_, ?_, fun k hk => ?_⟩, ?_, ?_, ?_, fun k hk => ?_⟩, fun k _ => ?_, ⟨?_, ?_, ?_, fun k hk => ?_⟩, ?_, fun j => ?_, fun k hk => ?_⟩, ?_, ?_, ?_, ?_, ?_, fun i j _ hj => ?_⟩
  · rw [z 9 f (by decide), z 10 f (by decide)]; decide
  · rw [z 28 k (by decide)]; decide
  · rw [z30]; decide
  · rw [z30, z30]; decide
  · rw [z4] at h; omega
  · rw [z32]; decide
  · rw [z33]; decide
  · unfold PS; rw [z38, z38]; decide
  · rw [z38] at hj; omega
  · rw [z32]; decide
  · rw [z33]; decide
  · rw [z 45 k (by decide)]; decide
  · rw [z 53 k (by decide)]; decide
  · rw [z 54 k (by decide)]; decide
  · rw [z 56 k (by decide)]; decide
  · rw [z 36 k (by decide)]; decide
  · rw [a15]; decide
  · rw [z 15 w (by decide), z 16 w (by decide)]; decide
  · exact b13
  · rw [z 59 0 (by decide), z4]
  · rw [z 62 0 (by decide), z4]
  · rw [z 67 0 (by decide), z4]
  · rw [z4] at hw; omega
  · rw [z4] at hs; omega
  · rw [z4] at ht; omega
  · rw [show 4 * 0 + f = f by omega]; exact i0_71 f hf
  · rw [z 91 k (by decide)]; decide
  · rw [z 85 0 (by decide), z30]
  · exfalso
    apply hn
    unfold shp
    exact z 62 _ (by decide)
  · rw [z 87 _ (by decide), z32]
  · rw [z 88 0 (by decide), z30]
  · rw [z30] at hk; omega
  · rw [b53, z38]
  · rw [b52, z38]
  · rw [z38] at hj; omega
  · rw [b63, z44]
  · rw [z44]; decide
  · rw [z44]; decide
  · rw [z44] at hk; omega
  · rw [b66, z44]
  · rw [z44]; decide
  · rw [z44]; decide
  · rw [z44] at hk; omega
  · rw [z 84 k (by decide), z 55 k (by decide)]
  · rw [b70, a12]
  · rw [a12]; decide
  · rw [a12]; decide
  · rw [a12] at hk; omega
  · rw [rw1]; decide
  · rw [z 2 j (by decide)]; decide
  · rw [rw1] at hk; omega
  · rw [b1, rw1]
  · rw [b10, a13]
  · rw [b11, a14]
  · rw [b54, a15]
  · rw [z 70 0 (by decide), z 3 8 (by decide)]
  · rw [z4] at hj; omega
