/-! ===== after a good text: the reference ===== -/
section AFM
variable {Y X I K H : HI} {C : Nat → List Int} {n p m c : Nat} {B : Nat → Int}
theorem begM_o {q j : Nat} (h : q ≠ 57 ∧ q ≠ 85 ∧ q ≠ 86 ∧ q ≠ 87 ∧ q ≠ 88) : begM Y m c q j = Y q j := by
  unfold begM
  rw [up_ap, if_neg (by omega), up_ap, if_neg (by omega), up_ap, if_neg (by omega), up_ap, if_neg (by omega), fil_ap, if_neg (by omega), fil_ap, if_neg (by omega), up_ap, if_neg (by omega)]
theorem begM_57 {j : Nat} (h : j ≠ 53 ∧ j ≠ 63 ∧ j ≠ 66) : begM Y m c 57 j = Y 57 j := by
  unfold begM
  rw [up_ap, if_neg (by omega), up_ap, if_neg (by omega), up_ap, if_neg (by omega), up_ap, if_neg (by omega), fil_ap, if_neg (by omega), fil_ap, if_neg (by omega), up_ap, if_neg (by omega)]
theorem begM_z : begM Y m c 57 53 = 0 ∧ begM Y m c 57 63 = 0 ∧ begM Y m c 57 66 = 0 ∧ begM Y m c 85 0 = 0 ∧ begM Y m c 88 0 = 0 := ⟨rfl, rfl, rfl, rfl, rfl⟩
theorem begM_86 {j : Nat} (h : j < 6) : begM Y m c 86 j = bg1 Y m c j := by
  unfold begM
  rw [up_ap, if_neg (by omega), up_ap, if_neg (by omega), up_ap, if_neg (by omega), up_ap, if_neg (by omega), fil_ap, if_neg (by omega), fil_ap, if_pos ⟨rfl, h⟩]
theorem begM_87 {j : Nat} (h : j < 144) : begM Y m c 87 j = bg2 Y m c j := by
  unfold begM
  rw [up_ap, if_neg (by omega), up_ap, if_neg (by omega), up_ap, if_neg (by omega), up_ap, if_neg (by omega), fil_ap, if_pos ⟨rfl, h⟩]
/-- the reference behind a good text -/
def hbG (H : HI) (m c : Nat) : HI := begM (up (up (up H 57 10 0) 57 11 (-1)) 57 13 (m : Int)) m c
theorem hbG_o {q j : Nat} (hM : Mok K n B p H) (h : q ≠ 57 ∧ q ≠ 85 ∧ q ≠ 86 ∧ q ≠ 87 ∧ q ≠ 88) : hbG H m c q j = K q j := by
  unfold hbG
  rw [begM_o h, up_ap, if_neg (by omega), up_ap, if_neg (by omega), up_ap, if_neg (by omega), Mok_q hM h.1]
theorem hbG_57 {j : Nat} (hM : Mok K n B p H) (h : j ≠ 53 ∧ j ≠ 63 ∧ j ≠ 66 ∧ j ≠ 10 ∧ j ≠ 11 ∧ j ≠ 13) (h2 : j ≠ 3 ∧ j ≠ 4 ∧ j ≠ 5 ∧ j ≠ 6 ∧ j ≠ 7 ∧ j ≠ 8 ∧ j ≠ 9 ∧ j ≠ 12) : hbG H m c 57 j = K 57 j := by
  unfold hbG
  rw [begM_57 (by omega), up_ap, if_neg (by omega), up_ap, if_neg (by omega), up_ap, if_neg (by omega), Mok_g hM h2]
theorem hbG_t : hbG H m c 57 10 = 0 ∧ hbG H m c 57 11 = -1 ∧ hbG H m c 57 13 = (m : Int) := ⟨rfl, rfl, rfl⟩
theorem af_RP (hX : ∀ q, q ≠ 24 → X q = I q) (hI : DI I p) (hp : p ≤ 1600) (hC : FD I C) (hpo : pOK (haG X)) (hM : Mok K n B p H) (hR : RDr I K m) : RP (haG X) (hbG H m c) C m := by
  obtain ⟨⟨n1, n2, n3, n4⟩, h2, h3, h4, h5, h6⟩ := hR
  have e13 : ∀ k, k < 3 → haG X 4 k = I 13 k := fun k hk => by rw [haG_4 hk, hX 13 (by decide)]
  have e15 : ∀ k, k < 18 → haG X 6 k = I 15 k := fun k hk => by rw [haG_6 hk, hX 15 (by decide)]
  have e16 : ∀ k, k < 18 → haG X 7 k = I 16 k := fun k hk => by rw [haG_7 hk, hX 16 (by decide)]
  have c0 := hI.1 0 (by decide)
  have c1 := hI.1 1 (by decide)
  have c2 := hI.1 2 (by decide)
  have h7 := hI.2.2.1
  have h7b := hI.2.2.2.1
  refine ⟨hbG_t.2.2, n2, ?_, ?_, ?_, fun w hw => ?_, fun s hs => ?_, fun t ht => ?_, ⟨fun f hf => ?_, FD_FS hC, fun hc se hse => FD_01 hC hc se hse⟩, hpo⟩
  · rw [hbG_o hM (by decide), e13 0 (by decide)]; exact n3 0 (by decide)
  · rw [hbG_o hM (by decide), e13 1 (by decide)]; exact n3 1 (by decide)
  · rw [hbG_o hM (by decide), e13 2 (by decide)]; exact n3 2 (by decide)
  · rw [e13 0 (by decide)] at hw
    rw [hbG_o hM (by decide), hbG_o hM (by decide), e15 _ (by omega), e16 _ (by omega)]
    exact h2 w hw
  · rw [e13 1 (by decide)] at hs
    rw [hbG_o hM (by decide), hbG_o hM (by decide), e15 _ (by omega), e16 _ (by omega)]
    exact ⟨(h3 s hs).1, (h3 s hs).2.1⟩
  · rw [e13 2 (by decide)] at ht
    rw [hbG_o hM (by decide), hbG_o hM (by decide), e15 _ (by omega), e16 _ (by omega)]
    exact h4 t ht
  · rcases hC f hf with ⟨a1, a2⟩ | ⟨a1, a2, a3, a4, a5, a6⟩
    · left
      refine ⟨a1, ?_⟩
      rw [hbG_o hM (by decide)]
      rcases h6.2.2 f hf with b | b
      · exact b.1
      · exact absurd b.2.2.2.1 a2
    · right
      refine ⟨a1, ?_⟩
      have hpos : 0 < (C f).length := List.length_pos_iff.2 a1
      unfold fcm
      rw [hbG_o hM (by decide), hbG_o hM (by decide)]
      rcases h6.2.2 f hf with b | ⟨b1, b2, b3, b4, b5⟩
      · exact absurd (show I 18 f < I 19 f by omega) b.2
      · rw [b1, b2]
        refine ⟨a2, a3, by omega, fun j v ej => ?_, Wm_wff a6⟩
        have hj : j < (C f).length := by
          rcases Nat.lt_or_ge j (C f).length with h | h
          · exact h
          · rw [List.getElem?_eq_none h] at ej; cases ej
        rw [hbG_o hM (by decide), hbG_o hM (by decide)]
        have := h6.2.1 ((I 18 f).toNat + j) (by omega)
        rw [a5 j v ej, ← Nat.add_assoc] at this
        exact this
theorem af_SR (hX : ∀ q, q ≠ 24 → X q = I q) (hI : DI I p) (hD : DX I) (h20 : I 20 5 = 0) (hM : Mok K n B p H) (hR : RDr I K m) : SRn (haG X) (hbG H m (I 13 1).toNat) := by
  obtain ⟨⟨n1, n2, n3, n4⟩, h2, h3, h4, h5, h6⟩ := hR
  obtain ⟨d1, d2, d3, d4, d5, d6, d7⟩ := hD
  have c1 := hI.1 1 (by decide)
  have yo : ∀ q j, q ≠ 57 → up (up (up H 57 10 0) 57 11 (-1)) 57 13 (m : Int) q j = K q j := by
    intro q j hq
    rw [up_ap, if_neg (by omega), up_ap, if_neg (by omega), up_ap, if_neg (by omega), Mok_q hM hq]
  have hg := haG_3 (X := X)
  refine ⟨?_, fun s hs _ => ?_, fun j hj => ?_, ?_, fun k w hk hw => ?_⟩
  · rw [hg.2.2.1, hX 20 (by decide), h20]
    rfl
  · rw [haG_31 hs, hX 21 (by decide), show 6 * 0 + s = s by omega]
    show hbG H m (I 13 1).toNat 86 s = _
    unfold hbG
    rw [begM_86 hs]
    unfold bg1
    by_cases e : s < (I 13 1).toNat
    · rw [if_pos e, yo 65 _ (by decide)]
      exact (h3 s (by omega)).2.2.1
    · rw [if_neg e, d1 s hs (by omega)]
  · rw [haG_32 hj, hX 22 (by decide), show 144 * 0 + j = j by omega]
    show hbG H m (I 13 1).toNat 87 j = _
    unfold hbG
    rw [begM_87 hj]
    unfold bg2
    by_cases e : j < 24 * (I 13 1).toNat
    · rw [if_pos e, yo 66 _ (by decide)]
      have := (h3 (j / 24) (by omega)).2.2.2 (j % 24) (by omega)
      rw [show 144 * m + 24 * (j / 24) + j % 24 = 144 * m + j by omega, show 24 * (j / 24) + j % 24 = j by omega] at this
      exact this
    · rw [if_neg e]
      have := d4 (j / 24) (j % 24 / 6) (j % 24 % 6) (by omega) (by omega) (by omega) (fun w => by have := w.1; omega)
      rw [show 24 * (j / 24) + 6 * (j % 24 / 6) + j % 24 % 6 = j by omega] at this
      exact this.symm
  · rw [hg.2.2.2.2.1]
    rfl
  · rw [hg.2.2.2.2.1] at hk
    omega
theorem af_Nm (hX : ∀ q, q ≠ 24 → X q = I q) (hI : DI I p) (hM : Mok K n B p H) (hR : RDr I K m) : RNm (haG X) (hbG H m c) m := by
  obtain ⟨⟨n1, n2, n3, n4⟩, _⟩ := hR
  intro a j ha hj
  rw [haG_4 ha, hX 13 (by decide)] at hj
  have hc := hI.1 a ha
  rw [haG_5 (by omega), hX 14 (by decide), hbG_o hM (by omega)]
  exact n4 a ha j hj
end AFM
