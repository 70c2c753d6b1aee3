/-! ===== after a bad text: all is as it was ===== -/
section BAD
variable {J J' K K' K1 H : HI} {C : Nat → List Int} {b m n : Nat}
/-- the bank b is as it was -/
def SmB (K : HI) (b : Nat) (K' : HI) : Prop := K' 57 13 = K 57 13 ∧ ∀ q j, 59 ≤ q ∧ q ≤ 77 → bkw q * b ≤ j ∧ j < bkw q * b + bkw q → K' q j = K q j
theorem fcm_pt {f : Nat} {cs : List Int} (hf : f < 4) (h : fcm K b f cs) (hs : SmB K b K') : fcm K' b f cs := by
  obtain ⟨a1, a2, a3, a4, a5⟩ := h
  have e71 : K' 71 (4 * b + f) = K 71 (4 * b + f) := hs.2 71 _ (by decide) (by show 4 * b ≤ _ ∧ _ < 4 * b + 4; omega)
  have e72 : K' 72 (4 * b + f) = K 72 (4 * b + f) := hs.2 72 _ (by decide) (by show 4 * b ≤ _ ∧ _ < 4 * b + 4; omega)
  unfold fcm
  rw [e71, e72]
  refine ⟨a1, a2, a3, fun j v ej => ?_, a5⟩
  have hj : j < cs.length := by
    rcases Nat.lt_or_ge j cs.length with h | h
    · exact h
    · rw [List.getElem?_eq_none h] at ej; cases ej
  rw [hs.2 73 _ (by decide) (by show 1600 * b ≤ _ ∧ _ < 1600 * b + 1600; omega), hs.2 74 _ (by decide) (by show 1600 * b ≤ _ ∧ _ < 1600 * b + 1600; omega)]
  exact a4 j v ej
theorem RP_pt (h : RP J K C b) (hs : SmB K b K') (h4 : J' 4 = J 4) (h6 : J' 6 = J 6) (h7 : J' 7 = J 7) : RP J' K' C b := by
  obtain ⟨r1, r2, r3, r4, r5, r6, r7, r8, ⟨r9, r10, r11⟩, r12⟩ := h
  have c0 := r12.1 0 (by decide)
  have c1 := r12.1 1 (by decide)
  have c2 := r12.1 2 (by decide)
  have w6 : ∀ q, q = 60 ∨ q = 61 ∨ q = 63 ∨ q = 64 ∨ q = 68 ∨ q = 69 → ∀ w, w < 6 → K' q (6 * b + w) = K q (6 * b + w) := by
    intro q hq w hw
    have e : bkw q = 6 := by rcases hq with e | e | e | e | e | e <;> (rw [e]; rfl)
    exact hs.2 q _ (by omega) (by rw [e]; omega)
  have w1 : ∀ q, q = 59 ∨ q = 62 ∨ q = 67 → K' q b = K q b := by
    intro q hq
    have e : bkw q = 1 := by rcases hq with e | e | e <;> (rw [e]; rfl)
    exact hs.2 q _ (by omega) (by rw [e]; omega)
  refine ⟨by rw [hs.1]; exact r1, r2, ?_, ?_, ?_, fun w hw => ?_, fun s hw => ?_, fun t hw => ?_, ⟨fun f hf => ?_, r10, r11⟩, pOK_to r12 h4 h6 h7⟩
  · rw [w1 59 (by omega), h4]; exact r3
  · rw [w1 62 (by omega), h4]; exact r4
  · rw [w1 67 (by omega), h4]; exact r5
  · rw [h4] at hw
    rw [w6 60 (by omega) w (by omega), w6 61 (by omega) w (by omega), h6, h7]
    exact r6 w hw
  · rw [h4] at hw
    rw [w6 63 (by omega) s (by omega), w6 64 (by omega) s (by omega), h6, h7]
    exact r7 s hw
  · rw [h4] at hw
    rw [w6 68 (by omega) t (by omega), w6 69 (by omega) t (by omega), h6, h7]
    exact r8 t hw
  · rcases r9 f hf with ⟨a1, a2⟩ | ⟨a1, a2⟩
    · refine Or.inl ⟨a1, ?_⟩
      rw [hs.2 71 _ (by decide) (by show 4 * b ≤ _ ∧ _ < 4 * b + 4; omega)]
      exact a2
    · exact Or.inr ⟨a1, fcm_pt hf a2 hs⟩
theorem bkw_in : ∀ q : Fin 100, 1 ≤ bkw q.val := by decide
/-- what reading has changed leaves the bank b -/
theorem FrB_Sm (hb : b < 2) (hmb : m + b = 1) (hF : FrB (hbK K n m) m K1) : SmB K b K1 ∧ (∀ q, q < 57 ∨ q = 58 ∨ 83 < q → K1 q = K q) ∧ ∀ j, ¬ prs j → j ≠ 1 → j ≠ 2 → j ≠ 34 → K1 57 j = K 57 j := by
  obtain ⟨f1, f2, f3⟩ := hF
  refine ⟨⟨?_, fun q j hq hj => ?_⟩, fun q hq => ?_, fun j h1 h2 h3 h4 => ?_⟩
  · rw [f2 13 (by decide), hbK_57 (by decide)]
  · have hw := bkw_in ⟨q, by omega⟩
    have hw' : 1 ≤ bkw q := hw
    have hbm : b = 0 ∧ m = 1 ∨ b = 1 ∧ m = 0 := by omega
    have hout : ¬ (bkw q * m ≤ j ∧ j < bkw q * m + bkw q) := by
      rcases hbm with ⟨e1, e2⟩ | ⟨e1, e2⟩ <;> (rw [e1] at hj; rw [e2]; omega)
    rw [f3 q j hq hout]
    by_cases e : q = 59 ∨ q = 62 ∨ q = 67 ∨ q = 70 ∨ q = 71
    · by_cases e71 : q = 71
      · subst e71
        have hout' : ¬ (4 * m ≤ j ∧ j < 4 * m + 4) := hout
        rw [hbK_71, if_neg hout']
      · have hw1 : bkw q = 1 := by
          have e3 : q = 59 ∨ q = 62 ∨ q = 67 ∨ q = 70 := by omega
          rcases e3 with e | e | e | e <;> (rw [e]; rfl)
        rw [hw1] at hout
        unfold hbK
        rw [up_ap, if_neg (by omega)]
        show (if q = 71 ∧ 4 * m ≤ j ∧ j < 4 * m + 4 then -1 else _) = _
        rw [if_neg (by omega), up_ap, if_neg (by omega), up_ap, if_neg (by omega), up_ap, if_neg (by omega), up_ap, if_neg (by omega), up_ap, if_neg (by omega), up_ap, if_neg (by omega), up_ap, if_neg (by omega)]
    · exact hbK_o (by omega)
  · rw [f1 q hq]
    funext j
    exact hbK_o (by omega)
  · unfold prs at h1
    rw [f2 j (by unfold prs; omega), hbK_57 (by omega)]
/-- the reference behind a bad text -/
def hbB (H : HI) (a c : Int) : HI := mrf (up (up H 57 10 a) 57 11 c) 1
theorem hbB_q {a c k pl : Int} {q : Nat} (hM : Mbad K1 k pl H) (h : q ≠ 57) (h2 : q ≠ 84) : hbB H a c q = K1 q := by
  obtain ⟨si, sa, en, va, wo, lx, e, _⟩ := hM
  subst e
  funext j
  unfold hbB mrf
  rw [up_ap, if_neg (by omega), up_ap, if_neg (by omega), up_ap, if_neg (by omega), MXc h]
theorem hbB_57 {a c k pl : Int} {j : Nat} (hM : Mbad K1 k pl H) (h : ¬ prs j) (h2 : j ≠ 10 ∧ j ≠ 11) : hbB H a c 57 j = K1 57 j := by
  obtain ⟨si, sa, en, va, wo, lx, e, _⟩ := hM
  subst e
  unfold prs at h
  unfold hbB mrf
  rw [up_ap, if_neg (by omega), up_ap, if_neg (by omega), up_ap, if_neg (by omega), MXo (by omega)]
theorem hbB_84 {a c k pl : Int} (hM : Mbad K1 k pl H) : hbB H a c 84 = ud (K1 84) 1 (w32 (K1 84 1 + 1)) := by
  obtain ⟨si, sa, en, va, wo, lx, e, _⟩ := hM
  subst e
  have e84 : ∀ H : HI, up (up H 57 10 a) 57 11 c 84 = H 84 := fun H => by
    funext j
    rw [up_ap, if_neg (by omega), up_ap, if_neg (by omega)]
  unfold hbB mrf
  funext j
  rw [up_ap, e84]
  unfold ud
  by_cases e : j = 1
  · rw [if_pos ⟨rfl, e⟩, if_pos e, MXc (by decide)]
  · rw [if_neg (by omega), if_neg e, MXc (by decide)]
theorem ba_Sm {a c k pl : Int} (hb : b < 2) (hmb : m + b = 1) (hF : FrB (hbK K n m) m K1) (hM : Mbad K1 k pl H) : SmB K b (hbB H a c) ∧ (∀ q, q < 57 ∨ q = 58 ∨ (83 < q ∧ q ≠ 84) → hbB H a c q = K q) ∧ ∀ j, ¬ prs j → j ≠ 1 → j ≠ 2 → j ≠ 34 → j ≠ 10 → j ≠ 11 → hbB H a c 57 j = K 57 j := by
  obtain ⟨s1, s2, s3⟩ := FrB_Sm hb hmb hF
  refine ⟨⟨?_, fun q j hq hj => ?_⟩, fun q hq => ?_, fun j h1 h2 h3 h4 h5 h6 => ?_⟩
  · rw [hbB_57 hM (by decide) (by decide)]; exact s1.1
  · rw [hbB_q hM (by omega) (by omega)]; exact s1.2 q j hq hj
  · rw [hbB_q hM (by omega) (by omega)]; exact s2 q (by omega)
  · rw [hbB_57 hM h1 ⟨h5, h6⟩]; exact s3 j h1 h2 h3 h4
end BAD
