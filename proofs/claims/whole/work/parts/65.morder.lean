/-! ===== ordering: sets and orders alike ===== -/
theorem aT_add {tr : Nat → Int} {A : Nat → Nat} {t k : Nat} (hb : t.testBit k = false) : ∀ m, k < m → aT tr A (t ||| 2 ^ k) m = ad (aT tr A t m) (A k) 1 := by
  have hbt : ∀ j, bt (t ||| 2 ^ k) j = bt t j + (if j = k then 1 else 0) := by
    intro j
    unfold bt
    rw [Nat.testBit_or, Nat.testBit_two_pow]
    by_cases e : j = k
    · subst e
      rw [hb]
      simp
    · rw [if_neg e]
      have : decide (k = j) = false := by simp; omega
      rw [this, Bool.or_false]
      omega
  intro m hm
  funext c
  simp only [aT, ad, cnt]
  have h1 : sumN m (fun j => if A j = c then bt (t ||| 2 ^ k) j else 0) = sumN m (fun j => (if A j = c then bt t j else 0) + (if j = k then (if A k = c then 1 else 0) else 0)) := by
    refine sumN_congr (fun j _ => ?_)
    rw [hbt]
    by_cases e : j = k
    · subst e
      by_cases q : A j = c
      · simp [q]
      · simp [q]
    · simp [e]
  rw [h1, sumN_add, sumN_one hm]
  by_cases e : c = A k
  · rw [if_pos e, if_pos e.symm]; omega
  · rw [if_neg e, if_neg (fun z => e z.symm)]; omega
theorem cnt_mono {A : Nat → Nat} {t c : Nat} : ∀ n m, n ≤ m → cnt A t n c ≤ cnt A t m c := by
  intro n m h
  induction m with
  | zero => rw [show n = 0 by omega]; exact Int.le_refl _
  | succ m ih =>
    by_cases e : n = m + 1
    · rw [e]; exact Int.le_refl _
    · have h1 := ih (by omega)
      have h2 := bt_in t m
      rw [cnt_s]
      by_cases q : A m = c
      · rw [if_pos q]; omega
      · rw [if_neg q]; omega
theorem room_iff {tr : Nat → Int} {A : Nat → Nat} {t : Nat} : ∀ m, (∀ k, k < m → aT tr A t (k + 1) (A k) ≤ 20) ↔ (∀ k, k < m → aT tr A t m (A k) ≤ 20) := by
  intro m
  constructor
  · induction m with
    | zero => intro _ k hk; omega
    | succ m ih =>
      intro h k hk
      by_cases e : A m = A k
      · rw [← e]; exact h m (by omega)
      · have h1 : aT tr A t (m + 1) (A k) = aT tr A t m (A k) := by unfold aT; rw [cnt_s, if_neg e, Int.add_zero]
        rw [h1]
        have hk2 : k ≠ m := fun z => e (by rw [z])
        exact ih (fun j hj => h j (by omega)) k (by omega)
  · intro h k hk
    have := h k hk
    have h2 := cnt_mono (A := A) (t := t) (c := A k) (k + 1) m (by omega)
    unfold aT at *
    omega
def oT (m : Nat) : Nat → Nat → Nat
  | 0, _ => 0
  | k + 1, q => oT m k (q / m) ||| 2 ^ (q % m)
def oV (P : Nat → Prop) (m : Nat) : Nat → Nat → Prop
  | 0, _ => True
  | k + 1, q => oV P m k (q / m) ∧ (oT m k (q / m)).testBit (q % m) = false ∧ P (oT m (k + 1) q)
theorem oT_lt {m : Nat} (hm : 0 < m) : ∀ k q, oT m k q < 2 ^ m := by
  intro k
  induction k with
  | zero => intro q; exact Nat.pow_pos (by decide)
  | succ k ih =>
    intro q
    exact Nat.or_lt_two_pow (ih (q / m)) (Nat.pow_lt_pow_right (by decide) (Nat.mod_lt _ hm))
theorem pcn_or2_ : ∀ k : Fin 6, ∀ t : Fin 64, pcn (t.val ||| 2 ^ k.val) ≤ pcn t.val + 1 ∧ (pcn (t.val ||| 2 ^ k.val) = pcn t.val + 1 → t.val.testBit k.val = false) := by decide +kernel
theorem pcn_or2 {k t : Nat} (hk : k < 6) (ht : t < 64) : pcn (t ||| 2 ^ k) ≤ pcn t + 1 ∧ (pcn (t ||| 2 ^ k) = pcn t + 1 → t.testBit k = false) := pcn_or2_ ⟨k, hk⟩ ⟨t, ht⟩
theorem pcn_full2_ : ∀ m : Fin 7, ∀ t : Fin 64, t.val < 2 ^ m.val → pcn t.val = m.val → t.val = 2 ^ m.val - 1 := by decide +kernel
theorem oT_pc {m : Nat} (hm : 0 < m) (hm6 : m ≤ 6) : ∀ k q, pcn (oT m k q) ≤ k := by
  have h64 := (pw hm6).2.1
  intro k
  induction k with
  | zero => intro q; exact Nat.le_of_eq (by show pcn 0 = 0; decide)
  | succ k ih =>
    intro q
    have h1 := ih (q / m)
    have h2 := oT_lt hm k (q / m)
    have := (pcn_or2 (k := q % m) (t := oT m k (q / m)) (by have := Nat.mod_lt q hm; omega) (by omega)).1
    show pcn (oT m k (q / m) ||| 2 ^ (q % m)) ≤ k + 1
    omega
theorem oV_pc {P : Nat → Prop} {m : Nat} (hm : 0 < m) (hm6 : m ≤ 6) : ∀ k q, oV P m k q → pcn (oT m k q) = k := by
  have h64 := (pw hm6).2.1
  intro k
  induction k with
  | zero => intro q _; show pcn 0 = 0; decide
  | succ k ih =>
    intro q h
    have h1 := ih (q / m) h.1
    have h2 := oT_lt hm k (q / m)
    have h3 : pcn (oT m k (q / m) ||| 2 ^ (q % m)) = pcn (oT m k (q / m)) + 1 := pcn_or_ ⟨q % m, by have := Nat.mod_lt q hm; omega⟩ ⟨oT m k (q / m), by omega⟩ h.2.1
    show pcn (oT m k (q / m) ||| 2 ^ (q % m)) = k + 1
    omega
noncomputable def gQ (L : Nat → Int) (m : Nat) : Nat → Nat
  | 0 => 0
  | k + 1 => gQ L m k * m + (fP (glP L (gS L m k)) m 0).toNat
theorem gQ_ok {P : Nat → Prop} {m : Nat} {L : Nat → Int} (hm : 0 < m) (hm6 : m ≤ 6) (hE : ∀ t, t < 2 ^ m → ldE P m L t) (h0 : L 0 ≠ 0) : ∀ k, k ≤ m → oT m k (gQ L m k) = gS L m k ∧ oV P m k (gQ L m k) ∧ gQ L m k < m ^ k := by
  intro k
  induction k with
  | zero => intro _; exact ⟨rfl, trivial, Nat.pow_pos hm⟩
  | succ k ih =>
    intro hk
    obtain ⟨i1, i2, i3⟩ := ih (by omega)
    obtain ⟨x, e1, e2⟩ := gS_k hm6 hE h0 (i := k) (by omega)
    obtain ⟨g1, g2, g3⟩ := gS_ok hm6 hE h0 (k + 1) hk
    have hx : fP (glP L (gS L m k)) m 0 ≠ -1 := by omega
    obtain ⟨y, f1, _, _, f4, _⟩ := fP_yes m 0 hx
    have exy : y = x := by omega
    subst exy
    have eq : gQ L m (k + 1) = gQ L m k * m + y := by
      show gQ L m k * m + (fP (glP L (gS L m k)) m 0).toNat = _
      rw [e1, Int.toNat_natCast]
    have d1 : (gQ L m k * m + y) / m = gQ L m k := by rw [Nat.add_comm, Nat.add_mul_div_right _ _ hm, Nat.div_eq_of_lt e2, Nat.zero_add]
    have d2 : (gQ L m k * m + y) % m = y := by rw [Nat.add_comm, Nat.add_mul_mod_self_right, Nat.mod_eq_of_lt e2]
    have es : gS L m (k + 1) = gS L m k ||| 2 ^ y := by
      show gS L m k ||| 2 ^ (fP (glP L (gS L m k)) m 0).toNat = _
      rw [e1, Int.toNat_natCast]
    have et : oT m (k + 1) (gQ L m (k + 1)) = gS L m (k + 1) := by
      rw [eq]
      show oT m k ((gQ L m k * m + y) / m) ||| 2 ^ ((gQ L m k * m + y) % m) = _
      rw [d1, d2, i1, es]
    refine ⟨et, ?_, ?_⟩
    · show oV P m k (gQ L m (k + 1) / m) ∧ (oT m k (gQ L m (k + 1) / m)).testBit (gQ L m (k + 1) % m) = false ∧ P (oT m (k + 1) (gQ L m (k + 1)))
      rw [et]
      rw [eq, d1, d2, i1]
      refine ⟨i2, f4.1, ?_⟩
      have := ((hE _ g1).2.1 g2).2
      refine this.resolve_left (fun z => ?_)
      rw [z] at g3
      have : pcn 0 = 0 := by decide
      omega
    · rw [eq, Nat.pow_succ]
      have : (gQ L m k + 1) * m ≤ m ^ k * m := Nat.mul_le_mul_right m i3
      rw [Nat.add_mul, Nat.one_mul] at this
      omega
theorem gQ_min {P : Nat → Prop} {m : Nat} {L : Nat → Int} (hm : 0 < m) (hm6 : m ≤ 6) (hE : ∀ t, t < 2 ^ m → ldE P m L t) : ∀ k, k ≤ m → ∀ q, oV P m k q → L (oT m k q) ≠ 0 → L 0 ≠ 0 ∧ gQ L m k ≤ q ∧ (q = gQ L m k → oT m k q = gS L m k) := by
  intro k
  induction k with
  | zero => intro _ q _ h; exact ⟨h, Nat.zero_le _, fun _ => rfl⟩
  | succ k ih =>
    intro hk q hv hL
    have hlt := oT_lt hm k (q / m)
    have hmod := Nat.mod_lt q hm
    have hg : glP L (oT m k (q / m)) (q % m) := ⟨hv.2.1, hL⟩
    have hL2 : L (oT m k (q / m)) ≠ 0 := by
      refine (hE _ hlt).2.2 ⟨Or.inr ⟨q % m, hmod, hg⟩, ?_⟩
      cases k with
      | zero => exact Or.inl rfl
      | succ k => exact Or.inr hv.1.2.2
    obtain ⟨i0, i1, i2⟩ := ih (by omega) (q / m) hv.1 hL2
    have hdm := Nat.div_add_mod q m
    rw [Nat.mul_comm] at hdm
    obtain ⟨x, e1, e2⟩ := gS_k hm6 hE i0 (i := k) (by omega)
    have eq : gQ L m (k + 1) = gQ L m k * m + x := by
      show gQ L m k * m + (fP (glP L (gS L m k)) m 0).toNat = _
      rw [e1, Int.toNat_natCast]
    refine ⟨i0, ?_, fun e => ?_⟩
    · rw [eq]
      by_cases hlt2 : gQ L m k < q / m
      · have : (gQ L m k + 1) * m ≤ q / m * m := Nat.mul_le_mul_right m hlt2
        rw [Nat.add_mul, Nat.one_mul] at this
        omega
      · have e3 : q / m = gQ L m k := by omega
        have e4 := i2 e3
        rw [e4] at hg
        have hx : fP (glP L (gS L m k)) m 0 ≠ -1 := by omega
        obtain ⟨y, f1, _, _, _, f5⟩ := fP_yes m 0 hx
        have : ¬ q % m < y := fun z => f5 (q % m) (by omega) z hg
        rw [← e3]
        omega
    · rw [eq] at e
      have d1 : q / m = gQ L m k := by rw [e, Nat.add_comm, Nat.add_mul_div_right _ _ hm, Nat.div_eq_of_lt e2, Nat.zero_add]
      have d2 : q % m = x := by rw [e, Nat.add_comm, Nat.add_mul_mod_self_right, Nat.mod_eq_of_lt e2]
      show oT m k (q / m) ||| 2 ^ (q % m) = gS L m k ||| 2 ^ (fP (glP L (gS L m k)) m 0).toNat
      rw [i2 d1, d2, e1, Int.toNat_natCast]
/-- what the first good order is, and when there is none -/
theorem order_first {P : Nat → Prop} {m : Nat} {L : Nat → Int} (hm : 0 < m) (hm6 : m ≤ 6) (hE : ∀ t, t < 2 ^ m → ldE P m L t) : (L 0 = 0 → ∀ q, ¬ oV P m m q) ∧ (L 0 ≠ 0 → oV P m m (gQ L m m) ∧ gQ L m m < m ^ m ∧ ∀ q, q < gQ L m m → ¬ oV P m m q) := by
  have h64 := (pw hm6).2.1
  have full : ∀ q, oV P m m q → L (oT m m q) ≠ 0 := by
    intro q hv
    have hlt := oT_lt hm m q
    have hpc := oV_pc hm hm6 m q hv
    have ef : oT m m q = 2 ^ m - 1 := pcn_full2_ ⟨m, by omega⟩ ⟨oT m m q, by omega⟩ hlt hpc
    refine (hE _ hlt).2.2 ⟨Or.inl ef, ?_⟩
    cases m with
    | zero => omega
    | succ m => exact Or.inr hv.2.2
  refine ⟨fun h q hv => ?_, fun h => ?_⟩
  · exact (gQ_min hm hm6 hE m (Nat.le_refl _) q hv (full q hv)).1 h
  · obtain ⟨g1, g2, g3⟩ := gQ_ok hm hm6 hE h m (Nat.le_refl _)
    refine ⟨g2, g3, fun q hq hv => ?_⟩
    have := (gQ_min hm hm6 hE m (Nat.le_refl _) q hv (full q hv)).2.1
    omega
theorem gQ_dig {P : Nat → Prop} {m : Nat} {L : Nat → Int} (hm : 0 < m) (hm6 : m ≤ 6) (hE : ∀ t, t < 2 ^ m → ldE P m L t) (h0 : L 0 ≠ 0) : ∀ k, k ≤ m → ∀ j, j < k → pD m k (gQ L m k) j = fP (glP L (gS L m j)) m 0 := by
  intro k
  induction k with
  | zero => intro _ j hj; omega
  | succ k ih =>
    intro hk j hj
    obtain ⟨x, e1, e2⟩ := gS_k hm6 hE h0 (i := k) (by omega)
    have eq : gQ L m (k + 1) = gQ L m k * m + x := by
      show gQ L m k * m + (fP (glP L (gS L m k)) m 0).toNat = _
      rw [e1, Int.toNat_natCast]
    show (if j = k then ((gQ L m (k + 1) % m : Nat) : Int) else pD m k (gQ L m (k + 1) / m) j) = _
    rw [eq]
    by_cases e : j = k
    · rw [if_pos e, Nat.add_comm, Nat.add_mul_mod_self_right, Nat.mod_eq_of_lt e2, e, e1]
    · rw [if_neg e, Nat.add_comm, Nat.add_mul_div_right _ _ hm, Nat.div_eq_of_lt e2, Nat.zero_add]
      exact ih (by omega) j (by omega)
