theorem xor_ge {x y : Int} (hx : in32 x) (hy : in32 y) : 0 ≤ Int32.ofInt x ^^^ Int32.ofInt y ↔ (x < 0 ↔ y < 0) := by
  have key : ∀ a : Int32, (a.toBitVec.msb = true ↔ a.toInt < 0) := by
    intro a
    have : a.toBitVec.msb = decide (a.toBitVec.toInt < 0) := BitVec.msb_eq_toInt
    rw [this, decide_eq_true_eq]
    rfl
  have h1 := key (Int32.ofInt x)
  have h2 := key (Int32.ofInt y)
  have h3 := key (Int32.ofInt x ^^^ Int32.ofInt y)
  rw [t32_of hx] at h1
  rw [t32_of hy] at h2
  have h4 : (Int32.ofInt x ^^^ Int32.ofInt y).toBitVec.msb = ((Int32.ofInt x).toBitVec.msb ^^ (Int32.ofInt y).toBitVec.msb) := BitVec.msb_xor
  rw [Int32.le_iff_toInt_le]
  have h0 : (0 : Int32).toInt = 0 := rfl
  rw [h0]
  have h5 : 0 ≤ (Int32.ofInt x ^^^ Int32.ofInt y).toInt ↔ ¬ (Int32.ofInt x ^^^ Int32.ofInt y).toBitVec.msb = true := by rw [h3]; omega
  rw [h5, h4]
  have n1 : ¬ x < 0 → (Int32.ofInt x).toBitVec.msb = false := fun z => by
    cases e : (Int32.ofInt x).toBitVec.msb with
    | false => rfl
    | true => exact absurd (h1.mp e) z
  have n2 : ¬ y < 0 → (Int32.ofInt y).toBitVec.msb = false := fun z => by
    cases e : (Int32.ofInt y).toBitVec.msb with
    | false => rfl
    | true => exact absurd (h2.mp e) z
  by_cases a : x < 0
  · by_cases b : y < 0
    · rw [h1.mpr a, h2.mpr b]; exact ⟨fun _ => ⟨fun _ => b, fun _ => a⟩, fun _ => by decide⟩
    · rw [h1.mpr a, n2 b]; exact ⟨fun z => absurd rfl z, fun z => absurd (z.mp a) b⟩
  · by_cases b : y < 0
    · rw [n1 a, h2.mpr b]; exact ⟨fun z => absurd rfl z, fun z => absurd (z.mpr b) a⟩
    · rw [n1 a, n2 b]; exact ⟨fun _ => ⟨fun z => absurd z a, fun z => absurd z b⟩, fun _ => by decide⟩
theorem fdiv_same {x y : Int} (h0 : y ≠ 0) (hd : ¬ y ∣ x) (hs : x < 0 ↔ y < 0) : x.fdiv y = x.tdiv y := by
  rw [Int.fdiv_eq_tdiv, if_neg hd]
  by_cases a : 0 ≤ x
  · rw [if_pos a, if_pos (by omega)]; omega
  · rw [if_neg a, if_neg (by omega), Int.sign_eq_neg_one_of_neg (by omega)]; omega
theorem fdiv_diff {x y : Int} (h0 : y ≠ 0) (hd : ¬ y ∣ x) (hs : ¬ (x < 0 ↔ y < 0)) : x.fdiv y = x.tdiv y - 1 := by
  rw [Int.fdiv_eq_tdiv, if_neg hd]
  by_cases a : 0 ≤ x
  · rw [if_pos a, if_neg (by omega)]
  · rw [if_neg a, if_pos (by omega), Int.sign_eq_one_of_pos (by omega)]
theorem fmod_same {x y : Int} (h0 : y ≠ 0) (hd : ¬ y ∣ x) (hs : x < 0 ↔ y < 0) : x.fmod y = x.tmod y := by
  rw [Int.fmod_eq_tmod, if_neg hd]
  by_cases a : 0 ≤ x
  · rw [if_pos a, if_pos (by omega)]; omega
  · rw [if_neg a, if_neg (by omega), show y.toNat = 0 by omega]; omega
theorem fmod_diff {x y : Int} (h0 : y ≠ 0) (hd : ¬ y ∣ x) (hs : ¬ (x < 0 ↔ y < 0)) : x.fmod y = x.tmod y + y := by
  rw [Int.fmod_eq_tmod, if_neg hd]
  by_cases a : 0 ≤ x
  · rw [if_pos a, if_neg (by omega)]
  · rw [if_neg a, if_pos (by omega)]; omega
theorem fdiv_dvd {x y : Int} (hd : y ∣ x) : x.fdiv y = x.tdiv y := by rw [Int.fdiv_eq_tdiv, if_pos hd]; omega
theorem fmod_dvd {x y : Int} (hd : y ∣ x) : x.fmod y = x.tmod y := by rw [Int.fmod_eq_tmod, if_pos hd]; omega
theorem q_div {x y : Int} (hx : in32 x) (hy : in32 y) (h : x ≠ -2147483648) : Int32.ofInt x / Int32.ofInt y = Int32.ofInt (x.tdiv y) := by
  have := iDiv_t hx hy h
  unfold iDiv at this
  rw [← this, Int32.ofInt_toInt]
theorem tdiv_in {x y : Int} (hx : in32 x) (h : x ≠ -2147483648) : in32 (x.tdiv y) := by
  have h1 : (x.tdiv y).natAbs ≤ x.natAbs := by rw [Int.natAbs_tdiv]; exact Nat.div_le_self _ _
  unfold in32 at *
  omega
theorem fd_val {x y : Int} (hx : in32 x) (hy : in32 y) (h : x ≠ -2147483648) (h0 : y ≠ 0) : fm_floorDiv_val (Int32.ofInt x) (Int32.ofInt y) = Int32.ofInt (x.fdiv y) := by
  unfold fm_floorDiv_val
  have hti := tdiv_in (y := y) hx h
  have e1 : (Int32.ofInt x / Int32.ofInt y * Int32.ofInt y = Int32.ofInt x) ↔ y ∣ x := by
    rw [q_div hx hy h, q_mul]
    have hb : in32 (x.tdiv y * y) := by
      have h1 : (x.tdiv y * y).natAbs ≤ x.natAbs := by
        rw [Int.natAbs_mul, Int.natAbs_tdiv]
        exact Nat.div_mul_le_self _ _
      unfold in32 at *
      omega
    rw [w32_id hb.1 hb.2, c32_eq hb hx]
    constructor
    · intro e
      exact ⟨x.tdiv y, by rw [Int.mul_comm]; exact e.symm⟩
    · intro e
      exact Int.tdiv_mul_cancel e
  have e2 : Int32.ofInt x / Int32.ofInt y - 1 = Int32.ofInt (x.tdiv y - 1) := by
    rw [q_div hx hy h, Int32.ofInt_sub]
    rfl
  by_cases hd : y ∣ x
  · rw [if_pos (e1.mpr hd), ite_self, q_div hx hy h, fdiv_dvd hd]
  · rw [if_neg (fun z => hd (e1.mp z)), e2, q_div hx hy h]
    by_cases hs : x < 0 ↔ y < 0
    · rw [if_pos ((xor_ge hx hy).mpr hs), fdiv_same h0 hd hs]
    · rw [if_neg (fun z => hs ((xor_ge hx hy).mp z)), fdiv_diff h0 hd hs]
theorem fm_val {x y : Int} (hx : in32 x) (hy : in32 y) (h : x ≠ -2147483648) (hy1 : y ≠ -2147483648) (h0 : y ≠ 0) : fm_floorMod_val (Int32.ofInt x) (Int32.ofInt y) = Int32.ofInt (x.fmod y) := by
  unfold fm_floorMod_val
  have hti := tdiv_in (y := y) hx h
  have hm : Int32.ofInt x - Int32.ofInt x / Int32.ofInt y * Int32.ofInt y = Int32.ofInt (x.tmod y) := by
    rw [q_div hx hy h, ← Int32.ofInt_mul, ← Int32.ofInt_sub, Int.tmod_def, Int.mul_comm]
  have hmi : in32 (x.tmod y) := by
    have h1 : (x.tmod y).natAbs ≤ x.natAbs := by rw [Int.natAbs_tmod]; exact Nat.mod_le _ _
    unfold in32 at *
    omega
  rw [hm]
  have e1 : (Int32.ofInt (x.tmod y) = 0) ↔ y ∣ x := by
    rw [← q_0, c32_eq hmi in32_0]
    exact (Int.dvd_iff_tmod_eq_zero).symm
  by_cases hd : y ∣ x
  · rw [if_pos (e1.mpr hd), ite_self, fmod_dvd hd]
  · rw [if_neg (fun z => hd (e1.mp z)), ← Int32.ofInt_add]
    by_cases hs : x < 0 ↔ y < 0
    · rw [if_pos ((xor_ge hx hy).mpr hs), fmod_same h0 hd hs]
    · rw [if_neg (fun z => hs ((xor_ge hx hy).mp z)), fmod_diff h0 hd hs]
section ABFL
variable {μ : MR} {d kc ks pc i : Nat} {L : ML} {st : List AV} {h : AH} {Q : Option AV → AH → Prop}
theorem ab_floorDiv {x y : Int} (hf : fnd (mrC μ) pc = some (.invokestatic i, 3)) (hlk : Cond.methodLink (rx (mrO μ)) i yJ9_floorDiv_7cf53 ∈ Wg) (hd : 1 ≤ d) (hw : wtS st ≤ 8) (hx : x ≠ -2147483648) (hy : y ≠ 0) (k : Ab μ d kc ks (pc + 3) L (aI (x.fdiv y) :: st) h Q) : Ab μ d kc ks pc L (aI y :: aI x :: st) h Q := by
  intro p l e s m args below meth c A D tc sa ad ad0 n0 H locs ls cells slots mc ms F X hn hl hok hc
  have o1 : in32 x := hok.1.2.1
  have o2 : in32 y := hok.1.1
  intro T hT XX
  obtain ⟨vm', X', st9⟩ := fm_floorDiv_run XX F.1 F.own (F.hts _ hlk) (F.hts _ wg_floorDivS) (F.hts _ wg_mathI) (F.hts _ wg_floorDivC) (g := F0 m pc ls (.int (Int32.ofInt y) :: .int (Int32.ofInt x) :: st.map (cv ad sa))) rfl (hl.1.trans F.2.2.2.1.symm) (a := Int32.ofInt x) (b := Int32.ofInt y) (fun z => hy (by rw [← q_0, c32_eq o2 in32_0] at z; exact z)) (rest := st.map (cv ad sa)) rfl (by rw [F.2.1]; exact Fr.dec F hf) (by show 1 ≤ d; exact hd) (by rw [wtS_eq]; show 2 * 0 + wtS st + 14 ≤ 40 * d; omega) (by show cells ≤ mc; omega) (by show slots ≤ ms; omega)
  rw [fd_val o1 o2 hx hy] at st9
  have hi : in32 (x.fdiv y) := by
    have h3 : (x.tdiv y).natAbs ≤ x.natAbs := by rw [Int.natAbs_tdiv]; exact Nat.div_le_self _ _
    unfold in32 at *
    by_cases hd9 : y ∣ x
    · rw [fdiv_dvd hd9]; omega
    · by_cases hs : x < 0 ↔ y < 0
      · rw [fdiv_same hy hd9 hs]; omega
      · rw [fdiv_diff hy hd9 hs]; omega
  obtain ⟨t, a1, b1⟩ := k p l e s m args below meth c A D tc sa ad ad0 n0 H locs ls cells slots mc ms F X hn hl ⟨⟨hi, hok.1.2.2⟩, hok.2⟩ hc (T.setVm vm') hT X'
  exact ⟨t, st9 t a1, b1⟩
theorem ab_floorMod {x y : Int} (hf : fnd (mrC μ) pc = some (.invokestatic i, 3)) (hlk : Cond.methodLink (rx (mrO μ)) i yJ9_floorMod_7cf53 ∈ Wg) (hd : 1 ≤ d) (hw : wtS st ≤ 8) (hx : x ≠ -2147483648) (hy : y ≠ 0 ∧ y ≠ -2147483648) (k : Ab μ d kc ks (pc + 3) L (aI (x.fmod y) :: st) h Q) : Ab μ d kc ks pc L (aI y :: aI x :: st) h Q := by
  intro p l e s m args below meth c A D tc sa ad ad0 n0 H locs ls cells slots mc ms F X hn hl hok hc
  have o1 : in32 x := hok.1.2.1
  have o2 : in32 y := hok.1.1
  intro T hT XX
  obtain ⟨vm', X', st9⟩ := fm_floorMod_run XX F.1 F.own (F.hts _ hlk) (F.hts _ wg_floorModS) (F.hts _ wg_mathI) (F.hts _ wg_floorModC) (g := F0 m pc ls (.int (Int32.ofInt y) :: .int (Int32.ofInt x) :: st.map (cv ad sa))) rfl (hl.1.trans F.2.2.2.1.symm) (a := Int32.ofInt x) (b := Int32.ofInt y) (fun z => hy.1 (by rw [← q_0, c32_eq o2 in32_0] at z; exact z)) (rest := st.map (cv ad sa)) rfl (by rw [F.2.1]; exact Fr.dec F hf) (by show 1 ≤ d; exact hd) (by rw [wtS_eq]; show 2 * 0 + wtS st + 14 ≤ 40 * d; omega) (by show cells ≤ mc; omega) (by show slots ≤ ms; omega)
  rw [fm_val o1 o2 hx hy.2 hy.1] at st9
  have hi : in32 (x.fmod y) := by
    have h1 : (x.tmod y).natAbs < y.natAbs := by rw [Int.natAbs_tmod]; exact Nat.mod_lt _ (by omega)
    have h2 : (x.tmod y).natAbs ≤ x.natAbs := by rw [Int.natAbs_tmod]; exact Nat.mod_le _ _
    have h3 : 0 ≤ x → 0 ≤ x.tmod y := fun z => Int.tmod_nonneg y z
    have h4 : x ≤ 0 → x.tmod y ≤ 0 := fun z => by
      have := Int.tmod_nonneg y (show 0 ≤ -x by omega)
      rw [Int.neg_tmod] at this
      omega
    unfold in32 at *
    by_cases hd9 : y ∣ x
    · rw [fmod_dvd hd9]; omega
    · by_cases hs : x < 0 ↔ y < 0
      · rw [fmod_same hy.1 hd9 hs]; omega
      · rw [fmod_diff hy.1 hd9 hs]; omega
  obtain ⟨t, a1, b1⟩ := k p l e s m args below meth c A D tc sa ad ad0 n0 H locs ls cells slots mc ms F X hn hl ⟨⟨hi, hok.1.2.2⟩, hok.2⟩ hc (T.setVm vm') hT X'
  exact ⟨t, st9 t a1, b1⟩
end ABFL
theorem b_floorDiv {μ : MR} {d pc i : Nat} {L : ML} {st : List AV} {I : HI} {Q : Option AV → HI → Prop} {x y : Int} (hf : fnd (mrC μ) pc = some (.invokestatic i, 3)) (hlk : Cond.methodLink (rx (mrO μ)) i yJ9_floorDiv_7cf53 ∈ Wg) (hd : 1 ≤ d) (hw : wtS st ≤ 8) (hx : x ≠ -2147483648 ∧ y ≠ 0 ∧ y ≠ -2147483648) (k : Bj μ d (pc + 3) L (aI (x.fdiv y) :: st) I Q) : Bj μ d pc L (aI y :: aI x :: st) I Q := ab_floorDiv hf hlk hd hw hx.1 hx.2.1 k
theorem b_floorMod {μ : MR} {d pc i : Nat} {L : ML} {st : List AV} {I : HI} {Q : Option AV → HI → Prop} {x y : Int} (hf : fnd (mrC μ) pc = some (.invokestatic i, 3)) (hlk : Cond.methodLink (rx (mrO μ)) i yJ9_floorMod_7cf53 ∈ Wg) (hd : 1 ≤ d) (hw : wtS st ≤ 8) (hx : x ≠ -2147483648 ∧ y ≠ 0 ∧ y ≠ -2147483648) (k : Bj μ d (pc + 3) L (aI (x.fmod y) :: st) I Q) : Bj μ d pc L (aI y :: aI x :: st) I Q := ab_floorMod hf hlk hd hw hx.1 hx.2 k
