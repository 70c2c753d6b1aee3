/-! ===== the reference: reckoning ===== -/
theorem lDiv_t {x y : Int} (hx : in64 x) (hy : in64 y) (h : x ≠ -9223372036854775808) : lDiv x y = x.tdiv y := by
  unfold lDiv
  rw [Int64.toInt_div_of_ne_left _ _ (fun e => h (by have := congrArg Int64.toInt e; rw [t64_of hx] at this; exact this)), t64_of hx, t64_of hy]
theorem tdiv_b {x y : Int} {n : Nat} (hx : -(n : Int) ≤ x ∧ x ≤ n) : -(n : Int) ≤ x.tdiv y ∧ x.tdiv y ≤ n := by
  have h1 : (x.tdiv y).natAbs ≤ x.natAbs := by rw [Int.natAbs_tdiv]; exact Nat.div_le_self _ _
  omega
theorem lRem_t {x y : Int} (hx : -1000000 ≤ x ∧ x ≤ 1000000) (hy : in64 y) : lRem x y = x.tmod y := by
  have hx6 : in64 x := by unfold in64; omega
  have hq : (Int64.ofInt x / Int64.ofInt y) = Int64.ofInt (x.tdiv y) := by
    have := lDiv_t hx6 hy (by omega)
    unfold lDiv at this
    rw [← this, Int64.ofInt_toInt]
  unfold lRem
  rw [hq, ← Int64.ofInt_mul, ← Int64.ofInt_sub]
  have e : x - x.tdiv y * y = x.tmod y := by rw [Int.mul_comm]; have := Int.tmod_add_mul_tdiv x y; omega
  rw [e]
  refine t64_of ?_
  have h1 : (x.tmod y).natAbs ≤ x.natAbs := by rw [Int.natAbs_tmod]; exact Nat.mod_le _ _
  unfold in64
  omega
theorem b_lcmpX {μ : MR} {d pc : Nat} {L : ML} {st : List AV} {I : HI} {Q : Option AV → HI → Prop} {x y : Int} (hf : fnd (mrC μ) pc = some (.lcmp, 1)) (k : ∀ c : Int, (c = 1 ∧ y < x) ∨ (c = 0 ∧ x = y) ∨ (c = -1 ∧ x < y) → Bj μ d (pc + 1) L (aI c :: st) I Q) : Bj μ d pc L (aJ y :: aJ x :: st) I Q := by
  refine b_lcmp hf (k _ ?_)
  unfold lCmp
  split
  · omega
  · split <;> omega
theorem sp_X12_held {I : HI} {Q : Option AV → HI → Prop} {z : Int} (kq : Q (some (aJ (cl6 z))) I) : Rj MX12_held 0 [aJ z] I Q := by
  refine rj_of okX12_held (Nat.le_of_ble_eq_true rfl) rfl ?_
  unfold cl6 at kq
  refine b_lload_n rfl rfl ?_
  refine b_ldc2 (z := 1000000) rfl kl12_428 (by decide) ?_
  refine b_lcmpX rfl (fun lc4 hlc4 => ?_)
  refine b_if_le (tgt := 14) rfl rfl (fun c5 => ?_) (fun c5 => ?_)
  · refine b_lload_n rfl rfl ?_
    refine b_ldc2 (z := -1000000) rfl kl12_430 (by decide) ?_
    refine b_lcmpX rfl (fun lc18 hlc18 => ?_)
    refine b_if_ge (tgt := 28) rfl rfl (fun c19 => ?_) (fun c19 => ?_)
    · refine b_lload_n rfl rfl ?_
      refine b_lret rfl rfl ?_
      first
      | (rw [if_pos (by omega)] at kq; exact kq)
      | (rw [if_neg (by omega), if_pos (by omega)] at kq; exact kq)
      | (rw [if_neg (by omega), if_neg (by omega)] at kq; exact kq)
    · refine b_ldc2 (z := -1000000) rfl kl12_430 (by decide) ?_
      refine b_goto (tgt := 29) rfl rfl ?_
      refine b_lret rfl rfl ?_
      first
      | (rw [if_pos (by omega)] at kq; exact kq)
      | (rw [if_neg (by omega), if_pos (by omega)] at kq; exact kq)
      | (rw [if_neg (by omega), if_neg (by omega)] at kq; exact kq)
  · refine b_ldc2 (z := 1000000) rfl kl12_428 (by decide) ?_
    refine b_goto (tgt := 29) rfl rfl ?_
    refine b_lret rfl rfl ?_
    first
    | (rw [if_pos (by omega)] at kq; exact kq)
    | (rw [if_neg (by omega), if_pos (by omega)] at kq; exact kq)
    | (rw [if_neg (by omega), if_neg (by omega)] at kq; exact kq)
theorem sp_X12_floor {I : HI} {Q : Option AV → HI → Prop} {a b : Int} (ha : -1000000 ≤ a ∧ a ≤ 1000000) (hb : -1000000 ≤ b ∧ b ≤ 1000000) (kq : Q (some (aJ (if b = 0 then 0 else a.fdiv b))) I) : Rj MX12_floor 0 [aJ a, aJ b] I Q := by
  refine rj_of okX12_floor (Nat.le_of_ble_eq_true rfl) rfl ?_
  have a6 : in64 a := by unfold in64; omega
  have b6 : in64 b := by unfold in64; omega
  have hd := lDiv_t a6 b6 (by omega)
  have hr := lRem_t ha b6
  have ht := tdiv_b (y := b) (n := 1000000) ha
  have hdv : a.tmod b = 0 ↔ b ∣ a := by rw [Int.dvd_iff_tmod_eq_zero]
  refine b_lload_n rfl rfl ?_
  refine b_lconst (z := 0) rfl rfl ?_
  refine b_lcmpX rfl (fun lc2 hlc2 => ?_)
  refine b_if_ne (tgt := 8) rfl rfl (fun c3 => ?_) (fun c3 => ?_)
  · refine b_lload_n rfl rfl ?_
    refine b_lload_n rfl rfl ?_
    refine b_ldiv rfl (by omega) ?_
    rw [hd]
    refine b_lstoreX (F := fun z11 => [some (aJ a), none, some (aJ b), none, some (aJ z11), none]) rfl (by decide) (fun _ => rfl) (fun z11 ez11 => ?_)
    refine b_lload_n rfl rfl ?_
    refine b_lload_n rfl rfl ?_
    refine b_lrem rfl (by omega) ?_
    rw [hr]
    refine b_lconst (z := 0) rfl rfl ?_
    refine b_lcmpX rfl (fun lc17 hlc17 => ?_)
    refine b_if_eq (tgt := 53) rfl rfl (fun c18 => ?_) (fun c18 => ?_)
    · refine b_lload rfl rfl ?_
      refine b_lret rfl rfl ?_
      first
      | (rw [if_pos (by omega)] at kq; exact kq)
      | (rw [if_neg (by omega), fdiv_dvd (hdv.1 (by omega))] at kq; exact qJ kq (by omega) rfl)
      | (rw [if_neg (by omega), fdiv_same (by omega) (fun w => by have := hdv.2 w; omega) (by omega)] at kq; exact qJ kq (by omega) rfl)
      | (rw [if_neg (by omega), fdiv_diff (by omega) (fun w => by have := hdv.2 w; omega) (by omega)] at kq; exact qJ kq (by omega) rfl)
    · refine b_lload_n rfl rfl ?_
      refine b_lconst (z := 0) rfl rfl ?_
      refine b_lcmpX rfl (fun lc23 hlc23 => ?_)
      refine b_if_ge (tgt := 31) rfl rfl (fun c24 => ?_) (fun c24 => ?_)
      · refine b_iconst rfl (by decide) ?_
        refine b_lload_n rfl rfl ?_
        refine b_lconst (z := 0) rfl rfl ?_
        refine b_lcmpX rfl (fun lc34 hlc34 => ?_)
        refine b_if_ge (tgt := 42) rfl rfl (fun c35 => ?_) (fun c35 => ?_)
        · refine b_iconst rfl (by decide) ?_
          refine b_icmp_eq (tgt := 53) rfl rfl (fun c43 => ?_) (fun c43 => ?_)
          · refine b_lload rfl rfl ?_
            refine b_lret rfl rfl ?_
            first
            | (rw [if_pos (by omega)] at kq; exact kq)
            | (rw [if_neg (by omega), fdiv_dvd (hdv.1 (by omega))] at kq; exact qJ kq (by omega) rfl)
            | (rw [if_neg (by omega), fdiv_same (by omega) (fun w => by have := hdv.2 w; omega) (by omega)] at kq; exact qJ kq (by omega) rfl)
            | (rw [if_neg (by omega), fdiv_diff (by omega) (fun w => by have := hdv.2 w; omega) (by omega)] at kq; exact qJ kq (by omega) rfl)
          · refine b_lload rfl rfl ?_
            refine b_lconst (z := 1) rfl rfl ?_
            refine b_lsubN rfl (by omega) (by omega) ?_
            refine b_goto (tgt := 55) rfl rfl ?_
            refine b_lret rfl rfl ?_
            first
            | (rw [if_pos (by omega)] at kq; exact kq)
            | (rw [if_neg (by omega), fdiv_dvd (hdv.1 (by omega))] at kq; exact qJ kq (by omega) rfl)
            | (rw [if_neg (by omega), fdiv_same (by omega) (fun w => by have := hdv.2 w; omega) (by omega)] at kq; exact qJ kq (by omega) rfl)
            | (rw [if_neg (by omega), fdiv_diff (by omega) (fun w => by have := hdv.2 w; omega) (by omega)] at kq; exact qJ kq (by omega) rfl)
        · refine b_iconst rfl (by decide) ?_
          refine b_goto (tgt := 43) rfl rfl ?_
          refine b_icmp_eq (tgt := 53) rfl rfl (fun c43 => ?_) (fun c43 => ?_)
          · refine b_lload rfl rfl ?_
            refine b_lret rfl rfl ?_
            first
            | (rw [if_pos (by omega)] at kq; exact kq)
            | (rw [if_neg (by omega), fdiv_dvd (hdv.1 (by omega))] at kq; exact qJ kq (by omega) rfl)
            | (rw [if_neg (by omega), fdiv_same (by omega) (fun w => by have := hdv.2 w; omega) (by omega)] at kq; exact qJ kq (by omega) rfl)
            | (rw [if_neg (by omega), fdiv_diff (by omega) (fun w => by have := hdv.2 w; omega) (by omega)] at kq; exact qJ kq (by omega) rfl)
          · refine b_lload rfl rfl ?_
            refine b_lconst (z := 1) rfl rfl ?_
            refine b_lsubN rfl (by omega) (by omega) ?_
            refine b_goto (tgt := 55) rfl rfl ?_
            refine b_lret rfl rfl ?_
            first
            | (rw [if_pos (by omega)] at kq; exact kq)
            | (rw [if_neg (by omega), fdiv_dvd (hdv.1 (by omega))] at kq; exact qJ kq (by omega) rfl)
            | (rw [if_neg (by omega), fdiv_same (by omega) (fun w => by have := hdv.2 w; omega) (by omega)] at kq; exact qJ kq (by omega) rfl)
            | (rw [if_neg (by omega), fdiv_diff (by omega) (fun w => by have := hdv.2 w; omega) (by omega)] at kq; exact qJ kq (by omega) rfl)
      · refine b_iconst rfl (by decide) ?_
        refine b_goto (tgt := 32) rfl rfl ?_
        refine b_lload_n rfl rfl ?_
        refine b_lconst (z := 0) rfl rfl ?_
        refine b_lcmpX rfl (fun lc34 hlc34 => ?_)
        refine b_if_ge (tgt := 42) rfl rfl (fun c35 => ?_) (fun c35 => ?_)
        · refine b_iconst rfl (by decide) ?_
          refine b_icmp_eq (tgt := 53) rfl rfl (fun c43 => ?_) (fun c43 => ?_)
          · refine b_lload rfl rfl ?_
            refine b_lret rfl rfl ?_
            first
            | (rw [if_pos (by omega)] at kq; exact kq)
            | (rw [if_neg (by omega), fdiv_dvd (hdv.1 (by omega))] at kq; exact qJ kq (by omega) rfl)
            | (rw [if_neg (by omega), fdiv_same (by omega) (fun w => by have := hdv.2 w; omega) (by omega)] at kq; exact qJ kq (by omega) rfl)
            | (rw [if_neg (by omega), fdiv_diff (by omega) (fun w => by have := hdv.2 w; omega) (by omega)] at kq; exact qJ kq (by omega) rfl)
          · refine b_lload rfl rfl ?_
            refine b_lconst (z := 1) rfl rfl ?_
            refine b_lsubN rfl (by omega) (by omega) ?_
            refine b_goto (tgt := 55) rfl rfl ?_
            refine b_lret rfl rfl ?_
            first
            | (rw [if_pos (by omega)] at kq; exact kq)
            | (rw [if_neg (by omega), fdiv_dvd (hdv.1 (by omega))] at kq; exact qJ kq (by omega) rfl)
            | (rw [if_neg (by omega), fdiv_same (by omega) (fun w => by have := hdv.2 w; omega) (by omega)] at kq; exact qJ kq (by omega) rfl)
            | (rw [if_neg (by omega), fdiv_diff (by omega) (fun w => by have := hdv.2 w; omega) (by omega)] at kq; exact qJ kq (by omega) rfl)
        · refine b_iconst rfl (by decide) ?_
          refine b_goto (tgt := 43) rfl rfl ?_
          refine b_icmp_eq (tgt := 53) rfl rfl (fun c43 => ?_) (fun c43 => ?_)
          · refine b_lload rfl rfl ?_
            refine b_lret rfl rfl ?_
            first
            | (rw [if_pos (by omega)] at kq; exact kq)
            | (rw [if_neg (by omega), fdiv_dvd (hdv.1 (by omega))] at kq; exact qJ kq (by omega) rfl)
            | (rw [if_neg (by omega), fdiv_same (by omega) (fun w => by have := hdv.2 w; omega) (by omega)] at kq; exact qJ kq (by omega) rfl)
            | (rw [if_neg (by omega), fdiv_diff (by omega) (fun w => by have := hdv.2 w; omega) (by omega)] at kq; exact qJ kq (by omega) rfl)
          · refine b_lload rfl rfl ?_
            refine b_lconst (z := 1) rfl rfl ?_
            refine b_lsubN rfl (by omega) (by omega) ?_
            refine b_goto (tgt := 55) rfl rfl ?_
            refine b_lret rfl rfl ?_
            first
            | (rw [if_pos (by omega)] at kq; exact kq)
            | (rw [if_neg (by omega), fdiv_dvd (hdv.1 (by omega))] at kq; exact qJ kq (by omega) rfl)
            | (rw [if_neg (by omega), fdiv_same (by omega) (fun w => by have := hdv.2 w; omega) (by omega)] at kq; exact qJ kq (by omega) rfl)
            | (rw [if_neg (by omega), fdiv_diff (by omega) (fun w => by have := hdv.2 w; omega) (by omega)] at kq; exact qJ kq (by omega) rfl)
  · refine b_lconst (z := 0) rfl rfl ?_
    refine b_lret rfl rfl ?_
    first
    | (rw [if_pos (by omega)] at kq; exact kq)
    | (rw [if_neg (by omega), fdiv_dvd (hdv.1 (by omega))] at kq; exact qJ kq (by omega) rfl)
    | (rw [if_neg (by omega), fdiv_same (by omega) (fun w => by have := hdv.2 w; omega) (by omega)] at kq; exact qJ kq (by omega) rfl)
    | (rw [if_neg (by omega), fdiv_diff (by omega) (fun w => by have := hdv.2 w; omega) (by omega)] at kq; exact qJ kq (by omega) rfl)
def so (v : Int) : Int := if v = -9 then 43 else if v = -10 then 44 else if v = -11 then 42 else if v = -12 then 41 else if v = -13 then 38 else if v = -14 then 39 else if v = -15 then 40 else 15 - v
theorem so_x {v : Int} (h1 : -22 ≤ v) (h2 : v ≤ -9) : (v = -9 ∧ so v = 43) ∨ (v = -10 ∧ so v = 44) ∨ (v = -11 ∧ so v = 42) ∨ (v = -12 ∧ so v = 41) ∨ (v = -13 ∧ so v = 38) ∨ (v = -14 ∧ so v = 39) ∨ (v = -15 ∧ so v = 40) ∨ (v ≤ -16 ∧ so v = 15 - v) := by
  unfold so
  repeat' split
  all_goals omega
theorem fdiv_b {a b : Int} (ha : -1000000 ≤ a ∧ a ≤ 1000000) (h0 : b ≠ 0) : -1000001 ≤ a.fdiv b ∧ a.fdiv b ≤ 1000001 := by
  have ht := tdiv_b (y := b) (n := 1000000) ha
  by_cases hd : b ∣ a
  · rw [fdiv_dvd hd]; omega
  · by_cases hs : a < 0 ↔ b < 0
    · rw [fdiv_same h0 hd hs]; omega
    · rw [fdiv_diff h0 hd hs]; omega
theorem lOr_b : ∀ {a b : Int}, (a = 0 ∨ a = 1) → (b = 0 ∨ b = 1) → lOr a b = jn (-11) a b := by
  intro a b ha hb
  rcases ha with rfl | rfl <;> rcases hb with rfl | rfl <;> decide
theorem lAnd_b : ∀ {a b : Int}, (a = 0 ∨ a = 1) → (b = 0 ∨ b = 1) → lAnd a b = jn (-12) a b := by
  intro a b ha hb
  rcases ha with rfl | rfl <;> rcases hb with rfl | rfl <;> decide
theorem sp_X12_two {I : HI} {Q : Option AV → HI → Prop} {s v a b : Int} (hv : -22 ≤ v ∧ v ≤ -11) (hs : s = so v) (ha : -1000000 ≤ a ∧ a ≤ 1000000) (hb : -1000000 ≤ b ∧ b ≤ 1000000) (h01 : v = -11 ∨ v = -12 → (a = 0 ∨ a = 1) ∧ (b = 0 ∨ b = 1)) (kq : Q (some (aJ (jn v a b))) I) : Rj MX12_two 1 [aI s, aJ a, aJ b] I Q := by
  have hx := so_x hv.1 (by omega)
  have hm := mul6 ha hb
  have j16 : jn (-16) a b = cl6 (a + b) := by simp [jn, jnv]
  have j17 : jn (-17) a b = cl6 (a - b) := by simp [jn, jnv]
  have j18 : jn (-18) a b = cl6 (a * b) := by simp [jn, jnv]
  have j19 : jn (-19) a b = cl6 (if b = 0 then 0 else a.fdiv b) := by simp [jn, jnv]
  have j20 : jn (-20) a b = cl6 (if b = 0 then 0 else a.fmod b) := by simp [jn, jnv]
  have j21 : jn (-21) a b = cl6 (min a b) := by simp [jn, jnv]
  have j22 : jn (-22) a b = cl6 (max a b) := by simp [jn, jnv]
  have j13 : jn (-13) a b = if a < b then 1 else 0 := by
    have : jn (-13) a b = cl6 (if a < b then 1 else 0) := by simp [jn, jnv]
    rw [this]; split <;> rfl
  have j14 : jn (-14) a b = if b < a then 1 else 0 := by
    have : jn (-14) a b = cl6 (if b < a then 1 else 0) := by simp [jn, jnv]
    rw [this]; split <;> rfl
  have j15 : jn (-15) a b = if a = b then 1 else 0 := by
    have : jn (-15) a b = cl6 (if a = b then 1 else 0) := by simp [jn, jnv]
    rw [this]; split <;> rfl
  rw [cl6_id (by omega)] at j21 j22
  refine rj_of okX12_two (Nat.le_of_ble_eq_true rfl) rfl ?_
  refine b_iload_n rfl rfl ?_
  by_cases s1_31 : s = 31
  · refine b_tswIn (tgt := 60) rfl (by omega) (by omega) (by rw [s1_31]; rfl) rfl ?_
    refine b_lload_n rfl rfl ?_
    refine b_lload_n rfl rfl ?_
    refine b_laddN rfl (by omega) (by omega) ?_
    refine b_callS1j (ν := MX12_held) rfl ml12_432 csX12_held (d' := 0) (by omega) (Nat.le_of_ble_eq_true rfl) ?_
    refine sp_X12_held ?_
    refine ⟨_, rfl, ?_⟩
    refine b_lret rfl rfl ?_
    exact qJ kq (by rw [show v = -16 by omega]; exact j16) rfl
  by_cases s1_32 : s = 32
  · refine b_tswIn (tgt := 67) rfl (by omega) (by omega) (by rw [s1_32]; rfl) rfl ?_
    refine b_lload_n rfl rfl ?_
    refine b_lload_n rfl rfl ?_
    refine b_lsubN rfl (by omega) (by omega) ?_
    refine b_callS1j (ν := MX12_held) rfl ml12_432 csX12_held (d' := 0) (by omega) (Nat.le_of_ble_eq_true rfl) ?_
    refine sp_X12_held ?_
    refine ⟨_, rfl, ?_⟩
    refine b_lret rfl rfl ?_
    exact qJ kq (by rw [show v = -17 by omega]; exact j17) rfl
  by_cases s1_33 : s = 33
  · refine b_tswIn (tgt := 74) rfl (by omega) (by omega) (by rw [s1_33]; rfl) rfl ?_
    refine b_lload_n rfl rfl ?_
    refine b_lload_n rfl rfl ?_
    refine b_lmulN rfl (by omega) (by omega) ?_
    refine b_callS1j (ν := MX12_held) rfl ml12_432 csX12_held (d' := 0) (by omega) (Nat.le_of_ble_eq_true rfl) ?_
    refine sp_X12_held ?_
    refine ⟨_, rfl, ?_⟩
    refine b_lret rfl rfl ?_
    exact qJ kq (by rw [show v = -18 by omega]; exact j18) rfl
  by_cases s1_34 : s = 34
  · refine b_tswIn (tgt := 81) rfl (by omega) (by omega) (by rw [s1_34]; rfl) rfl ?_
    refine b_lload_n rfl rfl ?_
    refine b_lload_n rfl rfl ?_
    refine b_callS2j (ν := MX12_floor) rfl ml12_436 csX12_floor (d' := 0) (by omega) (Nat.le_of_ble_eq_true rfl) ?_
    refine sp_X12_floor ha hb ?_
    refine ⟨_, rfl, ?_⟩
    refine b_callS1j (ν := MX12_held) rfl ml12_432 csX12_held (d' := 0) (by omega) (Nat.le_of_ble_eq_true rfl) ?_
    refine sp_X12_held ?_
    refine ⟨_, rfl, ?_⟩
    refine b_lret rfl rfl ?_
    exact qJ kq (by rw [show v = -19 by omega]; exact j19) rfl
  by_cases s1_35 : s = 35
  · refine b_tswIn (tgt := 90) rfl (by omega) (by omega) (by rw [s1_35]; rfl) rfl ?_
    refine b_lload_n rfl rfl ?_
    refine b_lconst (z := 0) rfl rfl ?_
    refine b_lcmpX rfl (fun lc92 hlc92 => ?_)
    refine b_if_ne (tgt := 100) rfl rfl (fun c93 => ?_) (fun c93 => ?_)
    · refine b_lload_n rfl rfl ?_
      refine b_lload_n rfl rfl ?_
      refine b_lload_n rfl rfl ?_
      refine b_lload_n rfl rfl ?_
      refine b_callS2j (ν := MX12_floor) rfl ml12_436 csX12_floor (d' := 0) (by omega) (Nat.le_of_ble_eq_true rfl) ?_
      refine sp_X12_floor ha hb ?_
      rw [if_neg (by omega)]
      have hfb := fdiv_b (b := b) ha (by omega)
      have hmb := mulB (a := b) (b := a.fdiv b) (A := 1000000) (B := 1000001) hb hfb
      refine ⟨_, rfl, ?_⟩
      refine b_lmulN rfl (by omega) (by omega) ?_
      refine b_lsubN rfl (by omega) (by omega) ?_
      refine b_callS1j (ν := MX12_held) rfl ml12_432 csX12_held (d' := 0) (by omega) (Nat.le_of_ble_eq_true rfl) ?_
      refine sp_X12_held ?_
      refine ⟨_, rfl, ?_⟩
      refine b_lret rfl rfl ?_
      first
      | exact qJ kq (by rw [show v = -20 by omega, j20, if_pos (by omega)]; rfl) rfl
      | exact qJ kq (by rw [show v = -20 by omega, j20, if_neg (by omega), Int.fmod_def]) rfl
    · refine b_lconst (z := 0) rfl rfl ?_
      refine b_goto (tgt := 112) rfl rfl ?_
      refine b_lret rfl rfl ?_
      first
      | exact qJ kq (by rw [show v = -20 by omega, j20, if_pos (by omega)]; rfl) rfl
      | exact qJ kq (by rw [show v = -20 by omega, j20, if_neg (by omega), Int.fmod_def]) rfl
  by_cases s1_36 : s = 36
  · refine b_tswIn (tgt := 113) rfl (by omega) (by omega) (by rw [s1_36]; rfl) rfl ?_
    refine b_lload_n rfl rfl ?_
    refine b_lload_n rfl rfl ?_
    refine b_lcmpX rfl (fun lc115 hlc115 => ?_)
    refine b_if_ge (tgt := 123) rfl rfl (fun c116 => ?_) (fun c116 => ?_)
    · refine b_lload_n rfl rfl ?_
      refine b_lret rfl rfl ?_
      exact qJ kq (by rw [show v = -21 by omega, j21]; omega) rfl
    · refine b_lload_n rfl rfl ?_
      refine b_goto (tgt := 124) rfl rfl ?_
      refine b_lret rfl rfl ?_
      exact qJ kq (by rw [show v = -21 by omega, j21]; omega) rfl
  by_cases s1_37 : s = 37
  · refine b_tswIn (tgt := 125) rfl (by omega) (by omega) (by rw [s1_37]; rfl) rfl ?_
    refine b_lload_n rfl rfl ?_
    refine b_lload_n rfl rfl ?_
    refine b_lcmpX rfl (fun lc127 hlc127 => ?_)
    refine b_if_le (tgt := 135) rfl rfl (fun c128 => ?_) (fun c128 => ?_)
    · refine b_lload_n rfl rfl ?_
      refine b_lret rfl rfl ?_
      exact qJ kq (by rw [show v = -22 by omega, j22]; omega) rfl
    · refine b_lload_n rfl rfl ?_
      refine b_goto (tgt := 136) rfl rfl ?_
      refine b_lret rfl rfl ?_
      exact qJ kq (by rw [show v = -22 by omega, j22]; omega) rfl
  by_cases s1_38 : s = 38
  · refine b_tswIn (tgt := 137) rfl (by omega) (by omega) (by rw [s1_38]; rfl) rfl ?_
    refine b_lload_n rfl rfl ?_
    refine b_lload_n rfl rfl ?_
    refine b_lcmpX rfl (fun lc139 hlc139 => ?_)
    refine b_if_ge (tgt := 147) rfl rfl (fun c140 => ?_) (fun c140 => ?_)
    · refine b_lconst (z := 0) rfl rfl ?_
      refine b_lret rfl rfl ?_
      first
      | exact qJ kq (by rw [show v = -13 by omega, j13, if_pos (by omega)]) rfl
      | exact qJ kq (by rw [show v = -13 by omega, j13, if_neg (by omega)]) rfl
    · refine b_lconst (z := 1) rfl rfl ?_
      refine b_goto (tgt := 148) rfl rfl ?_
      refine b_lret rfl rfl ?_
      first
      | exact qJ kq (by rw [show v = -13 by omega, j13, if_pos (by omega)]) rfl
      | exact qJ kq (by rw [show v = -13 by omega, j13, if_neg (by omega)]) rfl
  by_cases s1_39 : s = 39
  · refine b_tswIn (tgt := 149) rfl (by omega) (by omega) (by rw [s1_39]; rfl) rfl ?_
    refine b_lload_n rfl rfl ?_
    refine b_lload_n rfl rfl ?_
    refine b_lcmpX rfl (fun lc151 hlc151 => ?_)
    refine b_if_le (tgt := 159) rfl rfl (fun c152 => ?_) (fun c152 => ?_)
    · refine b_lconst (z := 0) rfl rfl ?_
      refine b_lret rfl rfl ?_
      first
      | exact qJ kq (by rw [show v = -14 by omega, j14, if_pos (by omega)]) rfl
      | exact qJ kq (by rw [show v = -14 by omega, j14, if_neg (by omega)]) rfl
    · refine b_lconst (z := 1) rfl rfl ?_
      refine b_goto (tgt := 160) rfl rfl ?_
      refine b_lret rfl rfl ?_
      first
      | exact qJ kq (by rw [show v = -14 by omega, j14, if_pos (by omega)]) rfl
      | exact qJ kq (by rw [show v = -14 by omega, j14, if_neg (by omega)]) rfl
  by_cases s1_40 : s = 40
  · refine b_tswIn (tgt := 161) rfl (by omega) (by omega) (by rw [s1_40]; rfl) rfl ?_
    refine b_lload_n rfl rfl ?_
    refine b_lload_n rfl rfl ?_
    refine b_lcmpX rfl (fun lc163 hlc163 => ?_)
    refine b_if_ne (tgt := 171) rfl rfl (fun c164 => ?_) (fun c164 => ?_)
    · refine b_lconst (z := 0) rfl rfl ?_
      refine b_lret rfl rfl ?_
      first
      | exact qJ kq (by rw [show v = -15 by omega, j15, if_pos (by omega)]) rfl
      | exact qJ kq (by rw [show v = -15 by omega, j15, if_neg (by omega)]) rfl
    · refine b_lconst (z := 1) rfl rfl ?_
      refine b_goto (tgt := 172) rfl rfl ?_
      refine b_lret rfl rfl ?_
      first
      | exact qJ kq (by rw [show v = -15 by omega, j15, if_pos (by omega)]) rfl
      | exact qJ kq (by rw [show v = -15 by omega, j15, if_neg (by omega)]) rfl
  by_cases s1_41 : s = 41
  · refine b_tswIn (tgt := 173) rfl (by omega) (by omega) (by rw [s1_41]; rfl) rfl ?_
    refine b_lload_n rfl rfl ?_
    refine b_lload_n rfl rfl ?_
    refine b_land rfl ?_
    refine b_lret rfl rfl ?_
    have h := h01 (Or.inr (by omega))
    exact qJ kq (by rw [show v = -12 by omega, lAnd_b h.1 h.2]) rfl
  refine b_tswOut (tgt := 177) rfl (by omega) rfl ?_
  refine b_lload_n rfl rfl ?_
  refine b_lload_n rfl rfl ?_
  refine b_lor rfl ?_
  refine b_lret rfl rfl ?_
  have h := h01 (Or.inl (by omega))
  exact qJ kq (by rw [show v = -11 by omega, lOr_b h.1 h.2]) rfl
def cm (s z v : Int) : Prop := (0 ≤ v ∧ ((s = 0 ∧ z = v) ∨ (s = 30 ∧ v = 1))) ∨ (-8 ≤ v ∧ v < 0 ∧ s = -v) ∨ (v ≤ -9 ∧ s = so v)
/-- formula f of the reference's bank b is the row cs -/
def fcm (K : HI) (b f : Nat) (cs : List Int) : Prop := 0 ≤ K 71 (4 * b + f) ∧ K 72 (4 * b + f) = K 71 (4 * b + f) + cs.length ∧ K 72 (4 * b + f) ≤ 1600 ∧ (∀ j v, cs[j]? = some v → cm (K 73 (1600 * b + (K 71 (4 * b + f)).toNat + j)) (K 74 (1600 * b + (K 71 (4 * b + f)).toNat + j)) v) ∧ wff cs []
def asB (K : HI) : Prop := ∀ k, -1000000 ≤ K 91 k ∧ K 91 k ≤ 1000000
def seA (K : HI) : Nat → Int := fun k => K 91 (k + 1)
theorem wff_bit {s : Int} {r : List Int} {fl : List Bool} {stk : List Int} (hw : wff (s :: r) fl) (hv : vfl stk fl) : (s = -11 ∨ s = -12 → ∃ x y u, stk = x :: y :: u ∧ (x = 0 ∨ x = 1) ∧ (y = 0 ∨ y = 1)) ∧ (s = -10 → ∃ x y z u, stk = x :: y :: z :: u ∧ (z = 0 ∨ z = 1)) := by
  unfold wff at hw
  constructor
  · intro h
    rw [if_neg (by omega), if_neg (by omega), if_neg (by omega), if_pos h] at hw
    obtain ⟨rest, e, _⟩ := hw
    subst e
    match stk, hv with
    | x :: y :: u, hv => exact ⟨x, y, u, rfl, hv.2.1 rfl, hv.2.2.2.1 rfl⟩
  · intro h
    rw [if_neg (by omega), if_neg (by omega), if_pos h] at hw
    obtain ⟨a, b, rest, e, _⟩ := hw
    subst e
    match stk, hv with
    | x :: y :: z :: u, hv => exact ⟨x, y, z, u, rfl, hv.2.2.2.2.2.1 rfl⟩
theorem sp_X12_reckons {I : HI} {Q : Option AV → HI → Prop} {b f : Nat} {cs : List Int} (hb : I 57 13 = (b : Int)) (hb2 : b < 2) (hf : f < 4) (hc : fcm I b f cs) (has : asB I) (kq : ∀ g, Q (some (aJ (ev (seA I) cs))) (row I 90 g)) : Rj MX12_reckons 2 [aR 57, aI (f : Int)] I Q := by
  obtain ⟨hc1, hc2, hc3, hc4, hc5⟩ := hc
  have hse : ∀ k, k < 8 → -1000000 ≤ seA I k ∧ seA I k ≤ 1000000 := fun k _ => has (k + 1)
  have q13 : ∀ g, row I 90 g 57 13 = (b : Int) := fun g => by rw [row_cell (by decide)]; exact hb
  have e71 : (4 * (b : Int) + (f : Int)).toNat = 4 * b + f := by omega
  have q72 : ∀ g, row I 90 g 72 = I 72 := fun g => row_cell (by decide)
  generalize hfr : I 71 (4 * b + f) = fr at *
  have lp : ∀ (cs stk : List Int) (fl : List Bool) (t k : Int) (x5 : Option AV) (g : Nat → Int), t = stk.length → stk.length ≤ 64 → 0 ≤ k → k + cs.length = 1600 * b + I 72 (4 * b + f) → (∀ j v, cs[j]? = some v → cm (I 73 (k.toNat + j)) (I 74 (k.toNat + j)) v) → wff cs fl → vfl stk fl → arr g stk → (∀ g v, evs (seA I) cs stk = [v] → Q (some (aJ v)) (row I 90 g)) → Bj MX12_reckons 2 28 [some (aR 57), some (aI (f : Int)), some (aI fr), some (aI t), some (aI k), x5] [] (row I 90 g) Q := by
    intro cs
    induction cs with
    | nil =>
      intro stk fl t k x5 g ht ht64 hk hke hcs hw hv ha hq
      obtain ⟨v, e1, -⟩ := evs_fin hse hw hv
      have e2 : stk = [v] := e1
      subst e2
      have hg : g 0 = v := ha 0 v rfl
      simp at hke ht
      refine b_iload rfl rfl ?_
      refine b_sipush rfl (by decide) ?_
      refine b_aload_n rfl rfl ?_
      refine b_getI rfl fl12_51 rfl (by decide) rfl ?_
      rw [q13]
      refine b_imulN rfl (by omega) (by omega) ?_
      refine b_aload_n rfl rfl ?_
      refine b_getR (r := 72) rfl fl12_93 rfl (by decide) rfl rfl ?_
      refine b_iconst rfl (by decide) ?_
      refine b_aload_n rfl rfl ?_
      refine b_getI rfl fl12_51 rfl (by decide) rfl ?_
      rw [q13]
      refine b_imulN rfl (by omega) (by omega) ?_
      refine b_iload_n rfl rfl ?_
      refine b_iaddN rfl (by omega) (by omega) ?_
      refine b_iald rfl rfl (by omega) (by omega) ?_
      rw [q72, e71]
      refine b_iaddN rfl (by omega) (by omega) ?_
      refine b_icmp_ge (tgt := 233) rfl rfl (fun c52 => ?_) (fun c52 => ?_)
      · refine b_aload_n rfl rfl ?_
        refine b_getR (r := 90) rfl fl12_180 rfl (by decide) rfl rfl ?_
        refine b_iconst rfl (by decide) ?_
        refine b_lald rfl rfl (by omega) (by omega) ?_
        refine b_lret rfl rfl ?_
        refine qJ (hq g v rfl) ?_ rfl
        rw [row_same]
        exact hg.symm
      · omega
    | cons s r ih =>
      intro stk fl t k x5 g ht ht64 hk hke hcs hw hv ha hq
      obtain ⟨n1, n2, n3, n4⟩ := wff_need hw
      obtain ⟨w11, w10⟩ := wff_bit hw hv
      obtain ⟨fl', hw', hv'⟩ := vfl_step hse hw hv
      have hlen := vfl_len hv
      have hs0 : cm (I 73 k.toNat) (I 74 k.toNat) s := hcs 0 s rfl
      have hcs' : ∀ j v, r[j]? = some v → cm (I 73 ((k + 1).toNat + j)) (I 74 ((k + 1).toNat + j)) v := by
        intro j v hj
        rw [show (k + 1).toNat + j = k.toNat + (j + 1) by omega]
        exact hcs (j + 1) v hj
      simp only [List.length_cons] at hke
      have fin : ∀ (g' : Nat → Int) (t' k' : Int) (x' : Option AV), t' = (evL (seA I) s stk).length → t' ≤ 64 → k' = k + 1 → arr g' (evL (seA I) s stk) → Bj MX12_reckons 2 28 [some (aR 57), some (aI (f : Int)), some (aI fr), some (aI t'), some (aI k'), x'] [] (row I 90 g') Q := by
        intro g' t' k' x' h1 h64 h2 h3
        subst h2
        exact ih _ fl' t' _ x' g' h1 (by omega) (by omega) (by omega) hcs' hw' hv' h3 hq
      clear ih
      unfold cm at hs0
      have hx : s ≤ -9 → -22 ≤ s := fun h => by
        by_cases e : s < -10
        · exact (n4 e).1
        · omega
      generalize hsS : I 73 k.toNat = S at *
      generalize hzZ : I 74 k.toNat = Z at *
      have hsx : s ≤ -9 → ((s = -9 ∧ S = 43) ∨ (s = -10 ∧ S = 44) ∨ (s < -10 ∧ 30 < S ∧ S ≠ 43 ∧ S ≠ 44)) := fun h => by
        have := so_x (hx h) h
        omega
      have e3 : row I 90 g 73 k.toNat = S := by rw [row_cell (by decide)]; exact hsS
      have e4 : row I 90 g 74 k.toNat = Z := by rw [row_cell (by decide)]; exact hzZ
      have e9 : row I 90 g 91 S.toNat = I 91 S.toNat := by rw [row_cell (by decide)]
      have head : ∀ Z2 : Int, S ≤ 30 → (Z2 = (if 0 ≤ s then s else seA I (-1 - s).toNat)) → arr (fun j => if j = stk.length then Z2 else g j) (evL (seA I) s stk) ∧ (evL (seA I) s stk).length = stk.length + 1 := by
        intro Z2 h1 h2
        have h3 : ¬ s ≤ -9 := fun w => by have := hsx w; omega
        have ee : evL (seA I) s stk = (if 0 ≤ s then s else seA I (-1 - s).toNat) :: stk := by unfold evL; rw [if_pos (by omega)]
        rw [ee, h2]
        exact ⟨arr_push ha, rfl⟩
      refine b_iload rfl rfl ?_
      refine b_sipush rfl (by decide) ?_
      refine b_aload_n rfl rfl ?_
      refine b_getI rfl fl12_51 rfl (by decide) rfl ?_
      rw [q13]
      refine b_imulN rfl (by omega) (by omega) ?_
      refine b_aload_n rfl rfl ?_
      refine b_getR (r := 72) rfl fl12_93 rfl (by decide) rfl rfl ?_
      refine b_iconst rfl (by decide) ?_
      refine b_aload_n rfl rfl ?_
      refine b_getI rfl fl12_51 rfl (by decide) rfl ?_
      rw [q13]
      refine b_imulN rfl (by omega) (by omega) ?_
      refine b_iload_n rfl rfl ?_
      refine b_iaddN rfl (by omega) (by omega) ?_
      refine b_iald rfl rfl (by omega) (by omega) ?_
      rw [q72, e71]
      refine b_iaddN rfl (by omega) (by omega) ?_
      refine b_icmp_ge (tgt := 233) rfl rfl (fun c52 => ?_) (fun c52 => ?_)
      · omega
      · refine b_aload_n rfl rfl ?_
        refine b_getR (r := 73) rfl fl12_96 rfl (by decide) rfl rfl ?_
        refine b_iload rfl rfl ?_
        refine b_iald rfl rfl (by omega) (by omega) ?_
        rw [e3]
        refine b_istoreX (F := fun z62 => [some (aR 57), some (aI (f : Int)), some (aI fr), some (aI t), some (aI k), some (aI z62)]) rfl (by decide) (fun _ => rfl) (fun z62 ez62 => ?_)
        refine b_iload rfl rfl ?_
        refine b_bipush rfl (by decide) ?_
        refine b_icmp_gt (tgt := 118) rfl rfl (fun c68 => ?_) (fun c68 => ?_)
        · refine b_iload rfl rfl ?_
          refine b_bipush rfl (by decide) ?_
          refine b_icmp_ne (tgt := 146) rfl rfl (fun c122 => ?_) (fun c122 => ?_)
          · refine b_iload rfl rfl ?_
            refine b_bipush rfl (by decide) ?_
            refine b_icmp_ne (tgt := 197) rfl rfl (fun c150 => ?_) (fun c150 => ?_)
            · have s11 : s < -10 := by
                  by_cases w : s ≤ -9
                  · have := hsx w; omega
                  · omega
              have hn4 := n4 s11
              have hstk : ∃ x y u, stk = x :: y :: u := by
                  match stk with
                  | [] => simp at hlen; omega
                  | [_] => simp at hlen; omega
                  | x :: y :: u => exact ⟨x, y, u, rfl⟩
              obtain ⟨x, y, u, rfl⟩ := hstk
              have ee : evL (seA I) s (x :: y :: u) = jn s y x :: u := by unfold evL; rw [if_neg (by omega), if_neg (by omega), if_neg (by omega)]
              simp only [List.length_cons] at ht ht64 hlen
              have g1 : g (u.length + 1) = x := arr_top ha
              have g2 : g u.length = y := arr_top (arr_pop ha)
              obtain ⟨fa, fb, frest, rfl⟩ : ∃ fa fb frest, fl = fa :: fb :: frest := by
                  match fl, hv with
                  | a :: b :: c, _ => exact ⟨a, b, c, rfl⟩
              have hb01 : s = -11 ∨ s = -12 → (y = 0 ∨ y = 1) ∧ (x = 0 ∨ x = 1) := fun w => by
                  obtain ⟨x', y', u', e, q1, q2⟩ := w11 w
                  cases e
                  exact ⟨q2, q1⟩
              clear w11 w10
              refine b_iincX (F := fun z197 => [some (aR 57), some (aI (f : Int)), some (aI fr), some (aI z197), some (aI k), some (aI z62)]) rfl rfl (by omega) (by omega) (fun _ => rfl) (fun z197 ez197 => ?_)
              have et : (z197 - 1).toNat = u.length := by omega
              have et1 : z197.toNat = u.length + 1 := by omega
              refine b_aload_n rfl rfl ?_
              refine b_getR (r := 90) rfl fl12_180 rfl (by decide) rfl rfl ?_
              refine b_iload_n rfl rfl ?_
              refine b_iconst rfl (by decide) ?_
              refine b_isubN rfl (by omega) (by omega) ?_
              refine b_iload rfl rfl ?_
              refine b_aload_n rfl rfl ?_
              refine b_getR (r := 90) rfl fl12_180 rfl (by decide) rfl rfl ?_
              refine b_iload_n rfl rfl ?_
              refine b_iconst rfl (by decide) ?_
              refine b_isubN rfl (by omega) (by omega) ?_
              refine b_lald rfl rfl (by omega) (by omega) ?_
              rw [et, row_same, g2]
              refine b_aload_n rfl rfl ?_
              refine b_getR (r := 90) rfl fl12_180 rfl (by decide) rfl rfl ?_
              refine b_iload_n rfl rfl ?_
              refine b_lald rfl rfl (by omega) (by omega) ?_
              rw [et1, row_same, g1]
              refine b_callS3j (ν := MX12_two) rfl ml12_440 csX12_two (d' := 1) (by omega) (Nat.le_of_ble_eq_true rfl) ?_
              refine sp_X12_two (v := s) (by omega) (by omega) hv.2.2.1 hv.1 hb01 ?_
              refine ⟨_, rfl, ?_⟩
              refine b_last rfl rfl (by omega) (by omega) ?_
              try rw [et, row_up]
              refine b_iincX (F := fun z227 => [some (aR 57), some (aI (f : Int)), some (aI fr), some (aI z197), some (aI z227), some (aI z62)]) rfl rfl (by omega) (by omega) (fun _ => rfl) (fun z227 ez227 => ?_)
              refine b_goto (tgt := 28) rfl rfl ?_
              refine fin _ _ _ _ ?_ (by omega) (by omega) ?_
              · first
                  | (rw [ee]; simp only [List.length_cons] at *; omega)
                  | (rw [(head _ (by omega) rfl).2]; omega)
              · first
                  | (rw [ee]; exact arr_push (arr_pop ha))
                  | (rw [ee, if_neg (by omega)]; exact arr_push (arr_pop (arr_pop (arr_pop ha))))
                  | (rw [ee, if_pos (by omega)]; exact arr_push (arr_pop (arr_pop (arr_pop ha))))
                  | (rw [ee]; exact arr_push (arr_pop (arr_pop ha)))
                  | (refine (head _ (by omega) ?_).1
                     first
                       | (rw [if_pos (by omega)]; omega)
                       | (rw [if_neg (by omega)]; unfold seA; rw [show (-1 - s).toNat + 1 = S.toNat by omega]))
            · have s10 : s = -10 := by
                  by_cases w : s ≤ -9
                  · have := hsx w; omega
                  · omega
              obtain ⟨x, y, w, u, rfl, hw01⟩ := w10 s10
              clear w10 w11
              have ee : evL (seA I) s (x :: y :: w :: u) = (if w = 0 then x else y) :: u := by unfold evL; rw [if_neg (by omega), if_neg (by omega), if_pos (by omega)]
              simp only [List.length_cons] at ht ht64 hlen
              have g1 : g (u.length + 2) = x := arr_top ha
              have g2 : g (u.length + 1) = y := arr_top (arr_pop ha)
              have g3 : g u.length = w := arr_top (arr_pop (arr_pop ha))
              refine b_iincX (F := fun z153 => [some (aR 57), some (aI (f : Int)), some (aI fr), some (aI z153), some (aI k), some (aI z62)]) rfl rfl (by omega) (by omega) (fun _ => rfl) (fun z153 ez153 => ?_)
              have et : (z153 - 1).toNat = u.length := by omega
              have et2 : z153.toNat = u.length + 1 := by omega
              have et1 : (z153 + 1).toNat = u.length + 2 := by omega
              refine b_aload_n rfl rfl ?_
              refine b_getR (r := 90) rfl fl12_180 rfl (by decide) rfl rfl ?_
              refine b_iload_n rfl rfl ?_
              refine b_iconst rfl (by decide) ?_
              refine b_isubN rfl (by omega) (by omega) ?_
              refine b_aload_n rfl rfl ?_
              refine b_getR (r := 90) rfl fl12_180 rfl (by decide) rfl rfl ?_
              refine b_iload_n rfl rfl ?_
              refine b_iconst rfl (by decide) ?_
              refine b_isubN rfl (by omega) (by omega) ?_
              refine b_lald rfl rfl (by omega) (by omega) ?_
              rw [et, row_same, g3]
              refine b_lconst (z := 1) rfl rfl ?_
              refine b_lcmpX rfl (fun lc172 hlc172 => ?_)
              refine b_if_ne (tgt := 185) rfl rfl (fun c173 => ?_) (fun c173 => ?_)
              · refine b_aload_n rfl rfl ?_
                refine b_getR (r := 90) rfl fl12_180 rfl (by decide) rfl rfl ?_
                refine b_iload_n rfl rfl ?_
                refine b_iconst rfl (by decide) ?_
                refine b_iaddN rfl (by omega) (by omega) ?_
                refine b_lald rfl rfl (by omega) (by omega) ?_
                try rw [et1, row_same, g1]
                refine b_last rfl rfl (by omega) (by omega) ?_
                rw [et, row_up]
                refine b_goto (tgt := 227) rfl rfl ?_
                try rw [et, row_up]
                refine b_iincX (F := fun z227 => [some (aR 57), some (aI (f : Int)), some (aI fr), some (aI z153), some (aI z227), some (aI z62)]) rfl rfl (by omega) (by omega) (fun _ => rfl) (fun z227 ez227 => ?_)
                refine b_goto (tgt := 28) rfl rfl ?_
                refine fin _ _ _ _ ?_ (by omega) (by omega) ?_
                · first
                    | (rw [ee]; simp only [List.length_cons] at *; omega)
                    | (rw [(head _ (by omega) rfl).2]; omega)
                · first
                    | (rw [ee]; exact arr_push (arr_pop ha))
                    | (rw [ee, if_neg (by omega)]; exact arr_push (arr_pop (arr_pop (arr_pop ha))))
                    | (rw [ee, if_pos (by omega)]; exact arr_push (arr_pop (arr_pop (arr_pop ha))))
                    | (rw [ee]; exact arr_push (arr_pop (arr_pop ha)))
                    | (refine (head _ (by omega) ?_).1
                       first
                         | (rw [if_pos (by omega)]; omega)
                         | (rw [if_neg (by omega)]; unfold seA; rw [show (-1 - s).toNat + 1 = S.toNat by omega]))
              · refine b_aload_n rfl rfl ?_
                refine b_getR (r := 90) rfl fl12_180 rfl (by decide) rfl rfl ?_
                refine b_iload_n rfl rfl ?_
                refine b_lald rfl rfl (by omega) (by omega) ?_
                rw [et2, row_same, g2]
                refine b_goto (tgt := 193) rfl rfl ?_
                try rw [et1, row_same, g1]
                refine b_last rfl rfl (by omega) (by omega) ?_
                rw [et, row_up]
                refine b_goto (tgt := 227) rfl rfl ?_
                try rw [et, row_up]
                refine b_iincX (F := fun z227 => [some (aR 57), some (aI (f : Int)), some (aI fr), some (aI z153), some (aI z227), some (aI z62)]) rfl rfl (by omega) (by omega) (fun _ => rfl) (fun z227 ez227 => ?_)
                refine b_goto (tgt := 28) rfl rfl ?_
                refine fin _ _ _ _ ?_ (by omega) (by omega) ?_
                · first
                    | (rw [ee]; simp only [List.length_cons] at *; omega)
                    | (rw [(head _ (by omega) rfl).2]; omega)
                · first
                    | (rw [ee]; exact arr_push (arr_pop ha))
                    | (rw [ee, if_neg (by omega)]; exact arr_push (arr_pop (arr_pop (arr_pop ha))))
                    | (rw [ee, if_pos (by omega)]; exact arr_push (arr_pop (arr_pop (arr_pop ha))))
                    | (rw [ee]; exact arr_push (arr_pop (arr_pop ha)))
                    | (refine (head _ (by omega) ?_).1
                       first
                         | (rw [if_pos (by omega)]; omega)
                         | (rw [if_neg (by omega)]; unfold seA; rw [show (-1 - s).toNat + 1 = S.toNat by omega]))
          · have s9 : s = -9 := by
                by_cases w : s ≤ -9
                · have := hsx w; omega
                · omega
            have hstk : ∃ x u, stk = x :: u := by
                cases stk with
                | nil => simp at hlen; have := n2 s9; omega
                | cons x u => exact ⟨x, u, rfl⟩
            obtain ⟨x, u, rfl⟩ := hstk
            have ee : evL (seA I) s (x :: u) = (1 - x) :: u := by unfold evL; rw [if_neg (by omega), if_pos (by omega)]
            simp only [List.length_cons] at ht ht64 hlen
            have et : (t - 1).toNat = u.length := by omega
            have g1 := arr_top ha
            obtain ⟨fb, frest, rfl⟩ : ∃ fb frest, fl = fb :: frest := by
                cases fl with
                | nil => exact hv.elim
                | cons a b => exact ⟨a, b, rfl⟩
            have bx := hv.1
            refine b_aload_n rfl rfl ?_
            refine b_getR (r := 90) rfl fl12_180 rfl (by decide) rfl rfl ?_
            refine b_iload_n rfl rfl ?_
            refine b_iconst rfl (by decide) ?_
            refine b_isubN rfl (by omega) (by omega) ?_
            refine b_lconst (z := 1) rfl rfl ?_
            refine b_aload_n rfl rfl ?_
            refine b_getR (r := 90) rfl fl12_180 rfl (by decide) rfl rfl ?_
            refine b_iload_n rfl rfl ?_
            refine b_iconst rfl (by decide) ?_
            refine b_isubN rfl (by omega) (by omega) ?_
            refine b_lald rfl rfl (by omega) (by omega) ?_
            rw [et, row_same, g1]
            refine b_lsubN rfl (by omega) (by omega) ?_
            refine b_last rfl rfl (by omega) (by omega) ?_
            rw [et, row_up]
            refine b_goto (tgt := 227) rfl rfl ?_
            try rw [et, row_up]
            refine b_iincX (F := fun z227 => [some (aR 57), some (aI (f : Int)), some (aI fr), some (aI t), some (aI z227), some (aI z62)]) rfl rfl (by omega) (by omega) (fun _ => rfl) (fun z227 ez227 => ?_)
            refine b_goto (tgt := 28) rfl rfl ?_
            refine fin _ _ _ _ ?_ (by omega) (by omega) ?_
            · first
                | (rw [ee]; simp only [List.length_cons] at *; omega)
                | (rw [(head _ (by omega) rfl).2]; omega)
            · first
                | (rw [ee]; exact arr_push (arr_pop ha))
                | (rw [ee, if_neg (by omega)]; exact arr_push (arr_pop (arr_pop (arr_pop ha))))
                | (rw [ee, if_pos (by omega)]; exact arr_push (arr_pop (arr_pop (arr_pop ha))))
                | (rw [ee]; exact arr_push (arr_pop (arr_pop ha)))
                | (refine (head _ (by omega) ?_).1
                   first
                     | (rw [if_pos (by omega)]; omega)
                     | (rw [if_neg (by omega)]; unfold seA; rw [show (-1 - s).toNat + 1 = S.toNat by omega]))
        · have h3 : ¬ s ≤ -9 := fun w => by have := hsx w; omega
          have hlt := n1 (by omega)
          have et : t.toNat = stk.length := by omega
          refine b_aload_n rfl rfl ?_
          refine b_getR (r := 90) rfl fl12_180 rfl (by decide) rfl rfl ?_
          refine b_iload_n rfl rfl ?_
          refine b_iload rfl rfl ?_
          refine b_if_ne (tgt := 92) rfl rfl (fun c78 => ?_) (fun c78 => ?_)
          · refine b_iload rfl rfl ?_
            refine b_bipush rfl (by decide) ?_
            refine b_icmp_ne (tgt := 103) rfl rfl (fun c96 => ?_) (fun c96 => ?_)
            · refine b_aload_n rfl rfl ?_
              refine b_getR (r := 91) rfl fl12_183 rfl (by decide) rfl rfl ?_
              refine b_iload rfl rfl ?_
              refine b_iald rfl rfl (by omega) (by omega) ?_
              rw [show z62.toNat = S.toNat by rw [ez62], e9]
              refine b_i2l rfl ?_
              refine b_last rfl rfl (by omega) (by omega) ?_
              rw [et, row_up]
              refine b_iincX (F := fun z112 => [some (aR 57), some (aI (f : Int)), some (aI fr), some (aI z112), some (aI k), some (aI z62)]) rfl rfl (by omega) (by omega) (fun _ => rfl) (fun z112 ez112 => ?_)
              refine b_goto (tgt := 227) rfl rfl ?_
              try rw [et, row_up]
              refine b_iincX (F := fun z227 => [some (aR 57), some (aI (f : Int)), some (aI fr), some (aI z112), some (aI z227), some (aI z62)]) rfl rfl (by omega) (by omega) (fun _ => rfl) (fun z227 ez227 => ?_)
              refine b_goto (tgt := 28) rfl rfl ?_
              refine fin _ _ _ _ ?_ (by omega) (by omega) ?_
              · first
                  | (rw [ee]; simp only [List.length_cons] at *; omega)
                  | (rw [(head _ (by omega) rfl).2]; omega)
              · first
                  | (rw [ee]; exact arr_push (arr_pop ha))
                  | (rw [ee, if_neg (by omega)]; exact arr_push (arr_pop (arr_pop (arr_pop ha))))
                  | (rw [ee, if_pos (by omega)]; exact arr_push (arr_pop (arr_pop (arr_pop ha))))
                  | (rw [ee]; exact arr_push (arr_pop (arr_pop ha)))
                  | (refine (head _ (by omega) ?_).1
                     first
                       | (rw [if_pos (by omega)]; omega)
                       | (rw [if_neg (by omega)]; unfold seA; rw [show (-1 - s).toNat + 1 = S.toNat by omega]))
            · refine b_lconst (z := 1) rfl rfl ?_
              refine b_goto (tgt := 111) rfl rfl ?_
              refine b_last rfl rfl (by omega) (by omega) ?_
              rw [et, row_up]
              refine b_iincX (F := fun z112 => [some (aR 57), some (aI (f : Int)), some (aI fr), some (aI z112), some (aI k), some (aI z62)]) rfl rfl (by omega) (by omega) (fun _ => rfl) (fun z112 ez112 => ?_)
              refine b_goto (tgt := 227) rfl rfl ?_
              try rw [et, row_up]
              refine b_iincX (F := fun z227 => [some (aR 57), some (aI (f : Int)), some (aI fr), some (aI z112), some (aI z227), some (aI z62)]) rfl rfl (by omega) (by omega) (fun _ => rfl) (fun z227 ez227 => ?_)
              refine b_goto (tgt := 28) rfl rfl ?_
              refine fin _ _ _ _ ?_ (by omega) (by omega) ?_
              · first
                  | (rw [ee]; simp only [List.length_cons] at *; omega)
                  | (rw [(head _ (by omega) rfl).2]; omega)
              · first
                  | (rw [ee]; exact arr_push (arr_pop ha))
                  | (rw [ee, if_neg (by omega)]; exact arr_push (arr_pop (arr_pop (arr_pop ha))))
                  | (rw [ee, if_pos (by omega)]; exact arr_push (arr_pop (arr_pop (arr_pop ha))))
                  | (rw [ee]; exact arr_push (arr_pop (arr_pop ha)))
                  | (refine (head _ (by omega) ?_).1
                     first
                       | (rw [if_pos (by omega)]; omega)
                       | (rw [if_neg (by omega)]; unfold seA; rw [show (-1 - s).toNat + 1 = S.toNat by omega]))
          · refine b_aload_n rfl rfl ?_
            refine b_getR (r := 74) rfl fl12_99 rfl (by decide) rfl rfl ?_
            refine b_iload rfl rfl ?_
            refine b_iald rfl rfl (by omega) (by omega) ?_
            rw [e4]
            refine b_i2l rfl ?_
            refine b_goto (tgt := 111) rfl rfl ?_
            refine b_last rfl rfl (by omega) (by omega) ?_
            rw [et, row_up]
            refine b_iincX (F := fun z112 => [some (aR 57), some (aI (f : Int)), some (aI fr), some (aI z112), some (aI k), some (aI z62)]) rfl rfl (by omega) (by omega) (fun _ => rfl) (fun z112 ez112 => ?_)
            refine b_goto (tgt := 227) rfl rfl ?_
            try rw [et, row_up]
            refine b_iincX (F := fun z227 => [some (aR 57), some (aI (f : Int)), some (aI fr), some (aI z112), some (aI z227), some (aI z62)]) rfl rfl (by omega) (by omega) (fun _ => rfl) (fun z227 ez227 => ?_)
            refine b_goto (tgt := 28) rfl rfl ?_
            refine fin _ _ _ _ ?_ (by omega) (by omega) ?_
            · first
                | (rw [ee]; simp only [List.length_cons] at *; omega)
                | (rw [(head _ (by omega) rfl).2]; omega)
            · first
                | (rw [ee]; exact arr_push (arr_pop ha))
                | (rw [ee, if_neg (by omega)]; exact arr_push (arr_pop (arr_pop (arr_pop ha))))
                | (rw [ee, if_pos (by omega)]; exact arr_push (arr_pop (arr_pop (arr_pop ha))))
                | (rw [ee]; exact arr_push (arr_pop (arr_pop ha)))
                | (refine (head _ (by omega) ?_).1
                   first
                     | (rw [if_pos (by omega)]; omega)
                     | (rw [if_neg (by omega)]; unfold seA; rw [show (-1 - s).toNat + 1 = S.toNat by omega]))
  refine rj_of okX12_reckons (Nat.le_of_ble_eq_true rfl) rfl ?_
  refine b_aload_n rfl rfl ?_
  refine b_getR (r := 71) rfl fl12_90 rfl (by decide) rfl rfl ?_
  refine b_iconst rfl (by decide) ?_
  refine b_aload_n rfl rfl ?_
  refine b_getI rfl fl12_51 rfl (by decide) rfl ?_
  rw [hb]
  refine b_imulN rfl (by omega) (by omega) ?_
  refine b_iload_n rfl rfl ?_
  refine b_iaddN rfl (by omega) (by omega) ?_
  refine b_iald rfl rfl (by omega) (by omega) ?_
  rw [e71, hfr]
  refine b_istoreX_n (F := fun z13 => [some (aR 57), some (aI (f : Int)), some (aI z13), none, none, none]) rfl (by decide) (fun _ => rfl) (fun z13 ez13 => ?_)
  refine b_iconst rfl (by decide) ?_
  refine b_istoreX_n (F := fun z15 => [some (aR 57), some (aI (f : Int)), some (aI z13), some (aI z15), none, none]) rfl (by decide) (fun _ => rfl) (fun z15 ez15 => ?_)
  refine b_sipush rfl (by decide) ?_
  refine b_aload_n rfl rfl ?_
  refine b_getI rfl fl12_51 rfl (by decide) rfl ?_
  rw [hb]
  refine b_imulN rfl (by omega) (by omega) ?_
  refine b_iload_n rfl rfl ?_
  refine b_iaddN rfl (by omega) (by omega) ?_
  refine b_istoreX (F := fun z26 => [some (aR 57), some (aI (f : Int)), some (aI z13), some (aI z15), some (aI z26), none]) rfl (by decide) (fun _ => rfl) (fun z26 ez26 => ?_)
  subst ez13
  refine b_eq rfl rfl (row_self (c := 90)).symm ?_
  refine lp cs [] [] _ _ _ _ (by rw [ez15]; rfl) (by simp) (by omega) (by omega) (by rw [ez26, show (1600 * (b : Int) + z13).toNat = 1600 * b + z13.toNat by omega]; exact hc4) hc5 trivial (fun i v h => by cases h) ?_
  intro g v hv
  refine qJ (kq g) ?_ rfl
  unfold ev
  rw [hv]
  rfl
