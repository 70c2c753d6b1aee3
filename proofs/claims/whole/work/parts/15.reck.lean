/-! ===== the formulas: what a row of steps gives ===== -/
def cl6 (z : Int) : Int := if 1000000 < z then 1000000 else if z < -1000000 then -1000000 else z
theorem cl6_in (z : Int) : -1000000 ≤ cl6 z ∧ cl6 z ≤ 1000000 := by
  unfold cl6
  split
  · omega
  · split <;> omega
theorem cl6_id {z : Int} (h : -1000000 ≤ z ∧ z ≤ 1000000) : cl6 z = z := by
  unfold cl6
  rw [if_neg (by omega), if_neg (by omega)]
def jnv (s a b : Int) : Int :=
  if s = -11 then iOr a b else if s = -12 then iAnd a b else if s = -13 then (if a < b then 1 else 0) else if s = -14 then (if b < a then 1 else 0) else if s = -15 then (if a = b then 1 else 0)
  else if s = -16 then a + b else if s = -17 then a - b else if s = -18 then a * b else if s = -19 then (if b = 0 then 0 else a.fdiv b) else if s = -20 then (if b = 0 then 0 else a.fmod b)
  else if s = -21 then min a b else if s = -22 then max a b else 0
def jn (s a b : Int) : Int := cl6 (jnv s a b)
theorem lCmp_le {x y : Int} : lCmp x y ≤ 0 ↔ x ≤ y := by
  unfold lCmp
  split
  · omega
  · split <;> omega
theorem lCmp_ge {x y : Int} : 0 ≤ lCmp x y ↔ y ≤ x := by
  unfold lCmp
  split
  · omega
  · split <;> omega
theorem lCmp_eq {x y : Int} : lCmp x y = 0 ↔ x = y := by
  unfold lCmp
  split
  · omega
  · split <;> omega
theorem lCmp_lt {x y : Int} : lCmp x y < 0 ↔ x < y := by
  unfold lCmp
  split
  · omega
  · split <;> omega
theorem lCmp_gt {x y : Int} : 0 < lCmp x y ↔ y < x := by
  unfold lCmp
  split
  · omega
  · split <;> omega
theorem mul6 {a b : Int} (ha : -1000000 ≤ a ∧ a ≤ 1000000) (hb : -1000000 ≤ b ∧ b ≤ 1000000) : -1000000000000 ≤ a * b ∧ a * b ≤ 1000000000000 := by
  have h1 : (a * b).natAbs ≤ 1000000 * 1000000 := by
    rw [Int.natAbs_mul]
    exact Nat.mul_le_mul (by omega) (by omega)
  omega
theorem sp_X5_join {I : HI} {Q : Option AV → HI → Prop} {s a b : Int} (ha : -1000000 ≤ a ∧ a ≤ 1000000) (hb : -1000000 ≤ b ∧ b ≤ 1000000) (kq : Q (some (aI (jn s a b))) I) : Rj MX5_join 1 [aI s, aI a, aI b] I Q := by
  have hm := mul6 ha hb
  have tl : ∀ z : Int, z = jnv s a b → in32 z ∨ (-1000000000000 ≤ z ∧ z ≤ 1000000000000) → Bj MX5_join 1 205 [some (aI s), some (aI a), some (aI b), some (aJ z), none] [] I Q := by
    intro z hz hr
    have hr2 : -1000000000000 ≤ z ∧ z ≤ 1000000000000 := by
      rcases hr with h | h
      · unfold in32 at h; omega
      · exact h
    refine b_lload_n rfl rfl ?_
    refine b_ldc2 (z := 1000000) rfl kl5_95 (by decide) ?_
    refine b_lcmp rfl ?_
    refine b_if_le (tgt := 218) rfl rfl (fun c210 => ?_) (fun c210 => ?_)
    · refine b_lload_n rfl rfl ?_
      refine b_ldc2 (z := -1000000) rfl kl5_98 (by decide) ?_
      refine b_lcmp rfl ?_
      refine b_if_ge (tgt := 231) rfl rfl (fun c223 => ?_) (fun c223 => ?_)
      · refine b_lload_n rfl rfl ?_
        refine b_l2i rfl ?_
        try rw [w32_id (by rw [lCmp_le] at c210; rw [lCmp_ge] at c223; omega) (by rw [lCmp_le] at c210; omega)]
        refine b_iret rfl rfl ?_
        refine qI kq ?_ rfl
        unfold jn
        rw [← hz]
        unfold cl6
        first | (rw [lCmp_le] at c210; rw [lCmp_ge] at c223; rw [if_neg (by omega), if_neg (by omega)]) | (rw [lCmp_le] at c210; rw [lCmp_ge] at c223; rw [if_neg (by omega), if_pos (by omega)]) | (rw [lCmp_le] at c210; rw [if_pos (by omega)])
      · refine b_ldc (z := -1000000) rfl kc5_100 (by decide) ?_
        refine b_goto (tgt := 233) rfl rfl ?_
        try rw [w32_id (by rw [lCmp_le] at c210; rw [lCmp_ge] at c223; omega) (by rw [lCmp_le] at c210; omega)]
        refine b_iret rfl rfl ?_
        refine qI kq ?_ rfl
        unfold jn
        rw [← hz]
        unfold cl6
        first | (rw [lCmp_le] at c210; rw [lCmp_ge] at c223; rw [if_neg (by omega), if_neg (by omega)]) | (rw [lCmp_le] at c210; rw [lCmp_ge] at c223; rw [if_neg (by omega), if_pos (by omega)]) | (rw [lCmp_le] at c210; rw [if_pos (by omega)])
    · refine b_ldc (z := 1000000) rfl kc5_97 (by decide) ?_
      refine b_goto (tgt := 233) rfl rfl ?_
      try rw [w32_id (by rw [lCmp_le] at c210; rw [lCmp_ge] at c223; omega) (by rw [lCmp_le] at c210; omega)]
      refine b_iret rfl rfl ?_
      refine qI kq ?_ rfl
      unfold jn
      rw [← hz]
      unfold cl6
      first | (rw [lCmp_le] at c210; rw [lCmp_ge] at c223; rw [if_neg (by omega), if_neg (by omega)]) | (rw [lCmp_le] at c210; rw [lCmp_ge] at c223; rw [if_neg (by omega), if_pos (by omega)]) | (rw [lCmp_le] at c210; rw [if_pos (by omega)])
  have o1 : in32 (iOr a b) := t32_in _
  have o2 : in32 (iAnd a b) := t32_in _
  have o3 : b ≠ 0 → in32 (a.fdiv b) := fun z => by
    have h3 : (a.tdiv b).natAbs ≤ a.natAbs := by rw [Int.natAbs_tdiv]; exact Nat.div_le_self _ _
    unfold in32
    by_cases hd : b ∣ a
    · rw [fdiv_dvd hd]; omega
    · by_cases hs : a < 0 ↔ b < 0
      · rw [fdiv_same z hd hs]; omega
      · rw [fdiv_diff z hd hs]; omega
  have o4 : b ≠ 0 → in32 (a.fmod b) := fun z => by
    have h3 : (a.tmod b).natAbs ≤ a.natAbs := by rw [Int.natAbs_tmod]; exact Nat.mod_le _ _
    unfold in32
    by_cases hd : b ∣ a
    · rw [fmod_dvd hd]; omega
    · by_cases hs : a < 0 ↔ b < 0
      · rw [fmod_same z hd hs]; omega
      · rw [fmod_diff z hd hs]; omega
  refine rj_of okX5_join (Nat.le_of_ble_eq_true rfl) rfl ?_
  refine b_lconst (z := 0) rfl rfl ?_
  refine b_lstoreX_n (F := fun z1 => [some (aI s), some (aI a), some (aI b), some (aJ z1), none]) rfl (by decide) (fun _ => rfl) (fun z1 ez1 => ?_)
  refine b_iload_n rfl rfl ?_
  by_cases s3_m22 : s = -22
  · refine b_tswIn (tgt := 195) rfl (by omega) (by omega) (by rw [s3_m22]; rfl) rfl ?_
    refine b_iload_n rfl rfl ?_
    refine b_iload_n rfl rfl ?_
    refine b_mmax rfl ml5_71 (by omega) (Nat.le_of_ble_eq_true rfl) ?_
    refine b_i2l rfl ?_
    refine b_lstoreX_n (F := fun z201 => [some (aI s), some (aI a), some (aI b), some (aJ z201), none]) rfl (by decide) (fun _ => rfl) (fun z201 ez201 => ?_)
    refine b_goto (tgt := 205) rfl rfl ?_
    refine tl _ ?_ ?_
    · unfold jnv
      simp only [*]
      try simp
      try omega
    · first | (subst_vars; omega) | (left; subst_vars; first | exact o1 | exact o2 | exact o3 ‹_› | exact o4 ‹_› | (unfold in32; omega))
  by_cases s3_m21 : s = -21
  · refine b_tswIn (tgt := 185) rfl (by omega) (by omega) (by rw [s3_m21]; rfl) rfl ?_
    refine b_iload_n rfl rfl ?_
    refine b_iload_n rfl rfl ?_
    refine b_mmin rfl ml5_74 (by omega) (Nat.le_of_ble_eq_true rfl) ?_
    refine b_i2l rfl ?_
    refine b_lstoreX_n (F := fun z191 => [some (aI s), some (aI a), some (aI b), some (aJ z191), none]) rfl (by decide) (fun _ => rfl) (fun z191 ez191 => ?_)
    refine b_goto (tgt := 205) rfl rfl ?_
    refine tl _ ?_ ?_
    · unfold jnv
      simp only [*]
      try simp
      try omega
    · first | (subst_vars; omega) | (left; subst_vars; first | exact o1 | exact o2 | exact o3 ‹_› | exact o4 ‹_› | (unfold in32; omega))
  by_cases s3_m20 : s = -20
  · refine b_tswIn (tgt := 167) rfl (by omega) (by omega) (by rw [s3_m20]; rfl) rfl ?_
    refine b_iload_n rfl rfl ?_
    refine b_if_ne (tgt := 175) rfl rfl (fun c168 => ?_) (fun c168 => ?_)
    · refine b_iload_n rfl rfl ?_
      refine b_iload_n rfl rfl ?_
      refine b_floorMod rfl ml5_92 (by omega) (Nat.le_of_ble_eq_true rfl) (by omega) ?_
      refine b_i2l rfl ?_
      refine b_lstoreX_n (F := fun z181 => [some (aI s), some (aI a), some (aI b), some (aJ z181), none]) rfl (by decide) (fun _ => rfl) (fun z181 ez181 => ?_)
      refine b_goto (tgt := 205) rfl rfl ?_
      refine tl _ ?_ ?_
      · unfold jnv
        simp only [*]
        try simp
        try omega
      · first | (subst_vars; omega) | (left; subst_vars; first | exact o1 | exact o2 | exact o3 ‹_› | exact o4 ‹_› | (unfold in32; omega))
    · refine b_lconst (z := 0) rfl rfl ?_
      refine b_goto (tgt := 181) rfl rfl ?_
      refine b_lstoreX_n (F := fun z181 => [some (aI s), some (aI a), some (aI b), some (aJ z181), none]) rfl (by decide) (fun _ => rfl) (fun z181 ez181 => ?_)
      refine b_goto (tgt := 205) rfl rfl ?_
      refine tl _ ?_ ?_
      · unfold jnv
        simp only [*]
        try simp
        try omega
      · first | (subst_vars; omega) | (left; subst_vars; first | exact o1 | exact o2 | exact o3 ‹_› | exact o4 ‹_› | (unfold in32; omega))
  by_cases s3_m19 : s = -19
  · refine b_tswIn (tgt := 149) rfl (by omega) (by omega) (by rw [s3_m19]; rfl) rfl ?_
    refine b_iload_n rfl rfl ?_
    refine b_if_ne (tgt := 157) rfl rfl (fun c150 => ?_) (fun c150 => ?_)
    · refine b_iload_n rfl rfl ?_
      refine b_iload_n rfl rfl ?_
      refine b_floorDiv rfl ml5_89 (by omega) (Nat.le_of_ble_eq_true rfl) (by omega) ?_
      refine b_i2l rfl ?_
      refine b_lstoreX_n (F := fun z163 => [some (aI s), some (aI a), some (aI b), some (aJ z163), none]) rfl (by decide) (fun _ => rfl) (fun z163 ez163 => ?_)
      refine b_goto (tgt := 205) rfl rfl ?_
      refine tl _ ?_ ?_
      · unfold jnv
        simp only [*]
        try simp
        try omega
      · first | (subst_vars; omega) | (left; subst_vars; first | exact o1 | exact o2 | exact o3 ‹_› | exact o4 ‹_› | (unfold in32; omega))
    · refine b_lconst (z := 0) rfl rfl ?_
      refine b_goto (tgt := 163) rfl rfl ?_
      refine b_lstoreX_n (F := fun z163 => [some (aI s), some (aI a), some (aI b), some (aJ z163), none]) rfl (by decide) (fun _ => rfl) (fun z163 ez163 => ?_)
      refine b_goto (tgt := 205) rfl rfl ?_
      refine tl _ ?_ ?_
      · unfold jnv
        simp only [*]
        try simp
        try omega
      · first | (subst_vars; omega) | (left; subst_vars; first | exact o1 | exact o2 | exact o3 ‹_› | exact o4 ‹_› | (unfold in32; omega))
  by_cases s3_m18 : s = -18
  · refine b_tswIn (tgt := 140) rfl (by omega) (by omega) (by rw [s3_m18]; rfl) rfl ?_
    refine b_iload_n rfl rfl ?_
    refine b_i2l rfl ?_
    refine b_iload_n rfl rfl ?_
    refine b_i2l rfl ?_
    refine b_lmulN rfl (by omega) (by omega) ?_
    refine b_lstoreX_n (F := fun z145 => [some (aI s), some (aI a), some (aI b), some (aJ z145), none]) rfl (by decide) (fun _ => rfl) (fun z145 ez145 => ?_)
    refine b_goto (tgt := 205) rfl rfl ?_
    refine tl _ ?_ ?_
    · unfold jnv
      simp only [*]
      try simp
      try omega
    · first | (subst_vars; omega) | (left; subst_vars; first | exact o1 | exact o2 | exact o3 ‹_› | exact o4 ‹_› | (unfold in32; omega))
  by_cases s3_m17 : s = -17
  · refine b_tswIn (tgt := 131) rfl (by omega) (by omega) (by rw [s3_m17]; rfl) rfl ?_
    refine b_iload_n rfl rfl ?_
    refine b_i2l rfl ?_
    refine b_iload_n rfl rfl ?_
    refine b_i2l rfl ?_
    refine b_lsubN rfl (by omega) (by omega) ?_
    refine b_lstoreX_n (F := fun z136 => [some (aI s), some (aI a), some (aI b), some (aJ z136), none]) rfl (by decide) (fun _ => rfl) (fun z136 ez136 => ?_)
    refine b_goto (tgt := 205) rfl rfl ?_
    refine tl _ ?_ ?_
    · unfold jnv
      simp only [*]
      try simp
      try omega
    · first | (subst_vars; omega) | (left; subst_vars; first | exact o1 | exact o2 | exact o3 ‹_› | exact o4 ‹_› | (unfold in32; omega))
  by_cases s3_m16 : s = -16
  · refine b_tswIn (tgt := 122) rfl (by omega) (by omega) (by rw [s3_m16]; rfl) rfl ?_
    refine b_iload_n rfl rfl ?_
    refine b_i2l rfl ?_
    refine b_iload_n rfl rfl ?_
    refine b_i2l rfl ?_
    refine b_laddN rfl (by omega) (by omega) ?_
    refine b_lstoreX_n (F := fun z127 => [some (aI s), some (aI a), some (aI b), some (aJ z127), none]) rfl (by decide) (fun _ => rfl) (fun z127 ez127 => ?_)
    refine b_goto (tgt := 205) rfl rfl ?_
    refine tl _ ?_ ?_
    · unfold jnv
      simp only [*]
      try simp
      try omega
    · first | (subst_vars; omega) | (left; subst_vars; first | exact o1 | exact o2 | exact o3 ‹_› | exact o4 ‹_› | (unfold in32; omega))
  by_cases s3_m15 : s = -15
  · refine b_tswIn (tgt := 108) rfl (by omega) (by omega) (by rw [s3_m15]; rfl) rfl ?_
    refine b_iload_n rfl rfl ?_
    refine b_iload_n rfl rfl ?_
    refine b_icmp_ne (tgt := 117) rfl rfl (fun c110 => ?_) (fun c110 => ?_)
    · refine b_lconst (z := 0) rfl rfl ?_
      refine b_lstoreX_n (F := fun z118 => [some (aI s), some (aI a), some (aI b), some (aJ z118), none]) rfl (by decide) (fun _ => rfl) (fun z118 ez118 => ?_)
      refine b_goto (tgt := 205) rfl rfl ?_
      refine tl _ ?_ ?_
      · unfold jnv
        simp only [*]
        try simp
        try omega
      · first | (subst_vars; omega) | (left; subst_vars; first | exact o1 | exact o2 | exact o3 ‹_› | exact o4 ‹_› | (unfold in32; omega))
    · refine b_lconst (z := 1) rfl rfl ?_
      refine b_goto (tgt := 118) rfl rfl ?_
      refine b_lstoreX_n (F := fun z118 => [some (aI s), some (aI a), some (aI b), some (aJ z118), none]) rfl (by decide) (fun _ => rfl) (fun z118 ez118 => ?_)
      refine b_goto (tgt := 205) rfl rfl ?_
      refine tl _ ?_ ?_
      · unfold jnv
        simp only [*]
        try simp
        try omega
      · first | (subst_vars; omega) | (left; subst_vars; first | exact o1 | exact o2 | exact o3 ‹_› | exact o4 ‹_› | (unfold in32; omega))
  by_cases s3_m14 : s = -14
  · refine b_tswIn (tgt := 94) rfl (by omega) (by omega) (by rw [s3_m14]; rfl) rfl ?_
    refine b_iload_n rfl rfl ?_
    refine b_iload_n rfl rfl ?_
    refine b_icmp_le (tgt := 103) rfl rfl (fun c96 => ?_) (fun c96 => ?_)
    · refine b_lconst (z := 0) rfl rfl ?_
      refine b_lstoreX_n (F := fun z104 => [some (aI s), some (aI a), some (aI b), some (aJ z104), none]) rfl (by decide) (fun _ => rfl) (fun z104 ez104 => ?_)
      refine b_goto (tgt := 205) rfl rfl ?_
      refine tl _ ?_ ?_
      · unfold jnv
        simp only [*]
        try simp
        try omega
      · first | (subst_vars; omega) | (left; subst_vars; first | exact o1 | exact o2 | exact o3 ‹_› | exact o4 ‹_› | (unfold in32; omega))
    · refine b_lconst (z := 1) rfl rfl ?_
      refine b_goto (tgt := 104) rfl rfl ?_
      refine b_lstoreX_n (F := fun z104 => [some (aI s), some (aI a), some (aI b), some (aJ z104), none]) rfl (by decide) (fun _ => rfl) (fun z104 ez104 => ?_)
      refine b_goto (tgt := 205) rfl rfl ?_
      refine tl _ ?_ ?_
      · unfold jnv
        simp only [*]
        try simp
        try omega
      · first | (subst_vars; omega) | (left; subst_vars; first | exact o1 | exact o2 | exact o3 ‹_› | exact o4 ‹_› | (unfold in32; omega))
  by_cases s3_m13 : s = -13
  · refine b_tswIn (tgt := 80) rfl (by omega) (by omega) (by rw [s3_m13]; rfl) rfl ?_
    refine b_iload_n rfl rfl ?_
    refine b_iload_n rfl rfl ?_
    refine b_icmp_ge (tgt := 89) rfl rfl (fun c82 => ?_) (fun c82 => ?_)
    · refine b_lconst (z := 0) rfl rfl ?_
      refine b_lstoreX_n (F := fun z90 => [some (aI s), some (aI a), some (aI b), some (aJ z90), none]) rfl (by decide) (fun _ => rfl) (fun z90 ez90 => ?_)
      refine b_goto (tgt := 205) rfl rfl ?_
      refine tl _ ?_ ?_
      · unfold jnv
        simp only [*]
        try simp
        try omega
      · first | (subst_vars; omega) | (left; subst_vars; first | exact o1 | exact o2 | exact o3 ‹_› | exact o4 ‹_› | (unfold in32; omega))
    · refine b_lconst (z := 1) rfl rfl ?_
      refine b_goto (tgt := 90) rfl rfl ?_
      refine b_lstoreX_n (F := fun z90 => [some (aI s), some (aI a), some (aI b), some (aJ z90), none]) rfl (by decide) (fun _ => rfl) (fun z90 ez90 => ?_)
      refine b_goto (tgt := 205) rfl rfl ?_
      refine tl _ ?_ ?_
      · unfold jnv
        simp only [*]
        try simp
        try omega
      · first | (subst_vars; omega) | (left; subst_vars; first | exact o1 | exact o2 | exact o3 ‹_› | exact o4 ‹_› | (unfold in32; omega))
  by_cases s3_m12 : s = -12
  · refine b_tswIn (tgt := 72) rfl (by omega) (by omega) (by rw [s3_m12]; rfl) rfl ?_
    refine b_iload_n rfl rfl ?_
    refine b_iload_n rfl rfl ?_
    refine b_iand rfl ?_
    refine b_i2l rfl ?_
    refine b_lstoreX_n (F := fun z76 => [some (aI s), some (aI a), some (aI b), some (aJ z76), none]) rfl (by decide) (fun _ => rfl) (fun z76 ez76 => ?_)
    refine b_goto (tgt := 205) rfl rfl ?_
    refine tl _ ?_ ?_
    · unfold jnv
      simp only [*]
      try simp
      try omega
    · first | (subst_vars; omega) | (left; subst_vars; first | exact o1 | exact o2 | exact o3 ‹_› | exact o4 ‹_› | (unfold in32; omega))
  by_cases s3_m11 : s = -11
  · refine b_tswIn (tgt := 64) rfl (by omega) (by omega) (by rw [s3_m11]; rfl) rfl ?_
    refine b_iload_n rfl rfl ?_
    refine b_iload_n rfl rfl ?_
    refine b_ior rfl ?_
    refine b_i2l rfl ?_
    refine b_lstoreX_n (F := fun z68 => [some (aI s), some (aI a), some (aI b), some (aJ z68), none]) rfl (by decide) (fun _ => rfl) (fun z68 ez68 => ?_)
    refine b_goto (tgt := 205) rfl rfl ?_
    refine tl _ ?_ ?_
    · unfold jnv
      simp only [*]
      try simp
      try omega
    · first | (subst_vars; omega) | (left; subst_vars; first | exact o1 | exact o2 | exact o3 ‹_› | exact o4 ‹_› | (unfold in32; omega))
  refine b_tswOut (tgt := 205) rfl (by omega) rfl ?_
  refine tl _ ?_ ?_
  · unfold jnv
    simp only [*]
    try simp
    try omega
  · first | (subst_vars; omega) | (left; subst_vars; first | exact o1 | exact o2 | exact o3 ‹_› | exact o4 ‹_› | (unfold in32; omega))
