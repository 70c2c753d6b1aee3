/-! ===== the reference: slots, what is kept ===== -/
theorem tn300 {b w : Nat} : (300 * (b : Int) + (w : Int)).toNat = 300 * b + w := by omega
def mcp (K : HI) (t f : Nat) : HI := fun q j => if q = 85 ∧ j = t then K 85 f else if q = 86 ∧ 6 * t ≤ j ∧ j < 6 * t + 6 then K 86 (6 * f + (j - 6 * t)) else if q = 87 ∧ 144 * t ≤ j ∧ j < 144 * t + 144 then K 87 (144 * f + (j - 144 * t)) else if q = 88 ∧ j = t then K 88 f else if q = 89 ∧ 300 * t ≤ j ∧ j < 300 * t + 5 * (K 88 f).toNat then K 89 (300 * f + (j - 300 * t)) else K q j
theorem spm_copies {K : HI} {Q : Option AV → HI → Prop} {t f : Nat} (ht : t < 22) (hf : f < 22) (htf : t ≠ f) (hk : 0 ≤ K 88 f ∧ K 88 f ≤ 60) (kq : Q none (mcp K t f)) : Rj MX12_copies 0 [aR 57, aI (t : Int), aI (f : Int)] K Q := by
  have l3 : ∀ (n i : Nat) (z : Int) (H : HI), z = (i : Int) → i + n = 5 * (K 88 f).toNat → (∀ q j, H q j = if q = 85 ∧ j = t then K 85 f else if q = 86 ∧ 6 * t ≤ j ∧ j < 6 * t + 6 then K 86 (6 * f + (j - 6 * t)) else if q = 87 ∧ 144 * t ≤ j ∧ j < 144 * t + 144 then K 87 (144 * f + (j - 144 * t)) else if q = 88 ∧ j = t then K 88 f else if q = 89 ∧ 300 * t ≤ j ∧ j < 300 * t + i then K 89 (300 * f + (j - 300 * t)) else K q j) → Bj MX12_copies 0 101 [some (aR 57), some (aI (t : Int)), some (aI (f : Int)), some (aI z)] [] H Q := by
    intro n
    induction n with
    | zero =>
      intro i z H hz hi hH
      have q88 : H 88 f = K 88 f := by rw [hH]; grind
      refine b_iload_n rfl rfl ?_
      refine b_iconst rfl (by decide) ?_
      refine b_aload_n rfl rfl ?_
      refine b_getR (r := 88) rfl fl12_165 rfl (by decide) rfl rfl ?_
      refine b_iload_n rfl rfl ?_
      refine b_iald rfl rfl (by omega) (by omega) ?_
      try simp only [tn6, tn4, tn2, tn144, tn24, tn_cast, Int.reduceToNat]
      rw [q88]
      refine b_imulN rfl (by omega) (by omega) ?_
      refine b_icmp_ge (tgt := 143) rfl rfl (fun c110 => ?_) (fun c110 => ?_)
      · refine b_vret rfl rfl ?_
        refine qN kq ?_
        funext q j
        rw [hH]
        unfold mcp
        rw [show i = 5 * (K 88 f).toNat by omega]
      · omega
    | succ n ih =>
      intro i z H hz hi hH
      subst hz
      have q88 : H 88 f = K 88 f := by rw [hH]; grind
      have q89 : H 89 (300 * f + i) = K 89 (300 * f + i) := by
        rw [hH]
        have : ¬ (300 * t ≤ 300 * f + i ∧ 300 * f + i < 300 * t + i) := by omega
        grind
      refine b_iload_n rfl rfl ?_
      refine b_iconst rfl (by decide) ?_
      refine b_aload_n rfl rfl ?_
      refine b_getR (r := 88) rfl fl12_165 rfl (by decide) rfl rfl ?_
      refine b_iload_n rfl rfl ?_
      refine b_iald rfl rfl (by omega) (by omega) ?_
      try simp only [tn6, tn4, tn2, tn144, tn24, tn_cast, Int.reduceToNat]
      rw [q88]
      refine b_imulN rfl (by omega) (by omega) ?_
      refine b_icmp_ge (tgt := 143) rfl rfl (fun c110 => ?_) (fun c110 => ?_)
      · omega
      · refine b_aload_n rfl rfl ?_
        refine b_getR (r := 89) rfl fl12_168 rfl (by decide) rfl rfl ?_
        refine b_sipush rfl (by decide) ?_
        refine b_iload_n rfl rfl ?_
        refine b_imulN rfl (by omega) (by omega) ?_
        refine b_iload_n rfl rfl ?_
        refine b_iaddN rfl (by omega) (by omega) ?_
        refine b_aload_n rfl rfl ?_
        refine b_getR (r := 89) rfl fl12_168 rfl (by decide) rfl rfl ?_
        refine b_sipush rfl (by decide) ?_
        refine b_iload_n rfl rfl ?_
        refine b_imulN rfl (by omega) (by omega) ?_
        refine b_iload_n rfl rfl ?_
        refine b_iaddN rfl (by omega) (by omega) ?_
        refine b_iald rfl rfl (by omega) (by omega) ?_
        try simp only [tn6, tn4, tn2, tn144, tn24, tn_cast, Int.reduceToNat]
        rw [tn300, q89]
        refine b_iast rfl rfl (by omega) (by omega) ?_
        try simp only [tn6, tn4, tn2, tn144, tn24, tn_cast, Int.reduceToNat]
        rw [tn300]
        refine b_iincX (F := fun z137 => [some (aR 57), some (aI (t : Int)), some (aI (f : Int)), some (aI z137)]) rfl rfl (by omega) (by omega) (fun _ => rfl) (fun z137 ez137 => ?_)
        refine b_goto (tgt := 101) rfl rfl ?_
        refine ih (i + 1) _ _ (by omega) (by omega) (fun q j => ?_)
        rw [up_ap, hH]
        clear ih
        by_cases e : q = 89 ∧ j = 300 * t + i
        · obtain ⟨rfl, rfl⟩ := e
          rw [if_pos ⟨rfl, rfl⟩, if_neg (by omega), if_neg (by omega), if_neg (by omega), if_neg (by omega), if_pos (by omega), Nat.add_sub_cancel_left]
        · rw [if_neg e]
          clear hH q88 q89 kq
          grind (splits := 30)
  have l2 : ∀ (n i : Nat) (z : Int) (H : HI), z = (i : Int) → i + n = 144 → (∀ q j, H q j = if q = 85 ∧ j = t then K 85 f else if q = 86 ∧ 6 * t ≤ j ∧ j < 6 * t + 6 then K 86 (6 * f + (j - 6 * t)) else if q = 87 ∧ 144 * t ≤ j ∧ j < 144 * t + i then K 87 (144 * f + (j - 144 * t)) else K q j) → Bj MX12_copies 0 50 [some (aR 57), some (aI (t : Int)), some (aI (f : Int)), some (aI z)] [] H Q := by
    intro n
    induction n with
    | zero =>
      intro i z H hz hi hH
      have q88 : H 88 f = K 88 f := by rw [hH]; grind
      refine b_iload_n rfl rfl ?_
      refine b_sipush rfl (by decide) ?_
      refine b_icmp_ge (tgt := 87) rfl rfl (fun c54 => ?_) (fun c54 => ?_)
      · refine b_aload_n rfl rfl ?_
        refine b_getR (r := 88) rfl fl12_165 rfl (by decide) rfl rfl ?_
        refine b_iload_n rfl rfl ?_
        refine b_aload_n rfl rfl ?_
        refine b_getR (r := 88) rfl fl12_165 rfl (by decide) rfl rfl ?_
        refine b_iload_n rfl rfl ?_
        refine b_iald rfl rfl (by omega) (by omega) ?_
        try simp only [tn6, tn4, tn2, tn144, tn24, tn_cast, Int.reduceToNat]
        rw [q88]
        refine b_iast rfl rfl (by omega) (by omega) ?_
        try simp only [tn6, tn4, tn2, tn144, tn24, tn_cast, Int.reduceToNat]
        refine b_iconst rfl (by decide) ?_
        refine b_istoreX_n (F := fun z100 => [some (aR 57), some (aI (t : Int)), some (aI (f : Int)), some (aI z100)]) rfl (by decide) (fun _ => rfl) (fun z100 ez100 => ?_)
        refine l3 (5 * (K 88 f).toNat) 0 _ _ (by omega) (by omega) (fun q j => ?_)
        rw [up_ap, hH]
        have : i = 144 := by omega
        subst this
        grind
      · omega
    | succ n ih =>
      intro i z H hz hi hH
      subst hz
      have q87 : H 87 (144 * f + i) = K 87 (144 * f + i) := by
        rw [hH]
        have : ¬ (144 * t ≤ 144 * f + i ∧ 144 * f + i < 144 * t + i) := by omega
        grind
      refine b_iload_n rfl rfl ?_
      refine b_sipush rfl (by decide) ?_
      refine b_icmp_ge (tgt := 87) rfl rfl (fun c54 => ?_) (fun c54 => ?_)
      · omega
      · refine b_aload_n rfl rfl ?_
        refine b_getR (r := 87) rfl fl12_162 rfl (by decide) rfl rfl ?_
        refine b_sipush rfl (by decide) ?_
        refine b_iload_n rfl rfl ?_
        refine b_imulN rfl (by omega) (by omega) ?_
        refine b_iload_n rfl rfl ?_
        refine b_iaddN rfl (by omega) (by omega) ?_
        refine b_aload_n rfl rfl ?_
        refine b_getR (r := 87) rfl fl12_162 rfl (by decide) rfl rfl ?_
        refine b_sipush rfl (by decide) ?_
        refine b_iload_n rfl rfl ?_
        refine b_imulN rfl (by omega) (by omega) ?_
        refine b_iload_n rfl rfl ?_
        refine b_iaddN rfl (by omega) (by omega) ?_
        refine b_iald rfl rfl (by omega) (by omega) ?_
        try simp only [tn6, tn4, tn2, tn144, tn24, tn_cast, Int.reduceToNat]
        rw [q87]
        refine b_iast rfl rfl (by omega) (by omega) ?_
        try simp only [tn6, tn4, tn2, tn144, tn24, tn_cast, Int.reduceToNat]
        refine b_iincX (F := fun z81 => [some (aR 57), some (aI (t : Int)), some (aI (f : Int)), some (aI z81)]) rfl rfl (by omega) (by omega) (fun _ => rfl) (fun z81 ez81 => ?_)
        refine b_goto (tgt := 50) rfl rfl ?_
        refine ih (i + 1) _ _ (by omega) (by omega) (fun q j => ?_)
        rw [up_ap, hH]
        clear ih
        grind
  have l1 : ∀ (n i : Nat) (z : Int) (H : HI), z = (i : Int) → i + n = 6 → (∀ q j, H q j = if q = 85 ∧ j = t then K 85 f else if q = 86 ∧ 6 * t ≤ j ∧ j < 6 * t + i then K 86 (6 * f + (j - 6 * t)) else K q j) → Bj MX12_copies 0 14 [some (aR 57), some (aI (t : Int)), some (aI (f : Int)), some (aI z)] [] H Q := by
    intro n
    induction n with
    | zero =>
      intro i z H hz hi hH
      refine b_iload_n rfl rfl ?_
      refine b_bipush rfl (by decide) ?_
      refine b_icmp_ge (tgt := 48) rfl rfl (fun c17 => ?_) (fun c17 => ?_)
      · refine b_iconst rfl (by decide) ?_
        refine b_istoreX_n (F := fun z49 => [some (aR 57), some (aI (t : Int)), some (aI (f : Int)), some (aI z49)]) rfl (by decide) (fun _ => rfl) (fun z49 ez49 => ?_)
        refine l2 144 0 _ _ (by omega) (by omega) (fun q j => ?_)
        rw [hH]
        have : i = 6 := by omega
        subst this
        grind
      · omega
    | succ n ih =>
      intro i z H hz hi hH
      subst hz
      have q86 : H 86 (6 * f + i) = K 86 (6 * f + i) := by
        rw [hH]
        have : ¬ (6 * t ≤ 6 * f + i ∧ 6 * f + i < 6 * t + i) := by omega
        grind
      refine b_iload_n rfl rfl ?_
      refine b_bipush rfl (by decide) ?_
      refine b_icmp_ge (tgt := 48) rfl rfl (fun c17 => ?_) (fun c17 => ?_)
      · omega
      · refine b_aload_n rfl rfl ?_
        refine b_getR (r := 86) rfl fl12_159 rfl (by decide) rfl rfl ?_
        refine b_bipush rfl (by decide) ?_
        refine b_iload_n rfl rfl ?_
        refine b_imulN rfl (by omega) (by omega) ?_
        refine b_iload_n rfl rfl ?_
        refine b_iaddN rfl (by omega) (by omega) ?_
        refine b_aload_n rfl rfl ?_
        refine b_getR (r := 86) rfl fl12_159 rfl (by decide) rfl rfl ?_
        refine b_bipush rfl (by decide) ?_
        refine b_iload_n rfl rfl ?_
        refine b_imulN rfl (by omega) (by omega) ?_
        refine b_iload_n rfl rfl ?_
        refine b_iaddN rfl (by omega) (by omega) ?_
        refine b_iald rfl rfl (by omega) (by omega) ?_
        try simp only [tn6, tn4, tn2, tn144, tn24, tn_cast, Int.reduceToNat]
        rw [q86]
        refine b_iast rfl rfl (by omega) (by omega) ?_
        try simp only [tn6, tn4, tn2, tn144, tn24, tn_cast, Int.reduceToNat]
        refine b_iincX (F := fun z42 => [some (aR 57), some (aI (t : Int)), some (aI (f : Int)), some (aI z42)]) rfl rfl (by omega) (by omega) (fun _ => rfl) (fun z42 ez42 => ?_)
        refine b_goto (tgt := 14) rfl rfl ?_
        refine ih (i + 1) _ _ (by omega) (by omega) (fun q j => ?_)
        rw [up_ap, hH]
        clear ih
        grind
  refine rj_of okX12_copies (Nat.le_of_ble_eq_true rfl) rfl ?_
  refine b_aload_n rfl rfl ?_
  refine b_getR (r := 85) rfl fl12_156 rfl (by decide) rfl rfl ?_
  refine b_iload_n rfl rfl ?_
  refine b_aload_n rfl rfl ?_
  refine b_getR (r := 85) rfl fl12_156 rfl (by decide) rfl rfl ?_
  refine b_iload_n rfl rfl ?_
  refine b_iald rfl rfl (by omega) (by omega) ?_
  try simp only [tn6, tn4, tn2, tn144, tn24, tn_cast, Int.reduceToNat]
  refine b_iast rfl rfl (by omega) (by omega) ?_
  try simp only [tn6, tn4, tn2, tn144, tn24, tn_cast, Int.reduceToNat]
  refine b_iconst rfl (by decide) ?_
  refine b_istoreX_n (F := fun z13 => [some (aR 57), some (aI (t : Int)), some (aI (f : Int)), some (aI z13)]) rfl (by decide) (fun _ => rfl) (fun z13 ez13 => ?_)
  refine l1 6 0 _ _ (by omega) (by omega) (fun q j => ?_)
  rw [up_ap]
  grind
theorem spm_slot {K : HI} {Q : Option AV → HI → Prop} {f k : Nat} (hf : K 57 52 = (f : Int)) (hf2 : f < 20) (hk : k < 100) (kq : Q (some (aI ((2 + (f + k) % 20 : Nat) : Int))) K) : Rj MX12_slot 0 [aR 57, aI (k : Int)] K Q := by
  refine rj_of okX12_slot (Nat.le_of_ble_eq_true rfl) rfl ?_
  refine b_iconst rfl (by decide) ?_
  refine b_aload_n rfl rfl ?_
  refine b_getI rfl fl12_171 rfl (by decide) rfl ?_
  rw [hf]
  refine b_iload_n rfl rfl ?_
  refine b_iaddN rfl (by omega) (by omega) ?_
  refine b_bipush rfl (by decide) ?_
  refine b_iremP rfl (by omega) (by omega) ?_
  refine b_iaddN rfl (by omega) (by omega) ?_
  refine b_iret rfl rfl ?_
  exact qI kq (by omega) rfl
/-- the reference's slots behind keeps, with first f and many u -/
def mkp (K : HI) (f u : Nat) : HI := if u = 20 then up (mcp (up (up K 57 52 (((f + 1) % 20 : Nat) : Int)) 57 53 19) (2 + f) 0) 57 53 20 else up (mcp K (2 + (f + u) % 20) 0) 57 53 ((u : Int) + 1)
theorem spm_keeps {K : HI} {Q : Option AV → HI → Prop} {f u : Nat} (hf : K 57 52 = (f : Int)) (hf2 : f < 20) (hu : K 57 53 = (u : Int)) (hu2 : u ≤ 20) (hk : 0 ≤ K 88 0 ∧ K 88 0 ≤ 60) (kq : Q none (mkp K f u)) : Rj MX12_keeps 1 [aR 57] K Q := by
  unfold mkp at kq
  have full_ : u = 20 → Q none (up (mcp (up (up K 57 52 (((f + 1) % 20 : Nat) : Int)) 57 53 19) (2 + f) 0) 57 53 20) → Bj MX12_keeps 1 32 [some (aR 57)] [] (up (up K 57 52 (((f + 1) % 20 : Nat) : Int)) 57 53 19) Q := by
    intro _ kq
    refine b_aload_n rfl rfl ?_
    refine b_aload_n rfl rfl ?_
    refine b_aload_n rfl rfl ?_
    refine b_getI rfl fl12_174 rfl (by decide) rfl ?_
    refine b_callV1i (ν := MX12_slot) rfl ml12_422 cvX12_slot (d' := 0) (by omega) rfl (by decide) rfl (Nat.le_of_ble_eq_true rfl) ?_
    refine spm_slot (f := (f + 1) % 20) (k := 19) rfl (by omega) (by decide) ?_
    rw [show (2 + ((f + 1) % 20 + 19) % 20 : Nat) = 2 + f by omega]
    refine ⟨_, rfl, ?_⟩
    refine b_iconst rfl (by decide) ?_
    refine b_callV2v (ν := MX12_copies) rfl ml12_425 cvX12_copies (d' := 0) (by omega) rfl (by decide) rfl (Nat.le_of_ble_eq_true rfl) ?_
    refine spm_copies (f := 0) (by omega) (by decide) (by omega) hk ?_
    refine ⟨rfl, ?_⟩
    refine b_aload_n rfl rfl ?_
    refine b_dup rfl rfl ?_
    refine b_getI rfl fl12_174 rfl (by decide) rfl ?_
    rw [show mcp (up (up K 57 52 (((f + 1) % 20 : Nat) : Int)) 57 53 19) (2 + f) 0 57 53 = 19 from rfl]
    refine b_iconst rfl (by decide) ?_
    refine b_iaddN rfl (by omega) (by omega) ?_
    refine b_putI rfl fl12_174 rfl (by decide) rfl ?_
    refine b_vret rfl rfl ?_
    exact kq
  have rest_ : ¬ u = 20 → Q none (up (mcp K (2 + (f + u) % 20) 0) 57 53 ((u : Int) + 1)) → Bj MX12_keeps 1 32 [some (aR 57)] [] K Q := by
    intro _ kq
    refine b_aload_n rfl rfl ?_
    refine b_aload_n rfl rfl ?_
    refine b_aload_n rfl rfl ?_
    refine b_getI rfl fl12_174 rfl (by decide) rfl ?_
    rw [hu]
    refine b_callV1i (ν := MX12_slot) rfl ml12_422 cvX12_slot (d' := 0) (by omega) rfl (by decide) rfl (Nat.le_of_ble_eq_true rfl) ?_
    refine spm_slot (f := f) (k := u) hf (by omega) (by omega) ?_
    refine ⟨_, rfl, ?_⟩
    refine b_iconst rfl (by decide) ?_
    refine b_callV2v (ν := MX12_copies) rfl ml12_425 cvX12_copies (d' := 0) (by omega) rfl (by decide) rfl (Nat.le_of_ble_eq_true rfl) ?_
    refine spm_copies (f := 0) (by omega) (by decide) (by omega) hk ?_
    refine ⟨rfl, ?_⟩
    refine b_aload_n rfl rfl ?_
    refine b_dup rfl rfl ?_
    refine b_getI rfl fl12_174 rfl (by decide) rfl ?_
    rw [show mcp K (2 + (f + u) % 20) 0 57 53 = (u : Int) from hu]
    refine b_iconst rfl (by decide) ?_
    refine b_iaddN rfl (by omega) (by omega) ?_
    refine b_putI rfl fl12_174 rfl (by decide) rfl ?_
    refine b_vret rfl rfl ?_
    exact kq
  refine rj_of okX12_keeps (Nat.le_of_ble_eq_true rfl) rfl ?_
  refine b_aload_n rfl rfl ?_
  refine b_getI rfl fl12_174 rfl (by decide) rfl ?_
  rw [hu]
  refine b_bipush rfl (by decide) ?_
  refine b_icmp_ne (tgt := 32) rfl rfl (fun c6 => ?_) (fun c6 => ?_)
  · first
    | (have hu20 : u = 20 := by omega
       rw [if_pos hu20] at kq
       exact full_ hu20 kq)
    | (have hu20 : ¬ u = 20 := by omega
       rw [if_neg hu20] at kq
       exact rest_ hu20 kq)
  · refine b_aload_n rfl rfl ?_
    refine b_aload_n rfl rfl ?_
    refine b_getI rfl fl12_171 rfl (by decide) rfl ?_
    rw [hf]
    refine b_iconst rfl (by decide) ?_
    refine b_iaddN rfl (by omega) (by omega) ?_
    refine b_bipush rfl (by decide) ?_
    refine b_iremP rfl (by omega) (by omega) ?_
    rw [show ((f : Int) + 1) % 20 = (((f + 1) % 20 : Nat) : Int) by omega]
    refine b_putI rfl fl12_171 rfl (by decide) rfl ?_
    refine b_aload_n rfl rfl ?_
    refine b_dup rfl rfl ?_
    refine b_getI rfl fl12_174 rfl (by decide) rfl ?_
    rw [show up K 57 52 (((f + 1) % 20 : Nat) : Int) 57 53 = (u : Int) from hu]
    refine b_iconst rfl (by decide) ?_
    refine b_isubN rfl (by omega) (by omega) ?_
    rw [show (u : Int) - 1 = 19 by omega]
    refine b_putI rfl fl12_174 rfl (by decide) rfl ?_
    first
    | (have hu20 : u = 20 := by omega
       rw [if_pos hu20] at kq
       exact full_ hu20 kq)
    | (have hu20 : ¬ u = 20 := by omega
       rw [if_neg hu20] at kq
       exact rest_ hu20 kq)
theorem spm_undo {K : HI} {Q : Option AV → HI → Prop} {f u : Nat} (hf : K 57 52 = (f : Int)) (hf2 : f < 20) (hu : K 57 53 = (u : Int)) (hu2 : u ≤ 20) (hk : 0 < u → 0 ≤ K 88 (2 + (f + (u - 1)) % 20) ∧ K 88 (2 + (f + (u - 1)) % 20) ≤ 60) (k1 : 0 < u → Q (some (aI 1)) (mcp (up K 57 53 ((u : Int) - 1)) 0 (2 + (f + (u - 1)) % 20))) (k0 : u = 0 → Q (some (aI 0)) (mrf K 4)) : Rj MX12_undo 1 [aR 57] K Q := by
  refine rj_of okX12_undo (Nat.le_of_ble_eq_true rfl) rfl ?_
  refine b_aload_n rfl rfl ?_
  refine b_getI rfl fl12_174 rfl (by decide) rfl ?_
  rw [hu]
  refine b_if_ne (tgt := 21) rfl rfl (fun c4 => ?_) (fun c4 => ?_)
  · refine b_aload_n rfl rfl ?_
    refine b_dup rfl rfl ?_
    refine b_getI rfl fl12_174 rfl (by decide) rfl ?_
    rw [hu]
    refine b_iconst rfl (by decide) ?_
    refine b_isubN rfl (by omega) (by omega) ?_
    refine b_putI rfl fl12_174 rfl (by decide) rfl ?_
    refine b_aload_n rfl rfl ?_
    refine b_iconst rfl (by decide) ?_
    refine b_aload_n rfl rfl ?_
    refine b_aload_n rfl rfl ?_
    refine b_getI rfl fl12_174 rfl (by decide) rfl ?_
    rw [show up K 57 53 ((u : Int) - 1) 57 53 = ((u - 1 : Nat) : Int) by rw [up_s]; omega]
    refine b_callV1i (ν := MX12_slot) rfl ml12_422 cvX12_slot (d' := 0) (by omega) rfl (by decide) rfl (Nat.le_of_ble_eq_true rfl) ?_
    refine spm_slot (f := f) (k := u - 1) hf (by omega) (by omega) ?_
    refine ⟨_, rfl, ?_⟩
    refine b_callV2v (ν := MX12_copies) rfl ml12_425 cvX12_copies (d' := 0) (by omega) rfl (by decide) rfl (Nat.le_of_ble_eq_true rfl) ?_
    refine spm_copies (t := 0) (by decide) (by omega) (by omega) (hk (by omega)) ?_
    refine ⟨rfl, ?_⟩
    refine b_iconst rfl (by decide) ?_
    refine b_zret rfl rfl (by first | decide | omega) ?_
    first
    | exact k0 (by omega)
    | exact k1 (by omega)
  · refine b_aload_n rfl rfl ?_
    refine b_iconst rfl (by decide) ?_
    refine b_callV1i (ν := MX12_refuses) rfl ml12_228 cvX12_refuses (d' := 0) (by omega) rfl (by decide) rfl (Nat.le_of_ble_eq_true rfl) ?_
    refine spm_refuses (k := 4) (by decide) ?_
    refine ⟨_, rfl, ?_⟩
    refine b_if_lt (tgt := 19) rfl rfl (fun c12 => ?_) (fun c12 => ?_)
    · refine b_iconst rfl (by decide) ?_
      refine b_zret rfl rfl (by first | decide | omega) ?_
      first
      | exact k0 (by omega)
      | exact k1 (by omega)
    · omega
def nv5 (r s h w x : Int) (i : Nat) : Int := if i = 0 then r else if i = 1 then s else if i = 2 then h else if i = 3 then w else x
def mwd (K : HI) (m : Nat) (s h w x : Int) : HI := fun q j => if q = 89 ∧ 5 * m ≤ j ∧ j < 5 * m + 5 then nv5 (K 85 0) s h w x (j - 5 * m) else if q = 89 ∧ K 88 0 = 60 ∧ j < 295 then K 89 (j + 5) else if q = 88 ∧ j = 0 then (m : Int) + 1 else K q j
theorem spm_writesDown {K : HI} {Q : Option AV → HI → Prop} {m : Nat} {s h w x : Int} (hm : (K 88 0 = 60 ∧ m = 59) ∨ (K 88 0 = (m : Int) ∧ m < 60)) (kq : Q none (mwd K m s h w x)) : Rj MX12_writesDown 0 [aR 57, aI s, aI h, aI w, aI x] K Q := by
  have tail_ : ∀ (H : HI) (x5 : Option AV), H 85 0 = K 85 0 → (∀ q j, H q j = if q = 89 ∧ K 88 0 = 60 ∧ j < 295 then K 89 (j + 5) else if q = 88 ∧ j = 0 then (m : Int) else K q j) → Bj MX12_writesDown 0 54 [some (aR 57), some (aI s), some (aI h), some (aI w), some (aI x), x5] [] H Q := by
    intro H x5 h85 hH
    have q88 : H 88 0 = (m : Int) := by rw [hH]; grind
    have hm60 : m < 60 := by omega
    refine b_iconst rfl (by decide) ?_
    refine b_aload_n rfl rfl ?_
    refine b_getR (r := 88) rfl fl12_165 rfl (by decide) rfl rfl ?_
    refine b_iconst rfl (by decide) ?_
    refine b_ialdL (k := 0) rfl rfl rfl (by decide) ?_
    try simp only [tn6, tn4, tn2, tn144, tn24, tn_cast, Int.reduceToNat]
    try rw [q88]
    refine b_imulN rfl (by omega) (by omega) ?_
    refine b_istoreX (F := fun z62 => [some (aR 57), some (aI s), some (aI h), some (aI w), some (aI x), some (aI z62)]) rfl (by decide) (fun _ => rfl) (fun z62 ez62 => ?_)
    have e0 : z62.toNat = 5 * m := by omega
    have e1 : (z62 + 1).toNat = 5 * m + 1 := by omega
    have e2 : (z62 + 2).toNat = 5 * m + 2 := by omega
    have e3 : (z62 + 3).toNat = 5 * m + 3 := by omega
    have e4 : (z62 + 4).toNat = 5 * m + 4 := by omega
    refine b_aload_n rfl rfl ?_
    refine b_getR (r := 89) rfl fl12_168 rfl (by decide) rfl rfl ?_
    refine b_iload rfl rfl ?_
    refine b_aload_n rfl rfl ?_
    refine b_getR (r := 85) rfl fl12_156 rfl (by decide) rfl rfl ?_
    refine b_iconst rfl (by decide) ?_
    refine b_ialdL (k := 0) rfl rfl rfl (by decide) ?_
    try simp only [tn6, tn4, tn2, tn144, tn24, tn_cast, Int.reduceToNat]
    try rw [h85]
    refine b_iast rfl rfl (by omega) (by omega) ?_
    try simp only [tn6, tn4, tn2, tn144, tn24, tn_cast, Int.reduceToNat]
    refine b_aload_n rfl rfl ?_
    refine b_getR (r := 89) rfl fl12_168 rfl (by decide) rfl rfl ?_
    refine b_iload rfl rfl ?_
    refine b_iconst rfl (by decide) ?_
    refine b_iaddN rfl (by omega) (by omega) ?_
    refine b_iload_n rfl rfl ?_
    refine b_iast rfl rfl (by omega) (by omega) ?_
    try simp only [tn6, tn4, tn2, tn144, tn24, tn_cast, Int.reduceToNat]
    refine b_aload_n rfl rfl ?_
    refine b_getR (r := 89) rfl fl12_168 rfl (by decide) rfl rfl ?_
    refine b_iload rfl rfl ?_
    refine b_iconst rfl (by decide) ?_
    refine b_iaddN rfl (by omega) (by omega) ?_
    refine b_iload_n rfl rfl ?_
    refine b_iast rfl rfl (by omega) (by omega) ?_
    try simp only [tn6, tn4, tn2, tn144, tn24, tn_cast, Int.reduceToNat]
    refine b_aload_n rfl rfl ?_
    refine b_getR (r := 89) rfl fl12_168 rfl (by decide) rfl rfl ?_
    refine b_iload rfl rfl ?_
    refine b_iconst rfl (by decide) ?_
    refine b_iaddN rfl (by omega) (by omega) ?_
    refine b_iload_n rfl rfl ?_
    refine b_iast rfl rfl (by omega) (by omega) ?_
    try simp only [tn6, tn4, tn2, tn144, tn24, tn_cast, Int.reduceToNat]
    refine b_aload_n rfl rfl ?_
    refine b_getR (r := 89) rfl fl12_168 rfl (by decide) rfl rfl ?_
    refine b_iload rfl rfl ?_
    refine b_iconst rfl (by decide) ?_
    refine b_iaddN rfl (by omega) (by omega) ?_
    refine b_iload rfl rfl ?_
    refine b_iast rfl rfl (by omega) (by omega) ?_
    try simp only [tn6, tn4, tn2, tn144, tn24, tn_cast, Int.reduceToNat]
    refine b_aload_n rfl rfl ?_
    refine b_getR (r := 88) rfl fl12_165 rfl (by decide) rfl rfl ?_
    refine b_iconst rfl (by decide) ?_
    refine b_dup2 rfl rfl rfl ?_
    refine b_ialdL (k := 0) rfl rfl rfl (by decide) ?_
    try simp only [tn6, tn4, tn2, tn144, tn24, tn_cast, Int.reduceToNat]
    try simp only [up_ap, cpy_ap, fil_ap, row_ap, Nat.reduceEqDiff, Nat.reduceLT, Nat.reduceLeDiff, Int.toNat_natCast, Int.reduceToNat, reduceCtorEq, false_and, and_false, true_and, and_true, and_self, reduceIte]
    try rw [q88]
    refine b_iconst rfl (by decide) ?_
    refine b_iaddN rfl (by omega) (by omega) ?_
    refine b_iastL (k := 0) rfl rfl rfl (by decide) ?_
    try simp only [tn6, tn4, tn2, tn144, tn24, tn_cast, Int.reduceToNat]
    refine b_vret rfl rfl ?_
    refine qN kq ?_
    rw [e0, e1, e2, e3, e4]
    funext q j
    simp only [up_ap]
    rw [hH]
    unfold mwd nv5
    clear kq hH h85 q88 e0 e1 e2 e3 e4
    by_cases e9 : q = 89
    · subst e9
      have h7 : j < 5 * m ∨ j = 5 * m ∨ j = 5 * m + 1 ∨ j = 5 * m + 2 ∨ j = 5 * m + 3 ∨ j = 5 * m + 4 ∨ 5 * m + 5 ≤ j := by omega
      rcases h7 with e | e | e | e | e | e | e <;> (try subst e) <;> grind (splits := 30)
    · grind (splits := 30)
  have lp : K 88 0 = 60 → ∀ (n i : Nat) (z : Int) (H : HI), z = (i : Int) → i + n = 295 → (∀ q j, H q j = if q = 89 ∧ j < i then K 89 (j + 5) else K q j) → Bj MX12_writesDown 0 14 [some (aR 57), some (aI s), some (aI h), some (aI w), some (aI x), some (aI z)] [] H Q := by
    intro h60 n
    induction n with
    | zero =>
      intro i z H hz hi hH
      have q88 : H 88 0 = 60 := by rw [hH]; grind
      have ei : i = 295 := by omega
      subst ei
      refine b_iload rfl rfl ?_
      refine b_sipush rfl (by decide) ?_
      refine b_icmp_ge (tgt := 44) rfl rfl (fun c19 => ?_) (fun c19 => ?_)
      · refine b_aload_n rfl rfl ?_
        refine b_getR (r := 88) rfl fl12_165 rfl (by decide) rfl rfl ?_
        refine b_iconst rfl (by decide) ?_
        refine b_dup2 rfl rfl rfl ?_
        refine b_ialdL (k := 0) rfl rfl rfl (by decide) ?_
        try simp only [tn6, tn4, tn2, tn144, tn24, tn_cast, Int.reduceToNat]
        rw [q88]
        refine b_iconst rfl (by decide) ?_
        refine b_isubN rfl (by omega) (by omega) ?_
        refine b_iastL (k := 0) rfl rfl rfl (by decide) ?_
        try simp only [tn6, tn4, tn2, tn144, tn24, tn_cast, Int.reduceToNat]
        refine tail_ _ _ (by rw [up_ap, hH]; grind) (fun q j => ?_)
        rw [up_ap, hH]
        have : m = 59 := by omega
        subst this
        clear tail_ kq
        grind
      · omega
    | succ n ih =>
      intro i z H hz hi hH
      subst hz
      have q89 : H 89 (i + 5) = K 89 (i + 5) := by rw [hH]; grind
      refine b_iload rfl rfl ?_
      refine b_sipush rfl (by decide) ?_
      refine b_icmp_ge (tgt := 44) rfl rfl (fun c19 => ?_) (fun c19 => ?_)
      · omega
      · refine b_aload_n rfl rfl ?_
        refine b_getR (r := 89) rfl fl12_168 rfl (by decide) rfl rfl ?_
        refine b_iload rfl rfl ?_
        refine b_aload_n rfl rfl ?_
        refine b_getR (r := 89) rfl fl12_168 rfl (by decide) rfl rfl ?_
        refine b_iload rfl rfl ?_
        refine b_iconst rfl (by decide) ?_
        refine b_iaddN rfl (by omega) (by omega) ?_
        refine b_iald rfl rfl (by omega) (by omega) ?_
        try simp only [tn6, tn4, tn2, tn144, tn24, tn_cast, Int.reduceToNat]
        rw [show ((i : Int) + 5).toNat = i + 5 by omega, q89]
        refine b_iast rfl rfl (by omega) (by omega) ?_
        try simp only [tn6, tn4, tn2, tn144, tn24, tn_cast, Int.reduceToNat]
        refine b_iincX (F := fun z38 => [some (aR 57), some (aI s), some (aI h), some (aI w), some (aI x), some (aI z38)]) rfl rfl (by omega) (by omega) (fun _ => rfl) (fun z38 ez38 => ?_)
        refine b_goto (tgt := 14) rfl rfl ?_
        refine ih (i + 1) _ _ (by omega) (by omega) (fun q j => ?_)
        rw [up_ap, hH]
        clear ih tail_ kq
        grind
  refine rj_of okX12_writesDown (Nat.le_of_ble_eq_true rfl) rfl ?_
  refine b_aload_n rfl rfl ?_
  refine b_getR (r := 88) rfl fl12_165 rfl (by decide) rfl rfl ?_
  refine b_iconst rfl (by decide) ?_
  refine b_ialdL (k := 0) rfl rfl rfl (by decide) ?_
  try simp only [tn6, tn4, tn2, tn144, tn24, tn_cast, Int.reduceToNat]
  refine b_bipush rfl (by decide) ?_
  refine b_icmp_ne (tgt := 54) rfl rfl (fun c8 => ?_) (fun c8 => ?_)
  · refine tail_ K _ rfl (fun q j => ?_)
    clear lp tail_ kq
    grind
  · refine b_iconst rfl (by decide) ?_
    refine b_istoreX (F := fun z12 => [some (aR 57), some (aI s), some (aI h), some (aI w), some (aI x), some (aI z12)]) rfl (by decide) (fun _ => rfl) (fun z12 ez12 => ?_)
    exact lp c8 295 0 _ K (by omega) (by omega) (fun q j => by grind)
theorem spm_draw {K : HI} {Q : Option AV → HI → Prop} {l : Int} (hl : K 57 54 = l) (h : 0 ≤ l ∧ l < 2147483648) (kq : Q (some (aI (nxt l / 64 % 100))) (up K 57 54 (nxt l))) : Rj MX12_draw 0 [aR 57, aI 100] K Q := by
  have hb : 0 ≤ nxt l ∧ nxt l < 2147483648 := by unfold nxt; omega
  refine rj_of okX12_draw (Nat.le_of_ble_eq_true rfl) rfl ?_
  refine b_aload_n rfl rfl ?_
  refine b_ldc2 (z := 1103515245) rfl kl12_574 (by decide) ?_
  refine b_aload_n rfl rfl ?_
  refine b_getJ rfl fl12_177 rfl (by decide) rfl ?_
  rw [hl]
  refine b_lmulN rfl (by omega) (by omega) ?_
  refine b_ldc2 (z := 12345) rfl kl12_576 (by decide) ?_
  refine b_laddN rfl (by omega) (by omega) ?_
  refine b_ldc2 (z := 2147483648) rfl kl12_578 (by decide) ?_
  refine b_lremP rfl (by omega) (by omega) ?_
  rw [show (1103515245 * l + 12345) % 2147483648 = nxt l from rfl]
  refine b_putJ rfl fl12_177 rfl (by decide) rfl ?_
  refine b_aload_n rfl rfl ?_
  refine b_getJ rfl fl12_177 rfl (by decide) rfl ?_
  try simp only [up_ap, cpy_ap, fil_ap, row_ap, Nat.reduceEqDiff, Nat.reduceLT, Nat.reduceLeDiff, Int.toNat_natCast, Int.reduceToNat, reduceCtorEq, false_and, and_false, true_and, and_true, and_self, reduceIte]
  try rw [up_s]
  refine b_ldc2 (z := 64) rfl kl12_580 (by decide) ?_
  refine b_ldivP rfl (by omega) (by omega) ?_
  refine b_iload_n rfl rfl ?_
  refine b_i2l rfl ?_
  refine b_lremP rfl (by omega) (by omega) ?_
  refine b_l2i rfl ?_
  rw [w32_id (by omega) (by omega)]
  refine b_iret rfl rfl ?_
  exact kq
