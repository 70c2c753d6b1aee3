/-! ===== longs; names; the reference: letter ===== -/
theorem lSh_s : ∀ j, j < 64 → (((Int32.ofInt ((j : Nat) : Int)).toInt64 &&& 63).toBitVec.smod 64).toNat = j := by decide +kernel
theorem lShr_p {x : Int} (k : Nat) (hx : in64 x) (hk : k < 64) : lShr x k = x / 2 ^ k := by
  unfold lShr
  have h1 : (Int64.ofInt x >>> ((Int32.ofInt (k : Int)).toInt64 &&& 63)).toInt = (Int64.ofInt x).toInt >>> k := by
    show ((Int64.ofInt x).toBitVec.sshiftRight (((Int32.ofInt (k : Int)).toInt64 &&& 63).toBitVec.smod 64).toNat).toInt = _
    rw [lSh_s k hk, BitVec.toInt_sshiftRight]
    rfl
  rw [h1, t64_of hx, Int.shiftRight_eq_div_pow]
  simp
theorem lAnd_255 {x : Int} (h : 0 ≤ x ∧ x < 9223372036854775808) : lAnd x 255 = x % 256 := by
  have e : (BitVec.ofInt 64 x &&& BitVec.ofInt 64 255).toNat = x.toNat % 256 := by
    rw [BitVec.toNat_and, BitVec.toNat_ofInt]
    have e1 : (x % ((2 ^ 64 : Nat) : Int)).toNat = x.toNat := by
      rw [Int.emod_eq_of_lt h.1 (by have e : ((2 ^ 64 : Nat) : Int) = 18446744073709551616 := by decide
                                    rw [e]; omega)]
    rw [e1, show (BitVec.ofInt 64 255).toNat = 2 ^ 8 - 1 by decide, Nat.and_two_pow_sub_one_eq_mod]
  show (BitVec.ofInt 64 x &&& BitVec.ofInt 64 255).toInt = _
  rw [BitVec.toInt_eq_toNat_of_lt (by rw [e]; omega), e]
  omega
def e8 (l : Nat → Nat) : Nat → Nat
  | 0 => 0
  | n + 1 => e8 l n * 256 + (l n + 96)
def e5 (l : Nat → Nat) : Nat → Nat
  | 0 => 0
  | n + 1 => e5 l n * 32 + l n
/-- one name in the two packings -/
def NR (v5 v8 : Int) : Prop := ∃ (n : Nat) (l : Nat → Nat), 1 ≤ n ∧ n ≤ 6 ∧ (∀ i, i < n → 1 ≤ l i ∧ l i ≤ 26) ∧ (∀ i, n ≤ i → l i = 0) ∧ v5 = (e5 l 6 : Int) ∧ v8 = (e8 l n : Int)
theorem e5_dig {l : Nat → Nat} (h : ∀ i, l i < 32) : ∀ k, k < 6 → (e5 l 6 : Int) / 2 ^ (5 * (5 - k)) % 32 = (l k : Int) := by
  intro k hk
  have h0 := h 0
  have h1 := h 1
  have h2 := h 2
  have h3 := h 3
  have h4 := h 4
  have h5 := h 5
  have e : e5 l 6 = (((((0 * 32 + l 0) * 32 + l 1) * 32 + l 2) * 32 + l 3) * 32 + l 4) * 32 + l 5 := rfl
  rw [e]
  match k, hk with
  | 0, _ => show _ / (2 ^ 25 : Int) % 32 = _; rw [show (2 : Int) ^ 25 = 33554432 by decide]; omega
  | 1, _ => show _ / (2 ^ 20 : Int) % 32 = _; rw [show (2 : Int) ^ 20 = 1048576 by decide]; omega
  | 2, _ => show _ / (2 ^ 15 : Int) % 32 = _; rw [show (2 : Int) ^ 15 = 32768 by decide]; omega
  | 3, _ => show _ / (2 ^ 10 : Int) % 32 = _; rw [show (2 : Int) ^ 10 = 1024 by decide]; omega
  | 4, _ => show _ / (2 ^ 5 : Int) % 32 = _; rw [show (2 : Int) ^ 5 = 32 by decide]; omega
  | 5, _ => show _ / (2 ^ 0 : Int) % 32 = _; rw [show (2 : Int) ^ 0 = 1 by decide]; omega
theorem e8_dig {l : Nat → Nat} (h : ∀ i, l i ≤ 26) : ∀ n k, k < n → e8 l n / 256 ^ (n - 1 - k) % 256 = l k + 96 := by
  intro n
  induction n with
  | zero => intro k hk; omega
  | succ n ih =>
    intro k hk
    have hn := h n
    show (e8 l n * 256 + (l n + 96)) / 256 ^ (n + 1 - 1 - k) % 256 = _
    by_cases e : k = n
    · rw [e, show n + 1 - 1 - n = 0 by omega, Nat.pow_zero, Nat.div_one]; omega
    · rw [show n + 1 - 1 - k = (n - 1 - k) + 1 by omega, Nat.pow_succ', ← Nat.div_div_eq_div_mul, show (e8 l n * 256 + (l n + 96)) / 256 = e8 l n by omega]
      exact ih k (by omega)
theorem e8_lt {l : Nat → Nat} (h : ∀ i, l i ≤ 26) : ∀ n, e8 l n < 256 ^ n := by
  intro n
  induction n with
  | zero => exact (by decide : 0 < 256 ^ 0)
  | succ n ih =>
    have := h n
    show e8 l n * 256 + (l n + 96) < _
    rw [Nat.pow_succ]
    omega
theorem e8_pos {l : Nat → Nat} {n : Nat} (h : 0 < n) : 0 < e8 l n := by
  cases n with
  | zero => omega
  | succ n => show 0 < e8 l n * 256 + (l n + 96); omega
def RNm (J K : HI) (b : Nat) : Prop := ∀ a j : Nat, a < 3 → (j : Int) < J 4 a → NR (J 5 (6 * a + j)) (K (75 + a) (6 * b + j))
theorem spm_manyOf {J K : HI} {Q : Option AV → HI → Prop} {C : Nat → List Int} {b i : Nat} (hR : RP J K C b) (hi : i < 3) (kq : Q (some (aI (J 4 i))) K) : Rj MX12_manyOf 0 [aR 57, aI (b : Int), aI (i : Int)] K Q := by
  have hb2 := hR.2.1
  have e0 := hR.2.2.1
  have e1 := hR.2.2.2.1
  have e2 := hR.2.2.2.2.1
  refine rj_of okX12_manyOf (Nat.le_of_ble_eq_true rfl) rfl ?_
  refine b_iload_n rfl rfl ?_
  refine b_if_ne (tgt := 13) rfl rfl (fun c1 => ?_) (fun c1 => ?_)
  · refine b_iload_n rfl rfl ?_
    refine b_iconst rfl (by decide) ?_
    refine b_icmp_ne (tgt := 27) rfl rfl (fun c15 => ?_) (fun c15 => ?_)
    · refine b_aload_n rfl rfl ?_
      refine b_getR (r := 67) rfl fl12_78 rfl (by decide) rfl rfl ?_
      refine b_iload_n rfl rfl ?_
      refine b_iald rfl rfl (by omega) (by omega) ?_
      try simp only [tn6, tn4, tn2, tn144, tn24, tn_cast, Int.reduceToNat]
      refine b_iret rfl rfl ?_
      first
      | (have ei : i = 0 := by omega
         subst ei
         rw [e0]
         exact kq)
      | (have ei : i = 1 := by omega
         subst ei
         rw [e1]
         exact kq)
      | (have ei : i = 2 := by omega
         subst ei
         rw [e2]
         exact kq)
    · refine b_aload_n rfl rfl ?_
      refine b_getR (r := 62) rfl fl12_63 rfl (by decide) rfl rfl ?_
      refine b_iload_n rfl rfl ?_
      refine b_iald rfl rfl (by omega) (by omega) ?_
      try simp only [tn6, tn4, tn2, tn144, tn24, tn_cast, Int.reduceToNat]
      refine b_goto (tgt := 33) rfl rfl ?_
      refine b_iret rfl rfl ?_
      first
      | (have ei : i = 0 := by omega
         subst ei
         rw [e0]
         exact kq)
      | (have ei : i = 1 := by omega
         subst ei
         rw [e1]
         exact kq)
      | (have ei : i = 2 := by omega
         subst ei
         rw [e2]
         exact kq)
  · refine b_aload_n rfl rfl ?_
    refine b_getR (r := 59) rfl fl12_54 rfl (by decide) rfl rfl ?_
    refine b_iload_n rfl rfl ?_
    refine b_iald rfl rfl (by omega) (by omega) ?_
    try simp only [tn6, tn4, tn2, tn144, tn24, tn_cast, Int.reduceToNat]
    refine b_goto (tgt := 33) rfl rfl ?_
    refine b_iret rfl rfl ?_
    first
    | (have ei : i = 0 := by omega
       subst ei
       rw [e0]
       exact kq)
    | (have ei : i = 1 := by omega
       subst ei
       rw [e1]
       exact kq)
    | (have ei : i = 2 := by omega
       subst ei
       rw [e2]
       exact kq)
theorem spm_nameOf {K : HI} {Q : Option AV → HI → Prop} {b i j : Nat} (hb : b < 2) (hi : i < 3) (hj : j < 6) (kq : Q (some (aJ (K (75 + i) (6 * b + j)))) K) : Rj MX12_nameOf 0 [aR 57, aI (b : Int), aI (i : Int), aI (j : Int)] K Q := by
  refine rj_of okX12_nameOf (Nat.le_of_ble_eq_true rfl) rfl ?_
  refine b_iload_n rfl rfl ?_
  refine b_if_ne (tgt := 18) rfl rfl (fun c1 => ?_) (fun c1 => ?_)
  · refine b_iload_n rfl rfl ?_
    refine b_iconst rfl (by decide) ?_
    refine b_icmp_ne (tgt := 37) rfl rfl (fun c20 => ?_) (fun c20 => ?_)
    · refine b_aload_n rfl rfl ?_
      refine b_getR (r := 77) rfl fl12_109 rfl (by decide) rfl rfl ?_
      refine b_bipush rfl (by decide) ?_
      refine b_iload_n rfl rfl ?_
      refine b_imulN rfl (by omega) (by omega) ?_
      refine b_iload_n rfl rfl ?_
      refine b_iaddN rfl (by omega) (by omega) ?_
      refine b_lald rfl rfl (by omega) (by omega) ?_
      try simp only [tn6, tn4, tn2, tn144, tn24, tn_cast, Int.reduceToNat]
      refine b_lret rfl rfl ?_
      first
      | (have ei : i = 0 := by omega
         subst ei
         exact kq)
      | (have ei : i = 1 := by omega
         subst ei
         exact kq)
      | (have ei : i = 2 := by omega
         subst ei
         exact kq)
    · refine b_aload_n rfl rfl ?_
      refine b_getR (r := 76) rfl fl12_106 rfl (by decide) rfl rfl ?_
      refine b_bipush rfl (by decide) ?_
      refine b_iload_n rfl rfl ?_
      refine b_imulN rfl (by omega) (by omega) ?_
      refine b_iload_n rfl rfl ?_
      refine b_iaddN rfl (by omega) (by omega) ?_
      refine b_lald rfl rfl (by omega) (by omega) ?_
      try simp only [tn6, tn4, tn2, tn144, tn24, tn_cast, Int.reduceToNat]
      refine b_goto (tgt := 48) rfl rfl ?_
      refine b_lret rfl rfl ?_
      first
      | (have ei : i = 0 := by omega
         subst ei
         exact kq)
      | (have ei : i = 1 := by omega
         subst ei
         exact kq)
      | (have ei : i = 2 := by omega
         subst ei
         exact kq)
  · refine b_aload_n rfl rfl ?_
    refine b_getR (r := 75) rfl fl12_102 rfl (by decide) rfl rfl ?_
    refine b_bipush rfl (by decide) ?_
    refine b_iload_n rfl rfl ?_
    refine b_imulN rfl (by omega) (by omega) ?_
    refine b_iload_n rfl rfl ?_
    refine b_iaddN rfl (by omega) (by omega) ?_
    refine b_lald rfl rfl (by omega) (by omega) ?_
    try simp only [tn6, tn4, tn2, tn144, tn24, tn_cast, Int.reduceToNat]
    refine b_goto (tgt := 48) rfl rfl ?_
    refine b_lret rfl rfl ?_
    first
    | (have ei : i = 0 := by omega
       subst ei
       exact kq)
    | (have ei : i = 1 := by omega
       subst ei
       exact kq)
    | (have ei : i = 2 := by omega
       subst ei
       exact kq)
theorem spm_is' {I : HI} {Q : Option AV → HI → Prop} {v a b : Int} (k1 : a ≤ v ∧ v ≤ b → Q (some (aI 1)) I) (k0 : ¬ (a ≤ v ∧ v ≤ b) → Q (some (aI 0)) I) : Rj MX12_is 0 [aI v, aI a, aI b] I Q := spm_is k1 k0
theorem spm_manyOf' {J K : HI} {Q : Option AV → HI → Prop} {C : Nat → List Int} {b : Nat} {a x : Int} (hR : RP J K C b) (hx : x = (b : Int)) (ha : 0 ≤ a ∧ a ≤ 2) (kq : Q (some (aI (J 4 a.toNat))) K) : Rj MX12_manyOf 0 [aR 57, aI x, aI a] K Q := by
  subst hx
  obtain ⟨i, rfl⟩ : ∃ i : Nat, a = (i : Int) := ⟨a.toNat, by omega⟩
  rw [Int.toNat_natCast] at kq
  exact spm_manyOf hR (by omega) kq
theorem spm_nameOf' {K : HI} {Q : Option AV → HI → Prop} {b i j : Nat} {x : Int} (hx : x = (b : Int)) (hb : b < 2) (hi : i < 3) (hj : j < 6) {v : Int} (hv : K (75 + i) (6 * b + j) = v) (kq : Q (some (aJ v)) K) : Rj MX12_nameOf 0 [aR 57, aI x, aI (i : Int), aI (j : Int)] K Q := by
  subst hx
  exact spm_nameOf hb hi hj (by rw [hv]; exact kq)
theorem spq_letter {J K : HI} {Q : Option AV → HI → Prop} {C : Nat → List Int} {b : Nat} {a j k : Int} (hR : RP J K C b) (hN : RNm J K b) (k1 : kO J 4 a j ∧ 0 ≤ k ∧ k < 6 → Q (some (aI (J 5 (a * 6 + j).toNat / 2 ^ (5 * (5 - k)).toNat % 32))) K) (k0 : ¬ (kO J 4 a j ∧ 0 ≤ k ∧ k < 6) → Q (some (aI (-1))) K) : Rj MX12_letter 1 [aR 57, aI a, aI j, aI k] K Q := by
  have hb := hR.1
  have hb2 := hR.2.1
  have hp := hR.2.2.2.2.2.2.2.2.2
  have main : ∀ (a' j' k' : Nat), a = (a' : Int) → j = (j' : Int) → k = (k' : Int) → a' < 3 → (j' : Int) < J 4 a' → k' < 6 → Bj MX12_letter 1 39 [some (aR 57), some (aI (a' : Int)), some (aI (j' : Int)), some (aI (k' : Int)), none, none, none, none, none] [] K Q := by
    intro a' j' k' ea ej ek ha hj hk
    have h4 := hp.1 a' ha
    obtain ⟨n, l, n1, n6, l1, l0, v5, v8⟩ := hN a' j' ha hj
    have l26 : ∀ i, l i ≤ 26 := fun i => by
      by_cases e : i < n
      · exact (l1 i e).2
      · rw [l0 i (by omega)]; omega
    have hd := e5_dig (l := l) (fun i => by have := l26 i; omega) k' hk
    have kq : Q (some (aI (l k' : Int))) K := by
      have := k1 ⟨⟨by omega, by omega, by omega, by rw [ea, Int.toNat_natCast, ej]; exact hj⟩, by omega, by omega⟩
      rw [show (a * 6 + j).toNat = 6 * a' + j' by omega, show (5 * (5 - k)).toNat = 5 * (5 - k') by omega, v5, hd] at this
      exact this
    have hlt : ∀ r, r ≤ n → (e8 l r : Int) < 281474976710656 := fun r hr => by
      have h1 := e8_lt l26 r
      have h2 : 256 ^ r ≤ 256 ^ 6 := Nat.pow_le_pow_right (by decide) (by omega)
      have h3 : (256 : Nat) ^ 6 = 281474976710656 := by decide
      omega
    have hltn := hlt n (Nat.le_refl _)
    have lp : ∀ (r : Nat) (z6 z7 : Int), r ≤ n → z6 = (n : Int) - r → z7 = (e8 l r : Int) → Bj MX12_letter 1 58 [some (aR 57), some (aI (a' : Int)), some (aI (j' : Int)), some (aI (k' : Int)), some (aJ (e8 l n : Int)), none, some (aI z6), some (aJ z7), none] [] K Q := by
      intro r
      induction r with
      | zero =>
        intro z6 z7 hr h6 h7
        have h70 : z7 = 0 := h7
        have hdg : k' < n → (e8 l n : Int) / 2 ^ (8 * (n - 1 - k')) % 256 = (l k' : Int) + 96 := fun h => by
          have := e8_dig l26 n k' h
          rw [show (2 : Int) ^ (8 * (n - 1 - k')) = ((256 ^ (n - 1 - k') : Nat) : Int) by rw [Int.pow_mul, Int.natCast_pow]; rfl]
          omega
        have hdv : 0 ≤ (e8 l n : Int) / 2 ^ (8 * (n - 1 - k')) ∧ (e8 l n : Int) / 2 ^ (8 * (n - 1 - k')) ≤ (e8 l n : Int) := by
          rw [show (2 : Int) ^ (8 * (n - 1 - k')) = ((256 ^ (n - 1 - k') : Nat) : Int) by rw [Int.pow_mul, Int.natCast_pow]; rfl]
          have := Nat.div_le_self (e8 l n) (256 ^ (n - 1 - k'))
          rw [show (e8 l n : Int) / ((256 ^ (n - 1 - k') : Nat) : Int) = ((e8 l n / 256 ^ (n - 1 - k') : Nat) : Int) from rfl]
          exact ⟨Int.natCast_nonneg _, Int.ofNat_le.2 this⟩
        refine b_lload rfl rfl ?_
        refine b_lconst (z := 0) rfl rfl ?_
        refine b_lcmpX rfl (fun lc61 hlc61 => ?_)
        refine b_if_le (tgt := 78) rfl rfl (fun c62 => ?_) (fun c62 => ?_)
        · refine b_iload_n rfl rfl ?_
          refine b_iload rfl rfl ?_
          refine b_icmp_lt (tgt := 88) rfl rfl (fun c81 => ?_) (fun c81 => ?_)
          · refine b_lload rfl rfl ?_
            refine b_bipush rfl (by decide) ?_
            refine b_iload rfl rfl ?_
            refine b_iconst rfl (by decide) ?_
            refine b_isubN rfl (by omega) (by omega) ?_
            refine b_iload_n rfl rfl ?_
            refine b_isubN rfl (by omega) (by omega) ?_
            refine b_imulN rfl (by omega) (by omega) ?_
            rw [show 8 * (z6 - 1 - (k' : Int)) = ((8 * (n - 1 - k') : Nat) : Int) by omega]
            refine b_lshr rfl ?_
            rw [lShr_p _ (by unfold in64; omega) (by omega)]
            refine b_ldc2 (z := 255) rfl kl12_488 (by decide) ?_
            refine b_land rfl ?_
            rw [lAnd_255 (by omega), hdg (by omega)]
            refine b_l2i rfl ?_
            rw [w32_id (by have := l26 k'; omega) (by have := l26 k'; omega)]
            refine b_bipush rfl (by decide) ?_
            refine b_isubN rfl (by omega) (by omega) ?_
            refine b_iconst rfl (by decide) ?_
            refine b_iaddN rfl (by omega) (by omega) ?_
            refine b_iret rfl rfl ?_
            first
            | (refine qI kq ?_ rfl
               rw [l0 k' (by omega)]
               omega)
            | exact qI kq (by omega) rfl
          · refine b_iconst rfl (by decide) ?_
            refine b_goto (tgt := 110) rfl rfl ?_
            refine b_iret rfl rfl ?_
            first
            | (refine qI kq ?_ rfl
               rw [l0 k' (by omega)]
               omega)
            | exact qI kq (by omega) rfl
        · omega
      | succ r ih =>
        intro z6 z7 hr h6 h7
        have hpos := e8_pos (l := l) (n := r + 1) (by omega)
        have hb := hlt (r + 1) hr
        have hdiv : (e8 l (r + 1) : Int) / 2 ^ 8 = (e8 l r : Int) := by
          have := l26 r
          show ((e8 l r * 256 + (l r + 96) : Nat) : Int) / 256 = _
          omega
        subst h7
        refine b_lload rfl rfl ?_
        refine b_lconst (z := 0) rfl rfl ?_
        refine b_lcmpX rfl (fun lc61 hlc61 => ?_)
        refine b_if_le (tgt := 78) rfl rfl (fun c62 => ?_) (fun c62 => ?_)
        · omega
        · refine b_iincX (F := fun z65 => [some (aR 57), some (aI (a' : Int)), some (aI (j' : Int)), some (aI (k' : Int)), some (aJ (e8 l n : Int)), none, some (aI z65), some (aJ (e8 l (r + 1) : Int)), none]) rfl rfl (by omega) (by omega) (fun _ => rfl) (fun z65 ez65 => ?_)
          refine b_lload rfl rfl ?_
          refine b_bipush rfl (by decide) ?_
          refine b_lshr rfl ?_
          rw [show (8 : Int) = ((8 : Nat) : Int) from rfl, lShr_p 8 (by unfold in64; omega) (by decide), hdiv]
          refine b_lstoreX (F := fun z73 => [some (aR 57), some (aI (a' : Int)), some (aI (j' : Int)), some (aI (k' : Int)), some (aJ (e8 l n : Int)), none, some (aI z65), some (aJ z73), none]) rfl (by decide) (fun _ => rfl) (fun z73 ez73 => ?_)
          refine b_goto (tgt := 58) rfl rfl ?_
          exact ih _ _ (by omega) (by omega) (by assumption)
    refine b_aload_n rfl rfl ?_
    refine b_aload_n rfl rfl ?_
    refine b_getI rfl fl12_51 rfl (by decide) rfl ?_
    refine b_iload_n rfl rfl ?_
    refine b_iload_n rfl rfl ?_
    refine b_callV3j (ν := MX12_nameOf) rfl ml12_318 cvX12_nameOf (d' := 0) (by omega) rfl (by decide) rfl (Nat.le_of_ble_eq_true rfl) ?_
    refine spm_nameOf' (b := b) (i := a') (j := j') hb hb2 ha (by omega) v8 ?_
    refine ⟨_, rfl, ?_⟩
    refine b_lstoreX (F := fun z49 => [some (aR 57), some (aI (a' : Int)), some (aI (j' : Int)), some (aI (k' : Int)), some (aJ z49), none, none, none, none]) rfl (by decide) (fun _ => rfl) (fun z49 ez49 => ?_)
    refine b_iconst rfl (by decide) ?_
    refine b_istoreX (F := fun z52 => [some (aR 57), some (aI (a' : Int)), some (aI (j' : Int)), some (aI (k' : Int)), some (aJ z49), none, some (aI z52), none, none]) rfl (by decide) (fun _ => rfl) (fun z52 ez52 => ?_)
    refine b_lload rfl rfl ?_
    refine b_lstoreX (F := fun z56 => [some (aR 57), some (aI (a' : Int)), some (aI (j' : Int)), some (aI (k' : Int)), some (aJ z49), none, some (aI z52), some (aJ z56), none]) rfl (by decide) (fun _ => rfl) (fun z56 ez56 => ?_)
    subst ez56
    subst ez49
    exact lp n _ _ (Nat.le_refl _) (by omega) rfl
  refine rj_of okX12_letter (Nat.le_of_ble_eq_true rfl) rfl ?_
  refine b_iload_n rfl rfl ?_
  refine b_iconst rfl (by decide) ?_
  refine b_iconst rfl (by decide) ?_
  refine b_callS3i (ν := MX12_is) rfl ml12_322 csX12_is (d' := 0) (by omega) (Nat.le_of_ble_eq_true rfl) ?_
  refine spm_is (fun ha1 => ?_) (fun ha0 => ?_)
  · refine ⟨_, rfl, ?_⟩
    refine b_if_eq (tgt := 37) rfl rfl (fun z => absurd z (by decide)) (fun _ => ?_)
    refine b_iload_n rfl rfl ?_
    refine b_iconst rfl (by decide) ?_
    refine b_aload_n rfl rfl ?_
    refine b_aload_n rfl rfl ?_
    refine b_getI rfl fl12_51 rfl (by decide) rfl ?_
    refine b_iload_n rfl rfl ?_
    refine b_callV2i (ν := MX12_manyOf) rfl ml12_314 cvX12_manyOf (d' := 0) (by omega) rfl (by decide) rfl (Nat.le_of_ble_eq_true rfl) ?_
    refine spm_manyOf' hR hb ha1 ?_
    have h4 := hp.1 a.toNat (by omega)
    refine ⟨_, rfl, ?_⟩
    refine b_iconst rfl (by decide) ?_
    refine b_isubN rfl (by omega) (by omega) ?_
    refine b_callS3i (ν := MX12_is) rfl ml12_322 csX12_is (d' := 0) (by omega) (Nat.le_of_ble_eq_true rfl) ?_
    refine spm_is (fun hj1 => ?_) (fun hj0 => ?_)
    · refine ⟨_, rfl, ?_⟩
      refine b_if_eq (tgt := 37) rfl rfl (fun z => absurd z (by decide)) (fun _ => ?_)
      refine b_iload_n rfl rfl ?_
      refine b_iconst rfl (by decide) ?_
      refine b_iconst rfl (by decide) ?_
      refine b_callS3i (ν := MX12_is) rfl ml12_322 csX12_is (d' := 0) (by omega) (Nat.le_of_ble_eq_true rfl) ?_
      refine spm_is (fun hk1 => ?_) (fun hk0 => ?_)
      · refine ⟨_, rfl, ?_⟩
        refine b_if_ne (tgt := 39) rfl rfl (fun _ => ?_) (fun z => absurd z (by decide))
        obtain ⟨a', rfl⟩ : ∃ i : Nat, a = (i : Int) := ⟨a.toNat, by omega⟩
        obtain ⟨j', rfl⟩ : ∃ i : Nat, j = (i : Int) := ⟨j.toNat, by omega⟩
        obtain ⟨k', rfl⟩ : ∃ i : Nat, k = (i : Int) := ⟨k.toNat, by omega⟩
        rw [Int.toNat_natCast] at hj1
        exact main a' j' k' rfl rfl rfl (by omega) (by omega) (by omega)
      · refine ⟨_, rfl, ?_⟩
        refine b_if_ne (tgt := 39) rfl rfl (fun z => absurd z (by decide)) (fun _ => ?_)
        refine b_iconst rfl (by decide) ?_
        refine b_iret rfl rfl ?_
        first
        | exact k0 (fun w => ha0 ⟨w.1.1, by have := w.1.2.1; omega⟩)
        | exact k0 (fun w => hj0 ⟨w.1.2.2.1, by have := w.1.2.2.2; omega⟩)
        | exact k0 (fun w => hk0 ⟨w.2.1, by have := w.2.2; omega⟩)
    · refine ⟨_, rfl, ?_⟩
      refine b_if_eq (tgt := 37) rfl rfl (fun _ => ?_) (fun z => absurd z (by decide))
      refine b_iconst rfl (by decide) ?_
      refine b_iret rfl rfl ?_
      first
      | exact k0 (fun w => ha0 ⟨w.1.1, by have := w.1.2.1; omega⟩)
      | exact k0 (fun w => hj0 ⟨w.1.2.2.1, by have := w.1.2.2.2; omega⟩)
      | exact k0 (fun w => hk0 ⟨w.2.1, by have := w.2.2; omega⟩)
  · refine ⟨_, rfl, ?_⟩
    refine b_if_eq (tgt := 37) rfl rfl (fun _ => ?_) (fun z => absurd z (by decide))
    refine b_iconst rfl (by decide) ?_
    refine b_iret rfl rfl ?_
    first
    | exact k0 (fun w => ha0 ⟨w.1.1, by have := w.1.2.1; omega⟩)
    | exact k0 (fun w => hj0 ⟨w.1.2.2.1, by have := w.1.2.2.2; omega⟩)
    | exact k0 (fun w => hk0 ⟨w.2.1, by have := w.2.2; omega⟩)
