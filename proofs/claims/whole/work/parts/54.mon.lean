/-! ===== the reference: on ===== -/
theorem iOr_nat {a b : Nat} (h : a ||| b < 2147483648) : iOr (a : Int) (b : Int) = ((a ||| b : Nat) : Int) := by
  have e : Int32.ofInt (a : Int) ||| Int32.ofInt (b : Int) = Int32.ofInt ((a ||| b : Nat) : Int) := by
    apply Int32.toBitVec_inj.1
    show BitVec.ofInt 32 (a : Int) ||| BitVec.ofInt 32 (b : Int) = BitVec.ofInt 32 ((a ||| b : Nat) : Int)
    rw [BitVec.ofInt_natCast, BitVec.ofInt_natCast, BitVec.ofInt_natCast]
    apply BitVec.eq_of_getLsbD_eq
    intro i hi
    simp [hi]
  unfold iOr
  rw [e]
  exact t32_of ⟨by omega, by omega⟩
theorem two8 {a b : Int} (ha : 0 ≤ a ∧ a < 256) (hb : 0 ≤ b ∧ b < 256) : iOr (iShl a 8) b = a * 256 + b := by
  have e1 : iShl a 8 = w32 (a * 2 ^ 8) := iShl_p 8 (by decide)
  rw [e1, w32_id (by omega) (by omega)]
  obtain ⟨x, rfl⟩ : ∃ x : Nat, a = (x : Int) := ⟨a.toNat, by omega⟩
  obtain ⟨y, rfl⟩ : ∃ y : Nat, b = (y : Int) := ⟨b.toNat, by omega⟩
  have e2 : (x : Int) * 2 ^ 8 = ((2 ^ 8 * x : Nat) : Int) := by omega
  have e3 : 2 ^ 8 * x + y = 2 ^ 8 * x ||| y := Nat.two_pow_add_eq_or_of_lt (by omega) x
  rw [e2, iOr_nat (by omega), ← e3]
  omega
/-- the reference's tape is the class's -/
def RTp (J I : HI) : Prop := (0 ≤ J 1 1 ∧ J 1 1 ≤ 1600) ∧ (∀ j, 0 ≤ J 2 j ∧ J 2 j < 256) ∧ ∀ k : Nat, (k : Int) < J 1 1 → I 58 k = tAt J (k : Int)
theorem tAt_b {J : HI} {k : Nat} (hB : ∀ j, 0 ≤ J 2 j ∧ J 2 j < 256) (hk : (k : Int) < J 1 1) : 0 ≤ tAt J (k : Int) ∧ tAt J (k : Int) < 256 := by
  unfold tAt
  rw [if_pos ⟨by omega, hk⟩]
  exact hB _
theorem spm_twoBytes {J I : HI} {Q : Option AV → HI → Prop} {k : Nat} (hT : RTp J I) (hk : (k : Int) + 1 < J 1 1) (kq : Q (some (aI (pr J (k : Int)))) I) : Rj MX12_twoBytes 0 [aR 57, aI (k : Int)] I Q := by
  obtain ⟨h1, h2, h3⟩ := hT
  have q1 := h3 k (by omega)
  have q2 := h3 (k + 1) (by omega)
  have b1 := tAt_b (k := k) h2 (by omega)
  have b2 := tAt_b (k := k + 1) h2 (by omega)
  unfold pr at kq
  rw [show ((k + 1 : Nat) : Int) = (k : Int) + 1 by omega] at q2 b2
  refine rj_of okX12_twoBytes (Nat.le_of_ble_eq_true rfl) rfl ?_
  refine b_aload_n rfl rfl ?_
  refine b_getR (r := 58) rfl fl12_7 rfl (by decide) rfl rfl ?_
  refine b_iload_n rfl rfl ?_
  refine b_iald rfl rfl (by omega) (by omega) ?_
  try simp only [tn6, tn4, tn2, tn144, tn24, tn_cast, Int.reduceToNat]
  rw [q1]
  refine b_bipush rfl (by decide) ?_
  refine b_ishl rfl ?_
  refine b_aload_n rfl rfl ?_
  refine b_getR (r := 58) rfl fl12_7 rfl (by decide) rfl rfl ?_
  refine b_iload_n rfl rfl ?_
  refine b_iconst rfl (by decide) ?_
  refine b_iaddN rfl (by omega) (by omega) ?_
  refine b_iald rfl rfl (by omega) (by omega) ?_
  try simp only [tn6, tn4, tn2, tn144, tn24, tn_cast, Int.reduceToNat]
  rw [show ((k : Int) + 1).toNat = k + 1 by omega, q2]
  refine b_ior rfl ?_
  rw [two8 b1 b2]
  refine b_iret rfl rfl ?_
  exact kq
def cel3 (s h w : Nat) : Nat := 24 * s + 6 * h + w
theorem cI_iff {J : HI} {s k s' h w : Nat} (hw0 : 0 < nW J) (hw6 : nW J ≤ 6) (hk : k / nW J < 4) (h1 : h < 4) (h2 : w < 6) : 24 * s' + 6 * h + w = cI J s k ↔ s' = s ∧ w < nW J ∧ h * nW J + w = k := by
  have hm := Nat.mod_lt k hw0
  have hd := Nat.div_add_mod k (nW J)
  unfold cI
  constructor
  · intro e
    have a1 : s' = s ∧ h = k / nW J ∧ w = k % nW J := by omega
    refine ⟨a1.1, by omega, ?_⟩
    rw [a1.2.1, a1.2.2, Nat.mul_comm]
    exact hd
  · intro ⟨e1, e2, e3⟩
    have b1 : k / nW J = h := by
      rw [← e3, Nat.add_comm, Nat.add_mul_div_right _ _ hw0, Nat.div_eq_of_lt e2, Nat.zero_add]
    have b2 : k % nW J = w := by
      rw [← e3, Nat.add_comm, Nat.add_mul_mod_self_right, Nat.mod_eq_of_lt e2]
    rw [b1, b2, e1]
theorem tI_36 {J H : HI} {s a : Nat} (hp : pOK J) (hs : (s : Int) < J 4 1) : ∀ k, k ≤ cO J s → ∀ s' h w, h < 4 → w < 6 → tI J s a H k 36 (24 * s' + 6 * h + w) = if s' = s ∧ w < nW J ∧ h * nW J + w < k then tAt J ((a + 1 + (h * nW J + w) : Nat) : Int) else H 36 (24 * s' + 6 * h + w) := by
  intro k
  induction k with
  | zero =>
    intro _ s' h w _ _
    rw [if_neg (by omega)]
    show up H 35 s _ 36 _ = _
    rw [up_cell (by decide)]
  | succ k ih =>
    intro hk s' h w hh hw
    obtain ⟨c1, c2, c3, c4, c5⟩ := cI_in hp hs (k := k) (by omega)
    show up (tI J s a H k) 36 (cI J s k) (tAt J ((a + 1 + k : Nat) : Int)) 36 (24 * s' + 6 * h + w) = _
    have hi := cI_iff (J := J) (s := s) (k := k) (s' := s') (h := h) (w := w) (by omega) c2 c3 hh hw
    rw [up_ap]
    by_cases e : 24 * s' + 6 * h + w = cI J s k
    · obtain ⟨g1, g2, g3⟩ := hi.1 e
      rw [if_pos ⟨rfl, e⟩, if_pos ⟨g1, g2, by omega⟩, g3]
    · rw [if_neg (fun z => e z.2), ih (by omega) s' h w hh hw]
      by_cases q : s' = s ∧ w < nW J ∧ h * nW J + w < k
      · rw [if_pos q, if_pos ⟨q.1, q.2.1, by omega⟩]
      · rw [if_neg q, if_neg (fun z => by
          by_cases e2 : h * nW J + w = k
          · exact e (hi.2 ⟨z.1, z.2.1, e2⟩)
          · exact q ⟨z.1, z.2.1, by omega⟩)]
theorem tI_35 {J H : HI} {s a : Nat} : ∀ k j, tI J s a H k 35 j = if j = s then tAt J (a : Int) - 1 else H 35 j := by
  intro k
  induction k with
  | zero =>
    intro j
    show up H 35 s _ 35 j = _
    rw [up_ap]
    by_cases e : j = s
    · rw [if_pos ⟨rfl, e⟩, if_pos e]
    · rw [if_neg (fun z => e z.2), if_neg e]
  | succ k ih =>
    intro j
    show up (tI J s a H k) 36 _ _ 35 j = _
    rw [up_cell (by decide)]
    exact ih j
theorem tO_35 {J : HI} : ∀ n, n ≤ 6 → ∀ j, j < 6 → tO J n 35 j = if j < n then bT J j else -1 := by
  intro n
  induction n with
  | zero =>
    intro _ j hj
    rw [if_neg (by omega)]
    show up (clrS_34 J) 34 5 _ 35 j = -1
    rw [up_cell (by decide)]
    unfold clrS_34
    rw [fil_ap, if_neg (by omega), fil_ap, if_pos ⟨rfl, hj⟩]
  | succ n ih =>
    intro hn j hj
    show tI J n (iLn J n - 1) (tO J n) (cO J n) 35 j = _
    rw [tI_35, ih (by omega) j hj]
    by_cases e : j = n
    · rw [if_pos e, if_pos (by omega), e]; rfl
    · rw [if_neg e]
      by_cases e2 : j < n
      · rw [if_pos e2, if_pos (by omega)]
      · rw [if_neg e2, if_neg (by omega)]
theorem tO_36 {J : HI} (hp : pOK J) : ∀ n : Nat, (n : Int) ≤ J 4 1 → ∀ s h w, s < 6 → h < 4 → w < 6 → tO J n 36 (24 * s + 6 * h + w) = if s < n ∧ w < nW J ∧ h * nW J + w < cO J s then tAt J ((iLn J s + (h * nW J + w) : Nat) : Int) else 0 := by
  intro n
  induction n with
  | zero =>
    intro _ s h w hs hh hw
    rw [if_neg (by omega)]
    show up (clrS_34 J) 34 5 _ 36 _ = 0
    rw [up_cell (by decide)]
    unfold clrS_34
    rw [fil_ap, if_pos ⟨rfl, by omega⟩]
  | succ n ih =>
    intro hn s h w hs hh hw
    show tI J n (iLn J n - 1) (tO J n) (cO J n) 36 _ = _
    have hl := (iLn_in hp n (by omega)).1
    rw [tI_36 hp (by omega) (cO J n) (by omega) s h w hh hw, ih (by omega) s h w hs hh hw]
    by_cases e : s = n
    · subst e
      by_cases q : w < nW J ∧ h * nW J + w < cO J s
      · rw [if_pos ⟨rfl, q⟩, if_pos ⟨by omega, q⟩, show iLn J s - 1 + 1 + (h * nW J + w) = iLn J s + (h * nW J + w) by omega]
      · rw [if_neg (fun z => q z.2), if_neg (fun z => absurd z.1 (by omega)), if_neg (fun z => q z.2)]
    · rw [if_neg (fun z => e z.1)]
      by_cases q : s < n ∧ w < nW J ∧ h * nW J + w < cO J s
      · rw [if_pos q, if_pos ⟨by omega, q.2⟩]
      · rw [if_neg q, if_neg (fun z => q ⟨by omega, z.2⟩)]
theorem tO_5 {J : HI} : ∀ n, tO J n 34 5 = pr J 0 := by
  intro n
  induction n with
  | zero => rfl
  | succ n ih =>
    show tI J n (iLn J n - 1) (tO J n) (cO J n) 34 5 = _
    rw [tI_cell (by decide) (by decide)]
    exact ih
def shOn (J : HI) (s : Nat) : Prop := bT J s < J 4 2 ∧ (∀ o, o < s → bT J s = -1 ∨ bT J o ≠ bT J s) ∧ ∀ k, k < cO J s → tAt J ((iLn J s + k : Nat) : Int) ≤ 20
def onP (J : HI) : Prop := J 1 1 = (iLn J (nS J) : Int) ∧ pr J 0 ≤ 9999 ∧ sfO J ∧ ∀ s, s < nS J → shOn J s
theorem fi_m1 {f : Nat → Int} {b : Int} : ∀ n i, fi f b n i = -1 ↔ ∀ k, i ≤ k → k < i + n → f k ≠ b := by
  intro n
  induction n with
  | zero => intro i; exact ⟨fun _ k a b => absurd b (by omega), fun _ => rfl⟩
  | succ n ih =>
    intro i
    show (if f i = b then (i : Int) else fi f b n (i + 1)) = -1 ↔ _
    by_cases e : f i = b
    · rw [if_pos e]
      exact ⟨fun w => absurd w (by omega), fun w => absurd e (w i (by omega) (by omega))⟩
    · rw [if_neg e, ih]
      constructor
      · intro w k a c
        by_cases q : k = i
        · subst q; exact e
        · exact w k (by omega) (by omega)
      · exact fun w k a c => w k (by omega) (by omega)
theorem iLn_mono {J : HI} : ∀ n m, n ≤ m → iLn J n ≤ iLn J m := by
  intro n m h
  induction m with
  | zero => rw [show n = 0 by omega]; exact Nat.le_refl _
  | succ m ih =>
    by_cases e : n = m + 1
    · rw [e]; exact Nat.le_refl _
    · have := ih (by omega)
      show iLn J n ≤ iLn J m + (1 + cO J m)
      omega
theorem isI_iff {J : HI} (hp : pOK J) (hB : ∀ j, 0 ≤ J 2 j ∧ J 2 j < 256) : isI J ↔ onP J := by
  obtain ⟨n6, n1⟩ := nS_in hp
  obtain ⟨w6, w1⟩ := nW_in hp
  unfold isI onP
  rw [tO_5]
  have key : J 1 1 = (iLn J (nS J) : Int) → (((∀ s, s < nS J → okT J s) ∧ mxN 144 (tO J (nS J) 36) ≤ 20) ↔ ∀ s, s < nS J → shOn J s) := by
    intro hL
    have hbT : ∀ s, s < nS J → -1 ≤ bT J s := fun s hs => by
      have h1 := iLn_in hp s (by omega)
      have h2 := iLn_mono (J := J) (s + 1) (nS J) (by omega)
      have h3 : iLn J (s + 1) = iLn J s + (1 + cO J s) := rfl
      have := tAt_b (k := iLn J s - 1) hB (by omega)
      unfold bT
      omega
    have hok : ∀ s, s < nS J → (okT J s ↔ bT J s < J 4 2 ∧ ∀ o, o < s → bT J s = -1 ∨ bT J o ≠ bT J s) := by
      intro s hs
      have hb := hbT s hs
      unfold okT
      have h42 := hp.1 2 (by decide)
      have hfi : bT J s ≠ -1 → (fi (tO J s 35) (bT J s) 6 0 = -1 ↔ ∀ o, o < s → bT J o ≠ bT J s) := by
        intro hne
        rw [fi_m1]
        constructor
        · intro w o ho
          have := w o (by omega) (by omega)
          rw [tO_35 s (by omega) o (by omega), if_pos ho] at this
          exact this
        · intro w k _ hk
          rw [tO_35 s (by omega) k (by omega)]
          split
          · exact w k (by assumption)
          · exact fun z => hne z.symm
      constructor
      · intro w
        rcases w with w | ⟨⟨_, _, _, w1⟩, w2⟩
        · exact ⟨by omega, fun _ _ => Or.inl w⟩
        · by_cases e : bT J s = -1
          · exact ⟨by omega, fun _ _ => Or.inl e⟩
          · exact ⟨w1, fun o ho => Or.inr ((hfi e).1 w2 o ho)⟩
      · intro ⟨w1, w2⟩
        by_cases e : bT J s = -1
        · exact Or.inl e
        · exact Or.inr ⟨⟨by omega, by omega, by omega, w1⟩, (hfi e).2 (fun o ho => (w2 o ho).resolve_left e)⟩
    have hmx : mxN 144 (tO J (nS J) 36) ≤ 20 ↔ ∀ s, s < nS J → ∀ k, k < cO J s → tAt J ((iLn J s + k : Nat) : Int) ≤ 20 := by
      rw [mxN_iff (by decide)]
      constructor
      · intro w s hs k hk
        obtain ⟨c1, c2, c3, c4, c5⟩ := cI_in hp (s := s) (k := k) (by omega) hk
        have hd := Nat.div_add_mod k (nW J)
        rw [Nat.mul_comm] at hd
        have := w (24 * s + 6 * (k / nW J) + k % nW J) (by omega)
        rw [tO_36 hp (nS J) (by omega) s (k / nW J) (k % nW J) (by omega) c3 (by omega), hd, if_pos ⟨hs, c4, hk⟩] at this
        exact this
      · intro w c hc
        have := tO_36 hp (nS J) (by omega) (c / 24) (c % 24 / 6) (c % 6) (by omega) (by omega) (by omega)
        rw [show 24 * (c / 24) + 6 * (c % 24 / 6) + c % 6 = c by omega] at this
        rw [this]
        split
        · next q => exact w _ q.1 _ q.2.2
        · decide
    constructor
    · intro ⟨a1, a2⟩ s hs
      have := (hok s hs).1 (a1 s hs)
      exact ⟨this.1, this.2, hmx.1 a2 s hs⟩
    · intro w
      exact ⟨fun s hs => (hok s hs).2 ⟨(w s hs).1, (w s hs).2.1⟩, hmx.2 (fun s hs => (w s hs).2.2)⟩
  constructor
  · intro ⟨a, b, c, d, e⟩
    exact ⟨a, d, b, (key a).1 ⟨c, e⟩⟩
  · intro ⟨a, b, c, d⟩
    have := (key a).2 d
    exact ⟨a, c, this.1, b, this.2⟩
