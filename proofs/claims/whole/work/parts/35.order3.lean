/-! ===== Rows: arrange; WrongTide: order ===== -/
theorem fP_no {p : Nat → Prop} : ∀ n i, fP p n i = -1 ↔ ∀ k, i ≤ k → k < i + n → ¬ p k := by
  intro n
  induction n with
  | zero => intro i; exact ⟨fun _ k h1 h2 => absurd h2 (by omega), fun _ => rfl⟩
  | succ n ih =>
    intro i
    show pI (p i) (i : Int) (fP p n (i + 1)) = -1 ↔ _
    by_cases h : p i
    · rw [pI_1 h]
      exact ⟨fun w => absurd w (by omega), fun w => absurd h (w i (by omega) (by omega))⟩
    · rw [pI_0 h, ih]
      constructor
      · intro w k h1 h2
        by_cases e : k = i
        · subst e; exact h
        · exact w k (by omega) (by omega)
      · exact fun w k h1 h2 => w k (by omega) (by omega)
theorem fP_yes {p : Nat → Prop} : ∀ n i, fP p n i ≠ -1 → ∃ k : Nat, fP p n i = (k : Int) ∧ i ≤ k ∧ k < i + n ∧ p k ∧ ∀ j, i ≤ j → j < k → ¬ p j := by
  intro n
  induction n with
  | zero => intro i h; exact absurd rfl h
  | succ n ih =>
    intro i h
    have e0 : fP p (n + 1) i = pI (p i) (i : Int) (fP p n (i + 1)) := rfl
    by_cases hp : p i
    · rw [pI_1 hp] at e0
      exact ⟨i, e0, by omega, by omega, hp, fun j h1 h2 => absurd h2 (by omega)⟩
    · rw [pI_0 hp] at e0
      rw [e0] at h
      obtain ⟨k, h1, h2, h3, h4, h5⟩ := ih (i + 1) h
      refine ⟨k, e0.trans h1, by omega, by omega, h4, fun j g1 g2 => ?_⟩
      by_cases e : j = i
      · subst e; exact hp
      · exact h5 j (by omega) g2
theorem fP_congr {p q : Nat → Prop} : ∀ n i, (∀ k, i ≤ k → k < i + n → (p k ↔ q k)) → fP p n i = fP q n i := by
  intro n
  induction n with
  | zero => intro i _; rfl
  | succ n ih =>
    intro i h
    show pI (p i) (i : Int) (fP p n (i + 1)) = pI (q i) (i : Int) (fP q n (i + 1))
    have h1 := h i (by omega) (by omega)
    rw [ih (i + 1) (fun k h2 h3 => h k (by omega) (by omega))]
    by_cases e : p i
    · rw [pI_1 e, pI_1 (h1.1 e)]
    · rw [pI_0 e, pI_0 (fun z => e (h1.2 z))]
def glP (L : Nat → Int) (t : Nat) : Nat → Prop := fun k => t.testBit k = false ∧ L (t ||| 2 ^ k) ≠ 0
noncomputable def gS (L : Nat → Int) (m : Nat) : Nat → Nat
  | 0 => 0
  | i + 1 => gS L m i ||| 2 ^ (fP (glP L (gS L m i)) m 0).toNat
def onw (m : Nat) (L : Nat → Int) (t : Nat) : Prop := t = 2 ^ m - 1 ∨ ∃ k, k < m ∧ glP L t k
def ldE (P : Nat → Prop) (m : Nat) (L : Nat → Int) (t : Nat) : Prop := (L t = 0 ∨ L t = 1) ∧ (L t ≠ 0 ↔ onw m L t ∧ (t = 0 ∨ P t))
def pcn (t : Nat) : Nat := t % 2 + t / 2 % 2 + t / 4 % 2 + t / 8 % 2 + t / 16 % 2 + t / 32 % 2
theorem pcn_or_ : ∀ k : Fin 6, ∀ t : Fin 64, t.val.testBit k.val = false → pcn (t.val ||| 2 ^ k.val) = pcn t.val + 1 := by decide +kernel
theorem pcn_full_ : ∀ m : Fin 7, pcn (2 ^ m.val - 1) = m.val := by decide +kernel
theorem pow6 : ∀ m : Fin 7, 1 ≤ 2 ^ m.val ∧ 2 ^ m.val ≤ 64 ∧ iShl 1 (m.val : Int) = ((2 ^ m.val : Nat) : Int) := by decide +kernel
theorem pw {m : Nat} (h : m ≤ 6) : 1 ≤ 2 ^ m ∧ 2 ^ m ≤ 64 ∧ iShl 1 (m : Int) = ((2 ^ m : Nat) : Int) := pow6 ⟨m, by omega⟩
theorem pcn_full {m : Nat} (h : m ≤ 6) : pcn (2 ^ m - 1) = m := pcn_full_ ⟨m, by omega⟩
theorem onw_iff {m : Nat} {L : Nat → Int} {t : Nat} (h : t ≠ 2 ^ m - 1) : onw m L t ↔ fP (glP L t) m 0 ≠ -1 := by
  constructor
  · intro w e
    rcases w with w | ⟨k, h1, h2⟩
    · exact h w
    · exact (fP_no m 0).1 e k (by omega) (by omega) h2
  · intro w
    obtain ⟨k, _, _, h3, h4, _⟩ := fP_yes m 0 w
    exact Or.inr ⟨k, by omega, h4⟩
theorem gS_ok {P : Nat → Prop} {m : Nat} {L : Nat → Int} (hm : m ≤ 6) (hE : ∀ t, t < 2 ^ m → ldE P m L t) (h0 : L 0 ≠ 0) : ∀ i, i ≤ m → gS L m i < 2 ^ m ∧ L (gS L m i) ≠ 0 ∧ pcn (gS L m i) = i := by
  have h64 := (pw hm).2.1
  have h1 := (pw hm).1
  intro i
  induction i with
  | zero => exact fun _ => ⟨h1, h0, by show pcn 0 = 0; decide⟩
  | succ i ih =>
    intro hi
    obtain ⟨g1, g2, g3⟩ := ih (by omega)
    have hne : gS L m i ≠ 2 ^ m - 1 := fun z => by
      have := pcn_full hm
      rw [z] at g3
      omega
    have ho := (onw_iff hne).1 ((hE _ g1).2.1 g2).1
    obtain ⟨k, e1, e2, e3, e4, _⟩ := fP_yes m 0 ho
    have eg : gS L m (i + 1) = gS L m i ||| 2 ^ k := by
      show gS L m i ||| 2 ^ (fP (glP L (gS L m i)) m 0).toNat = _
      rw [e1, Int.toNat_natCast]
    rw [eg]
    refine ⟨Nat.or_lt_two_pow g1 (Nat.pow_lt_pow_right (by decide) (by omega)), e4.2, ?_⟩
    have h9 : pcn (gS L m i ||| 2 ^ k) = pcn (gS L m i) + 1 := pcn_or_ ⟨k, by omega⟩ ⟨gS L m i, by omega⟩ e4.1
    omega
theorem gS_k {P : Nat → Prop} {m : Nat} {L : Nat → Int} (hm : m ≤ 6) (hE : ∀ t, t < 2 ^ m → ldE P m L t) (h0 : L 0 ≠ 0) {i : Nat} (hi : i < m) : ∃ k : Nat, fP (glP L (gS L m i)) m 0 = (k : Int) ∧ k < m := by
  obtain ⟨g1, g2, g3⟩ := gS_ok hm hE h0 i (by omega)
  have hne : gS L m i ≠ 2 ^ m - 1 := fun z => by
    have := pcn_full hm
    rw [z] at g3
    omega
  obtain ⟨k, e1, e2, e3, e4, _⟩ := fP_yes m 0 ((onw_iff hne).1 ((hE _ g1).2.1 g2).1)
  exact ⟨k, e1, by omega⟩
theorem ldE_ud {P : Nat → Prop} {m n : Nat} {L : Nat → Int} {v : Int} {t : Nat} (h : ldE P m L t) (hn : n < t) : ldE P m (ud L n v) t := by
  have e : ∀ j, n < j → ud L n v j = L j := fun j hj => if_neg (by omega)
  unfold ldE onw glP at *
  rw [e t hn]
  have e2 : ∀ k, ud L n v (t ||| 2 ^ k) = L (t ||| 2 ^ k) := fun k => e _ (Nat.lt_of_lt_of_le hn Nat.left_le_or)
  simp only [e2]
  exact h
theorem b_cg {μ : MR} {d pc : Nat} {L : ML} {st : List AV} {I J : HI} {Q : Option AV → HI → Prop} (e : I = J) (k : Bj μ d pc L st J Q) : Bj μ d pc L st I Q := by subst e; exact k
theorem cpy_trO {I : HI} : cpy I 32 45 0 0 144 = row I 45 (trO I) := by
  funext q j
  rw [cpy_ap, row_ap]
  unfold trO
  grind
def orK (I : HI) (m : Nat) (L : Nat → Int) (K : HI) : Prop := (∀ q, q ≠ 28 → q ≠ 29 → q ≠ 44 → q ≠ 45 → q ≠ 48 → q ≠ 49 → K q = I q) ∧ seB K ∧ (∀ j, K 44 j = if j = 11 then (if L 0 = 0 then 0 else (m : Int)) else I 44 j) ∧ K 45 = trO I ∧ (L 0 ≠ 0 → ∀ i, i < m → K 48 i = fP (glP L (gS L m i)) m 0)
set_option maxHeartbeats 2000000 in
theorem sp_X6_arrange {I : HI} {Q : Option AV → HI → Prop} {C : Nat → List Int} {s b m : Nat} (hW : WF I C) (hs : (s : Int) < I 4 1) (hl : I 31 s = (b : Int)) (hb : (b : Int) < I 4 2) (hc : acP I (s : Int)) (hT : I 1 1 = 2 * (m : Int)) (hc2 : ∀ k, 0 ≤ I 45 k ∧ I 45 k ≤ 20) (kq : ∀ (L : Nat → Int) (K : HI), (∀ t, t < 2 ^ m → ldE (stP (row I 45 (trO I)) C (I 30 5) s b m) m L t) → orK I m L K → Q (some (aI (if L 0 = 0 then 0 else 1))) K) : Rj MX6_arrange 6 [aR 44, aR 30, aI (s : Int)] I Q := by
  have hm : m ≤ 6 := by have := hc.2.1; omega
  have hs6 : s < 6 := by have := hW.1.1.1 1 (by decide); omega
  obtain ⟨p1, p64, psh⟩ := pw hm
  have r := hW.2.2.1
  have htr : ∀ j, 0 ≤ trO I j ∧ trO I j ≤ 20 := by
    intro j
    have h1 := hW.2.2.2.1 j
    have h2 := hc2 j
    unfold trO
    split <;> omega
  have hse1 : seB (row I 45 (trO I)) := fun k hk => by rw [row_cell (by decide)]; exact hW.2.1 k hk
  generalize hI1 : row I 45 (trO I) = I1 at *
  have c1 : I1 1 = I 1 := by rw [← hI1, row_cell (by decide)]
  have c2 : I1 2 = I 2 := by rw [← hI1, row_cell (by decide)]
  have c4 : I1 4 = I 4 := by rw [← hI1, row_cell (by decide)]
  have c6 : I1 6 = I 6 := by rw [← hI1, row_cell (by decide)]
  have c30 : I1 30 = I 30 := by rw [← hI1, row_cell (by decide)]
  have c31 : I1 31 = I 31 := by rw [← hI1, row_cell (by decide)]
  have c45 : I1 45 = trO I := by rw [← hI1, row_same]
  have hP1 : CP I1 C := by rw [← hI1]; exact CP_row hW.1 (by decide)
  have hcL : ∀ L : Nat → Int, acP (row I1 49 L) (s : Int) := by
    intro L
    have e1 : row I1 49 L 1 = I 1 := by rw [row_cell (by decide), c1]
    have e2 : row I1 49 L 2 = I 2 := by rw [row_cell (by decide), c2]
    have e4 : row I1 49 L 4 = I 4 := by rw [row_cell (by decide), c4]
    have e6 : row I1 49 L 6 = I 6 := by rw [row_cell (by decide), c6]
    unfold acP kc_3 kO at *
    simp only [tAt_to e1 e2, e1, e4, e6]
    exact hc
  have hst : ∀ (L : Nat → Int) (t : Nat), stP (row I1 49 L) C (I 30 5) s b m t ↔ stP I1 C (I 30 5) s b m t := fun L t => Iff.rfl
  have two : ∀ (L : Nat → Int) (K : HI), (∀ t, t < 2 ^ m → ldE (stP I1 C (I 30 5) s b m) m L t) → L 0 ≠ 0 → At (row I1 49 L) K C (I 30 5) → ∀ (n i : Nat) (z5 z6 : Int) (g : Nat → Int), (∀ j, j < i → g j = fP (glP L (gS L m j)) m 0) → z5 = (gS L m i : Int) → z6 = (i : Int) → i + n = m → Bj MX6_arrange 6 146 [some (aR 44), some (aR 30), some (aI (s : Int)), some (aI (m : Int)), some (aI ((2 ^ m - 1 : Nat) : Int)), some (aI z5), some (aI z6)] [] (row (up K 44 11 (m : Int)) 48 g) Q := by
    intro L K hE h0 hA n
    have q49 : K 49 = L := by rw [hA.1.1 49 (by decide) (by decide), row_same]
    have hK : ∀ g, row (up K 44 11 (m : Int)) 48 g 49 = L := fun g => by rw [row_cell (by decide), up_cell (by decide), q49]
    have hKc : ∀ g, row (up K 44 11 (m : Int)) 48 g 44 11 = (m : Int) := fun g => by rw [row_cell (by decide), up_s]
    induction n with
    | zero =>
      intro i z5 z6 g hg h5 h6 hi
      have ei : i = m := by omega
      subst ei
      have hcc := hKc g
      refine b_iload rfl rfl ?_
      refine b_aload_n rfl rfl ?_
      refine b_getI rfl fl6_50 rfl (by decide) rfl ?_
      refine b_icmp_ge (tgt := 189) rfl rfl (fun c152 => ?_) (fun c152 => ?_)
      · refine b_aload_n rfl rfl ?_
        refine b_getR (r := 49) rfl fl6_24 rfl (by decide) rfl rfl ?_
        refine b_iconst rfl (by decide) ?_
        refine b_zald rfl rfl (by omega) (by omega) ?_
        rw [hK, show Int.toNat 0 = 0 from rfl]
        refine b_if_eq (tgt := 202) rfl rfl (fun c195 => ?_) (fun c195 => ?_)
        · exact absurd c195 h0
        · refine b_iconst rfl (by decide) ?_
          refine b_goto (tgt := 203) rfl rfl ?_
          refine b_iret rfl rfl ?_
          refine qI (kq L _ hE ⟨fun q n1 n2 n3 n4 n5 n6 => ?_, fun k hk => ?_, fun j => ?_, ?_, fun _ => hg⟩) (by rw [if_neg h0]) rfl
          · rw [row_cell n5, up_cell n3, hA.1.1 q n1 n2, row_cell n6, ← hI1, row_cell n4]
          · rw [row_cell (by decide), up_cell (by decide)]; exact hA.1.2 k hk
          · rw [row_cell (by decide), up_ap, if_neg h0]
            by_cases e : j = 11
            · rw [if_pos ⟨rfl, e⟩, if_pos e]
            · rw [if_neg (fun z => e z.2), if_neg e, hA.1.1 44 (by decide) (by decide), row_cell (by decide), ← hI1, row_cell (by decide)]
          · rw [row_cell (by decide), up_cell (by decide), hA.1.1 45 (by decide) (by decide), row_cell (by decide), c45]
      · omega
    | succ n ih =>
      intro i z5 z6 g hg h5 h6 hi
      subst h6
      subst h5
      have hcc := hKc g
      obtain ⟨g1, g2, g3⟩ := gS_ok hm hE h0 i (by omega)
      obtain ⟨k, e1, e2⟩ := gS_k hm hE h0 (i := i) (by omega)
      have ho : iOr (gS L m i : Int) (iShl 1 (k : Int)) = (gS L m (i + 1) : Int) := by
        rw [or_bit (by omega) (by omega)]
        show _ = ((gS L m i ||| 2 ^ (fP (glP L (gS L m i)) m 0).toNat : Nat) : Int)
        rw [e1, Int.toNat_natCast]
      have hfl : ∀ g, flP (row (up K 44 11 (m : Int)) 48 g) (gS L m i) = glP L (gS L m i) := fun g => by
        funext k
        unfold flP glP
        rw [hK]
      have hrow : ∀ v, up (row (up K 44 11 (m : Int)) 48 g) 48 i v = row (up K 44 11 (m : Int)) 48 (ud g i v) := fun v => row_up
      refine b_iload rfl rfl ?_
      refine b_aload_n rfl rfl ?_
      refine b_getI rfl fl6_50 rfl (by decide) rfl ?_
      refine b_icmp_ge (tgt := 189) rfl rfl (fun c152 => ?_) (fun c152 => ?_)
      · omega
      · refine b_aload_n rfl rfl ?_
        refine b_getR (r := 48) rfl fl6_21 rfl (by decide) rfl rfl ?_
        refine b_iload rfl rfl ?_
        refine b_aload_n rfl rfl ?_
        refine b_iload rfl rfl ?_
        refine b_iload_n rfl rfl ?_
        refine b_callV2i (ν := MX6_firstLeading) rfl ml6_125 cvX6_firstLeading (d' := 0) (by omega) rfl (by decide) rfl (Nat.le_of_ble_eq_true rfl) ?_
        refine sp_X6_firstLeading (by omega) hm ?_
        rw [hfl, e1]
        refine ⟨_, rfl, ?_⟩
        refine b_iast rfl rfl (by omega) (by omega) ?_
        rw [Int.toNat_natCast, hrow]
        refine b_iload rfl rfl ?_
        refine b_iconst rfl (by decide) ?_
        refine b_aload_n rfl rfl ?_
        refine b_getR (r := 48) rfl fl6_21 rfl (by decide) rfl rfl ?_
        refine b_iload rfl rfl ?_
        refine b_iald rfl rfl (by omega) (by omega) ?_
        rw [Int.toNat_natCast, row_same, show ud g i (k : Int) i = (k : Int) from if_pos rfl]
        refine b_ishl rfl ?_
        refine b_ior rfl ?_
        rw [ho]
        refine b_istoreX (F := fun z181 => [some (aR 44), some (aR 30), some (aI (s : Int)), some (aI (m : Int)), some (aI ((2 ^ m - 1 : Nat) : Int)), some (aI z181), some (aI (i : Int))]) rfl (by decide) (fun _ => rfl) (fun z181 ez181 => ?_)
        refine b_iincX (F := fun z183 => [some (aR 44), some (aR 30), some (aI (s : Int)), some (aI (m : Int)), some (aI ((2 ^ m - 1 : Nat) : Int)), some (aI z181), some (aI z183)]) rfl rfl (by omega) (by omega) (fun _ => rfl) (fun z183 ez183 => ?_)
        refine b_goto (tgt := 146) rfl rfl ?_
        refine ih (i + 1) _ _ _ (fun j hj => ?_) (by omega) (by omega) (by omega)
        unfold ud
        by_cases e : j = i
        · rw [if_pos e, e, e1]
        · rw [if_neg e]; exact hg j (by omega)
  have three : ∀ (L : Nat → Int) (K : HI), (∀ t, t < 2 ^ m → ldE (stP I1 C (I 30 5) s b m) m L t) → L 0 = 0 → At (row I1 49 L) K C (I 30 5) → ∀ (z5 z6 : Int), z6 = 0 → Bj MX6_arrange 6 146 [some (aR 44), some (aR 30), some (aI (s : Int)), some (aI (m : Int)), some (aI ((2 ^ m - 1 : Nat) : Int)), some (aI z5), some (aI z6)] [] (up K 44 11 0) Q := by
    intro L K hE h0 hA z5 z6 h6
    have q49 : up K 44 11 0 49 = L := by rw [up_cell (by decide), hA.1.1 49 (by decide) (by decide), row_same]
    have hcc : up K 44 11 0 44 11 = 0 := up_s
    refine b_iload rfl rfl ?_
    refine b_aload_n rfl rfl ?_
    refine b_getI rfl fl6_50 rfl (by decide) rfl ?_
    refine b_icmp_ge (tgt := 189) rfl rfl (fun c152 => ?_) (fun c152 => ?_)
    · refine b_aload_n rfl rfl ?_
      refine b_getR (r := 49) rfl fl6_24 rfl (by decide) rfl rfl ?_
      refine b_iconst rfl (by decide) ?_
      refine b_zald rfl rfl (by omega) (by omega) ?_
      rw [q49, show Int.toNat 0 = 0 from rfl]
      refine b_if_eq (tgt := 202) rfl rfl (fun c195 => ?_) (fun c195 => ?_)
      · refine b_iconst rfl (by decide) ?_
        refine b_iret rfl rfl ?_
        refine qI (kq L _ hE ⟨fun q n1 n2 n3 n4 n5 n6 => ?_, fun k hk => ?_, fun j => ?_, ?_, fun w => absurd h0 w⟩) (by rw [if_pos h0]) rfl
        · rw [up_cell n3, hA.1.1 q n1 n2, row_cell n6, ← hI1, row_cell n4]
        · rw [up_cell (by decide)]; exact hA.1.2 k hk
        · rw [up_ap, if_pos h0]
          by_cases e : j = 11
          · rw [if_pos ⟨rfl, e⟩, if_pos e]
          · rw [if_neg (fun z => e z.2), if_neg e, hA.1.1 44 (by decide) (by decide), row_cell (by decide), ← hI1, row_cell (by decide)]
        · rw [up_cell (by decide), hA.1.1 45 (by decide) (by decide), row_cell (by decide), c45]
      · exact absurd h0 c195
    · omega
  have one : ∀ (n : Nat) (L : Nat → Int) (z5 : Int) (x6 : Option AV) (K : HI), At (row I1 49 L) K C (I 30 5) → (∀ t, n ≤ t → t < 2 ^ m → ldE (stP I1 C (I 30 5) s b m) m L t) → z5 = (n : Int) - 1 → n ≤ 2 ^ m → Bj MX6_arrange 6 48 [some (aR 44), some (aR 30), some (aI (s : Int)), some (aI (m : Int)), some (aI ((2 ^ m - 1 : Nat) : Int)), some (aI z5), x6] [] K Q := by
    intro n
    induction n with
    | zero =>
      intro L z5 x6 K hA hE h5 hn
      have q49 : K 49 = L := by rw [hA.1.1 49 (by decide) (by decide), row_same]
      refine b_iload rfl rfl ?_
      refine b_if_lt (tgt := 122) rfl rfl (fun c50 => ?_) (fun c50 => ?_)
      · refine b_aload_n rfl rfl ?_
        refine b_aload_n rfl rfl ?_
        refine b_getR (r := 49) rfl fl6_24 rfl (by decide) rfl rfl ?_
        refine b_iconst rfl (by decide) ?_
        refine b_zald rfl rfl (by omega) (by omega) ?_
        rw [q49, show Int.toNat 0 = 0 from rfl]
        refine b_if_eq (tgt := 136) rfl rfl (fun c129 => ?_) (fun c129 => ?_)
        · refine b_iconst rfl (by decide) ?_
          refine b_putI rfl fl6_50 rfl (by decide) rfl ?_
          refine b_iconst rfl (by decide) ?_
          refine b_istoreX (F := fun z141 => [some (aR 44), some (aR 30), some (aI (s : Int)), some (aI (m : Int)), some (aI ((2 ^ m - 1 : Nat) : Int)), some (aI z141), x6]) rfl (by decide) (fun _ => rfl) (fun z141 ez141 => ?_)
          refine b_iconst rfl (by decide) ?_
          refine b_istoreX (F := fun z144 => [some (aR 44), some (aR 30), some (aI (s : Int)), some (aI (m : Int)), some (aI ((2 ^ m - 1 : Nat) : Int)), some (aI z141), some (aI z144)]) rfl (by decide) (fun _ => rfl) (fun z144 ez144 => ?_)
          first
          | (have h0 : L 0 ≠ 0 := c129
             refine b_cg ?_ (two L K (fun t ht => hE t (by omega) ht) h0 hA m 0 _ _ (up K 44 11 (m : Int) 48) (fun j hj => absurd hj (by omega)) (by rw [ez141]; rfl) (by omega) (by omega))
             rw [row_self])
          | exact three L K (fun t ht => hE t (by omega) ht) c129 hA _ _ (by omega)
        · refine b_iload_n rfl rfl ?_
          refine b_goto (tgt := 137) rfl rfl ?_
          refine b_putI rfl fl6_50 rfl (by decide) rfl ?_
          refine b_iconst rfl (by decide) ?_
          refine b_istoreX (F := fun z141 => [some (aR 44), some (aR 30), some (aI (s : Int)), some (aI (m : Int)), some (aI ((2 ^ m - 1 : Nat) : Int)), some (aI z141), x6]) rfl (by decide) (fun _ => rfl) (fun z141 ez141 => ?_)
          refine b_iconst rfl (by decide) ?_
          refine b_istoreX (F := fun z144 => [some (aR 44), some (aR 30), some (aI (s : Int)), some (aI (m : Int)), some (aI ((2 ^ m - 1 : Nat) : Int)), some (aI z141), some (aI z144)]) rfl (by decide) (fun _ => rfl) (fun z144 ez144 => ?_)
          first
          | (have h0 : L 0 ≠ 0 := c129
             refine b_cg ?_ (two L K (fun t ht => hE t (by omega) ht) h0 hA m 0 _ _ (up K 44 11 (m : Int) 48) (fun j hj => absurd hj (by omega)) (by rw [ez141]; rfl) (by omega) (by omega))
             rw [row_self])
          | exact three L K (fun t ht => hE t (by omega) ht) c129 hA _ _ (by omega)
      · omega
    | succ n ih =>
      intro L z5 x6 K hA hE h5 hn
      have e5 : z5 = (n : Int) := by omega
      subst e5
      have q49 : K 49 = L := by rw [hA.1.1 49 (by decide) (by decide), row_same]
      have q31 : K 31 = I 31 := by rw [hA.1.1 31 (by decide) (by decide), row_cell (by decide), c31]
      have hfl : flP K n = glP L n := by
        funext k
        unfold flP glP
        rw [q49]
      have hCL : CP (row I1 49 L) C := CP_row hP1 (by decide)
      have fin : ∀ (v : Int) (K2 : HI), At (row I1 49 L) K2 C (I 30 5) → (v = 0 ∨ v = 1) → (v ≠ 0 ↔ onw m L n ∧ (n = 0 ∨ stP I1 C (I 30 5) s b m n)) → ∀ (z : Int) (x : Option AV), z = (n : Int) - 1 → Bj MX6_arrange 6 48 [some (aR 44), some (aR 30), some (aI (s : Int)), some (aI (m : Int)), some (aI ((2 ^ m - 1 : Nat) : Int)), some (aI z), x] [] (up K2 49 n v) Q := by
        intro v K2 hA2 hv hiff z x hz
        refine ih (ud L n v) z x _ (At_cell (by decide) hA2) (fun t h1 h2 => ?_) hz (by omega)
        by_cases e : t = n
        · subst e
          have e1 : ud L t v t = v := if_pos rfl
          have e2 : ∀ k, k < m → t.testBit k = false → ud L t v (t ||| 2 ^ k) = L (t ||| 2 ^ k) := fun k hk hb => if_neg (fun z => by
            have h3 : (t ||| 2 ^ k).testBit k = true := by rw [Nat.testBit_or, Nat.testBit_two_pow_self, Bool.or_true]
            rw [z, hb] at h3
            cases h3)
          unfold ldE
          rw [e1]
          refine ⟨hv, hiff.trans (and_congr ?_ Iff.rfl)⟩
          unfold onw glP
          refine or_congr Iff.rfl ⟨fun w => ?_, fun w => ?_⟩
          · obtain ⟨k, h3, h4, h5⟩ := w
            exact ⟨k, h3, h4, by rw [e2 k h3 h4]; exact h5⟩
          · obtain ⟨k, h3, h4, h5⟩ := w
            exact ⟨k, h3, h4, by rw [e2 k h3 h4] at h5; exact h5⟩
        · exact ldE_ud (hE t (by omega) h2) (by omega)
      have mid : ∀ y : Int, (y = 1 ∧ onw m L n) ∨ (y = 0 ∧ ¬ onw m L n) → Bj MX6_arrange 6 78 [some (aR 44), some (aR 30), some (aI (s : Int)), some (aI (m : Int)), some (aI ((2 ^ m - 1 : Nat) : Int)), some (aI (n : Int)), some (aI y)] [] K Q := by
        intro y hy
        refine b_aload_n rfl rfl ?_
        refine b_getR (r := 49) rfl fl6_24 rfl (by decide) rfl rfl ?_
        refine b_iload rfl rfl ?_
        refine b_iload rfl rfl ?_
        refine b_if_eq (tgt := 114) rfl rfl (fun c86 => ?_) (fun c86 => ?_)
        · refine b_iconst rfl (by decide) ?_
          refine b_zast rfl rfl (by omega) (by omega) (by omega) ?_
          rw [Int.toNat_natCast]
          refine b_iincX (F := fun z116 => [some (aR 44), some (aR 30), some (aI (s : Int)), some (aI (m : Int)), some (aI ((2 ^ m - 1 : Nat) : Int)), some (aI z116), some (aI y)]) rfl rfl (by omega) (by omega) (fun _ => rfl) (fun z116 ez116 => ?_)
          refine b_goto (tgt := 48) rfl rfl ?_
          refine fin _ _ ?_ ?_ ?_ _ _ (by omega)
          · first
              | exact hA2
              | exact hA
          · first
              | exact Or.inl rfl
              | exact Or.inr rfl
          · first
              | exact ⟨fun _ => ⟨(hy.resolve_right (fun w => by omega)).2, Or.inr ((hst L n).1 hst1)⟩, fun _ => by decide⟩
              | exact ⟨fun w => absurd rfl w, fun w => w.2.elim (fun z => absurd z (by omega)) (fun z => absurd ((hst L n).2 z) hst0)⟩
              | exact ⟨fun _ => ⟨(hy.resolve_right (fun w => by omega)).2, Or.inl (by omega)⟩, fun _ => by decide⟩
              | exact ⟨fun w => absurd rfl w, fun w => absurd w.1 (hy.resolve_left (fun w => by omega)).2⟩
        · refine b_iload rfl rfl ?_
          refine b_if_eq (tgt := 110) rfl rfl (fun c91 => ?_) (fun c91 => ?_)
          · refine b_iconst rfl (by decide) ?_
            refine b_goto (tgt := 115) rfl rfl ?_
            refine b_zast rfl rfl (by omega) (by omega) (by omega) ?_
            rw [Int.toNat_natCast]
            refine b_iincX (F := fun z116 => [some (aR 44), some (aR 30), some (aI (s : Int)), some (aI (m : Int)), some (aI ((2 ^ m - 1 : Nat) : Int)), some (aI z116), some (aI y)]) rfl rfl (by omega) (by omega) (fun _ => rfl) (fun z116 ez116 => ?_)
            refine b_goto (tgt := 48) rfl rfl ?_
            refine fin _ _ ?_ ?_ ?_ _ _ (by omega)
            · first
                | exact hA2
                | exact hA
            · first
                | exact Or.inl rfl
                | exact Or.inr rfl
            · first
                | exact ⟨fun _ => ⟨(hy.resolve_right (fun w => by omega)).2, Or.inr ((hst L n).1 hst1)⟩, fun _ => by decide⟩
                | exact ⟨fun w => absurd rfl w, fun w => w.2.elim (fun z => absurd z (by omega)) (fun z => absurd ((hst L n).2 z) hst0)⟩
                | exact ⟨fun _ => ⟨(hy.resolve_right (fun w => by omega)).2, Or.inl (by omega)⟩, fun _ => by decide⟩
                | exact ⟨fun w => absurd rfl w, fun w => absurd w.1 (hy.resolve_left (fun w => by omega)).2⟩
          · refine b_aload_n rfl rfl ?_
            refine b_iload rfl rfl ?_
            refine b_iload_n rfl rfl ?_
            refine b_aload_n rfl rfl ?_
            refine b_getR (r := 31) rfl fl6_128 rfl (by decide) rfl rfl ?_
            refine b_iload_n rfl rfl ?_
            refine b_iald rfl rfl (by omega) (by omega) ?_
            try simp only [up_ap, cpy_ap, fil_ap, row_ap, Nat.reduceEqDiff, Nat.reduceLT, Nat.reduceLeDiff, Int.toNat_natCast, Int.reduceToNat, reduceCtorEq, false_and, and_false, true_and, and_true, and_self, reduceIte]
            rw [q31, hl]
            refine b_callV3i (ν := MX6_stands) rfl ml6_131 cvX6_stands (d' := 5) (by omega) rfl (by decide) rfl (Nat.le_of_ble_eq_true rfl) ?_
            refine spa_stands hCL hA (by rw [row_cell (by decide), c1]; exact hT) hm (hcL L) (by rw [row_cell (by decide), c45]; exact htr) (by rw [row_cell (by decide), c4]; exact hs) (by rw [row_cell (by decide), c4]; exact hb) (by omega) (fun hst1 K2 hA2 => ?_) (fun hst0 K2 hA2 => ?_)
            · refine ⟨_, rfl, ?_⟩
              refine b_if_eq (tgt := 114) rfl rfl (fun z => absurd z (by decide)) (fun _ => ?_)
              refine b_iconst rfl (by decide) ?_
              refine b_goto (tgt := 115) rfl rfl ?_
              refine b_zast rfl rfl (by omega) (by omega) (by omega) ?_
              rw [Int.toNat_natCast]
              refine b_iincX (F := fun z116 => [some (aR 44), some (aR 30), some (aI (s : Int)), some (aI (m : Int)), some (aI ((2 ^ m - 1 : Nat) : Int)), some (aI z116), some (aI y)]) rfl rfl (by omega) (by omega) (fun _ => rfl) (fun z116 ez116 => ?_)
              refine b_goto (tgt := 48) rfl rfl ?_
              refine fin _ _ ?_ ?_ ?_ _ _ (by omega)
              · first
                  | exact hA2
                  | exact hA
              · first
                  | exact Or.inl rfl
                  | exact Or.inr rfl
              · first
                  | exact ⟨fun _ => ⟨(hy.resolve_right (fun w => by omega)).2, Or.inr ((hst L n).1 hst1)⟩, fun _ => by decide⟩
                  | exact ⟨fun w => absurd rfl w, fun w => w.2.elim (fun z => absurd z (by omega)) (fun z => absurd ((hst L n).2 z) hst0)⟩
                  | exact ⟨fun _ => ⟨(hy.resolve_right (fun w => by omega)).2, Or.inl (by omega)⟩, fun _ => by decide⟩
                  | exact ⟨fun w => absurd rfl w, fun w => absurd w.1 (hy.resolve_left (fun w => by omega)).2⟩
            · refine ⟨_, rfl, ?_⟩
              refine b_if_eq (tgt := 114) rfl rfl (fun _ => ?_) (fun z => absurd z (by decide))
              refine b_iconst rfl (by decide) ?_
              refine b_zast rfl rfl (by omega) (by omega) (by omega) ?_
              rw [Int.toNat_natCast]
              refine b_iincX (F := fun z116 => [some (aR 44), some (aR 30), some (aI (s : Int)), some (aI (m : Int)), some (aI ((2 ^ m - 1 : Nat) : Int)), some (aI z116), some (aI y)]) rfl rfl (by omega) (by omega) (fun _ => rfl) (fun z116 ez116 => ?_)
              refine b_goto (tgt := 48) rfl rfl ?_
              refine fin _ _ ?_ ?_ ?_ _ _ (by omega)
              · first
                  | exact hA2
                  | exact hA
              · first
                  | exact Or.inl rfl
                  | exact Or.inr rfl
              · first
                  | exact ⟨fun _ => ⟨(hy.resolve_right (fun w => by omega)).2, Or.inr ((hst L n).1 hst1)⟩, fun _ => by decide⟩
                  | exact ⟨fun w => absurd rfl w, fun w => w.2.elim (fun z => absurd z (by omega)) (fun z => absurd ((hst L n).2 z) hst0)⟩
                  | exact ⟨fun _ => ⟨(hy.resolve_right (fun w => by omega)).2, Or.inl (by omega)⟩, fun _ => by decide⟩
                  | exact ⟨fun w => absurd rfl w, fun w => absurd w.1 (hy.resolve_left (fun w => by omega)).2⟩
      refine b_iload rfl rfl ?_
      refine b_if_lt (tgt := 122) rfl rfl (fun c50 => ?_) (fun c50 => ?_)
      · omega
      · refine b_iload rfl rfl ?_
        refine b_iload rfl rfl ?_
        refine b_icmp_eq (tgt := 71) rfl rfl (fun c57 => ?_) (fun c57 => ?_)
        · refine b_iconst rfl (by decide) ?_
          refine b_goto (tgt := 76) rfl rfl ?_
          refine b_istoreX (F := fun z76 => [some (aR 44), some (aR 30), some (aI (s : Int)), some (aI (m : Int)), some (aI ((2 ^ m - 1 : Nat) : Int)), some (aI (n : Int)), some (aI z76)]) rfl (by decide) (fun _ => rfl) (fun z76 ez76 => ?_)
          refine mid _ ?_
          first
            | exact Or.inl ⟨by assumption, Or.inl (by omega)⟩
            | exact Or.inl ⟨by assumption, (onw_iff (by omega)).2 (by assumption)⟩
            | exact Or.inr ⟨by assumption, fun w => (onw_iff (by omega)).1 w (by assumption)⟩
        · refine b_aload_n rfl rfl ?_
          refine b_iload rfl rfl ?_
          refine b_iload_n rfl rfl ?_
          refine b_callV2i (ν := MX6_firstLeading) rfl ml6_125 cvX6_firstLeading (d' := 0) (by omega) rfl (by decide) rfl (Nat.le_of_ble_eq_true rfl) ?_
          refine sp_X6_firstLeading (by omega) hm ?_
          rw [hfl]
          refine ⟨_, rfl, ?_⟩
          refine b_iconst rfl (by decide) ?_
          refine b_icmp_eq (tgt := 75) rfl rfl (fun c68 => ?_) (fun c68 => ?_)
          · refine b_iconst rfl (by decide) ?_
            refine b_istoreX (F := fun z76 => [some (aR 44), some (aR 30), some (aI (s : Int)), some (aI (m : Int)), some (aI ((2 ^ m - 1 : Nat) : Int)), some (aI (n : Int)), some (aI z76)]) rfl (by decide) (fun _ => rfl) (fun z76 ez76 => ?_)
            refine mid _ ?_
            first
              | exact Or.inl ⟨by assumption, Or.inl (by omega)⟩
              | exact Or.inl ⟨by assumption, (onw_iff (by omega)).2 (by assumption)⟩
              | exact Or.inr ⟨by assumption, fun w => (onw_iff (by omega)).1 w (by assumption)⟩
          · refine b_iconst rfl (by decide) ?_
            refine b_goto (tgt := 76) rfl rfl ?_
            refine b_istoreX (F := fun z76 => [some (aR 44), some (aR 30), some (aI (s : Int)), some (aI (m : Int)), some (aI ((2 ^ m - 1 : Nat) : Int)), some (aI (n : Int)), some (aI z76)]) rfl (by decide) (fun _ => rfl) (fun z76 ez76 => ?_)
            refine mid _ ?_
            first
              | exact Or.inl ⟨by assumption, Or.inl (by omega)⟩
              | exact Or.inl ⟨by assumption, (onw_iff (by omega)).2 (by assumption)⟩
              | exact Or.inr ⟨by assumption, fun w => (onw_iff (by omega)).1 w (by assumption)⟩
  refine rj_of okX6_arrange (Nat.le_of_ble_eq_true rfl) rfl ?_
  refine b_aload_n rfl rfl ?_
  refine b_getR (r := 32) rfl fl6_114 rfl (by decide) rfl rfl ?_
  refine b_iconst rfl (by decide) ?_
  refine b_aload_n rfl rfl ?_
  refine b_getR (r := 45) rfl fl6_9 rfl (by decide) rfl rfl ?_
  refine b_iconst rfl (by decide) ?_
  refine b_sipush rfl (by decide) ?_
  refine b_copy rfl ml6_68 (by omega) rfl rfl (by omega) (by omega) (by omega) (by omega) (by omega) ?_
  rw [show cpy I 32 45 (Int.toNat 0) (Int.toNat 0) (Int.toNat 144) = I1 from cpy_trO.trans hI1]
  refine b_aload_n rfl rfl ?_
  refine b_getR (r := 27) rfl fl6_38 rfl (by decide) rfl rfl ?_
  refine b_aload_n rfl rfl ?_
  refine b_getI rfl fl6_119 rfl (by decide) rfl ?_
  try simp only [up_ap, cpy_ap, fil_ap, row_ap, Nat.reduceEqDiff, Nat.reduceLT, Nat.reduceLeDiff, Int.toNat_natCast, Int.reduceToNat, reduceCtorEq, false_and, and_false, true_and, and_true, and_self, reduceIte]
  rw [c30]
  refine b_callV1v (ν := MX5_atHour) rfl ml6_122 cvX5_atHour (d' := 3) (by omega) rfl (by decide) rfl (Nat.le_of_ble_eq_true rfl) ?_
  refine spa_atHour hP1 (Sc.rf hse1) (by omega) (fun K hA => ?_)
  have k11 : K 1 1 = I 1 1 := by rw [hA.1.1 1 (by decide) (by decide), c1]
  refine ⟨rfl, ?_⟩
  refine b_aload_n rfl rfl ?_
  refine b_getR (r := 1) rfl fl6_42 rfl (by decide) rfl rfl ?_
  refine b_getI rfl fl6_53 rfl (by decide) rfl ?_
  try simp only [up_ap, cpy_ap, fil_ap, row_ap, Nat.reduceEqDiff, Nat.reduceLT, Nat.reduceLeDiff, Int.toNat_natCast, Int.reduceToNat, reduceCtorEq, false_and, and_false, true_and, and_true, and_self, reduceIte]
  refine b_iconst rfl (by decide) ?_
  refine b_idivP rfl (by omega) (by omega) ?_
  refine b_istoreX_n (F := fun z36 => [some (aR 44), some (aR 30), some (aI (s : Int)), some (aI z36), none, none, none]) rfl (by decide) (fun _ => rfl) (fun z36 ez36 => ?_)
  have e36 : z36 = (m : Int) := by omega
  refine b_iconst rfl (by decide) ?_
  refine b_iload_n rfl rfl ?_
  refine b_ishl rfl ?_
  rw [show iShl 1 z36 = ((2 ^ m : Nat) : Int) by rw [e36]; exact psh]
  refine b_iconst rfl (by decide) ?_
  refine b_isubN rfl (by omega) (by omega) ?_
  refine b_istoreX (F := fun z42 => [some (aR 44), some (aR 30), some (aI (s : Int)), some (aI z36), some (aI z42), none, none]) rfl (by decide) (fun _ => rfl) (fun z42 ez42 => ?_)
  have e42 : z42 = ((2 ^ m - 1 : Nat) : Int) := by omega
  refine b_iload rfl rfl ?_
  refine b_istoreX (F := fun z46 => [some (aR 44), some (aR 30), some (aI (s : Int)), some (aI z36), some (aI z42), some (aI z46), none]) rfl (by decide) (fun _ => rfl) (fun z46 ez46 => ?_)
  subst e36
  subst e42
  exact one (2 ^ m) (K 49) _ _ K (by rw [show row I1 49 (K 49) = I1 by rw [hA.1.1 49 (by decide) (by decide), row_self]]; exact hA) (fun t h1 h2 => absurd h2 (by omega)) (by omega) (by omega)
theorem sp_X11_order {I : HI} {Q : Option AV → HI → Prop} {C : Nat → List Int} {a : Int} (hW : WF I C) (hT : 0 ≤ I 1 1 ∧ I 1 1 ≤ 1600) (hc2 : ∀ k, 0 ≤ I 45 k ∧ I 45 k ≤ 20) (k1 : ∀ (s b m : Nat) (L : Nat → Int) (K : HI), a = (s : Int) → (s : Int) < I 4 1 → I 31 s = (b : Int) → (b : Int) < I 4 2 → acP I (s : Int) → I 1 1 = 2 * (m : Int) → (∀ t, t < 2 ^ m → ldE (stP (row I 45 (trO I)) C (I 30 5) s b m) m L t) → orK I m L K → Q (some (aI (if L 0 = 0 then 0 else 1))) (up K 1 1 0)) (k0 : ¬ (kO I 4 1 a ∧ I 31 a.toNat ≠ -1 ∧ acP I a) → Q (some (aI (-1))) (up (rfs I 5) 1 1 0)) : Rj MX11_order 7 [aR 0, aI a] I Q := by
  refine rj_of okX11_order (Nat.le_of_ble_eq_true rfl) rfl ?_
  have bad : ∀ z : Int, z = 0 → ¬ (kO I 4 1 a ∧ I 31 a.toNat ≠ -1 ∧ acP I a) → Bj MX11_order 7 42 [some (aR 0), some (aI a), some (aI z), none] [] I Q := by
    intro z hz hn
    refine b_iload_n rfl rfl ?_
    refine b_if_eq (tgt := 61) rfl rfl (fun c43 => ?_) (fun c43 => ?_)
    · refine b_aload_n rfl rfl ?_
      refine b_iconst rfl (by decide) ?_
      refine b_callV1i (ν := MX11_refuse) rfl ml11_100 cvX11_refuse (d' := 0) (by omega) rfl (by decide) rfl (Nat.le_of_ble_eq_true rfl) ?_
      refine sp_X11_refuse (k := 5) (by decide) ?_
      refine ⟨_, rfl, ?_⟩
      refine b_istoreX_n (F := fun z66 => [some (aR 0), some (aI a), some (aI z), some (aI z66)]) rfl (by decide) (fun _ => rfl) (fun z66 ez66 => ?_)
      refine b_aload_n rfl rfl ?_
      refine b_getR (r := 1) rfl fl11_10 rfl (by decide) rfl rfl ?_
      refine b_iconst rfl (by decide) ?_
      refine b_putI rfl fl11_97 rfl (by decide) rfl ?_
      refine b_iload_n rfl rfl ?_
      refine b_iret rfl rfl ?_
      refine qI (k0 hn) ?_ rfl
      omega
    · omega
  have good : ∀ (s b m : Nat) (z : Int), z = 1 → a = (s : Int) → (s : Int) < I 4 1 → I 31 s = (b : Int) → (b : Int) < I 4 2 → acP I (s : Int) → I 1 1 = 2 * (m : Int) → Bj MX11_order 7 42 [some (aR 0), some (aI (s : Int)), some (aI z), none] [] I Q := by
    intro s b m z hz ha hs hl hb hc hm
    refine b_iload_n rfl rfl ?_
    refine b_if_eq (tgt := 61) rfl rfl (fun c43 => ?_) (fun c43 => ?_)
    · omega
    · refine b_aload_n rfl rfl ?_
      refine b_getR (r := 44) rfl fl11_72 rfl (by decide) rfl rfl ?_
      refine b_aload_n rfl rfl ?_
      refine b_getR (r := 30) rfl fl11_44 rfl (by decide) rfl rfl ?_
      refine b_iload_n rfl rfl ?_
      refine b_callV2i (ν := MX6_arrange) rfl ml11_266 cvX6_arrange (d' := 6) (by omega) rfl (by decide) rfl (Nat.le_of_ble_eq_true rfl) ?_
      refine sp_X6_arrange hW hs hl hb hc hm hc2 (fun L K hE hK => ?_)
      refine ⟨_, rfl, ?_⟩
      refine b_goto (tgt := 66) rfl rfl ?_
      refine b_istoreX_n (F := fun z66 => [some (aR 0), some (aI (s : Int)), some (aI z), some (aI z66)]) rfl (by decide) (fun _ => rfl) (fun z66 ez66 => ?_)
      refine b_aload_n rfl rfl ?_
      refine b_getR (r := 1) rfl fl11_10 rfl (by decide) rfl rfl ?_
      refine b_iconst rfl (by decide) ?_
      refine b_putI rfl fl11_97 rfl (by decide) rfl ?_
      refine b_iload_n rfl rfl ?_
      refine b_iret rfl rfl ?_
      exact qI (k1 s b m L K ha hs hl hb hc hm hE hK) (by omega) rfl
  refine b_aload_n rfl rfl ?_
  refine b_getR (r := 3) rfl fl11_19 rfl (by decide) rfl rfl ?_
  refine b_iconst rfl (by decide) ?_
  refine b_iload_n rfl rfl ?_
  refine b_callV2i (ν := MX3_knows) rfl ml11_175 cvX3_knows (d' := 0) (by omega) rfl (by decide) rfl (Nat.le_of_ble_eq_true rfl) ?_
  refine spf_knows (fun hk => ?_) (fun hk => ?_)
  · refine ⟨_, rfl, ?_⟩
    refine b_if_eq (tgt := 40) rfl rfl (fun z => absurd z (by decide)) (fun _ => ?_)
    have hb1 := kO_b hW.1.1.1 hk
    refine b_aload_n rfl rfl ?_
    refine b_getR (r := 30) rfl fl11_44 rfl (by decide) rfl rfl ?_
    refine b_getR (r := 31) rfl fl11_205 rfl (by decide) rfl rfl ?_
    refine b_iload_n rfl rfl ?_
    refine b_iald rfl rfl (by omega) (by omega) ?_
    refine b_iconst rfl (by decide) ?_
    refine b_icmp_eq (tgt := 40) rfl rfl (fun c22 => ?_) (fun c22 => ?_)
    · refine b_iconst rfl (by decide) ?_
      refine b_istoreX_n (F := fun z41 => [some (aR 0), some (aI a), some (aI z41), none]) rfl (by decide) (fun _ => rfl) (fun z41 ez41 => ?_)
      first
      | (have h2 : 0 ≤ a ∧ a < I 4 1 := (show kO I 4 1 a by assumption).2.2
         obtain ⟨s, hsa⟩ : ∃ s : Nat, a = (s : Int) := ⟨a.toNat, by omega⟩
         subst hsa
         have h3 := hW.2.2.2.2 s h2.2
         rw [Int.toNat_natCast] at c22
         have hA2 : acP I (s : Int) := by assumption
         have h4 := hA2.2.2.1
         exact good s (I 31 s).toNat (I 1 1 / 2).toNat _ (by omega) rfl h2.2 (by omega) (by omega) hA2 (by omega))
      | exact bad _ (by omega) (fun w => absurd w.2.2 (by assumption))
      | exact bad _ (by omega) (fun w => w.2.1 (by assumption))
      | exact bad _ (by omega) (fun w => absurd w.1 (by assumption))
    · refine b_aload_n rfl rfl ?_
      refine b_getR (r := 44) rfl fl11_72 rfl (by decide) rfl rfl ?_
      refine b_iload_n rfl rfl ?_
      refine b_callV1i (ν := MX6_areCrates) rfl ml11_263 cvX6_areCrates (d' := 3) (by omega) rfl (by decide) rfl (Nat.le_of_ble_eq_true rfl) ?_
      refine spf_areCrates hW.1.1.1 hT (fun hA => ?_) (fun hA => ?_)
      · refine ⟨_, rfl, ?_⟩
        refine b_if_eq (tgt := 40) rfl rfl (fun z => absurd z (by decide)) (fun _ => ?_)
        refine b_iconst rfl (by decide) ?_
        refine b_goto (tgt := 41) rfl rfl ?_
        refine b_istoreX_n (F := fun z41 => [some (aR 0), some (aI a), some (aI z41), none]) rfl (by decide) (fun _ => rfl) (fun z41 ez41 => ?_)
        first
        | (have h2 : 0 ≤ a ∧ a < I 4 1 := (show kO I 4 1 a by assumption).2.2
           obtain ⟨s, hsa⟩ : ∃ s : Nat, a = (s : Int) := ⟨a.toNat, by omega⟩
           subst hsa
           have h3 := hW.2.2.2.2 s h2.2
           rw [Int.toNat_natCast] at c22
           have hA2 : acP I (s : Int) := by assumption
           have h4 := hA2.2.2.1
           exact good s (I 31 s).toNat (I 1 1 / 2).toNat _ (by omega) rfl h2.2 (by omega) (by omega) hA2 (by omega))
        | exact bad _ (by omega) (fun w => absurd w.2.2 (by assumption))
        | exact bad _ (by omega) (fun w => w.2.1 (by assumption))
        | exact bad _ (by omega) (fun w => absurd w.1 (by assumption))
      · refine ⟨_, rfl, ?_⟩
        refine b_if_eq (tgt := 40) rfl rfl (fun _ => ?_) (fun z => absurd z (by decide))
        refine b_iconst rfl (by decide) ?_
        refine b_istoreX_n (F := fun z41 => [some (aR 0), some (aI a), some (aI z41), none]) rfl (by decide) (fun _ => rfl) (fun z41 ez41 => ?_)
        first
        | (have h2 : 0 ≤ a ∧ a < I 4 1 := (show kO I 4 1 a by assumption).2.2
           obtain ⟨s, hsa⟩ : ∃ s : Nat, a = (s : Int) := ⟨a.toNat, by omega⟩
           subst hsa
           have h3 := hW.2.2.2.2 s h2.2
           rw [Int.toNat_natCast] at c22
           have hA2 : acP I (s : Int) := by assumption
           have h4 := hA2.2.2.1
           exact good s (I 31 s).toNat (I 1 1 / 2).toNat _ (by omega) rfl h2.2 (by omega) (by omega) hA2 (by omega))
        | exact bad _ (by omega) (fun w => absurd w.2.2 (by assumption))
        | exact bad _ (by omega) (fun w => w.2.1 (by assumption))
        | exact bad _ (by omega) (fun w => absurd w.1 (by assumption))
  · refine ⟨_, rfl, ?_⟩
    refine b_if_eq (tgt := 40) rfl rfl (fun _ => ?_) (fun z => absurd z (by decide))
    refine b_iconst rfl (by decide) ?_
    refine b_istoreX_n (F := fun z41 => [some (aR 0), some (aI a), some (aI z41), none]) rfl (by decide) (fun _ => rfl) (fun z41 ez41 => ?_)
    first
    | (have h2 : 0 ≤ a ∧ a < I 4 1 := (show kO I 4 1 a by assumption).2.2
       obtain ⟨s, hsa⟩ : ∃ s : Nat, a = (s : Int) := ⟨a.toNat, by omega⟩
       subst hsa
       have h3 := hW.2.2.2.2 s h2.2
       rw [Int.toNat_natCast] at c22
       have hA2 : acP I (s : Int) := by assumption
       have h4 := hA2.2.2.1
       exact good s (I 31 s).toNat (I 1 1 / 2).toNat _ (by omega) rfl h2.2 (by omega) (by omega) hA2 (by omega))
    | exact bad _ (by omega) (fun w => absurd w.2.2 (by assumption))
    | exact bad _ (by omega) (fun w => w.2.1 (by assumption))
    | exact bad _ (by omega) (fun w => absurd w.1 (by assumption))
