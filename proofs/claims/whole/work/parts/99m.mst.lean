/-! ===== the draft, well made; the reference: a statement, its end ===== -/
def Al (φ : HI → Nat → Prop) (r : SRt) : Prop := ∀ I' p', r = .inr (I', p') → φ I' p'
section ALL
variable {φ : HI → Nat → Prop} {n p : Nat} {B : Nat → Int}
theorem al_l {e : Int × Int} : Al φ (.inl e) := fun _ _ h => by cases h
theorem al_r {I : HI} {q : Nat} (h : φ I q) : Al φ (.inr (I, q)) := fun _ _ e => by
  cases e
  exact h
theorem al_ndW {w : Int} {κ : Nat → SRt} (h : ∀ q, Al φ (κ q)) : Al φ (ndW n B p w κ) := by
  unfold ndW
  split
  · exact h _
  · exact al_l
theorem al_ndN {a b : Int} {κ : Int → Nat → SRt} (h : ∀ v q, a ≤ v → v ≤ b → Al φ (κ v q)) : Al φ (ndN n B p a b κ) := by
  unfold ndN
  split
  · split
    · rename_i e2
      exact h _ _ e2.1 e2.2
    · exact al_l
  · exact al_l
theorem al_ndM {κ : Int → Nat → SRt} (h : ∀ v q, Al φ (κ v q)) : Al φ (ndM n B p κ) := by
  unfold ndM
  split
  · exact h _ _
  · exact al_l
theorem al_knw {J : HI} {k : Nat} {κ : Nat → Nat → SRt} (hC : cOK J 13) (hk : k < 3) (h : ∀ s q : Nat, (s : Int) < J 13 k → s < 6 → Al φ (κ s q)) : Al φ (knw n J k p κ) := by
  unfold knw
  refine al_ndM (fun v q => ?_)
  split
  · exact al_l
  · rename_i e
    have hf := fin_nat hC hk e
    exact h _ _ hf.2.1 hf.2.2
end ALL
/-- all that a draft must be, formulas aside -/
def DX (I : HI) : Prop := (∀ s : Nat, s < 6 → ¬ (s : Int) < I 13 1 → I 21 s = -1) ∧ (∀ s : Nat, s < 6 → I 21 s = -1 ∨ (0 ≤ I 21 s ∧ I 21 s < I 13 2)) ∧ (∀ k : Nat, k < 144 → 0 ≤ I 22 k ∧ I 22 k ≤ 20) ∧ (∀ s h w : Nat, s < 6 → h < 4 → w < 6 → ¬ ((s : Int) < I 13 1 ∧ (h : Int) < I 15 (6 + s) ∧ (w : Int) < I 13 0) → I 22 (24 * s + 6 * h + w) = 0) ∧ (∀ s : Nat, (s : Int) < I 13 1 → 0 ≤ I 16 (6 + s) ∧ I 16 (6 + s) ≤ 999) ∧ (∀ b : Nat, (b : Int) < I 13 2 → 0 ≤ I 15 (12 + b) ∧ I 15 (12 + b) ≤ I 16 (12 + b) ∧ I 16 (12 + b) ≤ 9999) ∧ (0 ≤ I 12 8 ∧ I 12 8 ≤ 100)
theorem DX_to {I I' : HI} (h : DX I) (e : ∀ q k, q = 13 ∨ q = 15 ∨ q = 16 ∨ q = 21 ∨ q = 22 ∨ (q = 12 ∧ k = 8) → I' q k = I q k) : DX I' := by
  obtain ⟨h1, h2, h3, h4, h5, h6, h7⟩ := h
  have e13 : ∀ k, I' 13 k = I 13 k := fun k => e 13 k (by omega)
  have e15 : ∀ k, I' 15 k = I 15 k := fun k => e 15 k (by omega)
  have e16 : ∀ k, I' 16 k = I 16 k := fun k => e 16 k (by omega)
  have e21 : ∀ k, I' 21 k = I 21 k := fun k => e 21 k (by omega)
  have e22 : ∀ k, I' 22 k = I 22 k := fun k => e 22 k (by omega)
  refine ⟨fun s a b => ?_, fun s a => ?_, fun k a => ?_, fun s h w a b c d => ?_, fun s a => ?_, fun b a => ?_, ?_⟩
  · rw [e13] at b; rw [e21]; exact h1 s a b
  · rw [e21, e13]; exact h2 s a
  · rw [e22]; exact h3 k a
  · rw [e13, e13, e15] at d; rw [e22]; exact h4 s h w a b c d
  · rw [e13] at a; rw [e16]; exact h5 s a
  · rw [e13] at a; rw [e15, e16]; exact h6 b a
  · rw [e 12 8 (by omega)]; exact h7
section DXS
variable {I : HI} {n p : Nat}
theorem dx_th {k : Nat} {v a b : Int} (hX : DX I) (hC : cOK I 13) (hk : k < 3) (h6 : I 13 k < 6) (ha : stl_ 1 k ≤ a ∧ a ≤ stl_ 2 k) (hb : (if k = 2 then a else 0) ≤ b ∧ b ≤ stl_ 4 k) : DX (thI I k v a b) := by
  obtain ⟨h1, h2, h3, h4, h5, h7, h8⟩ := hX
  obtain ⟨c, hc⟩ : ∃ c : Nat, I 13 k = (c : Int) := ⟨(I 13 k).toNat, by have := hC k hk; omega⟩
  have hct : (I 13 k).toNat = c := by omega
  have i13 : ∀ j, thI I k v a b 13 j = if j = k then (c : Int) + 1 else I 13 j := by
    intro j
    rw [thI_ap]
    by_cases e : j = k
    · rw [if_pos ⟨rfl, e⟩, if_pos e, hc]
    · rw [if_neg (by omega), if_neg (by omega), if_neg (by omega), if_neg (by omega), if_neg e]
  have i15 : ∀ j, thI I k v a b 15 j = if j = 6 * k + c then a else I 15 j := by
    intro j
    rw [thI_ap, if_neg (by omega), if_neg (by omega), hct]
    by_cases e : j = 6 * k + c
    · rw [if_pos ⟨rfl, e⟩, if_pos e]
    · rw [if_neg (by omega), if_neg e, if_neg (by omega)]
  have i16 : ∀ j, thI I k v a b 16 j = if j = 6 * k + c then b else I 16 j := by
    intro j
    rw [thI_ap, if_neg (by omega), hct]
    by_cases e : j = 6 * k + c
    · rw [if_pos ⟨rfl, e⟩, if_pos e]
    · rw [if_neg (by omega), if_neg e, if_neg (by omega), if_neg (by omega)]
  have io : ∀ q j, q ≠ 13 → q ≠ 14 → q ≠ 15 → q ≠ 16 → thI I k v a b q j = I q j := by
    intro q j a1 a2 a3 a4
    rw [thI_ap, if_neg (by omega), if_neg (by omega), if_neg (by omega), if_neg (by omega)]
  have io21 : ∀ j, thI I k v a b 21 j = I 21 j := fun j => io 21 j (by decide) (by decide) (by decide) (by decide)
  have io22 : ∀ j, thI I k v a b 22 j = I 22 j := fun j => io 22 j (by decide) (by decide) (by decide) (by decide)
  have hC0 := hC 0 (by decide)
  have hC1 := hC 1 (by decide)
  have hC2 := hC 2 (by decide)
  refine ⟨fun s x y => ?_, fun s x => ?_, fun j x => ?_, fun s h w x y z u => ?_, fun s x => ?_, fun t x => ?_, ?_⟩
  · rw [i13] at y
    rw [io21]
    refine h1 s x (fun w => y ?_)
    by_cases e : 1 = k
    · subst e; rw [if_pos rfl]; omega
    · rw [if_neg e]; exact w
  · rw [io21, i13]
    rcases h2 s x with e | e
    · exact Or.inl e
    · refine Or.inr ⟨e.1, ?_⟩
      by_cases e2 : 2 = k
      · subst e2; rw [if_pos rfl]; omega
      · rw [if_neg e2]; exact e.2
  · rw [io22]; exact h3 j x
  · rw [io22]
    refine h4 s h w x y z (fun q => u ?_)
    rw [i13, i13, i15]
    refine ⟨?_, ?_, ?_⟩
    · by_cases e : 1 = k
      · subst e; rw [if_pos rfl]; have := q.1; omega
      · rw [if_neg e]; exact q.1
    · rw [if_neg (fun e => by
        have := q.1
        have hk3 : k = 0 ∨ k = 1 ∨ k = 2 := by omega
        rcases hk3 with r | r | r <;> (subst r; omega))]
      exact q.2.1
    · by_cases e : 0 = k
      · subst e; rw [if_pos rfl]; have := q.2.2; omega
      · rw [if_neg e]; exact q.2.2
  · rw [i13] at x
    rw [i16]
    by_cases e : 6 + s = 6 * k + c
    · rw [if_pos e]
      by_cases e1 : k = 1
      · subst e1
        rw [if_neg (by decide)] at hb
        have : stl_ 4 1 = 999 := rfl
        omega
      · exfalso
        rw [if_neg (fun w => e1 w.symm)] at x
        have hk3 : k = 0 ∨ k = 2 := by omega
        rcases hk3 with r | r <;> (subst r; omega)
    · rw [if_neg e]
      refine h5 s ?_
      by_cases e1 : 1 = k
      · subst e1; rw [if_pos rfl] at x; omega
      · rw [if_neg e1] at x; exact x
  · rw [i13] at x
    rw [i15, i16]
    by_cases e : 12 + t = 6 * k + c
    · rw [if_pos e, if_pos e]
      by_cases e1 : k = 2
      · subst e1
        rw [if_pos rfl] at hb
        have q1 : stl_ 1 2 = 0 := rfl
        have q2 : stl_ 4 2 = 9999 := rfl
        omega
      · exfalso
        rw [if_neg (fun w => e1 w.symm)] at x
        have hk3 : k = 0 ∨ k = 1 := by omega
        rcases hk3 with r | r <;> (subst r; omega)
    · rw [if_neg e, if_neg e]
      refine h7 t ?_
      by_cases e1 : 2 = k
      · subst e1; rw [if_pos rfl] at x; omega
      · rw [if_neg e1] at x; exact x
  · rw [io 12 8 (by decide) (by decide) (by decide) (by decide)]; exact h8
theorem dx_St (hX : DX I) (hI : DI I p) : Al (fun I' _ => DX I') (St n I p) := by
  have hC := hI.1
  have th : ∀ k, k < 3 → Al (fun I' _ => DX I') (stTh n I k p) := by
    intro k hk
    unfold stTh
    split
    · exact al_l
    · rename_i h6
      refine al_ndM (fun v p2 => ?_)
      unfold kTh0
      split
      · exact al_l
      · exact al_ndW (fun p3 => al_ndN (fun a p4 a1 a2 => al_ndW (fun p5 => al_ndN (fun b p6 b1 b2 => al_r (dx_th hX hC hk (by omega) ⟨a1, a2⟩ ⟨b1, b2⟩)))))
  have fo : ∀ f, Al (fun I' _ => DX I') (stFo n I f p) := by
    intro f
    unfold stFo
    split
    · exact al_l
    cases hh : P n (I 2) (seO f) (12 * n + 7) (if f = 3 then 0 else 3) 0 (te n (I 2) p) with
    | inl e => exact al_l
    | inr y =>
      refine al_r (DX_to hX (fun q k hq => ?_))
      rw [up_ap, if_neg (by omega)]
      unfold stW foI
      by_cases e : q = 12
      · subst e
        rw [if_neg (by decide), if_pos rfl, if_neg (by omega), up_ap, if_neg (by omega), up_ap, if_neg (by omega)]
      · rw [if_neg (by omega), if_neg e, up_ap, if_neg (by omega), up_ap, if_neg (by omega)]
  unfold St
  repeat' split
  · exact th 0 (by decide)
  · exact th 1 (by decide)
  · exact th 2 (by decide)
  · unfold stLo
    refine al_knw hC (by decide) (fun s p2 hs hs6 => al_ndN (fun h p3 h0 h1 => al_knw hC (by decide) (fun w p4 hw hw6 => al_ndN (fun v p5 v0 v1 => al_r ?_))))
    obtain ⟨x1, x2, x3, x4, x5, x6, x7⟩ := hX
    have h15 := hI.2.1 s hs
    refine ⟨fun s a b => ?_, fun s a => ?_, fun k a => ?_, fun s' h' w' a b c d => ?_, fun s a => ?_, fun b a => ?_, ?_⟩
    · rw [up_ap, if_neg (by omega)] at b; rw [up_ap, if_neg (by omega)]; exact x1 s a b
    · rw [up_ap, if_neg (by omega), up_ap, if_neg (by omega)]; exact x2 s a
    · rw [up_ap]
      split
      · omega
      · exact x3 k a
    · rw [up_ap, if_neg (by omega), up_ap, if_neg (by omega), up_ap, if_neg (by omega)] at d
      rw [up_ap, if_neg (fun q => by
        have e1 : s' = s := by omega
        have e2 : h' = h.toNat := by omega
        have e3 : w' = w := by omega
        subst e1
        subst e3
        exact d ⟨hs, by omega, hw⟩)]
      exact x4 s' h' w' a b c d
    · rw [up_ap, if_neg (by omega)] at a; rw [up_ap, if_neg (by omega)]; exact x5 s a
    · rw [up_ap, if_neg (by omega)] at a; rw [up_ap, if_neg (by omega), up_ap, if_neg (by omega)]; exact x6 b a
    · rw [up_ap, if_neg (by omega)]; exact x7
  · unfold stLi
    refine al_knw hC (by decide) (fun s p2 hs hs6 => ?_)
    unfold kLi1
    split
    · exact al_l
    refine al_knw hC (by decide) (fun b p3 hb hb6 => ?_)
    unfold kLi2
    split
    · exact al_l
    refine al_r ?_
    obtain ⟨x1, x2, x3, x4, x5, x6, x7⟩ := hX
    refine ⟨fun s' a c => ?_, fun s' a => ?_, fun k a => ?_, fun s' h' w' a b c d => ?_, fun s a => ?_, fun b a => ?_, ?_⟩
    · rw [up_ap, if_neg (by omega)] at c
      rw [up_ap, if_neg (fun q => by
        have e1 : s' = s := q.2
        subst e1
        exact c hs)]
      exact x1 s' a c
    · rw [up_ap (q := 13), if_neg (by omega), up_ap]
      split
      · exact Or.inr ⟨by omega, hb⟩
      · exact x2 s' a
    · rw [up_ap, if_neg (by omega)]; exact x3 k a
    · rw [up_ap, if_neg (by omega), up_ap, if_neg (by omega), up_ap, if_neg (by omega)] at d
      rw [up_ap, if_neg (by omega)]; exact x4 s' h' w' a b c d
    · rw [up_ap, if_neg (by omega)] at a; rw [up_ap, if_neg (by omega)]; exact x5 s a
    · rw [up_ap, if_neg (by omega)] at a; rw [up_ap, if_neg (by omega), up_ap, if_neg (by omega)]; exact x6 b a
    · rw [up_ap, if_neg (by omega)]; exact x7
  · exact fo 0
  · exact fo 1
  · exact fo 2
  · exact fo 3
  · unfold stGa
    refine al_ndN (fun v p2 v0 v1 => al_r ?_)
    obtain ⟨x1, x2, x3, x4, x5, x6, x7⟩ := hX
    refine ⟨fun s a b => ?_, fun s a => ?_, fun k a => ?_, fun s' h' w' a b c d => ?_, fun s a => ?_, fun b a => ?_, ?_⟩
    · rw [up_ap, if_neg (by omega)] at b; rw [up_ap, if_neg (by omega)]; exact x1 s a b
    · rw [up_ap, if_neg (by omega), up_ap, if_neg (by omega)]; exact x2 s a
    · rw [up_ap, if_neg (by omega)]; exact x3 k a
    · rw [up_ap, if_neg (by omega), up_ap, if_neg (by omega), up_ap, if_neg (by omega)] at d
      rw [up_ap, if_neg (by omega)]; exact x4 s' h' w' a b c d
    · rw [up_ap, if_neg (by omega)] at a; rw [up_ap, if_neg (by omega)]; exact x5 s a
    · rw [up_ap, if_neg (by omega)] at a; rw [up_ap, if_neg (by omega), up_ap, if_neg (by omega)]; exact x6 b a
    · rw [up_ap, if_pos ⟨rfl, rfl⟩]; omega
  · exact al_l
end DXS
