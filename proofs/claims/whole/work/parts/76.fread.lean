/-! ===== the class: FormulaReader ===== -/
def pcat (c : List Int) (r : Res) : Res := match r with
  | .inl e => .inl e
  | .inr (p, c') => .inr (p, c ++ c')
theorem bnd_inr {p : Nat} {c : List Int} {g : Nat → Res} : bnd (.inr (p, c)) g = pcat c (g p) := rfl
theorem pre_bnd {c : List Int} {r : Res} {g : Nat → Res} : pcat c (bnd r g) = bnd (pcat c r) g := by
  rw [show pcat c (bnd r g) = bnd (.inr (0, c)) (fun _ => bnd r g) from rfl, ← bnd_assoc (r := .inr (0, c)) (g := fun _ => r)]
  rfl
theorem pre_emi {c : List Int} {r : Res} {x : Int} : pcat c (emi r x) = emi (pcat c r) x := by
  rw [show pcat c (emi r x) = bnd (.inr (0, c)) (fun _ => emi r x) from rfl, ← bnd_emi (r := .inr (0, c)) (g := fun _ => r)]
  rfl
theorem pre_nee {n : Nat} {B : Nat → Int} {c : List Int} {r : Res} {x : Int} : pcat c (nee n B r x) = nee n B (pcat c r) x := by
  rw [show pcat c (nee n B r x) = bnd (.inr (0, c)) (fun _ => nee n B r x) from rfl, ← bnd_nee (r := .inr (0, c)) (g := fun _ => r)]
  rfl
theorem pre_cmpr {n : Nat} {B : Nat → Int} {R : Nat → Nat → Nat → Res} {d : Nat} {c : List Int} {r : Res} : pcat c (cmpr n B R d r) = cmpr n B R d (pcat c r) := by
  rw [show pcat c (cmpr n B R d r) = bnd (.inr (0, c)) (fun _ => cmpr n B R d r) from rfl, ← bnd_cmpr (r := .inr (0, c)) (g := fun _ => r)]
  rfl
/-- the draft with the steps c written from k0 on -/
def stW (I0 : HI) (k0 : Nat) (c : List Int) : HI := fun q => if q = 17 then (fun k => if k0 ≤ k ∧ k < k0 + c.length then c.getD (k - k0) 0 else I0 17 k) else if q = 12 then (fun k => if k = 7 then ((k0 + c.length : Nat) : Int) else I0 12 k) else I0 q
def FA (I0 I' : HI) : Prop := (∀ q k, q ≠ 17 → ¬ (q = 12 ∧ k = 7) → I' q k = I0 q k) ∧ 0 ≤ I' 12 7 ∧ I' 12 7 ≤ 1600
theorem stW_2 {I0 : HI} {k0 : Nat} {c : List Int} : stW I0 k0 c 2 = I0 2 := rfl
theorem stW_TX {I0 : HI} {n k0 : Nat} {c : List Int} (h : TX I0 n) : TX (stW I0 k0 c) n := h
theorem stW_127 {I0 : HI} {k0 : Nat} {c : List Int} : stW I0 k0 c 12 7 = ((k0 + c.length : Nat) : Int) := rfl
theorem stW_em {I0 : HI} {k0 : Nat} {c : List Int} {x : Int} : up (up (stW I0 k0 c) 17 (k0 + c.length) x) 12 7 (((k0 + c.length : Nat) : Int) + 1) = stW I0 k0 (c ++ [x]) := by
  funext q k
  have e : (c ++ [x]).length = c.length + 1 := by rw [List.length_append, List.length_singleton]
  by_cases h17 : q = 17
  · subst h17
    show (if 17 = 12 ∧ k = 7 then _ else (if 17 = 17 ∧ k = k0 + c.length then x else (if k0 ≤ k ∧ k < k0 + c.length then c.getD (k - k0) 0 else I0 17 k))) = (if k0 ≤ k ∧ k < k0 + (c ++ [x]).length then (c ++ [x]).getD (k - k0) 0 else I0 17 k)
    rw [if_neg (by omega), e]
    by_cases h : k = k0 + c.length
    · rw [if_pos ⟨rfl, h⟩, if_pos (by omega)]
      subst h
      rw [show k0 + c.length - k0 = c.length by omega]
      simp
    · rw [if_neg (by omega)]
      by_cases h2 : k0 ≤ k ∧ k < k0 + c.length
      · rw [if_pos h2, if_pos (by omega)]
        rw [List.getD_eq_getElem?_getD, List.getD_eq_getElem?_getD, List.getElem?_append_left (by omega)]
      · rw [if_neg h2, if_neg (by omega)]
  · by_cases h12 : q = 12
    · subst h12
      show (if 12 = 12 ∧ k = 7 then ((k0 + c.length : Nat) : Int) + 1 else (if 12 = 17 ∧ k = k0 + c.length then x else (if k = 7 then ((k0 + c.length : Nat) : Int) else I0 12 k))) = (if k = 7 then ((k0 + (c ++ [x]).length : Nat) : Int) else I0 12 k)
      rw [e]
      by_cases h7 : k = 7
      · rw [if_pos ⟨rfl, h7⟩, if_pos h7]
        omega
      · rw [if_neg (by omega), if_neg (by omega), if_neg h7, if_neg h7]
    · unfold up stW
      simp only [h17, h12, false_and, if_false]
theorem stW_nil {I0 : HI} {k0 : Nat} (h : I0 12 7 = (k0 : Int)) : stW I0 k0 [] = I0 := by
  funext q k
  unfold stW
  by_cases h17 : q = 17
  · subst h17
    rw [if_pos rfl]
    exact if_neg (by rw [List.length_nil]; omega)
  · rw [if_neg h17]
    by_cases h12 : q = 12
    · subst h12
      rw [if_pos rfl]
      show (if k = 7 then ((k0 + 0 : Nat) : Int) else I0 12 k) = I0 12 k
      by_cases h7 : k = 7
      · rw [if_pos h7, h7, h]
        rfl
      · rw [if_neg h7]
    · rw [if_neg h12]
theorem FA_up {I0 I' : HI} {j : Nat} {x y : Int} (h : FA I0 I') (hy : 0 ≤ y ∧ y ≤ 1600) : FA I0 (up (up I' 17 j x) 12 7 y) := by
  refine ⟨fun q k h1 h2 => ?_, ?_⟩
  · rw [up_ap, if_neg h2, up_ap, if_neg (by omega)]
    exact h.1 q k h1 h2
  · rw [up_ap, if_pos ⟨rfl, rfl⟩]
    exact hy
theorem FA_st {I0 : HI} {k0 : Nat} {c : List Int} (h : k0 + c.length ≤ 1600) : FA I0 (stW I0 k0 c) := by
  refine ⟨fun q k h1 h2 => ?_, ?_⟩
  · unfold stW
    rw [if_neg h1]
    by_cases h12 : q = 12
    · subst h12
      rw [if_pos rfl]
      exact if_neg (by omega)
    · rw [if_neg h12]
  · rw [stW_127]
    omega
/-- how the reading stands: r -/
def RS (I0 : HI) (n k0 : Nat) (r : Res) (H : HI) : Prop := match r with
  | .inl e => ∃ I', FA I0 I' ∧ Lbad I' e.1 e.2 H
  | .inr (p, c) => ∃ ts tu, Lok (stW I0 k0 c) n p ts tu H
theorem Lbad_ne {I : HI} {k pl : Int} {H : HI} (h : Lbad I k pl H) : k ≠ 0 := by
  obtain ⟨_, _, _, _, _, _, _, _, h⟩ := h
  exact h
section FRW
variable {I0 H : HI} {n k0 : Nat} {r : Res} {Q : Option AV → HI → Prop}
theorem rsE {r' : Res} (h : r = r') (s : RS I0 n k0 r' H) : RS I0 n k0 r H := by
  rw [h]
  exact s
theorem rs_takeWord {p : Nat} {c : List Int} {w : Int} (hX : TX I0 n) (hw0 : 0 ≤ w) (hS : RS I0 n k0 (.inr (p, c)) H) (k1 : tw n (I0 2) p = w → ∀ H', Lok (stW I0 k0 c) n (te n (I0 2) p) (tq n (I0 2) p : Int) (tv n (I0 2) p) H' → Q (some (aI 1)) H') (kn : tw n (I0 2) p ≠ w → Q (some (aI 0)) H) : Rj MX1_takeWord 2 [aR 24, aI w] H Q := by
  obtain ⟨ts, tu, hL⟩ := hS
  exact sp_takeWord (stW_TX hX) hw0 hL (fun hw H' hL' => k1 hw H' hL') (fun hw => kn hw)
theorem rs_takeSign {p : Nat} {c : List Int} {s : Int} (hX : TX I0 n) (hS : RS I0 n k0 (.inr (p, c)) H) (k1 : sg n (I0 2) p s → ∀ H', Lok (stW I0 k0 c) n (te n (I0 2) p) (tq n (I0 2) p : Int) (tv n (I0 2) p) H' → Q (some (aI 1)) H') (kn : ¬ sg n (I0 2) p s → Q (some (aI 0)) H) : Rj MX1_takeSign 2 [aR 24, aI s] H Q := by
  obtain ⟨ts, tu, hL⟩ := hS
  exact sp_takeSign (stW_TX hX) hL (fun hw H' hL' => k1 hw H' hL') (fun hw => kn hw)
theorem rs_need {s : Int} (hX : TX I0 n) (hS : RS I0 n k0 r H) (hk : Ro k0 0 n r) (kq : ∀ H', RS I0 n k0 (nee n (I0 2) r s) H' → Q none H') : Rj MX1_needSign 2 [aR 24, aI s] H Q := by
  cases r with
  | inl e =>
    obtain ⟨I', h1, h2⟩ := hS
    exact sp_needSignB h2 (fun H' h' => kq H' ⟨I', h1, h'⟩)
  | inr y =>
    obtain ⟨p, c⟩ := y
    obtain ⟨ts, tu, hL⟩ := hS
    have hb := hk p c rfl
    have hn := hX.2.1
    refine sp_needSign (stW_TX hX) hL (fun hw H' hL' => kq H' ?_) (fun hw H' hL' => kq H' ?_)
    · rw [show nee n (I0 2) (.inr (p, c)) s = .inr (te n (I0 2) p, c) from if_pos hw]
      exact ⟨_, _, hL'⟩
    · rw [show nee n (I0 2) (.inr (p, c)) s = .inl (1, (tsp n (I0 2) p : Int)) from if_neg hw]
      exact ⟨_, FA_st (by omega), hL'⟩
theorem rs_needB {s k pl : Int} (hS : RS I0 n k0 (.inl (k, pl)) H) (kq : ∀ H', RS I0 n k0 (.inl (k, pl)) H' → Q none H') : Rj MX1_needSign 2 [aR 24, aI s] H Q := by
  obtain ⟨I', h1, h2⟩ := hS
  exact sp_needSignB h2 (fun H' h' => kq H' ⟨I', h1, h'⟩)
theorem rs_takeSignB {s k pl : Int} (hS : RS I0 n k0 (.inl (k, pl)) H) (kq : Q (some (aI 0)) H) : Rj MX1_takeSign 2 [aR 24, aI s] H Q := by
  obtain ⟨I', h1, h2⟩ := hS
  exact sp_takeSignB h2 kq
theorem rs_takeWordB {s k pl : Int} (hS : RS I0 n k0 (.inl (k, pl)) H) (kq : Q (some (aI 0)) H) : Rj MX1_takeWord 2 [aR 24, aI s] H Q := by
  obtain ⟨I', h1, h2⟩ := hS
  exact sp_takeWordB h2 kq
theorem rs_wrongB {k pl : Int} (hS : RS I0 n k0 (.inl (k, pl)) H) (kq : ∀ H', RS I0 n k0 (.inl (k, pl)) H' → Q none H') : Rj MX1_wrong 1 [aR 24] H Q := by
  obtain ⟨I', h1, h2⟩ := hS
  exact sp_wrongB h2 (fun H' h' => kq H' ⟨I', h1, h'⟩)
theorem rs_emit {x : Int} (hn : n ≤ 1600) (hS : RS I0 n k0 r H) (hk : Ro (k0 + 1) 0 n r) (kq : ∀ H', RS I0 n k0 (emi r x) H' → Q none H') : Rj MX3_emit 0 [aR 12, aI x] H Q := by
  refine rj_of okX3_emit (Nat.le_of_ble_eq_true rfl) rfl ?_
  cases r with
  | inl e =>
    obtain ⟨I', h1, po, st, sp, va, wo, ts, tu, h2, h3⟩ := hS
    have h4 := h1.2
    subst h2
    refine b_aload_n rfl rfl ?_
    refine b_getI rfl fl3_33 rfl (by decide) rfl ?_
    rw [LXc (by decide)]
    refine b_sipush rfl (by decide) ?_
    refine b_icmp_ge (tgt := 30) rfl rfl (fun c7 => ?_) (fun c7 => ?_)
    · refine b_vret rfl rfl ?_
      first
      | (have hc : I' 12 7 < 1600 := by omega
         exact kq _ ⟨_, FA_up h1 (by omega), _, _, _, _, _, _, _, rfl, h3⟩)
      | (have hc : ¬ I' 12 7 < 1600 := by omega
         exact kq _ ⟨_, h1, _, _, _, _, _, _, _, rfl, h3⟩)
    · refine b_aload_n rfl rfl ?_
      refine b_getR (r := 17) rfl fl3_24 rfl (by decide) rfl rfl ?_
      refine b_aload_n rfl rfl ?_
      refine b_getI rfl fl3_33 rfl (by decide) rfl ?_
      rw [LXc (by decide)]
      refine b_iload_n rfl rfl ?_
      refine b_iast rfl rfl (by omega) (by omega) ?_
      rw [LX_ux (by decide)]
      refine b_aload_n rfl rfl ?_
      refine b_dup rfl rfl ?_
      refine b_getI rfl fl3_33 rfl (by decide) rfl ?_
      rw [LXc (by decide)]
      rw [show up I' 17 (I' 12 7).toNat x 12 7 = I' 12 7 from rfl]
      refine b_iconst rfl (by decide) ?_
      refine b_iaddN rfl (by omega) (by omega) ?_
      refine b_putI rfl fl3_33 rfl (by decide) rfl ?_
      rw [LX_ux (by decide)]
      refine b_vret rfl rfl ?_
      first
      | (have hc : I' 12 7 < 1600 := by omega
         exact kq _ ⟨_, FA_up h1 (by omega), _, _, _, _, _, _, _, rfl, h3⟩)
      | (have hc : ¬ I' 12 7 < 1600 := by omega
         exact kq _ ⟨_, h1, _, _, _, _, _, _, _, rfl, h3⟩)
  | inr y =>
    obtain ⟨p, c⟩ := y
    have hb := hk p c rfl
    obtain ⟨ts, tu, po, va, e, h⟩ := hS
    subst e
    have e7 := stW_127 (I0 := I0) (k0 := k0) (c := c)
    refine b_aload_n rfl rfl ?_
    refine b_getI rfl fl3_33 rfl (by decide) rfl ?_
    rw [LXc (by decide)]
    refine b_sipush rfl (by decide) ?_
    refine b_icmp_ge (tgt := 30) rfl rfl (fun c7 => ?_) (fun c7 => ?_)
    · omega
    · refine b_aload_n rfl rfl ?_
      refine b_getR (r := 17) rfl fl3_24 rfl (by decide) rfl rfl ?_
      refine b_aload_n rfl rfl ?_
      refine b_getI rfl fl3_33 rfl (by decide) rfl ?_
      rw [LXc (by decide)]
      refine b_iload_n rfl rfl ?_
      refine b_iast rfl rfl (by omega) (by omega) ?_
      rw [LX_ux (by decide)]
      refine b_aload_n rfl rfl ?_
      refine b_dup rfl rfl ?_
      refine b_getI rfl fl3_33 rfl (by decide) rfl ?_
      rw [LXc (by decide)]
      rw [show up (stW I0 k0 c) 17 (stW I0 k0 c 12 7).toNat x 12 7 = stW I0 k0 c 12 7 from rfl]
      refine b_iconst rfl (by decide) ?_
      refine b_iaddN rfl (by omega) (by omega) ?_
      refine b_putI rfl fl3_33 rfl (by decide) rfl ?_
      rw [LX_ux (by decide)]
      refine b_vret rfl rfl ?_
      refine kq _ ⟨ts, tu, po, va, ?_, h⟩
      rw [← stW_em]
      rfl
theorem rs_emitB {x k pl : Int} (hn : n ≤ 1600) (hS : RS I0 n k0 (.inl (k, pl)) H) (kq : ∀ H', RS I0 n k0 (.inl (k, pl)) H' → Q none H') : Rj MX3_emit 0 [aR 12, aI x] H Q := rs_emit hn hS ro_inl kq
theorem rs_opens {p dp : Nat} {c : List Int} {ts tu : Int} (hc : k0 + c.length ≤ 1600) (hL : Lok (stW I0 k0 c) n p ts tu H) (k1 : dp < 7 → Q (some (aI 1)) H) (kn : ¬ dp < 7 → ∀ H', RS I0 n k0 (.inl (5, ts)) H' → Q (some (aI 0)) H') : Rj MX0_opens 1 [aR 26, aI (dp : Int)] H Q := by
  refine rj_of okX0_opens (Nat.le_of_ble_eq_true rfl) rfl ?_
  have hL' := hL
  obtain ⟨po, va, e, h⟩ := hL
  subst e
  refine b_iload_n rfl rfl ?_
  refine b_bipush rfl (by decide) ?_
  refine b_icmp_ge (tgt := 10) rfl rfl (fun c3 => ?_) (fun c3 => ?_)
  · refine b_iconst rfl (by decide) ?_
    refine b_istoreX_n (F := fun z11 => [some (aR 26), some (aI (dp : Int)), some (aI z11)]) rfl (by decide) (fun _ => rfl) (fun z11 ez11 => ?_)
    refine b_iload_n rfl rfl ?_
    refine b_if_ne (tgt := 31) rfl rfl (fun c13 => ?_) (fun c13 => ?_)
    · refine b_iload_n rfl rfl ?_
      refine b_zret rfl rfl (by first | decide | omega) ?_
      first
      | (exfalso; omega)
      | (have hz : dp < 7 := by omega
         exact qI (k1 hz) (by omega) rfl)
      | (have hz : ¬ dp < 7 := by omega
         exact qI (kn hz _ ⟨_, FA_st hc, hH'⟩) (by omega) rfl)
    · refine b_aload_n rfl rfl ?_
      refine b_getR (r := 24) rfl fl0_9 rfl (by decide) rfl rfl ?_
      refine b_iconst rfl (by decide) ?_
      refine b_aload_n rfl rfl ?_
      refine b_getR (r := 24) rfl fl0_9 rfl (by decide) rfl rfl ?_
      refine b_getI rfl fl0_61 rfl (by decide) rfl ?_
      rw [LX_8]
      refine b_callV2v (ν := MX1_fail) rfl ml0_31 cvX1_fail (d' := 0) (by omega) rfl (by decide) rfl (Nat.le_of_ble_eq_true rfl) ?_
      refine sp_fail (by decide) hL' (fun H' hH' => ?_)
      refine ⟨rfl, ?_⟩
      refine b_iload_n rfl rfl ?_
      refine b_zret rfl rfl (by first | decide | omega) ?_
      first
      | (exfalso; omega)
      | (have hz : dp < 7 := by omega
         exact qI (k1 hz) (by omega) rfl)
      | (have hz : ¬ dp < 7 := by omega
         exact qI (kn hz _ ⟨_, FA_st hc, hH'⟩) (by omega) rfl)
  · refine b_iconst rfl (by decide) ?_
    refine b_goto (tgt := 11) rfl rfl ?_
    refine b_istoreX_n (F := fun z11 => [some (aR 26), some (aI (dp : Int)), some (aI z11)]) rfl (by decide) (fun _ => rfl) (fun z11 ez11 => ?_)
    refine b_iload_n rfl rfl ?_
    refine b_if_ne (tgt := 31) rfl rfl (fun c13 => ?_) (fun c13 => ?_)
    · refine b_iload_n rfl rfl ?_
      refine b_zret rfl rfl (by first | decide | omega) ?_
      first
      | (exfalso; omega)
      | (have hz : dp < 7 := by omega
         exact qI (k1 hz) (by omega) rfl)
      | (have hz : ¬ dp < 7 := by omega
         exact qI (kn hz _ ⟨_, FA_st hc, hH'⟩) (by omega) rfl)
    · refine b_aload_n rfl rfl ?_
      refine b_getR (r := 24) rfl fl0_9 rfl (by decide) rfl rfl ?_
      refine b_iconst rfl (by decide) ?_
      refine b_aload_n rfl rfl ?_
      refine b_getR (r := 24) rfl fl0_9 rfl (by decide) rfl rfl ?_
      refine b_getI rfl fl0_61 rfl (by decide) rfl ?_
      rw [LX_8]
      refine b_callV2v (ν := MX1_fail) rfl ml0_31 cvX1_fail (d' := 0) (by omega) rfl (by decide) rfl (Nat.le_of_ble_eq_true rfl) ?_
      refine sp_fail (by decide) hL' (fun H' hH' => ?_)
      refine ⟨rfl, ?_⟩
      refine b_iload_n rfl rfl ?_
      refine b_zret rfl rfl (by first | decide | omega) ?_
      first
      | (exfalso; omega)
      | (have hz : dp < 7 := by omega
         exact qI (k1 hz) (by omega) rfl)
      | (have hz : ¬ dp < 7 := by omega
         exact qI (kn hz _ ⟨_, FA_st hc, hH'⟩) (by omega) rfl)
end FRW
