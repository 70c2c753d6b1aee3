/-! ===== the class: a statement; what a statement leaves as it was ===== -/
section TRH
variable {I H : HI} {Q : Option AV → HI → Prop} {n p : Nat} {ts tu : Int}
theorem sp_X10_readStatement (hX : TX I n) (hI : DI I p) (hp : p ≤ n) (hL : Lok I n p ts tu H) (kq : ∀ H', SO n I (St n I p) H' → Q none H') : Rj MX10_readStatement 81 [aR 11] H Q := by
  have hn := hX.2.1
  have p16 : p ≤ 1600 := by omega
  refine rj_of okX10_readStatement (Nat.le_of_ble_eq_true rfl) rfl ?_
  have hL' := hL
  obtain ⟨po, va, e, h⟩ := hL
  subst e
  have h1 : ∀ w : Int, 0 ≤ w → tw n (I 2) p = w → tk n (I 2) p = 1 := fun w h0 h => tw_1 h h0
  refine b_aload_n rfl rfl ?_
  refine b_getR (r := 24) rfl fl10_30 rfl (by decide) rfl rfl ?_
  refine b_getI rfl fl10_74 rfl (by decide) rfl ?_
  rw [LX_7]
  by_cases s7_0 : (tw n (I 2) p) = 0
  · refine b_tswIn (tgt := 84) rfl (by omega) (by omega) (by rw [s7_0]; rfl) rfl ?_
    refine b_aload_n rfl rfl ?_
    refine b_iconst rfl (by decide) ?_
    refine b_callV1v (ν := MX10_readThing) rfl ml10_77 cvX10_readThing (d' := 3) (by omega) rfl (by decide) rfl (Nat.le_of_ble_eq_true rfl) ?_
    refine sp_X10_readThing (kk := 0) hX hI hp (by decide) (h1 0 (by decide) (by assumption)) hL' (fun H2 s2 => ?_)
    refine ⟨rfl, ?_⟩
    refine b_goto (tgt := 180) rfl rfl ?_
    refine b_vret rfl rfl ?_
    first
    | (refine kq _ (SO_e ?_ s2)
       unfold St
       repeat (first | rw [if_pos (by omega)] | rw [if_neg (by omega)]))
    | (refine kq _ (SO_l (e1 := 1) (e2 := (tsp n (I 2) p : Int)) ?_ (fbd_of hI p16 hb))
       unfold St
       repeat (first | rw [if_pos (by omega)] | rw [if_neg (by omega)]))
  by_cases s7_3 : (tw n (I 2) p) = 3
  · refine b_tswIn (tgt := 92) rfl (by omega) (by omega) (by rw [s7_3]; rfl) rfl ?_
    refine b_aload_n rfl rfl ?_
    refine b_iconst rfl (by decide) ?_
    refine b_callV1v (ν := MX10_readThing) rfl ml10_77 cvX10_readThing (d' := 3) (by omega) rfl (by decide) rfl (Nat.le_of_ble_eq_true rfl) ?_
    refine sp_X10_readThing (kk := 1) hX hI hp (by decide) (h1 3 (by decide) (by assumption)) hL' (fun H2 s2 => ?_)
    refine ⟨rfl, ?_⟩
    refine b_goto (tgt := 180) rfl rfl ?_
    refine b_vret rfl rfl ?_
    first
    | (refine kq _ (SO_e ?_ s2)
       unfold St
       repeat (first | rw [if_pos (by omega)] | rw [if_neg (by omega)]))
    | (refine kq _ (SO_l (e1 := 1) (e2 := (tsp n (I 2) p : Int)) ?_ (fbd_of hI p16 hb))
       unfold St
       repeat (first | rw [if_pos (by omega)] | rw [if_neg (by omega)]))
  by_cases s7_6 : (tw n (I 2) p) = 6
  · refine b_tswIn (tgt := 108) rfl (by omega) (by omega) (by rw [s7_6]; rfl) rfl ?_
    refine b_aload_n rfl rfl ?_
    refine b_callV0v (ν := MX10_readLoads) rfl ml10_80 cvX10_readLoads (d' := 4) (by omega) rfl (by decide) rfl (Nat.le_of_ble_eq_true rfl) ?_
    refine sp_X10_readLoads hX hI hp (h1 6 (by decide) (by assumption)) hL' (fun H2 s2 => ?_)
    refine ⟨rfl, ?_⟩
    refine b_goto (tgt := 180) rfl rfl ?_
    refine b_vret rfl rfl ?_
    first
    | (refine kq _ (SO_e ?_ s2)
       unfold St
       repeat (first | rw [if_pos (by omega)] | rw [if_neg (by omega)]))
    | (refine kq _ (SO_l (e1 := 1) (e2 := (tsp n (I 2) p : Int)) ?_ (fbd_of hI p16 hb))
       unfold St
       repeat (first | rw [if_pos (by omega)] | rw [if_neg (by omega)]))
  by_cases s7_7 : (tw n (I 2) p) = 7
  · refine b_tswIn (tgt := 100) rfl (by omega) (by omega) (by rw [s7_7]; rfl) rfl ?_
    refine b_aload_n rfl rfl ?_
    refine b_iconst rfl (by decide) ?_
    refine b_callV1v (ν := MX10_readThing) rfl ml10_77 cvX10_readThing (d' := 3) (by omega) rfl (by decide) rfl (Nat.le_of_ble_eq_true rfl) ?_
    refine sp_X10_readThing (kk := 2) hX hI hp (by decide) (h1 7 (by decide) (by assumption)) hL' (fun H2 s2 => ?_)
    refine ⟨rfl, ?_⟩
    refine b_goto (tgt := 180) rfl rfl ?_
    refine b_vret rfl rfl ?_
    first
    | (refine kq _ (SO_e ?_ s2)
       unfold St
       repeat (first | rw [if_pos (by omega)] | rw [if_neg (by omega)]))
    | (refine kq _ (SO_l (e1 := 1) (e2 := (tsp n (I 2) p : Int)) ?_ (fbd_of hI p16 hb))
       unfold St
       repeat (first | rw [if_pos (by omega)] | rw [if_neg (by omega)]))
  by_cases s7_10 : (tw n (I 2) p) = 10
  · refine b_tswIn (tgt := 115) rfl (by omega) (by omega) (by rw [s7_10]; rfl) rfl ?_
    refine b_aload_n rfl rfl ?_
    refine b_callV0v (ν := MX10_readLies) rfl ml10_83 cvX10_readLies (d' := 4) (by omega) rfl (by decide) rfl (Nat.le_of_ble_eq_true rfl) ?_
    refine sp_X10_readLies hX hI hp (h1 10 (by decide) (by assumption)) hL' (fun H2 s2 => ?_)
    refine ⟨rfl, ?_⟩
    refine b_goto (tgt := 180) rfl rfl ?_
    refine b_vret rfl rfl ?_
    first
    | (refine kq _ (SO_e ?_ s2)
       unfold St
       repeat (first | rw [if_pos (by omega)] | rw [if_neg (by omega)]))
    | (refine kq _ (SO_l (e1 := 1) (e2 := (tsp n (I 2) p : Int)) ?_ (fbd_of hI p16 hb))
       unfold St
       repeat (first | rw [if_pos (by omega)] | rw [if_neg (by omega)]))
  by_cases s7_11 : (tw n (I 2) p) = 11
  · refine b_tswIn (tgt := 122) rfl (by omega) (by omega) (by rw [s7_11]; rfl) rfl ?_
    refine b_aload_n rfl rfl ?_
    refine b_getR (r := 26) rfl fl10_39 rfl (by decide) rfl rfl ?_
    refine b_iconst rfl (by decide) ?_
    refine b_callV1v (ν := MX0_read) rfl ml10_86 cvX0_read (d' := 80) (by omega) rfl (by decide) rfl (Nat.le_of_ble_eq_true rfl) ?_
    refine sp_X0_read (f := 0) hX hI hp (by decide) (h1 11 (by decide) (by assumption)) hL' (fun H2 s2 => ?_)
    refine ⟨rfl, ?_⟩
    refine b_goto (tgt := 180) rfl rfl ?_
    refine b_vret rfl rfl ?_
    first
    | (refine kq _ (SO_e ?_ s2)
       unfold St
       repeat (first | rw [if_pos (by omega)] | rw [if_neg (by omega)]))
    | (refine kq _ (SO_l (e1 := 1) (e2 := (tsp n (I 2) p : Int)) ?_ (fbd_of hI p16 hb))
       unfold St
       repeat (first | rw [if_pos (by omega)] | rw [if_neg (by omega)]))
  by_cases s7_12 : (tw n (I 2) p) = 12
  · refine b_tswIn (tgt := 133) rfl (by omega) (by omega) (by rw [s7_12]; rfl) rfl ?_
    refine b_aload_n rfl rfl ?_
    refine b_getR (r := 26) rfl fl10_39 rfl (by decide) rfl rfl ?_
    refine b_iconst rfl (by decide) ?_
    refine b_callV1v (ν := MX0_read) rfl ml10_86 cvX0_read (d' := 80) (by omega) rfl (by decide) rfl (Nat.le_of_ble_eq_true rfl) ?_
    refine sp_X0_read (f := 1) hX hI hp (by decide) (h1 12 (by decide) (by assumption)) hL' (fun H2 s2 => ?_)
    refine ⟨rfl, ?_⟩
    refine b_goto (tgt := 180) rfl rfl ?_
    refine b_vret rfl rfl ?_
    first
    | (refine kq _ (SO_e ?_ s2)
       unfold St
       repeat (first | rw [if_pos (by omega)] | rw [if_neg (by omega)]))
    | (refine kq _ (SO_l (e1 := 1) (e2 := (tsp n (I 2) p : Int)) ?_ (fbd_of hI p16 hb))
       unfold St
       repeat (first | rw [if_pos (by omega)] | rw [if_neg (by omega)]))
  by_cases s7_13 : (tw n (I 2) p) = 13
  · refine b_tswIn (tgt := 144) rfl (by omega) (by omega) (by rw [s7_13]; rfl) rfl ?_
    refine b_aload_n rfl rfl ?_
    refine b_getR (r := 26) rfl fl10_39 rfl (by decide) rfl rfl ?_
    refine b_iconst rfl (by decide) ?_
    refine b_callV1v (ν := MX0_read) rfl ml10_86 cvX0_read (d' := 80) (by omega) rfl (by decide) rfl (Nat.le_of_ble_eq_true rfl) ?_
    refine sp_X0_read (f := 2) hX hI hp (by decide) (h1 13 (by decide) (by assumption)) hL' (fun H2 s2 => ?_)
    refine ⟨rfl, ?_⟩
    refine b_goto (tgt := 180) rfl rfl ?_
    refine b_vret rfl rfl ?_
    first
    | (refine kq _ (SO_e ?_ s2)
       unfold St
       repeat (first | rw [if_pos (by omega)] | rw [if_neg (by omega)]))
    | (refine kq _ (SO_l (e1 := 1) (e2 := (tsp n (I 2) p : Int)) ?_ (fbd_of hI p16 hb))
       unfold St
       repeat (first | rw [if_pos (by omega)] | rw [if_neg (by omega)]))
  by_cases s7_14 : (tw n (I 2) p) = 14
  · refine b_tswIn (tgt := 155) rfl (by omega) (by omega) (by rw [s7_14]; rfl) rfl ?_
    refine b_aload_n rfl rfl ?_
    refine b_getR (r := 26) rfl fl10_39 rfl (by decide) rfl rfl ?_
    refine b_iconst rfl (by decide) ?_
    refine b_callV1v (ν := MX0_read) rfl ml10_86 cvX0_read (d' := 80) (by omega) rfl (by decide) rfl (Nat.le_of_ble_eq_true rfl) ?_
    refine sp_X0_read (f := 3) hX hI hp (by decide) (h1 14 (by decide) (by assumption)) hL' (fun H2 s2 => ?_)
    refine ⟨rfl, ?_⟩
    refine b_goto (tgt := 180) rfl rfl ?_
    refine b_vret rfl rfl ?_
    first
    | (refine kq _ (SO_e ?_ s2)
       unfold St
       repeat (first | rw [if_pos (by omega)] | rw [if_neg (by omega)]))
    | (refine kq _ (SO_l (e1 := 1) (e2 := (tsp n (I 2) p : Int)) ?_ (fbd_of hI p16 hb))
       unfold St
       repeat (first | rw [if_pos (by omega)] | rw [if_neg (by omega)]))
  by_cases s7_15 : (tw n (I 2) p) = 15
  · refine b_tswIn (tgt := 166) rfl (by omega) (by omega) (by rw [s7_15]; rfl) rfl ?_
    refine b_aload_n rfl rfl ?_
    refine b_callV0v (ν := MX10_readGale) rfl ml10_89 cvX10_readGale (d' := 3) (by omega) rfl (by decide) rfl (Nat.le_of_ble_eq_true rfl) ?_
    refine sp_X10_readGale hX hI hp (h1 15 (by decide) (by assumption)) hL' (fun H2 s2 => ?_)
    refine ⟨rfl, ?_⟩
    refine b_goto (tgt := 180) rfl rfl ?_
    refine b_vret rfl rfl ?_
    first
    | (refine kq _ (SO_e ?_ s2)
       unfold St
       repeat (first | rw [if_pos (by omega)] | rw [if_neg (by omega)]))
    | (refine kq _ (SO_l (e1 := 1) (e2 := (tsp n (I 2) p : Int)) ?_ (fbd_of hI p16 hb))
       unfold St
       repeat (first | rw [if_pos (by omega)] | rw [if_neg (by omega)]))
  have hv : tw n (I 2) p = 1 ∨ tw n (I 2) p = 2 ∨ tw n (I 2) p = 4 ∨ tw n (I 2) p = 5 ∨ tw n (I 2) p = 8 ∨ tw n (I 2) p = 9 ∨ (tw n (I 2) p < 0 ∨ 15 < tw n (I 2) p) := by omega
  suffices dd : Bj MX10_readStatement 81 173 [some (aR 11)] [] (LX I po (tk n (I 2) p : Int) (tq n (I 2) p : Int) (tsp n (I 2) p : Int) va (tw n (I 2) p) ts tu 0 (-1)) Q by
    rcases hv with q | q | q | q | q | q | q
    · exact b_tswIn (tgt := 173) rfl (by omega) (by omega) (by rw [q]; rfl) rfl dd
    · exact b_tswIn (tgt := 173) rfl (by omega) (by omega) (by rw [q]; rfl) rfl dd
    · exact b_tswIn (tgt := 173) rfl (by omega) (by omega) (by rw [q]; rfl) rfl dd
    · exact b_tswIn (tgt := 173) rfl (by omega) (by omega) (by rw [q]; rfl) rfl dd
    · exact b_tswIn (tgt := 173) rfl (by omega) (by omega) (by rw [q]; rfl) rfl dd
    · exact b_tswIn (tgt := 173) rfl (by omega) (by omega) (by rw [q]; rfl) rfl dd
    · exact b_tswOut rfl q rfl dd
  refine b_aload_n rfl rfl ?_
  refine b_getR (r := 24) rfl fl10_30 rfl (by decide) rfl rfl ?_
  refine b_callV0v (ν := MX1_wrong) rfl ml10_92 cvX1_wrong (d' := 1) (by omega) rfl (by decide) rfl (Nat.le_of_ble_eq_true rfl) ?_
  refine sp_wrong hL' (fun H2 hb => ?_)
  refine ⟨rfl, ?_⟩
  refine b_vret rfl rfl ?_
  first
  | (refine kq _ (SO_e ?_ s2)
     unfold St
     repeat (first | rw [if_pos (by omega)] | rw [if_neg (by omega)]))
  | (refine kq _ (SO_l (e1 := 1) (e2 := (tsp n (I 2) p : Int)) ?_ (fbd_of hI p16 hb))
     unfold St
     repeat (first | rw [if_pos (by omega)] | rw [if_neg (by omega)]))
/-- what a good statement leaves -/
def GS (n : Nat) (I : HI) (p : Nat) (r : SRt) : Prop := ∀ I' p', r = .inr (I', p') → (∀ q k, ¬ (12 ≤ q ∧ q ≤ 22) → ¬ (q = 26 ∧ k = 2) → I' q k = I q k) ∧ DI I' p' ∧ p < p' ∧ p' ≤ n ∧ I' 12 9 = I 12 9
theorem gs_l {e : Int × Int} : GS n I p (.inl e) := fun _ _ h => by cases h
theorem gs_ndW {B : Nat → Int} {w : Int} {q0 : Nat} {κ : Nat → SRt} (hw : 0 ≤ w) (h : ∀ q, q0 < q → q ≤ n → GS n I p (κ q)) : GS n I p (ndW n B q0 w κ) := by
  unfold ndW
  split
  · rename_i e
    have ht := te_gp (tw_c hw e)
    exact h _ (by omega) ht.2
  · exact gs_l
theorem gs_ndN {B : Nat → Int} {a b : Int} {q0 : Nat} {κ : Int → Nat → SRt} (h : ∀ v q, a ≤ v → v ≤ b → q0 < q → q ≤ n → GS n I p (κ v q)) : GS n I p (ndN n B q0 a b κ) := by
  unfold ndN
  split
  · rename_i e
    have ht := te_gp (Or.inr (Or.inl e) : tk n B q0 = 1 ∨ tk n B q0 = 2 ∨ tk n B q0 = 3)
    split
    · rename_i e2
      exact h _ _ e2.1 e2.2 (by omega) ht.2
    · exact gs_l
  · exact gs_l
theorem gs_ndM {B : Nat → Int} {q0 : Nat} {κ : Int → Nat → SRt} (h : ∀ v q, q0 < q → q ≤ n → GS n I p (κ v q)) : GS n I p (ndM n B q0 κ) := by
  unfold ndM
  split
  · rename_i e
    have ht := te_gp (Or.inl e.1 : tk n B q0 = 1 ∨ tk n B q0 = 2 ∨ tk n B q0 = 3)
    exact h _ _ (by omega) ht.2
  · exact gs_l
theorem gs_knw {J : HI} {k q0 : Nat} {κ : Nat → Nat → SRt} (hC : cOK J 13) (hk : k < 3) (h : ∀ s q : Nat, (s : Int) < J 13 k → s < 6 → q0 < q → q ≤ n → GS n I p (κ s q)) : GS n I p (knw n J k q0 κ) := by
  unfold knw
  refine gs_ndM (fun v q h1 h2 => ?_)
  split
  · exact gs_l
  · rename_i e
    have hf := fin_nat hC hk e
    exact h _ _ hf.2.1 hf.2.2 h1 h2
theorem stl_r {k : Nat} (hk : k < 3) : (0 ≤ stl_ 1 k ∧ (k = 1 → 2 ≤ stl_ 1 k) ∧ (k = 0 → stl_ 2 k = 99) ∧ (k = 1 → stl_ 2 k = 4) ∧ (k = 0 → stl_ 4 k = 99)) ∧ 0 ≤ stl_ 0 k ∧ 0 ≤ stl_ 3 k := by
  match k, hk with
  | 0, _ => decide
  | 1, _ => decide
  | 2, _ => decide
theorem thI_ap {k : Nat} {v a b : Int} {q j : Nat} : thI I k v a b q j = if q = 13 ∧ j = k then I 13 k + 1 else if q = 16 ∧ j = 6 * k + (I 13 k).toNat then b else if q = 15 ∧ j = 6 * k + (I 13 k).toNat then a else if q = 14 ∧ j = 6 * k + (I 13 k).toNat then v else I q j := by
  unfold thI
  rw [up_ap, up_ap, up_ap, up_ap]
theorem gs_thI {k : Nat} {v a b : Int} {q : Nat} (hI : DI I p) (hk : k < 3) (h6 : I 13 k < 6) (ha : stl_ 1 k ≤ a ∧ a ≤ stl_ 2 k) (hb : 0 ≤ b ∧ b ≤ stl_ 4 k) (hq : p < q) (hqn : q ≤ n) : GS n I p (.inr (thI I k v a b, q)) := by
  intro I' p' e
  cases e
  have hc := hI.1 k hk
  have hs := (stl_r hk).1
  refine ⟨fun q j h1 h2 => ?_, ⟨fun j hj => ?_, fun s hs2 => ?_, ?_, ?_, fun w hw => ?_⟩, hq, hqn, ?_⟩
  · rw [thI_ap, if_neg (by omega), if_neg (by omega), if_neg (by omega), if_neg (by omega)]
  · have hcj := hI.1 j hj
    rw [thI_ap]
    by_cases e : j = k
    · subst e
      rw [if_pos ⟨rfl, rfl⟩]
      omega
    · rw [if_neg (by omega), if_neg (by omega), if_neg (by omega), if_neg (by omega)]
      exact hcj
  · rw [thI_ap] at hs2
    rw [thI_ap, if_neg (by omega), if_neg (by omega)]
    by_cases e : (15 : Nat) = 15 ∧ 6 + s = 6 * k + (I 13 k).toNat
    · rw [if_pos e]
      by_cases e1 : k = 1
      · have h2 := hs.2.1 e1
        have h3 := hs.2.2.2.1 e1
        omega
      · exfalso
        by_cases e0 : k = 0
        · subst e0
          rw [if_neg (by omega), if_neg (by omega), if_neg (by omega), if_neg (by omega)] at hs2
          have := hI.1 1 (by decide)
          omega
        · rw [if_neg (by omega), if_neg (by omega), if_neg (by omega), if_neg (by omega)] at hs2
          have := hI.1 1 (by decide)
          omega
    · rw [if_neg e, if_neg (by omega)]
      refine hI.2.1 s ?_
      by_cases e1 : k = 1
      · subst e1
        rw [if_pos ⟨rfl, rfl⟩] at hs2
        omega
      · rw [if_neg (by omega), if_neg (by omega), if_neg (by omega), if_neg (by omega)] at hs2
        exact hs2
  · rw [thI_ap, if_neg (by omega), if_neg (by omega), if_neg (by omega), if_neg (by omega)]
    exact hI.2.2.1
  · rw [thI_ap, if_neg (by omega), if_neg (by omega), if_neg (by omega), if_neg (by omega)]
    have := hI.2.2.2.1
    omega
  · have hw2 := hI.2.2.2.2 w hw
    have e15 : thI I k v a b 15 w = if w = 6 * k + (I 13 k).toNat then a else I 15 w := by
      rw [thI_ap, if_neg (by omega), if_neg (by omega)]
      by_cases e : w = 6 * k + (I 13 k).toNat
      · rw [if_pos ⟨rfl, e⟩, if_pos e]
      · rw [if_neg (by omega), if_neg (by omega), if_neg e]
    have e16 : thI I k v a b 16 w = if w = 6 * k + (I 13 k).toNat then b else I 16 w := by
      rw [thI_ap, if_neg (by omega)]
      by_cases e : w = 6 * k + (I 13 k).toNat
      · rw [if_pos ⟨rfl, e⟩, if_pos e]
      · rw [if_neg (by omega), if_neg (by omega), if_neg (by omega), if_neg e]
    rw [e15, e16]
    by_cases e : w = 6 * k + (I 13 k).toNat
    · have e0 : k = 0 := by omega
      have h3 := hs.2.2.1 e0
      have h4 := hs.2.2.2.2 e0
      rw [if_pos e, if_pos e]
      omega
    · rw [if_neg e, if_neg e]
      exact hw2
  · rw [thI_ap, if_neg (by omega), if_neg (by omega), if_neg (by omega), if_neg (by omega)]
theorem gs_Th {k : Nat} (hI : DI I p) (hk : k < 3) (hw : tk n (I 2) p = 1) : GS n I p (stTh n I k p) := by
  have ht := te_gp (Or.inl hw : tk n (I 2) p = 1 ∨ tk n (I 2) p = 2 ∨ tk n (I 2) p = 3)
  have hs := stl_r hk
  unfold stTh
  split
  · exact gs_l
  · rename_i h6
    refine gs_ndM (fun v p2 h1 h2 => ?_)
    unfold kTh0
    split
    · exact gs_l
    · refine gs_ndW hs.2.1 (fun p3 h3 h4 => gs_ndN (fun a p4 ha1 ha2 h5 h7 => gs_ndW hs.2.2 (fun p5 h8 h9 => gs_ndN (fun b p6 hb1 hb2 h10 h11 => ?_))))
      exact gs_thI hI hk (by omega) ⟨ha1, ha2⟩ ⟨by have := hs.1.1; split at hb1 <;> omega, hb2⟩ (by omega) h11
theorem gs_Lo (hI : DI I p) (hw : tk n (I 2) p = 1) : GS n I p (stLo n I p) := by
  have ht := te_gp (Or.inl hw : tk n (I 2) p = 1 ∨ tk n (I 2) p = 2 ∨ tk n (I 2) p = 3)
  unfold stLo
  refine gs_knw hI.1 (by decide) (fun s p2 hs hs6 h1 h2 => gs_ndN (fun h p3 h0 h4 h5 h6 => gs_knw hI.1 (by decide) (fun w p4 hw hw6 h7 h8 => gs_ndN (fun m p5 hm0 hm1 h9 h10 => ?_))))
  intro I' p' e
  cases e
  refine ⟨fun q j h1 h2 => by rw [up_ap, if_neg (by omega)], ⟨fun j hj => ?_, fun s hs2 => ?_, ?_, ?_, fun w hw => ?_⟩, by omega, h10, ?_⟩
  · rw [up_ap, if_neg (by omega)]; exact hI.1 j hj
  · rw [up_ap, if_neg (by omega)] at hs2
    rw [up_ap, if_neg (by omega)]; exact hI.2.1 s hs2
  · rw [up_ap, if_neg (by omega)]; exact hI.2.2.1
  · rw [up_ap, if_neg (by omega)]; have := hI.2.2.2.1; omega
  · rw [up_ap, if_neg (by omega), up_ap, if_neg (by omega)]; exact hI.2.2.2.2 w hw
  · rw [up_ap, if_neg (by omega)]
theorem gs_Li (hI : DI I p) (hw : tk n (I 2) p = 1) : GS n I p (stLi n I p) := by
  have ht := te_gp (Or.inl hw : tk n (I 2) p = 1 ∨ tk n (I 2) p = 2 ∨ tk n (I 2) p = 3)
  unfold stLi
  refine gs_knw hI.1 (by decide) (fun s p2 hs hs6 h1 h2 => ?_)
  unfold kLi1
  split
  · exact gs_l
  refine gs_knw hI.1 (by decide) (fun b p3 hb hb6 h3 h4 => ?_)
  unfold kLi2
  split
  · exact gs_l
  intro I' p' e
  cases e
  refine ⟨fun q j h1 h2 => by rw [up_ap, if_neg (by omega)], ⟨fun j hj => ?_, fun s hs2 => ?_, ?_, ?_, fun w hw => ?_⟩, by omega, h4, ?_⟩
  · rw [up_ap, if_neg (by omega)]; exact hI.1 j hj
  · rw [up_ap, if_neg (by omega)] at hs2
    rw [up_ap, if_neg (by omega)]; exact hI.2.1 s hs2
  · rw [up_ap, if_neg (by omega)]; exact hI.2.2.1
  · rw [up_ap, if_neg (by omega)]; have := hI.2.2.2.1; omega
  · rw [up_ap, if_neg (by omega), up_ap, if_neg (by omega)]; exact hI.2.2.2.2 w hw
  · rw [up_ap, if_neg (by omega)]
theorem gs_Ga (hI : DI I p) (hw : tk n (I 2) p = 1) : GS n I p (stGa n I p) := by
  have ht := te_gp (Or.inl hw : tk n (I 2) p = 1 ∨ tk n (I 2) p = 2 ∨ tk n (I 2) p = 3)
  unfold stGa
  refine gs_ndN (fun v q h0 h1 h2 h3 => ?_)
  intro I' p' e
  cases e
  refine ⟨fun q j h1 h2 => by rw [up_ap, if_neg (by omega)], ⟨fun j hj => ?_, fun s hs2 => ?_, ?_, ?_, fun w hw => ?_⟩, by omega, h3, ?_⟩
  · rw [up_ap, if_neg (by omega)]; exact hI.1 j hj
  · rw [up_ap, if_neg (by omega)] at hs2
    rw [up_ap, if_neg (by omega)]; exact hI.2.1 s hs2
  · rw [up_ap, if_neg (by omega)]; exact hI.2.2.1
  · rw [up_ap, if_neg (by omega)]; have := hI.2.2.2.1; omega
  · rw [up_ap, if_neg (by omega), up_ap, if_neg (by omega)]; exact hI.2.2.2.2 w hw
  · rw [up_ap, if_neg (by omega)]
theorem gs_Fo {f : Nat} (hn : n ≤ 1600) (hI : DI I p) (hw : tk n (I 2) p = 1) : GS n I p (stFo n I f p) := by
  have ht := te_gp (Or.inl hw : tk n (I 2) p = 1 ∨ tk n (I 2) p = 2 ∨ tk n (I 2) p = 3)
  unfold stFo
  split
  · exact gs_l
  have hro := (ro_P (n := n) (B := I 2) (se := seO f) (12 * n + 7) (if f = 3 then 0 else 3) 0 (te n (I 2) p) ht.2).1
  cases hh : P n (I 2) (seO f) (12 * n + 7) (if f = 3 then 0 else 3) 0 (te n (I 2) p) with
  | inl e => exact gs_l
  | inr y =>
    obtain ⟨p1, c⟩ := y
    rw [hh] at hro
    have hr := hro p1 c rfl
    have hI7 := hI.2.2.1
    have hI8 := hI.2.2.2.1
    intro I' p' e
    cases e
    have hc : ∀ q k, q ≠ 17 → q ≠ 18 → q ≠ 19 → ¬ (q = 12 ∧ k = 7) → ¬ (q = 26 ∧ k = 2) → up (stW (foI I f) (I 12 7).toNat c) 19 f (((I 12 7).toNat + c.length : Nat) : Int) q k = I q k := by
      intro q k h1 h2 h3 h4 h5
      rw [up_ap, if_neg (by omega), (FA_st (I0 := foI I f) (k0 := (I 12 7).toNat) (c := c) (by omega)).1 q k h1 h4]
      unfold foI
      rw [up_ap, if_neg (by omega), up_ap, if_neg (by omega)]
    refine ⟨fun q k h1 h2 => hc q k (by omega) (by omega) (by omega) (by omega) h2, ⟨fun k hk => ?_, fun s hs => ?_, ?_, ?_, fun w hw => ?_⟩, by omega, by omega, ?_⟩
    · rw [hc 13 k (by decide) (by decide) (by decide) (by omega) (by omega)]
      exact hI.1 k hk
    · rw [hc 13 1 (by decide) (by decide) (by decide) (by omega) (by omega)] at hs
      rw [hc 15 _ (by decide) (by decide) (by decide) (by omega) (by omega)]
      exact hI.2.1 s hs
    · rw [up_ap, if_neg (by omega), stW_127]
      omega
    · rw [up_ap, if_neg (by omega), stW_127]
      omega
    · rw [hc 15 w (by decide) (by decide) (by decide) (by omega) (by omega), hc 16 w (by decide) (by decide) (by decide) (by omega) (by omega)]
      exact hI.2.2.2.2 w hw
    · exact hc 12 9 (by decide) (by decide) (by decide) (by omega) (by omega)
theorem gs_St (hn : n ≤ 1600) (hI : DI I p) : GS n I p (St n I p) := by
  have h1 : ∀ w : Int, 0 ≤ w → tw n (I 2) p = w → tk n (I 2) p = 1 := fun w h0 h => tw_1 h h0
  unfold St
  split
  · rename_i e; exact gs_Th hI (by decide) (h1 _ (by decide) e)
  split
  · rename_i e; exact gs_Th hI (by decide) (h1 _ (by decide) e)
  split
  · rename_i e; exact gs_Th hI (by decide) (h1 _ (by decide) e)
  split
  · rename_i e; exact gs_Lo hI (h1 _ (by decide) e)
  split
  · rename_i e; exact gs_Li hI (h1 _ (by decide) e)
  split
  · rename_i e; exact gs_Fo hn hI (h1 _ (by decide) e)
  split
  · rename_i e; exact gs_Fo hn hI (h1 _ (by decide) e)
  split
  · rename_i e; exact gs_Fo hn hI (h1 _ (by decide) e)
  split
  · rename_i e; exact gs_Fo hn hI (h1 _ (by decide) e)
  split
  · rename_i e; exact gs_Ga hI (h1 _ (by decide) e)
  · exact gs_l
end TRH
