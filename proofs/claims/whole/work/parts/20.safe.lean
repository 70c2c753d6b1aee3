/-! ===== looking, with what is only scratch set aside ===== -/
def Sc (I J : HI) : Prop := (∀ q, q ≠ 28 → q ≠ 29 → J q = I q) ∧ seB J
def CP (I : HI) (C : Nat → List Int) : Prop := pOK I ∧ FM I C ∧ FS C
def At (I J : HI) (C : Nat → List Int) (h : Int) : Prop := Sc I J ∧ J 28 0 = h ∧ J 28 1 = wat C h ∧ J 28 2 = mon C h
theorem Sc.rf {I : HI} (h : seB I) : Sc I I := ⟨fun _ _ _ => rfl, h⟩
theorem pOK_to {I J : HI} (h : pOK I) (h4 : J 4 = I 4) (h6 : J 6 = I 6) (h7 : J 7 = I 7) : pOK J := by
  unfold pOK cOK at *
  rw [h4, h6, h7]
  exact h
theorem CP.to {I J : HI} {C : Nat → List Int} (h : CP I C) (hs : Sc I J) : CP J C :=
  ⟨pOK_to h.1 (hs.1 4 (by decide) (by decide)) (hs.1 6 (by decide) (by decide)) (hs.1 7 (by decide) (by decide)), FM_to h.2.1 (hs.1 8 (by decide) (by decide)) (hs.1 9 (by decide) (by decide)) (hs.1 10 (by decide) (by decide)), h.2.2⟩
theorem tX_to {I J : HI} {cr s : Nat} (h4 : J 4 = I 4) (h6 : J 6 = I 6) (h7 : J 7 = I 7) (hc : J cr = I cr) : tW J cr s = tW I cr s ∧ tL J cr s = tL I cr s ∧ tT J cr s = tT I cr s ∧ tN J cr s = tN I cr s := by
  have e1 : nH J s = nH I s := by unfold nH; rw [h6]
  have e2 : nW J = nW I := by unfold nW; rw [h4]
  have e3 : cW J cr s = cW I cr s := by funext a b; unfold cW; rw [h6, hc]
  have e4 : cL J cr s = cL I cr s := by funext a b; unfold cL; rw [h7, hc]
  have e5 : cT J cr s = cT I cr s := by funext a b; unfold cT; rw [h6, h7, hc]
  have e6 : cN J cr s = cN I cr s := by funext a b; unfold cN; rw [hc]
  unfold tW tL tT tN
  rw [e1, e2, e3, e4, e5, e6]
  exact ⟨rfl, rfl, rfl, rfl⟩
theorem spa_atHour {I J : HI} {Q : Option AV → HI → Prop} {C : Nat → List Int} {h : Int} (hP : CP I C) (hS : Sc I J) (hh : 0 ≤ h ∧ h ≤ 100000) (kq : ∀ K, At I K C h → Q none K) : Rj MX5_atHour 3 [aR 27, aI h] J Q := by
  have hP2 := hP.to hS
  refine sp_X5_atHour hh hP2.2.1 hP2.2.2 hS.2 (fun g => kq _ ⟨⟨fun q h1 h2 => ?_, seB_row (seB_at hS.2 hh)⟩, rfl, rfl, rfl⟩)
  rw [row_cell h2, atH_cell h1]
  exact hS.1 q h1 h2
def hS_ (I : HI) (C : Nat → List Int) (h : Int) (cr s : Nat) : Int := hei C h (tW I cr s) (tL I cr s) (tT I cr s)
def Lk (I J : HI) (C : Nat → List Int) (h : Int) (cr s : Nat) : Prop := At I J C h ∧ J 28 3 = tW I cr s ∧ J 28 4 = tL I cr s ∧ J 28 5 = tT I cr s ∧ J 28 6 = tN I cr s ∧ J 28 7 = hS_ I C h cr s
theorem lk_of {I J : HI} {C : Nat → List Int} {h : Int} {cr s : Nat} {g : Nat → Int} (hA : At I J C h) (hcr : cr ≠ 28 ∧ cr ≠ 29) (hb : -900000 ≤ tW I cr s ∧ tW I cr s ≤ 900000 ∧ -900000 ≤ tL I cr s ∧ tL I cr s ≤ 900000 ∧ -900000 ≤ tT I cr s ∧ tT I cr s ≤ 900000 ∧ -900000 ≤ tN I cr s ∧ tN I cr s ≤ 900000) : Lk I (row (lkS J C h cr s) 29 g) C h cr s := by
  obtain ⟨hS, a0, a1, a2⟩ := hA
  obtain ⟨e1, e2, e3, e4⟩ := tX_to (s := s) (hS.1 4 (by decide) (by decide)) (hS.1 6 (by decide) (by decide)) (hS.1 7 (by decide) (by decide)) (hS.1 cr hcr.1 hcr.2)
  have hh := hei_in C h (tW I cr s) (tL I cr s) (tT I cr s)
  unfold lkS
  rw [e1, e2, e3, e4]
  refine ⟨⟨⟨fun q h1 h2 => ?_, ?_⟩, a0, a1, a2⟩, rfl, rfl, rfl, rfl, rfl⟩
  · rw [row_cell h2, lkA_cell h1]; exact hS.1 q h1 h2
  · refine seB_row ?_
    unfold lkA
    exact seB_up (seB_up (seB_up (seB_up (seB_up hS.2 (by omega)) (by omega)) (by omega)) (by omega)) (by omega)
theorem t_in {I : HI} {cr s : Nat} (hp : pOK I) (hb : ∀ k, 0 ≤ I cr k ∧ I cr k ≤ 50) (hs : (s : Int) < I 4 1) : -900000 ≤ tW I cr s ∧ tW I cr s ≤ 900000 ∧ -900000 ≤ tL I cr s ∧ tL I cr s ≤ 900000 ∧ -900000 ≤ tT I cr s ∧ tT I cr s ≤ 900000 ∧ -900000 ≤ tN I cr s ∧ tN I cr s ≤ 900000 := by
  have hb' : crB I cr := fun k => by have := hb k; omega
  obtain ⟨h1, h2, h3⟩ := nH_in hp hs
  obtain ⟨w1, w2⟩ := nW_in hp
  have q1 := S2_b0 (f := cW I cr s) h2 w1 (fun i j hj => cW_in hp hb' hj)
  have q2 := S2_b0 (f := cL I cr s) h2 w1 (fun i j hj => cL_in hp hb' hj)
  have q3 := S2_b0 (f := cT I cr s) h2 w1 (fun i j hj => cT_in hp hb' hj)
  have q4 := S2_b0 (f := cN I cr s) h2 w1 (fun i j hj => by have := hb (24 * s + 6 * i + j); unfold cN; omega)
  unfold tW tL tT tN
  omega
theorem spa_look_32 {I J : HI} {Q : Option AV → HI → Prop} {C : Nat → List Int} {h : Int} {s : Nat} (hP : CP I C) (hA : At I J C h) (hb : ∀ k, 0 ≤ I 32 k ∧ I 32 k ≤ 50) (hs : (s : Int) < I 4 1) (kq : ∀ K, Lk I K C h 32 s → Q none K) : Rj MX5_look 4 [aR 27, aR 32, aI (s : Int)] J Q := by
  have hP2 := hP.to hA.1
  have e32 := hA.1.1 32 (by decide) (by decide)
  have e4 := hA.1.1 4 (by decide) (by decide)
  exact sp_X5_look_32 hP2.2.1 hP2.2.2 hA.1.2 hA.2.1 hA.2.2.1 hA.2.2.2 hP2.1 (fun k => by rw [e32]; exact hb k) (by rw [e4]; exact hs) (fun g => kq _ (lk_of hA (by decide) (t_in hP.1 hb hs)))
theorem spa_look_45 {I J : HI} {Q : Option AV → HI → Prop} {C : Nat → List Int} {h : Int} {s : Nat} (hP : CP I C) (hA : At I J C h) (hb : ∀ k, 0 ≤ I 45 k ∧ I 45 k ≤ 50) (hs : (s : Int) < I 4 1) (kq : ∀ K, Lk I K C h 45 s → Q none K) : Rj MX5_look 4 [aR 27, aR 45, aI (s : Int)] J Q := by
  have hP2 := hP.to hA.1
  have e45 := hA.1.1 45 (by decide) (by decide)
  have e4 := hA.1.1 4 (by decide) (by decide)
  exact sp_X5_look_45 hP2.2.1 hP2.2.2 hA.1.2 hA.2.1 hA.2.2.1 hA.2.2.2 hP2.1 (fun k => by rw [e45]; exact hb k) (by rw [e4]; exact hs) (fun g => kq _ (lk_of hA (by decide) (t_in hP.1 hb hs)))
def lvl (I : HI) (s : Nat) (t : Int) : Prop := -(I 7 (6 + s)) ≤ t ∧ t ≤ I 7 (6 + s)
def SF (I : HI) (C : Nat → List Int) (h : Int) (cr s b : Nat) : Prop := lvl I s (tT I cr s) ∧ I 6 (12 + b) ≤ hS_ I C h cr s ∧ hS_ I C h cr s ≤ I 7 (12 + b)
theorem spa_level {I J : HI} {Q : Option AV → HI → Prop} {C : Nat → List Int} {h : Int} {cr s : Nat} (hP : CP I C) (hL : Lk I J C h cr s) (hs : (s : Int) < I 4 1) (ht : -900000 ≤ tT I cr s ∧ tT I cr s ≤ 900000) (k1 : lvl I s (tT I cr s) → Q (some (aI 1)) J) (k0 : ¬ lvl I s (tT I cr s) → Q (some (aI 0)) J) : Rj MX5_level 2 [aR 27, aI (s : Int)] J Q := by
  have hS := hL.1.1
  have hP2 := hP.to hS
  have e4 := hS.1 4 (by decide) (by decide)
  have e7 := hS.1 7 (by decide) (by decide)
  have ht5 : J 28 5 = tT I cr s := hL.2.2.2.1
  have f7 := fo_ship (I := J) (f := 7) (s := s) (by rw [e4]; exact hs)
  rw [e7] at f7
  have r7 := hP.1.2.2.1 s hs
  unfold lvl at k1 k0
  refine rj_of okX5_level (Nat.le_of_ble_eq_true rfl) rfl ?_
  refine b_aload_n rfl rfl ?_
  refine b_getR (r := 28) rfl fl5_9 rfl (by decide) rfl rfl ?_
  refine b_iconst rfl (by decide) ?_
  refine b_ialdL (k := 5) rfl rfl rfl (by decide) ?_
  rw [ht5]
  refine b_mabs (z := if 0 ≤ tT I cr s then tT I cr s else -(tT I cr s)) rfl ml5_63 (by omega) (Nat.le_of_ble_eq_true rfl) (by omega) ?_
  refine b_aload_n rfl rfl ?_
  refine b_getR (r := 3) rfl fl5_18 rfl (by decide) rfl rfl ?_
  refine b_iconst rfl (by decide) ?_
  refine b_iload_n rfl rfl ?_
  refine b_callV2i (ν := MX3_secondOf) rfl ml5_50 cvX3_secondOf (d' := 1) (by omega) rfl (by decide) rfl (Nat.le_of_ble_eq_true rfl) ?_
  refine sp_X3_secondOf_3 hP2.1.1 ?_
  rw [f7]
  refine ⟨_, rfl, ?_⟩
  refine b_icmp_gt (tgt := 25) rfl rfl (fun c18 => ?_) (fun c18 => ?_)
  · refine b_iconst rfl (by decide) ?_
    refine b_zret rfl rfl (by first | decide | omega) ?_
    first | exact k1 (by split at c18 <;> omega) | exact k0 (by split at c18 <;> omega)
  · refine b_iconst rfl (by decide) ?_
    refine b_goto (tgt := 26) rfl rfl ?_
    refine b_zret rfl rfl (by first | decide | omega) ?_
    first | exact k1 (by split at c18 <;> omega) | exact k0 (by split at c18 <;> omega)
theorem spa_safe {I J : HI} {Q : Option AV → HI → Prop} {C : Nat → List Int} {h : Int} {cr s b : Nat} (hP : CP I C) (hL : Lk I J C h cr s) (hs : (s : Int) < I 4 1) (hb : (b : Int) < I 4 2) (ht : -900000 ≤ tT I cr s ∧ tT I cr s ≤ 900000) (k1 : SF I C h cr s b → Q (some (aI 1)) J) (k0 : ¬ SF I C h cr s b → Q (some (aI 0)) J) : Rj MX5_safe 3 [aR 27, aI (s : Int), aI (b : Int)] J Q := by
  have hS := hL.1.1
  have hP2 := hP.to hS
  have e4 := hS.1 4 (by decide) (by decide)
  have e6 := hS.1 6 (by decide) (by decide)
  have e7 := hS.1 7 (by decide) (by decide)
  have h7 : J 28 7 = hS_ I C h cr s := hL.2.2.2.2.2
  have f6 := fo_berth (I := J) (f := 6) (b := b) (by rw [e4]; exact hb)
  have f7 := fo_berth (I := J) (f := 7) (b := b) (by rw [e4]; exact hb)
  rw [e6] at f6
  rw [e7] at f7
  refine rj_of okX5_safe (Nat.le_of_ble_eq_true rfl) rfl ?_
  refine b_aload_n rfl rfl ?_
  refine b_getR (r := 28) rfl fl5_9 rfl (by decide) rfl rfl ?_
  refine b_bipush rfl (by decide) ?_
  refine b_ialdL (k := 7) rfl rfl rfl (by decide) ?_
  rw [h7]
  refine b_istoreX_n (F := fun z7 => [some (aR 27), some (aI (s : Int)), some (aI (b : Int)), some (aI z7)]) rfl (by decide) (fun _ => rfl) (fun z7 ez7 => ?_)
  refine b_aload_n rfl rfl ?_
  refine b_iload_n rfl rfl ?_
  refine b_callV1i (ν := MX5_level) rfl ml5_68 cvX5_level (d' := 2) (by omega) rfl (by decide) rfl (Nat.le_of_ble_eq_true rfl) ?_
  refine spa_level hP hL hs ht (fun hl => ?_) (fun hl => ?_)
  · refine ⟨_, rfl, ?_⟩
    refine b_if_eq (tgt := 46) rfl rfl (fun z => absurd z (by decide)) (fun _ => ?_)
    refine b_iload_n rfl rfl ?_
    refine b_aload_n rfl rfl ?_
    refine b_getR (r := 3) rfl fl5_18 rfl (by decide) rfl rfl ?_
    refine b_iconst rfl (by decide) ?_
    refine b_iload_n rfl rfl ?_
    refine b_callV2i (ν := MX3_firstOf) rfl ml5_39 cvX3_firstOf (d' := 1) (by omega) rfl (by decide) rfl (Nat.le_of_ble_eq_true rfl) ?_
    refine sp_X3_firstOf_3 hP2.1.1 ?_
    rw [f6]
    refine ⟨_, rfl, ?_⟩
    refine b_icmp_lt (tgt := 46) rfl rfl (fun c26 => ?_) (fun c26 => ?_)
    · refine b_iconst rfl (by decide) ?_
      refine b_zret rfl rfl (by first | decide | omega) ?_
      first | exact k0 (fun z => hl z.1) | exact k0 (fun z => by have := z.2.1; omega) | exact k0 (fun z => by have := z.2.2; omega) | exact k1 ⟨hl, by omega, by omega⟩
    · refine b_iload_n rfl rfl ?_
      refine b_aload_n rfl rfl ?_
      refine b_getR (r := 3) rfl fl5_18 rfl (by decide) rfl rfl ?_
      refine b_iconst rfl (by decide) ?_
      refine b_iload_n rfl rfl ?_
      refine b_callV2i (ν := MX3_secondOf) rfl ml5_50 cvX3_secondOf (d' := 1) (by omega) rfl (by decide) rfl (Nat.le_of_ble_eq_true rfl) ?_
      refine sp_X3_secondOf_3 hP2.1.1 ?_
      rw [f7]
      refine ⟨_, rfl, ?_⟩
      refine b_icmp_gt (tgt := 46) rfl rfl (fun c39 => ?_) (fun c39 => ?_)
      · refine b_iconst rfl (by decide) ?_
        refine b_zret rfl rfl (by first | decide | omega) ?_
        first | exact k0 (fun z => hl z.1) | exact k0 (fun z => by have := z.2.1; omega) | exact k0 (fun z => by have := z.2.2; omega) | exact k1 ⟨hl, by omega, by omega⟩
      · refine b_iconst rfl (by decide) ?_
        refine b_goto (tgt := 47) rfl rfl ?_
        refine b_zret rfl rfl (by first | decide | omega) ?_
        first | exact k0 (fun z => hl z.1) | exact k0 (fun z => by have := z.2.1; omega) | exact k0 (fun z => by have := z.2.2; omega) | exact k1 ⟨hl, by omega, by omega⟩
  · refine ⟨_, rfl, ?_⟩
    refine b_if_eq (tgt := 46) rfl rfl (fun _ => ?_) (fun z => absurd z (by decide))
    refine b_iconst rfl (by decide) ?_
    refine b_zret rfl rfl (by first | decide | omega) ?_
    first | exact k0 (fun z => hl z.1) | exact k0 (fun z => by have := z.2.1; omega) | exact k0 (fun z => by have := z.2.2; omega) | exact k1 ⟨hl, by omega, by omega⟩
def seL (I : HI) (C : Nat → List Int) (h : Int) (cr s : Nat) : Nat → Int := seM h (tW I cr s) (tL I cr s) (tT I cr s) (tN I cr s) (hS_ I C h cr s)
def AL (I : HI) (C : Nat → List Int) (h : Int) (cr s : Nat) : Prop := C 3 = [] ∨ ev (seL I C h cr s) (C 3) ≠ 0
def LkV (I J : HI) (C : Nat → List Int) (h v3 v4 v5 v6 v7 : Int) : Prop := At I J C h ∧ J 28 3 = v3 ∧ J 28 4 = v4 ∧ J 28 5 = v5 ∧ J 28 6 = v6 ∧ J 28 7 = v7
def ALV (C : Nat → List Int) (h v3 v4 v5 v6 v7 : Int) : Prop := C 3 = [] ∨ ev (seM h v3 v4 v5 v6 v7) (C 3) ≠ 0
theorem spv_allows {I J : HI} {Q : Option AV → HI → Prop} {C : Nat → List Int} {h v3 v4 v5 v6 v7 : Int} (hP : CP I C) (hL : LkV I J C h v3 v4 v5 v6 v7) (k1 : ALV C h v3 v4 v5 v6 v7 → ∀ K, LkV I K C h v3 v4 v5 v6 v7 → Q (some (aI 1)) K) (k0 : ¬ ALV C h v3 v4 v5 v6 v7 → ∀ K, LkV I K C h v3 v4 v5 v6 v7 → Q (some (aI 0)) K) : Rj MX5_allows 3 [aR 27] J Q := by
  have hS := hL.1.1
  have hP2 := hP.to hS
  have hrow : ∀ g, LkV I (row J 29 g) C h v3 v4 v5 v6 v7 := by
    intro g
    obtain ⟨⟨q1, q2, q3, q4⟩, r⟩ := hL
    exact ⟨⟨⟨fun q h1 h2 => by rw [row_cell h2]; exact q1.1 q h1 h2, seB_row q1.2⟩, q2, q3, q4⟩, r⟩
  have he : ev (J 28) (C 3) = ev (seM h v3 v4 v5 v6 v7) (C 3) := by
    obtain ⟨⟨q1, q2, q3, q4⟩, r3, r4, r5, r6, r7⟩ := hL
    refine ev_congr (fun x hx h1 h2 => ?_)
    have h3 := hP.2.2.2.2.2 x hx
    obtain ⟨k, hk⟩ : ∃ k : Nat, (-1 - x).toNat = k := ⟨_, rfl⟩
    have hk8 : k < 8 := by omega
    have hk1 : k ≠ 1 ∧ k ≠ 2 := by omega
    rw [hk]
    unfold seM
    match k, hk8 with
    | 0, _ => exact q2
    | 1, _ => exact absurd rfl hk1.1
    | 2, _ => exact absurd rfl hk1.2
    | 3, _ => exact r3
    | 4, _ => exact r4
    | 5, _ => exact r5
    | 6, _ => exact r6
    | 7, _ => exact r7
  refine rj_of okX5_allows (Nat.le_of_ble_eq_true rfl) rfl ?_
  refine b_aload_n rfl rfl ?_
  refine b_getR (r := 3) rfl fl5_18 rfl (by decide) rfl rfl ?_
  refine b_iconst rfl (by decide) ?_
  refine b_callV1i (ν := MX3_tells) rfl ml5_22 cvX3_tells (d' := 0) (by omega) rfl (by decide) rfl (Nat.le_of_ble_eq_true rfl) ?_
  refine spf_tells 3 (by decide) hP2.2.1 (fun ht => ?_) (fun ht => ?_)
  · refine ⟨_, rfl, ?_⟩
    refine b_if_eq (tgt := 19) rfl rfl (fun z => absurd z (by decide)) (fun _ => ?_)
    refine b_aload_n rfl rfl ?_
    refine b_iconst rfl (by decide) ?_
    refine b_callV1i (ν := MX5_reckon) rfl ml5_28 cvX5_reckon (d' := 2) (by omega) rfl (by decide) rfl (Nat.le_of_ble_eq_true rfl) ?_
    refine sp_X5_reckon (cs := C 3) (by decide) (FM_fcs hP2.2.1 (f := 3) (by decide) ht) hS.2 ?_
    intro g2
    rw [he]
    refine ⟨_, rfl, ?_⟩
    refine b_if_eq (tgt := 23) rfl rfl (fun c16 => ?_) (fun c16 => ?_)
    · refine b_iconst rfl (by decide) ?_
      refine b_zret rfl rfl (by first | decide | omega) ?_
      first
      | exact k1 (Or.inl ht) _ hL
      | exact k1 (Or.inr c16) _ (hrow _)
      | exact k0 (fun z => z.elim (fun w => ht w) (fun w => w c16)) _ (hrow _)
    · refine b_iconst rfl (by decide) ?_
      refine b_goto (tgt := 24) rfl rfl ?_
      refine b_zret rfl rfl (by first | decide | omega) ?_
      first
      | exact k1 (Or.inl ht) _ hL
      | exact k1 (Or.inr c16) _ (hrow _)
      | exact k0 (fun z => z.elim (fun w => ht w) (fun w => w c16)) _ (hrow _)
  · refine ⟨_, rfl, ?_⟩
    refine b_if_eq (tgt := 19) rfl rfl (fun _ => ?_) (fun z => absurd z (by decide))
    refine b_iconst rfl (by decide) ?_
    refine b_goto (tgt := 24) rfl rfl ?_
    refine b_zret rfl rfl (by first | decide | omega) ?_
    first
    | exact k1 (Or.inl ht) _ hL
    | exact k1 (Or.inr c16) _ (hrow _)
    | exact k0 (fun z => z.elim (fun w => ht w) (fun w => w c16)) _ (hrow _)
theorem spa_allows {I J : HI} {Q : Option AV → HI → Prop} {C : Nat → List Int} {h : Int} {cr s : Nat} (hP : CP I C) (hL : Lk I J C h cr s) (k1 : AL I C h cr s → ∀ K, Lk I K C h cr s → Q (some (aI 1)) K) (k0 : ¬ AL I C h cr s → ∀ K, Lk I K C h cr s → Q (some (aI 0)) K) : Rj MX5_allows 3 [aR 27] J Q :=
  spv_allows hP hL k1 k0
theorem spa_isSafe {I J : HI} {Q : Option AV → HI → Prop} {C : Nat → List Int} {h : Int} {s b : Nat} (hP : CP I C) (hA : At I J C h) (hb : ∀ k, 0 ≤ I 32 k ∧ I 32 k ≤ 20) (hs : (s : Int) < I 4 1) (hl : I 31 s = (b : Int)) (hbb : (b : Int) < I 4 2) (k1 : SF I C h 32 s b → ∀ K, At I K C h → Q (some (aI 1)) K) (k0 : ¬ SF I C h 32 s b → ∀ K, At I K C h → Q (some (aI 0)) K) : Rj MX11_isSafe 5 [aR 0, aI (s : Int)] J Q := by
  have hb5 : ∀ k, 0 ≤ I 32 k ∧ I 32 k ≤ 50 := fun k => by have := hb k; omega
  have hs6 : s < 6 := by have := hP.1.1 1 (by decide); omega
  refine rj_of okX11_isSafe (Nat.le_of_ble_eq_true rfl) rfl ?_
  refine b_aload_n rfl rfl ?_
  refine b_getR (r := 27) rfl fl11_37 rfl (by decide) rfl rfl ?_
  refine b_aload_n rfl rfl ?_
  refine b_getR (r := 30) rfl fl11_44 rfl (by decide) rfl rfl ?_
  refine b_getR (r := 32) rfl fl11_198 rfl (by decide) rfl rfl ?_
  refine b_iload_n rfl rfl ?_
  refine b_callV2v (ν := MX5_look) rfl ml11_201 cvX5_look (d' := 4) (by omega) rfl (by decide) rfl (Nat.le_of_ble_eq_true rfl) ?_
  refine spa_look_32 hP hA hb5 hs (fun K hL => ?_)
  refine ⟨rfl, ?_⟩
  refine b_aload_n rfl rfl ?_
  refine b_getR (r := 27) rfl fl11_37 rfl (by decide) rfl rfl ?_
  refine b_iload_n rfl rfl ?_
  refine b_aload_n rfl rfl ?_
  refine b_getR (r := 30) rfl fl11_44 rfl (by decide) rfl rfl ?_
  refine b_getR (r := 31) rfl fl11_205 rfl (by decide) rfl rfl ?_
  refine b_iload_n rfl rfl ?_
  refine b_iald rfl rfl (by omega) (by omega) ?_
  rw [Int.toNat_natCast, hL.1.1.1 31 (by decide) (by decide), hl]
  refine b_callV2i (ν := MX5_safe) rfl ml11_233 cvX5_safe (d' := 3) (by omega) rfl (by decide) rfl (Nat.le_of_ble_eq_true rfl) ?_
  refine spa_safe hP hL hs hbb (by have := t_in hP.1 hb5 hs; omega) (fun hf => ?_) (fun hf => ?_)
  · refine ⟨_, rfl, ?_⟩
    refine b_zret rfl rfl (by first | decide | omega) ?_
    first | exact k1 hf _ hL.1 | exact k0 hf _ hL.1
  · refine ⟨_, rfl, ?_⟩
    refine b_zret rfl rfl (by first | decide | omega) ?_
    first | exact k1 hf _ hL.1 | exact k0 hf _ hL.1
