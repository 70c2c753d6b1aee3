/-! ===== Rows: stowing ===== -/
abbrev SW := Int × (Nat → Int) × (Nat → Int)
def keepL (st : SW) (t : Int) : SW := if st.1 = -1 ∨ t < st.1 then (t, (fun j => if j < 6 then st.2.2 j else st.2.1 j), st.2.2) else st
def hSW (I : HI) (tr : Nat → Int) (st : SW) : HI := row (row (row (up I 44 12 st.1) 46 st.2.1) 47 st.2.2) 45 tr
theorem hSW_cell {I : HI} {tr : Nat → Int} {st : SW} {q : Nat} (h1 : q ≠ 44) (h2 : q ≠ 45) (h3 : q ≠ 46) (h4 : q ≠ 47) : hSW I tr st q = I q := by
  unfold hSW
  rw [row_cell h2, row_cell h4, row_cell h3, up_cell h1]
theorem hSW_12 {I : HI} {tr : Nat → Int} {st : SW} : hSW I tr st 44 12 = st.1 := rfl
theorem hSW_45 {I : HI} {tr : Nat → Int} {st : SW} : hSW I tr st 45 = tr := rfl
theorem hSW_47 {I : HI} {tr : Nat → Int} {st : SW} : hSW I tr st 47 = st.2.2 := rfl
def ud (f : Nat → Int) (k : Nat) (v : Int) : Nat → Int := fun j => if j = k then v else f j
theorem hSW_tr {I : HI} {tr : Nat → Int} {st : SW} {k : Nat} {v : Int} : up (hSW I tr st) 45 k v = hSW I (ud tr k v) st := by
  funext q j
  unfold hSW ud
  simp only [up_ap, row_ap]
  grind
theorem hSW_hd {I : HI} {tr : Nat → Int} {st : SW} {k : Nat} {v : Int} : up (hSW I tr st) 47 k v = hSW I tr (st.1, st.2.1, ud st.2.2 k v) := by
  funext q j
  unfold hSW ud
  simp only [up_ap, row_ap]
  grind
theorem sp_X6_keepIfLess {I : HI} {Q : Option AV → HI → Prop} {tr : Nat → Int} {st : SW} {t : Int} (kq : Q none (hSW I tr (keepL st t))) : Rj MX6_keepIfLess 1 [aR 44, aI t] (hSW I tr st) Q := by
  refine rj_of okX6_keepIfLess (Nat.le_of_ble_eq_true rfl) rfl ?_
  have e1 : (st.1 = -1 ∨ t < st.1) → hSW I tr (keepL st t) = cpy (up (hSW I tr st) 44 12 t) 47 46 0 0 6 := by
    intro h
    unfold keepL
    rw [if_pos h]
    funext q j
    rw [cpy_ap]
    unfold hSW
    simp only [row_ap, up_ap]
    grind
  have e0 : ¬ (st.1 = -1 ∨ t < st.1) → hSW I tr (keepL st t) = hSW I tr st := by
    intro h
    unfold keepL
    rw [if_neg h]
  refine b_aload_n rfl rfl ?_
  refine b_getI rfl fl6_74 rfl (by decide) rfl ?_
  rw [hSW_12]
  refine b_iconst rfl (by decide) ?_
  refine b_icmp_eq (tgt := 16) rfl rfl (fun c5 => ?_) (fun c5 => ?_)
  · refine b_aload_n rfl rfl ?_
    refine b_iload_n rfl rfl ?_
    refine b_putI rfl fl6_74 rfl (by decide) rfl ?_
    refine b_aload_n rfl rfl ?_
    refine b_getR (r := 47) rfl fl6_18 rfl (by decide) rfl rfl ?_
    refine b_iconst rfl (by decide) ?_
    refine b_aload_n rfl rfl ?_
    refine b_getR (r := 46) rfl fl6_15 rfl (by decide) rfl rfl ?_
    refine b_iconst rfl (by decide) ?_
    refine b_bipush rfl (by decide) ?_
    refine b_copy rfl ml6_68 (by omega) rfl rfl (by omega) (by omega) (by omega) (by omega) (by omega) ?_
    refine b_vret rfl rfl ?_
    first
    | exact qN kq (e1 (by omega))
    | exact qN kq (e0 (by omega))
  · refine b_iload_n rfl rfl ?_
    refine b_aload_n rfl rfl ?_
    refine b_getI rfl fl6_74 rfl (by decide) rfl ?_
    try simp only [up_ap, cpy_ap, fil_ap, row_ap, Nat.reduceEqDiff, Nat.reduceLT, Nat.reduceLeDiff, Int.toNat_natCast, Int.reduceToNat, reduceCtorEq, false_and, and_false, true_and, and_true, and_self, reduceIte]
    rw [hSW_12]
    refine b_icmp_ge (tgt := 36) rfl rfl (fun c13 => ?_) (fun c13 => ?_)
    · refine b_vret rfl rfl ?_
      first
      | exact qN kq (e1 (by omega))
      | exact qN kq (e0 (by omega))
    · refine b_aload_n rfl rfl ?_
      refine b_iload_n rfl rfl ?_
      refine b_putI rfl fl6_74 rfl (by decide) rfl ?_
      refine b_aload_n rfl rfl ?_
      refine b_getR (r := 47) rfl fl6_18 rfl (by decide) rfl rfl ?_
      refine b_iconst rfl (by decide) ?_
      refine b_aload_n rfl rfl ?_
      refine b_getR (r := 46) rfl fl6_15 rfl (by decide) rfl rfl ?_
      refine b_iconst rfl (by decide) ?_
      refine b_bipush rfl (by decide) ?_
      refine b_copy rfl ml6_68 (by omega) rfl rfl (by omega) (by omega) (by omega) (by omega) (by omega) ?_
      refine b_vret rfl rfl ?_
      first
      | exact qN kq (e1 (by omega))
      | exact qN kq (e0 (by omega))
def foldH (body : Nat → SW → SW) : Nat → SW → SW
  | 0, st => st
  | n + 1, st => body n (foldH body n st)
def dfH (W : Nat → Nat) (nt : Nat → Int) (nh s : Nat) : Nat → Nat → Int → (Nat → Int) → SW → SW
  | 0, _, tip, _, st => keepL st (if 0 ≤ tip then tip else -tip)
  | f + 1, k, tip, tr, st => foldH (fun hd st => if tr (24 * s + 6 * hd + W k) < 20 then dfH W nt nh s f (k + 1) (tip + sd (hd : Int) * nt (W k)) (ud tr (24 * s + 6 * hd + W k) (tr (24 * s + 6 * hd + W k) + 1)) (st.1, st.2.1, ud st.2.2 k (hd : Int)) else st) nh st
theorem ud_back {f : Nat → Int} {k : Nat} {v w : Int} (h : w = f k) : ud (ud f k v) k w = f := by
  funext j
  unfold ud
  by_cases e : j = k
  · rw [if_pos e, e]; exact h
  · rw [if_neg e, if_neg e]
theorem sp_X6_tryHolds {I : HI} {W : Nat → Nat} {nt : Nat → Int} {s : Nat} (hp : pOK I) (hs : (s : Int) < I 4 1) (hT : 1 ≤ I 1 1 ∧ I 1 1 ≤ 6) (hW : ∀ k : Nat, (k : Int) < I 1 1 → tAt I (k : Int) = (W k : Int) ∧ (W k : Int) < I 4 0) (hnt : ∀ w : Nat, (w : Int) < I 4 0 → nt w = I 6 w - I 7 w) : ∀ (f k : Nat) (tip : Int) (tr : Nat → Int) (st : SW) (Q : Option AV → HI → Prop), (k : Int) + f = I 1 1 → (-(900000 + 100 * (k : Int)) ≤ tip ∧ tip ≤ 900000 + 100 * (k : Int)) → (∀ j, 0 ≤ tr j ∧ tr j ≤ 20) → Q none (hSW I tr (dfH W nt (nH I s) s f k tip tr st)) → Rj MX6_tryHolds (f + 3) [aR 44, aI (s : Int), aI (k : Int), aI tip] (hSW I tr st) Q := by
  have hJ : ∀ (tr : Nat → Int) (st : SW), hSW I tr st 1 1 = I 1 1 ∧ (∀ k, tAt (hSW I tr st) k = tAt I k) ∧ pOK (hSW I tr st) ∧ hSW I tr st 4 = I 4 ∧ hSW I tr st 6 = I 6 ∧ hSW I tr st 7 = I 7 := by
    intro tr st
    have e1 : hSW I tr st 1 = I 1 := hSW_cell (by decide) (by decide) (by decide) (by decide)
    have e2 : hSW I tr st 2 = I 2 := hSW_cell (by decide) (by decide) (by decide) (by decide)
    have e4 : hSW I tr st 4 = I 4 := hSW_cell (by decide) (by decide) (by decide) (by decide)
    have e6 : hSW I tr st 6 = I 6 := hSW_cell (by decide) (by decide) (by decide) (by decide)
    have e7 : hSW I tr st 7 = I 7 := hSW_cell (by decide) (by decide) (by decide) (by decide)
    exact ⟨by rw [e1], fun k => tAt_to e1 e2, pOK_to hp e4 e6 e7, e4, e6, e7⟩
  have hs6 : s < 6 := by have := hp.1 1 (by decide); omega
  obtain ⟨nh1, nh2, nh3⟩ := nH_in hp hs
  intro f
  induction f with
  | zero =>
    intro k tip tr st Q hk ht htr kq
    obtain ⟨j1, j2, j3, j4, j6, j7⟩ := hJ tr st
    refine rj_of okX6_tryHolds (Nat.le_of_ble_eq_true rfl) rfl ?_
    refine b_iload_n rfl rfl ?_
    refine b_aload_n rfl rfl ?_
    refine b_getR (r := 1) rfl fl6_42 rfl (by decide) rfl rfl ?_
    refine b_getI rfl fl6_53 rfl (by decide) rfl ?_
    refine b_icmp_ge (tgt := 17) rfl rfl (fun c8 => ?_) (fun c8 => ?_)
    · refine b_aload_n rfl rfl ?_
      refine b_iload_n rfl rfl ?_
      refine b_mabs (z := if 0 ≤ tip then tip else -tip) rfl ml6_87 (by omega) (Nat.le_of_ble_eq_true rfl) (by omega) ?_
      refine b_callV1v (ν := MX6_keepIfLess) rfl ml6_92 cvX6_keepIfLess (d' := 1) (by omega) rfl (by decide) rfl (Nat.le_of_ble_eq_true rfl) ?_
      refine sp_X6_keepIfLess ?_
      refine ⟨rfl, ?_⟩
      refine b_vret rfl rfl ?_
      exact kq
    · omega
  | succ f ih =>
    intro k tip tr st Q hk ht htr kq
    obtain ⟨w1, w2⟩ := hW k (by omega)
    have w6 : W k < 6 := by have := (nW_in hp).1; have := (nW_in hp).2; omega
    have hnk := hnt (W k) w2
    have hwr := hp.2.1 (W k) w6
    refine rj_of okX6_tryHolds (Nat.le_of_ble_eq_true rfl) rfl ?_
    have lp : ∀ (n i : Nat) (z : Int) (x6 : Option AV) (st' : SW), (Q none (hSW I tr (foldH (fun hd st => if tr (24 * s + 6 * hd + W k) < 20 then dfH W nt (nH I s) s f (k + 1) (tip + sd (hd : Int) * nt (W k)) (ud tr (24 * s + 6 * hd + W k) (tr (24 * s + 6 * hd + W k) + 1)) (st.1, st.2.1, ud st.2.2 k (hd : Int)) else st) (nH I s) st))) → st' = foldH (fun hd st => if tr (24 * s + 6 * hd + W k) < 20 then dfH W nt (nH I s) s f (k + 1) (tip + sd (hd : Int) * nt (W k)) (ud tr (24 * s + 6 * hd + W k) (tr (24 * s + 6 * hd + W k) + 1)) (st.1, st.2.1, ud st.2.2 k (hd : Int)) else st) i st → z = (i : Int) → i + n = nH I s → Bj MX6_tryHolds (f + 1 + 3) 39 [some (aR 44), some (aI (s : Int)), some (aI (k : Int)), some (aI tip), some (aI (W k : Int)), some (aI z), x6] [] (hSW I tr st') Q := by
      intro n
      induction n with
      | zero =>
        intro i z x6 st' hq hst hz hi
        obtain ⟨j1, j2, j3, j4, j6, j7⟩ := hJ tr st'
        have e1 := fo_ship (I := hSW I tr st') (f := 6) (s := s) (by rw [j4]; exact hs)
        rw [j6] at e1
        refine b_iload rfl rfl ?_
        refine b_aload_n rfl rfl ?_
        refine b_getR (r := 3) rfl fl6_34 rfl (by decide) rfl rfl ?_
        refine b_iconst rfl (by decide) ?_
        refine b_iload_n rfl rfl ?_
        refine b_callV2i (ν := MX3_firstOf) rfl ml6_96 cvX3_firstOf (d' := 1) (by omega) rfl (by decide) rfl (Nat.le_of_ble_eq_true rfl) ?_
        refine sp_X3_firstOf_3 j3.1 ?_
        rw [e1]
        refine ⟨_, rfl, ?_⟩
        refine b_icmp_ge (tgt := 136) rfl rfl (fun c50 => ?_) (fun c50 => ?_)
        · refine b_vret rfl rfl ?_
          have ei : i = nH I s := by omega
          subst ei
          rw [hst]
          exact hq
        · omega
      | succ n ihn =>
        intro i z x6 st' hq hst hz hi
        subst hz
        obtain ⟨j1, j2, j3, j4, j6, j7⟩ := hJ tr st'
        have e1 := fo_ship (I := hSW I tr st') (f := 6) (s := s) (by rw [j4]; exact hs)
        rw [j6] at e1
        have hcb : 24 * s + 6 * i + W k < 144 := by omega
        have htc := htr (24 * s + 6 * i + W k)
        have hsd := sd_in (i : Int)
        have hnet : -99 ≤ I 6 (W k) - I 7 (W k) ∧ I 6 (W k) - I 7 (W k) ≤ 99 := by omega
        have hsn : -99 ≤ sd (i : Int) * (I 6 (W k) - I 7 (W k)) ∧ sd (i : Int) * (I 6 (W k) - I 7 (W k)) ≤ 99 := by rcases hsd with e | e <;> rw [e] <;> omega
        have htr2 : ∀ j, 0 ≤ ud tr (24 * s + 6 * i + W k) (tr (24 * s + 6 * i + W k) + 1) j ∧ (tr (24 * s + 6 * i + W k) < 20 → ud tr (24 * s + 6 * i + W k) (tr (24 * s + 6 * i + W k) + 1) j ≤ 20) := by
          intro j
          have := htr j
          unfold ud
          split <;> omega
        generalize hA : 24 * s + 6 * i + W k = A at *
        refine b_iload rfl rfl ?_
        refine b_aload_n rfl rfl ?_
        refine b_getR (r := 3) rfl fl6_34 rfl (by decide) rfl rfl ?_
        refine b_iconst rfl (by decide) ?_
        refine b_iload_n rfl rfl ?_
        refine b_callV2i (ν := MX3_firstOf) rfl ml6_96 cvX3_firstOf (d' := 1) (by omega) rfl (by decide) rfl (Nat.le_of_ble_eq_true rfl) ?_
        refine sp_X3_firstOf_3 j3.1 ?_
        rw [e1]
        refine ⟨_, rfl, ?_⟩
        refine b_icmp_ge (tgt := 136) rfl rfl (fun c50 => ?_) (fun c50 => ?_)
        · omega
        · refine b_iload_n rfl rfl ?_
          refine b_iload rfl rfl ?_
          refine b_iload rfl rfl ?_
          refine b_callSN3i (ν := MX11_cell) rfl ml6_100 csX11_cell (d' := 0) (by omega) (Nat.le_of_ble_eq_true rfl) ?_
          refine sp_X11_cell (by omega) ?_
          refine ⟨_, rfl, ?_⟩
          refine b_istoreX (F := fun z61 => [some (aR 44), some (aI (s : Int)), some (aI (k : Int)), some (aI tip), some (aI (W k : Int)), some (aI (i : Int)), some (aI z61)]) rfl (by decide) (fun _ => rfl) (fun z61 ez61 => ?_)
          have es : z61.toNat = A := by omega
          refine b_aload_n rfl rfl ?_
          refine b_getR (r := 45) rfl fl6_9 rfl (by decide) rfl rfl ?_
          refine b_iload rfl rfl ?_
          refine b_iald rfl rfl (by omega) (by omega) ?_
          rw [es, hSW_45]
          refine b_bipush rfl (by decide) ?_
          refine b_icmp_ge (tgt := 130) rfl rfl (fun c72 => ?_) (fun c72 => ?_)
          · try rw [es, hSW_tr, ud_back (by omega)]
            refine b_iincX (F := fun z130 => [some (aR 44), some (aI (s : Int)), some (aI (k : Int)), some (aI tip), some (aI (W k : Int)), some (aI z130), some (aI z61)]) rfl rfl (by omega) (by omega) (fun _ => rfl) (fun z130 ez130 => ?_)
            refine b_goto (tgt := 39) rfl rfl ?_
            first
            | exact ihn (i + 1) _ _ _ hq (by show _ = (if tr (24 * s + 6 * i + W k) < 20 then _ else _); rw [hA, ← hst, if_pos (by omega), hnk]) (by omega) (by omega)
            | exact ihn (i + 1) _ _ _ hq (by show _ = (if tr (24 * s + 6 * i + W k) < 20 then _ else _); rw [hA, ← hst, if_neg (by omega)]) (by omega) (by omega)
          · refine b_aload_n rfl rfl ?_
            refine b_getR (r := 45) rfl fl6_9 rfl (by decide) rfl rfl ?_
            refine b_iload rfl rfl ?_
            refine b_dup2 rfl rfl rfl ?_
            refine b_iald rfl rfl (by omega) (by omega) ?_
            rw [es, hSW_45]
            refine b_iconst rfl (by decide) ?_
            refine b_iaddN rfl (by omega) (by omega) ?_
            refine b_iast rfl rfl (by omega) (by omega) ?_
            rw [es, hSW_tr]
            refine b_aload_n rfl rfl ?_
            refine b_getR (r := 47) rfl fl6_18 rfl (by decide) rfl rfl ?_
            refine b_iload_n rfl rfl ?_
            refine b_iload rfl rfl ?_
            refine b_iast rfl rfl (by omega) (by omega) ?_
            rw [Int.toNat_natCast, hSW_hd]
            refine b_aload_n rfl rfl ?_
            refine b_iload_n rfl rfl ?_
            refine b_iload_n rfl rfl ?_
            refine b_iconst rfl (by decide) ?_
            refine b_iaddN rfl (by omega) (by omega) ?_
            refine b_iload_n rfl rfl ?_
            refine b_iload rfl rfl ?_
            refine b_callSN1i (ν := MX11_side) rfl ml6_104 csX11_side (d' := 0) (by omega) (Nat.le_of_ble_eq_true rfl) ?_
            refine sp_X11_side (by omega) ?_
            refine ⟨_, rfl, ?_⟩
            refine b_aload_n rfl rfl ?_
            refine b_getR (r := 3) rfl fl6_34 rfl (by decide) rfl rfl ?_
            refine b_iload rfl rfl ?_
            refine b_callV1i (ν := MX3_net) rfl ml6_107 cvX3_net (d' := 2) (by omega) rfl (by decide) rfl (Nat.le_of_ble_eq_true rfl) ?_
            refine sp_X3_net_3 (hJ _ _).2.2.1.1 ⟨by omega, by omega, by omega, by rw [(hJ _ _).2.2.2.1]; exact w2⟩ (by rw [Int.toNat_natCast, (hJ _ _).2.2.2.2.1, (hJ _ _).2.2.2.2.2]; omega) ?_
            rw [Int.toNat_natCast, (hJ _ _).2.2.2.2.1, (hJ _ _).2.2.2.2.2]
            refine ⟨_, rfl, ?_⟩
            refine b_imulN rfl (by omega) (by omega) ?_
            refine b_iaddN rfl (by omega) (by omega) ?_
            refine b_callV3v (ν := MX6_tryHolds) rfl ml6_83 cvX6_tryHolds (d' := (f + 3)) (by omega) rfl (by decide) rfl (Nat.le_of_ble_eq_true rfl) ?_
            refine ih (k + 1) _ _ _ _ (by omega) (by omega) (fun j => ⟨(htr2 j).1, (htr2 j).2 (by omega)⟩) ?_
            refine ⟨rfl, ?_⟩
            refine b_aload_n rfl rfl ?_
            refine b_getR (r := 45) rfl fl6_9 rfl (by decide) rfl rfl ?_
            refine b_iload rfl rfl ?_
            refine b_dup2 rfl rfl rfl ?_
            refine b_iald rfl rfl (by omega) (by omega) ?_
            try simp only [up_ap, cpy_ap, fil_ap, row_ap, Nat.reduceEqDiff, Nat.reduceLT, Nat.reduceLeDiff, Int.toNat_natCast, Int.reduceToNat, reduceCtorEq, false_and, and_false, true_and, and_true, and_self, reduceIte]
            rw [es, hSW_45, show ud tr A (tr A + 1) A = tr A + 1 from if_pos rfl]
            refine b_iconst rfl (by decide) ?_
            refine b_isubN rfl (by omega) (by omega) ?_
            refine b_iast rfl rfl (by omega) (by omega) ?_
            try rw [es, hSW_tr, ud_back (by omega)]
            refine b_iincX (F := fun z130 => [some (aR 44), some (aI (s : Int)), some (aI (k : Int)), some (aI tip), some (aI (W k : Int)), some (aI z130), some (aI z61)]) rfl rfl (by omega) (by omega) (fun _ => rfl) (fun z130 ez130 => ?_)
            refine b_goto (tgt := 39) rfl rfl ?_
            first
            | exact ihn (i + 1) _ _ _ hq (by show _ = (if tr (24 * s + 6 * i + W k) < 20 then _ else _); rw [hA, ← hst, if_pos (by omega), hnk]) (by omega) (by omega)
            | exact ihn (i + 1) _ _ _ hq (by show _ = (if tr (24 * s + 6 * i + W k) < 20 then _ else _); rw [hA, ← hst, if_neg (by omega)]) (by omega) (by omega)
    obtain ⟨j1, j2, j3, j4, j6, j7⟩ := hJ tr st
    refine b_iload_n rfl rfl ?_
    refine b_aload_n rfl rfl ?_
    refine b_getR (r := 1) rfl fl6_42 rfl (by decide) rfl rfl ?_
    refine b_getI rfl fl6_53 rfl (by decide) rfl ?_
    refine b_icmp_ge (tgt := 17) rfl rfl (fun c8 => ?_) (fun c8 => ?_)
    · omega
    · refine b_iload_n rfl rfl ?_
      refine b_bipush rfl (by decide) ?_
      refine b_icmp_lt (tgt := 26) rfl rfl (fun c14 => ?_) (fun c14 => ?_)
      · refine b_aload_n rfl rfl ?_
        refine b_getR (r := 1) rfl fl6_42 rfl (by decide) rfl rfl ?_
        refine b_iload_n rfl rfl ?_
        refine b_callV1i (ν := MX9_at) rfl ml6_58 cvX9_at (d' := 0) (by omega) rfl (by decide) rfl (Nat.le_of_ble_eq_true rfl) ?_
        refine sp_X9_at (by omega) ?_
        rw [j2, w1]
        refine ⟨_, rfl, ?_⟩
        refine b_istoreX (F := fun z34 => [some (aR 44), some (aI (s : Int)), some (aI (k : Int)), some (aI tip), some (aI z34), none, none]) rfl (by decide) (fun _ => rfl) (fun z34 ez34 => ?_)
        refine b_iconst rfl (by decide) ?_
        refine b_istoreX (F := fun z37 => [some (aR 44), some (aI (s : Int)), some (aI (k : Int)), some (aI tip), some (aI z34), some (aI z37), none]) rfl (by decide) (fun _ => rfl) (fun z37 ez37 => ?_)
        subst ez34
        exact lp (nH I s) 0 _ _ st kq rfl (by omega) (by omega)
      · omega
