/-! ===== the class: FormulaReader: facts, parts ===== -/
section FRZ
variable {I0 H : HI} {n k0 se : Nat} {r : Res} {Q : Option AV → HI → Prop}
theorem nf_cmp1 {B : Nat → Int} {R : Nat → Nat → Nat → Res} {d : Nat} (h : NF (cmpr n B R d r)) : NF r ∧ NF (bnd (cmp1 n B r) (R 3 d)) := by
  cases r with
  | inl e => exact ⟨h, h⟩
  | inr y =>
    obtain ⟨q, c⟩ := y
    refine ⟨nf_inr, ?_⟩
    by_cases hq : tk n B q = 3 ∧ (tv n B q = 60 ∨ tv n B q = 62 ∨ tv n B q = 61)
    · rw [show cmp1 n B (.inr (q, c)) = .inr (te n B q, c) from if_pos hq]
      rw [show cmpr n B R d (.inr (q, c)) = emi (bnd (.inr (te n B q, c)) (R 3 d)) (if tv n B q = 60 then -13 else if tv n B q = 62 then -14 else -15) from if_pos hq] at h
      exact nf_emi.1 h
    · rw [show cmp1 n B (.inr (q, c)) = .inl (1, (tsp n B q : Int)) from if_neg hq]
      exact nf_inl (by decide)
theorem ct_fact {f : Nat} (hX : TX I0 n) (h2 : ∀ g, g < f → CTr I0 n k0 se MX0_readFact 7 2 g) (h0 : ∀ g, g < f → CTr I0 n k0 se MX0_readTest 9 0 g) (h3 : ∀ g, g < f → CTr I0 n k0 se MX0_readSum 6 3 g) : CTr I0 n k0 se MX0_readFact 7 2 f := by
  intro dp d r H Q hdp hd hS hR hN kq
  cases r with
  | inl e => exact fc_fact hX _ _ e.1 e.2 H Q (by omega) hS kq
  | inr y =>
  obtain ⟨p, c⟩ := y
  cases f with
  | zero => exact absurd rfl (hN 0)
  | succ f =>
  have hn := hX.2.1
  have hb := hR p c rfl
  have eA : tw n (I0 2) p = 25 → dp < 7 → bnd (.inr (p, c)) (P n (I0 2) se (f + 1) 2 dp) = emi (bnd (.inr (te n (I0 2) p, c)) (P n (I0 2) se f 2 (dp + 1))) (-9) := by
    intro a1 a2
    rw [bnd_inr, show P n (I0 2) se (f + 1) 2 dp p = emi (P n (I0 2) se f 2 (dp + 1) (te n (I0 2) p)) (-9) from (if_pos a1).trans (if_pos a2), pre_emi]
    rfl
  have eB : tw n (I0 2) p = 25 → ¬ dp < 7 → bnd (.inr (p, c)) (P n (I0 2) se (f + 1) 2 dp) = .inl (5, (tq n (I0 2) p : Int)) := by
    intro a1 a2
    rw [bnd_inr, show P n (I0 2) se (f + 1) 2 dp p = .inl (5, (tq n (I0 2) p : Int)) from (if_pos a1).trans (if_neg a2)]
    rfl
  have eC : tw n (I0 2) p ≠ 25 → sg n (I0 2) p 91 → dp < 7 → bnd (.inr (p, c)) (P n (I0 2) se (f + 1) 2 dp) = nee n (I0 2) (bnd (.inr (te n (I0 2) p, c)) (P n (I0 2) se f 0 (dp + 1))) 93 := by
    intro a1 a2 a3
    rw [bnd_inr, show P n (I0 2) se (f + 1) 2 dp p = nee n (I0 2) (P n (I0 2) se f 0 (dp + 1) (te n (I0 2) p)) 93 from (if_neg a1).trans ((if_pos a2).trans (if_pos a3)), pre_nee]
    rfl
  have eD : tw n (I0 2) p ≠ 25 → sg n (I0 2) p 91 → ¬ dp < 7 → bnd (.inr (p, c)) (P n (I0 2) se (f + 1) 2 dp) = .inl (5, (tq n (I0 2) p : Int)) := by
    intro a1 a2 a3
    rw [bnd_inr, show P n (I0 2) se (f + 1) 2 dp p = .inl (5, (tq n (I0 2) p : Int)) from (if_neg a1).trans ((if_pos a2).trans (if_neg a3))]
    rfl
  have eE : tw n (I0 2) p ≠ 25 → ¬ sg n (I0 2) p 91 → tw n (I0 2) p = 26 → bnd (.inr (p, c)) (P n (I0 2) se (f + 1) 2 dp) = emi (.inr (te n (I0 2) p, c)) 1 := by
    intro a1 a2 a3
    rw [bnd_inr, show P n (I0 2) se (f + 1) 2 dp p = .inr (te n (I0 2) p, [1]) from (if_neg a1).trans ((if_neg a2).trans (if_pos a3))]
    rfl
  have eF : tw n (I0 2) p ≠ 25 → ¬ sg n (I0 2) p 91 → tw n (I0 2) p ≠ 26 → bnd (.inr (p, c)) (P n (I0 2) se (f + 1) 2 dp) = cmpr n (I0 2) (P n (I0 2) se f) dp (bnd (.inr (p, c)) (P n (I0 2) se f 3 dp)) := by
    intro a1 a2 a3
    rw [bnd_inr, show P n (I0 2) se (f + 1) 2 dp p = cmpr n (I0 2) (P n (I0 2) se f) dp (P n (I0 2) se f 3 dp p) from (if_neg a1).trans ((if_neg a2).trans (if_neg a3)), pre_cmpr]
    rfl
  refine rj_of okX0_readFact (Nat.le_of_ble_eq_true rfl) rfl ?_
  refine b_aload_n rfl rfl ?_
  refine b_getR (r := 24) rfl fl0_9 rfl (by decide) rfl rfl ?_
  refine b_bipush rfl (by decide) ?_
  refine b_callV1i (ν := MX1_takeWord) rfl ml0_67 cvX1_takeWord (d' := 2) (by omega) rfl (by decide) rfl (Nat.le_of_ble_eq_true rfl) ?_
  refine rs_takeWord hX (by decide) hS (fun y25 H1 hL1 => ?_) (fun n25 => ?_)
  · refine ⟨_, rfl, ?_⟩
    refine b_if_eq (tgt := 39) rfl rfl (fun z => absurd z (by decide)) (fun _ => ?_)
    refine b_aload_n rfl rfl ?_
    refine b_iload_n rfl rfl ?_
    refine b_callV1i (ν := MX0_opens) rfl ml0_76 cvX0_opens (d' := 1) (by omega) rfl (by decide) rfl (Nat.le_of_ble_eq_true rfl) ?_
    have o1 := ro_te (B := I0 2) hR (tw_c (by decide) y25)
    refine rs_opens (by omega) hL1 (fun d7 => ?_) (fun d7 H2 s2 => ?_)
    · refine ⟨_, rfl, ?_⟩
      refine b_if_eq (tgt := 27) rfl rfl (fun z => absurd z (by decide)) (fun _ => ?_)
      refine b_aload_n rfl rfl ?_
      refine b_iload_n rfl rfl ?_
      refine b_iconst rfl (by decide) ?_
      refine b_iaddN rfl (by omega) (by omega) ?_
      refine b_callV1v (ν := MX0_readFact) rfl ml0_73 cvX0_readFact (d' := (10 * (7 - (dp + 1)) + 7)) (by omega) rfl (by decide) rfl (Nat.le_of_ble_eq_true rfl) ?_
      rw [eA y25 d7] at hN
      refine h2 f (by omega) (dp + 1) _ (.inr (te n (I0 2) p, c)) H1 _ (by omega) (Nat.le_refl _) ⟨_, _, hL1⟩ (o1.w (by omega) (by omega)) (nf_emi.1 hN) (fun H2 s2 => ?_)
      refine ⟨rfl, ?_⟩
      refine b_aload_n rfl rfl ?_
      refine b_getR (r := 12) rfl fl0_15 rfl (by decide) rfl rfl ?_
      refine b_bipush rfl (by decide) ?_
      refine b_callV1v (ν := MX3_emit) rfl ml0_70 cvX3_emit (d' := 0) (by omega) rfl (by decide) rfl (Nat.le_of_ble_eq_true rfl) ?_
      refine rs_emit hn s2 (by first | exact ro_inl | exact (ro_bnd o1 (fun q hq => (ro_P f _ _ q hq).1)).w (by omega) (by omega)) (fun H3 s3 => ?_)
      refine ⟨rfl, ?_⟩
      refine b_goto (tgt := 124) rfl rfl ?_
      refine b_vret rfl rfl ?_
      first
      | exact kq _ (rsE (eA y25 d7) s3)
      | exact kq _ (rsE (eB y25 d7) s3)
      | exact kq _ (rsE (eC n25 y91 d7) s3)
      | exact kq _ (rsE (eD n25 y91 d7) s3)
      | exact kq _ (rsE (eE n25 n91 y26) s3)
      | (have hz : z110 = x := by omega
         exact kq _ (rsE ((eF n25 n91 n26).trans (ex2 _ _).symm) (by rw [← hz]; exact s3)))
    · refine ⟨_, rfl, ?_⟩
      refine b_if_eq (tgt := 27) rfl rfl (fun _ => ?_) (fun z => absurd z (by decide))
      refine b_aload_n rfl rfl ?_
      refine b_getR (r := 12) rfl fl0_15 rfl (by decide) rfl rfl ?_
      refine b_bipush rfl (by decide) ?_
      refine b_callV1v (ν := MX3_emit) rfl ml0_70 cvX3_emit (d' := 0) (by omega) rfl (by decide) rfl (Nat.le_of_ble_eq_true rfl) ?_
      refine rs_emit hn s2 (by first | exact ro_inl | exact (ro_bnd o1 (fun q hq => (ro_P f _ _ q hq).1)).w (by omega) (by omega)) (fun H3 s3 => ?_)
      refine ⟨rfl, ?_⟩
      refine b_goto (tgt := 124) rfl rfl ?_
      refine b_vret rfl rfl ?_
      first
      | exact kq _ (rsE (eA y25 d7) s3)
      | exact kq _ (rsE (eB y25 d7) s3)
      | exact kq _ (rsE (eC n25 y91 d7) s3)
      | exact kq _ (rsE (eD n25 y91 d7) s3)
      | exact kq _ (rsE (eE n25 n91 y26) s3)
      | (have hz : z110 = x := by omega
         exact kq _ (rsE ((eF n25 n91 n26).trans (ex2 _ _).symm) (by rw [← hz]; exact s3)))
  · refine ⟨_, rfl, ?_⟩
    refine b_if_eq (tgt := 39) rfl rfl (fun _ => ?_) (fun z => absurd z (by decide))
    refine b_aload_n rfl rfl ?_
    refine b_getR (r := 24) rfl fl0_9 rfl (by decide) rfl rfl ?_
    refine b_bipush rfl (by decide) ?_
    refine b_callV1i (ν := MX1_takeSign) rfl ml0_79 cvX1_takeSign (d' := 2) (by omega) rfl (by decide) rfl (Nat.le_of_ble_eq_true rfl) ?_
    refine rs_takeSign hX hS (fun y91 H1 hL1 => ?_) (fun n91 => ?_)
    · refine ⟨_, rfl, ?_⟩
      refine b_if_eq (tgt := 78) rfl rfl (fun z => absurd z (by decide)) (fun _ => ?_)
      refine b_aload_n rfl rfl ?_
      refine b_iload_n rfl rfl ?_
      refine b_callV1i (ν := MX0_opens) rfl ml0_76 cvX0_opens (d' := 1) (by omega) rfl (by decide) rfl (Nat.le_of_ble_eq_true rfl) ?_
      have o1 := ro_te (B := I0 2) hR (sg_c y91)
      refine rs_opens (by omega) hL1 (fun d7 => ?_) (fun d7 H2 s2 => ?_)
      · refine ⟨_, rfl, ?_⟩
        refine b_if_eq (tgt := 66) rfl rfl (fun z => absurd z (by decide)) (fun _ => ?_)
        refine b_aload_n rfl rfl ?_
        refine b_iload_n rfl rfl ?_
        refine b_iconst rfl (by decide) ?_
        refine b_iaddN rfl (by omega) (by omega) ?_
        refine b_callV1v (ν := MX0_readTest) rfl ml0_51 cvX0_readTest (d' := (10 * (7 - (dp + 1)) + 9)) (by omega) rfl (by decide) rfl (Nat.le_of_ble_eq_true rfl) ?_
        rw [eC n25 y91 d7] at hN
        refine h0 f (by omega) (dp + 1) _ (.inr (te n (I0 2) p, c)) H1 _ (by omega) (Nat.le_refl _) ⟨_, _, hL1⟩ (o1.w (by omega) (by omega)) (nf_nee.1 hN) (fun H2 s2 => ?_)
        refine ⟨rfl, ?_⟩
        refine b_aload_n rfl rfl ?_
        refine b_getR (r := 24) rfl fl0_9 rfl (by decide) rfl rfl ?_
        refine b_bipush rfl (by decide) ?_
        refine b_callV1v (ν := MX1_needSign) rfl ml0_82 cvX1_needSign (d' := 2) (by omega) rfl (by decide) rfl (Nat.le_of_ble_eq_true rfl) ?_
        refine rs_need hX s2 (by first | exact ro_inl | exact (ro_bnd o1 (fun q hq => (ro_P f _ _ q hq).1)).w (by omega) (by omega)) (fun H3 s3 => ?_)
        refine ⟨rfl, ?_⟩
        refine b_goto (tgt := 124) rfl rfl ?_
        refine b_vret rfl rfl ?_
        first
        | exact kq _ (rsE (eA y25 d7) s3)
        | exact kq _ (rsE (eB y25 d7) s3)
        | exact kq _ (rsE (eC n25 y91 d7) s3)
        | exact kq _ (rsE (eD n25 y91 d7) s3)
        | exact kq _ (rsE (eE n25 n91 y26) s3)
        | (have hz : z110 = x := by omega
           exact kq _ (rsE ((eF n25 n91 n26).trans (ex2 _ _).symm) (by rw [← hz]; exact s3)))
      · refine ⟨_, rfl, ?_⟩
        refine b_if_eq (tgt := 66) rfl rfl (fun _ => ?_) (fun z => absurd z (by decide))
        refine b_aload_n rfl rfl ?_
        refine b_getR (r := 24) rfl fl0_9 rfl (by decide) rfl rfl ?_
        refine b_bipush rfl (by decide) ?_
        refine b_callV1v (ν := MX1_needSign) rfl ml0_82 cvX1_needSign (d' := 2) (by omega) rfl (by decide) rfl (Nat.le_of_ble_eq_true rfl) ?_
        refine rs_need hX s2 (by first | exact ro_inl | exact (ro_bnd o1 (fun q hq => (ro_P f _ _ q hq).1)).w (by omega) (by omega)) (fun H3 s3 => ?_)
        refine ⟨rfl, ?_⟩
        refine b_goto (tgt := 124) rfl rfl ?_
        refine b_vret rfl rfl ?_
        first
        | exact kq _ (rsE (eA y25 d7) s3)
        | exact kq _ (rsE (eB y25 d7) s3)
        | exact kq _ (rsE (eC n25 y91 d7) s3)
        | exact kq _ (rsE (eD n25 y91 d7) s3)
        | exact kq _ (rsE (eE n25 n91 y26) s3)
        | (have hz : z110 = x := by omega
           exact kq _ (rsE ((eF n25 n91 n26).trans (ex2 _ _).symm) (by rw [← hz]; exact s3)))
    · refine ⟨_, rfl, ?_⟩
      refine b_if_eq (tgt := 78) rfl rfl (fun _ => ?_) (fun z => absurd z (by decide))
      refine b_aload_n rfl rfl ?_
      refine b_getR (r := 24) rfl fl0_9 rfl (by decide) rfl rfl ?_
      refine b_bipush rfl (by decide) ?_
      refine b_callV1i (ν := MX1_takeWord) rfl ml0_67 cvX1_takeWord (d' := 2) (by omega) rfl (by decide) rfl (Nat.le_of_ble_eq_true rfl) ?_
      refine rs_takeWord hX (by decide) hS (fun y26 H1 hL1 => ?_) (fun n26 => ?_)
      · refine ⟨_, rfl, ?_⟩
        refine b_if_eq (tgt := 101) rfl rfl (fun z => absurd z (by decide)) (fun _ => ?_)
        refine b_aload_n rfl rfl ?_
        refine b_getR (r := 12) rfl fl0_15 rfl (by decide) rfl rfl ?_
        refine b_iconst rfl (by decide) ?_
        refine b_callV1v (ν := MX3_emit) rfl ml0_70 cvX3_emit (d' := 0) (by omega) rfl (by decide) rfl (Nat.le_of_ble_eq_true rfl) ?_
        refine rs_emit (r := .inr (te n (I0 2) p, c)) hn ⟨_, _, hL1⟩ ((ro_te (B := I0 2) hR (tw_c (by decide) y26)).w (by omega) (by omega)) (fun H3 s3 => ?_)
        refine ⟨rfl, ?_⟩
        refine b_goto (tgt := 124) rfl rfl ?_
        refine b_vret rfl rfl ?_
        first
        | exact kq _ (rsE (eA y25 d7) s3)
        | exact kq _ (rsE (eB y25 d7) s3)
        | exact kq _ (rsE (eC n25 y91 d7) s3)
        | exact kq _ (rsE (eD n25 y91 d7) s3)
        | exact kq _ (rsE (eE n25 n91 y26) s3)
        | (have hz : z110 = x := by omega
           exact kq _ (rsE ((eF n25 n91 n26).trans (ex2 _ _).symm) (by rw [← hz]; exact s3)))
      · refine ⟨_, rfl, ?_⟩
        refine b_if_eq (tgt := 101) rfl rfl (fun _ => ?_) (fun z => absurd z (by decide))
        refine b_aload_n rfl rfl ?_
        refine b_iload_n rfl rfl ?_
        refine b_callV1v (ν := MX0_readSum) rfl ml0_55 cvX0_readSum (d' := (10 * (7 - dp) + 6)) (by omega) rfl (by decide) rfl (Nat.le_of_ble_eq_true rfl) ?_
        rw [eF n25 n91 n26] at hN
        have hN2 := nf_cmp1 hN
        refine h3 f (by omega) dp _ (.inr (p, c)) H _ hdp (Nat.le_refl _) hS hR hN2.1 (fun H1 s1 => ?_)
        have o1 := ro_bnd (g := P n (I0 2) se f 3 dp) hR (fun q hq => (ro_P f _ _ q hq).1)
        refine ⟨rfl, ?_⟩
        refine b_aload_n rfl rfl ?_
        refine b_callV0i (ν := MX0_readComparison) rfl ml0_85 cvX0_readComparison (d' := 2) (by omega) rfl (by decide) rfl (Nat.le_of_ble_eq_true rfl) ?_
        refine rs_cmp hX s1 o1 (fun x H2 s2 ex2 => ?_)
        have o2 := ro_cmp1 (B := I0 2) o1
        refine ⟨_, rfl, ?_⟩
        refine b_istoreX_n (F := fun z110 => [some (aR 26), some (aI (dp : Int)), some (aI z110)]) rfl (by decide) (fun _ => rfl) (fun z110 ez110 => ?_)
        refine b_aload_n rfl rfl ?_
        refine b_iload_n rfl rfl ?_
        refine b_callV1v (ν := MX0_readSum) rfl ml0_55 cvX0_readSum (d' := (10 * (7 - dp) + 6)) (by omega) rfl (by decide) rfl (Nat.le_of_ble_eq_true rfl) ?_
        refine h3 f (by omega) dp _ _ H2 _ hdp (Nat.le_refl _) s2 (o2.w (by omega) (by omega)) hN2.2 (fun H4 s4 => ?_)
        refine ⟨rfl, ?_⟩
        refine b_aload_n rfl rfl ?_
        refine b_getR (r := 12) rfl fl0_15 rfl (by decide) rfl rfl ?_
        refine b_iload_n rfl rfl ?_
        refine b_callV1v (ν := MX3_emit) rfl ml0_70 cvX3_emit (d' := 0) (by omega) rfl (by decide) rfl (Nat.le_of_ble_eq_true rfl) ?_
        refine rs_emit hn s4 ((ro_bnd o2 (fun q hq => (ro_P f _ _ q hq).1)).w (by omega) (by omega)) (fun H3 s3 => ?_)
        refine ⟨rfl, ?_⟩
        refine b_vret rfl rfl ?_
        first
        | exact kq _ (rsE (eA y25 d7) s3)
        | exact kq _ (rsE (eB y25 d7) s3)
        | exact kq _ (rsE (eC n25 y91 d7) s3)
        | exact kq _ (rsE (eD n25 y91 d7) s3)
        | exact kq _ (rsE (eE n25 n91 y26) s3)
        | (have hz : z110 = x := by omega
           exact kq _ (rsE ((eF n25 n91 n26).trans (ex2 _ _).symm) (by rw [← hz]; exact s3)))
theorem rs_pair {f dp d p : Nat} {c : List Int} {x : Int} (hX : TX I0 n) (hdp : dp ≤ 7) (hd : 10 * (7 - dp) + 3 ≤ d) (h3 : CTr I0 n k0 se MX0_readSum 6 3 f) (hS : RS I0 n k0 (.inr (p, c)) H) (hR : Ro k0 0 n (.inr (p, c))) (hN : NF (pcat c (pPair n (I0 2) (P n (I0 2) se f) dp p x))) (kq : ∀ H', RS I0 n k0 (pcat c (pPair n (I0 2) (P n (I0 2) se f) dp p x)) H' → Q none H') : Rj MX0_readPair d [aR 26, aI (dp : Int), aI x] H Q := by
  have hn := hX.2.1
  have hb := hR p c rfl
  have eA : sg n (I0 2) p 40 → dp < 7 → pcat c (pPair n (I0 2) (P n (I0 2) se f) dp p x) = emi (nee n (I0 2) (bnd (nee n (I0 2) (bnd (.inr (te n (I0 2) p, c)) (P n (I0 2) se f 3 (dp + 1))) 44) (P n (I0 2) se f 3 (dp + 1))) 41) x := by
    intro a1 a2
    rw [show pPair n (I0 2) (P n (I0 2) se f) dp p x = emi (nee n (I0 2) (bnd (nee n (I0 2) (P n (I0 2) se f 3 (dp + 1) (te n (I0 2) p)) 44) (P n (I0 2) se f 3 (dp + 1))) 41) x from (if_pos a1).trans (if_pos a2), pre_emi, pre_nee, pre_bnd, pre_nee]
    rfl
  have eB : sg n (I0 2) p 40 → ¬ dp < 7 → pcat c (pPair n (I0 2) (P n (I0 2) se f) dp p x) = .inl (5, (tq n (I0 2) p : Int)) := by
    intro a1 a2
    rw [show pPair n (I0 2) (P n (I0 2) se f) dp p x = .inl (5, (tq n (I0 2) p : Int)) from (if_pos a1).trans (if_neg a2)]
    rfl
  have eC : ¬ sg n (I0 2) p 40 → pcat c (pPair n (I0 2) (P n (I0 2) se f) dp p x) = .inl (1, (tsp n (I0 2) p : Int)) := by
    intro a1
    rw [show pPair n (I0 2) (P n (I0 2) se f) dp p x = .inl (1, (tsp n (I0 2) p : Int)) from if_neg a1]
    rfl
  refine rj_of okX0_readPair (Nat.le_of_ble_eq_true rfl) rfl ?_
  have out_ : ∀ H1, RS I0 n k0 (.inl (1, (tsp n (I0 2) p : Int))) H1 → ¬ sg n (I0 2) p 40 → Bj MX0_readPair d 9 [some (aR 26), some (aI (dp : Int)), some (aI x)] [] H1 Q := by
    intro H1 s1 n40
    have s1' := s1
    obtain ⟨I', h1, po, st, sp, va, wo, ts, tu, e2, e3⟩ := s1
    subst e2
    refine b_aload_n rfl rfl ?_
    refine b_getR (r := 24) rfl fl0_9 rfl (by decide) rfl rfl ?_
    refine b_getI rfl fl0_116 rfl (by decide) rfl ?_
    rw [LX_10]
    refine b_if_ne (tgt := 67) rfl rfl (fun c16 => ?_) (fun c16 => ?_)
    · refine b_vret rfl rfl ?_
      exact kq _ (rsE (eC n40) s1')
    · omega
  have in_ : ∀ H1, sg n (I0 2) p 40 → Lok (stW I0 k0 c) n (te n (I0 2) p) (tq n (I0 2) p : Int) (tv n (I0 2) p) H1 → Bj MX0_readPair d 9 [some (aR 26), some (aI (dp : Int)), some (aI x)] [] H1 Q := by
    intro H1 y40 hL1
    have o1 := ro_te (B := I0 2) hR (sg_c y40)
    have hL1' := hL1
    obtain ⟨po, va, e, h⟩ := hL1
    subst e
    refine b_aload_n rfl rfl ?_
    refine b_getR (r := 24) rfl fl0_9 rfl (by decide) rfl rfl ?_
    refine b_getI rfl fl0_116 rfl (by decide) rfl ?_
    rw [LX_10]
    refine b_if_ne (tgt := 67) rfl rfl (fun c16 => ?_) (fun c16 => ?_)
    · omega
    · refine b_aload_n rfl rfl ?_
      refine b_iload_n rfl rfl ?_
      refine b_callV1i (ν := MX0_opens) rfl ml0_76 cvX0_opens (d' := 1) (by omega) rfl (by decide) rfl (Nat.le_of_ble_eq_true rfl) ?_
      refine rs_opens (by omega) hL1' (fun d7 => ?_) (fun d7 H2 s2 => ?_)
      · refine ⟨_, rfl, ?_⟩
        refine b_if_eq (tgt := 67) rfl rfl (fun z => absurd z (by decide)) (fun _ => ?_)
        refine b_aload_n rfl rfl ?_
        refine b_iload_n rfl rfl ?_
        refine b_iconst rfl (by decide) ?_
        refine b_iaddN rfl (by omega) (by omega) ?_
        refine b_callV1v (ν := MX0_readSum) rfl ml0_55 cvX0_readSum (d' := (10 * (7 - (dp + 1)) + 6)) (by omega) rfl (by decide) rfl (Nat.le_of_ble_eq_true rfl) ?_
        rw [eA y40 d7] at hN kq
        have n2 := nf_nee.1 (nf_emi.1 hN)
        refine h3 (dp + 1) _ (.inr (te n (I0 2) p, c)) _ _ (by omega) (Nat.le_refl _) ⟨_, _, hL1'⟩ (o1.w (by omega) (by omega)) (nf_nee.1 (nf_bnd n2)) (fun H2 s2 => ?_)
        have o2 := ro_bnd (g := P n (I0 2) se f 3 (dp + 1)) o1 (fun q hq => (ro_P f _ _ q hq).1)
        refine ⟨rfl, ?_⟩
        refine b_aload_n rfl rfl ?_
        refine b_getR (r := 24) rfl fl0_9 rfl (by decide) rfl rfl ?_
        refine b_bipush rfl (by decide) ?_
        refine b_callV1v (ν := MX1_needSign) rfl ml0_82 cvX1_needSign (d' := 2) (by omega) rfl (by decide) rfl (Nat.le_of_ble_eq_true rfl) ?_
        refine rs_need hX s2 (o2.w (by omega) (by omega)) (fun H3 s3 => ?_)
        have o3 := ro_nee (B := I0 2) (s := 44) o2
        refine ⟨rfl, ?_⟩
        refine b_aload_n rfl rfl ?_
        refine b_iload_n rfl rfl ?_
        refine b_iconst rfl (by decide) ?_
        refine b_iaddN rfl (by omega) (by omega) ?_
        refine b_callV1v (ν := MX0_readSum) rfl ml0_55 cvX0_readSum (d' := (10 * (7 - (dp + 1)) + 6)) (by omega) rfl (by decide) rfl (Nat.le_of_ble_eq_true rfl) ?_
        refine h3 (dp + 1) _ _ H3 _ (by omega) (Nat.le_refl _) s3 (o3.w (by omega) (by omega)) n2 (fun H4 s4 => ?_)
        have o4 := ro_bnd (g := P n (I0 2) se f 3 (dp + 1)) o3 (fun q hq => (ro_P f _ _ q hq).1)
        refine ⟨rfl, ?_⟩
        refine b_aload_n rfl rfl ?_
        refine b_getR (r := 24) rfl fl0_9 rfl (by decide) rfl rfl ?_
        refine b_bipush rfl (by decide) ?_
        refine b_callV1v (ν := MX1_needSign) rfl ml0_82 cvX1_needSign (d' := 2) (by omega) rfl (by decide) rfl (Nat.le_of_ble_eq_true rfl) ?_
        refine rs_need hX s4 (o4.w (by omega) (by omega)) (fun H5 s5 => ?_)
        have o5 := ro_nee (B := I0 2) (s := 41) o4
        refine ⟨rfl, ?_⟩
        refine b_aload_n rfl rfl ?_
        refine b_getR (r := 12) rfl fl0_15 rfl (by decide) rfl rfl ?_
        refine b_iload_n rfl rfl ?_
        refine b_callV1v (ν := MX3_emit) rfl ml0_70 cvX3_emit (d' := 0) (by omega) rfl (by decide) rfl (Nat.le_of_ble_eq_true rfl) ?_
        refine rs_emit hn s5 (o5.w (by omega) (by omega)) (fun H6 s6 => ?_)
        refine ⟨rfl, ?_⟩
        refine b_vret rfl rfl ?_
        first
        | exact kq _ s6
        | exact kq _ (rsE (eB y40 d7) s2)
      · refine ⟨_, rfl, ?_⟩
        refine b_if_eq (tgt := 67) rfl rfl (fun _ => ?_) (fun z => absurd z (by decide))
        refine b_vret rfl rfl ?_
        first
        | exact kq _ s6
        | exact kq _ (rsE (eB y40 d7) s2)
  obtain ⟨ts, tu, hL⟩ := hS
  refine b_aload_n rfl rfl ?_
  refine b_getR (r := 24) rfl fl0_9 rfl (by decide) rfl rfl ?_
  refine b_bipush rfl (by decide) ?_
  refine b_callV1v (ν := MX1_needSign) rfl ml0_82 cvX1_needSign (d' := 2) (by omega) rfl (by decide) rfl (Nat.le_of_ble_eq_true rfl) ?_
  exact sp_needSign (stW_TX hX) hL (fun y40 H1 hL1 => ⟨rfl, in_ _ y40 hL1⟩) (fun n40 H1 hL1 => ⟨rfl, out_ _ ⟨_, FA_st (by omega), hL1⟩ n40⟩)
  skip
theorem rs_if {f dp d p : Nat} {c : List Int} (hX : TX I0 n) (hdp : dp ≤ 7) (hd : 10 * (7 - dp) + 3 ≤ d) (h0 : CTr I0 n k0 se MX0_readTest 9 0 f) (h3 : CTr I0 n k0 se MX0_readSum 6 3 f) (hS : RS I0 n k0 (.inr (p, c)) H) (hR : Ro k0 0 n (.inr (p, c))) (hN : NF (pcat c (pIf n (I0 2) (P n (I0 2) se f) dp p))) (kq : ∀ H', RS I0 n k0 (pcat c (pIf n (I0 2) (P n (I0 2) se f) dp p)) H' → Q none H') : Rj MX0_readChoice d [aR 26, aI (dp : Int)] H Q := by
  have hn := hX.2.1
  have hb := hR p c rfl
  have eA : sg n (I0 2) p 40 → dp < 7 → pcat c (pIf n (I0 2) (P n (I0 2) se f) dp p) = emi (nee n (I0 2) (bnd (nee n (I0 2) (bnd (nee n (I0 2) (bnd (.inr (te n (I0 2) p, c)) (P n (I0 2) se f 0 (dp + 1))) 44) (P n (I0 2) se f 3 (dp + 1))) 44) (P n (I0 2) se f 3 (dp + 1))) 41) (-10) := by
    intro a1 a2
    rw [show pIf n (I0 2) (P n (I0 2) se f) dp p = emi (nee n (I0 2) (bnd (nee n (I0 2) (bnd (nee n (I0 2) (P n (I0 2) se f 0 (dp + 1) (te n (I0 2) p)) 44) (P n (I0 2) se f 3 (dp + 1))) 44) (P n (I0 2) se f 3 (dp + 1))) 41) (-10) from (if_pos a1).trans (if_pos a2), pre_emi, pre_nee, pre_bnd, pre_nee, pre_bnd, pre_nee]
    rfl
  have eB : sg n (I0 2) p 40 → ¬ dp < 7 → pcat c (pIf n (I0 2) (P n (I0 2) se f) dp p) = .inl (5, (tq n (I0 2) p : Int)) := by
    intro a1 a2
    rw [show pIf n (I0 2) (P n (I0 2) se f) dp p = .inl (5, (tq n (I0 2) p : Int)) from (if_pos a1).trans (if_neg a2)]
    rfl
  have eC : ¬ sg n (I0 2) p 40 → pcat c (pIf n (I0 2) (P n (I0 2) se f) dp p) = .inl (1, (tsp n (I0 2) p : Int)) := by
    intro a1
    rw [show pIf n (I0 2) (P n (I0 2) se f) dp p = .inl (1, (tsp n (I0 2) p : Int)) from if_neg a1]
    rfl
  refine rj_of okX0_readChoice (Nat.le_of_ble_eq_true rfl) rfl ?_
  have out_ : ∀ H1, RS I0 n k0 (.inl (1, (tsp n (I0 2) p : Int))) H1 → ¬ sg n (I0 2) p 40 → Bj MX0_readChoice d 9 [some (aR 26), some (aI (dp : Int))] [] H1 Q := by
    intro H1 s1 n40
    have s1' := s1
    obtain ⟨I', h1, po, st, sp, va, wo, ts, tu, e2, e3⟩ := s1
    subst e2
    refine b_aload_n rfl rfl ?_
    refine b_getR (r := 24) rfl fl0_9 rfl (by decide) rfl rfl ?_
    refine b_getI rfl fl0_116 rfl (by decide) rfl ?_
    rw [LX_10]
    refine b_if_ne (tgt := 84) rfl rfl (fun c16 => ?_) (fun c16 => ?_)
    · refine b_vret rfl rfl ?_
      exact kq _ (rsE (eC n40) s1')
    · omega
  have in_ : ∀ H1, sg n (I0 2) p 40 → Lok (stW I0 k0 c) n (te n (I0 2) p) (tq n (I0 2) p : Int) (tv n (I0 2) p) H1 → Bj MX0_readChoice d 9 [some (aR 26), some (aI (dp : Int))] [] H1 Q := by
    intro H1 y40 hL1
    have o1 := ro_te (B := I0 2) hR (sg_c y40)
    have hL1' := hL1
    obtain ⟨po, va, e, h⟩ := hL1
    subst e
    refine b_aload_n rfl rfl ?_
    refine b_getR (r := 24) rfl fl0_9 rfl (by decide) rfl rfl ?_
    refine b_getI rfl fl0_116 rfl (by decide) rfl ?_
    rw [LX_10]
    refine b_if_ne (tgt := 84) rfl rfl (fun c16 => ?_) (fun c16 => ?_)
    · omega
    · refine b_aload_n rfl rfl ?_
      refine b_iload_n rfl rfl ?_
      refine b_callV1i (ν := MX0_opens) rfl ml0_76 cvX0_opens (d' := 1) (by omega) rfl (by decide) rfl (Nat.le_of_ble_eq_true rfl) ?_
      refine rs_opens (by omega) hL1' (fun d7 => ?_) (fun d7 H2 s2 => ?_)
      · refine ⟨_, rfl, ?_⟩
        refine b_if_eq (tgt := 84) rfl rfl (fun z => absurd z (by decide)) (fun _ => ?_)
        refine b_aload_n rfl rfl ?_
        refine b_iload_n rfl rfl ?_
        refine b_iconst rfl (by decide) ?_
        refine b_iaddN rfl (by omega) (by omega) ?_
        refine b_callV1v (ν := MX0_readTest) rfl ml0_51 cvX0_readTest (d' := (10 * (7 - (dp + 1)) + 9)) (by omega) rfl (by decide) rfl (Nat.le_of_ble_eq_true rfl) ?_
        rw [eA y40 d7] at hN kq
        have n2 := nf_nee.1 (nf_emi.1 hN)
        have n1 := nf_nee.1 (nf_bnd n2)
        refine h0 (dp + 1) _ (.inr (te n (I0 2) p, c)) _ _ (by omega) (Nat.le_refl _) ⟨_, _, hL1'⟩ (o1.w (by omega) (by omega)) (nf_nee.1 (nf_bnd n1)) (fun H2 s2 => ?_)
        have o2 := ro_bnd (g := P n (I0 2) se f 0 (dp + 1)) o1 (fun q hq => (ro_P f _ _ q hq).1)
        refine ⟨rfl, ?_⟩
        refine b_aload_n rfl rfl ?_
        refine b_getR (r := 24) rfl fl0_9 rfl (by decide) rfl rfl ?_
        refine b_bipush rfl (by decide) ?_
        refine b_callV1v (ν := MX1_needSign) rfl ml0_82 cvX1_needSign (d' := 2) (by omega) rfl (by decide) rfl (Nat.le_of_ble_eq_true rfl) ?_
        refine rs_need hX s2 (o2.w (by omega) (by omega)) (fun H3 s3 => ?_)
        have o3 := ro_nee (B := I0 2) (s := 44) o2
        refine ⟨rfl, ?_⟩
        refine b_aload_n rfl rfl ?_
        refine b_iload_n rfl rfl ?_
        refine b_iconst rfl (by decide) ?_
        refine b_iaddN rfl (by omega) (by omega) ?_
        refine b_callV1v (ν := MX0_readSum) rfl ml0_55 cvX0_readSum (d' := (10 * (7 - (dp + 1)) + 6)) (by omega) rfl (by decide) rfl (Nat.le_of_ble_eq_true rfl) ?_
        refine h3 (dp + 1) _ _ H3 _ (by omega) (Nat.le_refl _) s3 (o3.w (by omega) (by omega)) n1 (fun H4 s4 => ?_)
        have o4 := ro_bnd (g := P n (I0 2) se f 3 (dp + 1)) o3 (fun q hq => (ro_P f _ _ q hq).1)
        refine ⟨rfl, ?_⟩
        refine b_aload_n rfl rfl ?_
        refine b_getR (r := 24) rfl fl0_9 rfl (by decide) rfl rfl ?_
        refine b_bipush rfl (by decide) ?_
        refine b_callV1v (ν := MX1_needSign) rfl ml0_82 cvX1_needSign (d' := 2) (by omega) rfl (by decide) rfl (Nat.le_of_ble_eq_true rfl) ?_
        refine rs_need hX s4 (o4.w (by omega) (by omega)) (fun H5 s5 => ?_)
        have o5 := ro_nee (B := I0 2) (s := 44) o4
        refine ⟨rfl, ?_⟩
        refine b_aload_n rfl rfl ?_
        refine b_iload_n rfl rfl ?_
        refine b_iconst rfl (by decide) ?_
        refine b_iaddN rfl (by omega) (by omega) ?_
        refine b_callV1v (ν := MX0_readSum) rfl ml0_55 cvX0_readSum (d' := (10 * (7 - (dp + 1)) + 6)) (by omega) rfl (by decide) rfl (Nat.le_of_ble_eq_true rfl) ?_
        refine h3 (dp + 1) _ _ H5 _ (by omega) (Nat.le_refl _) s5 (o5.w (by omega) (by omega)) n2 (fun H7 s7 => ?_)
        have o7 := ro_bnd (g := P n (I0 2) se f 3 (dp + 1)) o5 (fun q hq => (ro_P f _ _ q hq).1)
        refine ⟨rfl, ?_⟩
        refine b_aload_n rfl rfl ?_
        refine b_getR (r := 24) rfl fl0_9 rfl (by decide) rfl rfl ?_
        refine b_bipush rfl (by decide) ?_
        refine b_callV1v (ν := MX1_needSign) rfl ml0_82 cvX1_needSign (d' := 2) (by omega) rfl (by decide) rfl (Nat.le_of_ble_eq_true rfl) ?_
        refine rs_need hX s7 (o7.w (by omega) (by omega)) (fun H8 s8 => ?_)
        have o8 := ro_nee (B := I0 2) (s := 41) o7
        refine ⟨rfl, ?_⟩
        refine b_aload_n rfl rfl ?_
        refine b_getR (r := 12) rfl fl0_15 rfl (by decide) rfl rfl ?_
        refine b_bipush rfl (by decide) ?_
        refine b_callV1v (ν := MX3_emit) rfl ml0_70 cvX3_emit (d' := 0) (by omega) rfl (by decide) rfl (Nat.le_of_ble_eq_true rfl) ?_
        refine rs_emit hn s8 (o8.w (by omega) (by omega)) (fun H6 s6 => ?_)
        refine ⟨rfl, ?_⟩
        refine b_vret rfl rfl ?_
        first
        | exact kq _ s6
        | exact kq _ (rsE (eB y40 d7) s2)
      · refine ⟨_, rfl, ?_⟩
        refine b_if_eq (tgt := 84) rfl rfl (fun _ => ?_) (fun z => absurd z (by decide))
        refine b_vret rfl rfl ?_
        first
        | exact kq _ s6
        | exact kq _ (rsE (eB y40 d7) s2)
  obtain ⟨ts, tu, hL⟩ := hS
  refine b_aload_n rfl rfl ?_
  refine b_getR (r := 24) rfl fl0_9 rfl (by decide) rfl rfl ?_
  refine b_bipush rfl (by decide) ?_
  refine b_callV1v (ν := MX1_needSign) rfl ml0_82 cvX1_needSign (d' := 2) (by omega) rfl (by decide) rfl (Nat.le_of_ble_eq_true rfl) ?_
  exact sp_needSign (stW_TX hX) hL (fun y40 H1 hL1 => ⟨rfl, in_ _ y40 hL1⟩) (fun n40 H1 hL1 => ⟨rfl, out_ _ ⟨_, FA_st (by omega), hL1⟩ n40⟩)
  skip
theorem ct_part {f : Nat} (hX : TX I0 n) (hse : I0 26 2 = (se : Int) ∧ se < 256) (h0 : ∀ g, g < f → CTr I0 n k0 se MX0_readTest 9 0 g) (h3 : ∀ g, g < f → CTr I0 n k0 se MX0_readSum 6 3 g) : CTr I0 n k0 se MX0_readPart 4 5 f := by
  intro dp d r H Q hdp hd hS hR hN kq
  cases r with
  | inl e => exact fc_part _ _ e.1 e.2 H Q (by omega) hS kq
  | inr y =>
  obtain ⟨p, c⟩ := y
  cases f with
  | zero => exact absurd rfl (hN 0)
  | succ f =>
  have hn := hX.2.1
  have hb := hR p c rfl
  rw [bnd_inr] at hN kq
  have e0 : tk n (I0 2) p = 2 → pcat c (P n (I0 2) se (f + 1) 5 dp p) = emi (.inr (te n (I0 2) p, c)) (tv n (I0 2) p) := by
    intro a1
    rw [show P n (I0 2) se (f + 1) 5 dp p = .inr (te n (I0 2) p, [tv n (I0 2) p]) from if_pos a1]
    rfl
  have eA : tk n (I0 2) p ≠ 2 → sg n (I0 2) p 40 → dp < 7 → pcat c (P n (I0 2) se (f + 1) 5 dp p) = nee n (I0 2) (bnd (.inr (te n (I0 2) p, c)) (P n (I0 2) se f 3 (dp + 1))) 41 := by
    intro a1 a2 a3
    rw [show P n (I0 2) se (f + 1) 5 dp p = nee n (I0 2) (P n (I0 2) se f 3 (dp + 1) (te n (I0 2) p)) 41 from (if_neg a1).trans ((if_pos a2).trans (if_pos a3)), pre_nee]
    rfl
  have eB : tk n (I0 2) p ≠ 2 → sg n (I0 2) p 40 → ¬ dp < 7 → pcat c (P n (I0 2) se (f + 1) 5 dp p) = .inl (5, (tq n (I0 2) p : Int)) := by
    intro a1 a2 a3
    rw [show P n (I0 2) se (f + 1) 5 dp p = .inl (5, (tq n (I0 2) p : Int)) from (if_neg a1).trans ((if_pos a2).trans (if_neg a3))]
    rfl
  have eC : tk n (I0 2) p ≠ 2 → ¬ sg n (I0 2) p 40 → tw n (I0 2) p = 27 → P n (I0 2) se (f + 1) 5 dp p = pPair n (I0 2) (P n (I0 2) se f) dp (te n (I0 2) p) (-21) := fun a1 a2 a3 => (if_neg a1).trans ((if_neg a2).trans (if_pos a3))
  have eD : tk n (I0 2) p ≠ 2 → ¬ sg n (I0 2) p 40 → tw n (I0 2) p ≠ 27 → tw n (I0 2) p = 28 → P n (I0 2) se (f + 1) 5 dp p = pPair n (I0 2) (P n (I0 2) se f) dp (te n (I0 2) p) (-22) := fun a1 a2 a3 a4 => (if_neg a1).trans ((if_neg a2).trans ((if_neg a3).trans (if_pos a4)))
  have eE : tk n (I0 2) p ≠ 2 → ¬ sg n (I0 2) p 40 → tw n (I0 2) p ≠ 27 → tw n (I0 2) p ≠ 28 → tw n (I0 2) p = 22 → P n (I0 2) se (f + 1) 5 dp p = pIf n (I0 2) (P n (I0 2) se f) dp (te n (I0 2) p) := fun a1 a2 a3 a4 a5 => (if_neg a1).trans ((if_neg a2).trans ((if_neg a3).trans ((if_neg a4).trans (if_pos a5))))
  have eF : tk n (I0 2) p ≠ 2 → ¬ sg n (I0 2) p 40 → tw n (I0 2) p ≠ 27 → tw n (I0 2) p ≠ 28 → tw n (I0 2) p ≠ 22 → P n (I0 2) se (f + 1) 5 dp p = seeF n (I0 2) se p 8 0 := fun a1 a2 a3 a4 a5 => (if_neg a1).trans ((if_neg a2).trans ((if_neg a3).trans ((if_neg a4).trans (if_neg a5))))
  refine rj_of okX0_readPart (Nat.le_of_ble_eq_true rfl) rfl ?_
  have no_ : tk n (I0 2) p ≠ 2 → Bj MX0_readPart d 35 [some (aR 26), some (aI (dp : Int))] [] H Q := by
    intro n2
    refine b_aload_n rfl rfl ?_
    refine b_getR (r := 24) rfl fl0_9 rfl (by decide) rfl rfl ?_
    refine b_bipush rfl (by decide) ?_
    refine b_callV1i (ν := MX1_takeSign) rfl ml0_79 cvX1_takeSign (d' := 2) (by omega) rfl (by decide) rfl (Nat.le_of_ble_eq_true rfl) ?_
    refine rs_takeSign hX hS (fun y40 H1 hL1 => ?_) (fun n40 => ?_)
    · refine ⟨_, rfl, ?_⟩
      refine b_if_eq (tgt := 74) rfl rfl (fun z => absurd z (by decide)) (fun _ => ?_)
      refine b_aload_n rfl rfl ?_
      refine b_iload_n rfl rfl ?_
      refine b_callV1i (ν := MX0_opens) rfl ml0_76 cvX0_opens (d' := 1) (by omega) rfl (by decide) rfl (Nat.le_of_ble_eq_true rfl) ?_
      have o1 := ro_te (B := I0 2) hR (sg_c y40)
      refine rs_opens (by omega) hL1 (fun d7 => ?_) (fun d7 H2 s2 => ?_)
      · refine ⟨_, rfl, ?_⟩
        refine b_if_eq (tgt := 62) rfl rfl (fun z => absurd z (by decide)) (fun _ => ?_)
        refine b_aload_n rfl rfl ?_
        refine b_iload_n rfl rfl ?_
        refine b_iconst rfl (by decide) ?_
        refine b_iaddN rfl (by omega) (by omega) ?_
        refine b_callV1v (ν := MX0_readSum) rfl ml0_55 cvX0_readSum (d' := (10 * (7 - (dp + 1)) + 6)) (by omega) rfl (by decide) rfl (Nat.le_of_ble_eq_true rfl) ?_
        rw [eA n2 y40 d7] at hN
        refine h3 f (by omega) (dp + 1) _ (.inr (te n (I0 2) p, c)) H1 _ (by omega) (Nat.le_refl _) ⟨_, _, hL1⟩ (o1.w (by omega) (by omega)) (nf_nee.1 hN) (fun H2 s2 => ?_)
        refine ⟨rfl, ?_⟩
        refine b_aload_n rfl rfl ?_
        refine b_getR (r := 24) rfl fl0_9 rfl (by decide) rfl rfl ?_
        refine b_bipush rfl (by decide) ?_
        refine b_callV1v (ν := MX1_needSign) rfl ml0_82 cvX1_needSign (d' := 2) (by omega) rfl (by decide) rfl (Nat.le_of_ble_eq_true rfl) ?_
        refine rs_need hX s2 (by first | exact ro_inl | exact (ro_bnd o1 (fun q hq => (ro_P f _ _ q hq).1)).w (by omega) (by omega)) (fun H3 s3 => ?_)
        refine ⟨rfl, ?_⟩
        refine b_goto (tgt := 142) rfl rfl ?_
        refine b_vret rfl rfl ?_
        first
        | exact kq _ (rsE (eA n2 y40 d7) s3)
        | exact kq _ (rsE (eB n2 y40 d7) s3)
        | exact kq _ s3
      · refine ⟨_, rfl, ?_⟩
        refine b_if_eq (tgt := 62) rfl rfl (fun _ => ?_) (fun z => absurd z (by decide))
        refine b_aload_n rfl rfl ?_
        refine b_getR (r := 24) rfl fl0_9 rfl (by decide) rfl rfl ?_
        refine b_bipush rfl (by decide) ?_
        refine b_callV1v (ν := MX1_needSign) rfl ml0_82 cvX1_needSign (d' := 2) (by omega) rfl (by decide) rfl (Nat.le_of_ble_eq_true rfl) ?_
        refine rs_need hX s2 (by first | exact ro_inl | exact (ro_bnd o1 (fun q hq => (ro_P f _ _ q hq).1)).w (by omega) (by omega)) (fun H3 s3 => ?_)
        refine ⟨rfl, ?_⟩
        refine b_goto (tgt := 142) rfl rfl ?_
        refine b_vret rfl rfl ?_
        first
        | exact kq _ (rsE (eA n2 y40 d7) s3)
        | exact kq _ (rsE (eB n2 y40 d7) s3)
        | exact kq _ s3
    · refine ⟨_, rfl, ?_⟩
      refine b_if_eq (tgt := 74) rfl rfl (fun _ => ?_) (fun z => absurd z (by decide))
      refine b_aload_n rfl rfl ?_
      refine b_getR (r := 24) rfl fl0_9 rfl (by decide) rfl rfl ?_
      refine b_bipush rfl (by decide) ?_
      refine b_callV1i (ν := MX1_takeWord) rfl ml0_67 cvX1_takeWord (d' := 2) (by omega) rfl (by decide) rfl (Nat.le_of_ble_eq_true rfl) ?_
      refine rs_takeWord hX (by decide) hS (fun y27 H1 hL1 => ?_) (fun n27 => ?_)
      · refine ⟨_, rfl, ?_⟩
        refine b_if_eq (tgt := 96) rfl rfl (fun z => absurd z (by decide)) (fun _ => ?_)
        refine b_aload_n rfl rfl ?_
        refine b_iload_n rfl rfl ?_
        refine b_bipush rfl (by decide) ?_
        refine b_callV2v (ν := MX0_readPair) rfl ml0_107 cvX0_readPair (d' := (10 * (7 - dp) + 3)) (by omega) rfl (by decide) rfl (Nat.le_of_ble_eq_true rfl) ?_
        rw [eC n2 n40 y27] at hN kq
        refine rs_pair hX hdp (Nat.le_refl _) (h3 f (by omega)) ⟨_, _, hL1⟩ ((ro_te (B := I0 2) hR (tw_c (by decide) y27)).w (by omega) (by omega)) hN (fun H3 s3 => ?_)
        refine ⟨rfl, ?_⟩
        refine b_goto (tgt := 142) rfl rfl ?_
        refine b_vret rfl rfl ?_
        first
        | exact kq _ (rsE (eA n2 y40 d7) s3)
        | exact kq _ (rsE (eB n2 y40 d7) s3)
        | exact kq _ s3
      · refine ⟨_, rfl, ?_⟩
        refine b_if_eq (tgt := 96) rfl rfl (fun _ => ?_) (fun z => absurd z (by decide))
        refine b_aload_n rfl rfl ?_
        refine b_getR (r := 24) rfl fl0_9 rfl (by decide) rfl rfl ?_
        refine b_bipush rfl (by decide) ?_
        refine b_callV1i (ν := MX1_takeWord) rfl ml0_67 cvX1_takeWord (d' := 2) (by omega) rfl (by decide) rfl (Nat.le_of_ble_eq_true rfl) ?_
        refine rs_takeWord hX (by decide) hS (fun y28 H1 hL1 => ?_) (fun n28 => ?_)
        · refine ⟨_, rfl, ?_⟩
          refine b_if_eq (tgt := 118) rfl rfl (fun z => absurd z (by decide)) (fun _ => ?_)
          refine b_aload_n rfl rfl ?_
          refine b_iload_n rfl rfl ?_
          refine b_bipush rfl (by decide) ?_
          refine b_callV2v (ν := MX0_readPair) rfl ml0_107 cvX0_readPair (d' := (10 * (7 - dp) + 3)) (by omega) rfl (by decide) rfl (Nat.le_of_ble_eq_true rfl) ?_
          rw [eD n2 n40 n27 y28] at hN kq
          refine rs_pair hX hdp (Nat.le_refl _) (h3 f (by omega)) ⟨_, _, hL1⟩ ((ro_te (B := I0 2) hR (tw_c (by decide) y28)).w (by omega) (by omega)) hN (fun H3 s3 => ?_)
          refine ⟨rfl, ?_⟩
          refine b_goto (tgt := 142) rfl rfl ?_
          refine b_vret rfl rfl ?_
          first
          | exact kq _ (rsE (eA n2 y40 d7) s3)
          | exact kq _ (rsE (eB n2 y40 d7) s3)
          | exact kq _ s3
        · refine ⟨_, rfl, ?_⟩
          refine b_if_eq (tgt := 118) rfl rfl (fun _ => ?_) (fun z => absurd z (by decide))
          refine b_aload_n rfl rfl ?_
          refine b_getR (r := 24) rfl fl0_9 rfl (by decide) rfl rfl ?_
          refine b_bipush rfl (by decide) ?_
          refine b_callV1i (ν := MX1_takeWord) rfl ml0_67 cvX1_takeWord (d' := 2) (by omega) rfl (by decide) rfl (Nat.le_of_ble_eq_true rfl) ?_
          refine rs_takeWord hX (by decide) hS (fun y22 H1 hL1 => ?_) (fun n22 => ?_)
          · refine ⟨_, rfl, ?_⟩
            refine b_if_eq (tgt := 138) rfl rfl (fun z => absurd z (by decide)) (fun _ => ?_)
            refine b_aload_n rfl rfl ?_
            refine b_iload_n rfl rfl ?_
            refine b_callV1v (ν := MX0_readChoice) rfl ml0_110 cvX0_readChoice (d' := (10 * (7 - dp) + 3)) (by omega) rfl (by decide) rfl (Nat.le_of_ble_eq_true rfl) ?_
            rw [eE n2 n40 n27 n28 y22] at hN kq
            refine rs_if hX hdp (Nat.le_refl _) (h0 f (by omega)) (h3 f (by omega)) ⟨_, _, hL1⟩ ((ro_te (B := I0 2) hR (tw_c (by decide) y22)).w (by omega) (by omega)) hN (fun H3 s3 => ?_)
            refine ⟨rfl, ?_⟩
            refine b_goto (tgt := 142) rfl rfl ?_
            refine b_vret rfl rfl ?_
            first
            | exact kq _ (rsE (eA n2 y40 d7) s3)
            | exact kq _ (rsE (eB n2 y40 d7) s3)
            | exact kq _ s3
          · refine ⟨_, rfl, ?_⟩
            refine b_if_eq (tgt := 138) rfl rfl (fun _ => ?_) (fun z => absurd z (by decide))
            refine b_aload_n rfl rfl ?_
            refine b_callV0v (ν := MX0_readSeen) rfl ml0_113 cvX0_readSeen (d' := 2) (by omega) rfl (by decide) rfl (Nat.le_of_ble_eq_true rfl) ?_
            rw [eF n2 n40 n27 n28 n22] at hN kq
            refine rs_seen hX (Nat.le_refl _) hse hS hR (fun H3 s3 => ?_)
            refine ⟨rfl, ?_⟩
            refine b_vret rfl rfl ?_
            first
            | exact kq _ (rsE (eA n2 y40 d7) s3)
            | exact kq _ (rsE (eB n2 y40 d7) s3)
            | exact kq _ s3
  obtain ⟨ts, tu, hL⟩ := hS
  have hL' := hL
  have yes_ : tk n (I0 2) p = 2 → Bj MX0_readPart d 11 [some (aR 26), some (aI (dp : Int))] [] H Q := by
    intro y2
    have hr := (ro_te (B := I0 2) hR (Or.inr (Or.inl y2)))
    have fin : ∀ H1, Lok (stW I0 k0 c) n (te n (I0 2) p) (tq n (I0 2) p : Int) (tv n (I0 2) p) H1 → Bj MX0_readPart d 18 [some (aR 26), some (aI (dp : Int))] [] H1 Q := by
      intro H1 hL1
      have hL1' := hL1
      obtain ⟨po, va, e, h⟩ := hL1
      subst e
      refine b_aload_n rfl rfl ?_
      refine b_getR (r := 12) rfl fl0_15 rfl (by decide) rfl rfl ?_
      refine b_aload_n rfl rfl ?_
      refine b_getR (r := 24) rfl fl0_9 rfl (by decide) rfl rfl ?_
      refine b_getI rfl fl0_104 rfl (by decide) rfl ?_
      rw [LX_9]
      refine b_callV1v (ν := MX3_emit) rfl ml0_70 cvX3_emit (d' := 0) (by omega) rfl (by decide) rfl (Nat.le_of_ble_eq_true rfl) ?_
      refine rs_emit (r := .inr (te n (I0 2) p, c)) hn ⟨_, _, hL1'⟩ (hr.w (by omega) (by omega)) (fun H3 s3 => ?_)
      refine ⟨rfl, ?_⟩
      refine b_goto (tgt := 142) rfl rfl ?_
      refine b_vret rfl rfl ?_
      exact kq _ (rsE (e0 y2) s3)
    refine b_aload_n rfl rfl ?_
    refine b_getR (r := 24) rfl fl0_9 rfl (by decide) rfl rfl ?_
    refine b_callV0v (ν := MX1_take) rfl ml0_35 cvX1_take (d' := 1) (by omega) rfl (by decide) rfl (Nat.le_of_ble_eq_true rfl) ?_
    refine sp_take (stW_TX hX) hL' (Or.inr (Or.inl y2)) (fun H1 hL1 => ?_)
    refine ⟨rfl, ?_⟩
    exact fin _ hL1
  obtain ⟨po, va, e, h⟩ := hL
  subst e
  refine b_aload_n rfl rfl ?_
  refine b_getR (r := 24) rfl fl0_9 rfl (by decide) rfl rfl ?_
  refine b_getI rfl fl0_89 rfl (by decide) rfl ?_
  rw [LX_3]
  refine b_iconst rfl (by decide) ?_
  refine b_icmp_ne (tgt := 35) rfl rfl (fun c8 => ?_) (fun c8 => ?_)
  · exact no_ (fun w => c8 (by rw [stW_2, w]; rfl))
  · exact yes_ (by rw [stW_2] at c8; omega)
theorem ct_all (hX : TX I0 n) (hse : I0 26 2 = (se : Int) ∧ se < 256) : ∀ f, CTr I0 n k0 se MX0_readTest 9 0 f ∧ CTr I0 n k0 se MX0_readBoth 8 1 f ∧ CTr I0 n k0 se MX0_readFact 7 2 f ∧ CTr I0 n k0 se MX0_readSum 6 3 f ∧ CTr I0 n k0 se MX0_readProduct 5 4 f ∧ CTr I0 n k0 se MX0_readPart 4 5 f := by
  intro f
  induction f using Nat.strongRecOn with
  | ind f ih =>
    exact ⟨ct_test hX (fun g h => (ih g h).2.1), ct_both hX (fun g h => (ih g h).2.2.1), ct_fact hX (fun g h => (ih g h).2.2.1) (fun g h => (ih g h).1) (fun g h => (ih g h).2.2.2.1), ct_sum hX (fun g h => (ih g h).2.2.2.2.1), ct_product hX (fun g h => (ih g h).2.2.2.2.2), ct_part hX hse (fun g h => (ih g h).1) (fun g h => (ih g h).2.2.2.1)⟩
end FRZ
