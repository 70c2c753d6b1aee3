/-! ===== feed, image, stow, order ===== -/
section TWO3
variable {I J K : HI} {C : Nat → List Int} {b : Nat}
theorem tAdd_q {a : Int} {q : Nat} (h : q ≠ 1) (h2 : q ≠ 2) : tAdd J a q = J q := by
  funext k
  unfold tAdd
  rw [if_neg (by omega), if_neg (by omega)]
theorem mAdd_q {a : Int} {q : Nat} (h : q ≠ 57) (h2 : q ≠ 58) : mAdd K a q = K q := by
  funext k
  unfold mAdd
  rw [if_neg (by omega), if_neg (by omega)]
theorem mAdd_57 {a : Int} {j : Nat} (h : j ≠ 1) : mAdd K a 57 j = K 57 j := by
  unfold mAdd
  rw [if_neg (by omega), if_neg (by omega)]
theorem RM_add {a : Int} (h : RM J K C b) (hl : J 1 1 + 4 ≤ 1600) : RM (tAdd J a) (mAdd K a) C b := by
  have j : ∀ q, q ≠ 1 → q ≠ 2 → tAdd J a q = J q := fun q hq h2 => tAdd_q hq h2
  have m : ∀ q, q ≠ 57 → q ≠ 58 → mAdd K a q = K q := fun q hq h2 => mAdd_q hq h2
  have m57 : ∀ i, i ≠ 1 → mAdd K a 57 i = K 57 i := fun i hi => mAdd_57 hi
  have j0 := j 0 (by decide) (by decide)
  have t := h.2.1.2.2.2
  have h1 := h.2.2.1
  have byt_in : ∀ k, 0 ≤ byt a k ∧ byt a k < 256 := fun k => by
    unfold byt
    omega
  have e2 : ∀ k, tAdd J a 2 k = if (J 1 1).toNat ≤ k ∧ k < (J 1 1).toNat + 4 then byt a (k - (J 1 1).toNat) else J 2 k := by
    intro k
    unfold tAdd
    by_cases e : (J 1 1).toNat ≤ k ∧ k < (J 1 1).toNat + 4
    · rw [if_pos ⟨rfl, e⟩, if_pos e]
    · rw [if_neg (by omega), if_neg e, if_neg (by omega)]
  have e58 : ∀ k, mAdd K a 58 k = if (J 1 1).toNat ≤ k ∧ k < (J 1 1).toNat + 4 then byt a (k - (J 1 1).toNat) else K 58 k := by
    intro k
    unfold mAdd
    rw [h1]
    by_cases e : (J 1 1).toNat ≤ k ∧ k < (J 1 1).toNat + 4
    · rw [if_pos ⟨rfl, e⟩, if_pos e]
    · rw [if_neg (by omega), if_neg e, if_neg (by omega)]
  refine RM_G h (fun q hq => j q (by omega) (by omega)) (fun q hq => m q (by omega) (by omega)) (m57 13 (by decide)) (by rw [m57 10 (by decide), j0]; exact h.2.2.2.1) (by rw [m57 11 (by decide), j0]; exact h.2.2.2.2.1) (asB_s h.1.2.1 (m 91 (by decide) (by decide))) (SRn_s h.1.2.2.1 (fun q hq => j q (by omega) (by omega)) (fun q hq => m q (by omega) (by omega)) (shp_of (m 62 (by decide) (by decide)) (m57 13 (by decide)))) (RUn_s h.1.2.2.2 (j 38 (by decide) (by decide)) (j 39 (by decide) (by decide)) (m57 53 (by decide)) (m57 52 (by decide)) (fun q hq => m q (by omega) (by omega)) (shp_of (m 62 (by decide) (by decide)) (m57 13 (by decide)))) (RRw_s h.2.1.1 (by rw [j 44 (by decide) (by decide)]) (by rw [j 44 (by decide) (by decide)]) (j 46 (by decide) (by decide)) (j 48 (by decide) (by decide)) (m57 63 (by decide)) (m57 66 (by decide)) (m 94 (by decide) (by decide)) (m 96 (by decide) (by decide))) (RRf_s h.2.1.2.1 (j 55 (by decide) (by decide)) (m 84 (by decide) (by decide))) (RWr_s h.2.1.2.2.1 (by rw [j0]) (j 56 (by decide) (by decide)) (m57 70 (by decide)) (m 98 (by decide) (by decide))) ⟨?_, ?_, ?_⟩ (by rw [tAdd_1, mAdd_1, h1]) (by rw [m57 54 (by decide), j0]; exact h.2.2.2.2.2.1)
  · rw [tAdd_1]
    have := t.1
    omega
  · intro k
    rw [e2]
    split
    · exact byt_in _
    · exact t.2.1 k
  · intro k hk
    rw [tAdd_1] at hk
    have t1 := t.1
    unfold tAt
    rw [tAdd_1, if_pos (by omega), e58, show ((k : Int)).toNat = k from rfl, e2]
    by_cases e : (J 1 1).toNat ≤ k ∧ k < (J 1 1).toNat + 4
    · rw [if_pos e, if_pos e]
    · rw [if_neg e, if_neg e, t.2.2 k (by omega)]
      unfold tAt
      rw [if_pos (by omega)]
      rfl
theorem KI_12 {J' : HI} (h : KI J C) (e : ∀ q, q ≠ 1 → q ≠ 2 → J' q = J q) : KI J' C := KI_q h (fun q hq => e q (by unfold kiC at hq; omega) (by unfold kiC at hq; omega)) (seB_to h.2.1 (e 28 (by decide) (by decide))) (BX_to h.bx (fun q hq => e q (by omega) (by omega)) (by rw [e 0 (by decide) (by decide)]))
theorem fed_q {x y z u v : Int} {q : Nat} (h : q ≠ 1) (h2 : q ≠ 2) : fed J x y z u v q = J q := by
  unfold fed
  rw [tAdd_q h h2, tAdd_q h h2, tAdd_q h h2, tAdd_q h h2, tAdd_q h h2]
theorem mfed_q {x y z u v : Int} {q : Nat} (h : q ≠ 57) (h2 : q ≠ 58) : mfed J x y z u v q = J q := by
  unfold mfed
  rw [mAdd_q h h2, mAdd_q h h2, mAdd_q h h2, mAdd_q h h2, mAdd_q h h2]
theorem RM_fed {x y z u v : Int} (h : RM J K C b) (hl : J 1 1 + 20 ≤ 1600) : RM (fed J x y z u v) (mfed K x y z u v) C b := by
  unfold fed mfed
  have r1 := RM_add (a := x) h (by omega)
  have r2 := RM_add (a := y) r1 (by rw [tAdd_1]; omega)
  have r3 := RM_add (a := z) r2 (by rw [tAdd_1, tAdd_1]; omega)
  have r4 := RM_add (a := u) r3 (by rw [tAdd_1, tAdd_1, tAdd_1]; omega)
  exact RM_add (a := v) r4 (by rw [tAdd_1, tAdd_1, tAdd_1, tAdd_1]; omega)
theorem tw_feed (h : Iv I) {x y z u v : Int} (ha : in32 x ∧ in32 y ∧ in32 z ∧ in32 u ∧ in32 v) : T2 MX11_feed MX12_feed 1 1 [aI x, aI y, aI z, aI u, aI v] I := by
  obtain ⟨C, b, hK, hR⟩ := h
  have t := hR.2.1.2.2.2
  have h1 := hR.2.2.1
  refine sp_X11_feed ha t.1 (fun hl => ⟨_, rfl, ?_⟩) (fun hl => ⟨_, rfl, ?_⟩)
  · have e57 : fed I x y z u v 57 = I 57 := fed_q (by decide) (by decide)
    have r : RM I (fed I x y z u v) C b := RM_to hR (fun q hq => fed_q (by omega) (by omega))
    refine spm_feed ha (by rw [e57, h1]; exact t.1) (fun _ => ⟨by rw [e57, h1], ?_⟩) (fun w => by rw [e57, h1] at w; omega)
    exact iv_of (KI_12 hK (fun q a c => fed_q a c)) (RM_fed r hl) (fun q hq => mfed_q (by omega) (by omega)) (fun q _ => rfl)
  · have r := RM_to hR (K' := rfs I 0) (fun q hq => up_cell (by omega))
    have e57 : rfs I 0 57 = I 57 := up_cell (by decide)
    refine spm_feed ha (by rw [e57, h1]; exact t.1) (fun w => by rw [e57, h1] at w; omega) (fun _ => ⟨rfl, ?_⟩)
    exact iv_of (KI_rf hK) (RM_rf r) (fun q hq => up_cell (by omega)) (fun q _ => rfl)
theorem imgS_q {q : Nat} (h : q ≠ 0) (h2 : q ≠ 56) : imgS I q = I q := by
  unfold imgS imgF
  rw [up_cell h, up_cell h2, imO_cell h2]
theorem imgS_0 {j : Nat} (h : j ≠ 12) : imgS I 0 j = I 0 j := by
  unfold imgS imgF
  rw [up_n (by omega), up_cell (by decide), imO_cell (by decide)]
theorem tw_image (h : Iv I) : T2 MX11_image MX12_image 4 1 [] I := by
  obtain ⟨C, b, hK, hR⟩ := h
  have hb := hK.bx
  have oI := hb.2.2.2.2.2.1
  refine sp_X11_image hK.wf oI ⟨_, rfl, ?_⟩
  have r : RM I (imgS I) C b := RM_to hR (fun q hq => imgS_q (by omega) (by omega))
  have j : ∀ q, q ≠ 0 → q ≠ 56 → imgS I q = I q := fun q a c => imgS_q a c
  have j0 : ∀ i, i ≠ 12 → imgS I 0 i = I 0 i := fun i hi => imgS_0 hi
  have ns := nS_in hK.po
  have o2 : oB (imgS I) := by
    intro k
    unfold imgS
    rw [up_cell (by decide), up_ap]
    split
    · have := imS_in (f := imgF I 56) (iLn I (nS I) - 1)
      omega
    · exact imO_B hK.wf oI (nS I) (by omega) k
  have k1 : KI (imgS I) C := KI_q hK (fun q hq => j q (by unfold kiC at hq; omega) (by unfold kiC at hq; omega)) (seB_to hK.2.1 (j 28 (by decide) (by decide))) (by
    refine ⟨?_, ?_, ?_, ?_, ?_, o2, ?_, ?_⟩
    · rw [j 32 (by decide) (by decide)]; exact hb.1
    · rw [j 33 (by decide) (by decide)]; exact hb.2.1
    · rw [j 45 (by decide) (by decide)]; exact hb.2.2.1
    · rw [j 53 (by decide) (by decide)]; exact hb.2.2.2.1
    · rw [j 54 (by decide) (by decide)]; exact hb.2.2.2.2.1
    · intro k
      rw [j 36 (by decide) (by decide)]
      exact hb.2.2.2.2.2.2.1 k
    · rw [j0 15 (by decide)]; exact hb.2.2.2.2.2.2.2)
  refine spq_image (mn_of hK r) (fun K' f hw => ⟨rfl, ?_⟩)
  have m : ∀ q, q ≠ 57 → q ≠ 98 → K' q = imgS I q := f.1
  have m57 : ∀ i, i ≠ 70 → K' 57 i = imgS I 57 i := f.2
  refine iv_of k1 (J' := imgS I) (b := b) (RM_G r (fun q hq => j q (by omega) (by omega)) (fun q hq => m q (by omega) (by omega)) (m57 13 (by decide)) (by rw [m57 10 (by decide), j0 13 (by decide)]; exact r.2.2.2.1) (by rw [m57 11 (by decide), j0 14 (by decide)]; exact r.2.2.2.2.1) (asB_s r.1.2.1 (m 91 (by decide) (by decide))) (SRn_s r.1.2.2.1 (fun q hq => j q (by omega) (by omega)) (fun q hq => m q (by omega) (by omega)) (shp_of (m 62 (by decide) (by decide)) (m57 13 (by decide)))) (RUn_s r.1.2.2.2 (j 38 (by decide) (by decide)) (j 39 (by decide) (by decide)) (m57 53 (by decide)) (m57 52 (by decide)) (fun q hq => m q (by omega) (by omega)) (shp_of (m 62 (by decide) (by decide)) (m57 13 (by decide)))) (RRw_s r.2.1.1 (by rw [j 44 (by decide) (by decide)]) (by rw [j 44 (by decide) (by decide)]) (j 46 (by decide) (by decide)) (j 48 (by decide) (by decide)) (m57 63 (by decide)) (m57 66 (by decide)) (m 94 (by decide) (by decide)) (m 96 (by decide) (by decide))) (RRf_s r.2.1.2.1 (j 55 (by decide) (by decide)) (m 84 (by decide) (by decide))) hw (RTp_s r.2.1.2.2.2 (by rw [j 1 (by decide) (by decide)]) (j 2 (by decide) (by decide)) (m 58 (by decide) (by decide))) (by rw [m57 1 (by decide), j 1 (by decide) (by decide)]; exact r.2.2.1) (by rw [m57 54 (by decide), j0 15 (by decide)]; exact r.2.2.2.2.2.1)) (fun q hq => m q (by omega) (by omega)) (fun q _ => rfl)
theorem BX_tr (hb : BX J) : ∀ k, 0 ≤ trO J k ∧ trO J k ≤ 20 := by
  intro k
  unfold trO
  split
  · exact hb.1 k
  · exact hb.2.2.1 k
/-- a trial of the class: rows, trial and scratch only -/
theorem KI_row {J' : HI} (h : KI J C) (hs : seB J') (e : ∀ q, q ≠ 1 → q ≠ 28 → q ≠ 29 → (q < 44 ∨ 49 < q) → J' q = J q) (h45 : J' 45 = trO J) : KI J' C := by
  have hb := h.bx
  refine KI_q h (fun q hq => e q (by unfold kiC at hq; omega) (by unfold kiC at hq; omega) (by unfold kiC at hq; omega) (by unfold kiC at hq; omega)) hs ?_
  have j : ∀ q, q ≠ 1 → q ≠ 28 → q ≠ 29 → (q < 44 ∨ 49 < q) → J' q = J q := e
  unfold BX oB tB at *
  rw [j 32 (by decide) (by decide) (by decide) (by decide), j 33 (by decide) (by decide) (by decide) (by decide), j 53 (by decide) (by decide) (by decide) (by decide), j 54 (by decide) (by decide) (by decide) (by decide), j 56 (by decide) (by decide) (by decide) (by decide), j 36 (by decide) (by decide) (by decide) (by decide), j 0 (by decide) (by decide) (by decide) (by decide), h45]
  exact ⟨hb.1, hb.2.1, BX_tr h.bx, hb.2.2.2⟩
theorem RM_row {J' K' : HI} (h : RM J K C b) (e : ∀ q, q ≠ 1 → q ≠ 28 → q ≠ 29 → (q < 44 ∨ 49 < q) → J' q = J q) (e1 : J' 1 1 = 0) (k1 : K' 57 1 = 0) (f : ∀ q, q ≠ 57 → q ≠ 85 → (q < 86 ∨ 97 < q) → K' q = K q) (g : ∀ j, j ≠ 1 → j ≠ 63 → j ≠ 66 → ¬ (57 ≤ j ∧ j ≤ 60) → K' 57 j = K 57 j) (has : asB K') (hS : SRn J' K') (hU : RUn J' K') (hw : RRw J' K') : RM J' K' C b := by
  have j0 := e 0 (by decide) (by decide) (by decide) (by decide)
  have j2 := e 2 (by decide) (by decide) (by decide) (by decide)
  have t := h.2.1.2.2.2
  refine RM_G h (fun q hq => e q (by omega) (by omega) (by omega) (by omega)) (fun q hq => f q (by omega) (by omega) (by omega)) (g 13 (by decide) (by decide) (by decide) (by decide)) (by rw [g 10 (by decide) (by decide) (by decide) (by decide), j0]; exact h.2.2.2.1) (by rw [g 11 (by decide) (by decide) (by decide) (by decide), j0]; exact h.2.2.2.2.1) has hS hU hw (RRf_s h.2.1.2.1 (e 55 (by decide) (by decide) (by decide) (by decide)) (f 84 (by decide) (by decide) (by decide))) (RWr_s h.2.1.2.2.1 (by rw [j0]) (e 56 (by decide) (by decide) (by decide) (by decide)) (g 70 (by decide) (by decide) (by decide) (by decide)) (f 98 (by decide) (by decide) (by decide))) ⟨?_, ?_, ?_⟩ (by rw [k1, e1]) (by rw [g 54 (by decide) (by decide) (by decide) (by decide), j0]; exact h.2.2.2.2.2.1)
  · rw [e1]; decide
  · rw [j2]; exact t.2.1
  · intro k hk
    rw [e1] at hk
    omega
theorem paH_q {st : SW} {q : Nat} (h : q < 44 ∨ 49 < q) : paH I st q = I q := by
  unfold paH hSW
  rw [up_cell (by omega), row_cell (by omega), row_cell (by omega), row_cell (by omega), up_cell (by omega)]
theorem tw_stow (h : Iv I) {x : Int} : T2 MX11_stow MX12_stow 11 3 [aI x] I := by
  obtain ⟨C, b, hK, hR⟩ := h
  have hb := hK.bx
  have t := hR.2.1.2.2.2
  refine sp_X11_stow hK.wf t.1 hb.2.2.1 (fun s n e1 e2 e3 e4 => ⟨_, rfl, ?_⟩) (fun hk => ⟨_, rfl, ?_⟩)
  · generalize hst : paS I (fun k => (tAt I (k : Int)).toNat) (fun w => I 6 w - I 7 w) s n (tT (hSW I (trO I) (stO I)) 45 s) = st
    have j : ∀ q, q ≠ 1 → q ≠ 28 → q ≠ 29 → (q < 44 ∨ 49 < q) → up (paH I st) 1 1 0 q = I q := fun q a _ _ c => by rw [up_cell a]; exact paH_q c
    have r : RM I (up (paH I st) 1 1 0) C b := RM_to hR (fun q hq => j q (by omega) (by omega) (by omega) (by omega))
    have k1 : KI (up (paH I st) 1 1 0) C := KI_row hK (seB_to hK.2.1 (by rw [up_cell (by decide)]; exact paH_q (by omega))) j (by
      rw [up_cell (by decide)]
      unfold paH hSW
      rw [up_cell (by decide), row_same])
    refine spq_stow (mn_of hK r) r.2.1.2.2.2 r.2.2.1 (fun s' n' g1 g2 g3 g4 st' hst' K' f k63 k94 => ?_) (fun w => absurd ⟨kO1 e1 e3, e4⟩ w)
    have q1 : s = s' := by omega
    have q2 : n = n' := by omega
    subst q1 q2
    have q3 : st' = st := by rw [hst', hst]
    subst q3
    refine ⟨rfl, iv_of k1 (J' := up (paH I st') 1 1 0) (b := b) (RM_row r j rfl (by rw [f.2.1 1 (by decide) (by decide), up_s]) (fun q a _ c => by rw [f.1 q a (by omega) (by omega), up_cell a]) (fun i a c _ d => by rw [f.2.1 i d c, up_n (by omega)]) f.2.2 ?_ ?_ ⟨?_, ?_⟩) (fun q hq => by rw [f.1 q (by omega) (by omega) (by omega), up_cell (by omega)]) (fun q _ => rfl)⟩
    · exact SRn_s r.1.2.2.1 (fun q hq => j q (by omega) (by omega) (by omega) (by omega)) (fun q hq => by rw [f.1 q (by omega) (by omega) (by omega), up_cell (by omega)]) (shp_of (by rw [f.1 62 (by omega) (by omega) (by omega), up_cell (by omega)]) (by rw [f.2.1 13 (by decide) (by decide), up_n (by decide)]))
    · exact RUn_s r.1.2.2.2 (j 38 (by decide) (by decide) (by decide) (by decide)) (j 39 (by decide) (by decide) (by decide) (by decide)) (by rw [f.2.1 53 (by decide) (by decide), up_n (by decide)]) (by rw [f.2.1 52 (by decide) (by decide), up_n (by decide)]) (fun q hq => by rw [f.1 q (by omega) (by omega) (by omega), up_cell (by omega)]) (shp_of (by rw [f.1 62 (by omega) (by omega) (by omega), up_cell (by omega)]) (by rw [f.2.1 13 (by decide) (by decide), up_n (by decide)]))
    · have e10 : up (paH I st') 1 1 0 44 10 = if st'.1 = -1 then 0 else I 1 1 := by
        rw [up_cell (by decide)]
        unfold paH
        rw [up_s]
      have e46 : up (paH I st') 1 1 0 46 = st'.2.1 := by
        rw [up_cell (by decide)]
        unfold paH hSW
        rw [up_cell (by decide), row_cell (by decide), row_cell (by decide), row_same]
      have aw := e4
      unfold awP at aw
      rw [e10, e46, k63]
      by_cases hm : st'.1 = -1
      · rw [if_pos hm]
        exact ⟨rfl, by decide, by decide, fun k hk => by omega⟩
      · rw [if_neg hm]
        exact ⟨rfl, by omega, by omega, fun k hk => k94 k (by omega) hm⟩
    · have w := r.2.1.1.2
      have e11 : up (paH I st') 1 1 0 44 11 = I 44 11 := by
        rw [up_cell (by decide)]
        unfold paH hSW
        rw [up_n (by decide), row_cell (by decide), row_cell (by decide), row_cell (by decide), up_n (by decide)]
      have e48 : up (paH I st') 1 1 0 48 = I 48 := by
        rw [up_cell (by decide)]
        unfold paH hSW
        rw [up_cell (by decide), row_cell (by decide), row_cell (by decide), row_cell (by decide), up_cell (by decide)]
      rw [e11, e48, f.2.1 66 (by decide) (by decide), up_n (by decide), f.1 96 (by decide) (by decide) (by decide), up_cell (by decide)]
      exact w
  · have r := RM_to hR (K' := up (rfs I 5) 1 1 0) (fun q hq => by rw [up_cell (by omega)]; exact up_cell (by omega))
    refine spq_stow (mn_of hK r) r.2.1.2.2.2 r.2.2.1 (fun s' n' g1 g2 g3 g4 st' hst' K' f k63 k94 => absurd ⟨kO1 g1 g3, g4⟩ hk) (fun _ => ⟨rfl, ?_⟩)
    exact iv_of (KI_u (KI_rf hK) (by omega)) (RM_re r) (fun q hq => by unfold mrf; rw [up_cell (by omega), up_cell (by omega)]) (fun q _ => rfl)
theorem tw_order (h : Iv I) {x : Int} : T2 MX11_order MX12_order 7 8 [aI x] I := by
  obtain ⟨C, b, hK, hR⟩ := h
  have hb := hK.bx
  have t := hR.2.1.2.2.2
  have g := hK.2.2.1.2.1
  refine sp_X11_order hK.wf t.1 hb.2.2.1 (fun s c m L K e1 e2 e3 e4 e5 e6 e7 hO => ⟨_, rfl, ?_⟩) (fun hk => ⟨_, rfl, ?_⟩)
  · obtain ⟨o1, o2, o3, o4, o5⟩ := hO
    have j : ∀ q, q ≠ 1 → q ≠ 28 → q ≠ 29 → (q < 44 ∨ 49 < q) → up K 1 1 0 q = I q := fun q a d1 d2 c => by rw [up_cell a]; exact o1 q d1 d2 (by omega) (by omega) (by omega) (by omega)
    have r : RM I (up K 1 1 0) C b := RM_to hR (fun q hq => j q (by omega) (by omega) (by omega) (by omega))
    have k1 : KI (up K 1 1 0) C := KI_row hK (seB_to o2 (up_cell (by decide))) j (by rw [up_cell (by decide)]; exact o4)
    refine spq_order (L := L) (mn_of hK r) r.2.1.2.2.2 r.2.2.1 r.1.2.2.2 g.2.2 (BX_tr hb) (fun s' c' m' g1 g2 g3 g4 g5 g6 u hu => ?_) (fun s' c' m' g1 g2 g3 g4 g5 g6 K' f => ?_) (fun w => absurd ⟨kO1 e1 e2, by subst e1; show I 31 s ≠ -1; omega, by rw [e1]; exact e5⟩ w)
    · have q1 : s = s' := by omega
      subst q1
      have q2 : c = c' := by omega
      have q3 : m = m' := by omega
      subst q2 q3
      exact e7 u hu
    · have q1 : s = s' := by omega
      subst q1
      have q2 : c = c' := by omega
      have q3 : m = m' := by omega
      subst q2 q3
      obtain ⟨f1, f2, f3, f4, f5, f6, f7, f8⟩ := f
      have sr : SRn (up K 1 1 0) K' := SRn_J f7 (fun q hq => j q (by omega) (by omega) (by omega) (by omega))
      have ru : RUn (up K 1 1 0) K' := RUn_J f8 (j 38 (by decide) (by decide) (by decide) (by decide)) (j 39 (by decide) (by decide) (by decide) (by decide))
      refine ⟨rfl, iv_of k1 (J' := up K 1 1 0) (b := b) (RM_row r j rfl f4 (fun q a c d => f1 q a (by omega) (by omega) (by omega)) (fun i a _ c d => f2 i a c d) f3 sr ru ⟨?_, ?_⟩) (fun q hq => f1 q (by omega) (by omega) (by omega) (by omega)) (fun q _ => rfl)⟩
      · have w := r.2.1.1.1
        have e10 : up K 1 1 0 44 10 = I 44 10 := by rw [up_cell (by decide), o3, if_neg (by decide)]
        have e46 : up K 1 1 0 46 = I 46 := by rw [up_cell (by decide)]; exact o1 46 (by decide) (by decide) (by decide) (by decide) (by decide) (by decide)
        rw [e10, e46, f2 63 (by decide) (by decide) (by decide), f1 94 (by decide) (by decide) (by decide) (by decide)]
        exact w
      · have e11 : up K 1 1 0 44 11 = if L 0 = 0 then 0 else (m : Int) := by rw [up_cell (by decide), o3, if_pos rfl]
        have e48 : up K 1 1 0 48 = K 48 := up_cell (by decide)
        have ac := e5
        unfold acP at ac
        rw [e11, e48, f5]
        by_cases hm : L 0 = 0
        · rw [if_pos hm]
          exact ⟨rfl, by decide, by decide, fun k hk => by omega⟩
        · rw [if_neg hm]
          exact ⟨rfl, by omega, by omega, fun k hk => by rw [f6 hm k (by omega), o5 hm k (by omega)]⟩
  · have r := RM_to hR (K' := up (rfs I 5) 1 1 0) (fun q hq => by rw [up_cell (by omega)]; exact up_cell (by omega))
    refine spq_order (L := fun _ => 0) (mn_of hK r) r.2.1.2.2.2 r.2.2.1 r.1.2.2.2 g.2.2 (BX_tr hb) (fun s' c' m' g1 g2 g3 g4 g5 g6 u hu => absurd ⟨kO1 g1 g2, by subst g1; show I 31 s' ≠ -1; omega, by rw [g1]; exact g5⟩ hk) (fun s' c' m' g1 g2 g3 g4 g5 g6 K' f => absurd ⟨kO1 g1 g2, by subst g1; show I 31 s' ≠ -1; omega, by rw [g1]; exact g5⟩ hk) (fun _ => ⟨rfl, ?_⟩)
    exact iv_of (KI_u (KI_rf hK) (by omega)) (RM_re r) (fun q hq => by unfold mrf; rw [up_cell (by omega), up_cell (by omega)]) (fun q _ => rfl)
end TWO3
