/-! ===== WrongTide: hours and gales ===== -/
theorem Sc.up {I J : HI} (h : Sc I J) {q k : Nat} {v : Int} (h1 : q ≠ 28) (h2 : q ≠ 29) : Sc (up I q k v) (up J q k v) := by
  refine ⟨fun p e1 e2 => ?_, ?_⟩
  · funext j
    rw [up_ap, up_ap, h.ap e1 e2]
  · have := h.2
    unfold seB at *
    rw [up_cell (fun e => h1 e.symm)]
    exact this
theorem At.up {I J : HI} {C : Nat → List Int} {h : Int} (hA : At I J C h) {q k : Nat} {v : Int} (h1 : q ≠ 28) (h2 : q ≠ 29) : At (up I q k v) (up J q k v) C h := by
  refine ⟨hA.1.up h1 h2, ?_⟩
  rw [up_cell (fun e => h1 e.symm)]
  exact hA.2
theorem CP.of {I J : HI} {C : Nat → List Int} (h : CP I C) (e : ∀ q, 0 < q → q < 20 → J q = I q) : CP J C :=
  ⟨pOK_to h.1 (e 4 (by decide) (by decide)) (e 6 (by decide) (by decide)) (e 7 (by decide) (by decide)), FM_to h.2.1 (e 8 (by decide) (by decide)) (e 9 (by decide) (by decide)) (e 10 (by decide) (by decide)), h.2.2⟩
theorem WF.of {I J : HI} {C : Nat → List Int} (h : WF I C) (e : ∀ q, q < 38 → J q = I q) : WF J C := by
  obtain ⟨h1, h2, h3, h4, h5⟩ := h
  refine ⟨h1.of (fun q _ hq => e q (by omega)), ?_, ?_, ?_, ?_⟩
  · unfold seB at *; rw [e 28 (by decide)]; exact h2
  · rw [e 30 (by decide)]; exact h3
  · rw [e 32 (by decide)]; exact h4
  · rw [e 4 (by decide), e 31 (by decide)]; exact h5
theorem WF.rem {I : HI} {C : Nat → List Int} (h : WF I C) : WF (rem_ I) C := h.of (fun q hq => rem_cell (by omega) (by omega))
theorem SF_to {I J : HI} {C : Nat → List Int} {h : Int} {cr s b : Nat} (h4 : J 4 = I 4) (h6 : J 6 = I 6) (h7 : J 7 = I 7) (hc : J cr = I cr) : SF J C h cr s b ↔ SF I C h cr s b := by
  obtain ⟨e1, e2, e3, e4⟩ := tX_to (s := s) h4 h6 h7 hc
  unfold SF lvl hS_
  rw [e1, e2, e3, h6, h7]
noncomputable def nwl (I : HI) (C : Nat → List Int) (h : Int) (k : Nat) : Int := pI (unP I C h k) (-1) (I 31 k)
noncomputable def hrB (I : HI) (C : Nat → List Int) (h : Int) (i : Nat) : HI := row (up I 30 5 h) 31 (fun k => if k < i then nwl I C h k else I 31 k)
noncomputable def hrS (I : HI) (C : Nat → List Int) : HI := hrB I C (I 30 5 + 1) (nS I)
noncomputable def lsN (I : HI) (C : Nat → List Int) (h : Int) (n : Nat) : Int := sumN n (fun k => pI (unP I C h k) 1 0)
theorem hrB_cell {I : HI} {C : Nat → List Int} {h : Int} {i q : Nat} (h1 : q ≠ 30) (h2 : q ≠ 31) : hrB I C h i q = I q := by
  unfold hrB
  rw [row_cell h2, up_cell h1]
theorem hrB_31 {I : HI} {C : Nat → List Int} {h : Int} {i k : Nat} : hrB I C h i 31 k = if k < i then nwl I C h k else I 31 k := rfl
theorem hrB_skip {I : HI} {C : Nat → List Int} {h : Int} {i : Nat} (e : nwl I C h i = I 31 i) : hrB I C h (i + 1) = hrB I C h i := by
  funext q k
  unfold hrB
  rw [row_ap, row_ap]
  split
  · by_cases hk : k = i
    · subst hk; rw [if_pos (by omega), if_neg (by omega)]; exact e
    · by_cases h2 : k < i
      · rw [if_pos (by omega), if_pos h2]
      · rw [if_neg (by omega), if_neg h2]
  · rfl
theorem hrB_put {I : HI} {C : Nat → List Int} {h : Int} {i : Nat} {v : Int} (e : nwl I C h i = v) : hrB I C h (i + 1) = up (hrB I C h i) 31 i v := by
  funext q k
  unfold hrB
  rw [up_ap, row_ap, row_ap]
  subst e
  grind
theorem hrB_0 {I J : HI} {C : Nat → List Int} {h : Int} (hS : Sc I J) : Sc (hrB I C h 0) (up J 30 5 h) := by
  have : hrB I C h 0 = up I 30 5 h := by
    funext q k
    unfold hrB
    rw [row_ap]
    split
    · rename_i e; rw [e, if_neg (by omega), up_cell (by decide)]
    · rfl
  rw [this]
  exact hS.up (by decide) (by decide)
theorem lsN_in {I : HI} {C : Nat → List Int} {h : Int} (n : Nat) : 0 ≤ lsN I C h n ∧ lsN I C h n ≤ n := by
  have := sumN_le (n := n) (f := fun k => pI (unP I C h k) 1 0) (a := 0) (b := 1) (fun k _ => by
    by_cases g : unP I C h k
    · rw [pI_1 g]; omega
    · rw [pI_0 g]; omega)
  unfold lsN
  omega
theorem sp_X11_passHour {I J0 : HI} {Q : Option AV → HI → Prop} {C : Nat → List Int} (hW : WF I C) (hS0 : Sc I J0) (hh : I 30 5 + 1 ≤ 9999) (kq : ∀ K, Sc (hrS I C) K → Q (some (aI (lsN I C (I 30 5 + 1) (nS I)))) K) : Rj MX11_passHour 6 [aR 0] J0 Q := by
  have r := hW.2.2.1
  obtain ⟨n6, n1⟩ := nS_in hW.1.1
  have e30 : J0 30 5 = I 30 5 := hS0.ap (by decide) (by decide)
  unfold hrS at kq
  generalize hh0 : I 30 5 + 1 = h at *
  have hB : ∀ i, CP (hrB I C h i) C := fun i => hW.1.of (fun q _ hq => hrB_cell (by omega) (by omega))
  refine rj_of okX11_passHour (Nat.le_of_ble_eq_true rfl) rfl ?_
  have lp : ∀ (n i : Nat) (J : HI) (y z : Int), At (hrB I C h i) J C h → z = (i : Int) → i + n = nS I → y = lsN I C h i → Bj MX11_passHour 6 31 [some (aR 0), some (aI y), some (aI z)] [] J Q := by
    intro n
    induction n with
    | zero =>
      intro i J y z hA hz hi hy
      have e4 : J 4 1 = I 4 1 := by rw [hA.1.1 4 (by decide) (by decide), hrB_cell (by decide) (by decide)]
      refine b_iload_n rfl rfl ?_
      refine b_aload_n rfl rfl ?_
      refine b_getR (r := 3) rfl fl11_19 rfl (by decide) rfl rfl ?_
      refine b_getR (r := 4) rfl fl11_150 rfl (by decide) rfl rfl ?_
      refine b_iconst rfl (by decide) ?_
      refine b_ialdL (k := 1) rfl rfl rfl (by decide) ?_
      refine b_icmp_ge (tgt := 84) rfl rfl (fun c41 => ?_) (fun c41 => ?_)
      · refine b_iload_n rfl rfl ?_
        refine b_iret rfl rfl ?_
        have ei : i = nS I := by omega
        subst ei
        exact qI (kq _ hA.1) hy.symm rfl
      · omega
    | succ n ih =>
      intro i J y z hA hz hi hy
      subst hz
      have e4 : J 4 1 = I 4 1 := by rw [hA.1.1 4 (by decide) (by decide), hrB_cell (by decide) (by decide)]
      have hs : (i : Int) < I 4 1 := by omega
      have hl := hW.2.2.2.2 i hs
      have hbl := lsN_in (I := I) (C := C) (h := h) i
      have e31 : J 31 i = I 31 i := by rw [hA.1.1 31 (by decide) (by decide), hrB_31, if_neg (by omega)]
      have hSF : ∀ b, SF (hrB I C h i) C h 32 i b ↔ SF I C h 32 i b := fun b => SF_to (hrB_cell (by decide) (by decide)) (hrB_cell (by decide) (by decide)) (hrB_cell (by decide) (by decide)) (hrB_cell (by decide) (by decide))
      have q0 : ¬ unP I C h i → nwl I C h i = I 31 i ∧ lsN I C h (i + 1) = lsN I C h i := fun g => ⟨pI_0 g, by show lsN I C h i + pI (unP I C h i) 1 0 = _; rw [pI_0 g]; omega⟩
      have q1 : unP I C h i → nwl I C h i = -1 ∧ lsN I C h (i + 1) = lsN I C h i + 1 := fun g => ⟨pI_1 g, by show lsN I C h i + pI (unP I C h i) 1 0 = _; rw [pI_1 g]⟩
      refine b_iload_n rfl rfl ?_
      refine b_aload_n rfl rfl ?_
      refine b_getR (r := 3) rfl fl11_19 rfl (by decide) rfl rfl ?_
      refine b_getR (r := 4) rfl fl11_150 rfl (by decide) rfl rfl ?_
      refine b_iconst rfl (by decide) ?_
      refine b_ialdL (k := 1) rfl rfl rfl (by decide) ?_
      refine b_icmp_ge (tgt := 84) rfl rfl (fun c41 => ?_) (fun c41 => ?_)
      · omega
      · refine b_aload_n rfl rfl ?_
        refine b_getR (r := 30) rfl fl11_44 rfl (by decide) rfl rfl ?_
        refine b_getR (r := 31) rfl fl11_205 rfl (by decide) rfl rfl ?_
        refine b_iload_n rfl rfl ?_
        refine b_iald rfl rfl (by omega) (by omega) ?_
        rw [Int.toNat_natCast, e31]
        refine b_iconst rfl (by decide) ?_
        refine b_icmp_eq (tgt := 78) rfl rfl (fun c54 => ?_) (fun c54 => ?_)
        · refine b_iincX (F := fun z78 => [some (aR 0), some (aI y), some (aI z78)]) rfl rfl (by omega) (by omega) (fun _ => rfl) (fun z78 ez78 => ?_)
          refine b_goto (tgt := 31) rfl rfl ?_
          first
          | (have hq := q0 (fun w => w.1 (by omega))
             exact ih (i + 1) _ _ _ (by rw [hrB_skip hq.1]; exact hA) (by omega) (by omega) (by rw [hq.2]; exact hy))
          | (have hq := q0 (fun w => w.2 ((hSF _).1 hf))
             exact ih (i + 1) _ _ _ (by rw [hrB_skip hq.1]; exact hB2) (by omega) (by omega) (by rw [hq.2]; exact hy))
          | (have hq := q1 ⟨by omega, fun w => hf ((hSF _).2 w)⟩
             exact ih (i + 1) _ _ _ (by rw [hrB_put hq.1]; exact hB2.up (by decide) (by decide)) (by omega) (by omega) (by rw [hq.2]; omega))
        · refine b_aload_n rfl rfl ?_
          refine b_iload_n rfl rfl ?_
          refine b_callV1i (ν := MX11_isSafe) rfl ml11_242 cvX11_isSafe (d' := 5) (by omega) rfl (by decide) rfl (Nat.le_of_ble_eq_true rfl) ?_
          refine spa_isSafe (b := (I 31 i).toNat) (hB i) hA (by rw [hrB_cell (by decide) (by decide)]; exact hW.2.2.2.1) (by rw [hrB_cell (by decide) (by decide)]; exact hs) (by rw [hrB_31, if_neg (by omega)]; omega) (by rw [hrB_cell (by decide) (by decide)]; omega) (fun hf K hB2 => ?_) (fun hf K hB2 => ?_)
          · refine ⟨_, rfl, ?_⟩
            refine b_if_ne (tgt := 78) rfl rfl (fun _ => ?_) (fun z => absurd z (by decide))
            refine b_iincX (F := fun z78 => [some (aR 0), some (aI y), some (aI z78)]) rfl rfl (by omega) (by omega) (fun _ => rfl) (fun z78 ez78 => ?_)
            refine b_goto (tgt := 31) rfl rfl ?_
            first
            | (have hq := q0 (fun w => w.1 (by omega))
               exact ih (i + 1) _ _ _ (by rw [hrB_skip hq.1]; exact hA) (by omega) (by omega) (by rw [hq.2]; exact hy))
            | (have hq := q0 (fun w => w.2 ((hSF _).1 hf))
               exact ih (i + 1) _ _ _ (by rw [hrB_skip hq.1]; exact hB2) (by omega) (by omega) (by rw [hq.2]; exact hy))
            | (have hq := q1 ⟨by omega, fun w => hf ((hSF _).2 w)⟩
               exact ih (i + 1) _ _ _ (by rw [hrB_put hq.1]; exact hB2.up (by decide) (by decide)) (by omega) (by omega) (by rw [hq.2]; omega))
          · refine ⟨_, rfl, ?_⟩
            refine b_if_ne (tgt := 78) rfl rfl (fun z => absurd z (by decide)) (fun _ => ?_)
            refine b_aload_n rfl rfl ?_
            refine b_getR (r := 30) rfl fl11_44 rfl (by decide) rfl rfl ?_
            refine b_getR (r := 31) rfl fl11_205 rfl (by decide) rfl rfl ?_
            refine b_iload_n rfl rfl ?_
            refine b_iconst rfl (by decide) ?_
            refine b_iast rfl rfl (by omega) (by omega) ?_
            rw [Int.toNat_natCast]
            refine b_iincX (F := fun z75 => [some (aR 0), some (aI z75), some (aI (i : Int))]) rfl rfl (by omega) (by omega) (fun _ => rfl) (fun z75 ez75 => ?_)
            refine b_iincX (F := fun z78 => [some (aR 0), some (aI z75), some (aI z78)]) rfl rfl (by omega) (by omega) (fun _ => rfl) (fun z78 ez78 => ?_)
            refine b_goto (tgt := 31) rfl rfl ?_
            first
            | (have hq := q0 (fun w => w.1 (by omega))
               exact ih (i + 1) _ _ _ (by rw [hrB_skip hq.1]; exact hA) (by omega) (by omega) (by rw [hq.2]; exact hy))
            | (have hq := q0 (fun w => w.2 ((hSF _).1 hf))
               exact ih (i + 1) _ _ _ (by rw [hrB_skip hq.1]; exact hB2) (by omega) (by omega) (by rw [hq.2]; exact hy))
            | (have hq := q1 ⟨by omega, fun w => hf ((hSF _).2 w)⟩
               exact ih (i + 1) _ _ _ (by rw [hrB_put hq.1]; exact hB2.up (by decide) (by decide)) (by omega) (by omega) (by rw [hq.2]; omega))
  have rS := hrB_0 (C := C) (h := h) hS0
  refine b_aload_n rfl rfl ?_
  refine b_getR (r := 30) rfl fl11_44 rfl (by decide) rfl rfl ?_
  refine b_dup rfl rfl ?_
  refine b_getI rfl fl11_153 rfl (by decide) rfl ?_
  refine b_iconst rfl (by decide) ?_
  refine b_iaddN rfl (by omega) (by omega) ?_
  refine b_putI rfl fl11_153 rfl (by decide) rfl ?_
  rw [show J0 30 5 + 1 = h by omega]
  refine b_aload_n rfl rfl ?_
  refine b_getR (r := 27) rfl fl11_37 rfl (by decide) rfl rfl ?_
  refine b_aload_n rfl rfl ?_
  refine b_getR (r := 30) rfl fl11_44 rfl (by decide) rfl rfl ?_
  refine b_getI rfl fl11_153 rfl (by decide) rfl ?_
  try simp only [up_ap, cpy_ap, fil_ap, row_ap, Nat.reduceEqDiff, Nat.reduceLT, Nat.reduceLeDiff, Int.toNat_natCast, Int.reduceToNat, reduceCtorEq, false_and, and_false, true_and, and_true, and_self, reduceIte]
  refine b_callV1v (ν := MX5_atHour) rfl ml11_195 cvX5_atHour (d' := 3) (by omega) rfl (by decide) rfl (Nat.le_of_ble_eq_true rfl) ?_
  refine spa_atHour (hB 0) rS (by omega) (fun K hA => ?_)
  refine ⟨rfl, ?_⟩
  refine b_iconst rfl (by decide) ?_
  refine b_istoreX_n (F := fun z28 => [some (aR 0), some (aI z28), none]) rfl (by decide) (fun _ => rfl) (fun z28 ez28 => ?_)
  refine b_iconst rfl (by decide) ?_
  refine b_istoreX_n (F := fun z30 => [some (aR 0), some (aI z28), some (aI z30)]) rfl (by decide) (fun _ => rfl) (fun z30 ez30 => ?_)
  exact lp (nS I) 0 _ _ _ hA (by omega) (by omega) (by rw [show lsN I C h 0 = 0 from rfl]; omega)
theorem WF.hr {I : HI} {C : Nat → List Int} (h : WF I C) (hh : I 30 5 + 1 ≤ 9999) : WF (hrS I C) C := by
  obtain ⟨h1, h2, h3, h4, h5⟩ := h
  unfold hrS
  refine ⟨h1.of (fun q _ hq => hrB_cell (by omega) (by omega)), ?_, ?_, ?_, ?_⟩
  · unfold seB at *; rw [hrB_cell (by decide) (by decide)]; exact h2
  · have : hrB I C (I 30 5 + 1) (nS I) 30 5 = I 30 5 + 1 := rfl
    rw [this]; omega
  · rw [hrB_cell (by decide) (by decide)]; exact h4
  · rw [hrB_cell (by decide) (by decide)]
    intro s hs
    have := h5 s hs
    rw [hrB_31]
    split
    · unfold nwl
      by_cases g : unP I C (I 30 5 + 1) s
      · rw [pI_1 g]; exact Or.inl rfl
      · rw [pI_0 g]; exact this
    · exact this
noncomputable def hrN (I : HI) (C : Nat → List Int) : Nat → HI
  | 0 => I
  | n + 1 => hrS (hrN I C n) C
noncomputable def hlN (I : HI) (C : Nat → List Int) : Nat → Int
  | 0 => 0
  | n + 1 => hlN I C n + lsN (hrN I C n) C (hrN I C n 30 5 + 1) (nS (hrN I C n))
theorem hrN_5 {I : HI} {C : Nat → List Int} (n : Nat) : hrN I C n 30 5 = I 30 5 + n := by
  induction n with
  | zero => show I 30 5 = _; omega
  | succ n ih =>
    show hrN I C n 30 5 + 1 = _
    omega
theorem hrN_W {I : HI} {C : Nat → List Int} (h : WF I C) (n : Nat) (hn : I 30 5 + n ≤ 9999) : WF (hrN I C n) C := by
  induction n with
  | zero => exact h
  | succ n ih => exact (ih (by omega)).hr (by rw [hrN_5]; omega)
theorem hlN_in {I : HI} {C : Nat → List Int} (h : WF I C) (n : Nat) (hn : I 30 5 + n ≤ 9999) : 0 ≤ hlN I C n ∧ hlN I C n ≤ 6 * n := by
  induction n with
  | zero => show 0 ≤ (0 : Int) ∧ (0 : Int) ≤ _; omega
  | succ n ih =>
    have h1 := ih (by omega)
    have h2 := lsN_in (I := hrN I C n) (C := C) (h := hrN I C n 30 5 + 1) (nS (hrN I C n))
    have h3 := (nS_in (hrN_W h n (by omega)).1.1).1
    show 0 ≤ hlN I C n + _ ∧ hlN I C n + _ ≤ _
    omega
theorem sp_X11_hours {I : HI} {Q : Option AV → HI → Prop} {C : Nat → List Int} {m : Int} (hW : WF I C) (hK : WK I) (k1 : 1 ≤ m ∧ clk I m → ∀ K, Sc (hrN (rem_ I) C m.toNat) K → Q (some (aI (hlN (rem_ I) C m.toNat))) K) (k0 : ¬ (1 ≤ m ∧ clk I m) → Q (some (aI (-1))) (rfs I 3)) : Rj MX11_hours 7 [aR 0, aI m] I Q := by
  have r := hW.2.2.1
  have hW2 := hW.rem
  have e5 : rem_ I 30 5 = I 30 5 := by rw [rem_cell (by decide) (by decide)]
  refine rj_of okX11_hours (Nat.le_of_ble_eq_true rfl) rfl ?_
  have lp : ∀ (n i : Nat) (J : HI) (y z : Int), (1 ≤ m ∧ clk I m) → Sc (hrN (rem_ I) C i) J → z = (i : Int) → i + n = m.toNat → y = hlN (rem_ I) C i → Bj MX11_hours 7 29 [some (aR 0), some (aI m), some (aI y), some (aI z)] [] J Q := by
    intro n
    induction n with
    | zero =>
      intro i J y z hc hS hz hi hy
      refine b_iload_n rfl rfl ?_
      refine b_iload_n rfl rfl ?_
      refine b_icmp_ge (tgt := 47) rfl rfl (fun c31 => ?_) (fun c31 => ?_)
      · refine b_iload_n rfl rfl ?_
        refine b_iret rfl rfl ?_
        have ei : i = m.toNat := by omega
        subst ei
        exact qI (k1 hc _ hS) hy.symm rfl
      · omega
    | succ n ih =>
      intro i J y z hc hS hz hi hy
      have hc' := hc.2
      unfold clk at hc'
      have hWi := hrN_W hW2 i (by omega)
      have hli := hlN_in hW2 i (by omega)
      have hls := lsN_in (I := hrN (rem_ I) C i) (C := C) (h := hrN (rem_ I) C i 30 5 + 1) (nS (hrN (rem_ I) C i))
      have hn6 := (nS_in hWi.1.1).1
      refine b_iload_n rfl rfl ?_
      refine b_iload_n rfl rfl ?_
      refine b_icmp_ge (tgt := 47) rfl rfl (fun c31 => ?_) (fun c31 => ?_)
      · omega
      · refine b_iload_n rfl rfl ?_
        refine b_aload_n rfl rfl ?_
        refine b_callV0i (ν := MX11_passHour) rfl ml11_309 cvX11_passHour (d' := 6) (by omega) rfl (by decide) rfl (Nat.le_of_ble_eq_true rfl) ?_
        refine sp_X11_passHour hWi hS (by rw [hrN_5]; omega) (fun K hS2 => ?_)
        refine ⟨_, rfl, ?_⟩
        refine b_iaddN rfl (by omega) (by omega) ?_
        refine b_istoreX_n (F := fun z40 => [some (aR 0), some (aI m), some (aI z40), some (aI z)]) rfl (by decide) (fun _ => rfl) (fun z40 ez40 => ?_)
        refine b_iincX (F := fun z41 => [some (aR 0), some (aI m), some (aI z40), some (aI z41)]) rfl rfl (by omega) (by omega) (fun _ => rfl) (fun z41 ez41 => ?_)
        refine b_goto (tgt := 29) rfl rfl ?_
        exact ih (i + 1) _ _ _ hc hS2 (by omega) (by omega) (by show _ = hlN (rem_ I) C i + _; omega)
  refine b_aload_n rfl rfl ?_
  refine b_iload_n rfl rfl ?_
  refine b_callV1i (ν := MX11_canPass) rfl ml11_306 cvX11_canPass (d' := 1) (by omega) rfl (by decide) rfl (Nat.le_of_ble_eq_true rfl) ?_
  refine spf_canPass (by omega) (fun hc => ?_) (fun hc => ?_)
  · refine ⟨_, rfl, ?_⟩
    refine b_if_ne (tgt := 14) rfl rfl (fun _ => ?_) (fun z => absurd z (by decide))
    refine b_aload_n rfl rfl ?_
    refine b_getR (r := 38) rfl fl11_54 rfl (by decide) rfl rfl ?_
    refine b_aload_n rfl rfl ?_
    refine b_getR (r := 30) rfl fl11_44 rfl (by decide) rfl rfl ?_
    refine b_callV1v (ν := MX2_remember) rfl ml11_293 cvX2_remember (d' := 2) (by omega) rfl (by decide) rfl (Nat.le_of_ble_eq_true rfl) ?_
    refine sp_X2_remember hK.2 ?_
    refine ⟨rfl, ?_⟩
    refine b_iconst rfl (by decide) ?_
    refine b_istoreX_n (F := fun z26 => [some (aR 0), some (aI m), some (aI z26), none]) rfl (by decide) (fun _ => rfl) (fun z26 ez26 => ?_)
    refine b_iconst rfl (by decide) ?_
    refine b_istoreX_n (F := fun z28 => [some (aR 0), some (aI m), some (aI z26), some (aI z28)]) rfl (by decide) (fun _ => rfl) (fun z28 ez28 => ?_)
    exact lp m.toNat 0 _ _ _ hc (Sc.rf hW2.2.1) (by omega) (by omega) (by rw [show hlN (rem_ I) C 0 = 0 from rfl]; omega)
  · refine ⟨_, rfl, ?_⟩
    refine b_if_ne (tgt := 14) rfl rfl (fun z => absurd z (by decide)) (fun _ => ?_)
    refine b_aload_n rfl rfl ?_
    refine b_iconst rfl (by decide) ?_
    refine b_callV1i (ν := MX11_refuse) rfl ml11_100 cvX11_refuse (d' := 0) (by omega) rfl (by decide) rfl (Nat.le_of_ble_eq_true rfl) ?_
    refine sp_X11_refuse (k := 3) (by decide) ?_
    refine ⟨_, rfl, ?_⟩
    refine b_iret rfl rfl ?_
    exact k0 hc
theorem lAnd_31 {x : Int} (h : 0 ≤ x ∧ x < 9223372036854775808) : lAnd x 2147483647 = x % 2147483648 := by
  have e : (BitVec.ofInt 64 x &&& BitVec.ofInt 64 2147483647).toNat = x.toNat % 2147483648 := by
    rw [BitVec.toNat_and, BitVec.toNat_ofInt]
    have e1 : (x % ((2 ^ 64 : Nat) : Int)).toNat = x.toNat := by
      rw [Int.emod_eq_of_lt h.1 (by have e : ((2 ^ 64 : Nat) : Int) = 18446744073709551616 := by decide
                                    rw [e]; omega)]
    rw [e1, show (BitVec.ofInt 64 2147483647).toNat = 2 ^ 31 - 1 by decide, Nat.and_two_pow_sub_one_eq_mod]
  show (BitVec.ofInt 64 x &&& BitVec.ofInt 64 2147483647).toInt = _
  rw [BitVec.toInt_eq_toNat_of_lt (by rw [e]; omega), e]
  omega
def nxt (l : Int) : Int := (1103515245 * l + 12345) % 2147483648
theorem sp_X11_draw {I : HI} {Q : Option AV → HI → Prop} (h : 0 ≤ I 0 15 ∧ I 0 15 < 2147483648) (kq : Q (some (aI (nxt (I 0 15) / 64 % 100))) (up I 0 15 (nxt (I 0 15)))) : Rj MX11_draw 0 [aR 0, aI 100] I Q := by
  refine rj_of okX11_draw (Nat.le_of_ble_eq_true rfl) rfl ?_
  have hn : lAnd (1103515245 * I 0 15 + 12345) 2147483647 = nxt (I 0 15) := lAnd_31 (by omega)
  have hb : 0 ≤ nxt (I 0 15) ∧ nxt (I 0 15) < 2147483648 := by unfold nxt; omega
  refine b_aload_n rfl rfl ?_
  refine b_ldc2 (z := 1103515245) rfl kl11_324 (by decide) ?_
  refine b_aload_n rfl rfl ?_
  refine b_getI rfl fl11_94 rfl (by decide) rfl ?_
  refine b_i2l rfl ?_
  refine b_lmulN rfl (by omega) (by omega) ?_
  refine b_ldc2 (z := 12345) rfl kl11_326 (by decide) ?_
  refine b_laddN rfl (by omega) (by omega) ?_
  refine b_ldc2 (z := 2147483647) rfl kl11_328 (by decide) ?_
  refine b_land rfl ?_
  rw [hn]
  refine b_l2i rfl ?_
  rw [w32_id (by omega) (by omega)]
  refine b_putI rfl fl11_94 rfl (by decide) rfl ?_
  refine b_iload_n rfl rfl ?_
  refine b_if_le (tgt := 38) rfl rfl (fun c23 => ?_) (fun c23 => ?_)
  · omega
  · refine b_aload_n rfl rfl ?_
    refine b_getI rfl fl11_94 rfl (by decide) rfl ?_
    try simp only [up_ap, cpy_ap, fil_ap, row_ap, Nat.reduceEqDiff, Nat.reduceLT, Nat.reduceLeDiff, Int.toNat_natCast, Int.reduceToNat, reduceCtorEq, false_and, and_false, true_and, and_true, and_self, reduceIte]
    refine b_bipush rfl (by decide) ?_
    refine b_idivP rfl (by omega) (by omega) ?_
    refine b_iload_n rfl rfl ?_
    refine b_iremP rfl (by omega) (by omega) ?_
    refine b_goto (tgt := 39) rfl rfl ?_
    refine b_iret rfl rfl ?_
    exact kq

theorem fc_some {f : Nat → Int} {n k j : Nat} (h : fc f n k = some j) : 0 < f j ∧ k ≤ j ∧ j < k + n := by
  induction n generalizing k with
  | zero => exact absurd (show none = some j from h) (by simp)
  | succ n ih =>
    have h' : (if 0 < f k then some k else fc f n (k + 1)) = some j := h
    by_cases g : 0 < f k
    · rw [if_pos g] at h'
      have := Option.some.inj h'
      subst this
      omega
    · rw [if_neg g] at h'
      have := ih h'
      omega
def lse (D : HI) (s : Nat) : Option Nat → HI × Int
  | none => (D, 0)
  | some j => (keepS (up D 32 (24 * s + j) (D 32 (24 * s + j) - 1)) (s : Int) (j : Int) 2, 1)
def bl1 (I : HI) (s : Nat) : HI × Int := if I 31 s = -1 then (if nxt (I 0 15) / 64 % 100 < I 3 8 then lse (up I 0 15 (nxt (I 0 15))) s (fc (fun j => I 32 (24 * s + j)) 24 0) else (up I 0 15 (nxt (I 0 15)), 0)) else (I, 0)
def blN (I : HI) : Nat → HI × Int
  | 0 => (I, 0)
  | n + 1 => ((bl1 (blN I n).1 n).1, (blN I n).2 + (bl1 (blN I n).1 n).2)
def BW (I : HI) : Prop := (∀ k, 0 ≤ I 32 k ∧ I 32 k ≤ 20) ∧ (0 ≤ I 30 3 ∧ I 30 3 < 60 ∧ 0 ≤ I 30 4 ∧ I 30 4 ≤ 60 ∧ 0 ≤ I 30 5 ∧ I 30 5 ≤ 9999) ∧ (0 ≤ I 0 15 ∧ I 0 15 < 2147483648)
theorem keepS_cell {I : HI} {s c w : Int} {q : Nat} (h1 : q ≠ 30) (h2 : q ≠ 33) : keepS I s c w q = I q := by
  unfold keepS
  split
  · rw [up_cell h1, up_cell h2]
  · rw [up_cell h1, up_cell h2]
theorem keepS_5 {I : HI} {s c w : Int} : keepS I s c w 30 5 = I 30 5 := by
  unfold keepS
  split
  · rw [up_ap, if_neg (by omega), up_cell (by decide)]
  · rw [up_ap, if_neg (by omega), up_cell (by decide)]
theorem keepS_34 {I : HI} {s c w : Int} (h : 0 ≤ I 30 3 ∧ I 30 3 < 60 ∧ 0 ≤ I 30 4 ∧ I 30 4 ≤ 60) : 0 ≤ keepS I s c w 30 3 ∧ keepS I s c w 30 3 < 60 ∧ 0 ≤ keepS I s c w 30 4 ∧ keepS I s c w 30 4 ≤ 60 := by
  unfold keepS
  split
  · show 0 ≤ I 30 3 ∧ I 30 3 < 60 ∧ 0 ≤ I 30 4 + 1 ∧ I 30 4 + 1 ≤ 60
    omega
  · show 0 ≤ (I 30 3 + 1) % 60 ∧ (I 30 3 + 1) % 60 < 60 ∧ 0 ≤ I 30 4 ∧ I 30 4 ≤ 60
    omega
theorem BW.dr {I : HI} (h : BW I) : BW (up I 0 15 (nxt (I 0 15))) := by
  obtain ⟨h1, h2, h3⟩ := h
  refine ⟨?_, ?_, ?_⟩
  · rw [up_cell (by decide)]; exact h1
  · rw [up_cell (by decide)]; exact h2
  · rw [up_ap, if_pos (by omega)]; unfold nxt; omega
theorem BW.lose {I : HI} (h : BW I) {s j : Nat} (hj : 0 < I 32 (24 * s + j)) {c w : Int} : BW (keepS (up I 32 (24 * s + j) (I 32 (24 * s + j) - 1)) (s : Int) c w) := by
  obtain ⟨h1, h2, h3⟩ := h
  have e30 : up I 32 (24 * s + j) (I 32 (24 * s + j) - 1) 30 = I 30 := up_cell (by decide)
  refine ⟨?_, ?_, ?_⟩
  · rw [keepS_cell (by decide) (by decide)]
    intro k
    have a1 := h1 k
    have a2 := h1 (24 * s + j)
    rw [up_ap]
    split <;> omega
  · have := keepS_34 (I := up I 32 (24 * s + j) (I 32 (24 * s + j) - 1)) (s := (s : Int)) (c := c) (w := w) (by rw [e30]; omega)
    rw [keepS_5, e30]
    omega
  · rw [keepS_cell (by decide) (by decide), up_cell (by decide)]; exact h3
theorem bl1_W {I : HI} (h : BW I) (s : Nat) : BW (bl1 I s).1 := by
  unfold bl1
  split
  · split
    · cases hf : fc (fun j => I 32 (24 * s + j)) 24 0 with
      | none => exact h.dr
      | some j => exact h.dr.lose (by rw [up_cell (by decide)]; exact (fc_some hf).1)
    · exact h.dr
  · exact h
theorem bl1_cell {I : HI} {s q : Nat} (h0 : q ≠ 0) (h1 : q ≠ 30) (h2 : q ≠ 32) (h3 : q ≠ 33) : (bl1 I s).1 q = I q := by
  unfold bl1
  split
  · split
    · cases fc (fun j => I 32 (24 * s + j)) 24 0 with
      | none => exact up_cell h0
      | some j => show keepS _ _ _ _ q = _; rw [keepS_cell h1 h3, up_cell h2, up_cell h0]
    · exact up_cell h0
  · rfl
theorem bl1_5 {I : HI} {s : Nat} : (bl1 I s).1 30 5 = I 30 5 := by
  unfold bl1
  split
  · split
    · cases fc (fun j => I 32 (24 * s + j)) 24 0 with
      | none => rfl
      | some j => show keepS _ _ _ _ 30 5 = _; rw [keepS_5, up_cell (by decide), up_cell (by decide)]
    · rfl
  · rfl
theorem bl1_in {I : HI} {s : Nat} : 0 ≤ (bl1 I s).2 ∧ (bl1 I s).2 ≤ 1 := by
  unfold bl1
  split
  · split
    · cases fc (fun j => I 32 (24 * s + j)) 24 0 with
      | none => show (0 : Int) ≤ 0 ∧ (0 : Int) ≤ 1; omega
      | some j => show (0 : Int) ≤ 1 ∧ (1 : Int) ≤ 1; omega
    · show (0 : Int) ≤ 0 ∧ (0 : Int) ≤ 1; omega
  · show (0 : Int) ≤ 0 ∧ (0 : Int) ≤ 1; omega
theorem blN_W {I : HI} (h : BW I) (n : Nat) : BW (blN I n).1 := by
  induction n with
  | zero => exact h
  | succ n ih => exact bl1_W ih n
theorem blN_cell {I : HI} {q : Nat} (n : Nat) (h0 : q ≠ 0) (h1 : q ≠ 30) (h2 : q ≠ 32) (h3 : q ≠ 33) : (blN I n).1 q = I q := by
  induction n with
  | zero => rfl
  | succ n ih => exact (bl1_cell h0 h1 h2 h3).trans ih
theorem blN_5 {I : HI} (n : Nat) : (blN I n).1 30 5 = I 30 5 := by
  induction n with
  | zero => rfl
  | succ n ih => exact bl1_5.trans ih
theorem blN_in {I : HI} (n : Nat) : 0 ≤ (blN I n).2 ∧ (blN I n).2 ≤ n := by
  induction n with
  | zero => show (0 : Int) ≤ 0 ∧ (0 : Int) ≤ _; omega
  | succ n ih =>
    have := bl1_in (I := (blN I n).1) (s := n)
    show 0 ≤ (blN I n).2 + _ ∧ (blN I n).2 + _ ≤ _
    omega
theorem Sc.keep {I J : HI} (h : Sc I J) {s c w : Int} : Sc (keepS I s c w) (keepS J s c w) := by
  have e : J 30 = I 30 := h.1 30 (by decide) (by decide)
  unfold keepS
  rw [e]
  split
  · exact (h.up (by decide) (by decide)).up (by decide) (by decide)
  · exact (h.up (by decide) (by decide)).up (by decide) (by decide)
theorem Sc.b1 {I J : HI} (h : Sc I J) (s : Nat) : Sc (bl1 I s).1 (bl1 J s).1 ∧ (bl1 J s).2 = (bl1 I s).2 := by
  have e0 : J 0 = I 0 := h.1 0 (by decide) (by decide)
  have e3 : J 3 = I 3 := h.1 3 (by decide) (by decide)
  have e31 : J 31 = I 31 := h.1 31 (by decide) (by decide)
  have e32 : J 32 = I 32 := h.1 32 (by decide) (by decide)
  have hD := h.up (q := 0) (k := 15) (v := nxt (I 0 15)) (by decide) (by decide)
  unfold bl1
  rw [e0, e3, e31, e32]
  split
  · split
    · cases fc (fun j => I 32 (24 * s + j)) 24 0 with
      | none => exact ⟨hD, rfl⟩
      | some j =>
        refine ⟨?_, rfl⟩
        have e := hD.ap (q := 32) (k := 24 * s + j) (by decide) (by decide)
        simp only [lse]
        rw [e]
        exact (hD.up (by decide) (by decide)).keep
    · exact ⟨hD, rfl⟩
  · exact ⟨h, rfl⟩
theorem Sc.bN2 {I J : HI} (h : Sc I J) (n : Nat) : Sc (blN I n).1 (blN J n).1 ∧ (blN J n).2 = (blN I n).2 := by
  induction n with
  | zero => exact ⟨h, rfl⟩
  | succ n ih =>
    obtain ⟨a, b⟩ := ih
    obtain ⟨c, d⟩ := a.b1 n
    exact ⟨c, by show _ + _ = _ + _; rw [b, d]⟩
theorem sp_X11_blow {I : HI} {Q : Option AV → HI → Prop} (hC : cOK I 4) (hb : BW I) (kq : Q (some (aI (blN I (nS I)).2)) (blN I (nS I)).1) : Rj MX11_blow 2 [aR 0] I Q := by
  have n6 : nS I ≤ 6 ∧ (nS I : Int) = I 4 1 := by
    have := hC 1 (by decide)
    unfold nS
    omega
  refine rj_of okX11_blow (Nat.le_of_ble_eq_true rfl) rfl ?_
  have lp : ∀ (n i : Nat) (J : HI) (y z : Int), J = (blN I i).1 → z = (i : Int) → i + n = nS I → y = (blN I i).2 → Bj MX11_blow 2 4 [some (aR 0), some (aI y), some (aI z)] [] J Q := by
    intro n
    induction n with
    | zero =>
      intro i J y z hJ hz hi hy
      have e4 : J 4 1 = I 4 1 := by rw [hJ, blN_cell i (by decide) (by decide) (by decide) (by decide)]
      refine b_iload_n rfl rfl ?_
      refine b_aload_n rfl rfl ?_
      refine b_getR (r := 3) rfl fl11_19 rfl (by decide) rfl rfl ?_
      refine b_getR (r := 4) rfl fl11_150 rfl (by decide) rfl rfl ?_
      refine b_iconst rfl (by decide) ?_
      refine b_ialdL (k := 1) rfl rfl rfl (by decide) ?_
      refine b_icmp_ge (tgt := 66) rfl rfl (fun c14 => ?_) (fun c14 => ?_)
      · refine b_iload_n rfl rfl ?_
        refine b_iret rfl rfl ?_
        have ei : i = nS I := by omega
        subst ei
        exact qI kq hy.symm hJ.symm
      · omega
    | succ n ih =>
      intro i J y z hJ hz hi hy
      subst hz
      have e4 : J 4 1 = I 4 1 := by rw [hJ, blN_cell i (by decide) (by decide) (by decide) (by decide)]
      have hW : BW J := by rw [hJ]; exact blN_W hb i
      have hbl := blN_in (I := I) i
      have hst : (blN I (i + 1)).1 = (bl1 J i).1 ∧ (blN I (i + 1)).2 = y + (bl1 J i).2 := by rw [hJ, hy]; exact ⟨rfl, rfl⟩
      have hr := hW.2.2
      have hdr := hW.dr
      have hei : ((i : Int)).toNat = i := Int.toNat_natCast i
      clear hJ
      refine b_iload_n rfl rfl ?_
      refine b_aload_n rfl rfl ?_
      refine b_getR (r := 3) rfl fl11_19 rfl (by decide) rfl rfl ?_
      refine b_getR (r := 4) rfl fl11_150 rfl (by decide) rfl rfl ?_
      refine b_iconst rfl (by decide) ?_
      refine b_ialdL (k := 1) rfl rfl rfl (by decide) ?_
      refine b_icmp_ge (tgt := 66) rfl rfl (fun c14 => ?_) (fun c14 => ?_)
      · omega
      · refine b_aload_n rfl rfl ?_
        refine b_getR (r := 30) rfl fl11_44 rfl (by decide) rfl rfl ?_
        refine b_getR (r := 31) rfl fl11_205 rfl (by decide) rfl rfl ?_
        refine b_iload_n rfl rfl ?_
        refine b_iald rfl rfl (by omega) (by omega) ?_
        rw [hei]
        refine b_iconst rfl (by decide) ?_
        refine b_icmp_ne (tgt := 60) rfl rfl (fun c27 => ?_) (fun c27 => ?_)
        · refine b_iincX (F := fun z60 => [some (aR 0), some (aI y), some (aI z60)]) rfl rfl (by omega) (by omega) (fun _ => rfl) (fun z60 ez60 => ?_)
          refine b_goto (tgt := 4) rfl rfl ?_
          first
          | (have e1 : bl1 J i = (J, 0) := by unfold bl1; rw [if_neg (by omega)]
             exact ih (i + 1) _ _ _ (by rw [hst.1, e1]) (by omega) (by omega) (by rw [hst.2, e1]; show y = y + 0; omega))
          | (have e1 : bl1 J i = (up J 0 15 (nxt (J 0 15)), 0) := by unfold bl1; rw [if_pos (by omega), if_neg (by omega)]
             exact ih (i + 1) _ _ _ (by rw [hst.1, e1]) (by omega) (by omega) (by rw [hst.2, e1]; show y = y + 0; omega))
          | (rw [hei, up_cell (by decide)] at hf
             have e1 : bl1 J i = (up J 0 15 (nxt (J 0 15)), 0) := by unfold bl1; rw [if_pos (by omega), if_pos (by omega), hf]; rfl
             exact ih (i + 1) _ _ _ (by rw [hst.1, e1]) (by omega) (by omega) (by rw [hst.2, e1]; show y = y + 0; omega))
          | (rw [hei, up_cell (by decide)] at hf
             have e1 : bl1 J i = lse (up J 0 15 (nxt (J 0 15))) i (some j) := by unfold bl1; rw [if_pos (by omega), if_pos (by omega), hf]
             exact ih (i + 1) _ _ _ (by rw [hst.1, e1, hei]; rfl) (by omega) (by omega) (by rw [hst.2, e1]; show _ = y + 1; omega))
        · refine b_aload_n rfl rfl ?_
          refine b_bipush rfl (by decide) ?_
          refine b_callV1i (ν := MX11_draw) rfl ml11_315 cvX11_draw (d' := 0) (by omega) rfl (by decide) rfl (Nat.le_of_ble_eq_true rfl) ?_
          refine sp_X11_draw hr ?_
          refine ⟨_, rfl, ?_⟩
          refine b_aload_n rfl rfl ?_
          refine b_getR (r := 3) rfl fl11_19 rfl (by decide) rfl rfl ?_
          refine b_getI rfl fl11_318 rfl (by decide) rfl ?_
          try rw [up_cell (by decide)]
          refine b_icmp_ge (tgt := 60) rfl rfl (fun c43 => ?_) (fun c43 => ?_)
          · refine b_iincX (F := fun z60 => [some (aR 0), some (aI y), some (aI z60)]) rfl rfl (by omega) (by omega) (fun _ => rfl) (fun z60 ez60 => ?_)
            refine b_goto (tgt := 4) rfl rfl ?_
            first
            | (have e1 : bl1 J i = (J, 0) := by unfold bl1; rw [if_neg (by omega)]
               exact ih (i + 1) _ _ _ (by rw [hst.1, e1]) (by omega) (by omega) (by rw [hst.2, e1]; show y = y + 0; omega))
            | (have e1 : bl1 J i = (up J 0 15 (nxt (J 0 15)), 0) := by unfold bl1; rw [if_pos (by omega), if_neg (by omega)]
               exact ih (i + 1) _ _ _ (by rw [hst.1, e1]) (by omega) (by omega) (by rw [hst.2, e1]; show y = y + 0; omega))
            | (rw [hei, up_cell (by decide)] at hf
               have e1 : bl1 J i = (up J 0 15 (nxt (J 0 15)), 0) := by unfold bl1; rw [if_pos (by omega), if_pos (by omega), hf]; rfl
               exact ih (i + 1) _ _ _ (by rw [hst.1, e1]) (by omega) (by omega) (by rw [hst.2, e1]; show y = y + 0; omega))
            | (rw [hei, up_cell (by decide)] at hf
               have e1 : bl1 J i = lse (up J 0 15 (nxt (J 0 15))) i (some j) := by unfold bl1; rw [if_pos (by omega), if_pos (by omega), hf]
               exact ih (i + 1) _ _ _ (by rw [hst.1, e1, hei]; rfl) (by omega) (by omega) (by rw [hst.2, e1]; show _ = y + 1; omega))
          · refine b_aload_n rfl rfl ?_
            refine b_getR (r := 30) rfl fl11_44 rfl (by decide) rfl rfl ?_
            refine b_iload_n rfl rfl ?_
            refine b_callV1i (ν := MX7_loseFirst) rfl ml11_321 cvX7_loseFirst (d' := 1) (by omega) rfl (by decide) rfl (Nat.le_of_ble_eq_true rfl) ?_
            refine sp_X7_loseFirst_30 (by omega) hdr.1 hdr.2.1 (fun hf => ?_) (fun j hj hf => ?_)
            rotate_left
            · refine ⟨_, rfl, ?_⟩
              refine b_if_eq (tgt := 60) rfl rfl (fun z => absurd z (by decide)) (fun _ => ?_)
              refine b_iincX (F := fun z57 => [some (aR 0), some (aI z57), some (aI (i : Int))]) rfl rfl (by omega) (by omega) (fun _ => rfl) (fun z57 ez57 => ?_)
              refine b_iincX (F := fun z60 => [some (aR 0), some (aI z57), some (aI z60)]) rfl rfl (by omega) (by omega) (fun _ => rfl) (fun z60 ez60 => ?_)
              refine b_goto (tgt := 4) rfl rfl ?_
              first
              | (have e1 : bl1 J i = (J, 0) := by unfold bl1; rw [if_neg (by omega)]
                 exact ih (i + 1) _ _ _ (by rw [hst.1, e1]) (by omega) (by omega) (by rw [hst.2, e1]; show y = y + 0; omega))
              | (have e1 : bl1 J i = (up J 0 15 (nxt (J 0 15)), 0) := by unfold bl1; rw [if_pos (by omega), if_neg (by omega)]
                 exact ih (i + 1) _ _ _ (by rw [hst.1, e1]) (by omega) (by omega) (by rw [hst.2, e1]; show y = y + 0; omega))
              | (rw [hei, up_cell (by decide)] at hf
                 have e1 : bl1 J i = (up J 0 15 (nxt (J 0 15)), 0) := by unfold bl1; rw [if_pos (by omega), if_pos (by omega), hf]; rfl
                 exact ih (i + 1) _ _ _ (by rw [hst.1, e1]) (by omega) (by omega) (by rw [hst.2, e1]; show y = y + 0; omega))
              | (rw [hei, up_cell (by decide)] at hf
                 have e1 : bl1 J i = lse (up J 0 15 (nxt (J 0 15))) i (some j) := by unfold bl1; rw [if_pos (by omega), if_pos (by omega), hf]
                 exact ih (i + 1) _ _ _ (by rw [hst.1, e1, hei]; rfl) (by omega) (by omega) (by rw [hst.2, e1]; show _ = y + 1; omega))
            · refine ⟨_, rfl, ?_⟩
              refine b_if_eq (tgt := 60) rfl rfl (fun _ => ?_) (fun z => absurd z (by decide))
              refine b_iincX (F := fun z60 => [some (aR 0), some (aI y), some (aI z60)]) rfl rfl (by omega) (by omega) (fun _ => rfl) (fun z60 ez60 => ?_)
              refine b_goto (tgt := 4) rfl rfl ?_
              first
              | (have e1 : bl1 J i = (J, 0) := by unfold bl1; rw [if_neg (by omega)]
                 exact ih (i + 1) _ _ _ (by rw [hst.1, e1]) (by omega) (by omega) (by rw [hst.2, e1]; show y = y + 0; omega))
              | (have e1 : bl1 J i = (up J 0 15 (nxt (J 0 15)), 0) := by unfold bl1; rw [if_pos (by omega), if_neg (by omega)]
                 exact ih (i + 1) _ _ _ (by rw [hst.1, e1]) (by omega) (by omega) (by rw [hst.2, e1]; show y = y + 0; omega))
              | (rw [hei, up_cell (by decide)] at hf
                 have e1 : bl1 J i = (up J 0 15 (nxt (J 0 15)), 0) := by unfold bl1; rw [if_pos (by omega), if_pos (by omega), hf]; rfl
                 exact ih (i + 1) _ _ _ (by rw [hst.1, e1]) (by omega) (by omega) (by rw [hst.2, e1]; show y = y + 0; omega))
              | (rw [hei, up_cell (by decide)] at hf
                 have e1 : bl1 J i = lse (up J 0 15 (nxt (J 0 15))) i (some j) := by unfold bl1; rw [if_pos (by omega), if_pos (by omega), hf]
                 exact ih (i + 1) _ _ _ (by rw [hst.1, e1, hei]; rfl) (by omega) (by omega) (by rw [hst.2, e1]; show _ = y + 1; omega))
  refine b_iconst rfl (by decide) ?_
  refine b_istoreX_n (F := fun z1 => [some (aR 0), some (aI z1), none]) rfl (by decide) (fun _ => rfl) (fun z1 ez1 => ?_)
  refine b_iconst rfl (by decide) ?_
  refine b_istoreX_n (F := fun z3 => [some (aR 0), some (aI z1), some (aI z3)]) rfl (by decide) (fun _ => rfl) (fun z3 ez3 => ?_)
  exact lp (nS I) 0 _ _ _ rfl (by omega) (by omega) (by show _ = (0 : Int); omega)

theorem BW.sc {I J : HI} (h : BW I) (hS : Sc I J) : BW J := by
  unfold BW at *
  rw [hS.1 32 (by decide) (by decide), hS.1 30 (by decide) (by decide), hS.1 0 (by decide) (by decide)]
  exact h
theorem BW.hr {I : HI} {C : Nat → List Int} (h : BW I) (hh : I 30 5 + 1 ≤ 9999) : BW (hrS I C) := by
  obtain ⟨h1, h2, h3⟩ := h
  unfold hrS
  refine ⟨?_, ?_, ?_⟩
  · rw [hrB_cell (by decide) (by decide)]; exact h1
  · have e3 : hrB I C (I 30 5 + 1) (nS I) 30 3 = I 30 3 := rfl
    have e4 : hrB I C (I 30 5 + 1) (nS I) 30 4 = I 30 4 := rfl
    have e5 : hrB I C (I 30 5 + 1) (nS I) 30 5 = I 30 5 + 1 := rfl
    rw [e3, e4, e5]
    omega
  · rw [hrB_cell (by decide) (by decide)]; exact h3
theorem WF.bl {I : HI} {C : Nat → List Int} (h : WF I C) (hb : BW I) (n : Nat) : WF (blN I n).1 C := by
  obtain ⟨h1, h2, h3, h4, h5⟩ := h
  refine ⟨h1.of (fun q h0 hq => blN_cell n (by omega) (by omega) (by omega) (by omega)), ?_, ?_, ?_, ?_⟩
  · unfold seB at *; rw [blN_cell n (by decide) (by decide) (by decide) (by decide)]; exact h2
  · rw [blN_5]; exact h3
  · exact (blN_W hb n).1
  · rw [blN_cell n (by decide) (by decide) (by decide) (by decide), blN_cell n (by decide) (by decide) (by decide) (by decide)]; exact h5
noncomputable def gaB (I : HI) (C : Nat → List Int) : Nat → HI × Int
  | 0 => (I, 0)
  | n + 1 => (hrS (blN (gaB I C n).1 (nS (gaB I C n).1)).1 C, (gaB I C n).2 + (blN (gaB I C n).1 (nS (gaB I C n).1)).2)
theorem gaB_I {I : HI} {C : Nat → List Int} (h : WF I C) (hb : BW I) (n : Nat) (hn : I 30 5 + n ≤ 9999) : WF (gaB I C n).1 C ∧ BW (gaB I C n).1 ∧ (gaB I C n).1 30 5 = I 30 5 + n ∧ (0 ≤ (gaB I C n).2 ∧ (gaB I C n).2 ≤ 6 * n) := by
  induction n with
  | zero => exact ⟨h, hb, by show I 30 5 = _; omega, by show (0 : Int) ≤ 0 ∧ (0 : Int) ≤ _; omega⟩
  | succ n ih =>
    obtain ⟨a, b, c, d⟩ := ih (by omega)
    have e5 := blN_5 (I := (gaB I C n).1) (nS (gaB I C n).1)
    have n6 := (nS_in a.1.1).1
    have hin := blN_in (I := (gaB I C n).1) (nS (gaB I C n).1)
    refine ⟨(a.bl b _).hr (by omega), (blN_W b _).hr (by omega), ?_, ?_⟩
    · show (blN (gaB I C n).1 (nS (gaB I C n).1)).1 30 5 + 1 = _
      omega
    · show 0 ≤ (gaB I C n).2 + _ ∧ (gaB I C n).2 + _ ≤ _
      omega
theorem BW.rem {I : HI} (h : BW I) : BW (rem_ I) := by
  unfold BW at *
  rw [rem_cell (by decide) (by decide), rem_cell (by decide) (by decide), rem_cell (by decide) (by decide)]
  exact h
theorem sp_X11_gales {I : HI} {Q : Option AV → HI → Prop} {C : Nat → List Int} {m : Int} (hW : WF I C) (hK : WK I) (hB : BW I) (k1 : 1 ≤ m ∧ clk I m → ∀ K, Sc (gaB (rem_ I) C m.toNat).1 K → Q (some (aI (gaB (rem_ I) C m.toNat).2)) K) (k0 : ¬ (1 ≤ m ∧ clk I m) → Q (some (aI (-1))) (rfs I 3)) : Rj MX11_gales 7 [aR 0, aI m] I Q := by
  have r := hW.2.2.1
  have hW2 := hW.rem
  have hB2 := hB.rem
  have e5 : rem_ I 30 5 = I 30 5 := by rw [rem_cell (by decide) (by decide)]
  refine rj_of okX11_gales (Nat.le_of_ble_eq_true rfl) rfl ?_
  have lp : ∀ (n i : Nat) (J : HI) (y z : Int), (1 ≤ m ∧ clk I m) → Sc (gaB (rem_ I) C i).1 J → z = (i : Int) → i + n = m.toNat → y = (gaB (rem_ I) C i).2 → Bj MX11_gales 7 29 [some (aR 0), some (aI m), some (aI y), some (aI z)] [] J Q := by
    intro n
    induction n with
    | zero =>
      intro i J y z hc hS hz hi hy
      refine b_iload_n rfl rfl ?_
      refine b_iload_n rfl rfl ?_
      refine b_icmp_ge (tgt := 52) rfl rfl (fun c31 => ?_) (fun c31 => ?_)
      · refine b_iload_n rfl rfl ?_
        refine b_iret rfl rfl ?_
        have ei : i = m.toNat := by omega
        subst ei
        exact qI (k1 hc _ hS) hy.symm rfl
      · omega
    | succ n ih =>
      intro i J y z hc hS hz hi hy
      have hc' := hc.2
      unfold clk at hc'
      obtain ⟨ga, gb, gc, gd⟩ := gaB_I hW2 hB2 i (by omega)
      have hin := blN_in (I := (gaB (rem_ I) C i).1) (nS (gaB (rem_ I) C i).1)
      have hn6 := (nS_in ga.1.1).1
      have eN : nS J = nS (gaB (rem_ I) C i).1 := by unfold nS; rw [hS.1 4 (by decide) (by decide)]
      obtain ⟨s1, s2⟩ := hS.bN2 (nS (gaB (rem_ I) C i).1)
      have s5 := blN_5 (I := (gaB (rem_ I) C i).1) (nS (gaB (rem_ I) C i).1)
      refine b_iload_n rfl rfl ?_
      refine b_iload_n rfl rfl ?_
      refine b_icmp_ge (tgt := 52) rfl rfl (fun c31 => ?_) (fun c31 => ?_)
      · omega
      · refine b_iload_n rfl rfl ?_
        refine b_aload_n rfl rfl ?_
        refine b_callV0i (ν := MX11_blow) rfl ml11_312 cvX11_blow (d' := 2) (by omega) rfl (by decide) rfl (Nat.le_of_ble_eq_true rfl) ?_
        refine sp_X11_blow (ga.1.to hS).1.1 (gb.sc hS) ?_
        rw [eN, s2]
        refine ⟨_, rfl, ?_⟩
        refine b_iaddN rfl (by omega) (by omega) ?_
        refine b_istoreX_n (F := fun z40 => [some (aR 0), some (aI m), some (aI z40), some (aI z)]) rfl (by decide) (fun _ => rfl) (fun z40 ez40 => ?_)
        refine b_aload_n rfl rfl ?_
        refine b_callV0i (ν := MX11_passHour) rfl ml11_309 cvX11_passHour (d' := 6) (by omega) rfl (by decide) rfl (Nat.le_of_ble_eq_true rfl) ?_
        refine sp_X11_passHour (ga.bl gb _) s1 (by omega) (fun K hS2 => ?_)
        refine ⟨_, rfl, ?_⟩
        refine b_pop rfl rfl ?_
        refine b_iincX (F := fun z46 => [some (aR 0), some (aI m), some (aI z40), some (aI z46)]) rfl rfl (by omega) (by omega) (fun _ => rfl) (fun z46 ez46 => ?_)
        refine b_goto (tgt := 29) rfl rfl ?_
        exact ih (i + 1) _ _ _ hc hS2 (by omega) (by omega) (by show _ = (gaB (rem_ I) C i).2 + _; omega)
  refine b_aload_n rfl rfl ?_
  refine b_iload_n rfl rfl ?_
  refine b_callV1i (ν := MX11_canPass) rfl ml11_306 cvX11_canPass (d' := 1) (by omega) rfl (by decide) rfl (Nat.le_of_ble_eq_true rfl) ?_
  refine spf_canPass (by omega) (fun hc => ?_) (fun hc => ?_)
  · refine ⟨_, rfl, ?_⟩
    refine b_if_ne (tgt := 14) rfl rfl (fun _ => ?_) (fun z => absurd z (by decide))
    refine b_aload_n rfl rfl ?_
    refine b_getR (r := 38) rfl fl11_54 rfl (by decide) rfl rfl ?_
    refine b_aload_n rfl rfl ?_
    refine b_getR (r := 30) rfl fl11_44 rfl (by decide) rfl rfl ?_
    refine b_callV1v (ν := MX2_remember) rfl ml11_293 cvX2_remember (d' := 2) (by omega) rfl (by decide) rfl (Nat.le_of_ble_eq_true rfl) ?_
    refine sp_X2_remember hK.2 ?_
    refine ⟨rfl, ?_⟩
    refine b_iconst rfl (by decide) ?_
    refine b_istoreX_n (F := fun z26 => [some (aR 0), some (aI m), some (aI z26), none]) rfl (by decide) (fun _ => rfl) (fun z26 ez26 => ?_)
    refine b_iconst rfl (by decide) ?_
    refine b_istoreX_n (F := fun z28 => [some (aR 0), some (aI m), some (aI z26), some (aI z28)]) rfl (by decide) (fun _ => rfl) (fun z28 ez28 => ?_)
    exact lp m.toNat 0 _ _ _ hc (Sc.rf hW2.2.1) (by omega) (by omega) (by show _ = (0 : Int); omega)
  · refine ⟨_, rfl, ?_⟩
    refine b_if_ne (tgt := 14) rfl rfl (fun z => absurd z (by decide)) (fun _ => ?_)
    refine b_aload_n rfl rfl ?_
    refine b_iconst rfl (by decide) ?_
    refine b_callV1i (ν := MX11_refuse) rfl ml11_100 cvX11_refuse (d' := 0) (by omega) rfl (by decide) rfl (Nat.le_of_ble_eq_true rfl) ?_
    refine sp_X11_refuse (k := 3) (by decide) ?_
    refine ⟨_, rfl, ?_⟩
    refine b_iret rfl rfl ?_
    exact k0 hc
