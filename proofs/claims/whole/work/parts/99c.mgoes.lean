/-! ===== the reference: goesOn ===== -/
section MGO
variable {K0 K H : HI} {m k0 n p : Nat} {B : Nat → Int} {r : List Fm} {F : Fm} {cs : List Int} {Q : Option AV → HI → Prop}
theorem mc_joinsS {l : Nat} {z o : Int} (hz : z = (l : Int)) (hm : m < 2) (hR : RC K0 m k0 (F :: r) cs o K) (hb : k0 + cs.length + F.os.length ≤ 1600) (ht : tot (F :: r) < 500) (hl : r.length < 20) (ho : -500 ≤ o ∧ o ≤ 1000) (hM : Mok K n B p H) (kq : ∀ K' H', RC K0 m k0 ((mkF F.ki F.ph F.bg F.pa (joD l F.os)) :: r) (cs ++ joT l F.os) (o - (ntO (joT l F.os) : Int)) K' → Mok K' n B p H' → Q none H') : Rj MX12_joins 1 [aR 57, aI z] H Q := by
  rw [hz]
  exact mc_joins' hm hR hb ht hl ho hM kq
set_option maxRecDepth 16000 in
set_option maxHeartbeats 4000000 in
theorem mc_goesOn (hT : MTx K0 n B) (hm : m < 2) (hR : RC K0 m k0 (F :: r) cs (opN (F :: r) : Int) K) (hP : PF (F :: r)) (hV : Vd k0 n p (F :: r) cs) (hr0 : 2 ≤ F.ki → r ≠ []) (hM : Mok K n B p H) (kI : ∀ e z K' H', goF n B F r cs p = .inl e → FrK K0 m k0 K' → Mbad K' e.1 e.2 H' → Q (some (aI z)) H') (kR : ∀ t p' fs' cs' K' H', goF n B F r cs p = .inr (t, p', fs', cs') → RC (if t = 0 then up K0 57 45 0 else K0) m k0 fs' cs' (opN fs' : Int) K' → PF fs' → Mok K' n B p' H' → Q (some (aI (if t = 2 then 0 else 1))) H') : Rj MX12_goesOn 2 [aR 57] H Q := by
  refine rj_of okX12_goesOn (Nat.le_of_ble_eq_true rfl) rfl ?_
  obtain ⟨v1, v2, v3, v4⟩ := hV
  have hn := hT.2.1
  rw [List.length_cons] at v2 v4
  have hPt := PF_t hP
  have hoc := opN_c (F := F) (r := r)
  have htc := tot_c (F := F) (r := r)
  have hf := Mok_f hM
  have hR0 := hR
  obtain ⟨h1, h2, h3, h4, h5, h6, h7, h8⟩ := hR
  obtain ⟨a1, a2, a3, a4, a5, a6, a7, a8⟩ := h2
  rw [List.length_cons] at h3
  have hTK := MTx_F hT h1
  have h41 : H 57 41 = ((r.length + 1 : Nat) : Int) := by rw [Mok_g hM (by decide)]; exact h3
  have h78 : H 78 r.length = F.ki := by rw [Mok_q hM (by decide)]; exact a2
  have h79 : H 79 r.length = F.ph := by rw [Mok_q hM (by decide)]; exact a3
  have hki := a8.2.1
  have hph := a8.2.2
  have hnts : ntO F.os ≤ F.os.length := by
    have : ∀ O : List Int, ntO O ≤ O.length := by
      intro O
      induction O with
      | nil => exact Nat.le_refl _
      | cons v O ih =>
        rw [show ntO (v :: O) = (if v = -9 then 1 else 0) + ntO O from rfl, List.length_cons]
        split <;> omega
    exact this _
  have hntr : nts r ≤ tot r := by
    have : ∀ R : List Fm, nts R ≤ tot R := by
      intro R
      induction R with
      | nil => exact Nat.le_refl _
      | cons G R ih =>
        have h9 : ∀ O : List Int, ntO O ≤ O.length := by
          intro O
          induction O with
          | nil => exact Nat.le_refl _
          | cons v O ih =>
            rw [show ntO (v :: O) = (if v = -9 then 1 else 0) + ntO O from rfl, List.length_cons]
            split <;> omega
        have := h9 G.os
        rw [nts_c, tot_c]
        omega
    exact this _
  have opJ : ∀ (l : Nat) (a b c d : Int) (v : Int), v ≠ -9 → (opN (F :: r) : Int) - (ntO (joT l F.os) : Int) = (opN ((mkF a b c d (v :: joD l F.os)) :: r) : Int) := by
    intro l a b c d v hv
    have hj := (jo_le (l := l) (O := F.os)).2.2
    rw [hoc, opN_c]
    show _ = ((ntO (v :: joD l F.os) + nts r + r.length : Nat) : Int)
    rw [ntO_s hv]
    omega
  have totJ : ∀ (l : Nat) (a b c d : Int), tot ((mkF a b c d (joD l F.os)) :: r) < 500 := by
    intro l a b c d
    have hj := (jo_le (l := l) (O := F.os)).1
    rw [tot_c]
    show (joD l F.os).length + tot r < 500
    omega
  have jn : ∀ (l : Nat) (z : Int) (Q' : Option AV → HI → Prop), z = (l : Int) → (∀ K' H', RC K0 m k0 ((mkF F.ki F.ph F.bg F.pa (joD l F.os)) :: r) (cs ++ joT l F.os) ((opN (F :: r) : Int) - (ntO (joT l F.os) : Int)) K' → Mok K' n B p H' → Q' none H') → Rj MX12_joins 1 [aR 57, aI z] H Q' := fun l z Q' hz kk => mc_joinsS hz hm hR0 (by omega) (by omega) (by omega) (by omega) hM kk
  have bad : ∀ (z : Int) (H1 : HI) (k pl : Int), goF n B F r cs p = .inl (k, pl) → Mbad K k pl H1 → Q (some (aI z)) H1 := fun z H1 k pl hO hb => kI (k, pl) z K H1 hO h1 hb
  have b4 : ∀ H1, tk n B p = 4 → Mbad K 1 (tsp n B p : Int) H1 → Bj MX12_goesOn 2 4 [some (aR 57), none, none, none, none] [] H1 Q := by
    intro H1 k4 hb
    have hf := Mbad_f hb
    refine b_aload_n rfl rfl ?_
    refine b_getI rfl fl12_36 rfl (by decide) rfl ?_
    refine b_if_le (tgt := 13) rfl rfl (fun c8 => ?_) (fun c8 => ?_)
    · omega
    · refine b_iconst rfl (by decide) ?_
      refine b_zret rfl rfl (by first | decide | omega) ?_
      exact bad _ _ _ _ (if_pos k4) hb
  -- what comes of an operator: the operand is wanted
  have f181 : ∀ (x1 x2 x3 x4 : Option AV) (p' : Nat) (fs' : List Fm) (cs' : List Int) (K2 H2 : HI), goF n B F r cs p = .inr (0, p', fs', cs') → RC K0 m k0 fs' cs' (opN fs' : Int) K2 → PF fs' → Mok K2 n B p' H2 → Bj MX12_goesOn 2 181 [some (aR 57), x1, x2, x3, x4] [] H2 Q := by
    intro x1 x2 x3 x4 p' fs' cs' K2 H2 hO hR2 hpf hM2
    obtain ⟨si, sa, en, va, wo, lx, e, h⟩ := hM2
    subst e
    refine b_aload_n rfl rfl ?_
    refine b_iconst rfl (by decide) ?_
    refine b_putZ rfl fl12_149 rfl (by decide) rfl (by first | decide | omega) ?_
    rw [MX_uo (by decide)]
    refine b_iconst rfl (by decide) ?_
    refine b_zret rfl rfl (by first | decide | omega) ?_
    exact kR 0 _ _ _ _ _ hO (RC_45 hR2) hpf ⟨si, sa, en, va, wo, lx, rfl, h⟩
  have f278 : ∀ (x1 x2 x3 x4 : Option AV) (p' : Nat) (fs' : List Fm) (cs' : List Int) (K2 H2 : HI), goF n B F r cs p = .inr (0, p', fs', cs') → RC K0 m k0 fs' cs' (opN fs' : Int) K2 → PF fs' → Mok K2 n B p' H2 → Bj MX12_goesOn 2 278 [some (aR 57), x1, x2, x3, x4] [] H2 Q := by
    intro x1 x2 x3 x4 p' fs' cs' K2 H2 hO hR2 hpf hM2
    obtain ⟨si, sa, en, va, wo, lx, e, h⟩ := hM2
    subst e
    refine b_aload_n rfl rfl ?_
    refine b_iconst rfl (by decide) ?_
    refine b_putZ rfl fl12_149 rfl (by decide) rfl (by first | decide | omega) ?_
    rw [MX_uo (by decide)]
    refine b_iconst rfl (by decide) ?_
    refine b_zret rfl rfl (by first | decide | omega) ?_
    exact kR 0 _ _ _ _ _ hO (RC_45 hR2) hpf ⟨si, sa, en, va, wo, lx, rfl, h⟩
  have f393 : ∀ (x1 x2 x3 x4 : Option AV) (p' : Nat) (fs' : List Fm) (cs' : List Int) (K2 H2 : HI), goF n B F r cs p = .inr (0, p', fs', cs') → RC K0 m k0 fs' cs' (opN fs' : Int) K2 → PF fs' → Mok K2 n B p' H2 → Bj MX12_goesOn 2 393 [some (aR 57), x1, x2, x3, x4] [] H2 Q := by
    intro x1 x2 x3 x4 p' fs' cs' K2 H2 hO hR2 hpf hM2
    obtain ⟨si, sa, en, va, wo, lx, e, h⟩ := hM2
    subst e
    refine b_aload_n rfl rfl ?_
    refine b_iconst rfl (by decide) ?_
    refine b_putZ rfl fl12_149 rfl (by decide) rfl (by first | decide | omega) ?_
    rw [MX_uo (by decide)]
    refine b_iconst rfl (by decide) ?_
    refine b_zret rfl rfl (by first | decide | omega) ?_
    exact kR 0 _ _ _ _ _ hO (RC_45 hR2) hpf ⟨si, sa, en, va, wo, lx, rfl, h⟩
  have f511 : ∀ (x1 x2 x3 x4 : Option AV) (p' : Nat) (fs' : List Fm) (cs' : List Int) (K2 H2 : HI), goF n B F r cs p = .inr (0, p', fs', cs') → RC K0 m k0 fs' cs' (opN fs' : Int) K2 → PF fs' → Mok K2 n B p' H2 → Bj MX12_goesOn 2 511 [some (aR 57), x1, x2, x3, x4] [] H2 Q := by
    intro x1 x2 x3 x4 p' fs' cs' K2 H2 hO hR2 hpf hM2
    obtain ⟨si, sa, en, va, wo, lx, e, h⟩ := hM2
    subst e
    refine b_aload_n rfl rfl ?_
    refine b_iconst rfl (by decide) ?_
    refine b_putZ rfl fl12_149 rfl (by decide) rfl (by first | decide | omega) ?_
    rw [MX_uo (by decide)]
    refine b_iconst rfl (by decide) ?_
    refine b_zret rfl rfl (by first | decide | omega) ?_
    exact kR 0 _ _ _ _ _ hO (RC_45 hR2) hpf ⟨si, sa, en, va, wo, lx, rfl, h⟩
  -- + - * / %
  have g87 : ∀ (x1 x2 x3 : Option AV), tk n B p ≠ 4 → F.ph < 2 → ari n B p → Bj MX12_goesOn 2 87 [some (aR 57), x1, x2, x3, none] [] H Q := by
    intro x1 x2 x3 k4 hp2 ha
    have hO : goF n B F r cs p = _ := (if_neg k4).trans (if_pos ⟨hp2, ha⟩)
    have hk3 : tk n B p = 3 := by rcases ha with h | h | h | h | h <;> exact h.1
    have hao : opc (arO n B p) ∧ arO n B p ≠ -9 := by
      unfold arO opc
      repeat' split
      all_goals omega
    have l5 : sg n B p 43 ∨ sg n B p 45 → (5 : Int) = (arL n B p : Int) := fun w => by
      unfold arL
      rw [if_pos (by rcases w with w | w <;> (have := w.2; omega))]
      rfl
    have l6 : ¬ sg n B p 43 → ¬ sg n B p 45 → (6 : Int) = (arL n B p : Int) := fun w1 w2 => by
      unfold arL
      rw [if_neg (fun w => by
        rcases w with w | w
        · exact w1 ⟨hk3, w⟩
        · exact w2 ⟨hk3, w⟩)]
      rfl
    have e43 : sg n B p 43 → (31 : Int) = so (arO n B p) := fun w => by rw [show arO n B p = -16 from if_pos w.2]; rfl
    have e45 : sg n B p 45 → (32 : Int) = so (arO n B p) := fun w => by
      have := w.2
      rw [show arO n B p = -17 from (if_neg (by omega)).trans (if_pos w.2)]; rfl
    have e42 : sg n B p 42 → (33 : Int) = so (arO n B p) := fun w => by
      have := w.2
      rw [show arO n B p = -18 from (if_neg (by omega)).trans ((if_neg (by omega)).trans (if_pos w.2))]; rfl
    have e47 : sg n B p 47 → (34 : Int) = so (arO n B p) := fun w => by
      have := w.2
      rw [show arO n B p = -19 from (if_neg (by omega)).trans ((if_neg (by omega)).trans ((if_neg (by omega)).trans (if_pos w.2)))]; rfl
    have e37 : ¬ sg n B p 43 → ¬ sg n B p 45 → ¬ sg n B p 42 → ¬ sg n B p 47 → (35 : Int) = so (arO n B p) := fun w1 w2 w3 w4 => by
      rw [show arO n B p = -20 from (if_neg (fun w => w1 ⟨hk3, w⟩)).trans ((if_neg (fun w => w2 ⟨hk3, w⟩)).trans ((if_neg (fun w => w3 ⟨hk3, w⟩)).trans (if_neg (fun w => w4 ⟨hk3, w⟩))))]; rfl
    have g115 : ∀ K1 H1, RC K0 m k0 ((mkF F.ki F.ph F.bg F.pa (joD (arL n B p) F.os)) :: r) (cs ++ joT (arL n B p) F.os) ((opN (F :: r) : Int) - (ntO (joT (arL n B p) F.os) : Int)) K1 → Mok K1 n B p H1 → Bj MX12_goesOn 2 115 [some (aR 57), x1, x2, x3, none] [] H1 Q := by
      intro K1 H1 hR1 hM1
      refine b_aload_n rfl rfl ?_
      refine b_aload_n rfl rfl ?_
      refine b_bipush rfl (by decide) ?_
      refine b_callV1i (ν := MX12_isSign) rfl ml12_250 cvX12_isSign (d' := 0) (by omega) rfl (by decide) rfl (Nat.le_of_ble_eq_true rfl) ?_
      refine mk_isSign k4 hM1 (fun y43 => ?_) (fun n43 => ?_)
      · refine ⟨_, rfl, ?_⟩
        refine b_if_eq (tgt := 130) rfl rfl (fun z => absurd z (by decide)) (fun _ => ?_)
        refine b_bipush rfl (by decide) ?_
        refine b_goto (tgt := 174) rfl rfl ?_
        refine b_callV1v (ν := MX12_holdsBack) rfl ml12_342 cvX12_holdsBack (d' := 0) (by omega) rfl (by decide) rfl (Nat.le_of_ble_eq_true rfl) ?_
        refine mc_holdS (v := arO n B p) (by first | exact e43 y43 | exact e45 y45 | exact e42 y42 | exact e47 y47 | exact e37 n43 n45 n42 n47) hR1 (totJ _ _ _ _ _) hao.1 hM1 (fun K2 H2 hR2 hM2 => ?_)
        refine ⟨rfl, ?_⟩
        refine b_aload_n rfl rfl ?_
        refine b_callV0v (ν := MX12_ahead) rfl ml12_253 cvX12_ahead (d' := 1) (by omega) rfl (by decide) rfl (Nat.le_of_ble_eq_true rfl) ?_
        refine mk_ahead (MTx_F hT hR2.1) hM2 (Or.inr (Or.inr hk3)) (fun H3 hM3 => ?_)
        refine ⟨rfl, ?_⟩
        exact f181 _ _ _ _ _ _ _ K2 _ hO (RC_eq hR2 rfl rfl (opJ _ _ _ _ _ _ hao.2)) (PF_c hPt.1 hPt.2) hM3
      · refine ⟨_, rfl, ?_⟩
        refine b_if_eq (tgt := 130) rfl rfl (fun _ => ?_) (fun z => absurd z (by decide))
        refine b_aload_n rfl rfl ?_
        refine b_bipush rfl (by decide) ?_
        refine b_callV1i (ν := MX12_isSign) rfl ml12_250 cvX12_isSign (d' := 0) (by omega) rfl (by decide) rfl (Nat.le_of_ble_eq_true rfl) ?_
        refine mk_isSign k4 hM1 (fun y45 => ?_) (fun n45 => ?_)
        · refine ⟨_, rfl, ?_⟩
          refine b_if_eq (tgt := 144) rfl rfl (fun z => absurd z (by decide)) (fun _ => ?_)
          refine b_bipush rfl (by decide) ?_
          refine b_goto (tgt := 174) rfl rfl ?_
          refine b_callV1v (ν := MX12_holdsBack) rfl ml12_342 cvX12_holdsBack (d' := 0) (by omega) rfl (by decide) rfl (Nat.le_of_ble_eq_true rfl) ?_
          refine mc_holdS (v := arO n B p) (by first | exact e43 y43 | exact e45 y45 | exact e42 y42 | exact e47 y47 | exact e37 n43 n45 n42 n47) hR1 (totJ _ _ _ _ _) hao.1 hM1 (fun K2 H2 hR2 hM2 => ?_)
          refine ⟨rfl, ?_⟩
          refine b_aload_n rfl rfl ?_
          refine b_callV0v (ν := MX12_ahead) rfl ml12_253 cvX12_ahead (d' := 1) (by omega) rfl (by decide) rfl (Nat.le_of_ble_eq_true rfl) ?_
          refine mk_ahead (MTx_F hT hR2.1) hM2 (Or.inr (Or.inr hk3)) (fun H3 hM3 => ?_)
          refine ⟨rfl, ?_⟩
          exact f181 _ _ _ _ _ _ _ K2 _ hO (RC_eq hR2 rfl rfl (opJ _ _ _ _ _ _ hao.2)) (PF_c hPt.1 hPt.2) hM3
        · refine ⟨_, rfl, ?_⟩
          refine b_if_eq (tgt := 144) rfl rfl (fun _ => ?_) (fun z => absurd z (by decide))
          refine b_aload_n rfl rfl ?_
          refine b_bipush rfl (by decide) ?_
          refine b_callV1i (ν := MX12_isSign) rfl ml12_250 cvX12_isSign (d' := 0) (by omega) rfl (by decide) rfl (Nat.le_of_ble_eq_true rfl) ?_
          refine mk_isSign k4 hM1 (fun y42 => ?_) (fun n42 => ?_)
          · refine ⟨_, rfl, ?_⟩
            refine b_if_eq (tgt := 158) rfl rfl (fun z => absurd z (by decide)) (fun _ => ?_)
            refine b_bipush rfl (by decide) ?_
            refine b_goto (tgt := 174) rfl rfl ?_
            refine b_callV1v (ν := MX12_holdsBack) rfl ml12_342 cvX12_holdsBack (d' := 0) (by omega) rfl (by decide) rfl (Nat.le_of_ble_eq_true rfl) ?_
            refine mc_holdS (v := arO n B p) (by first | exact e43 y43 | exact e45 y45 | exact e42 y42 | exact e47 y47 | exact e37 n43 n45 n42 n47) hR1 (totJ _ _ _ _ _) hao.1 hM1 (fun K2 H2 hR2 hM2 => ?_)
            refine ⟨rfl, ?_⟩
            refine b_aload_n rfl rfl ?_
            refine b_callV0v (ν := MX12_ahead) rfl ml12_253 cvX12_ahead (d' := 1) (by omega) rfl (by decide) rfl (Nat.le_of_ble_eq_true rfl) ?_
            refine mk_ahead (MTx_F hT hR2.1) hM2 (Or.inr (Or.inr hk3)) (fun H3 hM3 => ?_)
            refine ⟨rfl, ?_⟩
            exact f181 _ _ _ _ _ _ _ K2 _ hO (RC_eq hR2 rfl rfl (opJ _ _ _ _ _ _ hao.2)) (PF_c hPt.1 hPt.2) hM3
          · refine ⟨_, rfl, ?_⟩
            refine b_if_eq (tgt := 158) rfl rfl (fun _ => ?_) (fun z => absurd z (by decide))
            refine b_aload_n rfl rfl ?_
            refine b_bipush rfl (by decide) ?_
            refine b_callV1i (ν := MX12_isSign) rfl ml12_250 cvX12_isSign (d' := 0) (by omega) rfl (by decide) rfl (Nat.le_of_ble_eq_true rfl) ?_
            refine mk_isSign k4 hM1 (fun y47 => ?_) (fun n47 => ?_)
            · refine ⟨_, rfl, ?_⟩
              refine b_if_eq (tgt := 172) rfl rfl (fun z => absurd z (by decide)) (fun _ => ?_)
              refine b_bipush rfl (by decide) ?_
              refine b_goto (tgt := 174) rfl rfl ?_
              refine b_callV1v (ν := MX12_holdsBack) rfl ml12_342 cvX12_holdsBack (d' := 0) (by omega) rfl (by decide) rfl (Nat.le_of_ble_eq_true rfl) ?_
              refine mc_holdS (v := arO n B p) (by first | exact e43 y43 | exact e45 y45 | exact e42 y42 | exact e47 y47 | exact e37 n43 n45 n42 n47) hR1 (totJ _ _ _ _ _) hao.1 hM1 (fun K2 H2 hR2 hM2 => ?_)
              refine ⟨rfl, ?_⟩
              refine b_aload_n rfl rfl ?_
              refine b_callV0v (ν := MX12_ahead) rfl ml12_253 cvX12_ahead (d' := 1) (by omega) rfl (by decide) rfl (Nat.le_of_ble_eq_true rfl) ?_
              refine mk_ahead (MTx_F hT hR2.1) hM2 (Or.inr (Or.inr hk3)) (fun H3 hM3 => ?_)
              refine ⟨rfl, ?_⟩
              exact f181 _ _ _ _ _ _ _ K2 _ hO (RC_eq hR2 rfl rfl (opJ _ _ _ _ _ _ hao.2)) (PF_c hPt.1 hPt.2) hM3
            · refine ⟨_, rfl, ?_⟩
              refine b_if_eq (tgt := 172) rfl rfl (fun _ => ?_) (fun z => absurd z (by decide))
              refine b_bipush rfl (by decide) ?_
              refine b_callV1v (ν := MX12_holdsBack) rfl ml12_342 cvX12_holdsBack (d' := 0) (by omega) rfl (by decide) rfl (Nat.le_of_ble_eq_true rfl) ?_
              refine mc_holdS (v := arO n B p) (by first | exact e43 y43 | exact e45 y45 | exact e42 y42 | exact e47 y47 | exact e37 n43 n45 n42 n47) hR1 (totJ _ _ _ _ _) hao.1 hM1 (fun K2 H2 hR2 hM2 => ?_)
              refine ⟨rfl, ?_⟩
              refine b_aload_n rfl rfl ?_
              refine b_callV0v (ν := MX12_ahead) rfl ml12_253 cvX12_ahead (d' := 1) (by omega) rfl (by decide) rfl (Nat.le_of_ble_eq_true rfl) ?_
              refine mk_ahead (MTx_F hT hR2.1) hM2 (Or.inr (Or.inr hk3)) (fun H3 hM3 => ?_)
              refine ⟨rfl, ?_⟩
              exact f181 _ _ _ _ _ _ _ K2 _ hO (RC_eq hR2 rfl rfl (opJ _ _ _ _ _ _ hao.2)) (PF_c hPt.1 hPt.2) hM3
    refine b_aload_n rfl rfl ?_
    refine b_aload_n rfl rfl ?_
    refine b_bipush rfl (by decide) ?_
    refine b_callV1i (ν := MX12_isSign) rfl ml12_250 cvX12_isSign (d' := 0) (by omega) rfl (by decide) rfl (Nat.le_of_ble_eq_true rfl) ?_
    refine mk_isSign k4 hM (fun y43 => ?_) (fun n43 => ?_)
    · refine ⟨_, rfl, ?_⟩
      refine b_if_ne (tgt := 106) rfl rfl (fun _ => ?_) (fun z => absurd z (by decide))
      refine b_iconst rfl (by decide) ?_
      refine b_goto (tgt := 112) rfl rfl ?_
      refine b_callV1v (ν := MX12_joins) rfl ml12_348 cvX12_joins (d' := 1) (by omega) rfl (by decide) rfl (Nat.le_of_ble_eq_true rfl) ?_
      refine jn (arL n B p) _ _ (by first | exact l5 (Or.inl y43) | exact l5 (Or.inr y45) | exact l6 n43 n45) (fun K1 H1 hR1 hM1 => ?_)
      refine ⟨rfl, ?_⟩
      exact g115 _ _ hR1 hM1
    · refine ⟨_, rfl, ?_⟩
      refine b_if_ne (tgt := 106) rfl rfl (fun z => absurd z (by decide)) (fun _ => ?_)
      refine b_aload_n rfl rfl ?_
      refine b_bipush rfl (by decide) ?_
      refine b_callV1i (ν := MX12_isSign) rfl ml12_250 cvX12_isSign (d' := 0) (by omega) rfl (by decide) rfl (Nat.le_of_ble_eq_true rfl) ?_
      refine mk_isSign k4 hM (fun y45 => ?_) (fun n45 => ?_)
      · refine ⟨_, rfl, ?_⟩
        refine b_if_eq (tgt := 110) rfl rfl (fun z => absurd z (by decide)) (fun _ => ?_)
        refine b_iconst rfl (by decide) ?_
        refine b_goto (tgt := 112) rfl rfl ?_
        refine b_callV1v (ν := MX12_joins) rfl ml12_348 cvX12_joins (d' := 1) (by omega) rfl (by decide) rfl (Nat.le_of_ble_eq_true rfl) ?_
        refine jn (arL n B p) _ _ (by first | exact l5 (Or.inl y43) | exact l5 (Or.inr y45) | exact l6 n43 n45) (fun K1 H1 hR1 hM1 => ?_)
        refine ⟨rfl, ?_⟩
        exact g115 _ _ hR1 hM1
      · refine ⟨_, rfl, ?_⟩
        refine b_if_eq (tgt := 110) rfl rfl (fun _ => ?_) (fun z => absurd z (by decide))
        refine b_bipush rfl (by decide) ?_
        refine b_callV1v (ν := MX12_joins) rfl ml12_348 cvX12_joins (d' := 1) (by omega) rfl (by decide) rfl (Nat.le_of_ble_eq_true rfl) ?_
        refine jn (arL n B p) _ _ (by first | exact l5 (Or.inl y43) | exact l5 (Or.inr y45) | exact l6 n43 n45) (fun K1 H1 hR1 hM1 => ?_)
        refine ⟨rfl, ?_⟩
        exact g115 _ _ hR1 hM1
  -- < > =
  have g228 : ∀ (z1 : Int) (x2 x3 : Option AV), z1 = (r.length : Int) → tk n B p ≠ 4 → ¬ (F.ph < 2 ∧ ari n B p) → tst F → F.ph = 0 → cmpS n B p → Bj MX12_goesOn 2 228 [some (aR 57), some (aI z1), x2, x3, none] [] H Q := by
    intro z1 x2 x3 hz1 k4 na ht hp0 hc
    have hO : goF n B F r cs p = _ := (if_neg k4).trans ((if_neg na).trans (if_pos ⟨ht, hp0, hc⟩))
    have hk3 : tk n B p = 3 := by rcases hc with h | h | h <;> exact h.1
    have hao : opc (cmO n B p) ∧ cmO n B p ≠ -9 := by
      unfold cmO opc
      repeat' split
      all_goals omega
    have e60 : sg n B p 60 → (38 : Int) = so (cmO n B p) := fun w => by rw [show cmO n B p = -13 from if_pos w.2]; rfl
    have e62 : sg n B p 62 → (39 : Int) = so (cmO n B p) := fun w => by
      have := w.2
      rw [show cmO n B p = -14 from (if_neg (by omega)).trans (if_pos w.2)]; rfl
    have e61 : ¬ sg n B p 60 → ¬ sg n B p 62 → (40 : Int) = so (cmO n B p) := fun w1 w2 => by
      rw [show cmO n B p = -15 from (if_neg (fun w => w1 ⟨hk3, w⟩)).trans (if_neg (fun w => w2 ⟨hk3, w⟩))]; rfl
    have g267 : ∀ K2 H2, RC K0 m k0 ((mkF F.ki F.ph F.bg F.pa (cmO n B p :: joD 5 F.os)) :: r) (cs ++ joT 5 F.os) ((opN (F :: r) : Int) - (ntO (joT 5 F.os) : Int)) K2 → Mok K2 n B p H2 → Bj MX12_goesOn 2 267 [some (aR 57), some (aI z1), x2, x3, none] [] H2 Q := by
      intro K2 H2 hR2 hM2
      obtain ⟨si, sa, en, va, wo, lx, e, h⟩ := hM2
      subst e
      have hR3 := RC_ph (x := 1) hR2 (by decide)
      have ez : z1.toNat = r.length := by omega
      refine b_aload_n rfl rfl ?_
      refine b_getR (r := 79) rfl fl12_124 rfl (by decide) rfl rfl ?_
      refine b_iload_n rfl rfl ?_
      refine b_iconst rfl (by decide) ?_
      refine b_iast rfl rfl (by omega) (by omega) ?_
      try simp only [tn6, tn4, tn2, tn144, tn24, tn_cast, Int.reduceToNat]
      rw [MX_ux (by decide)]
      try rw [ez]
      refine b_aload_n rfl rfl ?_
      refine b_callV0v (ν := MX12_ahead) rfl ml12_253 cvX12_ahead (d' := 1) (by omega) rfl (by decide) rfl (Nat.le_of_ble_eq_true rfl) ?_
      refine mk_ahead (p := p) (MTx_F hT hR3.1) ⟨si, sa, en, va, wo, lx, rfl, h⟩ (Or.inr (Or.inr hk3)) (fun H3 hM3 => ?_)
      refine ⟨rfl, ?_⟩
      exact f278 _ _ _ _ _ _ _ _ _ hO (RC_eq hR3 rfl rfl (opJ _ _ _ _ _ _ hao.2)) (PF_c hPt.1 hPt.2) hM3
    have g233 : ∀ K1 H1, RC K0 m k0 ((mkF F.ki F.ph F.bg F.pa (joD 5 F.os)) :: r) (cs ++ joT 5 F.os) ((opN (F :: r) : Int) - (ntO (joT 5 F.os) : Int)) K1 → Mok K1 n B p H1 → Bj MX12_goesOn 2 233 [some (aR 57), some (aI z1), x2, x3, none] [] H1 Q := by
      intro K1 H1 hR1 hM1
      refine b_aload_n rfl rfl ?_
      refine b_aload_n rfl rfl ?_
      refine b_bipush rfl (by decide) ?_
      refine b_callV1i (ν := MX12_isSign) rfl ml12_250 cvX12_isSign (d' := 0) (by omega) rfl (by decide) rfl (Nat.le_of_ble_eq_true rfl) ?_
      refine mk_isSign k4 hM1 (fun y60 => ?_) (fun n60 => ?_)
      · refine ⟨_, rfl, ?_⟩
        refine b_if_eq (tgt := 248) rfl rfl (fun z => absurd z (by decide)) (fun _ => ?_)
        refine b_bipush rfl (by decide) ?_
        refine b_goto (tgt := 264) rfl rfl ?_
        refine b_callV1v (ν := MX12_holdsBack) rfl ml12_342 cvX12_holdsBack (d' := 0) (by omega) rfl (by decide) rfl (Nat.le_of_ble_eq_true rfl) ?_
        refine mc_holdS (v := cmO n B p) (by first | exact e60 y60 | exact e62 y62 | exact e61 n60 n62) hR1 (totJ _ _ _ _ _) hao.1 hM1 (fun K2 H2 hR2 hM2 => ?_)
        refine ⟨rfl, ?_⟩
        exact g267 _ _ hR2 hM2
      · refine ⟨_, rfl, ?_⟩
        refine b_if_eq (tgt := 248) rfl rfl (fun _ => ?_) (fun z => absurd z (by decide))
        refine b_aload_n rfl rfl ?_
        refine b_bipush rfl (by decide) ?_
        refine b_callV1i (ν := MX12_isSign) rfl ml12_250 cvX12_isSign (d' := 0) (by omega) rfl (by decide) rfl (Nat.le_of_ble_eq_true rfl) ?_
        refine mk_isSign k4 hM1 (fun y62 => ?_) (fun n62 => ?_)
        · refine ⟨_, rfl, ?_⟩
          refine b_if_eq (tgt := 262) rfl rfl (fun z => absurd z (by decide)) (fun _ => ?_)
          refine b_bipush rfl (by decide) ?_
          refine b_goto (tgt := 264) rfl rfl ?_
          refine b_callV1v (ν := MX12_holdsBack) rfl ml12_342 cvX12_holdsBack (d' := 0) (by omega) rfl (by decide) rfl (Nat.le_of_ble_eq_true rfl) ?_
          refine mc_holdS (v := cmO n B p) (by first | exact e60 y60 | exact e62 y62 | exact e61 n60 n62) hR1 (totJ _ _ _ _ _) hao.1 hM1 (fun K2 H2 hR2 hM2 => ?_)
          refine ⟨rfl, ?_⟩
          exact g267 _ _ hR2 hM2
        · refine ⟨_, rfl, ?_⟩
          refine b_if_eq (tgt := 262) rfl rfl (fun _ => ?_) (fun z => absurd z (by decide))
          refine b_bipush rfl (by decide) ?_
          refine b_callV1v (ν := MX12_holdsBack) rfl ml12_342 cvX12_holdsBack (d' := 0) (by omega) rfl (by decide) rfl (Nat.le_of_ble_eq_true rfl) ?_
          refine mc_holdS (v := cmO n B p) (by first | exact e60 y60 | exact e62 y62 | exact e61 n60 n62) hR1 (totJ _ _ _ _ _) hao.1 hM1 (fun K2 H2 hR2 hM2 => ?_)
          refine ⟨rfl, ?_⟩
          exact g267 _ _ hR2 hM2
    refine b_aload_n rfl rfl ?_
    refine b_iconst rfl (by decide) ?_
    refine b_callV1v (ν := MX12_joins) rfl ml12_348 cvX12_joins (d' := 1) (by omega) rfl (by decide) rfl (Nat.le_of_ble_eq_true rfl) ?_
    refine jn 5 _ _ rfl (fun K1 H1 hR1 hM1 => ?_)
    refine ⟨rfl, ?_⟩
    exact g233 _ _ hR1 hM1
  -- and, or
  have g336 : ∀ (z1 z2 z3 : Int), z1 = (r.length : Int) → tk n B p ≠ 4 → goF n B F r cs p = .inr (0, te n B p, (mkF F.ki 0 1 F.pa ((if tw n B p = 24 then -12 else -11) :: joD (if tw n B p = 24 then 2 else 1) F.os)) :: r, cs ++ joT (if tw n B p = 24 then 2 else 1) F.os) → (tw n B p = 24 ∨ tw n B p = 23) → Bj MX12_goesOn 2 336 [some (aR 57), some (aI z1), some (aI z2), some (aI z3), none] [] H Q := by
    intro z1 z2 z3 hz1 k4 hO hw
    have hk1 : tk n B p = 1 := by rcases hw with h | h <;> exact tw_1 h (by decide)
    have rest : ∀ (z4 v s : Int) (l : Nat), ((z4 = 1 ∧ l = 2 ∧ v = -12) ∨ (z4 = 0 ∧ l = 1 ∧ v = -11)) → goF n B F r cs p = .inr (0, te n B p, (mkF F.ki 0 1 F.pa (v :: joD l F.os)) :: r, cs ++ joT l F.os) → Bj MX12_goesOn 2 345 [some (aR 57), some (aI z1), some (aI z2), some (aI z3), some (aI z4)] [] H Q := by
      intro z4 v s l hz4 hO
      have hv9 : v ≠ -9 ∧ opc v := by unfold opc; omega
      have g375 : ∀ K2 H2, RC K0 m k0 ((mkF F.ki F.ph F.bg F.pa (v :: joD l F.os)) :: r) (cs ++ joT l F.os) ((opN (F :: r) : Int) - (ntO (joT l F.os) : Int)) K2 → Mok K2 n B p H2 → Bj MX12_goesOn 2 375 [some (aR 57), some (aI z1), some (aI z2), some (aI z3), some (aI z4)] [] H2 Q := by
        intro K2 H2 hR2 hM2
        obtain ⟨si, sa, en, va, wo, lx, e, h⟩ := hM2
        subst e
        have hR3 := RC_ph (x := 0) hR2 (by decide)
        have hR4 := RC_bg (x := 1) hR3 (Or.inr rfl)
        have ez : z1.toNat = r.length := by omega
        refine b_aload_n rfl rfl ?_
        refine b_getR (r := 79) rfl fl12_124 rfl (by decide) rfl rfl ?_
        refine b_iload_n rfl rfl ?_
        refine b_iconst rfl (by decide) ?_
        refine b_iast rfl rfl (by omega) (by omega) ?_
        try simp only [tn6, tn4, tn2, tn144, tn24, tn_cast, Int.reduceToNat]
        rw [MX_ux (by decide)]
        try rw [ez]
        refine b_aload_n rfl rfl ?_
        refine b_getR (r := 80) rfl fl12_127 rfl (by decide) rfl rfl ?_
        refine b_iload_n rfl rfl ?_
        refine b_iconst rfl (by decide) ?_
        refine b_zast rfl rfl (by omega) (by omega) (by first | decide | omega) ?_
        try simp only [tn6, tn4, tn2, tn144, tn24, tn_cast, Int.reduceToNat]
        rw [MX_ux (by decide)]
        try rw [ez]
        refine b_aload_n rfl rfl ?_
        refine b_callV0v (ν := MX12_ahead) rfl ml12_253 cvX12_ahead (d' := 1) (by omega) rfl (by decide) rfl (Nat.le_of_ble_eq_true rfl) ?_
        refine mk_ahead (p := p) (MTx_F hT hR4.1) ⟨si, sa, en, va, wo, lx, rfl, h⟩ (Or.inl hk1) (fun H3 hM3 => ?_)
        refine ⟨rfl, ?_⟩
        exact f393 _ _ _ _ _ _ _ _ _ hO (RC_eq hR4 rfl rfl (opJ _ _ _ _ _ _ hv9.1)) (PF_c hPt.1 hPt.2) hM3
      have g359 : ∀ K1 H1, RC K0 m k0 ((mkF F.ki F.ph F.bg F.pa (joD l F.os)) :: r) (cs ++ joT l F.os) ((opN (F :: r) : Int) - (ntO (joT l F.os) : Int)) K1 → Mok K1 n B p H1 → Bj MX12_goesOn 2 359 [some (aR 57), some (aI z1), some (aI z2), some (aI z3), some (aI z4)] [] H1 Q := by
        intro K1 H1 hR1 hM1
        have es : (z4 = 1 → (41 : Int) = so v) ∧ (z4 = 0 → (42 : Int) = so v) := by
          constructor
          · intro e
            rw [show v = -12 by omega]; rfl
          · intro e
            rw [show v = -11 by omega]; rfl
        refine b_aload_n rfl rfl ?_
        refine b_iload rfl rfl ?_
        refine b_if_eq (tgt := 370) rfl rfl (fun c362 => ?_) (fun c362 => ?_)
        · refine b_bipush rfl (by decide) ?_
          refine b_callV1v (ν := MX12_holdsBack) rfl ml12_342 cvX12_holdsBack (d' := 0) (by omega) rfl (by decide) rfl (Nat.le_of_ble_eq_true rfl) ?_
          refine mc_holdS (v := v) (by first | exact es.1 (by omega) | exact es.2 (by omega)) hR1 (totJ _ _ _ _ _) hv9.2 hM1 (fun K2 H2 hR2 hM2 => ?_)
          refine ⟨rfl, ?_⟩
          exact g375 _ _ hR2 hM2
        · refine b_bipush rfl (by decide) ?_
          refine b_goto (tgt := 372) rfl rfl ?_
          refine b_callV1v (ν := MX12_holdsBack) rfl ml12_342 cvX12_holdsBack (d' := 0) (by omega) rfl (by decide) rfl (Nat.le_of_ble_eq_true rfl) ?_
          refine mc_holdS (v := v) (by first | exact es.1 (by omega) | exact es.2 (by omega)) hR1 (totJ _ _ _ _ _) hv9.2 hM1 (fun K2 H2 hR2 hM2 => ?_)
          refine ⟨rfl, ?_⟩
          exact g375 _ _ hR2 hM2
      refine b_aload_n rfl rfl ?_
      refine b_iload rfl rfl ?_
      refine b_if_eq (tgt := 355) rfl rfl (fun c348 => ?_) (fun c348 => ?_)
      · refine b_iconst rfl (by decide) ?_
        refine b_callV1v (ν := MX12_joins) rfl ml12_348 cvX12_joins (d' := 1) (by omega) rfl (by decide) rfl (Nat.le_of_ble_eq_true rfl) ?_
        refine jn l _ _ (by omega) (fun K1 H1 hR1 hM1 => ?_)
        refine ⟨rfl, ?_⟩
        exact g359 _ _ hR1 hM1
      · refine b_iconst rfl (by decide) ?_
        refine b_goto (tgt := 356) rfl rfl ?_
        refine b_callV1v (ν := MX12_joins) rfl ml12_348 cvX12_joins (d' := 1) (by omega) rfl (by decide) rfl (Nat.le_of_ble_eq_true rfl) ?_
        refine jn l _ _ (by omega) (fun K1 H1 hR1 hM1 => ?_)
        refine ⟨rfl, ?_⟩
        exact g359 _ _ hR1 hM1
    refine b_aload_n rfl rfl ?_
    refine b_ldc2 (z := 6385252) rfl kl12_304 (by decide) ?_
    refine b_callV1i (ν := MX12_isWord) rfl ml12_338 cvX12_isWord (d' := 0) (by omega) rfl (by decide) rfl (Nat.le_of_ble_eq_true rfl) ?_
    refine mk_isWord (k := 24) (by decide) (by decide) k4 hM (fun w24 => ?_) (fun w24 => ?_)
    · refine ⟨_, rfl, ?_⟩
      refine b_istoreX (F := fun z343 => [some (aR 57), some (aI z1), some (aI z2), some (aI z3), some (aI z343)]) rfl (by decide) (fun _ => rfl) (fun z343 ez343 => ?_)
      first
      | (have e : z343 = 1 := by omega
         refine rest _ (-12) 0 2 (Or.inl ⟨e, rfl, rfl⟩) ?_
         rw [if_pos (show tw n B p = 24 from w24), if_pos (show tw n B p = 24 from w24)] at hO
         exact hO)
      | (have e : z343 = 0 := by omega
         refine rest _ (-11) 0 1 (Or.inr ⟨e, rfl, rfl⟩) ?_
         rw [if_neg (show ¬ tw n B p = 24 from w24), if_neg (show ¬ tw n B p = 24 from w24)] at hO
         exact hO)
    · refine ⟨_, rfl, ?_⟩
      refine b_istoreX (F := fun z343 => [some (aR 57), some (aI z1), some (aI z2), some (aI z3), some (aI z343)]) rfl (by decide) (fun _ => rfl) (fun z343 ez343 => ?_)
      first
      | (have e : z343 = 1 := by omega
         refine rest _ (-12) 0 2 (Or.inl ⟨e, rfl, rfl⟩) ?_
         rw [if_pos (show tw n B p = 24 from w24), if_pos (show tw n B p = 24 from w24)] at hO
         exact hO)
      | (have e : z343 = 0 := by omega
         refine rest _ (-11) 0 1 (Or.inr ⟨e, rfl, rfl⟩) ?_
         rw [if_neg (show ¬ tw n B p = 24 from w24), if_neg (show ¬ tw n B p = 24 from w24)] at hO
         exact hO)
  have b327 : ∀ (x1 x2 x3 : Option AV) (H1 : HI), goF n B F r cs p = .inl (1, (tq n B p : Int)) → Mbad K 1 (tq n B p : Int) H1 → Bj MX12_goesOn 2 327 [some (aR 57), x1, x2, x3, none] [] H1 Q := by
    intro x1 x2 x3 H1 hO hb
    have hf := Mbad_f hb
    refine b_aload_n rfl rfl ?_
    refine b_getI rfl fl12_36 rfl (by decide) rfl ?_
    refine b_if_le (tgt := 336) rfl rfl (fun c331 => ?_) (fun c331 => ?_)
    · omega
    · refine b_iconst rfl (by decide) ?_
      refine b_zret rfl rfl (by first | decide | omega) ?_
      exact bad _ _ _ _ hO hb
  have b546 : ∀ (x1 x2 x3 : Option AV) (H1 : HI), goF n B F r cs p = .inl (1, (tq n B p : Int)) → Mbad K 1 (tq n B p : Int) H1 → Bj MX12_goesOn 2 546 [some (aR 57), x1, x2, x3, none] [] H1 Q := by
    intro x1 x2 x3 H1 hO hb
    have hf := Mbad_f hb
    refine b_aload_n rfl rfl ?_
    refine b_getI rfl fl12_36 rfl (by decide) rfl ?_
    refine b_if_le (tgt := 555) rfl rfl (fun c550 => ?_) (fun c550 => ?_)
    · omega
    · refine b_iconst rfl (by decide) ?_
      refine b_zret rfl rfl (by first | decide | omega) ?_
      exact bad _ _ _ _ hO hb
  have b470 : ∀ (x1 x2 x3 : Option AV) (H1 : HI), goF n B F r cs p = .inl (1, (tq n B p : Int)) → Mbad K 1 (tq n B p : Int) H1 → Bj MX12_goesOn 2 470 [some (aR 57), x1, x2, x3, none] [] H1 Q := by
    intro x1 x2 x3 H1 hO hb
    have hf := Mbad_f hb
    refine b_aload_n rfl rfl ?_
    refine b_getI rfl fl12_36 rfl (by decide) rfl ?_
    refine b_if_le (tgt := 479) rfl rfl (fun c474 => ?_) (fun c474 => ?_)
    · omega
    · refine b_iconst rfl (by decide) ?_
      refine b_zret rfl rfl (by first | decide | omega) ?_
      exact bad _ _ _ _ hO hb
  have b422 : ∀ (x1 x3 : Option AV) (z2 : Int) (H1 : HI), goF n B F r cs p = .inl (1, (tq n B p : Int)) → Mbad K 1 (tq n B p : Int) H1 → Bj MX12_goesOn 2 422 [some (aR 57), x1, some (aI z2), x3, none] [] H1 Q := by
    intro x1 x3 z2 H1 hO hb
    have hf := Mbad_f hb
    refine b_iload_n rfl rfl ?_
    refine b_iconst rfl (by decide) ?_
    refine b_icmp_ge (tgt := 441) rfl rfl (fun c424 => ?_) (fun c424 => ?_)
    · refine b_iload_n rfl rfl ?_
      refine b_iconst rfl (by decide) ?_
      refine b_icmp_eq (tgt := 452) rfl rfl (fun c443 => ?_) (fun c443 => ?_)
      · refine b_aload_n rfl rfl ?_
        refine b_bipush rfl (by decide) ?_
        refine b_callV1i (ν := MX12_isSign) rfl ml12_250 cvX12_isSign (d' := 0) (by omega) rfl (by decide) rfl (Nat.le_of_ble_eq_true rfl) ?_
        refine mk_isSignB hb (fun z hz => ?_)
        refine ⟨_, rfl, ?_⟩
        refine b_if_ne (tgt := 470) rfl rfl (fun c458 => ?_) (fun c458 => ?_)
        · exact b470 _ _ _ _ hO hb
        · refine b_aload_n rfl rfl ?_
          refine b_iconst rfl (by decide) ?_
          refine b_aload_n rfl rfl ?_
          refine b_getI rfl fl12_23 rfl (by decide) rfl ?_
          refine b_callV2v (ν := MX12_blame) rfl ml12_236 cvX12_blame (d' := 0) (by omega) rfl (by decide) rfl (Nat.le_of_ble_eq_true rfl) ?_
          refine mk_blameB hb ?_
          refine ⟨rfl, ?_⟩
          exact b470 _ _ _ _ hO hb
      · refine b_iload_n rfl rfl ?_
        refine b_bipush rfl (by decide) ?_
        refine b_icmp_ne (tgt := 518) rfl rfl (fun c449 => ?_) (fun c449 => ?_)
        · refine b_aload_n rfl rfl ?_
          refine b_iload_n rfl rfl ?_
          refine b_iconst rfl (by decide) ?_
          refine b_icmp_ne (tgt := 529) rfl rfl (fun c521 => ?_) (fun c521 => ?_)
          · refine b_bipush rfl (by decide) ?_
            refine b_callV1i (ν := MX12_isSign) rfl ml12_250 cvX12_isSign (d' := 0) (by omega) rfl (by decide) rfl (Nat.le_of_ble_eq_true rfl) ?_
            refine mk_isSignB hb (fun z hz => ?_)
            refine ⟨_, rfl, ?_⟩
            refine b_if_ne (tgt := 546) rfl rfl (fun c534 => ?_) (fun c534 => ?_)
            · exact b546 _ _ _ _ hO hb
            · refine b_aload_n rfl rfl ?_
              refine b_iconst rfl (by decide) ?_
              refine b_aload_n rfl rfl ?_
              refine b_getI rfl fl12_23 rfl (by decide) rfl ?_
              refine b_callV2v (ν := MX12_blame) rfl ml12_236 cvX12_blame (d' := 0) (by omega) rfl (by decide) rfl (Nat.le_of_ble_eq_true rfl) ?_
              refine mk_blameB hb ?_
              refine ⟨rfl, ?_⟩
              exact b546 _ _ _ _ hO hb
          · refine b_bipush rfl (by decide) ?_
            refine b_goto (tgt := 531) rfl rfl ?_
            refine b_callV1i (ν := MX12_isSign) rfl ml12_250 cvX12_isSign (d' := 0) (by omega) rfl (by decide) rfl (Nat.le_of_ble_eq_true rfl) ?_
            refine mk_isSignB hb (fun z hz => ?_)
            refine ⟨_, rfl, ?_⟩
            refine b_if_ne (tgt := 546) rfl rfl (fun c534 => ?_) (fun c534 => ?_)
            · exact b546 _ _ _ _ hO hb
            · refine b_aload_n rfl rfl ?_
              refine b_iconst rfl (by decide) ?_
              refine b_aload_n rfl rfl ?_
              refine b_getI rfl fl12_23 rfl (by decide) rfl ?_
              refine b_callV2v (ν := MX12_blame) rfl ml12_236 cvX12_blame (d' := 0) (by omega) rfl (by decide) rfl (Nat.le_of_ble_eq_true rfl) ?_
              refine mk_blameB hb ?_
              refine ⟨rfl, ?_⟩
              exact b546 _ _ _ _ hO hb
        · refine b_aload_n rfl rfl ?_
          refine b_bipush rfl (by decide) ?_
          refine b_callV1i (ν := MX12_isSign) rfl ml12_250 cvX12_isSign (d' := 0) (by omega) rfl (by decide) rfl (Nat.le_of_ble_eq_true rfl) ?_
          refine mk_isSignB hb (fun z hz => ?_)
          refine ⟨_, rfl, ?_⟩
          refine b_if_ne (tgt := 470) rfl rfl (fun c458 => ?_) (fun c458 => ?_)
          · exact b470 _ _ _ _ hO hb
          · refine b_aload_n rfl rfl ?_
            refine b_iconst rfl (by decide) ?_
            refine b_aload_n rfl rfl ?_
            refine b_getI rfl fl12_23 rfl (by decide) rfl ?_
            refine b_callV2v (ν := MX12_blame) rfl ml12_236 cvX12_blame (d' := 0) (by omega) rfl (by decide) rfl (Nat.le_of_ble_eq_true rfl) ?_
            refine mk_blameB hb ?_
            refine ⟨rfl, ?_⟩
            exact b470 _ _ _ _ hO hb
    · refine b_aload_n rfl rfl ?_
      refine b_getI rfl fl12_36 rfl (by decide) rfl ?_
      refine b_if_ne (tgt := 439) rfl rfl (fun c431 => ?_) (fun c431 => ?_)
      · refine b_iconst rfl (by decide) ?_
        refine b_zret rfl rfl (by first | decide | omega) ?_
        exact bad _ _ _ _ hO hb
      · omega
  have opJ0 : ∀ (a b c d : Int), (opN (F :: r) : Int) - (ntO (joT 1 F.os) : Int) = (opN ((mkF a b c d (joD 1 F.os)) :: r) : Int) := by
    intro a b c d
    have hj := (jo_le (l := 1) (O := F.os)).2.2
    rw [hoc, opN_c]
    show _ = ((ntO (joD 1 F.os) + nts r + r.length : Nat) : Int)
    omega
  -- , within a pair
  have g479 : ∀ (z1 z2 : Int) (x3 : Option AV), z1 = (r.length : Int) → z2 = F.ki → (F.ki = 3 ∨ F.ki = 6) → sg n B p 44 → goF n B F r cs p = .inr (0, te n B p, (mkF (if F.ki = 3 then 4 else 3) 0 F.bg F.pa (joD 1 F.os)) :: r, cs ++ joT 1 F.os) → Bj MX12_goesOn 2 479 [some (aR 57), some (aI z1), some (aI z2), x3, none] [] H Q := by
    intro z1 z2 x3 hz1 hz2 hk hs hO
    have ez : z1.toNat = r.length := by omega
    have g484 : ∀ K1 H1, RC K0 m k0 ((mkF F.ki F.ph F.bg F.pa (joD 1 F.os)) :: r) (cs ++ joT 1 F.os) ((opN (F :: r) : Int) - (ntO (joT 1 F.os) : Int)) K1 → Mok K1 n B p H1 → Bj MX12_goesOn 2 484 [some (aR 57), some (aI z1), some (aI z2), x3, none] [] H1 Q := by
      intro K1 H1 hR1 hM1
      obtain ⟨si, sa, en, va, wo, lx, e, h⟩ := hM1
      subst e
      have hR2 := RC_ki (x := (if F.ki = 3 then 4 else 3)) hR1 (by split <;> omega)
      have hR3 := RC_ph (x := 0) hR2 (by decide)
      have hpf : PF ((mkF (if F.ki = 3 then 4 else 3) 0 F.bg F.pa (joD 1 F.os)) :: r) := PF_c hPt.1 (fun _ => hPt.2 (by omega))
      refine b_aload_n rfl rfl ?_
      refine b_getR (r := 78) rfl fl12_121 rfl (by decide) rfl rfl ?_
      refine b_iload_n rfl rfl ?_
      refine b_iload_n rfl rfl ?_
      refine b_iconst rfl (by decide) ?_
      refine b_icmp_ne (tgt := 498) rfl rfl (fun c491 => ?_) (fun c491 => ?_)
      · refine b_iconst rfl (by decide) ?_
        refine b_iast rfl rfl (by omega) (by omega) ?_
        try simp only [tn6, tn4, tn2, tn144, tn24, tn_cast, Int.reduceToNat]
        rw [MX_ux (by decide)]
        try rw [ez]
        first
          | rw [show (4 : Int) = (if F.ki = 3 then 4 else 3) from (if_pos (by omega)).symm]
          | rw [show (3 : Int) = (if F.ki = 3 then 4 else 3) from (if_neg (by omega)).symm]
        refine b_aload_n rfl rfl ?_
        refine b_getR (r := 79) rfl fl12_124 rfl (by decide) rfl rfl ?_
        refine b_iload_n rfl rfl ?_
        refine b_iconst rfl (by decide) ?_
        refine b_iast rfl rfl (by omega) (by omega) ?_
        try simp only [tn6, tn4, tn2, tn144, tn24, tn_cast, Int.reduceToNat]
        rw [MX_ux (by decide)]
        try rw [ez]
        refine b_aload_n rfl rfl ?_
        refine b_callV0v (ν := MX12_ahead) rfl ml12_253 cvX12_ahead (d' := 1) (by omega) rfl (by decide) rfl (Nat.le_of_ble_eq_true rfl) ?_
        refine mk_ahead (p := p) (MTx_F hT hR3.1) ⟨si, sa, en, va, wo, lx, rfl, h⟩ (sg_c hs) (fun H3 hM3 => ?_)
        refine ⟨rfl, ?_⟩
        exact f511 _ _ _ _ _ _ _ _ _ hO (RC_eq hR3 rfl rfl (opJ0 _ _ _ _)) hpf hM3
      · refine b_iconst rfl (by decide) ?_
        refine b_goto (tgt := 499) rfl rfl ?_
        refine b_iast rfl rfl (by omega) (by omega) ?_
        try simp only [tn6, tn4, tn2, tn144, tn24, tn_cast, Int.reduceToNat]
        rw [MX_ux (by decide)]
        try rw [ez]
        first
          | rw [show (4 : Int) = (if F.ki = 3 then 4 else 3) from (if_pos (by omega)).symm]
          | rw [show (3 : Int) = (if F.ki = 3 then 4 else 3) from (if_neg (by omega)).symm]
        refine b_aload_n rfl rfl ?_
        refine b_getR (r := 79) rfl fl12_124 rfl (by decide) rfl rfl ?_
        refine b_iload_n rfl rfl ?_
        refine b_iconst rfl (by decide) ?_
        refine b_iast rfl rfl (by omega) (by omega) ?_
        try simp only [tn6, tn4, tn2, tn144, tn24, tn_cast, Int.reduceToNat]
        rw [MX_ux (by decide)]
        try rw [ez]
        refine b_aload_n rfl rfl ?_
        refine b_callV0v (ν := MX12_ahead) rfl ml12_253 cvX12_ahead (d' := 1) (by omega) rfl (by decide) rfl (Nat.le_of_ble_eq_true rfl) ?_
        refine mk_ahead (p := p) (MTx_F hT hR3.1) ⟨si, sa, en, va, wo, lx, rfl, h⟩ (sg_c hs) (fun H3 hM3 => ?_)
        refine ⟨rfl, ?_⟩
        exact f511 _ _ _ _ _ _ _ _ _ hO (RC_eq hR3 rfl rfl (opJ0 _ _ _ _)) hpf hM3
    refine b_aload_n rfl rfl ?_
    refine b_iconst rfl (by decide) ?_
    refine b_callV1v (ν := MX12_joins) rfl ml12_348 cvX12_joins (d' := 1) (by omega) rfl (by decide) rfl (Nat.le_of_ble_eq_true rfl) ?_
    refine jn 1 _ _ rfl (fun K1 H1 hR1 hM1 => ?_)
    refine ⟨rfl, ?_⟩
    exact g484 _ _ hR1 hM1
  -- closing
  have g555 : ∀ (z1 z2 : Int) (x3 : Option AV), z1 = (r.length : Int) → z2 = F.ki → (F.ki = 2 ∨ F.ki = 4 ∨ F.ki = 5) → tk n B p = 3 → goF n B F r cs p = .inr (1, te n B p, pop2 F r, cs ++ joT 1 F.os ++ (if F.ki = 4 then [F.pa] else [])) → Bj MX12_goesOn 2 555 [some (aR 57), some (aI z1), some (aI z2), x3, none] [] H Q := by
    intro z1 z2 x3 hz1 hz2 hk hk3 hO
    have ez : z1.toNat = r.length := by omega
    obtain ⟨G, r', hr⟩ : ∃ G r', r = G :: r' := by
      cases r with
      | nil => exact absurd rfl (hr0 (by omega))
      | cons G r' => exact ⟨G, r', rfl⟩
    have hrl : 1 ≤ r.length := by rw [hr, List.length_cons]; omega
    have opr : (opN (F :: r) : Int) - (ntO (joT 1 F.os) : Int) - 1 = (opN r : Int) := by
      rw [jo_1.1, hoc, hr, opN_c, nts_c, List.length_cons]
      omega
    have pfr : PF (pop2 F r) := by
      unfold pop2
      split
      · rw [hr] at hPt ⊢
        have := PF_t hPt.1
        exact PF_c this.1 this.2
      · exact hPt.1
    have opp : (opN r : Int) = (opN (pop2 F r) : Int) := by
      unfold pop2
      split
      · rw [hr]; rfl
      · rfl
    have g613 : ∀ K3 H3, RC K0 m k0 (pop2 F r) (cs ++ joT 1 F.os ++ (if F.ki = 4 then [F.pa] else [])) (opN r : Int) K3 → Mok K3 n B p H3 → Bj MX12_goesOn 2 613 [some (aR 57), some (aI z1), some (aI z2), x3, none] [] H3 Q := by
      intro K3 H3 hR3 hM3
      refine b_aload_n rfl rfl ?_
      refine b_callV0v (ν := MX12_ahead) rfl ml12_253 cvX12_ahead (d' := 1) (by omega) rfl (by decide) rfl (Nat.le_of_ble_eq_true rfl) ?_
      refine mk_ahead (MTx_F hT hR3.1) hM3 (Or.inr (Or.inr hk3)) (fun H4 hM4 => ?_)
      refine ⟨rfl, ?_⟩
      refine b_iconst rfl (by decide) ?_
      refine b_zret rfl rfl (by first | decide | omega) ?_
      exact kR 1 _ _ _ K3 _ hO (RC_eq hR3 rfl rfl opp) pfr hM4
    have g580 : ∀ K2 H2, RC K0 m k0 r (cs ++ joT 1 F.os) (opN r : Int) K2 → (F.ki = 4 → K2 81 r.length = so F.pa) → Mok K2 n B p H2 → Bj MX12_goesOn 2 580 [some (aR 57), some (aI z1), some (aI z2), x3, none] [] H2 Q := by
      intro K2 H2 hR2 h81 hM2
      rcases hk with hk | hk | hk
      · have e1 : pop2 F r = r := if_neg (by omega)
        have e2 : (if F.ki = 4 then [F.pa] else []) = ([] : List Int) := if_neg (by omega)
        refine b_iload_n rfl rfl ?_
        refine b_iconst rfl (by decide) ?_
        refine b_icmp_ne (tgt := 596) rfl rfl (fun c582 => ?_) (fun c582 => ?_)
        · refine b_iload_n rfl rfl ?_
          refine b_iconst rfl (by decide) ?_
          refine b_icmp_ne (tgt := 613) rfl rfl (fun c598 => ?_) (fun c598 => ?_)
          · exact g613 K2 _ (RC_eq hR2 e1.symm (by rw [e2, List.append_nil]) rfl) hM2
          · omega
        · omega
      · have e1 : pop2 F r = r := if_neg (by omega)
        have e2 : (if F.ki = 4 then [F.pa] else []) = [F.pa] := if_pos hk
        have hpa := hPt.2 (Or.inr (Or.inl hk))
        have h81H : H2 81 r.length = so F.pa := by rw [Mok_q hM2 (by decide)]; exact h81 hk
        have hcm : cm (so F.pa) 0 F.pa := Or.inr (Or.inr ⟨by omega, rfl⟩)
        have hlj : (cs ++ joT 1 F.os).length = cs.length + F.os.length := by rw [jo_1.1, List.length_append]
        refine b_iload_n rfl rfl ?_
        refine b_iconst rfl (by decide) ?_
        refine b_icmp_ne (tgt := 596) rfl rfl (fun c582 => ?_) (fun c582 => ?_)
        · omega
        · refine b_aload_n rfl rfl ?_
          refine b_aload_n rfl rfl ?_
          refine b_getR (r := 81) rfl fl12_131 rfl (by decide) rfl rfl ?_
          refine b_iload_n rfl rfl ?_
          refine b_iald rfl rfl (by omega) (by omega) ?_
          try simp only [tn6, tn4, tn2, tn144, tn24, tn_cast, Int.reduceToNat]
          rw [ez, h81H]
          refine b_iconst rfl (by decide) ?_
          refine b_callV2v (ν := MX12_add) rfl ml12_329 cvX12_add (d' := 0) (by omega) rfl (by decide) rfl (Nat.le_of_ble_eq_true rfl) ?_
          refine mc_add' hR2 hm (by rw [hlj]; omega) hcm hM2 (fun K3 H3 hR3 hM3 => ?_)
          refine ⟨rfl, ?_⟩
          refine b_iload_n rfl rfl ?_
          refine b_iconst rfl (by decide) ?_
          refine b_icmp_ne (tgt := 613) rfl rfl (fun c598 => ?_) (fun c598 => ?_)
          · exact g613 K3 _ (RC_eq hR3 e1.symm (by rw [e2]) rfl) hM3
          · omega
      · have e2 : (if F.ki = 4 then [F.pa] else []) = ([] : List Int) := if_neg (by omega)
        have e1 : pop2 F r = (mkF G.ki 2 G.bg G.pa G.os) :: r' := by rw [hr]; exact if_pos hk
        obtain ⟨si, sa, en, va, wo, lx, e, h⟩ := hM2
        subst e
        have hR2' := hR2
        rw [hr] at hR2'
        have hR3 := RC_ph (x := 2) hR2' (by decide)
        have h41b : K2 57 41 = ((r'.length + 1 : Nat) : Int) := by rw [hR2.2.2.1, hr, List.length_cons]
        have ez2 : (((r'.length + 1 : Nat) : Int) - 1).toNat = r'.length := by omega
        have hr'l : r.length = r'.length + 1 := by rw [hr, List.length_cons]
        refine b_iload_n rfl rfl ?_
        refine b_iconst rfl (by decide) ?_
        refine b_icmp_ne (tgt := 596) rfl rfl (fun c582 => ?_) (fun c582 => ?_)
        · refine b_iload_n rfl rfl ?_
          refine b_iconst rfl (by decide) ?_
          refine b_icmp_ne (tgt := 613) rfl rfl (fun c598 => ?_) (fun c598 => ?_)
          · omega
          · refine b_aload_n rfl rfl ?_
            refine b_getR (r := 79) rfl fl12_124 rfl (by decide) rfl rfl ?_
            refine b_aload_n rfl rfl ?_
            refine b_getI rfl fl12_137 rfl (by decide) rfl ?_
            rw [MXo (by decide)]
            rw [h41b]
            refine b_iconst rfl (by decide) ?_
            refine b_isubN rfl (by omega) (by omega) ?_
            refine b_iconst rfl (by decide) ?_
            refine b_iast rfl rfl (by omega) (by omega) ?_
            try simp only [tn6, tn4, tn2, tn144, tn24, tn_cast, Int.reduceToNat]
            rw [MX_ux (by decide)]
            try rw [ez2]
            exact g613 _ _ (RC_eq hR3 e1.symm (by rw [e2, List.append_nil]) (by rw [hr])) ⟨si, sa, en, va, wo, lx, rfl, h⟩
        · omega
    have g560 : ∀ K1 H1, RC K0 m k0 ((mkF F.ki F.ph F.bg F.pa (joD 1 F.os)) :: r) (cs ++ joT 1 F.os) ((opN (F :: r) : Int) - (ntO (joT 1 F.os) : Int)) K1 → Mok K1 n B p H1 → Bj MX12_goesOn 2 560 [some (aR 57), some (aI z1), some (aI z2), x3, none] [] H1 Q := by
      intro K1 H1 hR1 hM1
      obtain ⟨si, sa, en, va, wo, lx, e, h⟩ := hM1
      subst e
      have h81 : F.ki = 4 → K1 81 r.length = so F.pa := by
        intro h4
        rcases hR1.2.1.2.2.2.2.1 with e | e
        · exact absurd e (hPt.2 (Or.inr (Or.inl h4)))
        · exact e.1
      have h41c := hR1.2.2.1
      rw [List.length_cons] at h41c
      have h42c := hR1.2.2.2.2.1
      have e41 : ((r.length + 1 : Nat) : Int) - 1 = (r.length : Int) := by omega
      have hR2 := RC_o (x := (opN r : Int)) (RC_pop hR1 jo_1.2)
      refine b_aload_n rfl rfl ?_
      refine b_dup rfl rfl ?_
      refine b_getI rfl fl12_137 rfl (by decide) rfl ?_
      rw [MXo (by decide)]
      rw [h41c]
      refine b_iconst rfl (by decide) ?_
      refine b_isubN rfl (by omega) (by omega) ?_
      rw [e41]
      refine b_putI rfl fl12_137 rfl (by decide) rfl ?_
      rw [MX_uo (by decide)]
      refine b_aload_n rfl rfl ?_
      refine b_dup rfl rfl ?_
      refine b_getI rfl fl12_140 rfl (by decide) rfl ?_
      rw [MXo (by decide)]
      try simp only [up_ap, cpy_ap, fil_ap, row_ap, Nat.reduceEqDiff, Nat.reduceLT, Nat.reduceLeDiff, Int.toNat_natCast, Int.reduceToNat, reduceCtorEq, false_and, and_false, true_and, and_true, and_self, reduceIte]
      rw [h42c]
      refine b_iconst rfl (by decide) ?_
      refine b_isubN rfl (by omega) (by omega) ?_
      rw [opr]
      refine b_putI rfl fl12_140 rfl (by decide) rfl ?_
      rw [MX_uo (by decide)]
      exact g580 _ _ hR2 (fun h4 => by rw [up_ap, if_neg (by omega), up_ap, if_neg (by omega)]; exact h81 h4) ⟨si, sa, en, va, wo, lx, rfl, h⟩
    refine b_aload_n rfl rfl ?_
    refine b_iconst rfl (by decide) ?_
    refine b_callV1v (ν := MX12_joins) rfl ml12_348 cvX12_joins (d' := 1) (by omega) rfl (by decide) rfl (Nat.le_of_ble_eq_true rfl) ?_
    refine jn 1 _ _ rfl (fun K1 H1 hR1 hM1 => ?_)
    refine ⟨rfl, ?_⟩
    exact g560 _ _ hR1 hM1
  -- a frame's end
  have g422 : ∀ (z1 z2 : Int) (x3 : Option AV), z1 = (r.length : Int) → z2 = F.ki → tk n B p ≠ 4 → goF n B F r cs p = (if F.ki < 2 then .inr (2, p, (mkF F.ki F.ph F.bg F.pa (joD 1 F.os)) :: r, cs ++ joT 1 F.os)
      else if F.ki = 3 ∨ F.ki = 6 then (if sg n B p 44 then .inr (0, te n B p, (mkF (if F.ki = 3 then 4 else 3) 0 F.bg F.pa (joD 1 F.os)) :: r, cs ++ joT 1 F.os) else .inl (1, (tq n B p : Int)))
      else if sg n B p (if F.ki = 5 then 93 else 41) then .inr (1, te n B p, pop2 F r, cs ++ joT 1 F.os ++ (if F.ki = 4 then [F.pa] else [])) else .inl (1, (tq n B p : Int))) → Bj MX12_goesOn 2 422 [some (aR 57), some (aI z1), some (aI z2), x3, none] [] H Q := by
    intro z1 z2 x3 hz1 hz2 k4 hO
    have g470 : sg n B p 44 → (F.ki = 3 ∨ F.ki = 6) → Bj MX12_goesOn 2 470 [some (aR 57), some (aI z1), some (aI z2), x3, none] [] H Q := by
      intro hs hk
      refine b_aload_n rfl rfl ?_
      refine b_getI rfl fl12_36 rfl (by decide) rfl ?_
      rw [hf.1]
      refine b_if_le (tgt := 479) rfl rfl (fun c474 => ?_) (fun c474 => ?_)
      · exact g479 _ _ _ hz1 hz2 hk hs (hO.trans ((if_neg (by omega)).trans ((if_pos hk).trans (if_pos hs))))
      · omega
    have g546 : ∀ c : Int, c = (if F.ki = 5 then 93 else 41) → sg n B p c → (F.ki = 2 ∨ F.ki = 4 ∨ F.ki = 5) → Bj MX12_goesOn 2 546 [some (aR 57), some (aI z1), some (aI z2), x3, none] [] H Q := by
      intro c hc hs hk
      rw [hc] at hs
      refine b_aload_n rfl rfl ?_
      refine b_getI rfl fl12_36 rfl (by decide) rfl ?_
      rw [hf.1]
      refine b_if_le (tgt := 555) rfl rfl (fun c550 => ?_) (fun c550 => ?_)
      · exact g555 _ _ _ hz1 hz2 hk hs.1 (hO.trans ((if_neg (by omega)).trans ((if_neg (by omega)).trans (if_pos hs))))
      · omega
    have c5 : F.ki = 5 → (93 : Int) = (if F.ki = 5 then 93 else 41) := fun h => (if_pos h).symm
    have cn : F.ki ≠ 5 → (41 : Int) = (if F.ki = 5 then 93 else 41) := fun h => (if_neg h).symm
    have no5 : ∀ c : Int, c = (if F.ki = 5 then 93 else 41) → ¬ sg n B p c → (F.ki = 2 ∨ F.ki = 4 ∨ F.ki = 5) → goF n B F r cs p = .inl (1, (tq n B p : Int)) := by
      intro c hc hs hk
      rw [hc] at hs
      exact hO.trans ((if_neg (by omega)).trans ((if_neg (by omega)).trans (if_neg hs)))
    refine b_iload_n rfl rfl ?_
    refine b_iconst rfl (by decide) ?_
    refine b_icmp_ge (tgt := 441) rfl rfl (fun c424 => ?_) (fun c424 => ?_)
    · refine b_iload_n rfl rfl ?_
      refine b_iconst rfl (by decide) ?_
      refine b_icmp_eq (tgt := 452) rfl rfl (fun c443 => ?_) (fun c443 => ?_)
      · refine b_aload_n rfl rfl ?_
        refine b_bipush rfl (by decide) ?_
        refine b_callV1i (ν := MX12_isSign) rfl ml12_250 cvX12_isSign (d' := 0) (by omega) rfl (by decide) rfl (Nat.le_of_ble_eq_true rfl) ?_
        refine mk_isSign k4 hM (fun hs => ?_) (fun hs => ?_)
        · refine ⟨_, rfl, ?_⟩
          refine b_if_ne (tgt := 470) rfl rfl (fun _ => ?_) (fun z => absurd z (by decide))
          first
          | exact b470 _ _ _ _ (hO.trans ((if_neg (by omega)).trans ((if_pos (by omega)).trans (if_neg hs)))) hb
          | exact g470 hs (by omega)
        · refine ⟨_, rfl, ?_⟩
          refine b_if_ne (tgt := 470) rfl rfl (fun z => absurd z (by decide)) (fun _ => ?_)
          refine b_aload_n rfl rfl ?_
          refine b_iconst rfl (by decide) ?_
          refine b_aload_n rfl rfl ?_
          refine b_getI rfl fl12_23 rfl (by decide) rfl ?_
          rw [hf.2]
          refine b_callV2v (ν := MX12_blame) rfl ml12_236 cvX12_blame (d' := 0) (by omega) rfl (by decide) rfl (Nat.le_of_ble_eq_true rfl) ?_
          refine mk_blame (by decide) hM (fun H1 hb => ?_)
          refine ⟨rfl, ?_⟩
          first
          | exact b470 _ _ _ _ (hO.trans ((if_neg (by omega)).trans ((if_pos (by omega)).trans (if_neg hs)))) hb
          | exact g470 hs (by omega)
      · refine b_iload_n rfl rfl ?_
        refine b_bipush rfl (by decide) ?_
        refine b_icmp_ne (tgt := 518) rfl rfl (fun c449 => ?_) (fun c449 => ?_)
        · refine b_aload_n rfl rfl ?_
          refine b_iload_n rfl rfl ?_
          refine b_iconst rfl (by decide) ?_
          refine b_icmp_ne (tgt := 529) rfl rfl (fun c521 => ?_) (fun c521 => ?_)
          · refine b_bipush rfl (by decide) ?_
            refine b_callV1i (ν := MX12_isSign) rfl ml12_250 cvX12_isSign (d' := 0) (by omega) rfl (by decide) rfl (Nat.le_of_ble_eq_true rfl) ?_
            refine mk_isSign k4 hM (fun hs => ?_) (fun hs => ?_)
            · refine ⟨_, rfl, ?_⟩
              refine b_if_ne (tgt := 546) rfl rfl (fun _ => ?_) (fun z => absurd z (by decide))
              first
              | exact b546 _ _ _ _ (no5 _ (c5 (by omega)) hs (by omega)) hb
              | exact b546 _ _ _ _ (no5 _ (cn (by omega)) hs (by omega)) hb
              | exact g546 _ (c5 (by omega)) hs (by omega)
              | exact g546 _ (cn (by omega)) hs (by omega)
            · refine ⟨_, rfl, ?_⟩
              refine b_if_ne (tgt := 546) rfl rfl (fun z => absurd z (by decide)) (fun _ => ?_)
              refine b_aload_n rfl rfl ?_
              refine b_iconst rfl (by decide) ?_
              refine b_aload_n rfl rfl ?_
              refine b_getI rfl fl12_23 rfl (by decide) rfl ?_
              rw [hf.2]
              refine b_callV2v (ν := MX12_blame) rfl ml12_236 cvX12_blame (d' := 0) (by omega) rfl (by decide) rfl (Nat.le_of_ble_eq_true rfl) ?_
              refine mk_blame (by decide) hM (fun H1 hb => ?_)
              refine ⟨rfl, ?_⟩
              first
              | exact b546 _ _ _ _ (no5 _ (c5 (by omega)) hs (by omega)) hb
              | exact b546 _ _ _ _ (no5 _ (cn (by omega)) hs (by omega)) hb
              | exact g546 _ (c5 (by omega)) hs (by omega)
              | exact g546 _ (cn (by omega)) hs (by omega)
          · refine b_bipush rfl (by decide) ?_
            refine b_goto (tgt := 531) rfl rfl ?_
            refine b_callV1i (ν := MX12_isSign) rfl ml12_250 cvX12_isSign (d' := 0) (by omega) rfl (by decide) rfl (Nat.le_of_ble_eq_true rfl) ?_
            refine mk_isSign k4 hM (fun hs => ?_) (fun hs => ?_)
            · refine ⟨_, rfl, ?_⟩
              refine b_if_ne (tgt := 546) rfl rfl (fun _ => ?_) (fun z => absurd z (by decide))
              first
              | exact b546 _ _ _ _ (no5 _ (c5 (by omega)) hs (by omega)) hb
              | exact b546 _ _ _ _ (no5 _ (cn (by omega)) hs (by omega)) hb
              | exact g546 _ (c5 (by omega)) hs (by omega)
              | exact g546 _ (cn (by omega)) hs (by omega)
            · refine ⟨_, rfl, ?_⟩
              refine b_if_ne (tgt := 546) rfl rfl (fun z => absurd z (by decide)) (fun _ => ?_)
              refine b_aload_n rfl rfl ?_
              refine b_iconst rfl (by decide) ?_
              refine b_aload_n rfl rfl ?_
              refine b_getI rfl fl12_23 rfl (by decide) rfl ?_
              rw [hf.2]
              refine b_callV2v (ν := MX12_blame) rfl ml12_236 cvX12_blame (d' := 0) (by omega) rfl (by decide) rfl (Nat.le_of_ble_eq_true rfl) ?_
              refine mk_blame (by decide) hM (fun H1 hb => ?_)
              refine ⟨rfl, ?_⟩
              first
              | exact b546 _ _ _ _ (no5 _ (c5 (by omega)) hs (by omega)) hb
              | exact b546 _ _ _ _ (no5 _ (cn (by omega)) hs (by omega)) hb
              | exact g546 _ (c5 (by omega)) hs (by omega)
              | exact g546 _ (cn (by omega)) hs (by omega)
        · refine b_aload_n rfl rfl ?_
          refine b_bipush rfl (by decide) ?_
          refine b_callV1i (ν := MX12_isSign) rfl ml12_250 cvX12_isSign (d' := 0) (by omega) rfl (by decide) rfl (Nat.le_of_ble_eq_true rfl) ?_
          refine mk_isSign k4 hM (fun hs => ?_) (fun hs => ?_)
          · refine ⟨_, rfl, ?_⟩
            refine b_if_ne (tgt := 470) rfl rfl (fun _ => ?_) (fun z => absurd z (by decide))
            first
            | exact b470 _ _ _ _ (hO.trans ((if_neg (by omega)).trans ((if_pos (by omega)).trans (if_neg hs)))) hb
            | exact g470 hs (by omega)
          · refine ⟨_, rfl, ?_⟩
            refine b_if_ne (tgt := 470) rfl rfl (fun z => absurd z (by decide)) (fun _ => ?_)
            refine b_aload_n rfl rfl ?_
            refine b_iconst rfl (by decide) ?_
            refine b_aload_n rfl rfl ?_
            refine b_getI rfl fl12_23 rfl (by decide) rfl ?_
            rw [hf.2]
            refine b_callV2v (ν := MX12_blame) rfl ml12_236 cvX12_blame (d' := 0) (by omega) rfl (by decide) rfl (Nat.le_of_ble_eq_true rfl) ?_
            refine mk_blame (by decide) hM (fun H1 hb => ?_)
            refine ⟨rfl, ?_⟩
            first
            | exact b470 _ _ _ _ (hO.trans ((if_neg (by omega)).trans ((if_pos (by omega)).trans (if_neg hs)))) hb
            | exact g470 hs (by omega)
    · refine b_aload_n rfl rfl ?_
      refine b_getI rfl fl12_36 rfl (by decide) rfl ?_
      rw [hf.1]
      refine b_if_ne (tgt := 439) rfl rfl (fun c431 => ?_) (fun c431 => ?_)
      · omega
      · refine b_aload_n rfl rfl ?_
        refine b_iconst rfl (by decide) ?_
        refine b_callV1v (ν := MX12_joins) rfl ml12_348 cvX12_joins (d' := 1) (by omega) rfl (by decide) rfl (Nat.le_of_ble_eq_true rfl) ?_
        refine jn 1 _ _ rfl (fun K1 H1 hR1 hM1 => ?_)
        refine ⟨rfl, ?_⟩
        refine b_iconst rfl (by decide) ?_
        refine b_zret rfl rfl (by first | decide | omega) ?_
        exact kR 2 _ _ _ K1 _ (hO.trans (if_pos (by omega))) (RC_eq hR1 rfl rfl (opJ0 _ _ _ _)) (PF_c hPt.1 hPt.2) hM1
  have g400 : ∀ (z1 z2 z3 : Int), z1 = (r.length : Int) → z2 = F.ki → (z3 = 1 ∧ tst F ∨ z3 = 0 ∧ ¬ tst F) → tk n B p ≠ 4 → ¬ (F.ph < 2 ∧ ari n B p) → ¬ (tst F ∧ F.ph = 0 ∧ cmpS n B p) → ¬ (tst F ∧ (tw n B p = 24 ∨ tw n B p = 23)) → Bj MX12_goesOn 2 400 [some (aR 57), some (aI z1), some (aI z2), some (aI z3), none] [] H Q := by
    intro z1 z2 z3 hz1 hz2 hz3 k4 na nc nw
    have hO : goF n B F r cs p = _ := (if_neg k4).trans ((if_neg na).trans ((if_neg nc).trans (if_neg nw)))
    have ez : z1.toNat = r.length := by omega
    rcases hz3 with ⟨hz3, ht⟩ | ⟨hz3, ht⟩
    · skip
      refine b_iload_n rfl rfl ?_
      refine b_if_eq (tgt := 422) rfl rfl (fun c401 => ?_) (fun c401 => ?_)
      · omega
      · refine b_aload_n rfl rfl ?_
        refine b_getR (r := 79) rfl fl12_124 rfl (by decide) rfl rfl ?_
        refine b_iload_n rfl rfl ?_
        refine b_iald rfl rfl (by omega) (by omega) ?_
        try simp only [tn6, tn4, tn2, tn144, tn24, tn_cast, Int.reduceToNat]
        rw [ez, h79]
        refine b_if_ne (tgt := 422) rfl rfl (fun c410 => ?_) (fun c410 => ?_)
        · first
          | exact b422 _ _ _ _ (hO.trans (if_pos ⟨ht, by omega⟩)) hb
          | exact g422 _ _ _ hz1 hz2 k4 (hO.trans (if_neg (fun w => by have := w.2; omega)))
        · refine b_aload_n rfl rfl ?_
          refine b_iconst rfl (by decide) ?_
          refine b_aload_n rfl rfl ?_
          refine b_getI rfl fl12_23 rfl (by decide) rfl ?_
          rw [hf.2]
          refine b_callV2v (ν := MX12_blame) rfl ml12_236 cvX12_blame (d' := 0) (by omega) rfl (by decide) rfl (Nat.le_of_ble_eq_true rfl) ?_
          refine mk_blame (by decide) hM (fun H1 hb => ?_)
          refine ⟨rfl, ?_⟩
          first
          | exact b422 _ _ _ _ (hO.trans (if_pos ⟨ht, by omega⟩)) hb
          | exact g422 _ _ _ hz1 hz2 k4 (hO.trans (if_neg (fun w => by have := w.2; omega)))
    · skip
      refine b_iload_n rfl rfl ?_
      refine b_if_eq (tgt := 422) rfl rfl (fun c401 => ?_) (fun c401 => ?_)
      · exact g422 _ _ _ hz1 hz2 k4 (hO.trans (if_neg (fun w => ht w.1)))
      · omega
  have g285 : ∀ (z1 z2 z3 : Int), z1 = (r.length : Int) → z2 = F.ki → (z3 = 1 ∧ tst F ∨ z3 = 0 ∧ ¬ tst F) → tk n B p ≠ 4 → ¬ (F.ph < 2 ∧ ari n B p) → ¬ (tst F ∧ F.ph = 0 ∧ cmpS n B p) → Bj MX12_goesOn 2 285 [some (aR 57), some (aI z1), some (aI z2), some (aI z3), none] [] H Q := by
    intro z1 z2 z3 hz1 hz2 hz3 k4 na nc
    have hO : goF n B F r cs p = _ := (if_neg k4).trans ((if_neg na).trans (if_neg nc))
    have ez : z1.toNat = r.length := by omega
    have hz3' := hz3
    rcases hz3 with ⟨hz3, ht⟩ | ⟨hz3, ht⟩
    · have g327 : (tw n B p = 24 ∨ tw n B p = 23) → F.ph ≠ 0 → Bj MX12_goesOn 2 327 [some (aR 57), some (aI z1), some (aI z2), some (aI z3), none] [] H Q := by
        intro hw hp
        refine b_aload_n rfl rfl ?_
        refine b_getI rfl fl12_36 rfl (by decide) rfl ?_
        rw [hf.1]
        refine b_if_le (tgt := 336) rfl rfl (fun c331 => ?_) (fun c331 => ?_)
        · exact g336 _ _ _ hz1 k4 (hO.trans ((if_pos ⟨ht, hw⟩).trans (if_neg hp))) hw
        · omega
      have g309 : (tw n B p = 24 ∨ tw n B p = 23) → Bj MX12_goesOn 2 309 [some (aR 57), some (aI z1), some (aI z2), some (aI z3), none] [] H Q := by
        intro hw
        refine b_aload_n rfl rfl ?_
        refine b_getR (r := 79) rfl fl12_124 rfl (by decide) rfl rfl ?_
        refine b_iload_n rfl rfl ?_
        refine b_iald rfl rfl (by omega) (by omega) ?_
        try simp only [tn6, tn4, tn2, tn144, tn24, tn_cast, Int.reduceToNat]
        rw [ez, h79]
        refine b_if_ne (tgt := 327) rfl rfl (fun c315 => ?_) (fun c315 => ?_)
        · first
          | exact b327 _ _ _ _ (hO.trans ((if_pos ⟨ht, hw⟩).trans (if_pos (by omega)))) hb
          | exact g327 hw (by omega)
        · refine b_aload_n rfl rfl ?_
          refine b_iconst rfl (by decide) ?_
          refine b_aload_n rfl rfl ?_
          refine b_getI rfl fl12_23 rfl (by decide) rfl ?_
          rw [hf.2]
          refine b_callV2v (ν := MX12_blame) rfl ml12_236 cvX12_blame (d' := 0) (by omega) rfl (by decide) rfl (Nat.le_of_ble_eq_true rfl) ?_
          refine mk_blame (by decide) hM (fun H1 hb => ?_)
          refine ⟨rfl, ?_⟩
          first
          | exact b327 _ _ _ _ (hO.trans ((if_pos ⟨ht, hw⟩).trans (if_pos (by omega)))) hb
          | exact g327 hw (by omega)
      refine b_iload_n rfl rfl ?_
      refine b_if_eq (tgt := 400) rfl rfl (fun c286 => ?_) (fun c286 => ?_)
      · omega
      · refine b_aload_n rfl rfl ?_
        refine b_ldc2 (z := 6385252) rfl kl12_304 (by decide) ?_
        refine b_callV1i (ν := MX12_isWord) rfl ml12_338 cvX12_isWord (d' := 0) (by omega) rfl (by decide) rfl (Nat.le_of_ble_eq_true rfl) ?_
        refine mk_isWord (k := 24) (by decide) (by decide) k4 hM (fun w1 => ?_) (fun w1 => ?_)
        · refine ⟨_, rfl, ?_⟩
          refine b_if_ne (tgt := 309) rfl rfl (fun _ => ?_) (fun z => absurd z (by decide))
          exact g309 (by omega)
        · refine ⟨_, rfl, ?_⟩
          refine b_if_ne (tgt := 309) rfl rfl (fun z => absurd z (by decide)) (fun _ => ?_)
          refine b_aload_n rfl rfl ?_
          refine b_ldc2 (z := 28530) rfl kl12_302 (by decide) ?_
          refine b_callV1i (ν := MX12_isWord) rfl ml12_338 cvX12_isWord (d' := 0) (by omega) rfl (by decide) rfl (Nat.le_of_ble_eq_true rfl) ?_
          refine mk_isWord (k := 23) (by decide) (by decide) k4 hM (fun w2 => ?_) (fun w2 => ?_)
          · refine ⟨_, rfl, ?_⟩
            refine b_if_eq (tgt := 400) rfl rfl (fun z => absurd z (by decide)) (fun _ => ?_)
            exact g309 (by omega)
          · refine ⟨_, rfl, ?_⟩
            refine b_if_eq (tgt := 400) rfl rfl (fun _ => ?_) (fun z => absurd z (by decide))
            exact g400 _ _ _ hz1 hz2 hz3' k4 na nc (fun w => by have := w.2; omega)
    · skip
      refine b_iload_n rfl rfl ?_
      refine b_if_eq (tgt := 400) rfl rfl (fun c286 => ?_) (fun c286 => ?_)
      · exact g400 _ _ _ hz1 hz2 hz3' k4 na nc (fun w => ht w.1)
      · omega
  have g188 : ∀ (z1 z2 z3 : Int), z1 = (r.length : Int) → z2 = F.ki → (z3 = 1 ∧ tst F ∨ z3 = 0 ∧ ¬ tst F) → tk n B p ≠ 4 → ¬ (F.ph < 2 ∧ ari n B p) → Bj MX12_goesOn 2 188 [some (aR 57), some (aI z1), some (aI z2), some (aI z3), none] [] H Q := by
    intro z1 z2 z3 hz1 hz2 hz3 k4 na
    have ez : z1.toNat = r.length := by omega
    have hz3' := hz3
    rcases hz3 with ⟨hz3, ht⟩ | ⟨hz3, ht⟩
    · skip
      refine b_iload_n rfl rfl ?_
      refine b_if_eq (tgt := 285) rfl rfl (fun c189 => ?_) (fun c189 => ?_)
      · omega
      · refine b_aload_n rfl rfl ?_
        refine b_getR (r := 79) rfl fl12_124 rfl (by decide) rfl rfl ?_
        refine b_iload_n rfl rfl ?_
        refine b_iald rfl rfl (by omega) (by omega) ?_
        try simp only [tn6, tn4, tn2, tn144, tn24, tn_cast, Int.reduceToNat]
        rw [ez, h79]
        refine b_if_ne (tgt := 285) rfl rfl (fun c198 => ?_) (fun c198 => ?_)
        · first
          | (have q1 := n61
             exact g285 _ _ _ hz1 hz2 hz3' k4 na (fun w => by
               rcases w.2.2 with h | h | h
               · exact n60 h
               · exact n62 h
               · exact n61 h))
          | exact g285 _ _ _ hz1 hz2 hz3' k4 na (fun w => by have := w.2.1; omega)
        · refine b_aload_n rfl rfl ?_
          refine b_bipush rfl (by decide) ?_
          refine b_callV1i (ν := MX12_isSign) rfl ml12_250 cvX12_isSign (d' := 0) (by omega) rfl (by decide) rfl (Nat.le_of_ble_eq_true rfl) ?_
          refine mk_isSign k4 hM (fun y60 => ?_) (fun n60 => ?_)
          · refine ⟨_, rfl, ?_⟩
            refine b_if_ne (tgt := 228) rfl rfl (fun _ => ?_) (fun z => absurd z (by decide))
            first
            | exact g228 _ _ _ hz1 k4 na ht (by omega) (Or.inl y60)
            | exact g228 _ _ _ hz1 k4 na ht (by omega) (Or.inr (Or.inl y62))
            | exact g228 _ _ _ hz1 k4 na ht (by omega) (Or.inr (Or.inr y61))
          · refine ⟨_, rfl, ?_⟩
            refine b_if_ne (tgt := 228) rfl rfl (fun z => absurd z (by decide)) (fun _ => ?_)
            refine b_aload_n rfl rfl ?_
            refine b_bipush rfl (by decide) ?_
            refine b_callV1i (ν := MX12_isSign) rfl ml12_250 cvX12_isSign (d' := 0) (by omega) rfl (by decide) rfl (Nat.le_of_ble_eq_true rfl) ?_
            refine mk_isSign k4 hM (fun y62 => ?_) (fun n62 => ?_)
            · refine ⟨_, rfl, ?_⟩
              refine b_if_ne (tgt := 228) rfl rfl (fun _ => ?_) (fun z => absurd z (by decide))
              first
              | exact g228 _ _ _ hz1 k4 na ht (by omega) (Or.inl y60)
              | exact g228 _ _ _ hz1 k4 na ht (by omega) (Or.inr (Or.inl y62))
              | exact g228 _ _ _ hz1 k4 na ht (by omega) (Or.inr (Or.inr y61))
            · refine ⟨_, rfl, ?_⟩
              refine b_if_ne (tgt := 228) rfl rfl (fun z => absurd z (by decide)) (fun _ => ?_)
              refine b_aload_n rfl rfl ?_
              refine b_bipush rfl (by decide) ?_
              refine b_callV1i (ν := MX12_isSign) rfl ml12_250 cvX12_isSign (d' := 0) (by omega) rfl (by decide) rfl (Nat.le_of_ble_eq_true rfl) ?_
              refine mk_isSign k4 hM (fun y61 => ?_) (fun n61 => ?_)
              · refine ⟨_, rfl, ?_⟩
                refine b_if_eq (tgt := 285) rfl rfl (fun z => absurd z (by decide)) (fun _ => ?_)
                first
                | exact g228 _ _ _ hz1 k4 na ht (by omega) (Or.inl y60)
                | exact g228 _ _ _ hz1 k4 na ht (by omega) (Or.inr (Or.inl y62))
                | exact g228 _ _ _ hz1 k4 na ht (by omega) (Or.inr (Or.inr y61))
              · refine ⟨_, rfl, ?_⟩
                refine b_if_eq (tgt := 285) rfl rfl (fun _ => ?_) (fun z => absurd z (by decide))
                first
                | (have q1 := n61
                   exact g285 _ _ _ hz1 hz2 hz3' k4 na (fun w => by
                     rcases w.2.2 with h | h | h
                     · exact n60 h
                     · exact n62 h
                     · exact n61 h))
                | exact g285 _ _ _ hz1 hz2 hz3' k4 na (fun w => by have := w.2.1; omega)
    · skip
      refine b_iload_n rfl rfl ?_
      refine b_if_eq (tgt := 285) rfl rfl (fun c189 => ?_) (fun c189 => ?_)
      · exact g285 _ _ _ hz1 hz2 hz3' k4 na (fun w => ht w.1)
      · omega
  have g32 : ∀ (z1 z2 z3 : Int), z1 = (r.length : Int) → z2 = F.ki → (z3 = 1 ∧ tst F ∨ z3 = 0 ∧ ¬ tst F) → tk n B p ≠ 4 → Bj MX12_goesOn 2 32 [some (aR 57), some (aI z1), some (aI z2), some (aI z3), none] [] H Q := by
    intro z1 z2 z3 hz1 hz2 hz3 k4
    have ez : z1.toNat = r.length := by omega
    refine b_aload_n rfl rfl ?_
    refine b_getR (r := 79) rfl fl12_124 rfl (by decide) rfl rfl ?_
    refine b_iload_n rfl rfl ?_
    refine b_iald rfl rfl (by omega) (by omega) ?_
    try simp only [tn6, tn4, tn2, tn144, tn24, tn_cast, Int.reduceToNat]
    rw [ez, h79]
    refine b_iconst rfl (by decide) ?_
    refine b_icmp_ge (tgt := 188) rfl rfl (fun c39 => ?_) (fun c39 => ?_)
    · first
      | (have q1 := n37
         exact g188 _ _ _ hz1 hz2 hz3 k4 (fun w => by
           rcases w.2 with h | h | h | h | h
           · exact n43 h
           · exact n45 h
           · exact n42 h
           · exact n47 h
           · exact n37 h))
      | exact g188 _ _ _ hz1 hz2 hz3 k4 (fun w => by have := w.1; omega)
    · refine b_aload_n rfl rfl ?_
      refine b_bipush rfl (by decide) ?_
      refine b_callV1i (ν := MX12_isSign) rfl ml12_250 cvX12_isSign (d' := 0) (by omega) rfl (by decide) rfl (Nat.le_of_ble_eq_true rfl) ?_
      refine mk_isSign k4 hM (fun y43 => ?_) (fun n43 => ?_)
      · refine ⟨_, rfl, ?_⟩
        refine b_if_ne (tgt := 87) rfl rfl (fun _ => ?_) (fun z => absurd z (by decide))
        first
        | exact g87 _ _ _ k4 (by omega) (Or.inl y43)
        | exact g87 _ _ _ k4 (by omega) (Or.inr (Or.inl y45))
        | exact g87 _ _ _ k4 (by omega) (Or.inr (Or.inr (Or.inl y42)))
        | exact g87 _ _ _ k4 (by omega) (Or.inr (Or.inr (Or.inr (Or.inl y47))))
        | exact g87 _ _ _ k4 (by omega) (Or.inr (Or.inr (Or.inr (Or.inr y37))))
      · refine ⟨_, rfl, ?_⟩
        refine b_if_ne (tgt := 87) rfl rfl (fun z => absurd z (by decide)) (fun _ => ?_)
        refine b_aload_n rfl rfl ?_
        refine b_bipush rfl (by decide) ?_
        refine b_callV1i (ν := MX12_isSign) rfl ml12_250 cvX12_isSign (d' := 0) (by omega) rfl (by decide) rfl (Nat.le_of_ble_eq_true rfl) ?_
        refine mk_isSign k4 hM (fun y45 => ?_) (fun n45 => ?_)
        · refine ⟨_, rfl, ?_⟩
          refine b_if_ne (tgt := 87) rfl rfl (fun _ => ?_) (fun z => absurd z (by decide))
          first
          | exact g87 _ _ _ k4 (by omega) (Or.inl y43)
          | exact g87 _ _ _ k4 (by omega) (Or.inr (Or.inl y45))
          | exact g87 _ _ _ k4 (by omega) (Or.inr (Or.inr (Or.inl y42)))
          | exact g87 _ _ _ k4 (by omega) (Or.inr (Or.inr (Or.inr (Or.inl y47))))
          | exact g87 _ _ _ k4 (by omega) (Or.inr (Or.inr (Or.inr (Or.inr y37))))
        · refine ⟨_, rfl, ?_⟩
          refine b_if_ne (tgt := 87) rfl rfl (fun z => absurd z (by decide)) (fun _ => ?_)
          refine b_aload_n rfl rfl ?_
          refine b_bipush rfl (by decide) ?_
          refine b_callV1i (ν := MX12_isSign) rfl ml12_250 cvX12_isSign (d' := 0) (by omega) rfl (by decide) rfl (Nat.le_of_ble_eq_true rfl) ?_
          refine mk_isSign k4 hM (fun y42 => ?_) (fun n42 => ?_)
          · refine ⟨_, rfl, ?_⟩
            refine b_if_ne (tgt := 87) rfl rfl (fun _ => ?_) (fun z => absurd z (by decide))
            first
            | exact g87 _ _ _ k4 (by omega) (Or.inl y43)
            | exact g87 _ _ _ k4 (by omega) (Or.inr (Or.inl y45))
            | exact g87 _ _ _ k4 (by omega) (Or.inr (Or.inr (Or.inl y42)))
            | exact g87 _ _ _ k4 (by omega) (Or.inr (Or.inr (Or.inr (Or.inl y47))))
            | exact g87 _ _ _ k4 (by omega) (Or.inr (Or.inr (Or.inr (Or.inr y37))))
          · refine ⟨_, rfl, ?_⟩
            refine b_if_ne (tgt := 87) rfl rfl (fun z => absurd z (by decide)) (fun _ => ?_)
            refine b_aload_n rfl rfl ?_
            refine b_bipush rfl (by decide) ?_
            refine b_callV1i (ν := MX12_isSign) rfl ml12_250 cvX12_isSign (d' := 0) (by omega) rfl (by decide) rfl (Nat.le_of_ble_eq_true rfl) ?_
            refine mk_isSign k4 hM (fun y47 => ?_) (fun n47 => ?_)
            · refine ⟨_, rfl, ?_⟩
              refine b_if_ne (tgt := 87) rfl rfl (fun _ => ?_) (fun z => absurd z (by decide))
              first
              | exact g87 _ _ _ k4 (by omega) (Or.inl y43)
              | exact g87 _ _ _ k4 (by omega) (Or.inr (Or.inl y45))
              | exact g87 _ _ _ k4 (by omega) (Or.inr (Or.inr (Or.inl y42)))
              | exact g87 _ _ _ k4 (by omega) (Or.inr (Or.inr (Or.inr (Or.inl y47))))
              | exact g87 _ _ _ k4 (by omega) (Or.inr (Or.inr (Or.inr (Or.inr y37))))
            · refine ⟨_, rfl, ?_⟩
              refine b_if_ne (tgt := 87) rfl rfl (fun z => absurd z (by decide)) (fun _ => ?_)
              refine b_aload_n rfl rfl ?_
              refine b_bipush rfl (by decide) ?_
              refine b_callV1i (ν := MX12_isSign) rfl ml12_250 cvX12_isSign (d' := 0) (by omega) rfl (by decide) rfl (Nat.le_of_ble_eq_true rfl) ?_
              refine mk_isSign k4 hM (fun y37 => ?_) (fun n37 => ?_)
              · refine ⟨_, rfl, ?_⟩
                refine b_if_eq (tgt := 188) rfl rfl (fun z => absurd z (by decide)) (fun _ => ?_)
                first
                | exact g87 _ _ _ k4 (by omega) (Or.inl y43)
                | exact g87 _ _ _ k4 (by omega) (Or.inr (Or.inl y45))
                | exact g87 _ _ _ k4 (by omega) (Or.inr (Or.inr (Or.inl y42)))
                | exact g87 _ _ _ k4 (by omega) (Or.inr (Or.inr (Or.inr (Or.inl y47))))
                | exact g87 _ _ _ k4 (by omega) (Or.inr (Or.inr (Or.inr (Or.inr y37))))
              · refine ⟨_, rfl, ?_⟩
                refine b_if_eq (tgt := 188) rfl rfl (fun _ => ?_) (fun z => absurd z (by decide))
                first
                | (have q1 := n37
                   exact g188 _ _ _ hz1 hz2 hz3 k4 (fun w => by
                     rcases w.2 with h | h | h | h | h
                     · exact n43 h
                     · exact n45 h
                     · exact n42 h
                     · exact n47 h
                     · exact n37 h))
                | exact g188 _ _ _ hz1 hz2 hz3 k4 (fun w => by have := w.1; omega)
  have g4 : tk n B p ≠ 4 → Bj MX12_goesOn 2 4 [some (aR 57), none, none, none, none] [] H Q := by
    intro k4
    refine b_aload_n rfl rfl ?_
    refine b_getI rfl fl12_36 rfl (by decide) rfl ?_
    rw [hf.1]
    refine b_if_le (tgt := 13) rfl rfl (fun c8 => ?_) (fun c8 => ?_)
    · refine b_aload_n rfl rfl ?_
      refine b_getI rfl fl12_137 rfl (by decide) rfl ?_
      rw [h41]
      refine b_iconst rfl (by decide) ?_
      refine b_isubN rfl (by omega) (by omega) ?_
      refine b_istoreX_n (F := fun z19 => [some (aR 57), some (aI z19), none, none, none]) rfl (by decide) (fun _ => rfl) (fun z19 ez19 => ?_)
      have ez : z19.toNat = r.length := by omega
      refine b_aload_n rfl rfl ?_
      refine b_getR (r := 78) rfl fl12_121 rfl (by decide) rfl rfl ?_
      refine b_iload_n rfl rfl ?_
      refine b_iald rfl rfl (by omega) (by omega) ?_
      try simp only [tn6, tn4, tn2, tn144, tn24, tn_cast, Int.reduceToNat]
      rw [ez, h78]
      refine b_istoreX_n (F := fun z26 => [some (aR 57), some (aI z19), some (aI z26), none, none]) rfl (by decide) (fun _ => rfl) (fun z26 ez26 => ?_)
      refine b_iload_n rfl rfl ?_
      refine b_callS1i (ν := MX12_isTest) rfl ml12_335 csX12_isTest (d' := 0) (by omega) (Nat.le_of_ble_eq_true rfl) ?_
      refine spr_isTest (fun ht => ?_) (fun ht => ?_)
      · refine ⟨_, rfl, ?_⟩
        refine b_istoreX_n (F := fun z31 => [some (aR 57), some (aI z19), some (aI z26), some (aI z31), none]) rfl (by decide) (fun _ => rfl) (fun z31 ez31 => ?_)
        first
        | (have e1 : z31 = 1 := by omega
           exact g32 _ _ _ (by omega) ez26 (Or.inl ⟨e1, by rw [ez26] at ht; exact ht⟩) k4)
        | (have e1 : z31 = 0 := by omega
           exact g32 _ _ _ (by omega) ez26 (Or.inr ⟨e1, by rw [ez26] at ht; exact ht⟩) k4)
      · refine ⟨_, rfl, ?_⟩
        refine b_istoreX_n (F := fun z31 => [some (aR 57), some (aI z19), some (aI z26), some (aI z31), none]) rfl (by decide) (fun _ => rfl) (fun z31 ez31 => ?_)
        first
        | (have e1 : z31 = 1 := by omega
           exact g32 _ _ _ (by omega) ez26 (Or.inl ⟨e1, by rw [ez26] at ht; exact ht⟩) k4)
        | (have e1 : z31 = 0 := by omega
           exact g32 _ _ _ (by omega) ez26 (Or.inr ⟨e1, by rw [ez26] at ht; exact ht⟩) k4)
    · omega
  refine b_aload_n rfl rfl ?_
  refine b_callV0v (ν := MX12_lex) rfl ml12_247 cvX12_lex (d' := 1) (by omega) rfl (by decide) rfl (Nat.le_of_ble_eq_true rfl) ?_
  refine mk_lex hM (fun k4 => ?_) (fun k4 H1 hb => ?_)
  · refine ⟨rfl, ?_⟩
    first
    | exact b4 _ k4 hb
    | exact g4 k4
  · refine ⟨rfl, ?_⟩
    first
    | exact b4 _ k4 hb
    | exact g4 k4
end MGO
