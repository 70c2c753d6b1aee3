/-! ===== the reference: operand ===== -/
section MOQ
variable {K0 K H : HI} {m k0 n p se : Nat} {B : Nat → Int} {r : List Fm} {F : Fm} {cs : List Int} {Q : Option AV → HI → Prop}
theorem mc_holdS {s v o : Int} (hs : s = so v) (hR : RC K0 m k0 (F :: r) cs o K) (ht : tot (F :: r) < 500) (hv : opc v) (hM : Mok K n B p H) (kq : ∀ K' H', RC K0 m k0 ((mkF F.ki F.ph F.bg F.pa (v :: F.os)) :: r) cs o K' → Mok K' n B p H' → Q none H') : Rj MX12_holdsBack 0 [aR 57, aI s] H Q := by
  rw [hs]
  exact mc_hold' hR ht hv hM kq
theorem RC_eq {fs fs' : List Fm} {cs' : List Int} {o o' : Int} (h : RC K0 m k0 fs cs o K) (e1 : fs = fs') (e2 : cs = cs') (e3 : o = o') : RC K0 m k0 fs' cs' o' K := by
  subst e1
  subst e2
  subst e3
  exact h
theorem PF_c {G : Fm} {fs : List Fm} (h : PF fs) (hG : (G.ki = 3 ∨ G.ki = 4 ∨ G.ki = 6) → G.pa ≠ 0) : PF (G :: fs) := by
  intro X hX
  rcases List.mem_cons.1 hX with e | e
  · rw [e]; exact hG
  · exact h X e
theorem PF_t {G : Fm} {fs : List Fm} (h : PF (G :: fs)) : PF fs ∧ ((G.ki = 3 ∨ G.ki = 4 ∨ G.ki = 6) → G.pa ≠ 0) := ⟨fun X hX => h X (List.mem_cons_of_mem _ hX), h G (List.mem_cons_self ..)⟩
theorem tv_nn (h : tk n B p = 2) : 0 ≤ tv n B p := by
  obtain ⟨h1, h2, h3, h4, h5⟩ := tk_2 h
  unfold tv
  rw [if_neg (by omega), if_pos h]
  exact (nv_b _ h5 (fun j hj => (run_in (pr := isDig) 5 _ j hj).2)).1
set_option maxRecDepth 16000 in
set_option maxHeartbeats 4000000 in
theorem mc_operand (hT : MTx K0 n B) (hm : m < 2) (hse : K0 57 35 = 2 * (se : Int) ∧ se < 256) (hR : RC K0 m k0 (F :: r) cs (opN (F :: r) : Int) K) (hP : PF (F :: r)) (hV : Vd k0 n p (F :: r) cs) (ho : opN (F :: r) ≤ 7) (hM : Mok K n B p H) (kI : ∀ e z K' H', opF n B se F r cs p = .inl e → FrK K0 m k0 K' → Mbad K' e.1 e.2 H' → (z = 0 ∨ z = 1) → Q (some (aI z)) H') (kR : ∀ t p' fs' cs' K' H', opF n B se F r cs p = .inr (t, p', fs', cs') → RC K0 m k0 fs' cs' (opN fs' : Int) K' → PF fs' → Mok K' n B p' H' → Q (some (aI (t : Int))) H') : Rj MX12_operand 3 [aR 57] H Q := by
  refine rj_of okX12_operand (Nat.le_of_ble_eq_true rfl) rfl ?_
  obtain ⟨v1, v2, v3, v4⟩ := hV
  have hn := hT.2.1
  rw [List.length_cons] at v2 v4
  have hPt := PF_t hP
  have hoc := opN_c (F := F) (r := r)
  have htc := tot_c (F := F) (r := r)
  have hf := Mok_f hM
  have hR0 := hR
  obtain ⟨h1, h2, h3, h4, h5, h6, h7, h8⟩ := hR
  obtain ⟨a1, a2, a3, a4, a5, a6, a7, a8⟩ := h2
  rw [List.length_cons] at h3
  have hTK := MTx_F hT h1
  have b4 : ∀ H1, tk n B p = 4 → Mbad K 1 (tsp n B p : Int) H1 → Bj MX12_operand 3 4 [some (aR 57), none, none, none] [] H1 Q := by
    intro H1 k4 hb
    have hf := Mbad_f hb
    refine b_aload_n rfl rfl ?_
    refine b_getI rfl fl12_36 rfl (by decide) rfl ?_
    refine b_if_le (tgt := 13) rfl rfl (fun c8 => ?_) (fun c8 => ?_)
    · omega
    · refine b_iconst rfl (by decide) ?_
      refine b_zret rfl rfl (by first | decide | omega) ?_
      exact kI (1, (tsp n B p : Int)) _ K _ (if_pos k4) h1 hb (by omega)
  -- a number or what may be asked
  have g442 : ∀ (z1 z2 z3 : Int) (K1 H1 : HI), tk n B p ≠ 4 → RC K0 m k0 ((mkF F.ki F.ph 0 F.pa F.os) :: r) cs (opN (F :: r) : Int) K1 → Mok K1 n B p H1 → ((z3 = 0 ∧ tk n B p = 2 ∧ opF n B se F r cs p = .inr (1, te n B p, (mkF F.ki F.ph 0 F.pa F.os) :: r, cs ++ [tv n B p])) ∨ (tk n B p ≠ 2 ∧ (∃ j : Nat, j < 8 ∧ z3 = (j : Int) + 1 ∧ tw n B p = seW j) ∧ opF n B se F r cs p = (match seeF n B se p 8 0 with | .inl e => .inl e | .inr (p', c) => .inr (1, p', (mkF F.ki F.ph 0 F.pa F.os) :: r, cs ++ c))) ∨ (z3 = -1 ∧ opF n B se F r cs p = .inl (1, (tsp n B p : Int)))) → Bj MX12_operand 3 442 [some (aR 57), some (aI z1), some (aI z2), some (aI z3)] [] H1 Q := by
    intro z1 z2 z3 K1 H1 k4 hR1 hM1 hc
    have hf1 := Mok_f hM1
    have hpf : PF ((mkF F.ki F.ph 0 F.pa F.os) :: r) := PF_c hPt.1 hPt.2
    have h35 : H1 57 35 = 2 * (se : Int) := by rw [Mok_g hM1 (by decide), hR1.1.2.1 35 (by decide) (by decide) (by decide) (by decide)]; exact hse.1
    have bad : ∀ z3 : Int, z3 = -1 → opF n B se F r cs p = .inl (1, (tsp n B p : Int)) → Bj MX12_operand 3 459 [some (aR 57), some (aI z1), some (aI z2), some (aI z3)] [] H1 Q := by
      intro z3 hz hO
      have b473 : ∀ H2, Mbad K1 1 (tsp n B p : Int) H2 → Bj MX12_operand 3 473 [some (aR 57), some (aI z1), some (aI z2), some (aI z3)] [] H2 Q := by
        intro H2 hb
        have hf := Mbad_f hb
        refine b_aload_n rfl rfl ?_
        refine b_getI rfl fl12_36 rfl (by decide) rfl ?_
        refine b_if_le (tgt := 482) rfl rfl (fun c477 => ?_) (fun c477 => ?_)
        · omega
        · refine b_iconst rfl (by decide) ?_
          refine b_zret rfl rfl (by first | decide | omega) ?_
          exact kI _ _ K1 _ hO hR1.1 hb (by omega)
      refine b_iload_n rfl rfl ?_
      refine b_iconst rfl (by decide) ?_
      refine b_icmp_ne (tgt := 473) rfl rfl (fun c461 => ?_) (fun c461 => ?_)
      · omega
      · refine b_aload_n rfl rfl ?_
        refine b_iconst rfl (by decide) ?_
        refine b_aload_n rfl rfl ?_
        refine b_getI rfl fl12_23 rfl (by decide) rfl ?_
        rw [hf1.2, ← tsp_q k4]
        refine b_callV2v (ν := MX12_blame) rfl ml12_236 cvX12_blame (d' := 0) (by omega) rfl (by decide) rfl (Nat.le_of_ble_eq_true rfl) ?_
        refine mk_blame (by decide) hM1 (fun H2 hb => ?_)
        refine ⟨rfl, ?_⟩
        exact b473 _ hb
    have good : ∀ (z3 v : Int), z3 ≠ -1 → (tk n B p = 1 ∨ tk n B p = 2 ∨ tk n B p = 3) → cm z3 (H1 57 6) v → opF n B se F r cs p = .inr (1, te n B p, (mkF F.ki F.ph 0 F.pa F.os) :: r, cs ++ [v]) → Bj MX12_operand 3 459 [some (aR 57), some (aI z1), some (aI z2), some (aI z3)] [] H1 Q := by
      intro z3 v hz hk hcm hO
      have hte := te_gp hk
      refine b_iload_n rfl rfl ?_
      refine b_iconst rfl (by decide) ?_
      refine b_icmp_ne (tgt := 473) rfl rfl (fun c461 => ?_) (fun c461 => ?_)
      · refine b_aload_n rfl rfl ?_
        refine b_getI rfl fl12_36 rfl (by decide) rfl ?_
        rw [hf1.1]
        refine b_if_le (tgt := 482) rfl rfl (fun c477 => ?_) (fun c477 => ?_)
        · refine b_aload_n rfl rfl ?_
          refine b_iload_n rfl rfl ?_
          refine b_aload_n rfl rfl ?_
          refine b_getI rfl fl12_29 rfl (by decide) rfl ?_
          refine b_callV2v (ν := MX12_add) rfl ml12_329 cvX12_add (d' := 0) (by omega) rfl (by decide) rfl (Nat.le_of_ble_eq_true rfl) ?_
          refine mc_add' hR1 hm (by omega) hcm hM1 (fun K2 H2 hR2 hM2 => ?_)
          refine ⟨rfl, ?_⟩
          refine b_aload_n rfl rfl ?_
          refine b_callV0v (ν := MX12_ahead) rfl ml12_253 cvX12_ahead (d' := 1) (by omega) rfl (by decide) rfl (Nat.le_of_ble_eq_true rfl) ?_
          refine mk_ahead (MTx_F hT hR2.1) hM2 hk (fun H3 hM3 => ?_)
          refine ⟨rfl, ?_⟩
          refine b_iconst rfl (by decide) ?_
          refine b_zret rfl rfl (by first | decide | omega) ?_
          exact kR 1 _ _ _ K2 _ hO hR2 hpf hM3
        · omega
      · omega
    rcases hc with ⟨hz, hk, hO⟩ | ⟨hk2, ⟨j, hj, hz, hw⟩, hO⟩ | ⟨hz, hO⟩
    · have hv := Mok_v hM1 hk
      refine b_iload_n rfl rfl ?_
      refine b_if_le (tgt := 459) rfl rfl (fun c443 => ?_) (fun c443 => ?_)
      · refine good z3 (tv n B p) (by omega) (Or.inr (Or.inl hk)) ?_ hO
        rw [hv.1, hz]
        exact Or.inl ⟨tv_nn hk, Or.inl ⟨rfl, rfl⟩⟩
      · omega
    · have sh : iAnd (iShr (2 * (se : Int)) z3) 1 = ((se / 2 ^ j % 2 : Nat) : Int) := by
        have e1 : (2 * (se : Int)) / 2 ^ (j + 1) = ((se / 2 ^ j : Nat) : Int) := by
          have e2 : 2 * se / 2 ^ (j + 1) = se / 2 ^ j := by
            rw [Nat.pow_succ, Nat.mul_comm (2 ^ j) 2, Nat.mul_div_mul_left _ _ (by decide)]
          rw [← e2]
          push_cast
          rfl
        rw [hz, show (j : Int) + 1 = ((j + 1 : Nat) : Int) from rfl, iShr_p (j + 1) (by unfold in32; omega) (by omega), iAnd_1, e1]
        push_cast
        rfl
      have hsw : ∀ j : Fin 8, 0 ≤ seW j.val := by decide
      have hk1 : tk n B p = 1 := tw_1 hw (hsw ⟨j, hj⟩)
      rw [see_at hj hw 8 0 (by omega) (by omega) (by omega)] at hO
      by_cases hb : se / 2 ^ j % 2 = 1
      · rw [if_pos hb] at hO
        refine b_iload_n rfl rfl ?_
        refine b_if_le (tgt := 459) rfl rfl (fun c443 => ?_) (fun c443 => ?_)
        · omega
        · refine b_aload_n rfl rfl ?_
          refine b_getI rfl fl12_118 rfl (by decide) rfl ?_
          rw [h35]
          refine b_iload_n rfl rfl ?_
          refine b_ishr rfl ?_
          refine b_iconst rfl (by decide) ?_
          refine b_iand rfl ?_
          rw [sh]
          refine b_if_ne (tgt := 459) rfl rfl (fun c454 => ?_) (fun c454 => ?_)
          · exact good z3 (-1 - (j : Int)) (by omega) (Or.inl hk1) (Or.inr (Or.inl ⟨by omega, by omega, by omega⟩)) hO
          · omega
      · rw [if_neg hb] at hO
        refine b_iload_n rfl rfl ?_
        refine b_if_le (tgt := 459) rfl rfl (fun c443 => ?_) (fun c443 => ?_)
        · omega
        · refine b_aload_n rfl rfl ?_
          refine b_getI rfl fl12_118 rfl (by decide) rfl ?_
          rw [h35]
          refine b_iload_n rfl rfl ?_
          refine b_ishr rfl ?_
          refine b_iconst rfl (by decide) ?_
          refine b_iand rfl ?_
          rw [sh]
          refine b_if_ne (tgt := 459) rfl rfl (fun c454 => ?_) (fun c454 => ?_)
          · omega
          · refine b_iconst rfl (by decide) ?_
            refine b_istoreX_n (F := fun z458 => [some (aR 57), some (aI z1), some (aI z2), some (aI z458)]) rfl (by decide) (fun _ => rfl) (fun z458 ez458 => ?_)
            exact bad _ (by omega) hO
    · skip
      refine b_iload_n rfl rfl ?_
      refine b_if_le (tgt := 459) rfl rfl (fun c443 => ?_) (fun c443 => ?_)
      · exact bad _ hz hO
      · omega
  have g313 : ∀ (z1 z2 : Int) (K1 H1 : HI), tk n B p ≠ 4 → RC K0 m k0 ((mkF F.ki F.ph 0 F.pa F.os) :: r) cs (opN (F :: r) : Int) K1 → Mok K1 n B p H1 → opF n B se F r cs p = (if tk n B p = 2 then .inr (1, te n B p, (mkF F.ki F.ph 0 F.pa F.os) :: r, cs ++ [tv n B p]) else match seeF n B se p 8 0 with | .inl e => .inl e | .inr (p', c) => .inr (1, p', (mkF F.ki F.ph 0 F.pa F.os) :: r, cs ++ c)) → Bj MX12_operand 3 313 [some (aR 57), some (aI z1), some (aI z2), none] [] H1 Q := by
    intro z1 z2 K1 H1 k4 hR1 hM1 hO
    have hs := Mok_s hM1 k4
    have wd : ∀ (j : Nat) (z3 : Int), j < 8 → z3 = (j : Int) + 1 → tk n B p ≠ 2 → tw n B p = seW j → Bj MX12_operand 3 442 [some (aR 57), some (aI z1), some (aI z2), some (aI z3)] [] H1 Q := fun j z3 hj hz h2 hw => g442 z1 z2 z3 K1 H1 k4 hR1 hM1 (Or.inr (Or.inl ⟨h2, ⟨j, hj, hz, hw⟩, hO.trans (if_neg h2)⟩))
    refine b_aload_n rfl rfl ?_
    refine b_getI rfl fl12_20 rfl (by decide) rfl ?_
    rw [hs]
    refine b_iconst rfl (by decide) ?_
    refine b_icmp_ne (tgt := 325) rfl rfl (fun c318 => ?_) (fun c318 => ?_)
    · refine b_aload_n rfl rfl ?_
      refine b_ldc2 (z := 1752135026) rfl kl12_288 (by decide) ?_
      refine b_callV1i (ν := MX12_isWord) rfl ml12_338 cvX12_isWord (d' := 0) (by omega) rfl (by decide) rfl (Nat.le_of_ble_eq_true rfl) ?_
      refine mk_isWord (k := 16) (by decide) (by decide) k4 hM1 (fun w0 => ?_) (fun w0 => ?_)
      · refine ⟨_, rfl, ?_⟩
        refine b_if_eq (tgt := 339) rfl rfl (fun z => absurd z (by decide)) (fun _ => ?_)
        refine b_iconst rfl (by decide) ?_
        refine b_goto (tgt := 441) rfl rfl ?_
        refine b_istoreX_n (F := fun z441 => [some (aR 57), some (aI z1), some (aI z2), some (aI z441)]) rfl (by decide) (fun _ => rfl) (fun z441 ez441 => ?_)
        first
        | (have hk : tk n B p = 2 := by omega
           exact g442 _ _ _ _ _ k4 hR1 hM1 (Or.inl ⟨ez441, hk, hO.trans (if_pos hk)⟩))
        | (have hz : z441 = 1 := ez441
           exact wd 0 _ (by decide) (by omega) (by omega) w0)
        | (have hz : z441 = 2 := ez441
           exact wd 1 _ (by decide) (by omega) (by omega) w1)
        | (have hz : z441 = 3 := ez441
           exact wd 2 _ (by decide) (by omega) (by omega) w2)
        | (have hz : z441 = 4 := ez441
           exact wd 3 _ (by decide) (by omega) (by omega) w3)
        | (have hz : z441 = 5 := ez441
           exact wd 4 _ (by decide) (by omega) (by omega) w4)
        | (have hz : z441 = 6 := ez441
           exact wd 5 _ (by decide) (by omega) (by omega) w5)
        | (have hz : z441 = 7 := ez441
           exact wd 6 _ (by decide) (by omega) (by omega) w6)
        | (have hz : z441 = 8 := ez441
           exact wd 7 _ (by decide) (by omega) (by omega) w7)
        | (have hz : z441 = -1 := ez441
           refine g442 _ _ _ _ _ k4 hR1 hM1 (Or.inr (Or.inr ⟨hz, hO.trans ((if_neg (by omega)).trans ?_)⟩))
           rw [see_none (fun j hj => by
             match j, hj with
             | 0, _ => exact w0
             | 1, _ => exact w1
             | 2, _ => exact w2
             | 3, _ => exact w3
             | 4, _ => exact w4
             | 5, _ => exact w5
             | 6, _ => exact w6
             | 7, _ => exact w7) 8 0 (by omega)])
      · refine ⟨_, rfl, ?_⟩
        refine b_if_eq (tgt := 339) rfl rfl (fun _ => ?_) (fun z => absurd z (by decide))
        refine b_aload_n rfl rfl ?_
        refine b_ldc2 (z := 512736126322) rfl kl12_278 (by decide) ?_
        refine b_callV1i (ν := MX12_isWord) rfl ml12_338 cvX12_isWord (d' := 0) (by omega) rfl (by decide) rfl (Nat.le_of_ble_eq_true rfl) ?_
        refine mk_isWord (k := 11) (by decide) (by decide) k4 hM1 (fun w1 => ?_) (fun w1 => ?_)
        · refine ⟨_, rfl, ?_⟩
          refine b_if_eq (tgt := 353) rfl rfl (fun z => absurd z (by decide)) (fun _ => ?_)
          refine b_iconst rfl (by decide) ?_
          refine b_goto (tgt := 441) rfl rfl ?_
          refine b_istoreX_n (F := fun z441 => [some (aR 57), some (aI z1), some (aI z2), some (aI z441)]) rfl (by decide) (fun _ => rfl) (fun z441 ez441 => ?_)
          first
          | (have hk : tk n B p = 2 := by omega
             exact g442 _ _ _ _ _ k4 hR1 hM1 (Or.inl ⟨ez441, hk, hO.trans (if_pos hk)⟩))
          | (have hz : z441 = 1 := ez441
             exact wd 0 _ (by decide) (by omega) (by omega) w0)
          | (have hz : z441 = 2 := ez441
             exact wd 1 _ (by decide) (by omega) (by omega) w1)
          | (have hz : z441 = 3 := ez441
             exact wd 2 _ (by decide) (by omega) (by omega) w2)
          | (have hz : z441 = 4 := ez441
             exact wd 3 _ (by decide) (by omega) (by omega) w3)
          | (have hz : z441 = 5 := ez441
             exact wd 4 _ (by decide) (by omega) (by omega) w4)
          | (have hz : z441 = 6 := ez441
             exact wd 5 _ (by decide) (by omega) (by omega) w5)
          | (have hz : z441 = 7 := ez441
             exact wd 6 _ (by decide) (by omega) (by omega) w6)
          | (have hz : z441 = 8 := ez441
             exact wd 7 _ (by decide) (by omega) (by omega) w7)
          | (have hz : z441 = -1 := ez441
             refine g442 _ _ _ _ _ k4 hR1 hM1 (Or.inr (Or.inr ⟨hz, hO.trans ((if_neg (by omega)).trans ?_)⟩))
             rw [see_none (fun j hj => by
               match j, hj with
               | 0, _ => exact w0
               | 1, _ => exact w1
               | 2, _ => exact w2
               | 3, _ => exact w3
               | 4, _ => exact w4
               | 5, _ => exact w5
               | 6, _ => exact w6
               | 7, _ => exact w7) 8 0 (by omega)])
        · refine ⟨_, rfl, ?_⟩
          refine b_if_eq (tgt := 353) rfl rfl (fun _ => ?_) (fun z => absurd z (by decide))
          refine b_aload_n rfl rfl ?_
          refine b_ldc2 (z := 1836019566) rfl kl12_280 (by decide) ?_
          refine b_callV1i (ν := MX12_isWord) rfl ml12_338 cvX12_isWord (d' := 0) (by omega) rfl (by decide) rfl (Nat.le_of_ble_eq_true rfl) ?_
          refine mk_isWord (k := 12) (by decide) (by decide) k4 hM1 (fun w2 => ?_) (fun w2 => ?_)
          · refine ⟨_, rfl, ?_⟩
            refine b_if_eq (tgt := 367) rfl rfl (fun z => absurd z (by decide)) (fun _ => ?_)
            refine b_iconst rfl (by decide) ?_
            refine b_goto (tgt := 441) rfl rfl ?_
            refine b_istoreX_n (F := fun z441 => [some (aR 57), some (aI z1), some (aI z2), some (aI z441)]) rfl (by decide) (fun _ => rfl) (fun z441 ez441 => ?_)
            first
            | (have hk : tk n B p = 2 := by omega
               exact g442 _ _ _ _ _ k4 hR1 hM1 (Or.inl ⟨ez441, hk, hO.trans (if_pos hk)⟩))
            | (have hz : z441 = 1 := ez441
               exact wd 0 _ (by decide) (by omega) (by omega) w0)
            | (have hz : z441 = 2 := ez441
               exact wd 1 _ (by decide) (by omega) (by omega) w1)
            | (have hz : z441 = 3 := ez441
               exact wd 2 _ (by decide) (by omega) (by omega) w2)
            | (have hz : z441 = 4 := ez441
               exact wd 3 _ (by decide) (by omega) (by omega) w3)
            | (have hz : z441 = 5 := ez441
               exact wd 4 _ (by decide) (by omega) (by omega) w4)
            | (have hz : z441 = 6 := ez441
               exact wd 5 _ (by decide) (by omega) (by omega) w5)
            | (have hz : z441 = 7 := ez441
               exact wd 6 _ (by decide) (by omega) (by omega) w6)
            | (have hz : z441 = 8 := ez441
               exact wd 7 _ (by decide) (by omega) (by omega) w7)
            | (have hz : z441 = -1 := ez441
               refine g442 _ _ _ _ _ k4 hR1 hM1 (Or.inr (Or.inr ⟨hz, hO.trans ((if_neg (by omega)).trans ?_)⟩))
               rw [see_none (fun j hj => by
                 match j, hj with
                 | 0, _ => exact w0
                 | 1, _ => exact w1
                 | 2, _ => exact w2
                 | 3, _ => exact w3
                 | 4, _ => exact w4
                 | 5, _ => exact w5
                 | 6, _ => exact w6
                 | 7, _ => exact w7) 8 0 (by omega)])
          · refine ⟨_, rfl, ?_⟩
            refine b_if_eq (tgt := 367) rfl rfl (fun _ => ?_) (fun z => absurd z (by decide))
            refine b_aload_n rfl rfl ?_
            refine b_ldc2 (z := 131277443786868) rfl kl12_290 (by decide) ?_
            refine b_callV1i (ν := MX12_isWord) rfl ml12_338 cvX12_isWord (d' := 0) (by omega) rfl (by decide) rfl (Nat.le_of_ble_eq_true rfl) ?_
            refine mk_isWord (k := 17) (by decide) (by decide) k4 hM1 (fun w3 => ?_) (fun w3 => ?_)
            · refine ⟨_, rfl, ?_⟩
              refine b_if_eq (tgt := 381) rfl rfl (fun z => absurd z (by decide)) (fun _ => ?_)
              refine b_iconst rfl (by decide) ?_
              refine b_goto (tgt := 441) rfl rfl ?_
              refine b_istoreX_n (F := fun z441 => [some (aR 57), some (aI z1), some (aI z2), some (aI z441)]) rfl (by decide) (fun _ => rfl) (fun z441 ez441 => ?_)
              first
              | (have hk : tk n B p = 2 := by omega
                 exact g442 _ _ _ _ _ k4 hR1 hM1 (Or.inl ⟨ez441, hk, hO.trans (if_pos hk)⟩))
              | (have hz : z441 = 1 := ez441
                 exact wd 0 _ (by decide) (by omega) (by omega) w0)
              | (have hz : z441 = 2 := ez441
                 exact wd 1 _ (by decide) (by omega) (by omega) w1)
              | (have hz : z441 = 3 := ez441
                 exact wd 2 _ (by decide) (by omega) (by omega) w2)
              | (have hz : z441 = 4 := ez441
                 exact wd 3 _ (by decide) (by omega) (by omega) w3)
              | (have hz : z441 = 5 := ez441
                 exact wd 4 _ (by decide) (by omega) (by omega) w4)
              | (have hz : z441 = 6 := ez441
                 exact wd 5 _ (by decide) (by omega) (by omega) w5)
              | (have hz : z441 = 7 := ez441
                 exact wd 6 _ (by decide) (by omega) (by omega) w6)
              | (have hz : z441 = 8 := ez441
                 exact wd 7 _ (by decide) (by omega) (by omega) w7)
              | (have hz : z441 = -1 := ez441
                 refine g442 _ _ _ _ _ k4 hR1 hM1 (Or.inr (Or.inr ⟨hz, hO.trans ((if_neg (by omega)).trans ?_)⟩))
                 rw [see_none (fun j hj => by
                   match j, hj with
                   | 0, _ => exact w0
                   | 1, _ => exact w1
                   | 2, _ => exact w2
                   | 3, _ => exact w3
                   | 4, _ => exact w4
                   | 5, _ => exact w5
                   | 6, _ => exact w6
                   | 7, _ => exact w7) 8 0 (by omega)])
            · refine ⟨_, rfl, ?_⟩
              refine b_if_eq (tgt := 381) rfl rfl (fun _ => ?_) (fun z => absurd z (by decide))
              refine b_aload_n rfl rfl ?_
              refine b_ldc2 (z := 1818846836) rfl kl12_292 (by decide) ?_
              refine b_callV1i (ν := MX12_isWord) rfl ml12_338 cvX12_isWord (d' := 0) (by omega) rfl (by decide) rfl (Nat.le_of_ble_eq_true rfl) ?_
              refine mk_isWord (k := 18) (by decide) (by decide) k4 hM1 (fun w4 => ?_) (fun w4 => ?_)
              · refine ⟨_, rfl, ?_⟩
                refine b_if_eq (tgt := 395) rfl rfl (fun z => absurd z (by decide)) (fun _ => ?_)
                refine b_iconst rfl (by decide) ?_
                refine b_goto (tgt := 441) rfl rfl ?_
                refine b_istoreX_n (F := fun z441 => [some (aR 57), some (aI z1), some (aI z2), some (aI z441)]) rfl (by decide) (fun _ => rfl) (fun z441 ez441 => ?_)
                first
                | (have hk : tk n B p = 2 := by omega
                   exact g442 _ _ _ _ _ k4 hR1 hM1 (Or.inl ⟨ez441, hk, hO.trans (if_pos hk)⟩))
                | (have hz : z441 = 1 := ez441
                   exact wd 0 _ (by decide) (by omega) (by omega) w0)
                | (have hz : z441 = 2 := ez441
                   exact wd 1 _ (by decide) (by omega) (by omega) w1)
                | (have hz : z441 = 3 := ez441
                   exact wd 2 _ (by decide) (by omega) (by omega) w2)
                | (have hz : z441 = 4 := ez441
                   exact wd 3 _ (by decide) (by omega) (by omega) w3)
                | (have hz : z441 = 5 := ez441
                   exact wd 4 _ (by decide) (by omega) (by omega) w4)
                | (have hz : z441 = 6 := ez441
                   exact wd 5 _ (by decide) (by omega) (by omega) w5)
                | (have hz : z441 = 7 := ez441
                   exact wd 6 _ (by decide) (by omega) (by omega) w6)
                | (have hz : z441 = 8 := ez441
                   exact wd 7 _ (by decide) (by omega) (by omega) w7)
                | (have hz : z441 = -1 := ez441
                   refine g442 _ _ _ _ _ k4 hR1 hM1 (Or.inr (Or.inr ⟨hz, hO.trans ((if_neg (by omega)).trans ?_)⟩))
                   rw [see_none (fun j hj => by
                     match j, hj with
                     | 0, _ => exact w0
                     | 1, _ => exact w1
                     | 2, _ => exact w2
                     | 3, _ => exact w3
                     | 4, _ => exact w4
                     | 5, _ => exact w5
                     | 6, _ => exact w6
                     | 7, _ => exact w7) 8 0 (by omega)])
              · refine ⟨_, rfl, ?_⟩
                refine b_if_eq (tgt := 395) rfl rfl (fun _ => ?_) (fun z => absurd z (by decide))
                refine b_aload_n rfl rfl ?_
                refine b_ldc2 (z := 7629168) rfl kl12_294 (by decide) ?_
                refine b_callV1i (ν := MX12_isWord) rfl ml12_338 cvX12_isWord (d' := 0) (by omega) rfl (by decide) rfl (Nat.le_of_ble_eq_true rfl) ?_
                refine mk_isWord (k := 19) (by decide) (by decide) k4 hM1 (fun w5 => ?_) (fun w5 => ?_)
                · refine ⟨_, rfl, ?_⟩
                  refine b_if_eq (tgt := 410) rfl rfl (fun z => absurd z (by decide)) (fun _ => ?_)
                  refine b_bipush rfl (by decide) ?_
                  refine b_goto (tgt := 441) rfl rfl ?_
                  refine b_istoreX_n (F := fun z441 => [some (aR 57), some (aI z1), some (aI z2), some (aI z441)]) rfl (by decide) (fun _ => rfl) (fun z441 ez441 => ?_)
                  first
                  | (have hk : tk n B p = 2 := by omega
                     exact g442 _ _ _ _ _ k4 hR1 hM1 (Or.inl ⟨ez441, hk, hO.trans (if_pos hk)⟩))
                  | (have hz : z441 = 1 := ez441
                     exact wd 0 _ (by decide) (by omega) (by omega) w0)
                  | (have hz : z441 = 2 := ez441
                     exact wd 1 _ (by decide) (by omega) (by omega) w1)
                  | (have hz : z441 = 3 := ez441
                     exact wd 2 _ (by decide) (by omega) (by omega) w2)
                  | (have hz : z441 = 4 := ez441
                     exact wd 3 _ (by decide) (by omega) (by omega) w3)
                  | (have hz : z441 = 5 := ez441
                     exact wd 4 _ (by decide) (by omega) (by omega) w4)
                  | (have hz : z441 = 6 := ez441
                     exact wd 5 _ (by decide) (by omega) (by omega) w5)
                  | (have hz : z441 = 7 := ez441
                     exact wd 6 _ (by decide) (by omega) (by omega) w6)
                  | (have hz : z441 = 8 := ez441
                     exact wd 7 _ (by decide) (by omega) (by omega) w7)
                  | (have hz : z441 = -1 := ez441
                     refine g442 _ _ _ _ _ k4 hR1 hM1 (Or.inr (Or.inr ⟨hz, hO.trans ((if_neg (by omega)).trans ?_)⟩))
                     rw [see_none (fun j hj => by
                       match j, hj with
                       | 0, _ => exact w0
                       | 1, _ => exact w1
                       | 2, _ => exact w2
                       | 3, _ => exact w3
                       | 4, _ => exact w4
                       | 5, _ => exact w5
                       | 6, _ => exact w6
                       | 7, _ => exact w7) 8 0 (by omega)])
                · refine ⟨_, rfl, ?_⟩
                  refine b_if_eq (tgt := 410) rfl rfl (fun _ => ?_) (fun z => absurd z (by decide))
                  refine b_aload_n rfl rfl ?_
                  refine b_ldc2 (z := 427071729268) rfl kl12_296 (by decide) ?_
                  refine b_callV1i (ν := MX12_isWord) rfl ml12_338 cvX12_isWord (d' := 0) (by omega) rfl (by decide) rfl (Nat.le_of_ble_eq_true rfl) ?_
                  refine mk_isWord (k := 20) (by decide) (by decide) k4 hM1 (fun w6 => ?_) (fun w6 => ?_)
                  · refine ⟨_, rfl, ?_⟩
                    refine b_if_eq (tgt := 425) rfl rfl (fun z => absurd z (by decide)) (fun _ => ?_)
                    refine b_bipush rfl (by decide) ?_
                    refine b_goto (tgt := 441) rfl rfl ?_
                    refine b_istoreX_n (F := fun z441 => [some (aR 57), some (aI z1), some (aI z2), some (aI z441)]) rfl (by decide) (fun _ => rfl) (fun z441 ez441 => ?_)
                    first
                    | (have hk : tk n B p = 2 := by omega
                       exact g442 _ _ _ _ _ k4 hR1 hM1 (Or.inl ⟨ez441, hk, hO.trans (if_pos hk)⟩))
                    | (have hz : z441 = 1 := ez441
                       exact wd 0 _ (by decide) (by omega) (by omega) w0)
                    | (have hz : z441 = 2 := ez441
                       exact wd 1 _ (by decide) (by omega) (by omega) w1)
                    | (have hz : z441 = 3 := ez441
                       exact wd 2 _ (by decide) (by omega) (by omega) w2)
                    | (have hz : z441 = 4 := ez441
                       exact wd 3 _ (by decide) (by omega) (by omega) w3)
                    | (have hz : z441 = 5 := ez441
                       exact wd 4 _ (by decide) (by omega) (by omega) w4)
                    | (have hz : z441 = 6 := ez441
                       exact wd 5 _ (by decide) (by omega) (by omega) w5)
                    | (have hz : z441 = 7 := ez441
                       exact wd 6 _ (by decide) (by omega) (by omega) w6)
                    | (have hz : z441 = 8 := ez441
                       exact wd 7 _ (by decide) (by omega) (by omega) w7)
                    | (have hz : z441 = -1 := ez441
                       refine g442 _ _ _ _ _ k4 hR1 hM1 (Or.inr (Or.inr ⟨hz, hO.trans ((if_neg (by omega)).trans ?_)⟩))
                       rw [see_none (fun j hj => by
                         match j, hj with
                         | 0, _ => exact w0
                         | 1, _ => exact w1
                         | 2, _ => exact w2
                         | 3, _ => exact w3
                         | 4, _ => exact w4
                         | 5, _ => exact w5
                         | 6, _ => exact w6
                         | 7, _ => exact w7) 8 0 (by omega)])
                  · refine ⟨_, rfl, ?_⟩
                    refine b_if_eq (tgt := 425) rfl rfl (fun _ => ?_) (fun z => absurd z (by decide))
                    refine b_aload_n rfl rfl ?_
                    refine b_ldc2 (z := 114784769370228) rfl kl12_298 (by decide) ?_
                    refine b_callV1i (ν := MX12_isWord) rfl ml12_338 cvX12_isWord (d' := 0) (by omega) rfl (by decide) rfl (Nat.le_of_ble_eq_true rfl) ?_
                    refine mk_isWord (k := 21) (by decide) (by decide) k4 hM1 (fun w7 => ?_) (fun w7 => ?_)
                    · refine ⟨_, rfl, ?_⟩
                      refine b_if_eq (tgt := 440) rfl rfl (fun z => absurd z (by decide)) (fun _ => ?_)
                      refine b_bipush rfl (by decide) ?_
                      refine b_goto (tgt := 441) rfl rfl ?_
                      refine b_istoreX_n (F := fun z441 => [some (aR 57), some (aI z1), some (aI z2), some (aI z441)]) rfl (by decide) (fun _ => rfl) (fun z441 ez441 => ?_)
                      first
                      | (have hk : tk n B p = 2 := by omega
                         exact g442 _ _ _ _ _ k4 hR1 hM1 (Or.inl ⟨ez441, hk, hO.trans (if_pos hk)⟩))
                      | (have hz : z441 = 1 := ez441
                         exact wd 0 _ (by decide) (by omega) (by omega) w0)
                      | (have hz : z441 = 2 := ez441
                         exact wd 1 _ (by decide) (by omega) (by omega) w1)
                      | (have hz : z441 = 3 := ez441
                         exact wd 2 _ (by decide) (by omega) (by omega) w2)
                      | (have hz : z441 = 4 := ez441
                         exact wd 3 _ (by decide) (by omega) (by omega) w3)
                      | (have hz : z441 = 5 := ez441
                         exact wd 4 _ (by decide) (by omega) (by omega) w4)
                      | (have hz : z441 = 6 := ez441
                         exact wd 5 _ (by decide) (by omega) (by omega) w5)
                      | (have hz : z441 = 7 := ez441
                         exact wd 6 _ (by decide) (by omega) (by omega) w6)
                      | (have hz : z441 = 8 := ez441
                         exact wd 7 _ (by decide) (by omega) (by omega) w7)
                      | (have hz : z441 = -1 := ez441
                         refine g442 _ _ _ _ _ k4 hR1 hM1 (Or.inr (Or.inr ⟨hz, hO.trans ((if_neg (by omega)).trans ?_)⟩))
                         rw [see_none (fun j hj => by
                           match j, hj with
                           | 0, _ => exact w0
                           | 1, _ => exact w1
                           | 2, _ => exact w2
                           | 3, _ => exact w3
                           | 4, _ => exact w4
                           | 5, _ => exact w5
                           | 6, _ => exact w6
                           | 7, _ => exact w7) 8 0 (by omega)])
                    · refine ⟨_, rfl, ?_⟩
                      refine b_if_eq (tgt := 440) rfl rfl (fun _ => ?_) (fun z => absurd z (by decide))
                      refine b_iconst rfl (by decide) ?_
                      refine b_istoreX_n (F := fun z441 => [some (aR 57), some (aI z1), some (aI z2), some (aI z441)]) rfl (by decide) (fun _ => rfl) (fun z441 ez441 => ?_)
                      first
                      | (have hk : tk n B p = 2 := by omega
                         exact g442 _ _ _ _ _ k4 hR1 hM1 (Or.inl ⟨ez441, hk, hO.trans (if_pos hk)⟩))
                      | (have hz : z441 = 1 := ez441
                         exact wd 0 _ (by decide) (by omega) (by omega) w0)
                      | (have hz : z441 = 2 := ez441
                         exact wd 1 _ (by decide) (by omega) (by omega) w1)
                      | (have hz : z441 = 3 := ez441
                         exact wd 2 _ (by decide) (by omega) (by omega) w2)
                      | (have hz : z441 = 4 := ez441
                         exact wd 3 _ (by decide) (by omega) (by omega) w3)
                      | (have hz : z441 = 5 := ez441
                         exact wd 4 _ (by decide) (by omega) (by omega) w4)
                      | (have hz : z441 = 6 := ez441
                         exact wd 5 _ (by decide) (by omega) (by omega) w5)
                      | (have hz : z441 = 7 := ez441
                         exact wd 6 _ (by decide) (by omega) (by omega) w6)
                      | (have hz : z441 = 8 := ez441
                         exact wd 7 _ (by decide) (by omega) (by omega) w7)
                      | (have hz : z441 = -1 := ez441
                         refine g442 _ _ _ _ _ k4 hR1 hM1 (Or.inr (Or.inr ⟨hz, hO.trans ((if_neg (by omega)).trans ?_)⟩))
                         rw [see_none (fun j hj => by
                           match j, hj with
                           | 0, _ => exact w0
                           | 1, _ => exact w1
                           | 2, _ => exact w2
                           | 3, _ => exact w3
                           | 4, _ => exact w4
                           | 5, _ => exact w5
                           | 6, _ => exact w6
                           | 7, _ => exact w7) 8 0 (by omega)])
    · refine b_iconst rfl (by decide) ?_
      refine b_goto (tgt := 441) rfl rfl ?_
      refine b_istoreX_n (F := fun z441 => [some (aR 57), some (aI z1), some (aI z2), some (aI z441)]) rfl (by decide) (fun _ => rfl) (fun z441 ez441 => ?_)
      first
      | (have hk : tk n B p = 2 := by omega
         exact g442 _ _ _ _ _ k4 hR1 hM1 (Or.inl ⟨ez441, hk, hO.trans (if_pos hk)⟩))
      | (have hz : z441 = 1 := ez441
         exact wd 0 _ (by decide) (by omega) (by omega) w0)
      | (have hz : z441 = 2 := ez441
         exact wd 1 _ (by decide) (by omega) (by omega) w1)
      | (have hz : z441 = 3 := ez441
         exact wd 2 _ (by decide) (by omega) (by omega) w2)
      | (have hz : z441 = 4 := ez441
         exact wd 3 _ (by decide) (by omega) (by omega) w3)
      | (have hz : z441 = 5 := ez441
         exact wd 4 _ (by decide) (by omega) (by omega) w4)
      | (have hz : z441 = 6 := ez441
         exact wd 5 _ (by decide) (by omega) (by omega) w5)
      | (have hz : z441 = 7 := ez441
         exact wd 6 _ (by decide) (by omega) (by omega) w6)
      | (have hz : z441 = 8 := ez441
         exact wd 7 _ (by decide) (by omega) (by omega) w7)
      | (have hz : z441 = -1 := ez441
         refine g442 _ _ _ _ _ k4 hR1 hM1 (Or.inr (Or.inr ⟨hz, hO.trans ((if_neg (by omega)).trans ?_)⟩))
         rw [see_none (fun j hj => by
           match j, hj with
           | 0, _ => exact w0
           | 1, _ => exact w1
           | 2, _ => exact w2
           | 3, _ => exact w3
           | 4, _ => exact w4
           | 5, _ => exact w5
           | 6, _ => exact w6
           | 7, _ => exact w7) 8 0 (by omega)])
  have opn1 : ∀ a b c d : Int, opN ((mkF a b c d []) :: (mkF F.ki F.ph 0 F.pa F.os) :: r) = opN (F :: r) + 1 := by
    intro a b c d
    rw [opN_c, nts_c, List.length_cons, hoc]
    show 0 + (ntO F.os + nts r) + (r.length + 1) = _
    omega
  have tot1 : tot ((mkF F.ki F.ph 0 F.pa F.os) :: r) = tot (F :: r) := rfl
  have pf1 : PF ((mkF F.ki F.ph 0 F.pa F.os) :: r) := PF_c hPt.1 hPt.2
  -- min, max, if
  have g292 : ∀ (z1 z2 z3 v ki : Int) (K2 H2 : HI), (ki = 3 ∨ ki = 6) → (v = -10 ∨ v = -21 ∨ v = -22) → z3 = so v → opF n B se F r cs p = .inr (0, te n B (te n B p), (mkF ki 0 1 v []) :: (mkF F.ki F.ph 0 F.pa F.os) :: r, cs) → RC K0 m k0 ((mkF ki 0 1 0 []) :: (mkF F.ki F.ph 0 F.pa F.os) :: r) cs ((opN (F :: r) : Int) + 1) K2 → Mok K2 n B (te n B (te n B p)) H2 → Bj MX12_operand 3 292 [some (aR 57), some (aI z1), some (aI z2), some (aI z3)] [] H2 Q := by
    intro z1 z2 z3 v ki K2 H2 hki hv hz hO hR2 hM2
    have hR2' := hR2
    obtain ⟨si, sa, en, va, wo, lx, e, h⟩ := hM2
    subst e
    obtain ⟨b1, b2, b3, b4, b5, b6, b7, b8⟩ := hR2
    rw [List.length_cons, List.length_cons] at b3
    have ez : (((r.length + 1 + 1 : Nat) : Int) - 1).toNat = r.length + 1 := by omega
    have hRp := RC_pa hR2' hv
    rw [List.length_cons] at hRp
    refine b_aload_n rfl rfl ?_
    refine b_getI rfl fl12_36 rfl (by decide) rfl ?_
    rw [MX_8]
    refine b_if_ne (tgt := 311) rfl rfl (fun c296 => ?_) (fun c296 => ?_)
    · omega
    · refine b_aload_n rfl rfl ?_
      refine b_getR (r := 81) rfl fl12_131 rfl (by decide) rfl rfl ?_
      refine b_aload_n rfl rfl ?_
      refine b_getI rfl fl12_137 rfl (by decide) rfl ?_
      rw [MXo (by decide)]
      rw [b3]
      refine b_iconst rfl (by decide) ?_
      refine b_isubN rfl (by omega) (by omega) ?_
      refine b_iload_n rfl rfl ?_
      refine b_iast rfl rfl (by omega) (by omega) ?_
      try simp only [tn6, tn4, tn2, tn144, tn24, tn_cast, Int.reduceToNat]
      rw [MX_ux (by decide)]
      try rw [ez]
      rw [hz]
      refine b_iconst rfl (by decide) ?_
      refine b_zret rfl rfl (by first | decide | omega) ?_
      exact kR 0 _ _ _ _ _ hO (RC_eq hRp rfl rfl (by rw [opn1]; omega)) (PF_c pf1 (fun _ => by show v ≠ 0; omega)) ⟨si, sa, en, va, wo, lx, rfl, h⟩
  have b292 : ∀ (z1 z2 z3 k pl : Int) (K2 H2 : HI), FrK K0 m k0 K2 → opF n B se F r cs p = .inl (k, pl) → Mbad K2 k pl H2 → Bj MX12_operand 3 292 [some (aR 57), some (aI z1), some (aI z2), some (aI z3)] [] H2 Q := by
    intro z1 z2 z3 k pl K2 H2 hF hO hb
    have hf := Mbad_f hb
    refine b_aload_n rfl rfl ?_
    refine b_getI rfl fl12_36 rfl (by decide) rfl ?_
    refine b_if_ne (tgt := 311) rfl rfl (fun c296 => ?_) (fun c296 => ?_)
    · refine b_iconst rfl (by decide) ?_
      refine b_zret rfl rfl (by first | decide | omega) ?_
      exact kI (k, pl) _ K2 _ hO hF hb (by omega)
    · omega
  have b258 : ∀ (z1 z2 z3 k pl : Int) (K2 H2 : HI), FrK K0 m k0 K2 → opF n B se F r cs p = .inl (k, pl) → Mbad K2 k pl H2 → Bj MX12_operand 3 258 [some (aR 57), some (aI z1), some (aI z2), some (aI z3)] [] H2 Q := by
    intro z1 z2 z3 k pl K2 H2 hF hO hb
    refine b_aload_n rfl rfl ?_
    refine b_bipush rfl (by decide) ?_
    refine b_callV1i (ν := MX12_isSign) rfl ml12_250 cvX12_isSign (d' := 0) (by omega) rfl (by decide) rfl (Nat.le_of_ble_eq_true rfl) ?_
    refine mk_isSignB hb (fun z hz => ?_)
    refine ⟨_, rfl, ?_⟩
    refine b_if_ne (tgt := 276) rfl rfl (fun c264 => ?_) (fun c264 => ?_)
    · refine b_aload_n rfl rfl ?_
      refine b_iload_n rfl rfl ?_
      refine b_bipush rfl (by decide) ?_
      refine b_icmp_ne (tgt := 288) rfl rfl (fun c280 => ?_) (fun c280 => ?_)
      · refine b_iconst rfl (by decide) ?_
        refine b_callV1v (ν := MX12_opens) rfl ml12_345 cvX12_opens (d' := 2) (by omega) rfl (by decide) rfl (Nat.le_of_ble_eq_true rfl) ?_
        refine mc_opensB hb ?_
        refine ⟨rfl, ?_⟩
        exact b292 _ _ _ _ _ _ _ hF hO hb
      · refine b_bipush rfl (by decide) ?_
        refine b_goto (tgt := 289) rfl rfl ?_
        refine b_callV1v (ν := MX12_opens) rfl ml12_345 cvX12_opens (d' := 2) (by omega) rfl (by decide) rfl (Nat.le_of_ble_eq_true rfl) ?_
        refine mc_opensB hb ?_
        refine ⟨rfl, ?_⟩
        exact b292 _ _ _ _ _ _ _ hF hO hb
    · refine b_aload_n rfl rfl ?_
      refine b_iconst rfl (by decide) ?_
      refine b_aload_n rfl rfl ?_
      refine b_getI rfl fl12_23 rfl (by decide) rfl ?_
      refine b_callV2v (ν := MX12_blame) rfl ml12_236 cvX12_blame (d' := 0) (by omega) rfl (by decide) rfl (Nat.le_of_ble_eq_true rfl) ?_
      refine mk_blameB hb ?_
      refine ⟨rfl, ?_⟩
      refine b_aload_n rfl rfl ?_
      refine b_iload_n rfl rfl ?_
      refine b_bipush rfl (by decide) ?_
      refine b_icmp_ne (tgt := 288) rfl rfl (fun c280 => ?_) (fun c280 => ?_)
      · refine b_iconst rfl (by decide) ?_
        refine b_callV1v (ν := MX12_opens) rfl ml12_345 cvX12_opens (d' := 2) (by omega) rfl (by decide) rfl (Nat.le_of_ble_eq_true rfl) ?_
        refine mc_opensB hb ?_
        refine ⟨rfl, ?_⟩
        exact b292 _ _ _ _ _ _ _ hF hO hb
      · refine b_bipush rfl (by decide) ?_
        refine b_goto (tgt := 289) rfl rfl ?_
        refine b_callV1v (ν := MX12_opens) rfl ml12_345 cvX12_opens (d' := 2) (by omega) rfl (by decide) rfl (Nat.le_of_ble_eq_true rfl) ?_
        refine mc_opensB hb ?_
        refine ⟨rfl, ?_⟩
        exact b292 _ _ _ _ _ _ _ hF hO hb
  have b276 : ∀ (z1 z2 z3 k pl : Int) (K2 H2 : HI), FrK K0 m k0 K2 → opF n B se F r cs p = .inl (k, pl) → Mbad K2 k pl H2 → Bj MX12_operand 3 276 [some (aR 57), some (aI z1), some (aI z2), some (aI z3)] [] H2 Q := by
    intro z1 z2 z3 k pl K2 H2 hF hO hb
    refine b_aload_n rfl rfl ?_
    refine b_iload_n rfl rfl ?_
    refine b_bipush rfl (by decide) ?_
    refine b_icmp_ne (tgt := 288) rfl rfl (fun c280 => ?_) (fun c280 => ?_)
    · refine b_iconst rfl (by decide) ?_
      refine b_callV1v (ν := MX12_opens) rfl ml12_345 cvX12_opens (d' := 2) (by omega) rfl (by decide) rfl (Nat.le_of_ble_eq_true rfl) ?_
      refine mc_opensB hb ?_
      refine ⟨rfl, ?_⟩
      exact b292 _ _ _ _ _ _ _ hF hO hb
    · refine b_bipush rfl (by decide) ?_
      refine b_goto (tgt := 289) rfl rfl ?_
      refine b_callV1v (ν := MX12_opens) rfl ml12_345 cvX12_opens (d' := 2) (by omega) rfl (by decide) rfl (Nat.le_of_ble_eq_true rfl) ?_
      refine mc_opensB hb ?_
      refine ⟨rfl, ?_⟩
      exact b292 _ _ _ _ _ _ _ hF hO hb
  have g250 : ∀ (z1 z2 z3 v ki : Int) (K1 H1 : HI), (z3 = 44 ∧ ki = 6 ∨ z3 ≠ 44 ∧ ki = 3) → (v = -10 ∨ v = -21 ∨ v = -22) → z3 = so v → tk n B p = 1 → opF n B se F r cs p = (if sg n B (te n B p) 40 then (if opN (F :: r) = 7 then .inl (5, (tq n B (te n B p) : Int)) else .inr (0, te n B (te n B p), (mkF ki 0 1 v []) :: (mkF F.ki F.ph 0 F.pa F.os) :: r, cs)) else .inl (1, (tsp n B (te n B p) : Int))) → RC K0 m k0 ((mkF F.ki F.ph 0 F.pa F.os) :: r) cs (opN (F :: r) : Int) K1 → Mok K1 n B p H1 → Bj MX12_operand 3 250 [some (aR 57), some (aI z1), some (aI z2), some (aI z3)] [] H1 Q := by
    intro z1 z2 z3 v ki K1 H1 hki hv hz hk1 hO hR1 hM1
    have hte := te_gp (Or.inl hk1 : tk n B p = 1 ∨ tk n B p = 2 ∨ tk n B p = 3)
    have g276 : ∀ H2, sg n B (te n B p) 40 → Mok K1 n B (te n B p) H2 → Bj MX12_operand 3 276 [some (aR 57), some (aI z1), some (aI z2), some (aI z3)] [] H2 Q := by
      intro H2 hs hM2
      have hO1 := hO.trans (if_pos hs)
      have oc : ∀ k2 : Int, k2 = ki → Rj MX12_opens 2 [aR 57, aI k2] H2 (fun rr I' => rr = none ∧ Bj MX12_operand 3 292 [some (aR 57), some (aI z1), some (aI z2), some (aI z3)] [] I' Q) := by
        intro k2 hk2
        subst hk2
        refine mc_opens hT hR1 (by rw [List.length_cons]; omega) (by rw [tot1]; omega) (by omega) (by omega) hM2 (sg_c hs) (fun e7 H3 hb => ⟨rfl, b292 _ _ _ _ _ _ _ hR1.1 (hO1.trans (if_pos (by omega))) hb⟩) (fun e7 K3 H3 hR3 hM3 => ⟨rfl, g292 _ _ _ v k2 _ _ (by omega) hv hz (hO1.trans (if_neg (by omega))) hR3 hM3⟩)
      refine b_aload_n rfl rfl ?_
      refine b_iload_n rfl rfl ?_
      refine b_bipush rfl (by decide) ?_
      refine b_icmp_ne (tgt := 288) rfl rfl (fun c280 => ?_) (fun c280 => ?_)
      · refine b_iconst rfl (by decide) ?_
        refine b_callV1v (ν := MX12_opens) rfl ml12_345 cvX12_opens (d' := 2) (by omega) rfl (by decide) rfl (Nat.le_of_ble_eq_true rfl) ?_
        exact oc _ (by omega)
      · refine b_bipush rfl (by decide) ?_
        refine b_goto (tgt := 289) rfl rfl ?_
        refine b_callV1v (ν := MX12_opens) rfl ml12_345 cvX12_opens (d' := 2) (by omega) rfl (by decide) rfl (Nat.le_of_ble_eq_true rfl) ?_
        exact oc _ (by omega)
    have g258 : ∀ H2, tk n B (te n B p) ≠ 4 → Mok K1 n B (te n B p) H2 → Bj MX12_operand 3 258 [some (aR 57), some (aI z1), some (aI z2), some (aI z3)] [] H2 Q := by
      intro H2 h4 hM2
      have hf2 := Mok_f hM2
      refine b_aload_n rfl rfl ?_
      refine b_bipush rfl (by decide) ?_
      refine b_callV1i (ν := MX12_isSign) rfl ml12_250 cvX12_isSign (d' := 0) (by omega) rfl (by decide) rfl (Nat.le_of_ble_eq_true rfl) ?_
      refine mk_isSign h4 hM2 (fun hs => ?_) (fun hs => ?_)
      · refine ⟨_, rfl, ?_⟩
        refine b_if_ne (tgt := 276) rfl rfl (fun _ => ?_) (fun z => absurd z (by decide))
        first
        | exact b276 _ _ _ _ _ _ _ hR1.1 (hO.trans (if_neg hs)) hb
        | exact g276 _ hs hM2
      · refine ⟨_, rfl, ?_⟩
        refine b_if_ne (tgt := 276) rfl rfl (fun z => absurd z (by decide)) (fun _ => ?_)
        refine b_aload_n rfl rfl ?_
        refine b_iconst rfl (by decide) ?_
        refine b_aload_n rfl rfl ?_
        refine b_getI rfl fl12_23 rfl (by decide) rfl ?_
        rw [hf2.2, ← tsp_q h4]
        refine b_callV2v (ν := MX12_blame) rfl ml12_236 cvX12_blame (d' := 0) (by omega) rfl (by decide) rfl (Nat.le_of_ble_eq_true rfl) ?_
        refine mk_blame (by decide) hM2 (fun H3 hb => ?_)
        refine ⟨rfl, ?_⟩
        first
        | exact b276 _ _ _ _ _ _ _ hR1.1 (hO.trans (if_neg hs)) hb
        | exact g276 _ hs hM2
    refine b_aload_n rfl rfl ?_
    refine b_callV0v (ν := MX12_ahead) rfl ml12_253 cvX12_ahead (d' := 1) (by omega) rfl (by decide) rfl (Nat.le_of_ble_eq_true rfl) ?_
    refine mk_ahead (MTx_F hT hR1.1) hM1 (Or.inl hk1) (fun H2 hM2 => ?_)
    refine ⟨rfl, ?_⟩
    refine b_aload_n rfl rfl ?_
    refine b_callV0v (ν := MX12_lex) rfl ml12_247 cvX12_lex (d' := 1) (by omega) rfl (by decide) rfl (Nat.le_of_ble_eq_true rfl) ?_
    refine mk_lex hM2 (fun h4 => ?_) (fun h4 H3 hb => ?_)
    · refine ⟨rfl, ?_⟩
      first
      | exact b258 _ _ _ _ _ _ _ hR1.1 (hO.trans (if_neg (sg_4 h4))) hb
      | exact g258 _ h4 hM2
    · refine ⟨rfl, ?_⟩
      first
      | exact b258 _ _ _ _ _ _ _ hR1.1 (hO.trans (if_neg (sg_4 h4))) hb
      | exact g258 _ h4 hM2
  have g187 : ∀ (z1 z2 : Int) (K1 H1 : HI), tk n B p ≠ 4 → RC K0 m k0 ((mkF F.ki F.ph 0 F.pa F.os) :: r) cs (opN (F :: r) : Int) K1 → Mok K1 n B p H1 → ¬ (fst_ F ∧ tw n B p = 25) → ¬ (fst_ F ∧ sg n B p 91) → ¬ (fst_ F ∧ tw n B p = 26) → ¬ sg n B p 40 → Bj MX12_operand 3 187 [some (aR 57), some (aI z1), some (aI z2), none] [] H1 Q := by
    intro z1 z2 K1 H1 k4 hR1 hM1 n25 n91 n26 n40
    have hO : opF n B se F r cs p = _ := (if_neg k4).trans ((if_neg n25).trans ((if_neg n91).trans ((if_neg n26).trans (if_neg n40))))
    have g249 : ∀ (z3 : Int), (tw n B p = 27 ∧ z3 = 36) ∨ (tw n B p = 28 ∧ z3 = 37) ∨ (tw n B p = 22 ∧ z3 = 44) → Bj MX12_operand 3 250 [some (aR 57), some (aI z1), some (aI z2), some (aI z3)] [] H1 Q := by
      intro z3 hz
      have hO2 := hO.trans (if_pos (show tw n B p = 27 ∨ tw n B p = 28 ∨ tw n B p = 22 by omega))
      rcases hz with ⟨hw, hz⟩ | ⟨hw, hz⟩ | ⟨hw, hz⟩
      · rw [if_neg (show ¬ tw n B p = 22 by omega), if_pos hw] at hO2
        exact g250 z1 z2 z3 (-21) 3 K1 H1 (Or.inr ⟨by omega, rfl⟩) (by omega) (by rw [hz]; rfl) (tw_1 hw (by decide)) hO2 hR1 hM1
      · rw [if_neg (show ¬ tw n B p = 22 by omega), if_neg (show ¬ tw n B p = 27 by omega), if_pos hw] at hO2
        exact g250 z1 z2 z3 (-22) 3 K1 H1 (Or.inr ⟨by omega, rfl⟩) (by omega) (by rw [hz]; rfl) (tw_1 hw (by decide)) hO2 hR1 hM1
      · rw [if_pos hw, if_neg (show ¬ tw n B p = 27 by omega), if_neg (show ¬ tw n B p = 28 by omega)] at hO2
        exact g250 z1 z2 z3 (-10) 6 K1 H1 (Or.inl ⟨hz, rfl⟩) (by omega) (by rw [hz]; rfl) (tw_1 hw (by decide)) hO2 hR1 hM1
    have g217 : tw n B p = 27 ∨ tw n B p = 28 ∨ tw n B p = 22 → Bj MX12_operand 3 217 [some (aR 57), some (aI z1), some (aI z2), none] [] H1 Q := by
      intro hw
      refine b_aload_n rfl rfl ?_
      refine b_ldc2 (z := 7170414) rfl kl12_310 (by decide) ?_
      refine b_callV1i (ν := MX12_isWord) rfl ml12_338 cvX12_isWord (d' := 0) (by omega) rfl (by decide) rfl (Nat.le_of_ble_eq_true rfl) ?_
      refine mk_isWord (k := 27) (by decide) (by decide) k4 hM1 (fun w1 => ?_) (fun w1 => ?_)
      · refine ⟨_, rfl, ?_⟩
        refine b_if_eq (tgt := 232) rfl rfl (fun z => absurd z (by decide)) (fun _ => ?_)
        refine b_bipush rfl (by decide) ?_
        refine b_goto (tgt := 249) rfl rfl ?_
        refine b_istoreX_n (F := fun z249 => [some (aR 57), some (aI z1), some (aI z2), some (aI z249)]) rfl (by decide) (fun _ => rfl) (fun z249 ez249 => ?_)
        exact g249 _ (by omega)
      · refine ⟨_, rfl, ?_⟩
        refine b_if_eq (tgt := 232) rfl rfl (fun _ => ?_) (fun z => absurd z (by decide))
        refine b_aload_n rfl rfl ?_
        refine b_ldc2 (z := 7168376) rfl kl12_312 (by decide) ?_
        refine b_callV1i (ν := MX12_isWord) rfl ml12_338 cvX12_isWord (d' := 0) (by omega) rfl (by decide) rfl (Nat.le_of_ble_eq_true rfl) ?_
        refine mk_isWord (k := 28) (by decide) (by decide) k4 hM1 (fun w2 => ?_) (fun w2 => ?_)
        · refine ⟨_, rfl, ?_⟩
          refine b_if_eq (tgt := 247) rfl rfl (fun z => absurd z (by decide)) (fun _ => ?_)
          refine b_bipush rfl (by decide) ?_
          refine b_goto (tgt := 249) rfl rfl ?_
          refine b_istoreX_n (F := fun z249 => [some (aR 57), some (aI z1), some (aI z2), some (aI z249)]) rfl (by decide) (fun _ => rfl) (fun z249 ez249 => ?_)
          exact g249 _ (by omega)
        · refine ⟨_, rfl, ?_⟩
          refine b_if_eq (tgt := 247) rfl rfl (fun _ => ?_) (fun z => absurd z (by decide))
          refine b_bipush rfl (by decide) ?_
          refine b_istoreX_n (F := fun z249 => [some (aR 57), some (aI z1), some (aI z2), some (aI z249)]) rfl (by decide) (fun _ => rfl) (fun z249 ez249 => ?_)
          exact g249 _ (by omega)
    refine b_aload_n rfl rfl ?_
    refine b_ldc2 (z := 7170414) rfl kl12_310 (by decide) ?_
    refine b_callV1i (ν := MX12_isWord) rfl ml12_338 cvX12_isWord (d' := 0) (by omega) rfl (by decide) rfl (Nat.le_of_ble_eq_true rfl) ?_
    refine mk_isWord (k := 27) (by decide) (by decide) k4 hM1 (fun w1 => ?_) (fun w1 => ?_)
    · refine ⟨_, rfl, ?_⟩
      refine b_if_ne (tgt := 217) rfl rfl (fun _ => ?_) (fun z => absurd z (by decide))
      exact g217 (by omega)
    · refine ⟨_, rfl, ?_⟩
      refine b_if_ne (tgt := 217) rfl rfl (fun z => absurd z (by decide)) (fun _ => ?_)
      refine b_aload_n rfl rfl ?_
      refine b_ldc2 (z := 7168376) rfl kl12_312 (by decide) ?_
      refine b_callV1i (ν := MX12_isWord) rfl ml12_338 cvX12_isWord (d' := 0) (by omega) rfl (by decide) rfl (Nat.le_of_ble_eq_true rfl) ?_
      refine mk_isWord (k := 28) (by decide) (by decide) k4 hM1 (fun w2 => ?_) (fun w2 => ?_)
      · refine ⟨_, rfl, ?_⟩
        refine b_if_ne (tgt := 217) rfl rfl (fun _ => ?_) (fun z => absurd z (by decide))
        exact g217 (by omega)
      · refine ⟨_, rfl, ?_⟩
        refine b_if_ne (tgt := 217) rfl rfl (fun z => absurd z (by decide)) (fun _ => ?_)
        refine b_aload_n rfl rfl ?_
        refine b_ldc2 (z := 26982) rfl kl12_300 (by decide) ?_
        refine b_callV1i (ν := MX12_isWord) rfl ml12_338 cvX12_isWord (d' := 0) (by omega) rfl (by decide) rfl (Nat.le_of_ble_eq_true rfl) ?_
        refine mk_isWord (k := 22) (by decide) (by decide) k4 hM1 (fun w3 => ?_) (fun w3 => ?_)
        · refine ⟨_, rfl, ?_⟩
          refine b_if_eq (tgt := 313) rfl rfl (fun z => absurd z (by decide)) (fun _ => ?_)
          exact g217 (by omega)
        · refine ⟨_, rfl, ?_⟩
          refine b_if_eq (tgt := 313) rfl rfl (fun _ => ?_) (fun z => absurd z (by decide))
          exact g313 _ _ _ _ k4 hR1 hM1 (hO.trans (if_neg (by omega)))
  have pfk : ∀ ki : Int, (ki = 2 ∨ ki = 5) → PF ((mkF ki 0 1 0 []) :: (mkF F.ki F.ph 0 F.pa F.os) :: r) := fun ki hki => PF_c pf1 (fun w => by
    exfalso
    have w2 : ki = 3 ∨ ki = 4 ∨ ki = 6 := w
    omega)
  have g171 : ∀ (z1 z2 : Int) (K1 H1 : HI), tk n B p ≠ 4 → RC K0 m k0 ((mkF F.ki F.ph 0 F.pa F.os) :: r) cs (opN (F :: r) : Int) K1 → Mok K1 n B p H1 → ¬ (fst_ F ∧ tw n B p = 25) → ¬ (fst_ F ∧ sg n B p 91) → ¬ (fst_ F ∧ tw n B p = 26) → Bj MX12_operand 3 171 [some (aR 57), some (aI z1), some (aI z2), none] [] H1 Q := by
    intro z1 z2 K1 H1 k4 hR1 hM1 n25 n91 n26
    have hO : opF n B se F r cs p = _ := (if_neg k4).trans ((if_neg n25).trans ((if_neg n91).trans (if_neg n26)))
    refine b_aload_n rfl rfl ?_
    refine b_bipush rfl (by decide) ?_
    refine b_callV1i (ν := MX12_isSign) rfl ml12_250 cvX12_isSign (d' := 0) (by omega) rfl (by decide) rfl (Nat.le_of_ble_eq_true rfl) ?_
    refine mk_isSign k4 hM1 (fun hs => ?_) (fun hs => ?_)
    · refine ⟨_, rfl, ?_⟩
      refine b_if_eq (tgt := 187) rfl rfl (fun z => absurd z (by decide)) (fun _ => ?_)
      refine b_aload_n rfl rfl ?_
      refine b_iconst rfl (by decide) ?_
      refine b_callV1v (ν := MX12_opens) rfl ml12_345 cvX12_opens (d' := 2) (by omega) rfl (by decide) rfl (Nat.le_of_ble_eq_true rfl) ?_
      refine mc_opens hT hR1 (by rw [List.length_cons]; omega) (by rw [tot1]; omega) (by omega) (by omega) hM1 (sg_c hs) (fun e7 H3 hb => ?_) (fun e7 K3 H3 hR3 hM3 => ?_)
      · refine ⟨rfl, ?_⟩
        refine b_iconst rfl (by decide) ?_
        refine b_zret rfl rfl (by first | decide | omega) ?_
        first
        | exact kI (5, (tq n B p : Int)) _ K1 _ (hO.trans ((if_pos hs).trans (if_pos (by omega)))) hR1.1 hb (by omega)
        | exact kR 0 _ _ _ K3 _ (hO.trans ((if_pos hs).trans (if_neg (by omega)))) (RC_eq hR3 rfl rfl (by rw [opn1]; omega)) (pfk 2 (Or.inl rfl)) hM3
      · refine ⟨rfl, ?_⟩
        refine b_iconst rfl (by decide) ?_
        refine b_zret rfl rfl (by first | decide | omega) ?_
        first
        | exact kI (5, (tq n B p : Int)) _ K1 _ (hO.trans ((if_pos hs).trans (if_pos (by omega)))) hR1.1 hb (by omega)
        | exact kR 0 _ _ _ K3 _ (hO.trans ((if_pos hs).trans (if_neg (by omega)))) (RC_eq hR3 rfl rfl (by rw [opn1]; omega)) (pfk 2 (Or.inl rfl)) hM3
    · refine ⟨_, rfl, ?_⟩
      refine b_if_eq (tgt := 187) rfl rfl (fun _ => ?_) (fun z => absurd z (by decide))
      exact g187 _ _ _ _ k4 hR1 hM1 n25 n91 n26 hs
  have g117 : ∀ (z1 z2 : Int) (K1 H1 : HI), z1 = (r.length : Int) → (z2 = 1 ∧ fst_ F ∨ z2 = 0 ∧ ¬ fst_ F) → tk n B p ≠ 4 → RC K0 m k0 ((mkF F.ki F.ph 0 F.pa F.os) :: r) cs (opN (F :: r) : Int) K1 → Mok K1 n B p H1 → ¬ (fst_ F ∧ tw n B p = 25) → Bj MX12_operand 3 117 [some (aR 57), some (aI z1), some (aI z2), none] [] H1 Q := by
    intro z1 z2 K1 H1 hz1 hz2 k4 hR1 hM1 n25
    rcases hz2 with ⟨hz2, hfs⟩ | ⟨hz2, hfs⟩
    · have hO : opF n B se F r cs p = _ := (if_neg k4).trans (if_neg n25)
      have g158 : ∀ K2 H2, tw n B p = 26 → ¬ sg n B p 91 → RC K0 m k0 ((mkF F.ki F.ph 0 F.pa F.os) :: r) (cs ++ [1]) (opN (F :: r) : Int) K2 → Mok K2 n B p H2 → Bj MX12_operand 3 158 [some (aR 57), some (aI z1), some (aI z2), none] [] H2 Q := by
        intro K2 H2 hw hns hR2 hM2
        obtain ⟨si, sa, en, va, wo, lx, e, h⟩ := hM2
        subst e
        have hR3 := RC_ph (x := 2) hR2 (by decide)
        have ez : z1.toNat = r.length := by omega
        refine b_aload_n rfl rfl ?_
        refine b_getR (r := 79) rfl fl12_124 rfl (by decide) rfl rfl ?_
        refine b_iload_n rfl rfl ?_
        refine b_iconst rfl (by decide) ?_
        refine b_iast rfl rfl (by omega) (by omega) ?_
        try simp only [tn6, tn4, tn2, tn144, tn24, tn_cast, Int.reduceToNat]
        rw [MX_ux (by decide)]
        try rw [ez]
        refine b_aload_n rfl rfl ?_
        refine b_callV0v (ν := MX12_ahead) rfl ml12_253 cvX12_ahead (d' := 1) (by omega) rfl (by decide) rfl (Nat.le_of_ble_eq_true rfl) ?_
        refine mk_ahead (p := p) (MTx_F hT hR3.1) ⟨si, sa, en, va, wo, lx, rfl, h⟩ (Or.inl (tw_1 hw (by decide))) (fun H3 hM3 => ?_)
        refine ⟨rfl, ?_⟩
        refine b_iconst rfl (by decide) ?_
        refine b_zret rfl rfl (by first | decide | omega) ?_
        exact kR 1 _ _ _ _ _ (hO.trans ((if_neg (fun w => hns w.2)).trans (if_pos ⟨hfs, hw⟩))) hR3 (PF_c hPt.1 hPt.2) hM3
      refine b_iload_n rfl rfl ?_
      refine b_if_eq (tgt := 137) rfl rfl (fun c118 => ?_) (fun c118 => ?_)
      · omega
      · refine b_aload_n rfl rfl ?_
        refine b_bipush rfl (by decide) ?_
        refine b_callV1i (ν := MX12_isSign) rfl ml12_250 cvX12_isSign (d' := 0) (by omega) rfl (by decide) rfl (Nat.le_of_ble_eq_true rfl) ?_
        refine mk_isSign k4 hM1 (fun hs => ?_) (fun hs => ?_)
        · refine ⟨_, rfl, ?_⟩
          refine b_if_eq (tgt := 137) rfl rfl (fun z => absurd z (by decide)) (fun _ => ?_)
          refine b_aload_n rfl rfl ?_
          refine b_iconst rfl (by decide) ?_
          refine b_callV1v (ν := MX12_opens) rfl ml12_345 cvX12_opens (d' := 2) (by omega) rfl (by decide) rfl (Nat.le_of_ble_eq_true rfl) ?_
          refine mc_opens hT hR1 (by rw [List.length_cons]; omega) (by rw [tot1]; omega) (by omega) (by omega) hM1 (sg_c hs) (fun e7 H3 hb => ?_) (fun e7 K3 H3 hR3 hM3 => ?_)
          · refine ⟨rfl, ?_⟩
            refine b_iconst rfl (by decide) ?_
            refine b_zret rfl rfl (by first | decide | omega) ?_
            first
            | exact kI (5, (tq n B p : Int)) _ K1 _ (hO.trans ((if_pos ⟨hfs, hs⟩).trans (if_pos (by omega)))) hR1.1 hb (by omega)
            | exact kR 0 _ _ _ K3 _ (hO.trans ((if_pos ⟨hfs, hs⟩).trans (if_neg (by omega)))) (RC_eq hR3 rfl rfl (by rw [opn1]; omega)) (pfk 5 (Or.inr rfl)) hM3
          · refine ⟨rfl, ?_⟩
            refine b_iconst rfl (by decide) ?_
            refine b_zret rfl rfl (by first | decide | omega) ?_
            first
            | exact kI (5, (tq n B p : Int)) _ K1 _ (hO.trans ((if_pos ⟨hfs, hs⟩).trans (if_pos (by omega)))) hR1.1 hb (by omega)
            | exact kR 0 _ _ _ K3 _ (hO.trans ((if_pos ⟨hfs, hs⟩).trans (if_neg (by omega)))) (RC_eq hR3 rfl rfl (by rw [opn1]; omega)) (pfk 5 (Or.inr rfl)) hM3
        · refine ⟨_, rfl, ?_⟩
          refine b_if_eq (tgt := 137) rfl rfl (fun _ => ?_) (fun z => absurd z (by decide))
          refine b_iload_n rfl rfl ?_
          refine b_if_eq (tgt := 171) rfl rfl (fun c138 => ?_) (fun c138 => ?_)
          · omega
          · refine b_aload_n rfl rfl ?_
            refine b_ldc2 (z := 6384748) rfl kl12_308 (by decide) ?_
            refine b_callV1i (ν := MX12_isWord) rfl ml12_338 cvX12_isWord (d' := 0) (by omega) rfl (by decide) rfl (Nat.le_of_ble_eq_true rfl) ?_
            refine mk_isWord (k := 26) (by decide) (by decide) k4 hM1 (fun hw => ?_) (fun hw => ?_)
            · refine ⟨_, rfl, ?_⟩
              refine b_if_eq (tgt := 171) rfl rfl (fun z => absurd z (by decide)) (fun _ => ?_)
              refine b_aload_n rfl rfl ?_
              refine b_bipush rfl (by decide) ?_
              refine b_iconst rfl (by decide) ?_
              refine b_callV2v (ν := MX12_add) rfl ml12_329 cvX12_add (d' := 0) (by omega) rfl (by decide) rfl (Nat.le_of_ble_eq_true rfl) ?_
              refine mc_add' (v := 1) hR1 hm (by have := te_gp (tw_c (by decide) hw); omega) (Or.inl ⟨by decide, Or.inr ⟨rfl, rfl⟩⟩) hM1 (fun K2 H2 hR2 hM2 => ?_)
              refine ⟨rfl, ?_⟩
              exact g158 K2 H2 hw hs hR2 hM2
            · refine ⟨_, rfl, ?_⟩
              refine b_if_eq (tgt := 171) rfl rfl (fun _ => ?_) (fun z => absurd z (by decide))
              exact g171 _ _ _ _ k4 hR1 hM1 n25 (fun w => hs w.2) (fun w => hw w.2)
    · skip
      refine b_iload_n rfl rfl ?_
      refine b_if_eq (tgt := 137) rfl rfl (fun c118 => ?_) (fun c118 => ?_)
      · refine b_iload_n rfl rfl ?_
        refine b_if_eq (tgt := 171) rfl rfl (fun c138 => ?_) (fun c138 => ?_)
        · exact g171 _ _ _ _ k4 hR1 hM1 n25 (fun w => hfs w.1) (fun w => hfs w.1)
        · omega
      · omega
  have g110 : ∀ (z1 z2 : Int), z1 = (r.length : Int) → (z2 = 1 ∧ fst_ F ∨ z2 = 0 ∧ ¬ fst_ F) → tk n B p ≠ 4 → ¬ (fst_ F ∧ tw n B p = 25) → Bj MX12_operand 3 110 [some (aR 57), some (aI z1), some (aI z2), none] [] H Q := by
    intro z1 z2 hz1 hz2 k4 n25
    obtain ⟨si, sa, en, va, wo, lx, e, h⟩ := hM
    subst e
    have hR1 := RC_bg (x := 0) hR0 (Or.inl rfl)
    have ez : z1.toNat = r.length := by omega
    refine b_aload_n rfl rfl ?_
    refine b_getR (r := 80) rfl fl12_127 rfl (by decide) rfl rfl ?_
    refine b_iload_n rfl rfl ?_
    refine b_iconst rfl (by decide) ?_
    refine b_zast rfl rfl (by omega) (by omega) (by first | decide | omega) ?_
    try simp only [tn6, tn4, tn2, tn144, tn24, tn_cast, Int.reduceToNat]
    rw [MX_ux (by decide)]
    try rw [ez]
    exact g117 _ _ _ _ hz1 hz2 k4 hR1 ⟨si, sa, en, va, wo, lx, rfl, h⟩ n25
  have g98 : ∀ (z1 z2 : Int) (K1 H1 : HI), fst_ F → tw n B p = 25 → opN (F :: r) ≠ 7 → RC K0 m k0 (F :: r) cs ((opN (F :: r) : Int) + 1) K1 → Mok K1 n B p H1 → Bj MX12_operand 3 98 [some (aR 57), some (aI z1), some (aI z2), none] [] H1 Q := by
    intro z1 z2 K1 H1 hfs hw h7 hR1 hM1
    have hk1 : tk n B p = 1 := tw_1 hw (by decide)
    refine b_aload_n rfl rfl ?_
    refine b_bipush rfl (by decide) ?_
    refine b_callV1v (ν := MX12_holdsBack) rfl ml12_342 cvX12_holdsBack (d' := 0) (by omega) rfl (by decide) rfl (Nat.le_of_ble_eq_true rfl) ?_
    refine mc_holdS (v := -9) rfl hR1 (by omega) (by decide) hM1 (fun K2 H2 hR2 hM2 => ?_)
    refine ⟨rfl, ?_⟩
    refine b_aload_n rfl rfl ?_
    refine b_callV0v (ν := MX12_ahead) rfl ml12_253 cvX12_ahead (d' := 1) (by omega) rfl (by decide) rfl (Nat.le_of_ble_eq_true rfl) ?_
    refine mk_ahead (MTx_F hT hR2.1) hM2 (Or.inl hk1) (fun H3 hM3 => ?_)
    refine ⟨rfl, ?_⟩
    refine b_iconst rfl (by decide) ?_
    refine b_zret rfl rfl (by first | decide | omega) ?_
    refine kR 0 _ _ _ K2 _ ((if_neg (by omega)).trans ((if_pos ⟨hfs, hw⟩).trans (if_neg h7))) (RC_eq hR2 rfl rfl ?_) (PF_c hPt.1 hPt.2) hM3
    rw [opN_c]
    show _ = ((ntO (-9 :: F.os) + nts r + r.length : Nat) : Int)
    rw [ntO_9]
    omega
  have h42 : H 57 42 = (opN (F :: r) : Int) := by rw [Mok_g hM (by decide)]; exact h5
  have g88 : ∀ (z1 z2 : Int), fst_ F → tw n B p = 25 → opN (F :: r) ≠ 7 → Bj MX12_operand 3 88 [some (aR 57), some (aI z1), some (aI z2), none] [] H Q := by
    intro z1 z2 hfs hw h7
    have hM' := hM
    obtain ⟨si, sa, en, va, wo, lx, e, h⟩ := hM
    subst e
    have hR1 := RC_o (x := (opN (F :: r) : Int) + 1) hR0
    refine b_aload_n rfl rfl ?_
    refine b_dup rfl rfl ?_
    refine b_getI rfl fl12_140 rfl (by decide) rfl ?_
    rw [MXo (by decide)]
    rw [h5]
    refine b_iconst rfl (by decide) ?_
    refine b_iaddN rfl (by omega) (by omega) ?_
    refine b_putI rfl fl12_140 rfl (by decide) rfl ?_
    rw [MX_uo (by decide)]
    exact g98 _ _ _ _ hfs hw h7 hR1 ⟨si, sa, en, va, wo, lx, rfl, h⟩
  have b79 : ∀ (z1 z2 : Int) (H1 : HI), opF n B se F r cs p = .inl (5, (tq n B p : Int)) → Mbad K 5 (tq n B p : Int) H1 → Bj MX12_operand 3 79 [some (aR 57), some (aI z1), some (aI z2), none] [] H1 Q := by
    intro z1 z2 H1 hO hb
    have hf := Mbad_f hb
    refine b_aload_n rfl rfl ?_
    refine b_getI rfl fl12_36 rfl (by decide) rfl ?_
    refine b_if_le (tgt := 88) rfl rfl (fun c83 => ?_) (fun c83 => ?_)
    · omega
    · refine b_iconst rfl (by decide) ?_
      refine b_zret rfl rfl (by first | decide | omega) ?_
      exact kI (5, (tq n B p : Int)) _ K _ hO h1 hb (by omega)
  have g79 : ∀ (z1 z2 : Int), fst_ F → tw n B p = 25 → opN (F :: r) ≠ 7 → Bj MX12_operand 3 79 [some (aR 57), some (aI z1), some (aI z2), none] [] H Q := by
    intro z1 z2 hfs hw h7
    refine b_aload_n rfl rfl ?_
    refine b_getI rfl fl12_36 rfl (by decide) rfl ?_
    rw [hf.1]
    refine b_if_le (tgt := 88) rfl rfl (fun c83 => ?_) (fun c83 => ?_)
    · exact g88 _ _ hfs hw h7
    · omega
  have g47 : ∀ (z1 z2 : Int), z1 = (r.length : Int) → (z2 = 1 ∧ fst_ F ∨ z2 = 0 ∧ ¬ fst_ F) → tk n B p ≠ 4 → Bj MX12_operand 3 47 [some (aR 57), some (aI z1), some (aI z2), none] [] H Q := by
    intro z1 z2 hz1 hz2 k4
    have hz2' := hz2
    rcases hz2 with ⟨hz2, hfs⟩ | ⟨hz2, hfs⟩
    · skip
      refine b_iload_n rfl rfl ?_
      refine b_if_eq (tgt := 110) rfl rfl (fun c48 => ?_) (fun c48 => ?_)
      · omega
      · refine b_aload_n rfl rfl ?_
        refine b_ldc2 (z := 7237492) rfl kl12_306 (by decide) ?_
        refine b_callV1i (ν := MX12_isWord) rfl ml12_338 cvX12_isWord (d' := 0) (by omega) rfl (by decide) rfl (Nat.le_of_ble_eq_true rfl) ?_
        refine mk_isWord (k := 25) (by decide) (by decide) k4 hM (fun hw => ?_) (fun hw => ?_)
        · refine ⟨_, rfl, ?_⟩
          refine b_if_eq (tgt := 110) rfl rfl (fun z => absurd z (by decide)) (fun _ => ?_)
          refine b_aload_n rfl rfl ?_
          refine b_getI rfl fl12_140 rfl (by decide) rfl ?_
          rw [h42]
          refine b_bipush rfl (by decide) ?_
          refine b_icmp_ne (tgt := 79) rfl rfl (fun c67 => ?_) (fun c67 => ?_)
          · first
            | exact b79 _ _ _ ((if_neg k4).trans ((if_pos ⟨hfs, hw⟩).trans (if_pos (by omega)))) hb
            | exact g79 _ _ hfs hw (by omega)
          · refine b_aload_n rfl rfl ?_
            refine b_iconst rfl (by decide) ?_
            refine b_aload_n rfl rfl ?_
            refine b_getI rfl fl12_23 rfl (by decide) rfl ?_
            rw [hf.2]
            refine b_callV2v (ν := MX12_blame) rfl ml12_236 cvX12_blame (d' := 0) (by omega) rfl (by decide) rfl (Nat.le_of_ble_eq_true rfl) ?_
            refine mk_blame (by decide) hM (fun H1 hb => ?_)
            refine ⟨rfl, ?_⟩
            first
            | exact b79 _ _ _ ((if_neg k4).trans ((if_pos ⟨hfs, hw⟩).trans (if_pos (by omega)))) hb
            | exact g79 _ _ hfs hw (by omega)
        · refine ⟨_, rfl, ?_⟩
          refine b_if_eq (tgt := 110) rfl rfl (fun _ => ?_) (fun z => absurd z (by decide))
          exact g110 _ _ hz1 hz2' k4 (fun w => hw w.2)
    · skip
      refine b_iload_n rfl rfl ?_
      refine b_if_eq (tgt := 110) rfl rfl (fun c48 => ?_) (fun c48 => ?_)
      · exact g110 _ _ hz1 hz2' k4 (fun w => hfs w.1)
      · omega
  have h41 : H 57 41 = ((r.length + 1 : Nat) : Int) := by rw [Mok_g hM (by decide)]; exact h3
  have h78 : H 78 r.length = F.ki := by rw [Mok_q hM (by decide)]; exact a2
  have h80 : H 80 r.length = F.bg := by rw [Mok_q hM (by decide)]; exact a4
  have hbg := a8.1
  have g4 : tk n B p ≠ 4 → Bj MX12_operand 3 4 [some (aR 57), none, none, none] [] H Q := by
    intro k4
    refine b_aload_n rfl rfl ?_
    refine b_getI rfl fl12_36 rfl (by decide) rfl ?_
    rw [hf.1]
    refine b_if_le (tgt := 13) rfl rfl (fun c8 => ?_) (fun c8 => ?_)
    · refine b_aload_n rfl rfl ?_
      refine b_getI rfl fl12_137 rfl (by decide) rfl ?_
      rw [h41]
      refine b_iconst rfl (by decide) ?_
      refine b_isubN rfl (by omega) (by omega) ?_
      refine b_istoreX_n (F := fun z19 => [some (aR 57), some (aI z19), none, none]) rfl (by decide) (fun _ => rfl) (fun z19 ez19 => ?_)
      have ez : z19.toNat = r.length := by omega
      refine b_aload_n rfl rfl ?_
      refine b_getR (r := 78) rfl fl12_121 rfl (by decide) rfl rfl ?_
      refine b_iload_n rfl rfl ?_
      refine b_iald rfl rfl (by omega) (by omega) ?_
      try simp only [tn6, tn4, tn2, tn144, tn24, tn_cast, Int.reduceToNat]
      rw [ez, h78]
      refine b_callS1i (ν := MX12_isTest) rfl ml12_335 csX12_isTest (d' := 0) (by omega) (Nat.le_of_ble_eq_true rfl) ?_
      refine spr_isTest (fun ht => ?_) (fun ht => ?_)
      · refine ⟨_, rfl, ?_⟩
        refine b_if_eq (tgt := 45) rfl rfl (fun z => absurd z (by decide)) (fun _ => ?_)
        refine b_aload_n rfl rfl ?_
        refine b_getR (r := 80) rfl fl12_127 rfl (by decide) rfl rfl ?_
        refine b_iload_n rfl rfl ?_
        refine b_zald rfl rfl (by omega) (by omega) ?_
        try simp only [tn6, tn4, tn2, tn144, tn24, tn_cast, Int.reduceToNat]
        rw [ez, h80]
        refine b_if_eq (tgt := 45) rfl rfl (fun c38 => ?_) (fun c38 => ?_)
        · refine b_iconst rfl (by decide) ?_
          refine b_istoreX_n (F := fun z46 => [some (aR 57), some (aI z19), some (aI z46), none]) rfl (by decide) (fun _ => rfl) (fun z46 ez46 => ?_)
          first
          | (have e1 : z46 = 1 ∧ F.bg = 1 := by omega
             exact g47 _ _ (by omega) (Or.inl ⟨e1.1, ht, e1.2⟩) k4)
          | (have e1 : z46 = 0 ∧ F.bg ≠ 1 := by omega
             exact g47 _ _ (by omega) (Or.inr ⟨e1.1, fun w => e1.2 w.2⟩) k4)
          | (have e1 : z46 = 0 := by omega
             exact g47 _ _ (by omega) (Or.inr ⟨e1, fun w => ht w.1⟩) k4)
        · refine b_iconst rfl (by decide) ?_
          refine b_goto (tgt := 46) rfl rfl ?_
          refine b_istoreX_n (F := fun z46 => [some (aR 57), some (aI z19), some (aI z46), none]) rfl (by decide) (fun _ => rfl) (fun z46 ez46 => ?_)
          first
          | (have e1 : z46 = 1 ∧ F.bg = 1 := by omega
             exact g47 _ _ (by omega) (Or.inl ⟨e1.1, ht, e1.2⟩) k4)
          | (have e1 : z46 = 0 ∧ F.bg ≠ 1 := by omega
             exact g47 _ _ (by omega) (Or.inr ⟨e1.1, fun w => e1.2 w.2⟩) k4)
          | (have e1 : z46 = 0 := by omega
             exact g47 _ _ (by omega) (Or.inr ⟨e1, fun w => ht w.1⟩) k4)
      · refine ⟨_, rfl, ?_⟩
        refine b_if_eq (tgt := 45) rfl rfl (fun _ => ?_) (fun z => absurd z (by decide))
        refine b_iconst rfl (by decide) ?_
        refine b_istoreX_n (F := fun z46 => [some (aR 57), some (aI z19), some (aI z46), none]) rfl (by decide) (fun _ => rfl) (fun z46 ez46 => ?_)
        first
        | (have e1 : z46 = 1 ∧ F.bg = 1 := by omega
           exact g47 _ _ (by omega) (Or.inl ⟨e1.1, ht, e1.2⟩) k4)
        | (have e1 : z46 = 0 ∧ F.bg ≠ 1 := by omega
           exact g47 _ _ (by omega) (Or.inr ⟨e1.1, fun w => e1.2 w.2⟩) k4)
        | (have e1 : z46 = 0 := by omega
           exact g47 _ _ (by omega) (Or.inr ⟨e1, fun w => ht w.1⟩) k4)
    · omega
  refine b_aload_n rfl rfl ?_
  refine b_callV0v (ν := MX12_lex) rfl ml12_247 cvX12_lex (d' := 1) (by omega) rfl (by decide) rfl (Nat.le_of_ble_eq_true rfl) ?_
  refine mk_lex hM (fun k4 => ?_) (fun k4 H1 hb => ?_)
  · refine ⟨rfl, ?_⟩
    first
    | exact b4 _ k4 hb
    | exact g4 k4
  · refine ⟨rfl, ?_⟩
    first
    | exact b4 _ k4 hb
    | exact g4 k4
end MOQ
