/-! ===== the class: Lexer.take and what rests on it ===== -/
section TKI
variable {n : Nat} {B : Nat → Int} {p : Nat}
theorem tk_0 (h : n ≤ tq n B p) : tk n B p = 0 := by unfold tk; rw [if_pos h]
theorem tk_L4 (h : tq n B p < n) (h2 : isLet (B (tq n B p))) (h3 : pvD B (tq n B p)) : tk n B p = 4 ∧ tsp n B p = tq n B p := by
  have e : tk n B p = 4 := by unfold tk; rw [if_neg (by omega), if_pos h2, if_pos h3]
  exact ⟨e, by unfold tsp; rw [if_pos e, if_pos h2, if_pos h3]⟩
theorem tk_L7 (h : tq n B p < n) (h2 : isLet (B (tq n B p))) (h3 : ¬ pvD B (tq n B p)) (h4 : runF isLet n B 7 (tq n B p) = 7) : tk n B p = 4 ∧ tsp n B p = tq n B p + 6 := by
  have e : tk n B p = 4 := by unfold tk; rw [if_neg (by omega), if_pos h2, if_neg h3, if_pos h4]
  exact ⟨e, by unfold tsp; rw [if_pos e, if_pos h2, if_neg h3]⟩
theorem tk_L1 (h : tq n B p < n) (h2 : isLet (B (tq n B p))) (h3 : ¬ pvD B (tq n B p)) (h4 : runF isLet n B 7 (tq n B p) < 7) : tk n B p = 1 := by
  unfold tk; rw [if_neg (by omega), if_pos h2, if_neg h3, if_neg (by omega)]
theorem tk_D4 (h : tq n B p < n) (h1 : ¬ isLet (B (tq n B p))) (h2 : isDig (B (tq n B p))) (h3 : pvL B (tq n B p)) : tk n B p = 4 ∧ tsp n B p = tq n B p := by
  have e : tk n B p = 4 := by unfold tk; rw [if_neg (by omega), if_neg h1, if_pos h2, if_pos h3]
  exact ⟨e, by unfold tsp; rw [if_pos e, if_neg h1, if_pos h3]⟩
theorem tk_D5 (h : tq n B p < n) (h1 : ¬ isLet (B (tq n B p))) (h2 : isDig (B (tq n B p))) (h3 : ¬ pvL B (tq n B p)) (h4 : runF isDig n B 5 (tq n B p) = 5) : tk n B p = 4 ∧ tsp n B p = tq n B p + 4 := by
  have e : tk n B p = 4 := by unfold tk; rw [if_neg (by omega), if_neg h1, if_pos h2, if_neg h3, if_pos h4]
  exact ⟨e, by unfold tsp; rw [if_pos e, if_neg h1, if_neg h3]⟩
theorem tk_D2 (h : tq n B p < n) (h1 : ¬ isLet (B (tq n B p))) (h2 : isDig (B (tq n B p))) (h3 : ¬ pvL B (tq n B p)) (h4 : runF isDig n B 5 (tq n B p) < 5) : tk n B p = 2 := by
  unfold tk; rw [if_neg (by omega), if_neg h1, if_pos h2, if_neg h3, if_neg (by omega)]
theorem tk_S (h : tq n B p < n) (h1 : ¬ isLet (B (tq n B p))) (h2 : ¬ isDig (B (tq n B p))) : tk n B p = 3 := by
  unfold tk; rw [if_neg (by omega), if_neg h1, if_neg h2]
theorem tsp_q (h : tk n B p ≠ 4) : tsp n B p = tq n B p := by unfold tsp; rw [if_neg h]
theorem tw_q (h : tk n B p ≠ 1) : tw n B p = -1 := by unfold tw; rw [if_neg h]
end TKI
theorem sp_X1_readWord' {I : HI} {Q : Option AV → HI → Prop} {n q : Nat} {ki st ts tu fa pl : Int} (hX : TX I n) (hk : ki = 1 ∨ ki = 4) (kq : ∀ po' ki' sp' va' wo' : Int, ((ki = 4 ∧ ki' = 4 ∧ sp' = (q : Int) ∧ wo' = -1) ∨ (ki = 1 ∧ runF isLet n (I 2) 7 q = 7 ∧ ki' = 4 ∧ sp' = (q : Int) + 6 ∧ wo' = -1) ∨ (ki = 1 ∧ runF isLet n (I 2) 7 q < 7 ∧ ki' = 1 ∧ sp' = (q : Int) ∧ po' = ((q + runF isLet n (I 2) 7 q : Nat) : Int) ∧ va' = (e5 (lts (I 2) q (runF isLet n (I 2) 7 q)) 6 : Int) ∧ wo' = fP (fun k => own5 k = (e5 (lts (I 2) q (runF isLet n (I 2) 7 q)) 6 : Int)) 29 0)) → Q none (LX I po' ki' st sp' va' wo' ts tu fa pl)) : Rj MX1_readWord 0 [aR 24] (LX I (q : Int) ki st (q : Int) 0 (-1) ts tu fa pl) Q :=
  sp_X1_readWord hX hk (fun z => kq _ _ _ _ _ (Or.inl ⟨z, rfl, rfl, rfl⟩)) (fun z h po va => kq _ _ _ _ _ (Or.inr (Or.inl ⟨z, h, rfl, rfl, rfl⟩))) (fun z h => kq _ _ _ _ _ (Or.inr (Or.inr ⟨z, h, rfl, rfl, rfl, rfl, rfl⟩)))
theorem sp_X1_readNumber' {I : HI} {Q : Option AV → HI → Prop} {n q : Nat} {ki st ts tu fa pl : Int} (hX : TX I n) (hk : ki = 2 ∨ ki = 4) (kq : ∀ po' ki' sp' va' wo' : Int, ((ki = 4 ∧ ki' = 4 ∧ sp' = (q : Int) ∧ wo' = -1) ∨ (ki = 2 ∧ runF isDig n (I 2) 5 q = 5 ∧ ki' = 4 ∧ sp' = (q : Int) + 4 ∧ wo' = -1) ∨ (ki = 2 ∧ runF isDig n (I 2) 5 q < 5 ∧ ki' = 2 ∧ sp' = (q : Int) ∧ po' = ((q + runF isDig n (I 2) 5 q : Nat) : Int) ∧ va' = nv (I 2) q (runF isDig n (I 2) 5 q) ∧ wo' = -1)) → Q none (LX I po' ki' st sp' va' wo' ts tu fa pl)) : Rj MX1_readNumber 0 [aR 24] (LX I (q : Int) ki st (q : Int) 0 (-1) ts tu fa pl) Q :=
  sp_X1_readNumber hX hk (fun z => kq _ _ _ _ _ (Or.inl ⟨z, rfl, rfl, rfl⟩)) (fun z h po va => kq _ _ _ _ _ (Or.inr (Or.inl ⟨z, h, rfl, rfl, rfl⟩))) (fun z h => kq _ _ _ _ _ (Or.inr (Or.inr ⟨z, h, rfl, rfl, rfl, rfl, rfl⟩)))
theorem sp_X1_take {I : HI} {Q : Option AV → HI → Prop} {n p : Nat} {po ki st sp va wo ts tu fa pl : Int} (hX : TX I n) (hpo : po = (p : Int)) (hp : p ≤ n) (kq : ∀ po' va' : Int, (tk n (I 2) p = 1 ∨ tk n (I 2) p = 2 ∨ tk n (I 2) p = 3 → po' = (te n (I 2) p : Int) ∧ va' = tv n (I 2) p) → Q none (LX I po' (tk n (I 2) p : Int) (tq n (I 2) p : Int) (tsp n (I 2) p : Int) va' (tw n (I 2) p) st va fa pl)) : Rj MX1_take 1 [aR 24] (LX I po ki st sp va wo ts tu fa pl) Q := by
  subst hpo
  have h11 := hX.1
  have hn := hX.2.1
  have hB := hX.2.2.1
  have hqn := tq_le (n := n) (B := I 2) hp
  have hqe := tq_end (n := n) (B := I 2) (p := p)
  have hin := run_in (pr := isBl) (n := n) (B := I 2) n p
  have fin : ∀ (po' ki' sp' va' wo' : Int), ki' = (tk n (I 2) p : Int) → sp' = (tsp n (I 2) p : Int) → wo' = tw n (I 2) p → (tk n (I 2) p = 1 ∨ tk n (I 2) p = 2 ∨ tk n (I 2) p = 3 → po' = (te n (I 2) p : Int) ∧ va' = tv n (I 2) p) → Q none (LX I po' ki' (tq n (I 2) p : Int) sp' va' wo' st va fa pl) := by
    intro po' ki' sp' va' wo' e1 e2 e3 e4
    rw [e1, e2, e3]
    exact kq po' va' e4
  have eqq : tq n (I 2) p = p + runF isBl n (I 2) n p := rfl
  generalize hq : tq n (I 2) p = q at *
  have m174 : ∀ (ki c x : Int), q < n → c = I 2 q → (0 < q → x = I 2 (q - 1)) → (q = 0 → x = -1) → Bj MX1_take 1 174 [some (aR 24), some (aI c), some (aI x)] [] (LX I (q : Int) ki (q : Int) (q : Int) 0 (-1) st va fa pl) Q := by
    intro ki c x hqn hc hx1 hx0
    have hbq := hB q
    have pD : isDig x ↔ pvD (I 2) q := by
      unfold isDig pvD isDig
      by_cases e : 0 < q
      · rw [hx1 e]; exact ⟨fun w => ⟨e, w⟩, fun w => w.2⟩
      · have := hx0 (by omega)
        constructor
        · intro w; omega
        · intro w; exact absurd w.1 e
    have pL : isLet x ↔ pvL (I 2) q := by
      unfold isLet pvL isLet
      by_cases e : 0 < q
      · rw [hx1 e]; exact ⟨fun w => ⟨e, w⟩, fun w => w.2⟩
      · have := hx0 (by omega)
        constructor
        · intro w; omega
        · intro w; exact absurd w.1 e
    subst hc
    have qq : tq n (I 2) p < n := by rw [hq]; exact hqn
    refine b_iload_n rfl rfl ?_
    refine b_iconst rfl (by decide) ?_
    refine b_icmp_ne (tgt := 187) rfl rfl (fun c176 => ?_) (fun c176 => ?_)
    · refine b_iload_n rfl rfl ?_
      refine b_callS1i (ν := MX1_isLetter) rfl ml1_76 csX1_isLetter (d' := 0) (by omega) (Nat.le_of_ble_eq_true rfl) ?_
      refine sp_X1_isLetter (fun hl1 => ?_) (fun hl0 => ?_)
      · refine ⟨_, rfl, ?_⟩
        refine b_if_eq (tgt := 217) rfl rfl (fun z => absurd z (by decide)) (fun _ => ?_)
        refine b_aload_n rfl rfl ?_
        refine b_iload_n rfl rfl ?_
        refine b_callS1i (ν := MX1_isDigit) rfl ml1_80 csX1_isDigit (d' := 0) (by omega) (Nat.le_of_ble_eq_true rfl) ?_
        refine sp_X1_isDigit (fun hd1 => ?_) (fun hd0 => ?_)
        · refine ⟨_, rfl, ?_⟩
          refine b_if_eq (tgt := 206) rfl rfl (fun z => absurd z (by decide)) (fun _ => ?_)
          refine b_iconst rfl (by decide) ?_
          refine b_goto (tgt := 207) rfl rfl ?_
          refine b_putI rfl fl1_73 rfl (by decide) rfl ?_
          rw [LX_u3]
          refine b_aload_n rfl rfl ?_
          refine b_callV0v (ν := MX1_readWord) rfl ml1_83 cvX1_readWord (d' := 0) (by omega) rfl (by decide) rfl (Nat.le_of_ble_eq_true rfl) ?_
          refine sp_X1_readWord' (q := q) hX (by omega) (fun po' ki' sp' va' wo' hw => ?_)
          refine ⟨rfl, ?_⟩
          refine b_goto (tgt := 267) rfl rfl ?_
          refine b_vret rfl rfl ?_
          first
          | (have hd1' : isDig x := hd1
             rcases hw with ⟨_, w1, w2, w3⟩ | ⟨w0, _⟩ | ⟨w0, _⟩
             · obtain ⟨t1, t2⟩ := tk_L4 qq (by rw [hq]; exact hl1) (by rw [hq]; exact pD.1 hd1')
               exact fin _ _ _ _ _ (by omega) (by omega) (by rw [w3, tw_q (by omega)]) (fun z => absurd z (by omega))
             · omega
             · omega)
          | (have hl1' : isLet (I 2 q) := hl1
             have hd0' : ¬ isDig x := hd0
             rcases hw with ⟨w0, _⟩ | ⟨_, w1, w2, w3, w4⟩ | ⟨_, w1, w2, w3, w4, w5, w6⟩
             · omega
             · obtain ⟨t1, t2⟩ := tk_L7 qq (by rw [hq]; exact hl1) (by rw [hq]; exact fun z => hd0 (pD.2 z)) (by rw [hq]; exact w1)
               exact fin _ _ _ _ _ (by omega) (by omega) (by rw [w4, tw_q (by omega)]) (fun z => absurd z (by omega))
             · have t1 := tk_L1 qq (by rw [hq]; exact hl1) (by rw [hq]; exact fun z => hd0 (pD.2 z)) (by rw [hq]; exact w1)
               have t2 := tsp_q (n := n) (B := I 2) (p := p) (by omega)
               have e5e : lts (I 2) q (runF isLet n (I 2) 7 q) = tl n (I 2) p := by unfold tl tln lts; rw [hq]
               have e6 : (e5 (tl n (I 2) p) 6 : Int) = tv n (I 2) p := by unfold tv; rw [if_pos t1]
               rw [e5e, e6] at w5 w6
               refine fin _ _ _ _ _ (by omega) (by omega) (by rw [w6]; unfold tw; rw [if_pos t1]) (fun _ => ⟨?_, w5⟩)
               rw [w4, te_1 t1]
               unfold tln
               rw [hq])
          | (have he1' : isLet x := he1
             rcases hw with ⟨_, w1, w2, w3⟩ | ⟨w0, _⟩ | ⟨w0, _⟩
             · obtain ⟨t1, t2⟩ := tk_D4 qq (by rw [hq]; exact hl0) (by rw [hq]; exact hg1) (by rw [hq]; exact pL.1 he1')
               exact fin _ _ _ _ _ (by omega) (by omega) (by rw [w3, tw_q (by omega)]) (fun z => absurd z (by omega))
             · omega
             · omega)
          | (have hg1' : isDig (I 2 q) := hg1
             have he0' : ¬ isLet x := he0
             rcases hw with ⟨w0, _⟩ | ⟨_, w1, w2, w3, w4⟩ | ⟨_, w1, w2, w3, w4, w5, w6⟩
             · omega
             · obtain ⟨t1, t2⟩ := tk_D5 qq (by rw [hq]; exact hl0) (by rw [hq]; exact hg1) (by rw [hq]; exact fun z => he0 (pL.2 z)) (by rw [hq]; exact w1)
               exact fin _ _ _ _ _ (by omega) (by omega) (by rw [w4, tw_q (by omega)]) (fun z => absurd z (by omega))
             · have t1 := tk_D2 qq (by rw [hq]; exact hl0) (by rw [hq]; exact hg1) (by rw [hq]; exact fun z => he0 (pL.2 z)) (by rw [hq]; exact w1)
               have t2 := tsp_q (n := n) (B := I 2) (p := p) (by omega)
               refine fin _ _ _ _ _ (by omega) (by omega) (by rw [w6, tw_q (by omega)]) (fun _ => ⟨?_, ?_⟩)
               · rw [w4, te_2 t1, hq]
               · rw [w5]; unfold tv; rw [if_neg (by omega), if_pos t1, hq])
          | (have hl0' : ¬ isLet (I 2 q) := hl0
             have hg0' : ¬ isDig (I 2 q) := hg0
             have t1 := tk_S qq (by rw [hq]; exact hl0) (by rw [hq]; exact hg0)
             have t2 := tsp_q (n := n) (B := I 2) (p := p) (by omega)
             refine fin _ _ _ _ _ (by omega) (by omega) (by rw [tw_q (by omega)]) (fun _ => ⟨?_, ?_⟩)
             · rw [te_3 t1, hq]; omega
             · unfold tv; rw [if_neg (by omega), if_neg (by omega), if_pos t1, hq])
        · refine ⟨_, rfl, ?_⟩
          refine b_if_eq (tgt := 206) rfl rfl (fun _ => ?_) (fun z => absurd z (by decide))
          refine b_iconst rfl (by decide) ?_
          refine b_putI rfl fl1_73 rfl (by decide) rfl ?_
          rw [LX_u3]
          refine b_aload_n rfl rfl ?_
          refine b_callV0v (ν := MX1_readWord) rfl ml1_83 cvX1_readWord (d' := 0) (by omega) rfl (by decide) rfl (Nat.le_of_ble_eq_true rfl) ?_
          refine sp_X1_readWord' (q := q) hX (by omega) (fun po' ki' sp' va' wo' hw => ?_)
          refine ⟨rfl, ?_⟩
          refine b_goto (tgt := 267) rfl rfl ?_
          refine b_vret rfl rfl ?_
          first
          | (have hd1' : isDig x := hd1
             rcases hw with ⟨_, w1, w2, w3⟩ | ⟨w0, _⟩ | ⟨w0, _⟩
             · obtain ⟨t1, t2⟩ := tk_L4 qq (by rw [hq]; exact hl1) (by rw [hq]; exact pD.1 hd1')
               exact fin _ _ _ _ _ (by omega) (by omega) (by rw [w3, tw_q (by omega)]) (fun z => absurd z (by omega))
             · omega
             · omega)
          | (have hl1' : isLet (I 2 q) := hl1
             have hd0' : ¬ isDig x := hd0
             rcases hw with ⟨w0, _⟩ | ⟨_, w1, w2, w3, w4⟩ | ⟨_, w1, w2, w3, w4, w5, w6⟩
             · omega
             · obtain ⟨t1, t2⟩ := tk_L7 qq (by rw [hq]; exact hl1) (by rw [hq]; exact fun z => hd0 (pD.2 z)) (by rw [hq]; exact w1)
               exact fin _ _ _ _ _ (by omega) (by omega) (by rw [w4, tw_q (by omega)]) (fun z => absurd z (by omega))
             · have t1 := tk_L1 qq (by rw [hq]; exact hl1) (by rw [hq]; exact fun z => hd0 (pD.2 z)) (by rw [hq]; exact w1)
               have t2 := tsp_q (n := n) (B := I 2) (p := p) (by omega)
               have e5e : lts (I 2) q (runF isLet n (I 2) 7 q) = tl n (I 2) p := by unfold tl tln lts; rw [hq]
               have e6 : (e5 (tl n (I 2) p) 6 : Int) = tv n (I 2) p := by unfold tv; rw [if_pos t1]
               rw [e5e, e6] at w5 w6
               refine fin _ _ _ _ _ (by omega) (by omega) (by rw [w6]; unfold tw; rw [if_pos t1]) (fun _ => ⟨?_, w5⟩)
               rw [w4, te_1 t1]
               unfold tln
               rw [hq])
          | (have he1' : isLet x := he1
             rcases hw with ⟨_, w1, w2, w3⟩ | ⟨w0, _⟩ | ⟨w0, _⟩
             · obtain ⟨t1, t2⟩ := tk_D4 qq (by rw [hq]; exact hl0) (by rw [hq]; exact hg1) (by rw [hq]; exact pL.1 he1')
               exact fin _ _ _ _ _ (by omega) (by omega) (by rw [w3, tw_q (by omega)]) (fun z => absurd z (by omega))
             · omega
             · omega)
          | (have hg1' : isDig (I 2 q) := hg1
             have he0' : ¬ isLet x := he0
             rcases hw with ⟨w0, _⟩ | ⟨_, w1, w2, w3, w4⟩ | ⟨_, w1, w2, w3, w4, w5, w6⟩
             · omega
             · obtain ⟨t1, t2⟩ := tk_D5 qq (by rw [hq]; exact hl0) (by rw [hq]; exact hg1) (by rw [hq]; exact fun z => he0 (pL.2 z)) (by rw [hq]; exact w1)
               exact fin _ _ _ _ _ (by omega) (by omega) (by rw [w4, tw_q (by omega)]) (fun z => absurd z (by omega))
             · have t1 := tk_D2 qq (by rw [hq]; exact hl0) (by rw [hq]; exact hg1) (by rw [hq]; exact fun z => he0 (pL.2 z)) (by rw [hq]; exact w1)
               have t2 := tsp_q (n := n) (B := I 2) (p := p) (by omega)
               refine fin _ _ _ _ _ (by omega) (by omega) (by rw [w6, tw_q (by omega)]) (fun _ => ⟨?_, ?_⟩)
               · rw [w4, te_2 t1, hq]
               · rw [w5]; unfold tv; rw [if_neg (by omega), if_pos t1, hq])
          | (have hl0' : ¬ isLet (I 2 q) := hl0
             have hg0' : ¬ isDig (I 2 q) := hg0
             have t1 := tk_S qq (by rw [hq]; exact hl0) (by rw [hq]; exact hg0)
             have t2 := tsp_q (n := n) (B := I 2) (p := p) (by omega)
             refine fin _ _ _ _ _ (by omega) (by omega) (by rw [tw_q (by omega)]) (fun _ => ⟨?_, ?_⟩)
             · rw [te_3 t1, hq]; omega
             · unfold tv; rw [if_neg (by omega), if_neg (by omega), if_pos t1, hq])
      · refine ⟨_, rfl, ?_⟩
        refine b_if_eq (tgt := 217) rfl rfl (fun _ => ?_) (fun z => absurd z (by decide))
        refine b_iload_n rfl rfl ?_
        refine b_callS1i (ν := MX1_isDigit) rfl ml1_80 csX1_isDigit (d' := 0) (by omega) (Nat.le_of_ble_eq_true rfl) ?_
        refine sp_X1_isDigit (fun hg1 => ?_) (fun hg0 => ?_)
        · refine ⟨_, rfl, ?_⟩
          refine b_if_eq (tgt := 247) rfl rfl (fun z => absurd z (by decide)) (fun _ => ?_)
          refine b_aload_n rfl rfl ?_
          refine b_iload_n rfl rfl ?_
          refine b_callS1i (ν := MX1_isLetter) rfl ml1_76 csX1_isLetter (d' := 0) (by omega) (Nat.le_of_ble_eq_true rfl) ?_
          refine sp_X1_isLetter (fun he1 => ?_) (fun he0 => ?_)
          · refine ⟨_, rfl, ?_⟩
            refine b_if_eq (tgt := 236) rfl rfl (fun z => absurd z (by decide)) (fun _ => ?_)
            refine b_iconst rfl (by decide) ?_
            refine b_goto (tgt := 237) rfl rfl ?_
            refine b_putI rfl fl1_73 rfl (by decide) rfl ?_
            rw [LX_u3]
            refine b_aload_n rfl rfl ?_
            refine b_callV0v (ν := MX1_readNumber) rfl ml1_86 cvX1_readNumber (d' := 0) (by omega) rfl (by decide) rfl (Nat.le_of_ble_eq_true rfl) ?_
            refine sp_X1_readNumber' (q := q) hX (by omega) (fun po' ki' sp' va' wo' hw => ?_)
            refine ⟨rfl, ?_⟩
            refine b_goto (tgt := 267) rfl rfl ?_
            refine b_vret rfl rfl ?_
            first
            | (have hd1' : isDig x := hd1
               rcases hw with ⟨_, w1, w2, w3⟩ | ⟨w0, _⟩ | ⟨w0, _⟩
               · obtain ⟨t1, t2⟩ := tk_L4 qq (by rw [hq]; exact hl1) (by rw [hq]; exact pD.1 hd1')
                 exact fin _ _ _ _ _ (by omega) (by omega) (by rw [w3, tw_q (by omega)]) (fun z => absurd z (by omega))
               · omega
               · omega)
            | (have hl1' : isLet (I 2 q) := hl1
               have hd0' : ¬ isDig x := hd0
               rcases hw with ⟨w0, _⟩ | ⟨_, w1, w2, w3, w4⟩ | ⟨_, w1, w2, w3, w4, w5, w6⟩
               · omega
               · obtain ⟨t1, t2⟩ := tk_L7 qq (by rw [hq]; exact hl1) (by rw [hq]; exact fun z => hd0 (pD.2 z)) (by rw [hq]; exact w1)
                 exact fin _ _ _ _ _ (by omega) (by omega) (by rw [w4, tw_q (by omega)]) (fun z => absurd z (by omega))
               · have t1 := tk_L1 qq (by rw [hq]; exact hl1) (by rw [hq]; exact fun z => hd0 (pD.2 z)) (by rw [hq]; exact w1)
                 have t2 := tsp_q (n := n) (B := I 2) (p := p) (by omega)
                 have e5e : lts (I 2) q (runF isLet n (I 2) 7 q) = tl n (I 2) p := by unfold tl tln lts; rw [hq]
                 have e6 : (e5 (tl n (I 2) p) 6 : Int) = tv n (I 2) p := by unfold tv; rw [if_pos t1]
                 rw [e5e, e6] at w5 w6
                 refine fin _ _ _ _ _ (by omega) (by omega) (by rw [w6]; unfold tw; rw [if_pos t1]) (fun _ => ⟨?_, w5⟩)
                 rw [w4, te_1 t1]
                 unfold tln
                 rw [hq])
            | (have he1' : isLet x := he1
               rcases hw with ⟨_, w1, w2, w3⟩ | ⟨w0, _⟩ | ⟨w0, _⟩
               · obtain ⟨t1, t2⟩ := tk_D4 qq (by rw [hq]; exact hl0) (by rw [hq]; exact hg1) (by rw [hq]; exact pL.1 he1')
                 exact fin _ _ _ _ _ (by omega) (by omega) (by rw [w3, tw_q (by omega)]) (fun z => absurd z (by omega))
               · omega
               · omega)
            | (have hg1' : isDig (I 2 q) := hg1
               have he0' : ¬ isLet x := he0
               rcases hw with ⟨w0, _⟩ | ⟨_, w1, w2, w3, w4⟩ | ⟨_, w1, w2, w3, w4, w5, w6⟩
               · omega
               · obtain ⟨t1, t2⟩ := tk_D5 qq (by rw [hq]; exact hl0) (by rw [hq]; exact hg1) (by rw [hq]; exact fun z => he0 (pL.2 z)) (by rw [hq]; exact w1)
                 exact fin _ _ _ _ _ (by omega) (by omega) (by rw [w4, tw_q (by omega)]) (fun z => absurd z (by omega))
               · have t1 := tk_D2 qq (by rw [hq]; exact hl0) (by rw [hq]; exact hg1) (by rw [hq]; exact fun z => he0 (pL.2 z)) (by rw [hq]; exact w1)
                 have t2 := tsp_q (n := n) (B := I 2) (p := p) (by omega)
                 refine fin _ _ _ _ _ (by omega) (by omega) (by rw [w6, tw_q (by omega)]) (fun _ => ⟨?_, ?_⟩)
                 · rw [w4, te_2 t1, hq]
                 · rw [w5]; unfold tv; rw [if_neg (by omega), if_pos t1, hq])
            | (have hl0' : ¬ isLet (I 2 q) := hl0
               have hg0' : ¬ isDig (I 2 q) := hg0
               have t1 := tk_S qq (by rw [hq]; exact hl0) (by rw [hq]; exact hg0)
               have t2 := tsp_q (n := n) (B := I 2) (p := p) (by omega)
               refine fin _ _ _ _ _ (by omega) (by omega) (by rw [tw_q (by omega)]) (fun _ => ⟨?_, ?_⟩)
               · rw [te_3 t1, hq]; omega
               · unfold tv; rw [if_neg (by omega), if_neg (by omega), if_pos t1, hq])
          · refine ⟨_, rfl, ?_⟩
            refine b_if_eq (tgt := 236) rfl rfl (fun _ => ?_) (fun z => absurd z (by decide))
            refine b_iconst rfl (by decide) ?_
            refine b_putI rfl fl1_73 rfl (by decide) rfl ?_
            rw [LX_u3]
            refine b_aload_n rfl rfl ?_
            refine b_callV0v (ν := MX1_readNumber) rfl ml1_86 cvX1_readNumber (d' := 0) (by omega) rfl (by decide) rfl (Nat.le_of_ble_eq_true rfl) ?_
            refine sp_X1_readNumber' (q := q) hX (by omega) (fun po' ki' sp' va' wo' hw => ?_)
            refine ⟨rfl, ?_⟩
            refine b_goto (tgt := 267) rfl rfl ?_
            refine b_vret rfl rfl ?_
            first
            | (have hd1' : isDig x := hd1
               rcases hw with ⟨_, w1, w2, w3⟩ | ⟨w0, _⟩ | ⟨w0, _⟩
               · obtain ⟨t1, t2⟩ := tk_L4 qq (by rw [hq]; exact hl1) (by rw [hq]; exact pD.1 hd1')
                 exact fin _ _ _ _ _ (by omega) (by omega) (by rw [w3, tw_q (by omega)]) (fun z => absurd z (by omega))
               · omega
               · omega)
            | (have hl1' : isLet (I 2 q) := hl1
               have hd0' : ¬ isDig x := hd0
               rcases hw with ⟨w0, _⟩ | ⟨_, w1, w2, w3, w4⟩ | ⟨_, w1, w2, w3, w4, w5, w6⟩
               · omega
               · obtain ⟨t1, t2⟩ := tk_L7 qq (by rw [hq]; exact hl1) (by rw [hq]; exact fun z => hd0 (pD.2 z)) (by rw [hq]; exact w1)
                 exact fin _ _ _ _ _ (by omega) (by omega) (by rw [w4, tw_q (by omega)]) (fun z => absurd z (by omega))
               · have t1 := tk_L1 qq (by rw [hq]; exact hl1) (by rw [hq]; exact fun z => hd0 (pD.2 z)) (by rw [hq]; exact w1)
                 have t2 := tsp_q (n := n) (B := I 2) (p := p) (by omega)
                 have e5e : lts (I 2) q (runF isLet n (I 2) 7 q) = tl n (I 2) p := by unfold tl tln lts; rw [hq]
                 have e6 : (e5 (tl n (I 2) p) 6 : Int) = tv n (I 2) p := by unfold tv; rw [if_pos t1]
                 rw [e5e, e6] at w5 w6
                 refine fin _ _ _ _ _ (by omega) (by omega) (by rw [w6]; unfold tw; rw [if_pos t1]) (fun _ => ⟨?_, w5⟩)
                 rw [w4, te_1 t1]
                 unfold tln
                 rw [hq])
            | (have he1' : isLet x := he1
               rcases hw with ⟨_, w1, w2, w3⟩ | ⟨w0, _⟩ | ⟨w0, _⟩
               · obtain ⟨t1, t2⟩ := tk_D4 qq (by rw [hq]; exact hl0) (by rw [hq]; exact hg1) (by rw [hq]; exact pL.1 he1')
                 exact fin _ _ _ _ _ (by omega) (by omega) (by rw [w3, tw_q (by omega)]) (fun z => absurd z (by omega))
               · omega
               · omega)
            | (have hg1' : isDig (I 2 q) := hg1
               have he0' : ¬ isLet x := he0
               rcases hw with ⟨w0, _⟩ | ⟨_, w1, w2, w3, w4⟩ | ⟨_, w1, w2, w3, w4, w5, w6⟩
               · omega
               · obtain ⟨t1, t2⟩ := tk_D5 qq (by rw [hq]; exact hl0) (by rw [hq]; exact hg1) (by rw [hq]; exact fun z => he0 (pL.2 z)) (by rw [hq]; exact w1)
                 exact fin _ _ _ _ _ (by omega) (by omega) (by rw [w4, tw_q (by omega)]) (fun z => absurd z (by omega))
               · have t1 := tk_D2 qq (by rw [hq]; exact hl0) (by rw [hq]; exact hg1) (by rw [hq]; exact fun z => he0 (pL.2 z)) (by rw [hq]; exact w1)
                 have t2 := tsp_q (n := n) (B := I 2) (p := p) (by omega)
                 refine fin _ _ _ _ _ (by omega) (by omega) (by rw [w6, tw_q (by omega)]) (fun _ => ⟨?_, ?_⟩)
                 · rw [w4, te_2 t1, hq]
                 · rw [w5]; unfold tv; rw [if_neg (by omega), if_pos t1, hq])
            | (have hl0' : ¬ isLet (I 2 q) := hl0
               have hg0' : ¬ isDig (I 2 q) := hg0
               have t1 := tk_S qq (by rw [hq]; exact hl0) (by rw [hq]; exact hg0)
               have t2 := tsp_q (n := n) (B := I 2) (p := p) (by omega)
               refine fin _ _ _ _ _ (by omega) (by omega) (by rw [tw_q (by omega)]) (fun _ => ⟨?_, ?_⟩)
               · rw [te_3 t1, hq]; omega
               · unfold tv; rw [if_neg (by omega), if_neg (by omega), if_pos t1, hq])
        · refine ⟨_, rfl, ?_⟩
          refine b_if_eq (tgt := 247) rfl rfl (fun _ => ?_) (fun z => absurd z (by decide))
          refine b_aload_n rfl rfl ?_
          refine b_iconst rfl (by decide) ?_
          refine b_putI rfl fl1_73 rfl (by decide) rfl ?_
          rw [LX_u3]
          refine b_aload_n rfl rfl ?_
          refine b_iload_n rfl rfl ?_
          refine b_putI rfl fl1_45 rfl (by decide) rfl ?_
          rw [LX_u6]
          refine b_aload_n rfl rfl ?_
          refine b_dup rfl rfl ?_
          refine b_getI rfl fl1_39 rfl (by decide) rfl ?_
          rw [LX_2]
          refine b_iconst rfl (by decide) ?_
          refine b_iaddN rfl (by omega) (by omega) ?_
          refine b_putI rfl fl1_39 rfl (by decide) rfl ?_
          rw [LX_u2]
          refine b_vret rfl rfl ?_
          first
          | (have hd1' : isDig x := hd1
             rcases hw with ⟨_, w1, w2, w3⟩ | ⟨w0, _⟩ | ⟨w0, _⟩
             · obtain ⟨t1, t2⟩ := tk_L4 qq (by rw [hq]; exact hl1) (by rw [hq]; exact pD.1 hd1')
               exact fin _ _ _ _ _ (by omega) (by omega) (by rw [w3, tw_q (by omega)]) (fun z => absurd z (by omega))
             · omega
             · omega)
          | (have hl1' : isLet (I 2 q) := hl1
             have hd0' : ¬ isDig x := hd0
             rcases hw with ⟨w0, _⟩ | ⟨_, w1, w2, w3, w4⟩ | ⟨_, w1, w2, w3, w4, w5, w6⟩
             · omega
             · obtain ⟨t1, t2⟩ := tk_L7 qq (by rw [hq]; exact hl1) (by rw [hq]; exact fun z => hd0 (pD.2 z)) (by rw [hq]; exact w1)
               exact fin _ _ _ _ _ (by omega) (by omega) (by rw [w4, tw_q (by omega)]) (fun z => absurd z (by omega))
             · have t1 := tk_L1 qq (by rw [hq]; exact hl1) (by rw [hq]; exact fun z => hd0 (pD.2 z)) (by rw [hq]; exact w1)
               have t2 := tsp_q (n := n) (B := I 2) (p := p) (by omega)
               have e5e : lts (I 2) q (runF isLet n (I 2) 7 q) = tl n (I 2) p := by unfold tl tln lts; rw [hq]
               have e6 : (e5 (tl n (I 2) p) 6 : Int) = tv n (I 2) p := by unfold tv; rw [if_pos t1]
               rw [e5e, e6] at w5 w6
               refine fin _ _ _ _ _ (by omega) (by omega) (by rw [w6]; unfold tw; rw [if_pos t1]) (fun _ => ⟨?_, w5⟩)
               rw [w4, te_1 t1]
               unfold tln
               rw [hq])
          | (have he1' : isLet x := he1
             rcases hw with ⟨_, w1, w2, w3⟩ | ⟨w0, _⟩ | ⟨w0, _⟩
             · obtain ⟨t1, t2⟩ := tk_D4 qq (by rw [hq]; exact hl0) (by rw [hq]; exact hg1) (by rw [hq]; exact pL.1 he1')
               exact fin _ _ _ _ _ (by omega) (by omega) (by rw [w3, tw_q (by omega)]) (fun z => absurd z (by omega))
             · omega
             · omega)
          | (have hg1' : isDig (I 2 q) := hg1
             have he0' : ¬ isLet x := he0
             rcases hw with ⟨w0, _⟩ | ⟨_, w1, w2, w3, w4⟩ | ⟨_, w1, w2, w3, w4, w5, w6⟩
             · omega
             · obtain ⟨t1, t2⟩ := tk_D5 qq (by rw [hq]; exact hl0) (by rw [hq]; exact hg1) (by rw [hq]; exact fun z => he0 (pL.2 z)) (by rw [hq]; exact w1)
               exact fin _ _ _ _ _ (by omega) (by omega) (by rw [w4, tw_q (by omega)]) (fun z => absurd z (by omega))
             · have t1 := tk_D2 qq (by rw [hq]; exact hl0) (by rw [hq]; exact hg1) (by rw [hq]; exact fun z => he0 (pL.2 z)) (by rw [hq]; exact w1)
               have t2 := tsp_q (n := n) (B := I 2) (p := p) (by omega)
               refine fin _ _ _ _ _ (by omega) (by omega) (by rw [w6, tw_q (by omega)]) (fun _ => ⟨?_, ?_⟩)
               · rw [w4, te_2 t1, hq]
               · rw [w5]; unfold tv; rw [if_neg (by omega), if_pos t1, hq])
          | (have hl0' : ¬ isLet (I 2 q) := hl0
             have hg0' : ¬ isDig (I 2 q) := hg0
             have t1 := tk_S qq (by rw [hq]; exact hl0) (by rw [hq]; exact hg0)
             have t2 := tsp_q (n := n) (B := I 2) (p := p) (by omega)
             refine fin _ _ _ _ _ (by omega) (by omega) (by rw [tw_q (by omega)]) (fun _ => ⟨?_, ?_⟩)
             · rw [te_3 t1, hq]; omega
             · unfold tv; rw [if_neg (by omega), if_neg (by omega), if_pos t1, hq])
    · omega
  have m174e : ∀ (ki c x : Int), n ≤ q → c = -1 → Bj MX1_take 1 174 [some (aR 24), some (aI c), some (aI x)] [] (LX I (q : Int) ki (q : Int) (q : Int) 0 (-1) st va fa pl) Q := by
    intro ki c x hqn hc
    have t1 := tk_0 (n := n) (B := I 2) (p := p) (by rw [hq]; exact hqn)
    have t2 := tsp_q (n := n) (B := I 2) (p := p) (by omega)
    have kf := fin (q : Int) 0 (q : Int) 0 (-1) (by omega) (by omega) (by rw [tw_q (by omega)]) (fun z => absurd z (by omega))
    refine b_iload_n rfl rfl ?_
    refine b_iconst rfl (by decide) ?_
    refine b_icmp_ne (tgt := 187) rfl rfl (fun c176 => ?_) (fun c176 => ?_)
    · omega
    · refine b_aload_n rfl rfl ?_
      refine b_iconst rfl (by decide) ?_
      refine b_putI rfl fl1_73 rfl (by decide) rfl ?_
      rw [LX_u3]
      refine b_goto (tgt := 267) rfl rfl ?_
      refine b_vret rfl rfl ?_
      exact kf
  have m77 : ∀ (ki sp va2 wo : Int), Bj MX1_take 1 77 [some (aR 24), none, none] [] (LX I (q : Int) ki st sp va2 wo st va fa pl) Q := by
    intro ki sp va2 wo
    have hbq := hB q
    have hbq1 := hB (q - 1)
    refine b_aload_n rfl rfl ?_
    refine b_aload_n rfl rfl ?_
    refine b_getI rfl fl1_39 rfl (by decide) rfl ?_
    rw [LX_2]
    refine b_putI rfl fl1_42 rfl (by decide) rfl ?_
    rw [LX_u4]
    refine b_aload_n rfl rfl ?_
    refine b_aload_n rfl rfl ?_
    refine b_getI rfl fl1_39 rfl (by decide) rfl ?_
    rw [LX_2]
    refine b_putI rfl fl1_67 rfl (by decide) rfl ?_
    rw [LX_u5]
    refine b_aload_n rfl rfl ?_
    refine b_iconst rfl (by decide) ?_
    refine b_putI rfl fl1_45 rfl (by decide) rfl ?_
    rw [LX_u6]
    refine b_aload_n rfl rfl ?_
    refine b_iconst rfl (by decide) ?_
    refine b_putI rfl fl1_70 rfl (by decide) rfl ?_
    rw [LX_u7]
    refine b_aload_n rfl rfl ?_
    refine b_getI rfl fl1_39 rfl (by decide) rfl ?_
    rw [LX_2]
    refine b_aload_n rfl rfl ?_
    refine b_getR (r := 1) rfl fl1_15 rfl (by decide) rfl rfl ?_
    refine b_getI rfl fl1_60 rfl (by decide) rfl ?_
    rw [LXc (by decide)]
    refine b_icmp_ge (tgt := 132) rfl rfl (fun c114 => ?_) (fun c114 => ?_)
    · refine b_iconst rfl (by decide) ?_
      refine b_istoreX_n (F := fun z133 => [some (aR 24), some (aI z133), none]) rfl (by decide) (fun _ => rfl) (fun z133 ez133 => ?_)
      refine b_aload_n rfl rfl ?_
      refine b_getI rfl fl1_39 rfl (by decide) rfl ?_
      rw [LX_2]
      refine b_if_le (tgt := 172) rfl rfl (fun c138 => ?_) (fun c138 => ?_)
      · refine b_iconst rfl (by decide) ?_
        refine b_istoreX_n (F := fun z173 => [some (aR 24), some (aI z133), some (aI z173)]) rfl (by decide) (fun _ => rfl) (fun z173 ez173 => ?_)
        first
        | (have hz : n ≤ q := by omega
           exact m174e _ _ _ hz (by omega))
        | (have hz : q < n := by omega
           refine m174 _ _ _ hz (by omega) (fun h => ?_) (fun h => ?_)
           · first
               | (rw [ez173, show ((q : Int) - 1).toNat = q - 1 by omega])
               | (exfalso; omega)
           · first
               | exact ez173
               | (exfalso; omega))
      · refine b_aload_n rfl rfl ?_
        refine b_getI rfl fl1_39 rfl (by decide) rfl ?_
        rw [LX_2]
        refine b_aload_n rfl rfl ?_
        refine b_getR (r := 1) rfl fl1_15 rfl (by decide) rfl rfl ?_
        refine b_getI rfl fl1_60 rfl (by decide) rfl ?_
        rw [LXc (by decide)]
        refine b_icmp_gt (tgt := 172) rfl rfl (fun c152 => ?_) (fun c152 => ?_)
        · refine b_iconst rfl (by decide) ?_
          refine b_istoreX_n (F := fun z173 => [some (aR 24), some (aI z133), some (aI z173)]) rfl (by decide) (fun _ => rfl) (fun z173 ez173 => ?_)
          first
          | (have hz : n ≤ q := by omega
             exact m174e _ _ _ hz (by omega))
          | (have hz : q < n := by omega
             refine m174 _ _ _ hz (by omega) (fun h => ?_) (fun h => ?_)
             · first
                 | (rw [ez173, show ((q : Int) - 1).toNat = q - 1 by omega])
                 | (exfalso; omega)
             · first
                 | exact ez173
                 | (exfalso; omega))
        · refine b_aload_n rfl rfl ?_
          refine b_getR (r := 1) rfl fl1_15 rfl (by decide) rfl rfl ?_
          refine b_getR (r := 2) rfl fl1_64 rfl (by decide) rfl rfl ?_
          refine b_aload_n rfl rfl ?_
          refine b_getI rfl fl1_39 rfl (by decide) rfl ?_
          rw [LX_2]
          refine b_iconst rfl (by decide) ?_
          refine b_isubN rfl (by omega) (by omega) ?_
          refine b_iald rfl rfl (by omega) (by omega) ?_
          rw [LXc (by decide)]
          try rw [Int.toNat_natCast]
          refine b_goto (tgt := 173) rfl rfl ?_
          refine b_istoreX_n (F := fun z173 => [some (aR 24), some (aI z133), some (aI z173)]) rfl (by decide) (fun _ => rfl) (fun z173 ez173 => ?_)
          first
          | (have hz : n ≤ q := by omega
             exact m174e _ _ _ hz (by omega))
          | (have hz : q < n := by omega
             refine m174 _ _ _ hz (by omega) (fun h => ?_) (fun h => ?_)
             · first
                 | (rw [ez173, show ((q : Int) - 1).toNat = q - 1 by omega])
                 | (exfalso; omega)
             · first
                 | exact ez173
                 | (exfalso; omega))
    · refine b_aload_n rfl rfl ?_
      refine b_getR (r := 1) rfl fl1_15 rfl (by decide) rfl rfl ?_
      refine b_getR (r := 2) rfl fl1_64 rfl (by decide) rfl rfl ?_
      refine b_aload_n rfl rfl ?_
      refine b_getI rfl fl1_39 rfl (by decide) rfl ?_
      rw [LX_2]
      refine b_iald rfl rfl (by omega) (by omega) ?_
      rw [LXc (by decide)]
      try rw [Int.toNat_natCast]
      refine b_goto (tgt := 133) rfl rfl ?_
      refine b_istoreX_n (F := fun z133 => [some (aR 24), some (aI z133), none]) rfl (by decide) (fun _ => rfl) (fun z133 ez133 => ?_)
      refine b_aload_n rfl rfl ?_
      refine b_getI rfl fl1_39 rfl (by decide) rfl ?_
      rw [LX_2]
      refine b_if_le (tgt := 172) rfl rfl (fun c138 => ?_) (fun c138 => ?_)
      · refine b_iconst rfl (by decide) ?_
        refine b_istoreX_n (F := fun z173 => [some (aR 24), some (aI z133), some (aI z173)]) rfl (by decide) (fun _ => rfl) (fun z173 ez173 => ?_)
        first
        | (have hz : n ≤ q := by omega
           exact m174e _ _ _ hz (by omega))
        | (have hz : q < n := by omega
           refine m174 _ _ _ hz (by omega) (fun h => ?_) (fun h => ?_)
           · first
               | (rw [ez173, show ((q : Int) - 1).toNat = q - 1 by omega])
               | (exfalso; omega)
           · first
               | exact ez173
               | (exfalso; omega))
      · refine b_aload_n rfl rfl ?_
        refine b_getI rfl fl1_39 rfl (by decide) rfl ?_
        rw [LX_2]
        refine b_aload_n rfl rfl ?_
        refine b_getR (r := 1) rfl fl1_15 rfl (by decide) rfl rfl ?_
        refine b_getI rfl fl1_60 rfl (by decide) rfl ?_
        rw [LXc (by decide)]
        refine b_icmp_gt (tgt := 172) rfl rfl (fun c152 => ?_) (fun c152 => ?_)
        · refine b_iconst rfl (by decide) ?_
          refine b_istoreX_n (F := fun z173 => [some (aR 24), some (aI z133), some (aI z173)]) rfl (by decide) (fun _ => rfl) (fun z173 ez173 => ?_)
          first
          | (have hz : n ≤ q := by omega
             exact m174e _ _ _ hz (by omega))
          | (have hz : q < n := by omega
             refine m174 _ _ _ hz (by omega) (fun h => ?_) (fun h => ?_)
             · first
                 | (rw [ez173, show ((q : Int) - 1).toNat = q - 1 by omega])
                 | (exfalso; omega)
             · first
                 | exact ez173
                 | (exfalso; omega))
        · refine b_aload_n rfl rfl ?_
          refine b_getR (r := 1) rfl fl1_15 rfl (by decide) rfl rfl ?_
          refine b_getR (r := 2) rfl fl1_64 rfl (by decide) rfl rfl ?_
          refine b_aload_n rfl rfl ?_
          refine b_getI rfl fl1_39 rfl (by decide) rfl ?_
          rw [LX_2]
          refine b_iconst rfl (by decide) ?_
          refine b_isubN rfl (by omega) (by omega) ?_
          refine b_iald rfl rfl (by omega) (by omega) ?_
          rw [LXc (by decide)]
          try rw [Int.toNat_natCast]
          refine b_goto (tgt := 173) rfl rfl ?_
          refine b_istoreX_n (F := fun z173 => [some (aR 24), some (aI z133), some (aI z173)]) rfl (by decide) (fun _ => rfl) (fun z173 ez173 => ?_)
          first
          | (have hz : n ≤ q := by omega
             exact m174e _ _ _ hz (by omega))
          | (have hz : q < n := by omega
             refine m174 _ _ _ hz (by omega) (fun h => ?_) (fun h => ?_)
             · first
                 | (rw [ez173, show ((q : Int) - 1).toNat = q - 1 by omega])
                 | (exfalso; omega)
             · first
                 | exact ez173
                 | (exfalso; omega))
  have lp : ∀ (m i : Nat), i + m = runF isBl n (I 2) n p → Bj MX1_take 1 16 [some (aR 24), none, none] [] (LX I ((p + i : Nat) : Int) ki st sp va wo st va fa pl) Q := by
    intro m
    induction m with
    | zero =>
      intro i hi
      rw [show p + i = q by omega]
      have hbq := hB q
      have fin77 := m77 ki sp va wo
      refine b_aload_n rfl rfl ?_
      refine b_getI rfl fl1_39 rfl (by decide) rfl ?_
      rw [LX_2]
      refine b_aload_n rfl rfl ?_
      refine b_getR (r := 1) rfl fl1_15 rfl (by decide) rfl rfl ?_
      refine b_getI rfl fl1_60 rfl (by decide) rfl ?_
      rw [LXc (by decide)]
      refine b_icmp_ge (tgt := 77) rfl rfl (fun c27 => ?_) (fun c27 => ?_)
      · exact fin77
      · refine b_aload_n rfl rfl ?_
        refine b_getR (r := 1) rfl fl1_15 rfl (by decide) rfl rfl ?_
        refine b_getR (r := 2) rfl fl1_64 rfl (by decide) rfl rfl ?_
        refine b_aload_n rfl rfl ?_
        refine b_getI rfl fl1_39 rfl (by decide) rfl ?_
        rw [LX_2]
        refine b_iald rfl rfl (by omega) (by omega) ?_
        rw [LXc (by decide)]
        try rw [Int.toNat_natCast]
        refine b_bipush rfl (by decide) ?_
        refine b_icmp_eq (tgt := 64) rfl rfl (fun c44 => ?_) (fun c44 => ?_)
        · exact absurd ⟨by omega, Or.inl (by omega)⟩ hqe
        · refine b_aload_n rfl rfl ?_
          refine b_getR (r := 1) rfl fl1_15 rfl (by decide) rfl rfl ?_
          refine b_getR (r := 2) rfl fl1_64 rfl (by decide) rfl rfl ?_
          refine b_aload_n rfl rfl ?_
          refine b_getI rfl fl1_39 rfl (by decide) rfl ?_
          rw [LX_2]
          refine b_iald rfl rfl (by omega) (by omega) ?_
          rw [LXc (by decide)]
          try rw [Int.toNat_natCast]
          refine b_bipush rfl (by decide) ?_
          refine b_icmp_ne (tgt := 77) rfl rfl (fun c61 => ?_) (fun c61 => ?_)
          · exact fin77
          · exact absurd ⟨by omega, Or.inr (by omega)⟩ hqe
    | succ m ih =>
      intro i hi
      obtain ⟨i1, i2⟩ := hin i (by omega)
      have hbi := hB (p + i)
      unfold isBl at i2
      have nx := ih (i + 1) (by omega)
      rw [show ((p + (i + 1) : Nat) : Int) = ((p + i : Nat) : Int) + 1 by omega] at nx
      refine b_aload_n rfl rfl ?_
      refine b_getI rfl fl1_39 rfl (by decide) rfl ?_
      rw [LX_2]
      refine b_aload_n rfl rfl ?_
      refine b_getR (r := 1) rfl fl1_15 rfl (by decide) rfl rfl ?_
      refine b_getI rfl fl1_60 rfl (by decide) rfl ?_
      rw [LXc (by decide)]
      refine b_icmp_ge (tgt := 77) rfl rfl (fun c27 => ?_) (fun c27 => ?_)
      · omega
      · refine b_aload_n rfl rfl ?_
        refine b_getR (r := 1) rfl fl1_15 rfl (by decide) rfl rfl ?_
        refine b_getR (r := 2) rfl fl1_64 rfl (by decide) rfl rfl ?_
        refine b_aload_n rfl rfl ?_
        refine b_getI rfl fl1_39 rfl (by decide) rfl ?_
        rw [LX_2]
        refine b_iald rfl rfl (by omega) (by omega) ?_
        rw [LXc (by decide)]
        try rw [Int.toNat_natCast]
        refine b_bipush rfl (by decide) ?_
        refine b_icmp_eq (tgt := 64) rfl rfl (fun c44 => ?_) (fun c44 => ?_)
        · refine b_aload_n rfl rfl ?_
          refine b_dup rfl rfl ?_
          refine b_getI rfl fl1_39 rfl (by decide) rfl ?_
          rw [LX_2]
          refine b_iconst rfl (by decide) ?_
          refine b_iaddN rfl (by omega) (by omega) ?_
          refine b_putI rfl fl1_39 rfl (by decide) rfl ?_
          rw [LX_u2]
          refine b_goto (tgt := 16) rfl rfl ?_
          exact nx
        · refine b_aload_n rfl rfl ?_
          refine b_getR (r := 1) rfl fl1_15 rfl (by decide) rfl rfl ?_
          refine b_getR (r := 2) rfl fl1_64 rfl (by decide) rfl rfl ?_
          refine b_aload_n rfl rfl ?_
          refine b_getI rfl fl1_39 rfl (by decide) rfl ?_
          rw [LX_2]
          refine b_iald rfl rfl (by omega) (by omega) ?_
          rw [LXc (by decide)]
          try rw [Int.toNat_natCast]
          refine b_bipush rfl (by decide) ?_
          refine b_icmp_ne (tgt := 77) rfl rfl (fun c61 => ?_) (fun c61 => ?_)
          · omega
          · refine b_aload_n rfl rfl ?_
            refine b_dup rfl rfl ?_
            refine b_getI rfl fl1_39 rfl (by decide) rfl ?_
            rw [LX_2]
            refine b_iconst rfl (by decide) ?_
            refine b_iaddN rfl (by omega) (by omega) ?_
            refine b_putI rfl fl1_39 rfl (by decide) rfl ?_
            rw [LX_u2]
            refine b_goto (tgt := 16) rfl rfl ?_
            exact nx
  refine rj_of okX1_take (Nat.le_of_ble_eq_true rfl) rfl ?_
  refine b_aload_n rfl rfl ?_
  refine b_aload_n rfl rfl ?_
  refine b_getI rfl fl1_42 rfl (by decide) rfl ?_
  rw [LX_4]
  refine b_putI rfl fl1_54 rfl (by decide) rfl ?_
  rw [LX_u8]
  refine b_aload_n rfl rfl ?_
  refine b_aload_n rfl rfl ?_
  refine b_getI rfl fl1_45 rfl (by decide) rfl ?_
  rw [LX_6]
  refine b_putI rfl fl1_57 rfl (by decide) rfl ?_
  rw [LX_u9]
  exact lp _ 0 (Nat.zero_add _)
theorem sp_X1_fail {I : HI} {Q : Option AV → HI → Prop} {w x po ki st sp va wo ts tu fa pl : Int} (k0 : fa = 0 → Q none (LX I po 4 st sp va wo ts tu w x)) (k1 : fa ≠ 0 → Q none (LX I po 4 st sp va wo ts tu fa pl)) : Rj MX1_fail 0 [aR 24, aI w, aI x] (LX I po ki st sp va wo ts tu fa pl) Q := by
  refine rj_of okX1_fail (Nat.le_of_ble_eq_true rfl) rfl ?_
  refine b_aload_n rfl rfl ?_
  refine b_getI rfl fl1_48 rfl (by decide) rfl ?_
  rw [LX_10]
  refine b_if_ne (tgt := 17) rfl rfl (fun c4 => ?_) (fun c4 => ?_)
  · refine b_aload_n rfl rfl ?_
    refine b_iconst rfl (by decide) ?_
    refine b_putI rfl fl1_73 rfl (by decide) rfl ?_
    rw [LX_u3]
    refine b_vret rfl rfl ?_
    first
    | (have h0 : fa = 0 := by omega
       exact k0 h0)
    | (have h0 : fa ≠ 0 := by omega
       exact k1 h0)
  · refine b_aload_n rfl rfl ?_
    refine b_iload_n rfl rfl ?_
    refine b_putI rfl fl1_48 rfl (by decide) rfl ?_
    rw [LX_u10]
    refine b_aload_n rfl rfl ?_
    refine b_iload_n rfl rfl ?_
    refine b_putI rfl fl1_19 rfl (by decide) rfl ?_
    rw [LX_u11]
    refine b_aload_n rfl rfl ?_
    refine b_iconst rfl (by decide) ?_
    refine b_putI rfl fl1_73 rfl (by decide) rfl ?_
    rw [LX_u3]
    refine b_vret rfl rfl ?_
    first
    | (have h0 : fa = 0 := by omega
       exact k0 h0)
    | (have h0 : fa ≠ 0 := by omega
       exact k1 h0)
