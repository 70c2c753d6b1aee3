/-! ===== the reference: harbour ===== -/
def rg4 (K : HI) (m i : Nat) : HI := fun q j => if q = 71 ∧ 4 * m ≤ j ∧ j < 4 * m + i then -1 else K q j
theorem rg4_0 {K : HI} {m : Nat} : rg4 K m 0 = K := by
  funext q j
  exact if_neg (by omega)
theorem rg4_s {K : HI} {m i : Nat} : up (rg4 K m i) 71 (4 * m + i) (-1) = rg4 K m (i + 1) := by
  funext q j
  rw [up_ap]
  show (if q = 71 ∧ j = 4 * m + i then -1 else (if q = 71 ∧ 4 * m ≤ j ∧ j < 4 * m + i then -1 else K q j)) = (if q = 71 ∧ 4 * m ≤ j ∧ j < 4 * m + (i + 1) then -1 else K q j)
  repeat' split
  all_goals first | rfl | omega
/-- the reference as it begins to read -/
def hbK (X : HI) (n m : Nat) : HI := up (rg4 (up (up (up (up (up (up (up X 57 2 (n : Int)) 57 1 0) 57 34 (m : Int)) 59 m 0) 62 m 0) 67 m 0) 70 m 0) m 4) 57 33 0
section MHB
variable {X J : HI} {Q : Option AV → HI → Prop} {b n m : Nat}
theorem hbK_o {q j : Nat} (h : q < 57 ∨ q = 58 ∨ q = 60 ∨ q = 61 ∨ q = 63 ∨ q = 64 ∨ q = 65 ∨ q = 66 ∨ q = 68 ∨ q = 69 ∨ 71 < q) : hbK X n m q j = X q j := by
  unfold hbK
  rw [up_ap, if_neg (by omega)]
  show (if q = 71 ∧ 4 * m ≤ j ∧ j < 4 * m + 4 then -1 else _) = _
  rw [if_neg (by omega), up_ap, if_neg (by omega), up_ap, if_neg (by omega), up_ap, if_neg (by omega), up_ap, if_neg (by omega), up_ap, if_neg (by omega), up_ap, if_neg (by omega), up_ap, if_neg (by omega)]
theorem hbK_57 {j : Nat} (h : j ≠ 1 ∧ j ≠ 2 ∧ j ≠ 33 ∧ j ≠ 34) : hbK X n m 57 j = X 57 j := by
  unfold hbK
  rw [up_ap, if_neg (by omega)]
  show (if 57 = 71 ∧ 4 * m ≤ j ∧ j < 4 * m + 4 then -1 else _) = _
  rw [if_neg (by omega), up_ap, if_neg (by omega), up_ap, if_neg (by omega), up_ap, if_neg (by omega), up_ap, if_neg (by omega), up_ap, if_neg (by omega), up_ap, if_neg (by omega), up_ap, if_neg (by omega)]
theorem hbK_71 {j : Nat} : hbK X n m 71 j = if 4 * m ≤ j ∧ j < 4 * m + 4 then -1 else X 71 j := by
  unfold hbK
  rw [up_ap, if_neg (by omega)]
  show (if 71 = 71 ∧ 4 * m ≤ j ∧ j < 4 * m + 4 then -1 else _) = _
  by_cases e : 4 * m ≤ j ∧ j < 4 * m + 4
  · rw [if_pos ⟨rfl, e⟩, if_pos e]
  · rw [if_neg (fun w => e w.2), if_neg e, up_ap, if_neg (by omega), up_ap, if_neg (by omega), up_ap, if_neg (by omega), up_ap, if_neg (by omega), up_ap, if_neg (by omega), up_ap, if_neg (by omega), up_ap, if_neg (by omega)]
theorem RDr_0 (hm : m < 2) : RDr (dr0 J) (hbK X n m) m := by
  have e13 : ∀ k, k < 3 → dr0 J 13 k = 0 := fun k hk => by
    rw [show dr0 J 13 k = if 13 = 13 ∧ k < 3 then 0 else J 13 k from rfl, if_pos ⟨rfl, hk⟩]
  have ecn : ∀ q, q = 59 ∨ q = 62 ∨ q = 67 ∨ q = 70 → hbK X n m q m = 0 := by
    intro q hq
    unfold hbK
    rw [up_ap, if_neg (by omega)]
    show (if q = 71 ∧ 4 * m ≤ m ∧ m < 4 * m + 4 then -1 else _) = _
    rw [if_neg (by omega)]
    rcases hq with e | e | e | e <;> subst e
    · rw [up_ap, if_neg (by omega), up_ap, if_neg (by omega), up_ap, if_neg (by omega), up_ap, if_pos ⟨rfl, rfl⟩]
    · rw [up_ap, if_neg (by omega), up_ap, if_neg (by omega), up_ap, if_pos ⟨rfl, rfl⟩]
    · rw [up_ap, if_neg (by omega), up_ap, if_pos ⟨rfl, rfl⟩]
    · rw [up_ap, if_pos ⟨rfl, rfl⟩]
  have hcn : ∀ k, k < 3 → cnC k = 59 ∨ cnC k = 62 ∨ cnC k = 67 := by decide
  refine ⟨⟨?_, hm, fun k hk => ?_, fun k hk w hw => ?_⟩, fun w hw => ?_, fun s hs => ?_, fun t ht => ?_, ?_, ?_, fun j hj => ?_, fun f hf => ?_⟩
  · unfold hbK
    rw [up_ap, if_neg (by omega)]
    show (if 57 = 71 ∧ 4 * m ≤ 34 ∧ 34 < 4 * m + 4 then -1 else _) = _
    rw [if_neg (by omega), up_ap, if_neg (by omega), up_ap, if_neg (by omega), up_ap, if_neg (by omega), up_ap, if_neg (by omega), up_ap, if_pos ⟨rfl, rfl⟩]
  · rw [ecn _ (by have := hcn k hk; omega), e13 k hk]
  · rw [e13 k hk] at hw; omega
  · rw [e13 0 (by decide)] at hw; omega
  · rw [e13 1 (by decide)] at hs; omega
  · rw [e13 2 (by decide)] at ht; omega
  · unfold RDg
    rw [ecn 70 (by omega)]
    rfl
  · rw [show hbK X n m 57 33 = 0 by unfold hbK; rw [up_ap, if_pos ⟨rfl, rfl⟩]]
    rfl
  · rw [show dr0 J 12 7 = 0 from rfl] at hj; omega
  · left
    refine ⟨by rw [hbK_71, if_pos (by omega)], ?_⟩
    rw [show dr0 J 18 f = if 18 = 18 ∧ f < 4 then 0 else J 18 f from rfl, show dr0 J 19 f = if 19 = 19 ∧ f < 4 then 0 else J 19 f from rfl, if_pos ⟨rfl, hf⟩, if_pos ⟨rfl, hf⟩]
    omega
theorem DX_0 : DX (dr0 J) := by
  have e13 : ∀ k, k < 3 → dr0 J 13 k = 0 := fun k hk => by
    rw [show dr0 J 13 k = if 13 = 13 ∧ k < 3 then 0 else J 13 k from rfl, if_pos ⟨rfl, hk⟩]
  have e21 : ∀ k, k < 6 → dr0 J 21 k = -1 := fun k hk => by
    rw [show dr0 J 21 k = if 21 = 21 ∧ k < 6 then -1 else J 21 k from rfl, if_pos ⟨rfl, hk⟩]
  have e22 : ∀ k, k < 144 → dr0 J 22 k = 0 := fun k hk => by
    rw [show dr0 J 22 k = if 22 = 22 ∧ k < 144 then 0 else J 22 k from rfl, if_pos ⟨rfl, hk⟩]
  refine ⟨fun s hs _ => e21 s hs, fun s hs => Or.inl (e21 s hs), fun k hk => ?_, fun s h w a b c _ => e22 _ (by omega), fun s hs => ?_, fun t ht => ?_, ?_⟩
  · rw [e22 k hk]; decide
  · rw [e13 1 (by decide)] at hs; omega
  · rw [e13 2 (by decide)] at ht; omega
  · rw [show dr0 J 12 8 = 0 from rfl]; decide
theorem RDr_9 {I K : HI} {x : Int} (h : RDr I K m) : RDr (up I 12 9 x) K m := by
  obtain ⟨h1, h2, h3, h4, h5, h6⟩ := h
  have e : ∀ q j, ¬ (q = 12 ∧ j = 9) → up I 12 9 x q j = I q j := fun q j h => by rw [up_ap, if_neg h]
  have e13 : up I 12 9 x 13 = I 13 := by funext j; exact e 13 j (by omega)
  have e14 : up I 12 9 x 14 = I 14 := by funext j; exact e 14 j (by omega)
  refine ⟨RDn_I h1 e13 e14, fun w hw => ?_, fun s hs => ?_, fun t ht => ?_, ?_, ?_, fun j hj => ?_, fun f hf => ?_⟩
  · rw [e13] at hw; rw [e 15 _ (by omega), e 16 _ (by omega)]; exact h2 w hw
  · rw [e13] at hs
    obtain ⟨a1, a2, a3, a4⟩ := h3 s hs
    rw [e 15 _ (by omega), e 16 _ (by omega), e 21 _ (by omega)]
    exact ⟨a1, a2, a3, fun c hc => by rw [e 22 _ (by omega)]; exact a4 c hc⟩
  · rw [e13] at ht; rw [e 15 _ (by omega), e 16 _ (by omega)]; exact h4 t ht
  · unfold RDg; rw [e 12 8 (by omega)]; exact h5
  · rw [e 12 7 (by omega)]; exact h6.1
  · rw [e 12 7 (by omega)] at hj; rw [e 17 _ (by omega)]; exact h6.2.1 j hj
  · rw [e 12 7 (by omega), e 18 _ (by omega), e 19 _ (by omega)]; exact h6.2.2 f hf
theorem Mok_si {K H : HI} {B : Nat → Int} {p : Nat} (hM : Mok K n B p H) : (H 57 3 = 0 ↔ tk n B p = 0) ∧ H 57 9 = -1 := by
  obtain ⟨si, sa, en, va, wo, lx, e, h1, h3, h4, h⟩ := hM
  subst e
  refine ⟨?_, rfl⟩
  show si = 0 ↔ _
  by_cases k4 : tk n B p = 4
  · have := (h4 k4).2
    constructor
    · intro z; exact absurd z this
    · intro z; omega
  · have := (h3 k4).2
    omega
set_option maxRecDepth 16000 in
theorem mr_harbour (hb : b < 2) (hmb : m + b = 1) (h13 : X 57 13 = (b : Int)) (h1 : X 57 1 = (n : Int)) (hn : n ≤ 1600) (h58 : ∀ k, k < n → X 58 k = J 2 k) (hB : ∀ k, 0 ≤ J 2 k ∧ J 2 k < 256) (hd : dW J) (kI : ∀ e K' H', Tx n 81 (dr0 J) 0 = .inl e → FrB (hbK X n m) m K' → Mbad K' e.1 e.2 H' → Q (some (aI (-1))) (mrf (up (up H' 57 10 e.1) 57 11 e.2) 1)) (kG : ∀ I' p' K' H', Tx n 81 (dr0 J) 0 = .inr (I', p') → FrB (hbK X n m) m K' → RDr I' K' m → DX I' → DI I' p' → Mok K' n (J 2) p' H' → Q (some (aI (I' 12 9))) (begM (up (up (up H' 57 10 0) 57 11 (-1)) 57 13 (m : Int)) m (I' 13 1).toNat)) : Rj MX12_harbour 7 [aR 57] X Q := by
  refine rj_of okX12_harbour (Nat.le_of_ble_eq_true rfl) rfl ?_
  have hm : m < 2 := by omega
  have hT : MTx (hbK X n m) n (J 2) := by
    refine ⟨?_, hn, fun k hk => by rw [hbK_o (by omega)]; exact h58 k hk, hB⟩
    unfold hbK
    rw [up_ap, if_neg (by omega)]
    show (if 57 = 71 ∧ 4 * m ≤ 2 ∧ 2 < 4 * m + 4 then -1 else _) = _
    rw [if_neg (by omega), up_ap, if_neg (by omega), up_ap, if_neg (by omega), up_ap, if_neg (by omega), up_ap, if_neg (by omega), up_ap, if_neg (by omega), up_ap, if_neg (by omega), up_ap, if_pos ⟨rfl, rfl⟩]
  have fx : ∀ (z : Int) (e : Int × Int) (K' H1 : HI), Tx n 81 (dr0 J) 0 = .inl e → FrB (hbK X n m) m K' → Mbad K' e.1 e.2 H1 → Bj MX12_harbour 7 145 [some (aR 57), some (aI z)] [] H1 Q := by
    intro z e K' H1 hO hF hbd
    have hf := Mbad_f hbd
    have kk := kI e K' H1 hO hF hbd
    refine b_aload_n rfl rfl ?_
    refine b_aload_n rfl rfl ?_
    refine b_getI rfl fl12_36 rfl (by decide) rfl ?_
    rw [hf.1]
    refine b_putI rfl fl12_42 rfl (by decide) rfl ?_
    refine b_aload_n rfl rfl ?_
    refine b_aload_n rfl rfl ?_
    refine b_getI rfl fl12_39 rfl (by decide) rfl ?_
    try simp only [up_ap, cpy_ap, fil_ap, row_ap, Nat.reduceEqDiff, Nat.reduceLT, Nat.reduceLeDiff, Int.toNat_natCast, Int.reduceToNat, reduceCtorEq, false_and, and_false, true_and, and_true, and_self, reduceIte]
    rw [hf.2.2]
    refine b_putI rfl fl12_45 rfl (by decide) rfl ?_
    refine b_aload_n rfl rfl ?_
    refine b_getI rfl fl12_36 rfl (by decide) rfl ?_
    try simp only [up_ap, cpy_ap, fil_ap, row_ap, Nat.reduceEqDiff, Nat.reduceLT, Nat.reduceLeDiff, Int.toNat_natCast, Int.reduceToNat, reduceCtorEq, false_and, and_false, true_and, and_true, and_self, reduceIte]
    rw [hf.1]
    refine b_if_le (tgt := 174) rfl rfl (fun c165 => ?_) (fun c165 => ?_)
    · omega
    · refine b_aload_n rfl rfl ?_
      refine b_iconst rfl (by decide) ?_
      refine b_callV1i (ν := MX12_refuses) rfl ml12_228 cvX12_refuses (d' := 0) (by omega) rfl (by decide) rfl (Nat.le_of_ble_eq_true rfl) ?_
      refine spm_refuses (k := 1) (by decide) ?_
      refine ⟨_, rfl, ?_⟩
      refine b_iret rfl rfl ?_
      exact kk
  have fl : ∀ (z : Int) (e : Int × Int) (K' H1 : HI), Tx n 81 (dr0 J) 0 = .inl e → FrB (hbK X n m) m K' → Mbad K' e.1 e.2 H1 → Bj MX12_harbour 7 116 [some (aR 57), some (aI z)] [] H1 Q := by
    intro z e K' H1 hO hF hbd
    have hf := Mbad_f hbd
    refine b_aload_n rfl rfl ?_
    refine b_getI rfl fl12_36 rfl (by decide) rfl ?_
    refine b_if_ne (tgt := 145) rfl rfl (fun c120 => ?_) (fun c120 => ?_)
    · exact fx _ _ _ _ hO hF hbd
    · omega
  have gx : ∀ (z : Int) (I' : HI) (p' : Nat) (K' H1 : HI), z = I' 12 9 → Tx n 81 (dr0 J) 0 = .inr (I', p') → FrB (hbK X n m) m K' → RDr I' K' m → DX I' → DI I' p' → Mok K' n (J 2) p' H1 → Bj MX12_harbour 7 145 [some (aR 57), some (aI z)] [] H1 Q := by
    intro z I' p' K' H1 hz hO hF hR hX hI hM
    have hf := Mok_f hM
    have hs := Mok_si hM
    have kk := kG I' p' K' H1 hO hF hR hX hI hM
    have h34 : H1 57 34 = (m : Int) := by rw [Mok_g hM (by decide)]; exact hR.1.1
    have hc1 := hI.1 1 (by decide)
    have h62 : H1 62 m = ((I' 13 1).toNat : Int) := by
      rw [Mok_q hM (by decide)]
      have := hR.1.2.2.1 1 (by decide)
      rw [show K' 62 m = I' 13 1 from this]
      omega
    refine b_aload_n rfl rfl ?_
    refine b_aload_n rfl rfl ?_
    refine b_getI rfl fl12_36 rfl (by decide) rfl ?_
    rw [hf.1]
    refine b_putI rfl fl12_42 rfl (by decide) rfl ?_
    refine b_aload_n rfl rfl ?_
    refine b_aload_n rfl rfl ?_
    refine b_getI rfl fl12_39 rfl (by decide) rfl ?_
    try simp only [up_ap, cpy_ap, fil_ap, row_ap, Nat.reduceEqDiff, Nat.reduceLT, Nat.reduceLeDiff, Int.toNat_natCast, Int.reduceToNat, reduceCtorEq, false_and, and_false, true_and, and_true, and_self, reduceIte]
    rw [hs.2]
    refine b_putI rfl fl12_45 rfl (by decide) rfl ?_
    refine b_aload_n rfl rfl ?_
    refine b_getI rfl fl12_36 rfl (by decide) rfl ?_
    try simp only [up_ap, cpy_ap, fil_ap, row_ap, Nat.reduceEqDiff, Nat.reduceLT, Nat.reduceLeDiff, Int.toNat_natCast, Int.reduceToNat, reduceCtorEq, false_and, and_false, true_and, and_true, and_self, reduceIte]
    rw [hf.1]
    refine b_if_le (tgt := 174) rfl rfl (fun c165 => ?_) (fun c165 => ?_)
    · refine b_aload_n rfl rfl ?_
      refine b_aload_n rfl rfl ?_
      refine b_getI rfl fl12_115 rfl (by decide) rfl ?_
      try simp only [up_ap, cpy_ap, fil_ap, row_ap, Nat.reduceEqDiff, Nat.reduceLT, Nat.reduceLeDiff, Int.toNat_natCast, Int.reduceToNat, reduceCtorEq, false_and, and_false, true_and, and_true, and_self, reduceIte]
      rw [h34]
      refine b_putI rfl fl12_51 rfl (by decide) rfl ?_
      refine b_aload_n rfl rfl ?_
      refine b_callV0v (ν := MX12_begin) rfl ml12_419 cvX12_begin (d' := 0) (by omega) rfl (by decide) rfl (Nat.le_of_ble_eq_true rfl) ?_
      refine sp_begin (m := m) (c := (I' 13 1).toNat) hm (by omega) (by rw [up_ap, if_pos ⟨rfl, rfl⟩]) (by rw [up_ap, if_neg (by omega), up_ap, if_neg (by omega), up_ap, if_neg (by omega)]; exact h62) ?_
      refine ⟨rfl, ?_⟩
      refine b_iload_n rfl rfl ?_
      refine b_iret rfl rfl ?_
      exact qI kk (by omega) rfl
    · omega
  have lp : ∀ (g N : Nat) (z : Int) (I : HI) (p : Nat) (K' H1 : HI), g + N = 81 → z = (N : Int) → I 12 9 = (N : Int) → (N = 80 → tk n (J 2) p = 0) → N ≤ 80 → FrB (hbK X n m) m K' → RDr I K' m → DX I → DI I p → p ≤ n → I 2 = J 2 → Mok K' n (J 2) p H1 → Tx n 81 (dr0 J) 0 = Tx n g I p → Bj MX12_harbour 7 116 [some (aR 57), some (aI z)] [] H1 Q := by
    intro g
    induction g with
    | zero => intro N z I p K' H1 hg hz h9 hN hN80; omega
    | succ g ih =>
      intro N z I p K' H1 hg hz h9 hN hN80 hF hR hX hI hp hI2 hM hO
      have hf := Mok_f hM
      have hs := Mok_si hM
      have eT : Tx n (g + 1) I p = (if tk n (I 2) p = 0 then .inr (I, p) else if g = 0 then .inl (6, (tq n (I 2) p : Int)) else match St n I p with
        | .inl e => .inl e
        | .inr (I1, p1) => if sg n (I 2) p1 59 then Tx n g (up I1 12 9 (I1 12 9 + 1)) (te n (I 2) p1) else .inl (1, (tsp n (I 2) p1 : Int))) := rfl
      rw [hI2] at eT
      have f134 : ∀ (z : Int) (e : Int × Int) (K2 H2 : HI), 0 ≤ z ∧ z ≤ 80 → Tx n (g + 1) I p = .inl e → FrB (hbK X n m) m K2 → Mbad K2 e.1 e.2 H2 → Bj MX12_harbour 7 134 [some (aR 57), some (aI z)] [] H2 Q := by
        intro z e K2 H2 hz hE hF2 hbd
        refine b_iincX (F := fun z134 => [some (aR 57), some (aI z134)]) rfl rfl (by omega) (by omega) (fun _ => rfl) (fun z134 ez134 => ?_)
        refine b_aload_n rfl rfl ?_
        refine b_iload_n rfl rfl ?_
        refine b_callV1v (ν := MX12_finishes) rfl ml12_416 cvX12_finishes (d' := 3) (by omega) rfl (by decide) rfl (Nat.le_of_ble_eq_true rfl) ?_
        refine mr_finishesB hbd ?_
        refine ⟨rfl, ?_⟩
        refine b_goto (tgt := 116) rfl rfl ?_
        exact fl _ _ _ _ (hO.trans hE) hF2 hbd
      have g134 : ∀ (z : Int) (I1 : HI) (p1 : Nat) (K2 H2 : HI), z = (N : Int) → tk n (J 2) p ≠ 0 → g ≠ 0 → St n I p = .inr (I1, p1) → FrB (hbK X n m) m K2 → RDr I1 K2 m → Mok K2 n (J 2) p1 H2 → Bj MX12_harbour 7 134 [some (aR 57), some (aI z)] [] H2 Q := by
        intro z I1 p1 K2 H2 hz hk0 hg0 hSt hF2 hR2 hM2
        obtain ⟨s1, s2, s3, s4, s5⟩ := gs_St hn hI I1 p1 hSt
        have hX1 := dx_St hX hI I1 p1 hSt
        have e2 : I1 2 = J 2 := by
          rw [← hI2]
          funext k
          exact s1 2 k (by omega) (by omega)
        have eS : Tx n (g + 1) I p = (if sg n (J 2) p1 59 then Tx n g (up I1 12 9 (I1 12 9 + 1)) (te n (J 2) p1) else .inl (1, (tsp n (J 2) p1 : Int))) := by
          rw [eT, if_neg hk0, if_neg hg0, hSt]
        have g142 : ∀ (z : Int) (H3 : HI), z = (N : Int) + 1 → sg n (J 2) p1 59 → ¬ (z = 80 ∧ tk n (J 2) (te n (J 2) p1) ≠ 0) → Mok K2 n (J 2) (te n (J 2) p1) H3 → Bj MX12_harbour 7 116 [some (aR 57), some (aI z)] [] H3 Q := by
          intro z H3 hz hsg hno hM3
          have hte := te_gp (sg_c hsg)
          refine ih (N + 1) z (up I1 12 9 (I1 12 9 + 1)) (te n (J 2) p1) K2 H3 (by omega) (by omega) ?_ (fun h80 => ?_) (by omega) hF2 (RDr_9 hR2) (DX_to hX1 (fun q k hq => by rw [up_ap, if_neg (by omega)])) (DI_9 s2 (by omega)) hte.2 ?_ hM3 (hO.trans (eS.trans (if_pos hsg)))
          · rw [up_ap, if_pos ⟨rfl, rfl⟩, s5, h9]; omega
          · by_cases e : tk n (J 2) (te n (J 2) p1) = 0
            · exact e
            · exact absurd ⟨by omega, e⟩ hno
          · funext k
            rw [up_ap, if_neg (by omega), e2]
        refine b_iincX (F := fun z134 => [some (aR 57), some (aI z134)]) rfl rfl (by omega) (by omega) (fun _ => rfl) (fun z134 ez134 => ?_)
        refine b_aload_n rfl rfl ?_
        refine b_iload_n rfl rfl ?_
        refine b_callV1v (ν := MX12_finishes) rfl ml12_416 cvX12_finishes (d' := 3) (by omega) rfl (by decide) rfl (Nat.le_of_ble_eq_true rfl) ?_
        refine mr_finishes (MTx_B hT hF2) s4 hM2 (fun h1 h2 H3 hM3 => ?_) (fun h1 h2 h3 H3 hbd => ?_) (fun h1 H3 hbd => ?_)
        · refine ⟨rfl, ?_⟩
          refine b_goto (tgt := 116) rfl rfl ?_
          first
          | (have q := hM3
             exact g142 _ _ (by omega) h1 h2 hM3)
          | (have q := h3
             refine fl _ (6, (tq n (J 2) (te n (J 2) p1) : Int)) K2 _ (hO.trans (eS.trans ((if_pos h1).trans ?_))) hF2 hbd
             have hg1 : g = 1 := by omega
             subst hg1
             have e22 : up I1 12 9 (I1 12 9 + 1) 2 = J 2 := by
               funext k
               rw [up_ap, if_neg (by omega), e2]
             rw [show Tx n 1 (up I1 12 9 (I1 12 9 + 1)) (te n (J 2) p1) = (if tk n (up I1 12 9 (I1 12 9 + 1) 2) (te n (J 2) p1) = 0 then .inr (up I1 12 9 (I1 12 9 + 1), te n (J 2) p1) else .inl (6, (tq n (up I1 12 9 (I1 12 9 + 1) 2) (te n (J 2) p1) : Int))) from rfl, e22, if_neg h3])
          | exact fl _ (1, (tsp n (J 2) p1 : Int)) K2 _ (hO.trans (eS.trans (if_neg h1))) hF2 hbd
        · refine ⟨rfl, ?_⟩
          refine b_goto (tgt := 116) rfl rfl ?_
          first
          | (have q := hM3
             exact g142 _ _ (by omega) h1 h2 hM3)
          | (have q := h3
             refine fl _ (6, (tq n (J 2) (te n (J 2) p1) : Int)) K2 _ (hO.trans (eS.trans ((if_pos h1).trans ?_))) hF2 hbd
             have hg1 : g = 1 := by omega
             subst hg1
             have e22 : up I1 12 9 (I1 12 9 + 1) 2 = J 2 := by
               funext k
               rw [up_ap, if_neg (by omega), e2]
             rw [show Tx n 1 (up I1 12 9 (I1 12 9 + 1)) (te n (J 2) p1) = (if tk n (up I1 12 9 (I1 12 9 + 1) 2) (te n (J 2) p1) = 0 then .inr (up I1 12 9 (I1 12 9 + 1), te n (J 2) p1) else .inl (6, (tq n (up I1 12 9 (I1 12 9 + 1) 2) (te n (J 2) p1) : Int))) from rfl, e22, if_neg h3])
          | exact fl _ (1, (tsp n (J 2) p1 : Int)) K2 _ (hO.trans (eS.trans (if_neg h1))) hF2 hbd
        · refine ⟨rfl, ?_⟩
          refine b_goto (tgt := 116) rfl rfl ?_
          first
          | (have q := hM3
             exact g142 _ _ (by omega) h1 h2 hM3)
          | (have q := h3
             refine fl _ (6, (tq n (J 2) (te n (J 2) p1) : Int)) K2 _ (hO.trans (eS.trans ((if_pos h1).trans ?_))) hF2 hbd
             have hg1 : g = 1 := by omega
             subst hg1
             have e22 : up I1 12 9 (I1 12 9 + 1) 2 = J 2 := by
               funext k
               rw [up_ap, if_neg (by omega), e2]
             rw [show Tx n 1 (up I1 12 9 (I1 12 9 + 1)) (te n (J 2) p1) = (if tk n (up I1 12 9 (I1 12 9 + 1) 2) (te n (J 2) p1) = 0 then .inr (up I1 12 9 (I1 12 9 + 1), te n (J 2) p1) else .inl (6, (tq n (up I1 12 9 (I1 12 9 + 1) 2) (te n (J 2) p1) : Int))) from rfl, e22, if_neg h3])
          | exact fl _ (1, (tsp n (J 2) p1 : Int)) K2 _ (hO.trans (eS.trans (if_neg h1))) hF2 hbd
      have gs : ∀ (H2 : HI), tk n (J 2) p ≠ 0 → g ≠ 0 → MSO n m (hbK X n m) I (St n I p) H2 → Bj MX12_harbour 7 134 [some (aR 57), some (aI z)] [] H2 Q := by
        intro H2 hk0 hg0 hS
        cases hSt : St n I p with
        | inl e =>
          rw [hSt] at hS
          obtain ⟨K2, hF2, hbd⟩ := hS
          exact f134 _ e K2 H2 (by omega) (by rw [eT, if_neg hk0, if_neg hg0, hSt]) hF2 hbd
        | inr y =>
          obtain ⟨I1, p1⟩ := y
          rw [hSt] at hS
          rcases hS with ⟨K2, hF2, hR2, hM2⟩ | ⟨h4, K2, hF2, hbd⟩
          · rw [hI2] at hM2
            exact g134 _ I1 p1 K2 H2 hz hk0 hg0 hSt hF2 hR2 hM2
          · rw [hI2] at h4 hbd
            refine f134 _ (1, (tsp n (J 2) p1 : Int)) K2 H2 (by omega) ?_ hF2 hbd
            rw [eT, if_neg hk0, if_neg hg0, hSt]
            exact if_neg (sg_4 h4)
      have hT' : MTx (hbK X n m) n (I 2) := by rw [hI2]; exact hT
      have hM' : Mok K' n (I 2) p H1 := by rw [hI2]; exact hM
      refine b_aload_n rfl rfl ?_
      refine b_getI rfl fl12_36 rfl (by decide) rfl ?_
      rw [hf.1]
      refine b_if_ne (tgt := 145) rfl rfl (fun c120 => ?_) (fun c120 => ?_)
      · omega
      · refine b_aload_n rfl rfl ?_
        refine b_getI rfl fl12_20 rfl (by decide) rfl ?_
        refine b_if_eq (tgt := 145) rfl rfl (fun c127 => ?_) (fun c127 => ?_)
        · exact gx _ I p K' _ (by omega) (hO.trans (by rw [eT]; exact if_pos (hs.1.1 c127))) hF hR hX hI hM
        · refine b_aload_n rfl rfl ?_
          refine b_callV0v (ν := MX12_statement) rfl ml12_413 cvX12_statement (d' := 6) (by omega) rfl (by decide) rfl (Nat.le_of_ble_eq_true rfl) ?_
          refine mr_statement hT' hF hR hI hX hp hM' (fun H2 s2 => ?_)
          refine ⟨rfl, ?_⟩
          have hk0 : tk n (J 2) p ≠ 0 := fun w => c127 (hs.1.2 w)
          exact gs _ hk0 (fun w => hk0 (hN (by omega))) s2
  have g112 : ∀ (z si sa va wo lx : Int), z = 0 → Bj MX12_harbour 7 112 [some (aR 57), some (aI z)] [] (MX (hbK X n m) si sa 0 va wo 0 (-1) lx) Q := by
    intro z si sa va wo lx hz
    refine b_aload_n rfl rfl ?_
    refine b_callV0v (ν := MX12_ahead) rfl ml12_253 cvX12_ahead (d' := 1) (by omega) rfl (by decide) rfl (Nat.le_of_ble_eq_true rfl) ?_
    refine sp_ahead (q := 0) hT ⟨Nat.zero_le _, fun h => absurd h (by decide)⟩ rfl (fun H1 hM1 => ?_)
    refine ⟨rfl, ?_⟩
    exact lp 81 0 _ (dr0 J) 0 _ _ rfl (by omega) rfl (fun h => absurd h (by decide)) (by decide) ⟨fun _ _ => rfl, fun _ _ => rfl, fun _ _ _ _ => rfl⟩ (RDr_0 hm) DX_0 (DI_0 hd) (Nat.zero_le _) rfl hM1 rfl
  have lp4 : ∀ (g i : Nat) (z si sa va wo lx : Int) (Y : HI), i + g = 4 → z = (i : Int) → Y 57 34 = (m : Int) → (∀ z si sa va wo lx, z = 0 → Bj MX12_harbour 7 112 [some (aR 57), some (aI z)] [] (MX (up (rg4 Y m 4) 57 33 0) si sa 0 va wo 0 (-1) lx) Q) → Bj MX12_harbour 7 80 [some (aR 57), some (aI z)] [] (MX (rg4 Y m i) si sa 0 va wo 0 (-1) lx) Q := by
    intro g
    induction g with
    | zero =>
      intro i z si sa va wo lx Y hg hz h34 kk
      have ei : i = 4 := by omega
      subst ei
      refine b_iload_n rfl rfl ?_
      refine b_iconst rfl (by decide) ?_
      refine b_icmp_ge (tgt := 105) rfl rfl (fun c82 => ?_) (fun c82 => ?_)
      · refine b_aload_n rfl rfl ?_
        refine b_iconst rfl (by decide) ?_
        refine b_putI rfl fl12_112 rfl (by decide) rfl ?_
        rw [MX_uo (by decide)]
        refine b_iconst rfl (by decide) ?_
        refine b_istoreX_n (F := fun z111 => [some (aR 57), some (aI z111)]) rfl (by decide) (fun _ => rfl) (fun z111 ez111 => ?_)
        exact kk _ _ _ _ _ _ (by omega)
      · omega
    | succ g ih =>
      intro i z si sa va wo lx Y hg hz h34 kk
      have ez : (4 * (m : Int) + z).toNat = 4 * m + i := by omega
      have h34' : rg4 Y m i 57 34 = (m : Int) := by
        rw [show rg4 Y m i 57 34 = Y 57 34 from if_neg (by omega)]
        exact h34
      refine b_iload_n rfl rfl ?_
      refine b_iconst rfl (by decide) ?_
      refine b_icmp_ge (tgt := 105) rfl rfl (fun c82 => ?_) (fun c82 => ?_)
      · omega
      · refine b_aload_n rfl rfl ?_
        refine b_getR (r := 71) rfl fl12_90 rfl (by decide) rfl rfl ?_
        refine b_iconst rfl (by decide) ?_
        refine b_aload_n rfl rfl ?_
        refine b_getI rfl fl12_115 rfl (by decide) rfl ?_
        rw [MXo (by decide)]
        rw [h34']
        refine b_imulN rfl (by omega) (by omega) ?_
        refine b_iload_n rfl rfl ?_
        refine b_iaddN rfl (by omega) (by omega) ?_
        refine b_iconst rfl (by decide) ?_
        refine b_iast rfl rfl (by omega) (by omega) ?_
        try simp only [tn6, tn4, tn2, tn144, tn24, tn_cast, Int.reduceToNat]
        rw [MX_ux (by decide)]
        refine b_iincX (F := fun z99 => [some (aR 57), some (aI z99)]) rfl rfl (by omega) (by omega) (fun _ => rfl) (fun z99 ez99 => ?_)
        refine b_goto (tgt := 80) rfl rfl ?_
        try rw [ez]
        rw [rg4_s]
        exact ih (i + 1) _ _ _ _ _ _ _ (by omega) (by omega) h34 kk
  have em : (1 : Int) - (b : Int) = (m : Int) := by omega
  rw [← MX_self (K := X)]
  refine b_aload_n rfl rfl ?_
  refine b_aload_n rfl rfl ?_
  refine b_getI rfl fl12_13 rfl (by decide) rfl ?_
  rw [MXo (by decide)]
  rw [h1]
  refine b_putI rfl fl12_17 rfl (by decide) rfl ?_
  rw [MX_uo (by decide)]
  refine b_aload_n rfl rfl ?_
  refine b_iconst rfl (by decide) ?_
  refine b_putI rfl fl12_13 rfl (by decide) rfl ?_
  rw [MX_uo (by decide)]
  refine b_aload_n rfl rfl ?_
  refine b_iconst rfl (by decide) ?_
  refine b_putI rfl fl12_26 rfl (by decide) rfl ?_
  rw [MX_u5]
  refine b_aload_n rfl rfl ?_
  refine b_iconst rfl (by decide) ?_
  refine b_putI rfl fl12_36 rfl (by decide) rfl ?_
  rw [MX_u8]
  refine b_aload_n rfl rfl ?_
  refine b_iconst rfl (by decide) ?_
  refine b_putI rfl fl12_39 rfl (by decide) rfl ?_
  rw [MX_u9]
  refine b_aload_n rfl rfl ?_
  refine b_iconst rfl (by decide) ?_
  refine b_aload_n rfl rfl ?_
  refine b_getI rfl fl12_51 rfl (by decide) rfl ?_
  rw [MXo (by decide)]
  try simp only [up_ap, cpy_ap, fil_ap, row_ap, Nat.reduceEqDiff, Nat.reduceLT, Nat.reduceLeDiff, Int.toNat_natCast, Int.reduceToNat, reduceCtorEq, false_and, and_false, true_and, and_true, and_self, reduceIte]
  rw [h13]
  refine b_isubN rfl (by omega) (by omega) ?_
  rw [em]
  refine b_putI rfl fl12_115 rfl (by decide) rfl ?_
  rw [MX_uo (by decide)]
  refine b_aload_n rfl rfl ?_
  refine b_getR (r := 59) rfl fl12_54 rfl (by decide) rfl rfl ?_
  refine b_aload_n rfl rfl ?_
  refine b_getI rfl fl12_115 rfl (by decide) rfl ?_
  rw [MXo (by decide)]
  try simp only [up_ap, cpy_ap, fil_ap, row_ap, Nat.reduceEqDiff, Nat.reduceLT, Nat.reduceLeDiff, Int.toNat_natCast, Int.reduceToNat, reduceCtorEq, false_and, and_false, true_and, and_true, and_self, reduceIte]
  refine b_iconst rfl (by decide) ?_
  try rw [Int.toNat_natCast]
  refine b_iast rfl rfl (by omega) (by omega) ?_
  try simp only [tn6, tn4, tn2, tn144, tn24, tn_cast, Int.reduceToNat]
  rw [MX_ux (by decide)]
  refine b_aload_n rfl rfl ?_
  refine b_getR (r := 62) rfl fl12_63 rfl (by decide) rfl rfl ?_
  refine b_aload_n rfl rfl ?_
  refine b_getI rfl fl12_115 rfl (by decide) rfl ?_
  rw [MXo (by decide)]
  try simp only [up_ap, cpy_ap, fil_ap, row_ap, Nat.reduceEqDiff, Nat.reduceLT, Nat.reduceLeDiff, Int.toNat_natCast, Int.reduceToNat, reduceCtorEq, false_and, and_false, true_and, and_true, and_self, reduceIte]
  refine b_iconst rfl (by decide) ?_
  try rw [Int.toNat_natCast]
  refine b_iast rfl rfl (by omega) (by omega) ?_
  try simp only [tn6, tn4, tn2, tn144, tn24, tn_cast, Int.reduceToNat]
  rw [MX_ux (by decide)]
  refine b_aload_n rfl rfl ?_
  refine b_getR (r := 67) rfl fl12_78 rfl (by decide) rfl rfl ?_
  refine b_aload_n rfl rfl ?_
  refine b_getI rfl fl12_115 rfl (by decide) rfl ?_
  rw [MXo (by decide)]
  try simp only [up_ap, cpy_ap, fil_ap, row_ap, Nat.reduceEqDiff, Nat.reduceLT, Nat.reduceLeDiff, Int.toNat_natCast, Int.reduceToNat, reduceCtorEq, false_and, and_false, true_and, and_true, and_self, reduceIte]
  refine b_iconst rfl (by decide) ?_
  try rw [Int.toNat_natCast]
  refine b_iast rfl rfl (by omega) (by omega) ?_
  try simp only [tn6, tn4, tn2, tn144, tn24, tn_cast, Int.reduceToNat]
  rw [MX_ux (by decide)]
  refine b_aload_n rfl rfl ?_
  refine b_getR (r := 70) rfl fl12_87 rfl (by decide) rfl rfl ?_
  refine b_aload_n rfl rfl ?_
  refine b_getI rfl fl12_115 rfl (by decide) rfl ?_
  rw [MXo (by decide)]
  try simp only [up_ap, cpy_ap, fil_ap, row_ap, Nat.reduceEqDiff, Nat.reduceLT, Nat.reduceLeDiff, Int.toNat_natCast, Int.reduceToNat, reduceCtorEq, false_and, and_false, true_and, and_true, and_self, reduceIte]
  refine b_iconst rfl (by decide) ?_
  try rw [Int.toNat_natCast]
  refine b_iast rfl rfl (by omega) (by omega) ?_
  try simp only [tn6, tn4, tn2, tn144, tn24, tn_cast, Int.reduceToNat]
  rw [MX_ux (by decide)]
  refine b_iconst rfl (by decide) ?_
  refine b_istoreX_n (F := fun z79 => [some (aR 57), some (aI z79)]) rfl (by decide) (fun _ => rfl) (fun z79 ez79 => ?_)
  try rw [Int.toNat_natCast]
  have := lp4 4 0 z79 (X 57 3) (X 57 4) (X 57 6) (X 57 7) (X 57 12) (up (up (up (up (up (up (up X 57 2 (n : Int)) 57 1 0) 57 34 (m : Int)) 59 m 0) 62 m 0) 67 m 0) 70 m 0) rfl (by omega) (by rw [up_ap, if_neg (by omega), up_ap, if_neg (by omega), up_ap, if_neg (by omega), up_ap, if_neg (by omega), up_ap, if_pos ⟨rfl, rfl⟩]) (fun z si sa va wo lx hz => g112 z si sa va wo lx hz)
  rw [rg4_0] at this
  exact this
end MHB
