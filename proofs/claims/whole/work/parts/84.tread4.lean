/-! ===== the class: a formula's statement, a statement ===== -/
section TRG
variable {I H : HI} {Q : Option AV → HI → Prop} {n p : Nat} {ts tu : Int}
theorem tells12 {J : HI} {a : Nat} (ha : a < 4) (k1 : J 18 a < J 19 a → Q (some (aI 1)) J) (k0 : ¬ J 18 a < J 19 a → Q (some (aI 0)) J) : Rj MX3_tells 0 [aR 12, aI (a : Int)] J Q := by
  refine sp_X3_tells_12 (by omega) ?_
  rw [Int.toNat_natCast]
  by_cases h : J 18 a < J 19 a
  · rw [if_pos h]; exact k1 h
  · rw [if_neg h]; exact k0 h
theorem foI_DA {I' : HI} {f : Nat} {x : Int} (hI : DI I p) (h : FA (foI I f) I') : DA I (up I' 19 f x) := by
  have hc : ∀ q k, q ≠ 17 → q ≠ 18 → q ≠ 19 → ¬ (q = 12 ∧ k = 7) → ¬ (q = 26 ∧ k = 2) → up I' 19 f x q k = I q k := by
    intro q k h1 h2 h3 h4 h5
    rw [up_ap, if_neg (by omega), h.1 q k h1 h4]
    unfold foI
    rw [up_ap, if_neg (by omega), up_ap, if_neg (by omega)]
  refine ⟨fun q k h1 h2 => hc q k (by omega) (by omega) (by omega) (by omega) h2, fun k hk => ?_, ?_, ?_, fun w hw => ?_⟩
  · rw [hc 13 k (by decide) (by decide) (by decide) (by omega) (by omega)]
    exact hI.1 k hk
  · rw [up_ap, if_neg (by omega)]
    exact h.2.1
  · rw [up_ap, if_neg (by omega)]
    exact h.2.2
  · rw [hc 15 w (by decide) (by decide) (by decide) (by omega) (by omega), hc 16 w (by decide) (by decide) (by decide) (by omega) (by omega)]
    exact hI.2.2.2.2 w hw
theorem sp_X0_read {f : Nat} (hX : TX I n) (hI : DI I p) (hp : p ≤ n) (hf : f < 4) (hk : tk n (I 2) p = 1) (hL : Lok I n p ts tu H) (kq : ∀ H', SO n I (stFo n I f p) H' → Q none H') : Rj MX0_read 80 [aR 26, aI (f : Int)] H Q := by
  have hn := hX.2.1
  have p16 : p ≤ 1600 := by omega
  have hI7 := hI.2.2
  have ht := te_gp (Or.inl hk : tk n (I 2) p = 1 ∨ tk n (I 2) p = 2 ∨ tk n (I 2) p = 3)
  refine rj_of okX0_read (Nat.le_of_ble_eq_true rfl) rfl ?_
  have ek : I 12 7 = ((I 12 7).toNat : Int) := by omega
  have fin : ∀ (r : Res) (H2 : HI), ¬ I 18 f < I 19 f → r = P n (I 2) (seO f) (12 * n + 7) (if f = 3 then 0 else 3) 0 (te n (I 2) p) → RS (foI I f) n (I 12 7).toNat r H2 → Bj MX0_read 80 78 [some (aR 26), some (aI (f : Int))] [] H2 Q := by
    intro r H2 hT er hS
    cases r with
    | inl e =>
      obtain ⟨I', h1, po, st, sp, va, wo, ts, tu, e2, h3⟩ := hS
      subst e2
      refine b_aload_n rfl rfl ?_
      refine b_getR (r := 12) rfl fl0_15 rfl (by decide) rfl rfl ?_
      refine b_getR (r := 19) rfl fl0_58 rfl (by decide) rfl rfl ?_
      refine b_iload_n rfl rfl ?_
      refine b_aload_n rfl rfl ?_
      refine b_getR (r := 12) rfl fl0_15 rfl (by decide) rfl rfl ?_
      refine b_getI rfl fl0_48 rfl (by decide) rfl ?_
      rw [LXc (by decide)]
      refine b_iast rfl rfl (by omega) (by omega) ?_
      rw [LX_ux (by decide)]
      refine b_vret rfl rfl ?_
      refine kq _ (SO_l (e1 := e.1) (e2 := e.2) ?_ ⟨_, foI_DA (f := f) (x := I' 12 7) hI h1, po, st, sp, va, wo, ts, tu, ?_, h3⟩)
      · unfold stFo
        rw [if_neg hT, ← er]
      · rw [Int.toNat_natCast]
    | inr y =>
      obtain ⟨p', c⟩ := y
      obtain ⟨ts, tu, po, va, e, h⟩ := hS
      subst e
      refine b_aload_n rfl rfl ?_
      refine b_getR (r := 12) rfl fl0_15 rfl (by decide) rfl rfl ?_
      refine b_getR (r := 19) rfl fl0_58 rfl (by decide) rfl rfl ?_
      refine b_iload_n rfl rfl ?_
      refine b_aload_n rfl rfl ?_
      refine b_getR (r := 12) rfl fl0_15 rfl (by decide) rfl rfl ?_
      refine b_getI rfl fl0_48 rfl (by decide) rfl ?_
      rw [LXc (by decide)]
      refine b_iast rfl rfl (by omega) (by omega) ?_
      rw [LX_ux (by decide)]
      refine b_vret rfl rfl ?_
      refine kq _ (SO_r (I' := up (stW (foI I f) (I 12 7).toNat c) 19 f (((I 12 7).toNat + c.length : Nat) : Int)) (p' := p') (ts := ts) (tu := tu) ?_ ⟨po, va, ?_, h⟩)
      · unfold stFo
        rw [if_neg hT, ← er]
      · rw [Int.toNat_natCast]
        rfl
  have g35 : ∀ H1, ¬ I 18 f < I 19 f → (∃ ts tu, Lok I n (te n (I 2) p) ts tu H1) → Bj MX0_read 80 35 [some (aR 26), some (aI (f : Int))] [] H1 Q := by
    intro H1 hT hL1
    obtain ⟨ts, tu, po, va, e, h⟩ := hL1
    subst e
    have l5 : (((stl 5).length : Nat) : Int) = 4 := rfl
    have si : ∀ f : Fin 4, in32 ((stl 5).getD f.val 0) ∧ (stl 5).getD f.val 0 = (seO f.val : Int) ∧ seO f.val < 256 := by
      unfold in32
      decide
    have sf := si ⟨f, hf⟩
    have hX' : TX (foI I f) n := hX
    have hse : foI I f 26 2 = (seO f : Int) ∧ seO f < 256 := ⟨rfl, sf.2.2⟩
    have hS0 : RS (foI I f) n (I 12 7).toNat (.inr (te n (I 2) p, [])) (LX (foI I f) po (tk n (I 2) (te n (I 2) p) : Int) (tq n (I 2) (te n (I 2) p) : Int) (tsp n (I 2) (te n (I 2) p) : Int) va (tw n (I 2) (te n (I 2) p)) ts tu 0 (-1)) := by
      refine ⟨ts, tu, po, va, ?_, h⟩
      rw [stW_nil (by rw [← ek]; rfl)]
      rfl
    have hR0 : Ro (I 12 7).toNat 0 n (.inr (te n (I 2) p, [])) := ro_inr (by rw [List.length_nil]; omega)
    have hnf : ∀ m, NF (bnd (.inr (te n (I 2) p, [])) (P n (foI I f 2) (seO f) (12 * n + 7) m 0)) := by
      intro m
      rw [bnd_nil]
      exact nf_P _ _ _ _ ht.2 (by have := rk_le m; omega)
    have hall := ct_all (k0 := (I 12 7).toNat) hX' hse (12 * n + 7)
    refine b_aload_n rfl rfl ?_
    refine b_gets rfl (by decide) fs0_38 ?_
    refine b_iload_n rfl rfl ?_
    refine b_sald rfl (by decide) (by omega) (by omega) (by rw [Int.toNat_natCast]; exact sf.1) ?_
    rw [Int.toNat_natCast, sf.2.1]
    refine b_putI rfl fl0_42 rfl (by decide) rfl ?_
    rw [LX_ux (by decide)]
    refine b_aload_n rfl rfl ?_
    refine b_getR (r := 12) rfl fl0_15 rfl (by decide) rfl rfl ?_
    refine b_getR (r := 18) rfl fl0_45 rfl (by decide) rfl rfl ?_
    refine b_iload_n rfl rfl ?_
    refine b_aload_n rfl rfl ?_
    refine b_getR (r := 12) rfl fl0_15 rfl (by decide) rfl rfl ?_
    refine b_getI rfl fl0_48 rfl (by decide) rfl ?_
    rw [LXc (by decide)]
    refine b_iast rfl rfl (by omega) (by omega) ?_
    rw [LX_ux (by decide)]
    rw [Int.toNat_natCast, show up (up I 26 2 (seO f : Int)) 18 f (up I 26 2 (seO f : Int) 12 7) = foI I f from rfl]
    refine b_iload_n rfl rfl ?_
    refine b_iconst rfl (by decide) ?_
    refine b_icmp_ne (tgt := 73) rfl rfl (fun c62 => ?_) (fun c62 => ?_)
    · refine b_aload_n rfl rfl ?_
      refine b_iconst rfl (by decide) ?_
      refine b_callV1v (ν := MX0_readSum) rfl ml0_55 cvX0_readSum (d' := 79) (by omega) rfl (by decide) rfl (Nat.le_of_ble_eq_true rfl) ?_
      refine hall.2.2.2.1 0 _ _ _ _ (by decide) (by decide) hS0 hR0 (hnf 3) (fun H2 s2 => ?_)
      refine ⟨rfl, ?_⟩
      first
      | (have hz : f = 3 := by omega
         exact fin _ _ hT (by rw [bnd_nil, if_pos hz]; rfl) s2)
      | (have hz : ¬ f = 3 := by omega
         exact fin _ _ hT (by rw [bnd_nil, if_neg hz]; rfl) s2)
    · refine b_aload_n rfl rfl ?_
      refine b_iconst rfl (by decide) ?_
      refine b_callV1v (ν := MX0_readTest) rfl ml0_51 cvX0_readTest (d' := 79) (by omega) rfl (by decide) rfl (Nat.le_of_ble_eq_true rfl) ?_
      refine hall.1 0 _ _ _ _ (by decide) (by decide) hS0 hR0 (hnf 0) (fun H2 s2 => ?_)
      refine ⟨rfl, ?_⟩
      refine b_goto (tgt := 78) rfl rfl ?_
      first
      | (have hz : f = 3 := by omega
         exact fin _ _ hT (by rw [bnd_nil, if_pos hz]; rfl) s2)
      | (have hz : ¬ f = 3 := by omega
         exact fin _ _ hT (by rw [bnd_nil, if_neg hz]; rfl) s2)
  have hL' := hL
  obtain ⟨po, va, e, h⟩ := hL
  subst e
  refine b_aload_n rfl rfl ?_
  refine b_getR (r := 12) rfl fl0_15 rfl (by decide) rfl rfl ?_
  refine b_iload_n rfl rfl ?_
  refine b_callV1i (ν := MX3_tells) rfl ml0_19 cvX3_tells (d' := 0) (by omega) rfl (by decide) rfl (Nat.le_of_ble_eq_true rfl) ?_
  refine tells12 hf (fun hT => ?_) (fun hT => ?_)
  · refine ⟨_, rfl, ?_⟩
    refine b_if_eq (tgt := 28) rfl rfl (fun z => absurd z (by decide)) (fun _ => ?_)
    refine b_aload_n rfl rfl ?_
    refine b_getR (r := 24) rfl fl0_9 rfl (by decide) rfl rfl ?_
    refine b_bipush rfl (by decide) ?_
    refine b_aload_n rfl rfl ?_
    refine b_getR (r := 24) rfl fl0_9 rfl (by decide) rfl rfl ?_
    refine b_getI rfl fl0_25 rfl (by decide) rfl ?_
    rw [LX_4]
    refine b_callV2v (ν := MX1_fail) rfl ml0_31 cvX1_fail (d' := 0) (by omega) rfl (by decide) rfl (Nat.le_of_ble_eq_true rfl) ?_
    refine sp_fail (by decide) hL' (fun H2 hb => ?_)
    refine ⟨rfl, ?_⟩
    refine b_vret rfl rfl ?_
    exact kq _ (SO_l (if_pos hT) (fbd_of hI p16 hb))
  · refine ⟨_, rfl, ?_⟩
    refine b_if_eq (tgt := 28) rfl rfl (fun _ => ?_) (fun z => absurd z (by decide))
    refine b_aload_n rfl rfl ?_
    refine b_getR (r := 24) rfl fl0_9 rfl (by decide) rfl rfl ?_
    refine b_callV0v (ν := MX1_take) rfl ml0_35 cvX1_take (d' := 1) (by omega) rfl (by decide) rfl (Nat.le_of_ble_eq_true rfl) ?_
    refine sp_take hX hL' (Or.inl hk) (fun H1 hL1 => ?_)
    refine ⟨rfl, ?_⟩
    exact g35 _ hT ⟨_, _, hL1⟩
end TRG
