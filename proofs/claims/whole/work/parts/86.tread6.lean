/-! ===== the class: the whole text ===== -/
theorem cl2_up {J : HI} {k : Nat} : up (up (fil (fil J 18 k (fun _ => 0)) 19 k (fun _ => 0)) 18 k 0) 19 k 0 = fil (fil J 18 (k + 1) (fun _ => 0)) 19 (k + 1) (fun _ => 0) := by
  funext q j
  rw [up_ap, up_ap, fil_ap, fil_ap, fil_ap, fil_ap]
  repeat' split
  all_goals first | rfl | omega
theorem sp_X3_clear_12 {I : HI} {Q : Option AV → HI → Prop} (kq : Q none (clrP I)) : Rj MX3_clear 0 [aR 12] I Q := by
  have lp2 : ∀ (n k : Nat) (z : Int) (J : HI), z = (k : Int) → k + n = 4 → (Q none (up (up (up (fil (fil J 18 4 (fun _ => 0)) 19 4 (fun _ => 0)) 12 7 0) 12 8 0) 12 9 0)) → Bj MX3_clear 0 22 [some (aR 12), some (aI z)] [] (fil (fil J 18 k (fun _ => 0)) 19 k (fun _ => 0)) Q := by
    intro n
    induction n with
    | zero =>
      intro k z J hz hk hq
      have ek : k = 4 := by omega
      subst ek
      refine b_iload_n rfl rfl ?_
      refine b_iconst rfl (by decide) ?_
      refine b_icmp_ge (tgt := 47) rfl rfl (fun c24 => ?_) (fun c24 => ?_)
      · refine b_aload_n rfl rfl ?_
        refine b_iconst rfl (by decide) ?_
        refine b_putI rfl fl3_33 rfl (by decide) rfl ?_
        refine b_aload_n rfl rfl ?_
        refine b_iconst rfl (by decide) ?_
        refine b_putI rfl fl3_37 rfl (by decide) rfl ?_
        refine b_aload_n rfl rfl ?_
        refine b_iconst rfl (by decide) ?_
        refine b_putI rfl fl3_40 rfl (by decide) rfl ?_
        refine b_vret rfl rfl ?_
        exact hq
      · omega
    | succ n ih =>
      intro k z J hz hk hq
      have ez : z.toNat = k := by omega
      refine b_iload_n rfl rfl ?_
      refine b_iconst rfl (by decide) ?_
      refine b_icmp_ge (tgt := 47) rfl rfl (fun c24 => ?_) (fun c24 => ?_)
      · omega
      · refine b_aload_n rfl rfl ?_
        refine b_getR (r := 18) rfl fl3_27 rfl (by decide) rfl rfl ?_
        refine b_iload_n rfl rfl ?_
        refine b_iconst rfl (by decide) ?_
        refine b_iast rfl rfl (by omega) (by omega) ?_
        refine b_aload_n rfl rfl ?_
        refine b_getR (r := 19) rfl fl3_30 rfl (by decide) rfl rfl ?_
        refine b_iload_n rfl rfl ?_
        refine b_iconst rfl (by decide) ?_
        refine b_iast rfl rfl (by omega) (by omega) ?_
        refine b_iincX (F := fun z41 => [some (aR 12), some (aI z41)]) rfl rfl (by omega) (by omega) (fun _ => rfl) (fun z41 ez41 => ?_)
        refine b_goto (tgt := 22) rfl rfl ?_
        rw [ez, cl2_up]
        exact ih (k + 1) _ J (by omega) (by omega) hq
  have lp1 : ∀ (n k : Nat) (z : Int) (J : HI), z = (k : Int) → k + n = 3 → (Q none (up (up (up (fil (fil (fil J 13 3 (fun _ => 0)) 18 4 (fun _ => 0)) 19 4 (fun _ => 0)) 12 7 0) 12 8 0) 12 9 0)) → Bj MX3_clear 0 2 [some (aR 12), some (aI z)] [] (fil J 13 k (fun _ => 0)) Q := by
    intro n
    induction n with
    | zero =>
      intro k z J hz hk hq
      have ek : k = 3 := by omega
      subst ek
      refine b_iload_n rfl rfl ?_
      refine b_iconst rfl (by decide) ?_
      refine b_icmp_ge (tgt := 20) rfl rfl (fun c4 => ?_) (fun c4 => ?_)
      · refine b_iconst rfl (by decide) ?_
        refine b_istoreX_n (F := fun z21 => [some (aR 12), some (aI z21)]) rfl (by decide) (fun _ => rfl) (fun z21 ez21 => ?_)
        refine b_eq rfl rfl (show _ = fil (fil (fil J 13 3 (fun _ => 0)) 18 0 (fun _ => 0)) 19 0 (fun _ => 0) by rw [fil_0, fil_0]) ?_
        exact lp2 4 0 _ _ (by omega) rfl hq
      · omega
    | succ n ih =>
      intro k z J hz hk hq
      have ez : z.toNat = k := by omega
      refine b_iload_n rfl rfl ?_
      refine b_iconst rfl (by decide) ?_
      refine b_icmp_ge (tgt := 20) rfl rfl (fun c4 => ?_) (fun c4 => ?_)
      · omega
      · refine b_aload_n rfl rfl ?_
        refine b_getR (r := 13) rfl fl3_9 rfl (by decide) rfl rfl ?_
        refine b_iload_n rfl rfl ?_
        refine b_iconst rfl (by decide) ?_
        refine b_iast rfl rfl (by omega) (by omega) ?_
        refine b_iincX (F := fun z14 => [some (aR 12), some (aI z14)]) rfl rfl (by omega) (by omega) (fun _ => rfl) (fun z14 ez14 => ?_)
        refine b_goto (tgt := 2) rfl rfl ?_
        rw [ez, fil_up (f := fun _ => 0)]
        exact ih (k + 1) _ J (by omega) (by omega) hq
  refine rj_of okX3_clear (Nat.le_of_ble_eq_true rfl) rfl ?_
  refine b_iconst rfl (by decide) ?_
  refine b_istoreX_n (F := fun z1 => [some (aR 12), some (aI z1)]) rfl (by decide) (fun _ => rfl) (fun z1 ez1 => ?_)
  refine b_eq rfl rfl (fil_0 (c := 13) (f := fun _ => 0)).symm ?_
  exact lp1 3 0 _ _ (by omega) rfl kq
section TRI
variable {J : HI} {Q : Option AV → HI → Prop} {n : Nat}
theorem DI_9 {I : HI} {p q : Nat} {x : Int} (h : DI I p) (hq : p ≤ q) : DI (up I 12 9 x) q := by
  refine ⟨fun j hj => ?_, fun s hs2 => ?_, ?_, ?_, fun w hw => ?_⟩
  · rw [up_ap, if_neg (by omega)]; exact h.1 j hj
  · rw [up_ap, if_neg (by omega)] at hs2
    rw [up_ap, if_neg (by omega)]; exact h.2.1 s hs2
  · rw [up_ap, if_neg (by omega)]; exact h.2.2.1
  · rw [up_ap, if_neg (by omega)]; have := h.2.2.2.1; omega
  · rw [up_ap, if_neg (by omega), up_ap, if_neg (by omega)]; exact h.2.2.2.2 w hw
theorem DA_9 {I I' : HI} {x : Int} (h : DA I I') : DA I (up I' 12 9 x) := by
  refine ⟨fun q k h1 h2 => by rw [up_ap, if_neg (by omega)]; exact h.1 q k h1 h2, fun j hj => ?_, ?_, ?_, fun w hw => ?_⟩
  · rw [up_ap, if_neg (by omega)]; exact h.2.1 j hj
  · rw [up_ap, if_neg (by omega)]; exact h.2.2.1
  · rw [up_ap, if_neg (by omega)]; exact h.2.2.2.1
  · rw [up_ap, if_neg (by omega), up_ap, if_neg (by omega)]; exact h.2.2.2.2 w hw
theorem FBd_tr {I I1 H : HI} {k pl : Int} (h : ∀ q k, ¬ (12 ≤ q ∧ q ≤ 22) → ¬ (q = 26 ∧ k = 2) → I1 q k = I q k) (hF : FBd I1 k pl H) : FBd I k pl H := by
  obtain ⟨I', h1, h2⟩ := hF
  exact ⟨I', ⟨fun q k a b => (h1.1 q k a b).trans (h q k a b), h1.2⟩, h2⟩
/-- the draft, cleared -/
def dr0 (J : HI) : HI := clrS_20 (clrP J)
theorem DI_0 (hd : dW J) : DI (dr0 J) 0 := by
  refine ⟨fun j hj => ?_, fun s hs => ?_, ?_, ?_, fun w hw => ?_⟩
  · rw [show dr0 J 13 j = if 13 = 13 ∧ j < 3 then 0 else J 13 j from rfl, if_pos ⟨rfl, hj⟩]
    omega
  · rw [show dr0 J 13 1 = 0 from rfl] at hs
    omega
  · rw [show dr0 J 12 7 = 0 from rfl]
    omega
  · rw [show dr0 J 12 7 = 0 from rfl]
    omega
  · exact hd w hw
theorem sp_X10_read (hX : TX J n) (hd : dW J) (k1 : ∀ I' p' ts tu H', Tx n 81 (dr0 J) 0 = .inr (I', p') → Lok I' n p' ts tu H' → Q (some (aI 1)) H') (k0 : ∀ e H', Tx n 81 (dr0 J) 0 = .inl e → FBd (dr0 J) e.1 e.2 H' → Q (some (aI 0)) H') : Rj MX10_read 82 [aR 11] J Q := by
  have hn := hX.2.1
  have hX0 : TX (dr0 J) n := hX
  refine rj_of okX10_read (Nat.le_of_ble_eq_true rfl) rfl ?_
  have fx : ∀ (z k pl : Int) (H1 : HI), FBd (dr0 J) k pl H1 → (∀ H', FBd (dr0 J) k pl H' → Q (some (aI 0)) H') → Bj MX10_read 82 106 [some (aR 11), some (aI z)] [] H1 Q := by
    intro z k pl H1 hF kk
    have hF' := hF
    obtain ⟨I', h3, po, st, sp, va, wo, ts, tu, e, h⟩ := hF
    subst e
    refine b_aload_n rfl rfl ?_
    refine b_getR (r := 24) rfl fl10_30 rfl (by decide) rfl rfl ?_
    refine b_getI rfl fl10_50 rfl (by decide) rfl ?_
    rw [LX_10]
    refine b_if_ne (tgt := 120) rfl rfl (fun c113 => ?_) (fun c113 => ?_)
    · refine b_iconst rfl (by decide) ?_
      refine b_zret rfl rfl (by first | decide | omega) ?_
      exact kk _ hF'
    · omega
  have fl : ∀ (z k pl : Int) (H1 : HI), FBd (dr0 J) k pl H1 → (∀ H', FBd (dr0 J) k pl H' → Q (some (aI 0)) H') → Bj MX10_read 82 23 [some (aR 11), some (aI z)] [] H1 Q := by
    intro z k pl H1 hF kk
    have hF' := hF
    obtain ⟨I', h3, po, st, sp, va, wo, ts, tu, e, h⟩ := hF
    subst e
    refine b_iload_n rfl rfl ?_
    refine b_bipush rfl (by decide) ?_
    refine b_icmp_gt (tgt := 106) rfl rfl (fun c26 => ?_) (fun c26 => ?_)
    · exact fx _ _ _ _ hF' kk
    · refine b_aload_n rfl rfl ?_
      refine b_getR (r := 24) rfl fl10_30 rfl (by decide) rfl rfl ?_
      refine b_getI rfl fl10_50 rfl (by decide) rfl ?_
      rw [LX_10]
      refine b_if_ne (tgt := 106) rfl rfl (fun c36 => ?_) (fun c36 => ?_)
      · exact fx _ _ _ _ hF' kk
      · omega
  have f87 : ∀ (z k pl : Int) (H1 : HI), 0 ≤ z ∧ z ≤ 80 → FBd (dr0 J) k pl H1 → (∀ H', FBd (dr0 J) k pl H' → Q (some (aI 0)) H') → Bj MX10_read 82 87 [some (aR 11), some (aI z)] [] H1 Q := by
    intro z k pl H1 hz hF kk
    obtain ⟨I', h3, po, st, sp, va, wo, ts, tu, e, h⟩ := hF
    subst e
    refine b_aload_n rfl rfl ?_
    refine b_getR (r := 12) rfl fl10_12 rfl (by decide) rfl rfl ?_
    refine b_dup rfl rfl ?_
    refine b_getI rfl fl10_71 rfl (by decide) rfl ?_
    rw [LXc (by decide)]
    refine b_iconst rfl (by decide) ?_
    refine b_iadd rfl ?_
    refine b_putI rfl fl10_71 rfl (by decide) rfl ?_
    rw [LX_ux (by decide)]
    refine b_iincX (F := fun z100 => [some (aR 11), some (aI z100)]) rfl rfl (by omega) (by omega) (fun _ => rfl) (fun z100 ez100 => ?_)
    refine b_goto (tgt := 23) rfl rfl ?_
    exact fl _ _ _ _ ⟨_, DA_9 h3, po, st, sp, va, wo, ts, tu, rfl, h⟩ kk
  have gx : ∀ (z : Int) (I : HI) (p : Nat) (H1 : HI), (∃ ts tu, Lok I n p ts tu H1) → (∀ ts tu H', Lok I n p ts tu H' → Q (some (aI 1)) H') → Bj MX10_read 82 106 [some (aR 11), some (aI z)] [] H1 Q := by
    intro z I p H1 hL kk
    obtain ⟨ts, tu, hL⟩ := hL
    have hL' := hL
    obtain ⟨po, va, e, h⟩ := hL
    subst e
    refine b_aload_n rfl rfl ?_
    refine b_getR (r := 24) rfl fl10_30 rfl (by decide) rfl rfl ?_
    refine b_getI rfl fl10_50 rfl (by decide) rfl ?_
    rw [LX_10]
    refine b_if_ne (tgt := 120) rfl rfl (fun c113 => ?_) (fun c113 => ?_)
    · omega
    · refine b_iconst rfl (by decide) ?_
      refine b_goto (tgt := 121) rfl rfl ?_
      refine b_zret rfl rfl (by first | decide | omega) ?_
      exact kk _ _ _ hL'
  have lp : ∀ (g N : Nat) (z : Int) (I : HI) (p : Nat) (H1 : HI), g + N = 81 → z = (N : Int) → TX I n → DI I p → p ≤ n → (∀ q k, ¬ (12 ≤ q ∧ q ≤ 22) → ¬ (q = 26 ∧ k = 2) → I q k = dr0 J q k) → I 12 9 = (N : Int) → (∃ ts tu, Lok I n p ts tu H1) → (∀ I' p' ts tu H', Tx n g I p = .inr (I', p') → Lok I' n p' ts tu H' → Q (some (aI 1)) H') → (∀ e H', Tx n g I p = .inl e → FBd (dr0 J) e.1 e.2 H' → Q (some (aI 0)) H') → Bj MX10_read 82 23 [some (aR 11), some (aI z)] [] H1 Q := by
    intro g
    induction g with
    | zero =>
      intro N z I p H1 hg hz hXI hI hp hfr h9 hL kk1 kk0
      refine b_iload_n rfl rfl ?_
      refine b_bipush rfl (by decide) ?_
      refine b_icmp_gt (tgt := 106) rfl rfl (fun c26 => ?_) (fun c26 => ?_)
      · exact gx _ I p _ hL (fun ts tu H' h => kk1 I p ts tu H' rfl h)
      · omega
    | succ g ih =>
      intro N z I p H1 hg hz hXI hI hp hfr h9 hL kk1 kk0
      obtain ⟨ts, tu, hL⟩ := hL
      have eT : Tx n (g + 1) I p = (if tk n (I 2) p = 0 then .inr (I, p) else if g = 0 then .inl (6, (tq n (I 2) p : Int)) else match St n I p with
        | .inl e => .inl e
        | .inr (I1, p1) => if sg n (I 2) p1 59 then Tx n g (up I1 12 9 (I1 12 9 + 1)) (te n (I 2) p1) else .inl (1, (tsp n (I 2) p1 : Int))) := rfl
      have g87 : ∀ (I1 : HI) (p1 : Nat) (H2 : HI), tk n (I 2) p ≠ 0 → g ≠ 0 → St n I p = .inr (I1, p1) → sg n (I 2) p1 59 → (∃ ts tu, Lok I1 n (te n (I 2) p1) ts tu H2) → Bj MX10_read 82 87 [some (aR 11), some (aI z)] [] H2 Q := by
        intro I1 p1 H2 hk0 hg0 hSt hsg hL2
        obtain ⟨s1, s2, s3, s4, s5⟩ := gs_St hn hI I1 p1 hSt
        have ht := te_gp (sg_c hsg)
        have eT2 : Tx n (g + 1) I p = Tx n g (up I1 12 9 (I1 12 9 + 1)) (te n (I 2) p1) := by
          rw [eT, if_neg hk0, if_neg hg0, hSt]
          exact if_pos hsg
        obtain ⟨ts, tu, po, va, e, h⟩ := hL2
        subst e
        have hX1 : TX (up I1 12 9 (I1 12 9 + 1)) n := by
          refine ⟨?_, hn, fun k => ?_, fun k hk => ?_⟩
          · rw [up_ap, if_neg (by omega), s1 1 1 (by omega) (by omega)]; exact hXI.1
          · rw [up_ap, if_neg (by omega), s1 2 k (by omega) (by omega)]; exact hXI.2.2.1 k
          · rw [up_ap, if_neg (by omega), s1 25 k (by omega) (by omega)]; exact hXI.2.2.2 k hk
        refine b_aload_n rfl rfl ?_
        refine b_getR (r := 12) rfl fl10_12 rfl (by decide) rfl rfl ?_
        refine b_dup rfl rfl ?_
        refine b_getI rfl fl10_71 rfl (by decide) rfl ?_
        rw [LXc (by decide)]
        refine b_iconst rfl (by decide) ?_
        refine b_iaddN rfl (by omega) (by omega) ?_
        refine b_putI rfl fl10_71 rfl (by decide) rfl ?_
        rw [LX_ux (by decide)]
        refine b_iincX (F := fun z100 => [some (aR 11), some (aI z100)]) rfl rfl (by omega) (by omega) (fun _ => rfl) (fun z100 ez100 => ?_)
        refine b_goto (tgt := 23) rfl rfl ?_
        refine ih (N + 1) _ (up I1 12 9 (I1 12 9 + 1)) (te n (I 2) p1) _ (by omega) (by omega) hX1 (DI_9 s2 (by omega)) ht.2 (fun q k a b => ?_) ?_ ⟨ts, tu, po, va, rfl, h⟩ (fun I' p' ts tu H' e => kk1 I' p' ts tu H' (eT2.trans e)) (fun e H' e2 => kk0 e H' (eT2.trans e2))
        · rw [up_ap, if_neg (by omega), s1 q k a b]
          exact hfr q k a b
        · rw [up_ap, if_pos ⟨rfl, rfl⟩, s5, h9]
          omega
      have g78 : ∀ (H2 : HI), tk n (I 2) p ≠ 0 → g ≠ 0 → SO n I (St n I p) H2 → Bj MX10_read 82 78 [some (aR 11), some (aI z)] [] H2 Q := by
        intro H2 hk0 hg0 hS
        cases hSt : St n I p with
        | inl e =>
          rw [hSt] at hS
          have hF := FBd_tr hfr hS
          refine b_aload_n rfl rfl ?_
          refine b_getR (r := 24) rfl fl10_30 rfl (by decide) rfl rfl ?_
          refine b_bipush rfl (by decide) ?_
          refine b_callV1v (ν := MX1_needSign) rfl ml10_67 cvX1_needSign (d' := 2) (by omega) rfl (by decide) rfl (Nat.le_of_ble_eq_true rfl) ?_
          refine fbd_needSign hF (fun H3 hF3 => ?_)
          refine ⟨rfl, ?_⟩
          exact f87 _ _ _ _ (by omega) hF3 (fun H' hF' => kk0 e H' (by rw [eT, if_neg hk0, if_neg hg0, hSt]) hF')
        | inr y =>
          obtain ⟨I1, p1⟩ := y
          rw [hSt] at hS
          obtain ⟨ts, tu, hL2⟩ := hS
          obtain ⟨s1, s2, s3, s4, s5⟩ := gs_St hn hI I1 p1 hSt
          have e2 : I1 2 = I 2 := by
            funext k
            exact s1 2 k (by omega) (by omega)
          have hX1 : TX I1 n := by
            refine ⟨?_, hn, fun k => ?_, fun k hk => ?_⟩
            · rw [s1 1 1 (by omega) (by omega)]; exact hXI.1
            · rw [s1 2 k (by omega) (by omega)]; exact hXI.2.2.1 k
            · rw [s1 25 k (by omega) (by omega)]; exact hXI.2.2.2 k hk
          refine b_aload_n rfl rfl ?_
          refine b_getR (r := 24) rfl fl10_30 rfl (by decide) rfl rfl ?_
          refine b_bipush rfl (by decide) ?_
          refine b_callV1v (ν := MX1_needSign) rfl ml10_67 cvX1_needSign (d' := 2) (by omega) rfl (by decide) rfl (Nat.le_of_ble_eq_true rfl) ?_
          refine sp_needSign hX1 hL2 (fun h1 H3 hL3 => ?_) (fun h1 H3 hb => ?_)
          · refine ⟨rfl, ?_⟩
            first
            | (rw [e2] at h1 hL3
               exact g87 I1 p1 _ hk0 hg0 hSt h1 ⟨_, _, hL3⟩)
            | (rw [e2] at h1 hb
               exact f87 _ _ _ _ (by omega) (FBd_tr (fun q k a b => (s1 q k a b).trans (hfr q k a b)) (fbd_of s2 (by omega) hb)) (fun H' hF' => kk0 _ H' (by rw [eT, if_neg hk0, if_neg hg0, hSt]; exact if_neg h1) hF'))
          · refine ⟨rfl, ?_⟩
            first
            | (rw [e2] at h1 hL3
               exact g87 I1 p1 _ hk0 hg0 hSt h1 ⟨_, _, hL3⟩)
            | (rw [e2] at h1 hb
               exact f87 _ _ _ _ (by omega) (FBd_tr (fun q k a b => (s1 q k a b).trans (hfr q k a b)) (fbd_of s2 (by omega) hb)) (fun H' hF' => kk0 _ H' (by rw [eT, if_neg hk0, if_neg hg0, hSt]; exact if_neg h1) hF'))
      have g74 : tk n (I 2) p ≠ 0 → g ≠ 0 → Bj MX10_read 82 74 [some (aR 11), some (aI z)] [] H1 Q := by
        intro hk0 hg0
        refine b_aload_n rfl rfl ?_
        refine b_callV0v (ν := MX10_readStatement) rfl ml10_64 cvX10_readStatement (d' := 81) (by omega) rfl (by decide) rfl (Nat.le_of_ble_eq_true rfl) ?_
        refine sp_X10_readStatement hXI hI hp hL (fun H2 s2 => ?_)
        refine ⟨rfl, ?_⟩
        exact g78 _ hk0 hg0 s2
      have hL' := hL
      obtain ⟨po, va, e, h⟩ := hL
      subst e
      refine b_iload_n rfl rfl ?_
      refine b_bipush rfl (by decide) ?_
      refine b_icmp_gt (tgt := 106) rfl rfl (fun c26 => ?_) (fun c26 => ?_)
      · omega
      · refine b_aload_n rfl rfl ?_
        refine b_getR (r := 24) rfl fl10_30 rfl (by decide) rfl rfl ?_
        refine b_getI rfl fl10_50 rfl (by decide) rfl ?_
        rw [LX_10]
        refine b_if_ne (tgt := 106) rfl rfl (fun c36 => ?_) (fun c36 => ?_)
        · omega
        · refine b_aload_n rfl rfl ?_
          refine b_getR (r := 24) rfl fl10_30 rfl (by decide) rfl rfl ?_
          refine b_getI rfl fl10_54 rfl (by decide) rfl ?_
          rw [LX_3]
          refine b_if_eq (tgt := 106) rfl rfl (fun c46 => ?_) (fun c46 => ?_)
          · exact gx _ I p _ ⟨_, _, hL'⟩ (fun ts tu H' h => kk1 I p ts tu H' (by rw [eT]; exact if_pos (by omega)) h)
          · refine b_iload_n rfl rfl ?_
            refine b_bipush rfl (by decide) ?_
            refine b_icmp_ne (tgt := 74) rfl rfl (fun c52 => ?_) (fun c52 => ?_)
            · exact g74 (by omega) (by omega)
            · refine b_aload_n rfl rfl ?_
              refine b_getR (r := 24) rfl fl10_30 rfl (by decide) rfl rfl ?_
              refine b_bipush rfl (by decide) ?_
              refine b_aload_n rfl rfl ?_
              refine b_getR (r := 24) rfl fl10_30 rfl (by decide) rfl rfl ?_
              refine b_getI rfl fl10_57 rfl (by decide) rfl ?_
              rw [LX_4]
              refine b_callV2v (ν := MX1_fail) rfl ml10_60 cvX1_fail (d' := 0) (by omega) rfl (by decide) rfl (Nat.le_of_ble_eq_true rfl) ?_
              refine sp_fail (by decide) hL' (fun H2 hb => ?_)
              refine ⟨rfl, ?_⟩
              refine b_goto (tgt := 100) rfl rfl ?_
              refine b_iincX (F := fun z100 => [some (aR 11), some (aI z100)]) rfl rfl (by omega) (by omega) (fun _ => rfl) (fun z100 ez100 => ?_)
              refine b_goto (tgt := 23) rfl rfl ?_
              exact fl _ _ _ _ (FBd_tr hfr (fbd_of hI (by omega) hb)) (fun H' hF' => kk0 _ H' (by rw [eT, if_neg (by omega)]; exact if_pos (by omega)) hF')
  refine b_aload_n rfl rfl ?_
  refine b_getR (r := 12) rfl fl10_12 rfl (by decide) rfl rfl ?_
  refine b_callV0v (ν := MX3_clear) rfl ml10_43 cvX3_clear (d' := 0) (by omega) rfl (by decide) rfl (Nat.le_of_ble_eq_true rfl) ?_
  refine sp_X3_clear_12 ?_
  refine ⟨rfl, ?_⟩
  refine b_aload_n rfl rfl ?_
  refine b_getR (r := 20) rfl fl10_21 rfl (by decide) rfl rfl ?_
  refine b_callV0v (ν := MX7_clear) rfl ml10_46 cvX7_clear (d' := 0) (by omega) rfl (by decide) rfl (Nat.le_of_ble_eq_true rfl) ?_
  refine sp_X7_clear_20 ?_
  refine ⟨rfl, ?_⟩
  refine b_aload_n rfl rfl ?_
  refine b_getR (r := 24) rfl fl10_30 rfl (by decide) rfl rfl ?_
  refine b_callV0v (ν := MX1_rewind) rfl ml10_47 cvX1_rewind (d' := 2) (by omega) rfl (by decide) rfl (Nat.le_of_ble_eq_true rfl) ?_
  refine sp_rewind hX0 (fun H1 hL1 => ?_)
  refine ⟨rfl, ?_⟩
  refine b_iconst rfl (by decide) ?_
  refine b_istoreX_n (F := fun z22 => [some (aR 11), some (aI z22)]) rfl (by decide) (fun _ => rfl) (fun z22 ez22 => ?_)
  exact lp 81 0 _ (dr0 J) 0 _ rfl (by omega) hX0 (DI_0 hd) (Nat.zero_le _) (fun _ _ _ _ => rfl) rfl ⟨_, _, hL1⟩ k1 k0
end TRI
