/-! ===== the class: TextReader's statements ===== -/
section TRE
variable {I H : HI} {Q : Option AV → HI → Prop} {n p : Nat} {ts tu : Int}
theorem SO_e {r r' : SRt} (h : r = r') (s : SO n I r' H) : SO n I r H := by
  rw [h]
  exact s
theorem stl_in : ∀ j : Fin 5, ∀ k : Fin 3, in32 ((stl j.val).getD k.val 0) ∧ 0 ≤ (stl j.val).getD k.val 0 := by
  unfold in32
  decide
theorem LX_thI {po ki st sp va wo ts tu fa pl : Int} {k : Nat} {v a b : Int} : thI (LX I po ki st sp va wo ts tu fa pl) k v a b = LX (thI I k v a b) po ki st sp va wo ts tu fa pl := by
  unfold thI
  rw [LX_ux (by decide), LX_ux (by decide), LX_ux (by decide), LX_ux (by decide)]
  rfl
theorem sp_X10_readThing {kk : Nat} (hX : TX I n) (hI : DI I p) (hp : p ≤ n) (hkk : kk < 3) (hk : tk n (I 2) p = 1) (hL : Lok I n p ts tu H) (kq : ∀ H', SO n I (stTh n I kk p) H' → Q none H') : Rj MX10_readThing 3 [aR 11, aI (kk : Int)] H Q := by
  have hn := hX.2.1
  have hc := hI.1 kk hkk
  have p16 : p ≤ 1600 := by omega
  refine rj_of okX10_readThing (Nat.le_of_ble_eq_true rfl) rfl ?_
  have l0 : (((stl 0).length : Nat) : Int) = 3 := rfl
  have l1 : (((stl 1).length : Nat) : Int) = 3 := rfl
  have l2 : (((stl 2).length : Nat) : Int) = 3 := rfl
  have l3 : (((stl 3).length : Nat) : Int) = 3 := rfl
  have l4 : (((stl 4).length : Nat) : Int) = 3 := rfl
  have sv : ∀ j, (stl j).getD ((kk : Int)).toNat 0 = stl_ j kk := fun j => by rw [Int.toNat_natCast]; rfl
  have si : ∀ j, j < 5 → in32 ((stl j).getD ((kk : Int)).toNat 0) := fun j hj => by rw [Int.toNat_natCast]; exact (stl_in ⟨j, hj⟩ ⟨kk, hkk⟩).1
  have s0 : ∀ j, j < 5 → 0 ≤ stl_ j kk := fun j hj => (stl_in ⟨j, hj⟩ ⟨kk, hkk⟩).2
  have f135 : ∀ (k pl : Int) (x2 x3 x4 : Option AV) (H1 : HI), FBd I k pl H1 → (∀ H', FBd I k pl H' → Q none H') → Bj MX10_readThing 3 135 [some (aR 11), some (aI (kk : Int)), x2, x3, x4] [] H1 Q := by
    intro k pl x2 x3 x4 H1 hF k1
    have hF' := hF
    obtain ⟨I', h3, po, st, sp, va, wo, ts, tu, e, h⟩ := hF
    subst e
    refine b_aload_n rfl rfl ?_
    refine b_getR (r := 24) rfl fl10_30 rfl (by decide) rfl rfl ?_
    refine b_getI rfl fl10_50 rfl (by decide) rfl ?_
    rw [LX_10]
    refine b_if_ne (tgt := 157) rfl rfl (fun c142 => ?_) (fun c142 => ?_)
    · refine b_vret rfl rfl ?_
      exact k1 _ hF'
    · omega
  have f111 : ∀ (k pl : Int) (x2 : Option AV) (x3 : Int) (H1 : HI), FBd I k pl H1 → (∀ H', FBd I k pl H' → Q none H') → Bj MX10_readThing 3 111 [some (aR 11), some (aI (kk : Int)), x2, some (aI x3), none] [] H1 Q := by
    intro k pl x2 x3 H1 hF k1
    refine b_aload_n rfl rfl ?_
    refine b_getR (r := 24) rfl fl10_30 rfl (by decide) rfl rfl ?_
    refine b_iload_n rfl rfl ?_
    refine b_iconst rfl (by decide) ?_
    refine b_icmp_ne (tgt := 124) rfl rfl (fun c117 => ?_) (fun c117 => ?_)
    · refine b_iconst rfl (by decide) ?_
      refine b_gets rfl (by decide) fs10_132 ?_
      refine b_iload_n rfl rfl ?_
      refine b_sald rfl (by decide) (by omega) (by omega) (si 4 (by decide)) ?_
      refine b_callV2i (ν := MX1_needNumber) rfl ml10_125 cvX1_needNumber (d' := 2) (by omega) rfl (by decide) rfl (Nat.le_of_ble_eq_true rfl) ?_
      refine fbd_needNumber hF (fun H2 hF2 => ?_)
      refine ⟨_, rfl, ?_⟩
      refine b_istoreX (F := fun z133 => [some (aR 11), some (aI (kk : Int)), x2, some (aI x3), some (aI z133)]) rfl (by decide) (fun _ => rfl) (fun z133 ez133 => ?_)
      exact f135 _ _ _ _ _ _ hF2 k1
    · refine b_iload_n rfl rfl ?_
      refine b_goto (tgt := 125) rfl rfl ?_
      refine b_gets rfl (by decide) fs10_132 ?_
      refine b_iload_n rfl rfl ?_
      refine b_sald rfl (by decide) (by omega) (by omega) (si 4 (by decide)) ?_
      refine b_callV2i (ν := MX1_needNumber) rfl ml10_125 cvX1_needNumber (d' := 2) (by omega) rfl (by decide) rfl (Nat.le_of_ble_eq_true rfl) ?_
      refine fbd_needNumber hF (fun H2 hF2 => ?_)
      refine ⟨_, rfl, ?_⟩
      refine b_istoreX (F := fun z133 => [some (aR 11), some (aI (kk : Int)), x2, some (aI x3), some (aI z133)]) rfl (by decide) (fun _ => rfl) (fun z133 ez133 => ?_)
      exact f135 _ _ _ _ _ _ hF2 k1
  have f99 : ∀ (k pl : Int) (x2 : Option AV) (x3 : Int) (H1 : HI), FBd I k pl H1 → (∀ H', FBd I k pl H' → Q none H') → Bj MX10_readThing 3 99 [some (aR 11), some (aI (kk : Int)), x2, some (aI x3), none] [] H1 Q := by
    intro k pl x2 x3 H1 hF k1
    refine b_aload_n rfl rfl ?_
    refine b_getR (r := 24) rfl fl10_30 rfl (by decide) rfl rfl ?_
    refine b_gets rfl (by decide) fs10_129 ?_
    refine b_iload_n rfl rfl ?_
    refine b_sald rfl (by decide) (by omega) (by omega) (si 3 (by decide)) ?_
    refine b_callV1v (ν := MX1_needWord) rfl ml10_116 cvX1_needWord (d' := 2) (by omega) rfl (by decide) rfl (Nat.le_of_ble_eq_true rfl) ?_
    refine fbd_needWord hF (fun H2 hF2 => ?_)
    refine ⟨rfl, ?_⟩
    exact f111 _ _ _ _ _ hF2 k1
  have f81 : ∀ (k pl : Int) (x2 : Int) (H1 : HI), FBd I k pl H1 → (∀ H', FBd I k pl H' → Q none H') → Bj MX10_readThing 3 81 [some (aR 11), some (aI (kk : Int)), some (aI x2), none, none] [] H1 Q := by
    intro k pl x2 H1 hF k1
    refine b_aload_n rfl rfl ?_
    refine b_getR (r := 24) rfl fl10_30 rfl (by decide) rfl rfl ?_
    refine b_gets rfl (by decide) fs10_119 ?_
    refine b_iload_n rfl rfl ?_
    refine b_sald rfl (by decide) (by omega) (by omega) (si 1 (by decide)) ?_
    refine b_gets rfl (by decide) fs10_122 ?_
    refine b_iload_n rfl rfl ?_
    refine b_sald rfl (by decide) (by omega) (by omega) (si 2 (by decide)) ?_
    refine b_callV2i (ν := MX1_needNumber) rfl ml10_125 cvX1_needNumber (d' := 2) (by omega) rfl (by decide) rfl (Nat.le_of_ble_eq_true rfl) ?_
    refine fbd_needNumber hF (fun H2 hF2 => ?_)
    refine ⟨_, rfl, ?_⟩
    refine b_istoreX_n (F := fun z98 => [some (aR 11), some (aI (kk : Int)), some (aI x2), some (aI z98), none]) rfl (by decide) (fun _ => rfl) (fun z98 ez98 => ?_)
    exact f99 _ _ _ _ _ hF2 k1
  have f69 : ∀ (k pl : Int) (x2 : Int) (H1 : HI), FBd I k pl H1 → (∀ H', FBd I k pl H' → Q none H') → Bj MX10_readThing 3 69 [some (aR 11), some (aI (kk : Int)), some (aI x2), none, none] [] H1 Q := by
    intro k pl x2 H1 hF k1
    refine b_aload_n rfl rfl ?_
    refine b_getR (r := 24) rfl fl10_30 rfl (by decide) rfl rfl ?_
    refine b_gets rfl (by decide) fs10_113 ?_
    refine b_iload_n rfl rfl ?_
    refine b_sald rfl (by decide) (by omega) (by omega) (si 0 (by decide)) ?_
    refine b_callV1v (ν := MX1_needWord) rfl ml10_116 cvX1_needWord (d' := 2) (by omega) rfl (by decide) rfl (Nat.le_of_ble_eq_true rfl) ?_
    refine fbd_needWord hF (fun H2 hF2 => ?_)
    refine ⟨rfl, ?_⟩
    exact f81 _ _ _ _ hF2 k1
  have f46 : ∀ (k pl : Int) (x2 : Int) (H1 : HI), FBd I k pl H1 → (∀ H', FBd I k pl H' → Q none H') → Bj MX10_readThing 3 46 [some (aR 11), some (aI (kk : Int)), some (aI x2), none, none] [] H1 Q := by
    intro k pl x2 H1 hF k1
    have hF' := hF
    obtain ⟨I', h3, po, st, sp, va, wo, ts, tu, e, h⟩ := hF
    subst e
    refine b_aload_n rfl rfl ?_
    refine b_iload_n rfl rfl ?_
    refine b_callV1i (ν := MX10_isGiven) rfl ml10_106 cvX10_isGiven (d' := 1) (by omega) rfl (by decide) rfl (Nat.le_of_ble_eq_true rfl) ?_
    refine sp_X10_isGiven (FBd_c13 hF') (fun g => ?_) (fun g => ?_)
    · refine ⟨_, rfl, ?_⟩
      refine b_if_eq (tgt := 69) rfl rfl (fun z => absurd z (by decide)) (fun _ => ?_)
      refine b_aload_n rfl rfl ?_
      refine b_getR (r := 24) rfl fl10_30 rfl (by decide) rfl rfl ?_
      refine b_iconst rfl (by decide) ?_
      refine b_aload_n rfl rfl ?_
      refine b_getR (r := 24) rfl fl10_30 rfl (by decide) rfl rfl ?_
      refine b_getI rfl fl10_110 rfl (by decide) rfl ?_
      rw [LX_8]
      refine b_callV2v (ν := MX1_fail) rfl ml10_60 cvX1_fail (d' := 0) (by omega) rfl (by decide) rfl (Nat.le_of_ble_eq_true rfl) ?_
      refine fbd_fail hF' (fun H2 hF2 => ?_)
      refine ⟨rfl, ?_⟩
      first
      | exact f69 _ _ _ _ hF2 k1
      | exact f69 _ _ _ _ hF' k1
    · refine ⟨_, rfl, ?_⟩
      refine b_if_eq (tgt := 69) rfl rfl (fun _ => ?_) (fun z => absurd z (by decide))
      first
      | exact f69 _ _ _ _ hF2 k1
      | exact f69 _ _ _ _ hF' k1
  have g135 : ∀ (v a b : Int) (p6 : Nat) (H1 : HI), I 13 kk < 6 → (∃ ts tu, Lok I n p6 ts tu H1) → (∀ H', SO n I (.inr (thI I kk v a b, p6)) H' → Q none H') → Bj MX10_readThing 3 135 [some (aR 11), some (aI (kk : Int)), some (aI v), some (aI a), some (aI b)] [] H1 Q := by
    intro v a b p6 H1 h6 hL1 k1
    obtain ⟨ts, tu, po, va, e, h⟩ := hL1
    subst e
    refine b_aload_n rfl rfl ?_
    refine b_getR (r := 24) rfl fl10_30 rfl (by decide) rfl rfl ?_
    refine b_getI rfl fl10_50 rfl (by decide) rfl ?_
    rw [LX_10]
    refine b_if_ne (tgt := 157) rfl rfl (fun c142 => ?_) (fun c142 => ?_)
    · omega
    · refine b_aload_n rfl rfl ?_
      refine b_getR (r := 12) rfl fl10_12 rfl (by decide) rfl rfl ?_
      refine b_iload_n rfl rfl ?_
      refine b_iload_n rfl rfl ?_
      refine b_iload_n rfl rfl ?_
      refine b_iload rfl rfl ?_
      refine b_callV4v (ν := MX3_add) rfl ml10_135 cvX3_add (d' := 0) (by omega) rfl (by decide) rfl (Nat.le_of_ble_eq_true rfl) ?_
      refine sp_X3_add_12 hkk ⟨hc.1, h6⟩ ?_
      rw [LX_thI]
      refine ⟨rfl, ?_⟩
      refine b_vret rfl rfl ?_
      exact k1 _ (SO_r rfl ⟨po, va, rfl, h⟩)
  have g111 : ∀ (v a : Int) (p5 : Nat) (H1 : HI), I 13 kk < 6 → (∃ ts tu, Lok I n p5 ts tu H1) → (∀ H', SO n I (kTh4 n I kk v a p5) H' → Q none H') → Bj MX10_readThing 3 111 [some (aR 11), some (aI (kk : Int)), some (aI v), some (aI a), none] [] H1 Q := by
    intro v a p5 H1 h6 hL1 k1
    obtain ⟨ts, tu, hL1⟩ := hL1
    have st : ∀ x : Int, x = (if kk = 2 then a else 0) → Rj MX1_needNumber 2 [aR 24, aI x, aI (stl_ 4 kk)] H1 (fun r I' => ∃ x, r = some (aI x) ∧ Bj MX10_readThing 3 133 [some (aR 11), some (aI (kk : Int)), some (aI v), some (aI a), none] [aI x] I' Q) := by
      intro x hx
      refine sp_needNumber hX hL1 (fun h1 h2 h3 H2 hL2 => ⟨_, rfl, ?_⟩) (fun h1 h2 H2 hb => ⟨_, rfl, ?_⟩) (fun h1 H2 hb => ⟨_, rfl, ?_⟩)
      · skip
        refine b_istoreX (F := fun z133 => [some (aR 11), some (aI (kk : Int)), some (aI v), some (aI a), some (aI z133)]) rfl (by decide) (fun _ => rfl) (fun z133 ez133 => ?_)
        refine g135 _ _ _ _ _ h6 ⟨_, _, hL2⟩ (fun H' s => k1 _ (SO_e ?_ s))
        rw [ez133]
        exact (if_pos h1).trans (if_pos ⟨by rw [← hx]; exact h2, h3⟩)
      · skip
        refine b_istoreX (F := fun z133 => [some (aR 11), some (aI (kk : Int)), some (aI v), some (aI a), some (aI z133)]) rfl (by decide) (fun _ => rfl) (fun z133 ez133 => ?_)
        exact f135 _ _ _ _ _ _ (fbd_of hI p16 hb) (fun H' hF => k1 _ (SO_l ((if_pos h1).trans (if_neg (by rw [← hx]; exact h2))) hF))
      · skip
        refine b_istoreX (F := fun z133 => [some (aR 11), some (aI (kk : Int)), some (aI v), some (aI a), some (aI z133)]) rfl (by decide) (fun _ => rfl) (fun z133 ez133 => ?_)
        exact f135 _ _ _ _ _ _ (fbd_of hI p16 hb) (fun H' hF => k1 _ (SO_l (if_neg h1) hF))
    refine b_aload_n rfl rfl ?_
    refine b_getR (r := 24) rfl fl10_30 rfl (by decide) rfl rfl ?_
    refine b_iload_n rfl rfl ?_
    refine b_iconst rfl (by decide) ?_
    refine b_icmp_ne (tgt := 124) rfl rfl (fun c117 => ?_) (fun c117 => ?_)
    · refine b_iconst rfl (by decide) ?_
      refine b_gets rfl (by decide) fs10_132 ?_
      refine b_iload_n rfl rfl ?_
      refine b_sald rfl (by decide) (by omega) (by omega) (si 4 (by decide)) ?_
      rw [sv]
      refine b_callV2i (ν := MX1_needNumber) rfl ml10_125 cvX1_needNumber (d' := 2) (by omega) rfl (by decide) rfl (Nat.le_of_ble_eq_true rfl) ?_
      first
      | (have hz : kk = 2 := by omega
         exact st _ (if_pos hz).symm)
      | (have hz : ¬ kk = 2 := by omega
         exact st _ (if_neg hz).symm)
    · refine b_iload_n rfl rfl ?_
      refine b_goto (tgt := 125) rfl rfl ?_
      refine b_gets rfl (by decide) fs10_132 ?_
      refine b_iload_n rfl rfl ?_
      refine b_sald rfl (by decide) (by omega) (by omega) (si 4 (by decide)) ?_
      rw [sv]
      refine b_callV2i (ν := MX1_needNumber) rfl ml10_125 cvX1_needNumber (d' := 2) (by omega) rfl (by decide) rfl (Nat.le_of_ble_eq_true rfl) ?_
      first
      | (have hz : kk = 2 := by omega
         exact st _ (if_pos hz).symm)
      | (have hz : ¬ kk = 2 := by omega
         exact st _ (if_neg hz).symm)
  have g99 : ∀ (v a : Int) (p4 : Nat) (H1 : HI), I 13 kk < 6 → (∃ ts tu, Lok I n p4 ts tu H1) → (∀ H', SO n I (kTh3 n I kk v a p4) H' → Q none H') → Bj MX10_readThing 3 99 [some (aR 11), some (aI (kk : Int)), some (aI v), some (aI a), none] [] H1 Q := by
    intro v a p4 H1 h6 hL1 k1
    obtain ⟨ts, tu, hL1⟩ := hL1
    refine b_aload_n rfl rfl ?_
    refine b_getR (r := 24) rfl fl10_30 rfl (by decide) rfl rfl ?_
    refine b_gets rfl (by decide) fs10_129 ?_
    refine b_iload_n rfl rfl ?_
    refine b_sald rfl (by decide) (by omega) (by omega) (si 3 (by decide)) ?_
    rw [sv]
    refine b_callV1v (ν := MX1_needWord) rfl ml10_116 cvX1_needWord (d' := 2) (by omega) rfl (by decide) rfl (Nat.le_of_ble_eq_true rfl) ?_
    exact sp_needWord hX (s0 3 (by decide)) hL1 (fun hw H2 hL2 => ⟨rfl, g111 _ _ _ _ h6 ⟨_, _, hL2⟩ (fun H' s => k1 _ (SO_e (if_pos hw) s))⟩) (fun hw H2 hb => ⟨rfl, f111 _ _ _ _ _ (fbd_of hI p16 hb) (fun H' hF => k1 _ (SO_l (if_neg hw) hF))⟩)
  have g81 : ∀ (v : Int) (p3 : Nat) (H1 : HI), I 13 kk < 6 → (∃ ts tu, Lok I n p3 ts tu H1) → (∀ H', SO n I (kTh2 n I kk v p3) H' → Q none H') → Bj MX10_readThing 3 81 [some (aR 11), some (aI (kk : Int)), some (aI v), none, none] [] H1 Q := by
    intro v p3 H1 h6 hL1 k1
    obtain ⟨ts, tu, hL1⟩ := hL1
    refine b_aload_n rfl rfl ?_
    refine b_getR (r := 24) rfl fl10_30 rfl (by decide) rfl rfl ?_
    refine b_gets rfl (by decide) fs10_119 ?_
    refine b_iload_n rfl rfl ?_
    refine b_sald rfl (by decide) (by omega) (by omega) (si 1 (by decide)) ?_
    rw [sv]
    refine b_gets rfl (by decide) fs10_122 ?_
    refine b_iload_n rfl rfl ?_
    refine b_sald rfl (by decide) (by omega) (by omega) (si 2 (by decide)) ?_
    rw [sv]
    refine b_callV2i (ν := MX1_needNumber) rfl ml10_125 cvX1_needNumber (d' := 2) (by omega) rfl (by decide) rfl (Nat.le_of_ble_eq_true rfl) ?_
    refine sp_needNumber hX hL1 (fun h1 h2 h3 H2 hL2 => ?_) (fun h1 h2 H2 hb => ?_) (fun h1 H2 hb => ?_)
    · refine ⟨_, rfl, ?_⟩
      refine b_istoreX_n (F := fun z98 => [some (aR 11), some (aI (kk : Int)), some (aI v), some (aI z98), none]) rfl (by decide) (fun _ => rfl) (fun z98 ez98 => ?_)
      first
      | exact g99 _ _ _ _ h6 ⟨_, _, hL2⟩ (fun H' s => k1 _ (SO_e ((if_pos h1).trans ((if_pos ⟨h2, h3⟩).trans (by rw [ez98]))) s))
      | exact f99 _ _ _ _ _ (fbd_of hI p16 hb) (fun H' hF => k1 _ (SO_l ((if_pos h1).trans (if_neg h2)) hF))
      | exact f99 _ _ _ _ _ (fbd_of hI p16 hb) (fun H' hF => k1 _ (SO_l (if_neg h1) hF))
    · refine ⟨_, rfl, ?_⟩
      refine b_istoreX_n (F := fun z98 => [some (aR 11), some (aI (kk : Int)), some (aI v), some (aI z98), none]) rfl (by decide) (fun _ => rfl) (fun z98 ez98 => ?_)
      first
      | exact g99 _ _ _ _ h6 ⟨_, _, hL2⟩ (fun H' s => k1 _ (SO_e ((if_pos h1).trans ((if_pos ⟨h2, h3⟩).trans (by rw [ez98]))) s))
      | exact f99 _ _ _ _ _ (fbd_of hI p16 hb) (fun H' hF => k1 _ (SO_l ((if_pos h1).trans (if_neg h2)) hF))
      | exact f99 _ _ _ _ _ (fbd_of hI p16 hb) (fun H' hF => k1 _ (SO_l (if_neg h1) hF))
    · refine ⟨_, rfl, ?_⟩
      refine b_istoreX_n (F := fun z98 => [some (aR 11), some (aI (kk : Int)), some (aI v), some (aI z98), none]) rfl (by decide) (fun _ => rfl) (fun z98 ez98 => ?_)
      first
      | exact g99 _ _ _ _ h6 ⟨_, _, hL2⟩ (fun H' s => k1 _ (SO_e ((if_pos h1).trans ((if_pos ⟨h2, h3⟩).trans (by rw [ez98]))) s))
      | exact f99 _ _ _ _ _ (fbd_of hI p16 hb) (fun H' hF => k1 _ (SO_l ((if_pos h1).trans (if_neg h2)) hF))
      | exact f99 _ _ _ _ _ (fbd_of hI p16 hb) (fun H' hF => k1 _ (SO_l (if_neg h1) hF))
  have g69 : ∀ (v : Int) (p2 : Nat) (H1 : HI), I 13 kk < 6 → (∃ ts tu, Lok I n p2 ts tu H1) → (∀ H', SO n I (kTh1 n I kk v p2) H' → Q none H') → Bj MX10_readThing 3 69 [some (aR 11), some (aI (kk : Int)), some (aI v), none, none] [] H1 Q := by
    intro v p2 H1 h6 hL1 k1
    obtain ⟨ts, tu, hL1⟩ := hL1
    refine b_aload_n rfl rfl ?_
    refine b_getR (r := 24) rfl fl10_30 rfl (by decide) rfl rfl ?_
    refine b_gets rfl (by decide) fs10_113 ?_
    refine b_iload_n rfl rfl ?_
    refine b_sald rfl (by decide) (by omega) (by omega) (si 0 (by decide)) ?_
    rw [sv]
    refine b_callV1v (ν := MX1_needWord) rfl ml10_116 cvX1_needWord (d' := 2) (by omega) rfl (by decide) rfl (Nat.le_of_ble_eq_true rfl) ?_
    exact sp_needWord hX (s0 0 (by decide)) hL1 (fun hw H2 hL2 => ⟨rfl, g81 _ _ _ h6 ⟨_, _, hL2⟩ (fun H' s => k1 _ (SO_e (if_pos hw) s))⟩) (fun hw H2 hb => ⟨rfl, f81 _ _ _ _ (fbd_of hI p16 hb) (fun H' hF => k1 _ (SO_l (if_neg hw) hF))⟩)
  have g46 : ∀ (v : Int) (q p2 : Nat) (tu : Int) (H1 : HI), I 13 kk < 6 → Lok I n p2 (tq n (I 2) q : Int) tu H1 → (∀ H', SO n I (kTh0 n I kk q v p2) H' → Q none H') → Bj MX10_readThing 3 46 [some (aR 11), some (aI (kk : Int)), some (aI v), none, none] [] H1 Q := by
    intro v q p2 tu H1 h6 hL1 k1
    have hL1' := hL1
    obtain ⟨po, va, e, h⟩ := hL1
    subst e
    refine b_aload_n rfl rfl ?_
    refine b_iload_n rfl rfl ?_
    refine b_callV1i (ν := MX10_isGiven) rfl ml10_106 cvX10_isGiven (d' := 1) (by omega) rfl (by decide) rfl (Nat.le_of_ble_eq_true rfl) ?_
    refine sp_X10_isGiven (Lok_c13 hI.1 hL1') (fun g => ?_) (fun g => ?_)
    · refine ⟨_, rfl, ?_⟩
      refine b_if_eq (tgt := 69) rfl rfl (fun z => absurd z (by decide)) (fun _ => ?_)
      refine b_aload_n rfl rfl ?_
      refine b_getR (r := 24) rfl fl10_30 rfl (by decide) rfl rfl ?_
      refine b_iconst rfl (by decide) ?_
      refine b_aload_n rfl rfl ?_
      refine b_getR (r := 24) rfl fl10_30 rfl (by decide) rfl rfl ?_
      refine b_getI rfl fl10_110 rfl (by decide) rfl ?_
      rw [LX_8]
      refine b_callV2v (ν := MX1_fail) rfl ml10_60 cvX1_fail (d' := 0) (by omega) rfl (by decide) rfl (Nat.le_of_ble_eq_true rfl) ?_
      refine sp_fail (by decide) hL1' (fun H2 hb => ?_)
      refine ⟨rfl, ?_⟩
      first
      | exact f69 _ _ _ _ (fbd_of hI p16 hb) (fun H' hF => k1 _ (SO_l (if_pos g) hF))
      | exact g69 _ _ _ h6 ⟨_, _, hL1'⟩ (fun H' s => k1 _ (SO_e (if_neg g) s))
    · refine ⟨_, rfl, ?_⟩
      refine b_if_eq (tgt := 69) rfl rfl (fun _ => ?_) (fun z => absurd z (by decide))
      first
      | exact f69 _ _ _ _ (fbd_of hI p16 hb) (fun H' hF => k1 _ (SO_l (if_pos g) hF))
      | exact g69 _ _ _ h6 ⟨_, _, hL1'⟩ (fun H' s => k1 _ (SO_e (if_neg g) s))
  have g31 : I 13 kk < 6 → Bj MX10_readThing 3 31 [some (aR 11), some (aI (kk : Int)), none, none, none] [] H Q := by
    intro h6
    have h6' : ¬ 6 ≤ I 13 kk := by omega
    refine b_aload_n rfl rfl ?_
    refine b_getR (r := 24) rfl fl10_30 rfl (by decide) rfl rfl ?_
    refine b_callV0v (ν := MX1_take) rfl ml10_99 cvX1_take (d' := 1) (by omega) rfl (by decide) rfl (Nat.le_of_ble_eq_true rfl) ?_
    refine sp_take hX hL (Or.inl hk) (fun H1 hL1 => ?_)
    refine ⟨rfl, ?_⟩
    refine b_aload_n rfl rfl ?_
    refine b_getR (r := 24) rfl fl10_30 rfl (by decide) rfl rfl ?_
    refine b_callV0i (ν := MX1_needName) rfl ml10_102 cvX1_needName (d' := 2) (by omega) rfl (by decide) rfl (Nat.le_of_ble_eq_true rfl) ?_
    refine sp_needName hX hL1 (fun h1 h2 H2 hL2 => ?_) (fun h1 H2 hb => ?_)
    · refine ⟨_, rfl, ?_⟩
      refine b_istoreX_n (F := fun z45 => [some (aR 11), some (aI (kk : Int)), some (aI z45), none, none]) rfl (by decide) (fun _ => rfl) (fun z45 ez45 => ?_)
      first
      | exact g46 _ _ _ _ _ h6 hL2 (fun H' s => kq _ (SO_e ((if_neg h6').trans ((if_pos ⟨h1, h2⟩).trans (by rw [ez45]))) s))
      | exact f46 _ _ _ _ (fbd_of hI p16 hb) (fun H' hF => kq _ (SO_l ((if_neg h6').trans (if_neg h1)) hF))
    · refine ⟨_, rfl, ?_⟩
      refine b_istoreX_n (F := fun z45 => [some (aR 11), some (aI (kk : Int)), some (aI z45), none, none]) rfl (by decide) (fun _ => rfl) (fun z45 ez45 => ?_)
      first
      | exact g46 _ _ _ _ _ h6 hL2 (fun H' s => kq _ (SO_e ((if_neg h6').trans ((if_pos ⟨h1, h2⟩).trans (by rw [ez45]))) s))
      | exact f46 _ _ _ _ (fbd_of hI p16 hb) (fun H' hF => kq _ (SO_l ((if_neg h6').trans (if_neg h1)) hF))
  have hL' := hL
  obtain ⟨po, va, e, h⟩ := hL
  subst e
  refine b_aload_n rfl rfl ?_
  refine b_getR (r := 12) rfl fl10_12 rfl (by decide) rfl rfl ?_
  refine b_getR (r := 13) rfl fl10_95 rfl (by decide) rfl rfl ?_
  refine b_iload_n rfl rfl ?_
  refine b_iald rfl rfl (by omega) (by omega) ?_
  rw [LXc (by decide)]
  try rw [Int.toNat_natCast]
  refine b_bipush rfl (by decide) ?_
  refine b_icmp_lt (tgt := 31) rfl rfl (fun c11 => ?_) (fun c11 => ?_)
  · exact g31 (by omega)
  · refine b_aload_n rfl rfl ?_
    refine b_getR (r := 24) rfl fl10_30 rfl (by decide) rfl rfl ?_
    refine b_bipush rfl (by decide) ?_
    refine b_aload_n rfl rfl ?_
    refine b_getR (r := 24) rfl fl10_30 rfl (by decide) rfl rfl ?_
    refine b_getI rfl fl10_57 rfl (by decide) rfl ?_
    rw [LX_4]
    refine b_callV2v (ν := MX1_fail) rfl ml10_60 cvX1_fail (d' := 0) (by omega) rfl (by decide) rfl (Nat.le_of_ble_eq_true rfl) ?_
    refine sp_fail (by decide) hL' (fun H2 hb => ?_)
    refine ⟨rfl, ?_⟩
    refine b_vret rfl rfl ?_
    exact kq _ (SO_l (if_pos (by omega)) (fbd_of hI p16 hb))
end TRE
