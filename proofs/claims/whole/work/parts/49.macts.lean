/-! ===== the reference: acts ===== -/
theorem sumN_one {n w : Nat} {v : Int} (hw : w < n) : sumN n (fun k => if k = w then v else 0) = v := by
  induction n with
  | zero => omega
  | succ n ih =>
    show sumN n (fun k => if k = w then v else 0) + (if n = w then v else 0) = v
    by_cases e : n = w
    · rw [if_pos e, sumN_zero (fun k hk => if_neg (by omega)), Int.zero_add]
    · rw [if_neg e, ih (by omega), Int.add_zero]
theorem S2_congr {nh nw : Nat} {f g : Nat → Nat → Int} (h : ∀ i j, i < nh → j < nw → f i j = g i j) : S2 nh nw f = S2 nh nw g :=
  sumN_congr (fun i hi => sumN_congr (fun j hj => h i j hi hj))
theorem S2_one {nh nw h w : Nat} {g : Nat → Nat → Int} {v : Int} (hh : h < nh) (hw : w < nw) : S2 nh nw (fun i j => g i j + (if i = h ∧ j = w then v else 0)) = S2 nh nw g + v := by
  unfold S2
  have h1 : ∀ i, sumN nw (fun j => g i j + (if i = h ∧ j = w then v else 0)) = sumN nw (fun j => g i j) + (if i = h then v else 0) := by
    intro i
    rw [sumN_add]
    congr 1
    by_cases e : i = h
    · rw [if_pos e]
      rw [sumN_congr (g := fun k => if k = w then v else 0) (fun k _ => by simp [e])]
      exact sumN_one hw
    · rw [if_neg e]
      exact sumN_zero (fun k _ => if_neg (fun z => e z.1))
  rw [sumN_congr (fun i _ => h1 i), sumN_add, sumN_one hh]
theorem tot_ud {J : HI} {f : Nat → Int} {s h w : Nat} {d : Int} (hp : pOK J) (hs : (s : Int) < J 4 1) (hh : h < nH J s) (hw : w < nW J) : wOf J (ud f (24 * s + 6 * h + w) (f (24 * s + 6 * h + w) + d)) s = wOf J f s + d * J 6 w ∧ lOf J (ud f (24 * s + 6 * h + w) (f (24 * s + 6 * h + w) + d)) s = lOf J f s + d * J 7 w ∧ tOf J (ud f (24 * s + 6 * h + w) (f (24 * s + 6 * h + w) + d)) s = tOf J f s + sd (h : Int) * d * (J 6 w - J 7 w) ∧ nOf J (ud f (24 * s + 6 * h + w) (f (24 * s + 6 * h + w) + d)) s = nOf J f s + d := by
  obtain ⟨w1, w2⟩ := nW_in hp
  have e : ∀ i j, j < nW J → ud f (24 * s + 6 * h + w) (f (24 * s + 6 * h + w) + d) (24 * s + 6 * i + j) = f (24 * s + 6 * i + j) + (if i = h ∧ j = w then d else 0) := by
    intro i j hj
    unfold ud
    by_cases q : i = h ∧ j = w
    · rw [if_pos (by omega), if_pos q, q.1, q.2]
    · rw [if_neg (by omega), if_neg q, Int.add_zero]
  refine ⟨?_, ?_, ?_, ?_⟩
  · show S2 (nH J s) (nW J) (fun i j => ud f (24 * s + 6 * h + w) (f (24 * s + 6 * h + w) + d) (24 * s + 6 * i + j) * J 6 j) = S2 (nH J s) (nW J) (fun i j => f (24 * s + 6 * i + j) * J 6 j) + d * J 6 w
    rw [← S2_one hh hw]
    refine S2_congr (fun i j _ hj => ?_)
    rw [e i j hj, Int.add_mul]
    congr 1
    by_cases q : i = h ∧ j = w
    · rw [if_pos q, if_pos q, q.2]
    · rw [if_neg q, if_neg q, Int.zero_mul]
  · show S2 (nH J s) (nW J) (fun i j => ud f (24 * s + 6 * h + w) (f (24 * s + 6 * h + w) + d) (24 * s + 6 * i + j) * J 7 j) = S2 (nH J s) (nW J) (fun i j => f (24 * s + 6 * i + j) * J 7 j) + d * J 7 w
    rw [← S2_one hh hw]
    refine S2_congr (fun i j _ hj => ?_)
    rw [e i j hj, Int.add_mul]
    congr 1
    by_cases q : i = h ∧ j = w
    · rw [if_pos q, if_pos q, q.2]
    · rw [if_neg q, if_neg q, Int.zero_mul]
  · show S2 (nH J s) (nW J) (fun i j => sd (i : Int) * ud f (24 * s + 6 * h + w) (f (24 * s + 6 * h + w) + d) (24 * s + 6 * i + j) * (J 6 j - J 7 j)) = S2 (nH J s) (nW J) (fun i j => sd (i : Int) * f (24 * s + 6 * i + j) * (J 6 j - J 7 j)) + sd (h : Int) * d * (J 6 w - J 7 w)
    rw [← S2_one hh hw]
    refine S2_congr (fun i j _ hj => ?_)
    rw [e i j hj, Int.mul_add, Int.add_mul]
    congr 1
    by_cases q : i = h ∧ j = w
    · rw [if_pos q, if_pos q, q.1, q.2]
    · rw [if_neg q, if_neg q, Int.mul_zero, Int.zero_mul]
  · show S2 (nH J s) (nW J) (fun i j => ud f (24 * s + 6 * h + w) (f (24 * s + 6 * h + w) + d) (24 * s + 6 * i + j)) = S2 (nH J s) (nW J) (fun i j => f (24 * s + 6 * i + j)) + d
    rw [← S2_one hh hw]
    exact S2_congr (fun i j _ hj => e i j hj)
theorem up_ud {J : HI} {c k : Nat} {v : Int} : up J c k v = row J c (ud (J c) k v) := by
  rw [← row_ud, row_self]
def MFr (K K' : HI) : Prop := (∀ q, q ≠ 57 → (q < 85 ∨ 91 < q) → K' q = K q) ∧ (∀ j, j ≠ 52 → j ≠ 53 → ¬ (57 ≤ j ∧ j ≤ 60) → K' 57 j = K 57 j) ∧ asB K'
theorem MFr.rf {K : HI} (h : asB K) : MFr K K := ⟨fun _ _ _ => rfl, fun _ _ _ _ => rfl, h⟩
theorem MFr.sc {K K' : HI} (h : ScM K K') : MFr K K' := ⟨fun q a b => h.1 q a (by omega) (by omega), fun j _ _ c => h.2.1 j c, h.2.2⟩
theorem MFr.tr {K K' K'' : HI} (h : MFr K K') (h2 : MFr K' K'') : MFr K K'' := ⟨fun q a b => (h2.1 q a b).trans (h.1 q a b), fun j a b c => (h2.2.1 j a b c).trans (h.2.1 j a b c), h2.2.2⟩
theorem MFr.ux {K K' : HI} (h : MFr K K') {q j : Nat} {v : Int} (hq : 85 ≤ q ∧ q ≤ 90) : MFr K (up K' q j v) := by
  refine ⟨fun p a b => ?_, fun k a b c => ?_, fun k => ?_⟩
  · rw [up_cell (by omega)]; exact h.1 p a b
  · rw [up_cell (by omega)]; exact h.2.1 k a b c
  · rw [up_cell (by omega)]; exact h.2.2 k
theorem MFr.u57 {K K' : HI} (h : MFr K K') {j : Nat} {v : Int} (hj : j = 52 ∨ j = 53) : MFr K (up K' 57 j v) := by
  refine ⟨fun p a b => ?_, fun k a b c => ?_, fun k => ?_⟩
  · rw [up_cell a]; exact h.1 p a b
  · rw [up_n (by omega)]; exact h.2.1 k a b c
  · rw [up_cell (by decide)]; exact h.2.2 k
theorem MFr.cp {K K' : HI} (h : MFr K K') {t f : Nat} : MFr K (mcp K' t f) := by
  have e : ∀ q j, q < 85 ∨ 89 < q → mcp K' t f q j = K' q j := fun q j hq => by
    unfold mcp
    rw [if_neg (by omega), if_neg (by omega), if_neg (by omega), if_neg (by omega), if_neg (by omega)]
  refine ⟨fun p a b => ?_, fun k a b c => ?_, fun k => ?_⟩
  · rw [← h.1 p a b]; funext j; exact e p j (by omega)
  · rw [e 57 k (by omega)]; exact h.2.1 k a b c
  · rw [e 91 k (by omega)]; exact h.2.2 k
theorem MFr.kp {K K' : HI} (h : MFr K K') {f u : Nat} : MFr K (mkp K' f u) := by
  unfold mkp
  split
  · exact ((h.u57 (Or.inl rfl)).u57 (Or.inr rfl)).cp.u57 (Or.inr rfl)
  · exact h.cp.u57 (Or.inr rfl)
theorem MFr.wd {K K' : HI} (h : MFr K K') {m : Nat} {s x y z : Int} : MFr K (mwd K' m s x y z) := by
  have e : ∀ q j, q ≠ 88 → q ≠ 89 → mwd K' m s x y z q j = K' q j := fun q j a b => by
    unfold mwd
    rw [if_neg (by omega), if_neg (by omega), if_neg (by omega)]
  refine ⟨fun p a b => ?_, fun k a b c => ?_, fun k => ?_⟩
  · rw [← h.1 p a b]; funext j; exact e p j (by omega) (by omega)
  · rw [e 57 k (by omega) (by omega)]; exact h.2.1 k a b c
  · rw [e 91 k (by omega) (by omega)]; exact h.2.2 k
/-- what keeps leaves, by the class's rings -/
theorem spq_keeps {J K : HI} {Q : Option AV → HI → Prop} (hS : SRn J K) (hU : RUn J K) (hK : WK J) (has : asB K) (kq : ∀ K', MFr K K' → SRn (rem_ J) K' → RUn (rem_ J) K' → Q none K') : Rj MX12_keeps 1 [aR 57] K Q := by
  obtain ⟨⟨a1, a2, a3, a4⟩, b1, b2, b3, b4⟩ := hK
  have ef : J 38 1 = ((J 38 1).toNat : Int) := by omega
  have eu : J 38 2 = ((J 38 2).toNat : Int) := by omega
  have k8 := hS.2.2.2.1
  obtain ⟨r1, r2⟩ := rel_keeps hS hU ef (by omega) eu (by omega) ⟨a3, a4⟩
  exact spm_keeps (f := (J 38 1).toNat) (u := (J 38 2).toNat) (by rw [hU.2.1]; exact ef) (by omega) (by rw [hU.1]; exact eu) (by omega) (by omega) (kq _ (MFr.rf has).kp r1 r2)
theorem kc_nat {J : HI} {a h w : Int} (hp : pOK J) (hk : kc_3 J a h w) : ∃ s x y : Nat, a = (s : Int) ∧ h = (x : Int) ∧ w = (y : Int) ∧ (s : Int) < J 4 1 ∧ x < nH J s ∧ y < nW J ∧ s < 6 ∧ x < 4 ∧ y < 6 ∧ cA a h w = 24 * s + 6 * x + y := by
  obtain ⟨h1, h2, h3, h4⟩ := hk
  obtain ⟨s, rfl, hs⟩ := kO_nat (i := 1) h1
  obtain ⟨y, rfl, hy⟩ := kO_nat (i := 0) h4
  rw [show (1 * 6 + (s : Int)).toNat = 6 + s by omega] at h3
  obtain ⟨n1, n2, n3⟩ := nH_in hp hs
  obtain ⟨w1, w2⟩ := nW_in hp
  have h5 := hp.1 1 (by decide)
  refine ⟨s, h.toNat, y, rfl, by omega, rfl, hs, by omega, by omega, by omega, by omega, by omega, ?_⟩
  unfold cA
  omega
theorem spq_mayBe {J K : HI} {Q : Option AV → HI → Prop} {C : Nat → List Int} {b : Nat} {a h w y x : Int} (hM : MN J K C b) (hx : (y = 1 ∧ x = 1) ∨ (y = -1 ∧ x = 0)) (k1 : wkP J C a h w x → ∀ K', ScM K K' → Q (some (aI 1)) K') (k0 : ¬ wkP J C a h w x → ∀ K', ScM K K' → Q (some (aI 0)) K') : Rj MX12_mayBe 6 [aR 57, aI a, aI h, aI w, aI y] K Q := by
  have hR := hM.1
  have hp := hR.2.2.2.2.2.2.2.2.2
  have rr := ScM.rf hM.2.1
  have r := hM.2.2.1.2.2.1
  have q85 := hM.2.2.2.1.1
  have hnw := (nW_in hp).2
  unfold wkP at k1 k0
  refine rj_of okX12_mayBe (Nat.le_of_ble_eq_true rfl) rfl ?_
  refine b_aload_n rfl rfl ?_
  refine b_iload_n rfl rfl ?_
  refine b_iload_n rfl rfl ?_
  refine b_callV2i (ν := MX12_isHold) rfl ml12_497 cvX12_isHold (d' := 1) (by omega) rfl (by decide) rfl (Nat.le_of_ble_eq_true rfl) ?_
  refine spm_isHold hR (fun hk => ?_) (fun hk => ?_)
  · refine ⟨_, rfl, ?_⟩
    refine b_if_eq (tgt := 51) rfl rfl (fun z => absurd z (by decide)) (fun _ => ?_)
    refine b_aload_n rfl rfl ?_
    refine b_iload_n rfl rfl ?_
    refine b_callV1i (ν := MX12_isWare) rfl ml12_490 cvX12_isWare (d' := 0) (by omega) rfl (by decide) rfl (Nat.le_of_ble_eq_true rfl) ?_
    refine spm_isWare hR (fun hw => ?_) (fun hw => ?_)
    · refine ⟨_, rfl, ?_⟩
      refine b_if_eq (tgt := 51) rfl rfl (fun z => absurd z (by decide)) (fun _ => ?_)
      have hkc : kc_3 J a h w := ⟨hk.1, hk.2.1, hk.2.2, hw⟩
      obtain ⟨s, h', w', rfl, rfl, rfl, hs, hh', hw', s6, h4, w6, ec⟩ := kc_nat hp hkc
      rw [ec, Int.toNat_natCast] at k1 k0
      have q87 := hM.2.2.2.1.2.2.1 (24 * s + 6 * h' + w') (by omega)
      rw [Nat.mul_zero, Nat.zero_add] at q87
      have hcc := hM.2.2.1.2.2.2.1 (24 * s + 6 * h' + w')
      have eaf : aft J x (24 * s + 6 * h' + w') = J 32 (24 * s + 6 * h' + w') + y := by
          unfold aft
          split <;> omega
      rw [eaf] at k1 k0
      refine b_aload_n rfl rfl ?_
      refine b_iconst rfl (by decide) ?_
      refine b_iload_n rfl rfl ?_
      refine b_callV2i (ν := MX12_liesIn) rfl ml12_482 cvX12_liesIn (d' := 0) (by omega) rfl (by decide) rfl (Nat.le_of_ble_eq_true rfl) ?_
      refine spq_liesIn hM (by omega) ?_
      refine ⟨_, rfl, ?_⟩
      refine b_iconst rfl (by decide) ?_
      refine b_icmp_eq (tgt := 51) rfl rfl (fun c24 => ?_) (fun c24 => ?_)
      · refine b_iconst rfl (by decide) ?_
        refine b_zret rfl rfl (by first | decide | omega) ?_
        first
        | exact k1 ⟨hkc, c24, hin, eAL.2 ha⟩ K2 (rr.ms.as hK2)
        | exact k0 (fun z => ha (eAL.1 z.2.2.2)) K2 (rr.ms.as hK2)
        | exact k0 (fun z => hin z.2.2.1) K rr
        | exact k0 (fun z => z.2.1 c24) K rr
        | exact k0 (fun z => hw z.1.2.2.2) K rr
        | exact k0 (fun z => hk ⟨z.1.1, z.1.2.1, z.1.2.2.1⟩) K rr
      · refine b_aload_n rfl rfl ?_
        refine b_getR (r := 87) rfl fl12_162 rfl (by decide) rfl rfl ?_
        refine b_aload_n rfl rfl ?_
        refine b_iload_n rfl rfl ?_
        refine b_iload_n rfl rfl ?_
        refine b_iload_n rfl rfl ?_
        refine b_callV3i (ν := MX12_at) rfl ml12_460 cvX12_at (d' := 0) (by omega) rfl (by decide) rfl (Nat.le_of_ble_eq_true rfl) ?_
        refine spm_at (by omega) (by omega) (by omega) ?_
        refine ⟨_, rfl, ?_⟩
        refine b_iald rfl rfl (by omega) (by omega) ?_
        try simp only [tn6, tn4, tn2, tn144, tn24, tn_cast, Int.reduceToNat]
        rw [q87]
        refine b_iload rfl rfl ?_
        refine b_iaddN rfl (by omega) (by omega) ?_
        refine b_iconst rfl (by decide) ?_
        refine b_bipush rfl (by decide) ?_
        refine b_callS3i (ν := MX12_is) rfl ml12_322 csX12_is (d' := 0) (by omega) (Nat.le_of_ble_eq_true rfl) ?_
        refine spm_is (fun hin => ?_) (fun hin => ?_)
        · refine ⟨_, rfl, ?_⟩
          refine b_if_ne (tgt := 53) rfl rfl (fun _ => ?_) (fun z => absurd z (by decide))
          refine b_aload_n rfl rfl ?_
          refine b_iconst rfl (by decide) ?_
          refine b_iload_n rfl rfl ?_
          refine b_callV2v (ν := MX12_carries) rfl ml12_493 cvX12_carries (d' := 1) (by omega) rfl (by decide) rfl (Nat.le_of_ble_eq_true rfl) ?_
          refine spq_carries hM hs ?_
          have hcb := car_b hp (f := J 32) (fun k => by have := hM.2.2.1.2.2.2.1 k; omega) hs
          have hu := tot_ud (f := J 32) (d := y) hp hs hh' hw'
          have hfb : ∀ k, 0 ≤ ud (J 32) (24 * s + 6 * h' + w') (J 32 (24 * s + 6 * h' + w') + y) k ∧ ud (J 32) (24 * s + 6 * h' + w') (J 32 (24 * s + 6 * h' + w') + y) k ≤ 50 := fun k => by
              have := hM.2.2.1.2.2.2.1 k
              unfold ud
              split <;> omega
          have hcb2 := car_b hp (f := ud (J 32) (24 * s + 6 * h' + w') (J 32 (24 * s + 6 * h' + w') + y)) hfb hs
          have eAL : mAL J C s (24 * s + 6 * h' + w') (J 32 (24 * s + 6 * h' + w') + y) ↔ ALV C (J 30 5) (wOf J (ud (J 32) (24 * s + 6 * h' + w') (J 32 (24 * s + 6 * h' + w') + y)) s) (lOf J (ud (J 32) (24 * s + 6 * h' + w') (J 32 (24 * s + 6 * h' + w') + y)) s) (tOf J (ud (J 32) (24 * s + 6 * h' + w') (J 32 (24 * s + 6 * h' + w') + y)) s) (nOf J (ud (J 32) (24 * s + 6 * h' + w') (J 32 (24 * s + 6 * h' + w') + y)) s) (hei C (J 30 5) (wOf J (ud (J 32) (24 * s + 6 * h' + w') (J 32 (24 * s + 6 * h' + w') + y)) s) (lOf J (ud (J 32) (24 * s + 6 * h' + w') (J 32 (24 * s + 6 * h' + w') + y)) s) (tOf J (ud (J 32) (24 * s + 6 * h' + w') (J 32 (24 * s + 6 * h' + w') + y)) s)) := by
              unfold mAL
              rw [up_ud]
              exact Iff.rfl
          rw [hu.1, hu.2.1, hu.2.2.1, hu.2.2.2] at eAL hcb2
          refine ⟨rfl, ?_⟩
          refine b_aload_n rfl rfl ?_
          refine b_iload_n rfl rfl ?_
          refine b_iload_n rfl rfl ?_
          refine b_iload rfl rfl ?_
          refine b_callV3v (ν := MX12_adds) rfl ml12_464 cvX12_adds (d' := 0) (by omega) rfl (by decide) rfl (Nat.le_of_ble_eq_true rfl) ?_
          refine spm_adds (K := K) (n := y) hR (by omega) (by omega) (by omega) hcb.1 ?_
          refine ⟨rfl, ?_⟩
          refine b_aload_n rfl rfl ?_
          refine b_aload_n rfl rfl ?_
          refine b_getR (r := 85) rfl fl12_156 rfl (by decide) rfl rfl ?_
          refine b_iconst rfl (by decide) ?_
          refine b_ialdL (k := 0) rfl rfl rfl (by decide) ?_
          try simp only [tn6, tn4, tn2, tn144, tn24, tn_cast, Int.reduceToNat]
          rw [mS_cell (by decide), q85]
          refine b_callV1i (ν := MX12_isAllowed) rfl ml12_516 cvX12_isAllowed (d' := 5) (by omega) rfl (by decide) rfl (Nat.le_of_ble_eq_true rfl) ?_
          refine spm_isAllowed (K0 := K) hR (AsM.rf (asB_mS hM.2.1)) hcb2.1 hcb2.2 (by omega) (fun ha K2 hK2 => ?_) (fun ha K2 hK2 => ?_)
          · refine ⟨_, rfl, ?_⟩
            refine b_zret rfl rfl (by first | decide | omega) ?_
            first
            | exact k1 ⟨hkc, c24, hin, eAL.2 ha⟩ K2 (rr.ms.as hK2)
            | exact k0 (fun z => ha (eAL.1 z.2.2.2)) K2 (rr.ms.as hK2)
            | exact k0 (fun z => hin z.2.2.1) K rr
            | exact k0 (fun z => z.2.1 c24) K rr
            | exact k0 (fun z => hw z.1.2.2.2) K rr
            | exact k0 (fun z => hk ⟨z.1.1, z.1.2.1, z.1.2.2.1⟩) K rr
          · refine ⟨_, rfl, ?_⟩
            refine b_zret rfl rfl (by first | decide | omega) ?_
            first
            | exact k1 ⟨hkc, c24, hin, eAL.2 ha⟩ K2 (rr.ms.as hK2)
            | exact k0 (fun z => ha (eAL.1 z.2.2.2)) K2 (rr.ms.as hK2)
            | exact k0 (fun z => hin z.2.2.1) K rr
            | exact k0 (fun z => z.2.1 c24) K rr
            | exact k0 (fun z => hw z.1.2.2.2) K rr
            | exact k0 (fun z => hk ⟨z.1.1, z.1.2.1, z.1.2.2.1⟩) K rr
        · refine ⟨_, rfl, ?_⟩
          refine b_if_ne (tgt := 53) rfl rfl (fun z => absurd z (by decide)) (fun _ => ?_)
          refine b_iconst rfl (by decide) ?_
          refine b_zret rfl rfl (by first | decide | omega) ?_
          first
          | exact k1 ⟨hkc, c24, hin, eAL.2 ha⟩ K2 (rr.ms.as hK2)
          | exact k0 (fun z => ha (eAL.1 z.2.2.2)) K2 (rr.ms.as hK2)
          | exact k0 (fun z => hin z.2.2.1) K rr
          | exact k0 (fun z => z.2.1 c24) K rr
          | exact k0 (fun z => hw z.1.2.2.2) K rr
          | exact k0 (fun z => hk ⟨z.1.1, z.1.2.1, z.1.2.2.1⟩) K rr
    · refine ⟨_, rfl, ?_⟩
      refine b_if_eq (tgt := 51) rfl rfl (fun _ => ?_) (fun z => absurd z (by decide))
      refine b_iconst rfl (by decide) ?_
      refine b_zret rfl rfl (by first | decide | omega) ?_
      first
      | exact k1 ⟨hkc, c24, hin, eAL.2 ha⟩ K2 (rr.ms.as hK2)
      | exact k0 (fun z => ha (eAL.1 z.2.2.2)) K2 (rr.ms.as hK2)
      | exact k0 (fun z => hin z.2.2.1) K rr
      | exact k0 (fun z => z.2.1 c24) K rr
      | exact k0 (fun z => hw z.1.2.2.2) K rr
      | exact k0 (fun z => hk ⟨z.1.1, z.1.2.1, z.1.2.2.1⟩) K rr
  · refine ⟨_, rfl, ?_⟩
    refine b_if_eq (tgt := 51) rfl rfl (fun _ => ?_) (fun z => absurd z (by decide))
    refine b_iconst rfl (by decide) ?_
    refine b_zret rfl rfl (by first | decide | omega) ?_
    first
    | exact k1 ⟨hkc, c24, hin, eAL.2 ha⟩ K2 (rr.ms.as hK2)
    | exact k0 (fun z => ha (eAL.1 z.2.2.2)) K2 (rr.ms.as hK2)
    | exact k0 (fun z => hin z.2.2.1) K rr
    | exact k0 (fun z => z.2.1 c24) K rr
    | exact k0 (fun z => hw z.1.2.2.2) K rr
    | exact k0 (fun z => hk ⟨z.1.1, z.1.2.1, z.1.2.2.1⟩) K rr
theorem SR_u87 {hr kf kc : Int} {li cr rg : Nat → Int} {K : HI} {c : Nat} {x : Int} (h : SR hr kf kc li cr rg K 0) : SR hr kf kc li (ud cr c x) rg (up K 87 c x) 0 := by
  obtain ⟨h1, h2, h3, h4, h5⟩ := h
  refine ⟨h1, h2, fun d hd => ?_, h4, h5⟩
  rw [up_ap]
  unfold ud
  by_cases e : d = c
  · rw [if_pos ⟨rfl, by omega⟩, if_pos e]
  · rw [if_neg (by omega), if_neg e]; exact h3 d hd
theorem SRn_32 {J K : HI} {c : Nat} {x : Int} (h : SRn J K) : SRn (up J 32 c x) (up K 87 c x) := by
  unfold SRn
  rw [up_cell (by decide : 30 ≠ 32), up_cell (by decide : 31 ≠ 32), up_cell (by decide : 33 ≠ 32), up_ud, row_same]
  exact SR_u87 h
theorem SRn_31 {J K : HI} {s : Nat} {x : Int} (h : SRn J K) : SRn (up J 31 s x) (up K 86 s x) := by
  unfold SRn
  rw [up_cell (by decide : 30 ≠ 31), up_cell (by decide : 32 ≠ 31), up_cell (by decide : 33 ≠ 31)]
  obtain ⟨h1, h2, h3, h4, h5⟩ := h
  refine ⟨h1, fun d hd hn => ?_, h3, h4, h5⟩
  rw [up_ap, up_ap]
  by_cases e : d = s
  · rw [if_pos ⟨rfl, by omega⟩, if_pos ⟨rfl, e⟩]
  · rw [if_neg (by omega), if_neg (by omega)]; exact h2 d hd hn
theorem RUn_to {J J' K K' : HI} (h : RUn J K) (h38 : J' 38 = J 38) (h39 : J' 39 = J 39) (k53 : K' 57 53 = K 57 53) (k52 : K' 57 52 = K 57 52) (hs : ∀ q, q < 20 → SRs J K q → J 39 (213 * q + 2) ≤ 60 → SRs J K' q) : RUn J' K' := by
  obtain ⟨h1, h2, h3⟩ := h
  unfold RUn
  rw [h38, h39, k53, k52]
  refine ⟨h1, h2, fun j hj => ?_⟩
  obtain ⟨a, b, c⟩ := h3 j hj
  have := hs _ (by omega) a c
  refine ⟨?_, b, c⟩
  unfold SRs at *
  rw [h39]
  exact this
theorem SR_hi {hr kf kc : Int} {li cr rg : Nat → Int} {K : HI} {v q c : Nat} {x : Int} (h : SR hr kf kc li cr rg K v) (hq : (q = 85 ∧ c ≠ v) ∨ (q = 86 ∧ c < 6 ∧ 1 ≤ v) ∨ (q = 87 ∧ c < 144 ∧ 1 ≤ v)) : SR hr kf kc li cr rg (up K q c x) v := by
  obtain ⟨h1, h2, h3, h4, h5⟩ := h
  have hsh : shp (up K q c x) = shp K := by
    unfold shp
    rw [up_n (by omega), up_n (by omega)]
  refine ⟨?_, fun s hs hn => ?_, fun d hd => ?_, ?_, fun k w hk hw => ?_⟩
  · rw [up_n (by omega)]; exact h1
  · rw [hsh] at hn; rw [up_n (by omega)]; exact h2 s hs hn
  · rw [up_n (by omega)]; exact h3 d hd
  · rw [up_n (by omega)]; exact h4
  · rw [up_n (by omega)]; exact h5 k w hk hw
theorem SRs_wd {J K : HI} {q m : Nat} {s x y z : Int} (h : SRs J K q) (hm : m < 60) : SRs J (mwd K m s x y z) q := by
  obtain ⟨h1, h2, h3, h4, h5⟩ := h
  have e : ∀ p j, p ≠ 88 → p ≠ 89 → mwd K m s x y z p j = K p j := fun p j a b => by
    unfold mwd
    rw [if_neg (by omega), if_neg (by omega), if_neg (by omega)]
  have hsh : shp (mwd K m s x y z) = shp K := by
    unfold shp
    rw [e 57 13 (by decide) (by decide), e 62 _ (by decide) (by decide)]
  refine ⟨by rw [e _ _ (by omega) (by omega)]; exact h1, fun s hs hn => by rw [e _ _ (by omega) (by omega)]; exact h2 s hs (by rw [hsh] at hn; exact hn), fun d hd => by rw [e _ _ (by omega) (by omega)]; exact h3 d hd, ?_, fun k w hk hw => ?_⟩
  · unfold mwd
    rw [if_neg (by omega), if_neg (by omega), if_neg (by omega)]; exact h4
  · unfold mwd
    rw [if_neg (by omega), if_neg (by omega), if_neg (by omega)]; exact h5 k w hk hw
