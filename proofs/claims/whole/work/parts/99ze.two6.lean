/-! ===== harbour ===== -/
section TWO6
variable {I X I' K' H' : HI} {C C' : Nat → List Int} {b m n p : Nat}
theorem hbK_1 : hbK X n m 57 1 = 0 := by
  unfold hbK
  rw [up_ap, if_neg (by omega)]
  show (if 57 = 71 ∧ 4 * m ≤ 1 ∧ 1 < 4 * m + 4 then -1 else _) = _
  rw [if_neg (by omega), up_ap, if_neg (by omega), up_ap, if_neg (by omega), up_ap, if_neg (by omega), up_ap, if_neg (by omega), up_ap, if_neg (by omega), up_ap, if_pos ⟨rfl, rfl⟩]
theorem KI_ha (hk : KI I C) (hX : ∀ q, q ≠ 24 → X q = I' q) (hq : ∀ q, ¬ (12 ≤ q ∧ q ≤ 22) → q ≠ 24 → q ≠ 26 → X q = I q) (hI : DI I' p) (hD : DX I') (wf : WF (haG X) C') : KI (haG X) C' := by
  have hb := hk.bx
  have zf := af_ZF hX hI hD
  obtain ⟨q1, q2, q3, q4⟩ := hk.2.2.2.1
  refine ⟨wf.1, wf.2.1, ⟨wf.2.2.1, ?_, fun s hs => ⟨fun a => wf.2.2.2.2 s a, fun a => zf.2 s hs a⟩, fun k _ => wf.2.2.2.1 k, zf.1, fun k _ => ?_⟩, ?_, ?_, ⟨wf.2.2.2.1, fun k => ?_, fun k => ?_, fun k => ?_, fun k => ?_, fun k => ?_, fun k => ?_, ?_⟩, fun w hw => ?_, fun k hk2 => ?_⟩
  · rw [haG_3.2.2.2.1, haG_3.2.2.2.2.1]
    decide
  · rw [haG_o (by omega), hq 33 (by omega) (by decide) (by decide)]
    exact hb.2.1 k
  · unfold PS
    rw [haG_3.2.2.2.2.2.1, haG_o (by omega), hq 38 (by omega) (by decide) (by decide)]
    omega
  · intro j hj
    rw [haG_3.2.2.2.2.2.1] at hj
    omega
  · rw [haG_o (by omega), hq 33 (by omega) (by decide) (by decide)]
    exact hb.2.1 k
  · rw [haG_o (by omega), hq 45 (by omega) (by decide) (by decide)]
    exact hb.2.2.1 k
  · rw [haG_o (by omega), hq 53 (by omega) (by decide) (by decide)]
    exact hb.2.2.2.1 k
  · rw [haG_o (by omega), hq 54 (by omega) (by decide) (by decide)]
    exact hb.2.2.2.2.1 k
  · rw [haG_o (by omega), hq 56 (by omega) (by decide) (by decide)]
    exact hb.2.2.2.2.2.1 k
  · rw [haG_o (by omega), hq 36 (by omega) (by decide) (by decide)]
    exact hb.2.2.2.2.2.2.1 k
  · rw [haG_o (by omega), hq 0 (by omega) (by decide) (by decide)]
    exact hb.2.2.2.2.2.2.2
  · rw [haG_o (by omega), haG_o (by omega), hX 15 (by decide), hX 16 (by decide)]
    exact hI.2.2.2.2 w hw
  · rw [haG_o (by omega), hq 25 (by omega) (by decide) (by decide)]
    exact hk.nx.2 k hk2
theorem RM_ha (hR : RM I I C b) (hX : ∀ q, q ≠ 24 → X q = I' q) (hq : ∀ q, ¬ (12 ≤ q ∧ q ≤ 22) → q ≠ 24 → q ≠ 26 → X q = I q) (hI : DI I' p) (hp : p ≤ 1600) (hD : DX I') (hC : FD I' C') (h20 : I' 20 5 = 0) (b2 : b < 2) (hm : m + b = 1) (hF : FrB (hbK (haG X) n m) m K') (hM : Mok K' n (I 2) p H') (hRD : RDr I' K' m) (wf : WF (haG X) C') : RM (haG X) (hbG H' m (I' 13 1).toNat) C' m := by
  have t := hR.2.1.2.2.2
  have e57 : ∀ q, 57 ≤ q → haG X q = I q := fun q h57 => by
    funext k
    rw [haG_o (by omega), hq q (by omega) (by omega) (by omega)]
  obtain ⟨s1, s2, s3⟩ := FrB_Sm b2 hm hF
  have c57 : ∀ j, ¬ prs j → j ≠ 1 → j ≠ 2 → j ≠ 34 → (j ≠ 53 ∧ j ≠ 63 ∧ j ≠ 66 ∧ j ≠ 10 ∧ j ≠ 11 ∧ j ≠ 13) → hbG H' m (I' 13 1).toNat 57 j = I 57 j := fun j a1 a2 a3 a4 a5 => by
    rw [hbG_57 hM a5 (by unfold prs at a1; omega), s3 j a1 a2 a3 a4, e57 57 (by decide)]
  have cq : ∀ q, (q = 58 ∨ (83 < q ∧ (q < 85 ∨ 88 < q))) → hbG H' m (I' 13 1).toNat q = I q := fun q a => by
    funext k
    rw [hbG_o hM (by omega), s2 q (by omega), e57 q (by omega)]
  have z38 : haG X 38 2 = 0 := haG_3.2.2.2.2.2.1
  have z10 : haG X 44 10 = 0 := haG_3.2.2.2.2.2.2.1
  have z11 : haG X 44 11 = 0 := haG_3.2.2.2.2.2.2.2.1
  have z1 : haG X 1 1 = 0 := haG_3.2.2.2.2.2.2.2.2.1
  have e0 : ∀ j, j ≠ 13 → j ≠ 14 → haG X 0 j = I 0 j := fun j a c => by rw [haG_o (by omega), hq 0 (by omega) (by decide) (by decide)]
  have m53 : hbG H' m (I' 13 1).toNat 57 53 = 0 := begM_z.1
  have m63 : hbG H' m (I' 13 1).toNat 57 63 = 0 := begM_z.2.1
  have m66 : hbG H' m (I' 13 1).toNat 57 66 = 0 := begM_z.2.2.1
  refine ⟨⟨af_RP hX hI hp hC wf.1.1 hM hRD, ?_, af_SR hX hI hD h20 hM hRD, ?_, ?_, ?_⟩, ⟨⟨⟨?_, ?_, ?_, ?_⟩, ?_, ?_, ?_, ?_⟩, ?_, ⟨?_, ?_, ?_, ?_⟩, ?_, ?_, ?_⟩, ?_, ?_, ?_, ?_, ?_, af_Nm hX hI hM hRD⟩
  · intro k
    rw [cq 91 (by omega)]
    exact hR.1.2.1 k
  · rw [m53, z38]
  · rw [c57 52 (by decide) (by decide) (by decide) (by decide) (by decide), haG_o (by omega), hq 38 (by omega) (by decide) (by decide)]
    exact hR.1.2.2.2.2.1
  · intro j hj
    rw [z38] at hj
    omega
  · rw [m63, z10]
  · rw [z10]; decide
  · rw [z10]; decide
  · intro k hk
    rw [z10] at hk
    omega
  · rw [m66, z11]
  · rw [z11]; decide
  · rw [z11]; decide
  · intro k hk
    rw [z11] at hk
    omega
  · intro k hk
    rw [cq 84 (by omega), haG_o (by omega), hq 55 (by omega) (by decide) (by decide)]
    exact hR.2.1.2.1 k hk
  · rw [c57 70 (by decide) (by decide) (by decide) (by decide) (by decide), e0 12 (by decide) (by decide)]
    exact hR.2.1.2.2.1.1
  · rw [e0 12 (by decide) (by decide)]
    exact hR.2.1.2.2.1.2.1
  · rw [e0 12 (by decide) (by decide)]
    exact hR.2.1.2.2.1.2.2.1
  · intro k hk
    rw [e0 12 (by decide) (by decide)] at hk
    rw [cq 98 (by omega), haG_o (by omega), hq 56 (by omega) (by decide) (by decide)]
    exact hR.2.1.2.2.1.2.2.2 k hk
  · rw [z1]; decide
  · intro j
    rw [haG_o (by omega), hq 2 (by omega) (by decide) (by decide)]
    exact t.2.1 j
  · intro k hk
    rw [z1] at hk
    omega
  · rw [hbG_57 hM (by decide) (by decide), hF.2.1 1 (by decide), hbK_1, z1]
  · rw [hbG_t.1]
    exact haG_3.2.2.2.2.2.2.2.2.2.1.symm
  · rw [hbG_t.2.1]
    exact haG_3.2.2.2.2.2.2.2.2.2.2.symm
  · rw [c57 54 (by decide) (by decide) (by decide) (by decide) (by decide), e0 15 (by decide) (by decide)]
    exact hR.2.2.2.2.2.1
  · rw [hbG_o hM (by omega), haG_3.1, hX 12 (by decide)]
    exact hRD.2.2.2.2.1
theorem haB_q {x y : Int} {q : Nat} (h0 : q ≠ 0) (h1 : q ≠ 1) (h5 : q ≠ 55) : haB X x y q = X q := by
  unfold haB rfs
  rw [up_cell h5, up_cell h0, up_cell h0, up_cell h1]
theorem haB_0 {x y : Int} {j : Nat} (h : j ≠ 13) (h2 : j ≠ 14) : haB X x y 0 j = X 0 j := by
  unfold haB rfs
  rw [up_cell (by decide), up_n (by omega), up_n (by omega), up_cell (by decide)]
theorem haB_1 {x y : Int} : haB X x y 1 1 = 0 ∧ haB X x y 0 13 = x ∧ haB X x y 0 14 = y := ⟨rfl, rfl, rfl⟩
theorem haB_55 {x y : Int} : haB X x y 55 = ud (X 55) 1 (w32 (X 55 1 + 1)) := by
  have e : ∀ j, up (up (up X 1 1 0) 0 13 x) 0 14 y 55 j = X 55 j := fun j => by
    rw [up_cell (by decide), up_cell (by decide), up_cell (by decide)]
  funext j
  unfold haB rfs ud
  rw [up_ap, e, e]
  by_cases g : j = 1
  · rw [if_pos ⟨rfl, g⟩, if_pos g]
  · rw [if_neg (fun z => g z.2), if_neg g]
theorem KI_hb {x y : Int} (hk : KI I C) (hq : ∀ q, ¬ (12 ≤ q ∧ q ≤ 22) → q ≠ 24 → q ≠ 26 → X q = I q) (hd : dW X) : KI (haB X x y) C := by
  obtain ⟨h1, h2, h3, h4, h5, h6, h7⟩ := hk
  have e : ∀ q, ¬ (12 ≤ q ∧ q ≤ 22) → q ≠ 24 → q ≠ 26 → q ≠ 0 → q ≠ 1 → q ≠ 55 → haB X x y q = I q := fun q a c d f g i => (haB_q f g i).trans (hq q a c d)
  have e' : ∀ q, 4 ≤ q ∧ q ≤ 10 → haB X x y q = I q := fun q hh => e q (by omega) (by omega) (by omega) (by omega) (by omega) (by omega)
  have e3 : ∀ q, (30 ≤ q ∧ q ≤ 54) ∨ q = 56 ∨ q = 28 ∨ q = 25 → haB X x y q = I q := fun q hh => e q (by omega) (by omega) (by omega) (by omega) (by omega) (by omega)
  refine ⟨CP_to h1 e', seB_to h2 (e3 28 (by omega)), GDn_to h3 (e' 4 (by decide)) (e' 6 (by decide)) (fun q hh => e3 q (by omega)), PS_to h4 (e3 38 (by omega)), PG_to h5 (e' 4 (by decide)) (e' 6 (by decide)) (e3 38 (by omega)) (e3 39 (by omega)), BX_to h6 (fun q hh => e3 q (by omega)) ?_, fun w hw => ?_, fun k hk => ?_⟩
  · rw [haB_0 (by decide) (by decide), hq 0 (by omega) (by decide) (by decide)]
  · rw [haB_q (by decide) (by decide) (by decide), haB_q (by decide) (by decide) (by decide)]
    exact hd w hw
  · rw [e3 25 (by omega)]
    exact h7.2 k hk
theorem RM_hb {x y : Int} (hR : RM I I C b) (hq : ∀ q, ¬ (12 ≤ q ∧ q ≤ 22) → q ≠ 24 → q ≠ 26 → X q = I q) (b2 : b < 2) (hm : m + b = 1) (hF : FrB (hbK (haB X x y) n m) m K') (hM : Mbad K' x y H') : RM (haB X x y) (hbB H' x y) C b := by
  have t := hR.2.1.2.2.2
  have e : ∀ q, ¬ (12 ≤ q ∧ q ≤ 22) → q ≠ 24 → q ≠ 26 → q ≠ 0 → q ≠ 1 → q ≠ 55 → haB X x y q = I q := fun q a c d f g i => (haB_q f g i).trans (hq q a c d)
  have e' : ∀ q, (2 ≤ q ∧ q ≤ 10) ∨ (30 ≤ q ∧ q ≤ 54) ∨ 56 ≤ q → haB X x y q = I q := fun q hh => e q (by omega) (by omega) (by omega) (by omega) (by omega) (by omega)
  have e0 : ∀ j, j ≠ 13 → j ≠ 14 → haB X x y 0 j = I 0 j := fun j a c => by rw [haB_0 a c, hq 0 (by omega) (by decide) (by decide)]
  have z1 : haB X x y 1 1 = 0 := haB_1.1
  obtain ⟨f1, f2, f3⟩ := FrB_Sm b2 hm hF
  obtain ⟨s1, s2, s3⟩ := ba_Sm (a := x) (c := y) b2 hm hF hM
  have c57 : ∀ j, ¬ prs j → j ≠ 1 → j ≠ 2 → j ≠ 34 → j ≠ 10 → j ≠ 11 → hbB H' x y 57 j = I 57 j := fun j a1 a2 a3 a4 a5 a6 => by
    rw [s3 j a1 a2 a3 a4 a5 a6, e' 57 (by omega)]
  have cq : ∀ q, (q = 58 ∨ (83 < q ∧ q ≠ 84)) → hbB H' x y q = I q := fun q a => by
    rw [s2 q (by omega), e' q (by omega)]
  have sI : SmB I b (hbB H' x y) := ⟨by rw [s1.1, e' 57 (by omega)], fun q j a c => by rw [s1.2 q j a c, e' q (by omega)]⟩
  have rp := RP_pt (J' := haB X x y) hR.1.1 sI (e' 4 (by omega)) (e' 6 (by omega)) (e' 7 (by omega))
  have hsh : shp (hbB H' x y) = shp I := by rw [shp_RP rp, shp_RP hR.1.1, e' 4 (by omega)]
  refine ⟨⟨RP_pt hR.1.1 sI (e' 4 (by omega)) (e' 6 (by omega)) (e' 7 (by omega)), asB_s hR.1.2.1 (cq 91 (by omega)), SRn_s hR.1.2.2.1 (fun q hh => e' q (by omega)) (fun q hh => cq q (by omega)) hsh, RUn_s hR.1.2.2.2 (e' 38 (by omega)) (e' 39 (by omega)) (c57 53 (by decide) (by decide) (by decide) (by decide) (by decide) (by decide)) (c57 52 (by decide) (by decide) (by decide) (by decide) (by decide) (by decide)) (fun q hh => cq q (by omega)) hsh⟩, ⟨RRw_s hR.2.1.1 (by rw [e' 44 (by omega)]) (by rw [e' 44 (by omega)]) (e' 46 (by omega)) (e' 48 (by omega)) (c57 63 (by decide) (by decide) (by decide) (by decide) (by decide) (by decide)) (c57 66 (by decide) (by decide) (by decide) (by decide) (by decide) (by decide)) (cq 94 (by omega)) (cq 96 (by omega)), ?_, RWr_s hR.2.1.2.2.1 (e0 12 (by decide) (by decide)) (e' 56 (by omega)) (c57 70 (by decide) (by decide) (by decide) (by decide) (by decide) (by decide)) (cq 98 (by omega)), ?_, ?_, ?_⟩, ?_, ?_, ?_, ?_, ?_, ?_⟩
  · intro k hk
    have r55 := hR.2.1.2.1
    rw [hbB_84 hM, haB_55, f2 84 (by omega), e' 84 (by omega), hq 55 (by omega) (by decide) (by decide)]
    unfold ud
    rw [r55 1 (by decide), r55 k hk]
  · rw [z1]; decide
  · intro j
    rw [e' 2 (by omega)]
    exact t.2.1 j
  · intro k hk
    rw [z1] at hk
    omega
  · rw [hbB_57 hM (by decide) (by decide), hF.2.1 1 (by decide), hbK_1, z1]
  · exact haB_1.2.1.symm
  · exact haB_1.2.2.symm
  · rw [c57 54 (by decide) (by decide) (by decide) (by decide) (by decide) (by decide), e0 15 (by decide) (by decide)]
    exact hR.2.2.2.2.2.1
  · rw [sI.2 70 b (by decide) (by show 1 * b ≤ b ∧ b < 1 * b + 1; omega), e' 3 (by omega)]
    exact hR.2.2.2.2.2.2.1
  · intro i j hi hj
    rw [e' 4 (by omega)] at hj
    rw [e' 5 (by omega)]
    have hc := hR.1.1.2.2.2.2.2.2.2.2.2.1 i hi
    have ew : bkw (75 + i) = 6 := by
      have : i = 0 ∨ i = 1 ∨ i = 2 := by omega
      rcases this with g | g | g <;> (rw [g]; rfl)
    rw [sI.2 (75 + i) (6 * b + j) (by omega) (by rw [ew]; omega)]
    exact hR.2.2.2.2.2.2.2 i j hi hj
theorem tw_harbour (h : Iv I) : T2 MX11_harbour MX12_harbour 83 7 [] I := by
  obtain ⟨C, b, hK, hR⟩ := h
  have t := hR.2.1.2.2.2
  have t1 := t.1
  have b2 := hR.1.1.2.1
  have hd := hK.nx.1
  obtain ⟨n, hn⟩ : ∃ n : Nat, I 1 1 = (n : Int) := ⟨(I 1 1).toNat, by omega⟩
  have hn2 : n ≤ 1600 := by omega
  obtain ⟨m, hm⟩ : ∃ m : Nat, m + b = 1 := ⟨1 - b, by omega⟩
  have h58 : ∀ k, k < n → I 58 k = I 2 k := fun k hk => by
    rw [t.2.2 k (by omega)]
    unfold tAt
    rw [if_pos (by omega)]
    rfl
  refine sp_X11_harbour (n := n) ⟨hn, hn2, t.2.1, hK.nx.2⟩ hd (fun I' p' X hTx hX hX24 => ⟨_, rfl, ?_⟩) (fun e X hTx hX hdX => ⟨_, rfl, ?_⟩)
  · obtain ⟨g1, hI, hp⟩ := tx_gs hn2 81 (dr0 I) 0 (DI_0 hd) (by omega) I' p' hTx
    obtain ⟨hD, C', hC⟩ := tx_fd hn2 81 (dr0 I) 0 (fun _ => []) (DI_0 hd) (by omega) DX_0 FD_0 I' p' hTx
    have h20 : I' 20 5 = 0 := by
      rw [tx_20 hn2 81 (dr0 I) 0 (DI_0 hd) (by omega) I' p' hTx]
      rfl
    have hq : ∀ q, ¬ (12 ≤ q ∧ q ≤ 22) → q ≠ 24 → q ≠ 26 → X q = I q := fun q a c d => by
      rw [hX q c]
      funext k
      rw [g1 q k a (by omega), dr0_o a]
    have e57 : ∀ q, 57 ≤ q → haG X q = I q := fun q h57 => by
      funext k
      rw [haG_o (by omega), hq q (by omega) (by omega) (by omega)]
    have wf : WF (haG X) C' := af_WF hX hI (by omega) hD hC h20 (seB_to hK.2.1 (hq 28 (by omega) (by decide) (by decide))) (by rw [hq 32 (by omega) (by decide) (by decide)]; exact hK.bx.1)
    refine mr_harbour (J := I) (b := b) (m := m) (n := n) b2 hm (by rw [e57 57 (by decide)]; exact hR.1.1.1) (by rw [e57 57 (by decide), hR.2.2.1, hn]) hn2 (fun k hk => by rw [e57 58 (by decide)]; exact h58 k hk) t.2.1 hd (fun e' K' H' hT' => ?_) (fun I2 p2 K' H' hT' hF hRD hDX hDI hM => ?_)
    · rw [hTx] at hT'
      cases hT'
    · have ee : (I', p') = (I2, p2) := by
        rw [hTx] at hT'
        exact Sum.inr.inj hT'
      have e1 : I2 = I' := (congrArg Prod.fst ee).symm
      have e2 : p2 = p' := (congrArg Prod.snd ee).symm
      rw [e1] at hRD
      rw [e2] at hM
      rw [e1]
      refine ⟨rfl, iv_of (KI_ha hK hX hq hI hD wf) (RM_ha hR hX hq hI (by omega) hD hC h20 b2 hm hF hM hRD wf) (fun q h57 => ?_) (fun q _ => rfl)⟩
      obtain ⟨s1, s2, s3⟩ := FrB_Sm b2 hm hF
      funext k
      show hbG H' m (I' 13 1).toNat q k = haG X q k
      rw [hbG_o hM (by omega), s2 q (by omega)]
  · have hq : ∀ q, ¬ (12 ≤ q ∧ q ≤ 22) → q ≠ 24 → q ≠ 26 → X q = I q := fun q a c d => by
      funext k
      exact hX q k a (by omega) (by omega)
    have e57 : ∀ q, 57 ≤ q → haB X e.1 e.2 q = I q := fun q h57 => (haB_q (by omega) (by omega) (by omega)).trans (hq q (by omega) (by omega) (by omega))
    refine mr_harbour (J := I) (b := b) (m := m) (n := n) b2 hm (by rw [e57 57 (by decide)]; exact hR.1.1.1) (by rw [e57 57 (by decide), hR.2.2.1, hn]) hn2 (fun k hk => by rw [e57 58 (by decide)]; exact h58 k hk) t.2.1 hd (fun e' K' H' hT' hF hM => ?_) (fun I2 p2 K' H' hT' => ?_)
    · have ee : e' = e := by
        rw [hTx] at hT'
        exact (Sum.inl.inj hT').symm
      rw [ee] at hM ⊢
      refine ⟨rfl, iv_of (KI_hb (x := e.1) (y := e.2) hK hq hdX) (RM_hb hR hq b2 hm hF hM) (fun q h57 => ?_) (fun q _ => rfl)⟩
      obtain ⟨s1, s2, s3⟩ := ba_Sm (a := e.1) (c := e.2) b2 hm hF hM
      exact s2 q (by omega)
    · rw [hTx] at hT'
      cases hT'
end TWO6
