/-! ===== the whole relation ===== -/
/-- a standing that the plan of J allows -/
def GD (J : HI) (hr kf kc : Int) (li cr rg : Nat → Int) : Prop := (0 ≤ hr ∧ hr ≤ 9999) ∧ (0 ≤ kf ∧ kf < 60 ∧ 0 ≤ kc ∧ kc ≤ 60) ∧ (∀ s : Nat, s < 6 → ((s : Int) < J 4 1 → li s = -1 ∨ (0 ≤ li s ∧ li s < J 4 2)) ∧ (¬ (s : Int) < J 4 1 → li s = -1)) ∧ (∀ k, k < 144 → 0 ≤ cr k ∧ cr k ≤ 20) ∧ ZF J cr ∧ (∀ k, k < 60 → 0 ≤ rg k ∧ rg k < 2000000000)
def GDn (J : HI) : Prop := GD J (J 30 5) (J 30 3) (J 30 4) (J 31) (J 32) (J 33)
def GDs (J : HI) (q : Nat) : Prop := GD J (J 39 (213 * q)) (J 39 (213 * q + 1)) (J 39 (213 * q + 2)) (fun s => J 39 (213 * q + 3 + s)) (fun c => J 39 (213 * q + 9 + c)) (fun r => J 39 (213 * q + 153 + r))
def PG (J : HI) : Prop := ∀ j : Nat, (j : Int) < J 38 2 → GDs J ((J 38 1 + j) % 20).toNat
def PS (J : HI) : Prop := 0 ≤ J 38 1 ∧ J 38 1 < 20 ∧ 0 ≤ J 38 2 ∧ J 38 2 ≤ 20
def BX (J : HI) : Prop := (∀ k, 0 ≤ J 32 k ∧ J 32 k ≤ 20) ∧ (∀ k, 0 ≤ J 33 k ∧ J 33 k < 2000000000) ∧ (∀ k, 0 ≤ J 45 k ∧ J 45 k ≤ 20) ∧ (∀ k, 0 ≤ J 53 k ∧ J 53 k ≤ 20) ∧ (∀ k, -99 ≤ J 54 k ∧ J 54 k ≤ 99) ∧ oB J ∧ tB J ∧ (0 ≤ J 0 15 ∧ J 0 15 < 2147483648)
def NX (J : HI) : Prop := dW J ∧ ∀ k : Nat, k < 29 → J 25 k = own5 k
/-- what the class keeps -/
def KI (J : HI) (C : Nat → List Int) : Prop := CP J C ∧ seB J ∧ GDn J ∧ PS J ∧ PG J ∧ BX J ∧ NX J
/-- class and reference stand alike -/
def RM (J K : HI) (C : Nat → List Int) (b : Nat) : Prop := (RP J K C b ∧ asB K ∧ SRn J K ∧ RUn J K) ∧ (RRw J K ∧ RRf J K ∧ RWr J K ∧ RTp J K) ∧ (K 57 1 = J 1 1 ∧ K 57 10 = J 0 13 ∧ K 57 11 = J 0 14 ∧ K 57 54 = J 0 15 ∧ K 70 b = J 3 8 ∧ RNm J K b)
/-- what holds between two calls -/
def Iv (I : HI) : Prop := ∃ (C : Nat → List Int) (b : Nat), KI I C ∧ RM I I C b
theorem GD_J {J J' : HI} {hr kf kc : Int} {li cr rg : Nat → Int} (h : GD J hr kf kc li cr rg) (h4 : J' 4 = J 4) (h6 : J' 6 = J 6) : GD J' hr kf kc li cr rg := by
  obtain ⟨a, b, c, d, e, f⟩ := h
  refine ⟨a, b, ?_, d, ZF_J e h4 h6, f⟩
  rw [h4]
  exact c
theorem KI.wf {J : HI} {C : Nat → List Int} (h : KI J C) : WF J C := by
  obtain ⟨h1, h2, g, h4, h5, h6, h7⟩ := h
  have hc := h1.1.1 1 (by decide)
  exact ⟨h1, h2, g.1, h6.1, fun s hs => (g.2.2.1 s (by omega)).1 hs⟩
theorem KI.wk {J : HI} {C : Nat → List Int} (h : KI J C) : WK J := ⟨h.2.2.1.2.1, h.2.2.2.1⟩
theorem KI.zf {J : HI} {C : Nat → List Int} (h : KI J C) : ZF J (J 32) := h.2.2.1.2.2.2.2.1
theorem KI.lz {J : HI} {C : Nat → List Int} (h : KI J C) : ∀ s : Nat, s < 6 → ¬ (s : Int) < J 4 1 → J 31 s = -1 := fun s a b => (h.2.2.1.2.2.1 s a).2 b
theorem KI.bx {J : HI} {C : Nat → List Int} (h : KI J C) : BX J := h.2.2.2.2.2.1
theorem KI.nx {J : HI} {C : Nat → List Int} (h : KI J C) : NX J := h.2.2.2.2.2.2
theorem KI.bw {J : HI} {C : Nat → List Int} (h : KI J C) : BW J := by
  have g := h.2.2.1
  exact ⟨h.bx.1, ⟨g.2.1.1, g.2.1.2.1, g.2.1.2.2.1, g.2.1.2.2.2, g.1.1, g.1.2⟩, h.bx.2.2.2.2.2.2.2⟩
theorem KI.po {J : HI} {C : Nat → List Int} (h : KI J C) : pOK J := h.1.1
theorem mn_of {J K : HI} {C : Nat → List Int} {b : Nat} (h : KI J C) (r : RM J K C b) : MN J K C b := ⟨r.1.1, r.1.2.1, h.wf, r.1.2.2.1, h.zf, h.lz⟩
/-- the cells that KI speaks of but for scratch -/
def kiC (q : Nat) : Prop := (4 ≤ q ∧ q ≤ 10) ∨ q = 15 ∨ q = 16 ∨ q = 25 ∨ (30 ≤ q ∧ q ≤ 33) ∨ q = 38 ∨ q = 39
theorem NX_to {J J' : HI} (h : NX J) (h15 : J' 15 = J 15) (h16 : J' 16 = J 16) (h25 : J' 25 = J 25) : NX J' := by
  unfold NX dW at *
  rw [h15, h16, h25]
  exact h
theorem CP_to {J J' : HI} {C : Nat → List Int} (h : CP J C) (e : ∀ q, 4 ≤ q ∧ q ≤ 10 → J' q = J q) : CP J' C := ⟨pOK_to h.1 (e 4 (by decide)) (e 6 (by decide)) (e 7 (by decide)), FM_to h.2.1 (e 8 (by decide)) (e 9 (by decide)) (e 10 (by decide)), h.2.2⟩
theorem GDn_to {J J' : HI} (h : GDn J) (e4 : J' 4 = J 4) (e6 : J' 6 = J 6) (e : ∀ q, 30 ≤ q ∧ q ≤ 33 → J' q = J q) : GDn J' := by
  unfold GDn
  rw [e 30 (by decide), e 31 (by decide), e 32 (by decide), e 33 (by decide)]
  exact GD_J h e4 e6
theorem PG_to {J J' : HI} (h : PG J) (e4 : J' 4 = J 4) (e6 : J' 6 = J 6) (e38 : J' 38 = J 38) (e39 : J' 39 = J 39) : PG J' := by
  intro j hj
  rw [e38] at hj
  unfold GDs
  rw [e38, e39]
  exact GD_J (h j hj) e4 e6
theorem PS_to {J J' : HI} (h : PS J) (e38 : J' 38 = J 38) : PS J' := by
  unfold PS at *
  rw [e38]
  exact h
theorem KI_q {J J' : HI} {C : Nat → List Int} (h : KI J C) (e : ∀ q, kiC q → J' q = J q) (hs : seB J') (hb : BX J') : KI J' C := by
  obtain ⟨h1, h2, h3, h4, h5, h6, h7⟩ := h
  have e' : ∀ q, 4 ≤ q ∧ q ≤ 10 → J' q = J q := fun q hq => e q (Or.inl hq)
  have e30 : ∀ q, 30 ≤ q ∧ q ≤ 33 → J' q = J q := fun q hq => e q (by unfold kiC; omega)
  have e38 := e 38 (by unfold kiC; omega)
  exact ⟨CP_to h1 e', hs, GDn_to h3 (e' 4 (by decide)) (e' 6 (by decide)) e30, PS_to h4 e38, PG_to h5 (e' 4 (by decide)) (e' 6 (by decide)) e38 (e 39 (by unfold kiC; omega)), hb, NX_to h7 (e 15 (by unfold kiC; omega)) (e 16 (by unfold kiC; omega)) (e 25 (by unfold kiC; omega))⟩
theorem KI_s {J J' : HI} {C : Nat → List Int} (h : KI J C) (e : ∀ q, (4 ≤ q ∧ q ≤ 10) ∨ q = 15 ∨ q = 16 ∨ q = 25 → J' q = J q) (hs : seB J') (hg : GDn J') (hp : PS J') (hG : PG J') (hb : BX J') : KI J' C := by
  obtain ⟨h1, h2, h3, h4, h5, h6, h7⟩ := h
  have e' : ∀ q, 4 ≤ q ∧ q ≤ 10 → J' q = J q := fun q hq => e q (Or.inl hq)
  exact ⟨CP_to h1 e', hs, hg, hp, hG, hb, NX_to h7 (e 15 (by omega)) (e 16 (by omega)) (e 25 (by omega))⟩
theorem BX_to {J J' : HI} (h : BX J) (e : ∀ q, q = 32 ∨ q = 33 ∨ q = 45 ∨ q = 53 ∨ q = 54 ∨ q = 56 ∨ q = 36 → J' q = J q) (e0 : J' 0 15 = J 0 15) : BX J' := by
  unfold BX oB tB at *
  rw [e 32 (by omega), e 33 (by omega), e 45 (by omega), e 53 (by omega), e 54 (by omega), e 56 (by omega), e 36 (by omega), e0]
  exact h
theorem seB_to {J J' : HI} (h : seB J) (e : J' 28 = J 28) : seB J' := by
  unfold seB at *
  rw [e]
  exact h
/-- the class's cells are the same: so is what it keeps -/
theorem KI_to {J J' : HI} {C : Nat → List Int} (h : KI J C) (e : ∀ q, q < 57 → J' q = J q) : KI J' C := KI_q h (fun q hq => e q (by unfold kiC at hq; omega)) (seB_to h.2.1 (e 28 (by decide))) (BX_to h.bx (fun q hq => e q (by omega)) (by rw [e 0 (by decide)]))
theorem KI_sc {J J' : HI} {C : Nat → List Int} (h : KI J C) (e : Sc J J') : KI J' C := KI_q h (fun q hq => e.1 q (by unfold kiC at hq; omega) (by unfold kiC at hq; omega)) e.2 (BX_to h.bx (fun q hq => e.1 q (by omega) (by omega)) (by rw [e.1 0 (by decide) (by decide)]))
theorem KI_u {J : HI} {C : Nat → List Int} {q j : Nat} {x : Int} (h : KI J C) (hq : q = 1 ∨ q = 2 ∨ q = 3 ∨ q = 55 ∨ q = 44) : KI (up J q j x) C := KI_q h (fun p hp => up_cell (by unfold kiC at hp; omega)) (seB_to h.2.1 (up_cell (by omega))) (BX_to h.bx (fun p hp => up_cell (by omega)) (by rw [up_cell (by omega)]))
theorem KI_rf {J : HI} {C : Nat → List Int} {k : Nat} (h : KI J C) : KI (rfs J k) C := KI_u h (by omega)
/-- the class's cells that RM speaks of -/
def rmC (q : Nat) : Prop := q ≤ 10 ∨ (30 ≤ q ∧ q ≤ 33) ∨ q = 38 ∨ q = 39 ∨ q = 44 ∨ q = 46 ∨ q = 48 ∨ q = 55 ∨ q = 56
theorem SRn_J {J J' K : HI} (h : SRn J K) (e : ∀ q, 30 ≤ q ∧ q ≤ 33 → J' q = J q) : SRn J' K := by
  unfold SRn
  rw [e 30 (by decide), e 31 (by decide), e 32 (by decide), e 33 (by decide)]
  exact h
theorem RUn_J {J J' K : HI} (h : RUn J K) (h38 : J' 38 = J 38) (h39 : J' 39 = J 39) : RUn J' K := RUn_to h h38 h39 rfl rfl (fun _ _ a _ => a)
theorem RRw_J {J J' K : HI} (h : RRw J K) (h1 : J' 44 10 = J 44 10) (h2 : J' 44 11 = J 44 11) (h46 : J' 46 = J 46) (h48 : J' 48 = J 48) : RRw J' K := by
  unfold RRw at *
  rw [h1, h2, h46, h48]
  exact h
theorem RWr_J {J J' K : HI} (h : RWr J K) (h0 : J' 0 12 = J 0 12) (h56 : J' 56 = J 56) : RWr J' K := by
  unfold RWr at *
  rw [h0, h56]
  exact h
theorem RTp_J {J J' K : HI} (h : RTp J K) (h1 : J' 1 1 = J 1 1) (h2 : J' 2 = J 2) : RTp J' K := by
  unfold RTp tAt at *
  rw [h1, h2]
  exact h
theorem RNm_J {J J' K : HI} {b : Nat} (h : RNm J K b) (h4 : J' 4 = J 4) (h5 : J' 5 = J 5) : RNm J' K b := by
  unfold RNm at *
  rw [h4, h5]
  exact h
theorem RRf_J {J J' K : HI} (h : RRf J K) (h55 : J' 55 = J 55) : RRf J' K := by
  unfold RRf at *
  rw [h55]
  exact h
theorem RM_J {J J' K : HI} {C : Nat → List Int} {b : Nat} (h : RM J K C b) (e : ∀ q, rmC q → J' q = J q) : RM J' K C b := by
  obtain ⟨⟨a1, a2, a3, a4⟩, ⟨b1, b2, b3, b4⟩, c1, c2, c3, c4, c5, c6⟩ := h
  have e' : ∀ q, q ≤ 10 → J' q = J q := fun q hq => e q (Or.inl hq)
  have o : ∀ q, (30 ≤ q ∧ q ≤ 33) ∨ q = 38 ∨ q = 39 ∨ q = 44 ∨ q = 46 ∨ q = 48 ∨ q = 55 ∨ q = 56 → J' q = J q := fun q hq => e q (Or.inr hq)
  refine ⟨⟨RP_J a1 (e' 4 (by decide)) (e' 6 (by decide)) (e' 7 (by decide)), a2, SRn_J a3 (fun q hq => o q (by omega)), RUn_J a4 (o 38 (by omega)) (o 39 (by omega))⟩, ⟨RRw_J b1 (by rw [o 44 (by omega)]) (by rw [o 44 (by omega)]) (o 46 (by omega)) (o 48 (by omega)), RRf_J b2 (o 55 (by omega)), RWr_J b3 (by rw [e' 0 (by decide)]) (o 56 (by omega)), RTp_J b4 (by rw [e' 1 (by decide)]) (e' 2 (by decide))⟩, ?_, ?_, ?_, ?_, ?_, RNm_J c6 (e' 4 (by decide)) (e' 5 (by decide))⟩
  · rw [e' 1 (by decide)]; exact c1
  · rw [e' 0 (by decide)]; exact c2
  · rw [e' 0 (by decide)]; exact c3
  · rw [e' 0 (by decide)]; exact c4
  · rw [e' 3 (by decide)]; exact c5
/-- the reference's cells that RM speaks of, but for those of the standing -/
theorem RM_K {J J' K K' : HI} {C : Nat → List Int} {b : Nat} (h : RM J K C b) (e : ∀ q, q ≤ 10 ∨ q = 44 ∨ q = 46 ∨ q = 48 ∨ q = 55 ∨ q = 56 → J' q = J q) (f : ∀ q, q = 58 ∨ (59 ≤ q ∧ q ≤ 77) ∨ q = 84 ∨ q = 94 ∨ q = 96 ∨ q = 98 → K' q = K q) (g : ∀ j, j = 1 ∨ j = 10 ∨ j = 11 ∨ j = 13 ∨ j = 54 ∨ j = 63 ∨ j = 66 ∨ j = 70 → K' 57 j = K 57 j) (has : asB K') (hS : SRn J' K') (hU : RUn J' K') : RM J' K' C b := by
  obtain ⟨⟨a1, a2, a3, a4⟩, ⟨b1, b2, b3, b4⟩, c1, c2, c3, c4, c5, c6⟩ := h
  have e' : ∀ q, q ≤ 10 → J' q = J q := fun q hq => e q (Or.inl hq)
  refine ⟨⟨RP_J (a1.to (g 13 (by omega)) (fun q hq => f q (by unfold mcell at hq; omega))) (e' 4 (by decide)) (e' 6 (by decide)) (e' 7 (by decide)), has, hS, hU⟩, ⟨RRw_J ?_ (by rw [e 44 (by omega)]) (by rw [e 44 (by omega)]) (e 46 (by omega)) (e 48 (by omega)), RRf_J ?_ (e 55 (by omega)), RWr_J ?_ (by rw [e' 0 (by decide)]) (e 56 (by omega)), RTp_J ?_ (by rw [e' 1 (by decide)]) (e' 2 (by decide))⟩, ?_, ?_, ?_, ?_, ?_, RNm_J ?_ (e' 4 (by decide)) (e' 5 (by decide))⟩
  · unfold RRw at *
    rw [g 63 (by omega), g 66 (by omega), f 94 (by omega), f 96 (by omega)]
    exact b1
  · unfold RRf at *
    rw [f 84 (by omega)]
    exact b2
  · unfold RWr at *
    rw [g 70 (by omega), f 98 (by omega)]
    exact b3
  · unfold RTp at *
    rw [f 58 (by omega)]
    exact b4
  · rw [e' 1 (by decide), g 1 (by omega)]; exact c1
  · rw [e' 0 (by decide), g 10 (by omega)]; exact c2
  · rw [e' 0 (by decide), g 11 (by omega)]; exact c3
  · rw [e' 0 (by decide), g 54 (by omega)]; exact c4
  · rw [e' 3 (by decide), f 70 (by omega)]; exact c5
  · intro a j ha hj
    rw [f (75 + a) (by omega)]
    exact c6 a j ha hj
/-- a call that changes nothing of the reference but scratch -/
theorem RM_sb {J K K' : HI} {C : Nat → List Int} {b : Nat} (h : RM J K C b) (f : SB K K') : RM J K' C b := RM_K h (fun _ _ => rfl) (fun q hq => f.1 q (by omega) (by omega)) (fun j hj => f.2.1 j (by omega)) f.2.2 (SR_to h.1.2.2.1 (f.1 85 (by omega) (by omega)) (f.1 86 (by omega) (by omega)) (f.1 87 (by omega) (by omega)) (f.1 88 (by omega) (by omega)) (f.1 89 (by omega) (by omega)) (shp_of (f.1 62 (by omega) (by omega)) (f.2.1 13 (by omega)))) (RUn_to h.1.2.2.2 rfl rfl (f.2.1 53 (by omega)) (f.2.1 52 (by omega)) (fun q _ hq _ => SR_to hq (f.1 85 (by omega) (by omega)) (f.1 86 (by omega) (by omega)) (f.1 87 (by omega) (by omega)) (f.1 88 (by omega) (by omega)) (f.1 89 (by omega) (by omega)) (shp_of (f.1 62 (by omega) (by omega)) (f.2.1 13 (by omega)))))
theorem SB_sc {K K' : HI} (h : ScM K K') : SB K K' := ⟨fun q a b => h.1 q a (by omega) (by omega), h.2.1, h.2.2⟩
theorem RM_sc {J K K' : HI} {C : Nat → List Int} {b : Nat} (h : RM J K C b) (f : ScM K K') : RM J K' C b := RM_sb h (SB_sc f)
/-- the reference's cells are the same -/
theorem RM_to {J K K' : HI} {C : Nat → List Int} {b : Nat} (h : RM J K C b) (f : ∀ q, 57 ≤ q → K' q = K q) : RM J K' C b := RM_K h (fun _ _ => rfl) (fun q hq => f q (by omega)) (fun j hj => by rw [f 57 (by decide)]) (fun k => by rw [f 91 (by decide)]; exact h.1.2.1 k) (SR_to h.1.2.2.1 (f 85 (by omega)) (f 86 (by omega)) (f 87 (by omega)) (f 88 (by omega)) (f 89 (by omega)) (shp_of (f 62 (by omega)) (by rw [f 57 (by decide)]))) (RUn_to h.1.2.2.2 rfl rfl (by rw [f 57 (by decide)]) (by rw [f 57 (by decide)]) (fun q _ hq _ => SR_to hq (f 85 (by omega)) (f 86 (by omega)) (f 87 (by omega)) (f 88 (by omega)) (f 89 (by omega)) (shp_of (f 62 (by omega)) (by rw [f 57 (by decide)]))))
