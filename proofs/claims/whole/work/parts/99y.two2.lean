/-! ===== the whole relation: what a call may change ===== -/
section RMG
variable {J J' K K' : HI} {C : Nat → List Int} {b : Nat}
theorem RM_G (h : RM J K C b) (e : ∀ q, 3 ≤ q ∧ q ≤ 10 → J' q = J q) (f : ∀ q, 59 ≤ q ∧ q ≤ 77 → K' q = K q) (g : K' 57 13 = K 57 13) (f10 : K' 57 10 = J' 0 13) (f11 : K' 57 11 = J' 0 14) (has : asB K') (hS : SRn J' K') (hU : RUn J' K') (hw : RRw J' K') (hf : RRf J' K') (hr : RWr J' K') (hT : RTp J' K') (h1 : K' 57 1 = J' 1 1) (h54 : K' 57 54 = J' 0 15) : RM J' K' C b := by
  obtain ⟨⟨a1, a2, a3, a4⟩, ⟨b1, b2, b3, b4⟩, c1, c2, c3, c4, c5, c6⟩ := h
  refine ⟨⟨RP_J (a1.to g (fun q hq => f q (by unfold mcell at hq; omega))) (e 4 (by decide)) (e 6 (by decide)) (e 7 (by decide)), has, hS, hU⟩, ⟨hw, hf, hr, hT⟩, h1, f10, f11, h54, ?_, RNm_J (K := K') ?_ (e 4 (by decide)) (e 5 (by decide))⟩
  · rw [e 3 (by decide), f 70 (by omega)]; exact c5
  · intro a j ha hj
    rw [f (75 + a) (by omega)]
    exact c6 a j ha hj
theorem RRw_s (h : RRw J K) (h1 : J' 44 10 = J 44 10) (h2 : J' 44 11 = J 44 11) (h46 : J' 46 = J 46) (h48 : J' 48 = J 48) (k1 : K' 57 63 = K 57 63) (k2 : K' 57 66 = K 57 66) (k3 : K' 94 = K 94) (k4 : K' 96 = K 96) : RRw J' K' := by
  unfold RRw at *
  rw [h1, h2, h46, h48, k1, k2, k3, k4]
  exact h
theorem RRf_s (h : RRf J K) (h55 : J' 55 = J 55) (k : K' 84 = K 84) : RRf J' K' := by
  unfold RRf at *
  rw [h55, k]
  exact h
theorem RWr_s (h : RWr J K) (h0 : J' 0 12 = J 0 12) (h56 : J' 56 = J 56) (k1 : K' 57 70 = K 57 70) (k2 : K' 98 = K 98) : RWr J' K' := by
  unfold RWr at *
  rw [h0, h56, k1, k2]
  exact h
theorem RTp_s (h : RTp J K) (h1 : J' 1 1 = J 1 1) (h2 : J' 2 = J 2) (k : K' 58 = K 58) : RTp J' K' := by
  unfold RTp tAt at *
  rw [h1, h2, k]
  exact h
theorem SRn_s (h : SRn J K) (e : ∀ q, 30 ≤ q ∧ q ≤ 33 → J' q = J q) (f : ∀ q, 85 ≤ q ∧ q ≤ 89 → K' q = K q) (hsh : shp K' = shp K) : SRn J' K' := SRn_J (SR_to h (f 85 (by omega)) (f 86 (by omega)) (f 87 (by omega)) (f 88 (by omega)) (f 89 (by omega)) hsh) e
theorem RUn_s (h : RUn J K) (h38 : J' 38 = J 38) (h39 : J' 39 = J 39) (k53 : K' 57 53 = K 57 53) (k52 : K' 57 52 = K 57 52) (f : ∀ q, 85 ≤ q ∧ q ≤ 89 → K' q = K q) (hsh : shp K' = shp K) : RUn J' K' := RUn_to h h38 h39 k53 k52 (fun _ _ a _ => SR_to a (f 85 (by omega)) (f 86 (by omega)) (f 87 (by omega)) (f 88 (by omega)) (f 89 (by omega)) hsh)
theorem asB_s (h : asB K) (e : K' 91 = K 91) : asB K' := by
  unfold asB at *
  rw [e]
  exact h
/-- refused on both sides -/
theorem RM_rf {k : Nat} (h : RM J K C b) : RM (rfs J k) (mrf K k) C b := by
  have j : ∀ q, q ≠ 55 → rfs J k q = J q := fun q hq => up_cell hq
  have m : ∀ q, q ≠ 84 → mrf K k q = K q := fun q hq => up_cell hq
  have m57 := m 57 (by decide)
  have j0 := j 0 (by decide)
  refine RM_G h (fun q hq => j q (by omega)) (fun q hq => m q (by omega)) (by rw [m57]) (by rw [m57, j0]; exact h.2.2.2.1) (by rw [m57, j0]; exact h.2.2.2.2.1) (asB_s h.1.2.1 (m 91 (by decide))) (SRn_s h.1.2.2.1 (fun q hq => j q (by omega)) (fun q hq => m q (by omega)) (shp_of (m 62 (by decide)) (by rw [m57]))) (RUn_s h.1.2.2.2 (j 38 (by decide)) (j 39 (by decide)) (by rw [m57]) (by rw [m57]) (fun q hq => m q (by omega)) (shp_of (m 62 (by decide)) (by rw [m57]))) (RRw_s h.2.1.1 (by rw [j 44 (by decide)]) (by rw [j 44 (by decide)]) (j 46 (by decide)) (j 48 (by decide)) (by rw [m57]) (by rw [m57]) (m 94 (by decide)) (m 96 (by decide))) (fun i hi => ?_) (RWr_s h.2.1.2.2.1 (by rw [j0]) (j 56 (by decide)) (by rw [m57]) (m 98 (by decide))) (RTp_s h.2.1.2.2.2 (by rw [j 1 (by decide)]) (j 2 (by decide)) (m 58 (by decide))) (by rw [m57, j 1 (by decide)]; exact h.2.2.1) (by rw [m57, j0]; exact h.2.2.2.2.2.1)
  unfold rfs mrf
  rw [up_ap, up_ap]
  by_cases e : i = k
  · rw [if_pos ⟨rfl, e⟩, if_pos ⟨rfl, e⟩]
    subst e
    rw [h.2.1.2.1 i hi]
  · rw [if_neg (by omega), if_neg (by omega)]
    exact h.2.1.2.1 i hi
/-- the tape's length set on both sides -/
theorem RM_e {n : Int} (h : RM J K C b) (hn : 0 ≤ n ∧ n ≤ J 1 1) : RM (up J 1 1 n) (up K 57 1 n) C b := by
  have j : ∀ q, q ≠ 1 → up J 1 1 n q = J q := fun q hq => up_cell hq
  have m : ∀ q, q ≠ 57 → up K 57 1 n q = K q := fun q hq => up_cell hq
  have m57 : ∀ i, i ≠ 1 → up K 57 1 n 57 i = K 57 i := fun i hi => up_n (by omega)
  have j0 := j 0 (by decide)
  have t := h.2.1.2.2.2
  refine RM_G h (fun q hq => j q (by omega)) (fun q hq => m q (by omega)) (m57 13 (by decide)) (by rw [m57 10 (by decide), j0]; exact h.2.2.2.1) (by rw [m57 11 (by decide), j0]; exact h.2.2.2.2.1) (asB_s h.1.2.1 (m 91 (by decide))) (SRn_s h.1.2.2.1 (fun q hq => j q (by omega)) (fun q hq => m q (by omega)) (shp_of (m 62 (by decide)) (m57 13 (by decide)))) (RUn_s h.1.2.2.2 (j 38 (by decide)) (j 39 (by decide)) (m57 53 (by decide)) (m57 52 (by decide)) (fun q hq => m q (by omega)) (shp_of (m 62 (by decide)) (m57 13 (by decide)))) (RRw_s h.2.1.1 (by rw [j 44 (by decide)]) (by rw [j 44 (by decide)]) (j 46 (by decide)) (j 48 (by decide)) (m57 63 (by decide)) (m57 66 (by decide)) (m 94 (by decide)) (m 96 (by decide))) (RRf_s h.2.1.2.1 (j 55 (by decide)) (m 84 (by decide))) (RWr_s h.2.1.2.2.1 (by rw [j0]) (j 56 (by decide)) (m57 70 (by decide)) (m 98 (by decide))) ⟨?_, ?_, ?_⟩ rfl (by rw [m57 54 (by decide), j0]; exact h.2.2.2.2.2.1)
  · rw [up_s]
    have := t.1
    omega
  · rw [j 2 (by decide)]
    exact t.2.1
  · intro k hk
    rw [up_s] at hk
    rw [m 58 (by decide), t.2.2 k (by omega)]
    unfold tAt
    rw [up_s, j 2 (by decide), if_pos (by omega), if_pos (by omega)]
theorem RM_re {k : Nat} (h : RM J K C b) : RM (up (rfs J k) 1 1 0) (mrf (up K 57 1 0) k) C b := by
  have e : mrf (up K 57 1 0) k = up (mrf K k) 57 1 0 := by
    funext q j
    unfold mrf
    simp only [up_ap]
    by_cases hq : q = 84 <;> simp [hq]
  have t := h.2.1.2.2.2.1
  rw [e]
  exact RM_e (RM_rf h) ⟨by decide, by rw [show rfs J k 1 1 = J 1 1 from up_n (by omega)]; exact t.1⟩
/-- a change of the standing -/
theorem RM_F (h : RM J K C b) (f : MFr K K') (e : ∀ q, q ≤ 10 ∨ q = 44 ∨ q = 46 ∨ q = 48 ∨ q = 55 ∨ q = 56 → J' q = J q) (hS : SRn J' K') (hU : RUn J' K') : RM J' K' C b := RM_K h e (fun q hq => f.1 q (by omega) (by omega)) (fun j hj => f.2.1 j (by omega) (by omega) (by omega)) f.2.2 hS hU
end RMG
section TWO2
variable {I : HI}
theorem tw_end (h : Iv I) {n : Int} : T2 MX11_end MX12_end 2 1 [aI n] I := by
  obtain ⟨C, b, hK, hR⟩ := h
  have h1 := hR.2.2.1
  refine sp_X11_end (fun hn => ⟨_, rfl, ?_⟩) (fun hn => ⟨_, rfl, ?_⟩)
  · have r := RM_to hR (K' := up I 1 1 n) (fun q hq => up_cell (by omega))
    refine spm_end (fun _ => ⟨rfl, ?_⟩) (fun w => absurd (by rw [up_cell (by decide), h1]; exact hn) w)
    exact iv_of (KI_u hK (by omega)) (RM_e r hn) (fun q hq => up_cell (by omega)) (fun q _ => rfl)
  · have r := RM_to hR (K' := rfs I 0) (fun q hq => up_cell (by omega))
    refine spm_end (fun w => absurd (by rw [show rfs I 0 57 1 = I 57 1 from up_n (by omega), h1] at w; exact w) hn) (fun _ => ⟨rfl, ?_⟩)
    exact iv_of (KI_rf hK) (RM_rf r) (fun q hq => up_cell (by omega)) (fun q _ => rfl)
theorem tw_seed (h : Iv I) {n : Int} (hn : in32 n) : T2 MX11_seed MX12_seed 2 1 [aI n] I := by
  obtain ⟨C, b, hK, hR⟩ := h
  refine sp_X11_seed (fun h0 => ⟨_, rfl, ?_⟩) (fun h0 => ⟨_, rfl, ?_⟩)
  · refine spm_seed (fun _ => ⟨rfl, ?_⟩) (fun w => by omega)
    have j : ∀ q, q ≠ 0 → up I 0 15 n q = I q := fun q hq => up_cell hq
    have j0 : ∀ i, i ≠ 15 → up I 0 15 n 0 i = I 0 i := fun i hi => up_n (by omega)
    have m : ∀ q, q ≠ 57 → q ≠ 0 → up (up I 0 15 n) 57 54 n q = I q := fun q hq h2 => by rw [up_cell hq, up_cell h2]
    have m57 : ∀ i, i ≠ 54 → up (up I 0 15 n) 57 54 n 57 i = I 57 i := fun i hi => by rw [up_n (by omega), up_cell (by decide)]
    have hb := hK.bx
    have k1 : KI (up I 0 15 n) C := KI_q hK (fun q hq => j q (by unfold kiC at hq; omega)) (seB_to hK.2.1 (j 28 (by decide))) (by
      unfold BX oB tB at *
      rw [j 32 (by decide), j 33 (by decide), j 45 (by decide), j 53 (by decide), j 54 (by decide), j 56 (by decide), j 36 (by decide), up_s]
      exact ⟨hb.1, hb.2.1, hb.2.2.1, hb.2.2.2.1, hb.2.2.2.2.1, hb.2.2.2.2.2.1, hb.2.2.2.2.2.2.1, h0, hn.2⟩)
    have r : RM (up I 0 15 n) (up (up I 0 15 n) 57 54 n) C b := RM_G hR (fun q hq => j q (by omega)) (fun q hq => m q (by omega) (by omega)) (m57 13 (by decide)) (by rw [m57 10 (by decide), j0 13 (by decide)]; exact hR.2.2.2.1) (by rw [m57 11 (by decide), j0 14 (by decide)]; exact hR.2.2.2.2.1) (asB_s hR.1.2.1 (m 91 (by decide) (by decide))) (SRn_s hR.1.2.2.1 (fun q hq => j q (by omega)) (fun q hq => m q (by omega) (by omega)) (shp_of (m 62 (by decide) (by decide)) (m57 13 (by decide)))) (RUn_s hR.1.2.2.2 (j 38 (by decide)) (j 39 (by decide)) (m57 53 (by decide)) (m57 52 (by decide)) (fun q hq => m q (by omega) (by omega)) (shp_of (m 62 (by decide) (by decide)) (m57 13 (by decide)))) (RRw_s hR.2.1.1 (by rw [j 44 (by decide)]) (by rw [j 44 (by decide)]) (j 46 (by decide)) (j 48 (by decide)) (m57 63 (by decide)) (m57 66 (by decide)) (m 94 (by decide) (by decide)) (m 96 (by decide) (by decide))) (RRf_s hR.2.1.2.1 (j 55 (by decide)) (m 84 (by decide) (by decide))) (RWr_s hR.2.1.2.2.1 (j0 12 (by decide)) (j 56 (by decide)) (m57 70 (by decide)) (m 98 (by decide) (by decide))) (RTp_s hR.2.1.2.2.2 (by rw [j 1 (by decide)]) (j 2 (by decide)) (m 58 (by decide) (by decide))) (by rw [m57 1 (by decide), j 1 (by decide)]; exact hR.2.2.1) (by rw [up_s, up_s])
    exact iv_of k1 r (fun q hq => up_cell (by omega)) (fun q _ => rfl)
  · have r := RM_to hR (K' := rfs I 5) (fun q hq => up_cell (by omega))
    refine spm_seed (fun w => by omega) (fun _ => ⟨rfl, ?_⟩)
    exact iv_of (KI_rf hK) (RM_rf r) (fun q hq => up_cell (by omega)) (fun q _ => rfl)
theorem tw_berthed (h : Iv I) {n x : Int} : T2 MX11_berthed MX12_berthed 6 6 [aI n, aI x] I := by
  obtain ⟨C, b, hK, hR⟩ := h
  refine sp_X11_berthed hK.wf (fun hk K hS => ⟨_, rfl, ?_⟩) (fun hk => ⟨_, rfl, ?_⟩)
  · have r : RM I K C b := RM_to hR (fun q hq => hS.1 q (by omega) (by omega) (by omega) (by omega) (by omega))
    have k1 : KI K C := KI_q hK (fun q hq => by unfold kiC at hq; exact hS.1 q (by omega) (by omega) (by omega) (by omega) (by omega)) hS.2 (BX_to hK.bx (fun q hq => hS.1 q (by omega) (by omega) (by omega) (by omega) (by omega)) (by rw [hS.1 0 (by omega) (by omega) (by omega) (by omega) (by omega)]))
    refine spq_berthed (mn_of hK r) (fun _ K' hk2 => ⟨rfl, ?_⟩) (fun w => absurd hk w)
    exact iv_of k1 (RM_sb r hk2) (fun q hq => hk2.1 q (by omega) (by omega)) (fun q hq => by unfold rmC at hq; exact hS.1 q (by omega) (by omega) (by omega) (by omega) (by omega))
  · exact spq_berthed (mn_of hK hR) (fun w => absurd w hk) (fun _ => ⟨rfl, C, b, hK, hR⟩)
theorem tw_swaps (h : Iv I) {x y : Int} : T2 MX11_swaps MX12_swaps 7 3 [aI x, aI y] I := by
  obtain ⟨C, b, hK, hR⟩ := h
  have hb := hK.bx
  have g := hK.2.2.1.2.1
  refine sp_X11_swaps hK.po hK.zf hb.1 hb.2.2.2.1 hb.2.2.2.2.1 (fun s t e1 e2 e3 e4 e5 K nt hS hnt => ⟨_, rfl, ?_⟩) (fun hk => ⟨_, rfl, ?_⟩)
  · have r : RM I K C b := RM_to hR (fun q hq => hS.1 q (by omega) (by omega) (by omega))
    have k1 : KI K C := KI_q hK (fun q hq => by unfold kiC at hq; exact hS.1 q (by omega) (by omega) (by omega)) (seB_to hK.2.1 (hS.1 28 (by decide) (by decide) (by decide))) (by
      have j : ∀ q, q ≠ 52 → q ≠ 53 → q ≠ 54 → K q = I q := hS.1
      unfold BX oB tB at *
      rw [j 32 (by decide) (by decide) (by decide), j 33 (by decide) (by decide) (by decide), j 45 (by decide) (by decide) (by decide), j 56 (by decide) (by decide) (by decide), j 36 (by decide) (by decide) (by decide), j 0 (by decide) (by decide) (by decide)]
      exact ⟨hb.1, hb.2.1, hb.2.2.1, hS.2.1, hS.2.2, hb.2.2.2.2.2⟩)
    refine spq_swaps (nt := nt) (mn_of hK r) r.1.2.2.2 g.2.2 hnt (fun s' t' g1 g2 g3 g4 g5 K' hk a1 a2 => ⟨?_, ?_⟩) (fun w => absurd ⟨kO1 e1 e3, kO1 e2 e4, by omega⟩ w)
    · have q1 : s = s' := by omega
      have q2 : t = t' := by omega
      subst q1 q2
      rfl
    · exact iv_of k1 (RM_F r hk (fun _ _ => rfl) a1 a2) (fun q hq => hk.1 q (by omega) (by omega)) (fun q hq => by unfold rmC at hq; exact hS.1 q (by omega) (by omega) (by omega))
  · exact spq_swaps (nt := fun w => I 6 w - I 7 w) (mn_of hK hR) hR.1.2.2.2 g.2.2 (fun w _ => rfl) (fun s' t' g1 g2 g3 g4 g5 K' hk2 a1 a2 => absurd ⟨kO1 g1 g3, kO1 g2 g4, by omega⟩ hk) (fun _ => ⟨rfl, C, b, hK, hR⟩)
theorem tw_rode (h : Iv I) {x : Int} : T2 MX11_rode MX12_rode 6 6 [aI x] I := by
  obtain ⟨C, b, hK, hR⟩ := h
  have t := hR.2.1.2.2.2
  refine sp_X11_rode hK.wf t.1 t.2.1 (fun hk K hS => ⟨_, rfl, ?_⟩) (fun hk => ⟨_, rfl, ?_⟩)
  · have r : RM I (up K 1 1 0) C b := RM_to hR (fun q hq => by rw [up_cell (by omega)]; exact hS.1 q (by omega) (by omega) (by omega) (by omega))
    have k1 : KI K C := KI_q hK (fun q hq => by unfold kiC at hq; exact hS.1 q (by omega) (by omega) (by omega) (by omega)) hS.2 (BX_to hK.bx (fun q hq => hS.1 q (by omega) (by omega) (by omega) (by omega)) (by rw [hS.1 0 (by omega) (by omega) (by omega) (by omega)]))
    have k2 : KI (up K 1 1 0) C := KI_u k1 (by omega)
    refine spq_rode (mn_of hK r) r.2.1.2.2.2 r.2.2.1 (fun _ K' hk2 => ⟨rfl, ?_⟩) (fun w => absurd hk w)
    refine iv_of k2 (RM_sc (RM_e (n := 0) r ⟨by decide, t.1.1⟩) hk2) (fun q hq => by rw [hk2.1 q (by omega) (by omega) (by omega), up_cell (by omega)]) (fun q hq => ?_)
    unfold rmC at hq
    funext i
    rw [up_ap, up_ap, hS.1 q (by omega) (by omega) (by omega) (by omega)]
  · have r := RM_to hR (K' := up (rfs I 5) 1 1 0) (fun q hq => by rw [up_cell (by omega)]; exact up_cell (by omega))
    refine spq_rode (mn_of hK r) r.2.1.2.2.2 r.2.2.1 (fun w => absurd w hk) (fun _ => ⟨rfl, ?_⟩)
    exact iv_of (KI_u (KI_rf hK) (by omega)) (RM_re r) (fun q hq => by unfold mrf; rw [up_cell (by omega), up_cell (by omega)]) (fun q _ => rfl)
end TWO2
