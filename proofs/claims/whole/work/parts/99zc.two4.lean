/-! ===== lade, discharge, shift, moor, hours, gales, undo ===== -/
section TWO4
variable {I J' H K' : HI} {C : Nat → List Int} {b : Nat}
theorem iv_act (hR : RM I I C b) (hk : KI H C) (e57 : ∀ q, 57 ≤ q → H q = I q) (eJ : ∀ q, rmC q → H q = J' q) (eI : ∀ q, q ≤ 10 ∨ q = 44 ∨ q = 46 ∨ q = 48 ∨ q = 55 ∨ q = 56 → J' q = I q) (f : MFr H K') (hS : SRn J' K') (hU : RUn J' K') : Iv K' := iv_of hk (RM_F (RM_to hR e57) f eI hS hU) (fun q hq => f.1 q (by omega) (by omega)) eJ
theorem iv_ref {k : Nat} (hR : RM I I C b) (hk : KI H C) (e57 : ∀ q, 57 ≤ q → H q = I q) (eJ : ∀ q, rmC q → H q = rfs I k q) (f : ScM H K') : Iv (mrf K' k) := iv_of hk (RM_rf (RM_sc (RM_to hR e57) f)) (fun q hq => by unfold mrf; rw [up_cell (by omega)]; exact f.1 q (by omega) (by omega) (by omega)) eJ
theorem iv_rfr {k : Nat} (hR : RM I I C b) (hK : KI I C) : Iv (mrf (rfs I k) k) := iv_of (KI_rf hK) (RM_rf (RM_to hR (K' := rfs I k) (fun q hq => up_cell (by omega)))) (fun q hq => up_cell (by omega)) (fun q _ => rfl)
theorem rfs_sc {K : HI} {k : Nat} (h : Sc I K) : ∀ q, rmC q → rfs K k q = rfs I k q := by
  intro q hq
  funext j
  unfold rfs
  rw [up_ap, up_ap, h.ap (q := q) (by unfold rmC at hq; omega) (by unfold rmC at hq; omega), h.ap (q := 55) (by decide) (by decide)]
theorem rfs_57 {K : HI} {k : Nat} (h : Sc I K) : ∀ q, 57 ≤ q → rfs K k q = I q := by
  intro q hq
  rw [show rfs K k q = K q from up_cell (by omega)]
  exact h.1 q (by omega) (by omega)
theorem wkS_q {x y z w : Int} {q : Nat} (h : q < 30 ∨ 39 < q ∨ (33 < q ∧ q < 38)) : wkS I x y z w q = I q := by
  unfold wkS
  rw [keepS_cell (by omega) (by omega), up_cell (by omega), rem_cell (by omega) (by omega)]
theorem wkS_57 {K : HI} {x y z w : Int} (h : Sc I K) : ∀ q, 57 ≤ q → wkS K x y z w q = I q := by
  intro q hq
  rw [wkS_q (by omega)]
  exact h.1 q (by omega) (by omega)
theorem sc_rm {K J : HI} (h : Sc J K) : ∀ q, rmC q → K q = J q := fun q hq => h.1 q (by unfold rmC at hq; omega) (by unfold rmC at hq; omega)
theorem tw_lade (h : Iv I) {x y z : Int} : T2 MX11_lade MX12_lade 7 8 [aI x, aI y, aI z] I := by
  obtain ⟨C, b, hK, hR⟩ := h
  refine sp_X11_lade hK.wf hK.wk (fun hp K hS => ⟨_, rfl, ?_⟩) (fun hp K hS => ⟨_, rfl, ?_⟩)
  · have r : RM I (wkS K x y z 1) C b := RM_to hR (wkS_57 hS)
    have sc : Sc (wkS I x y z 1) (wkS K x y z 1) := Sc_wk hS
    refine spq_lade (mn_of hK r) r.1.2.2.2 hK.wk (fun _ K' f s u => ⟨rfl, ?_⟩) (fun w => absurd hp w)
    exact iv_act hR (KI_sc (KI_wk hK hp (Or.inr rfl)) sc) (wkS_57 hS) (sc_rm sc) (fun q hq => wkS_q (by omega)) f s u
  · have r : RM I (rfs K 2) C b := RM_to hR (rfs_57 hS)
    refine spq_lade (mn_of hK r) r.1.2.2.2 hK.wk (fun w => absurd w hp) (fun _ K' f => ⟨rfl, ?_⟩)
    exact iv_ref hR (KI_rf (KI_sc hK hS)) (rfs_57 hS) (rfs_sc hS) f
theorem tw_discharge (h : Iv I) {x y z : Int} : T2 MX11_discharge MX12_discharge 7 8 [aI x, aI y, aI z] I := by
  obtain ⟨C, b, hK, hR⟩ := h
  refine sp_X11_discharge hK.wf hK.wk (fun hp K hS => ⟨_, rfl, ?_⟩) (fun hp K hS => ⟨_, rfl, ?_⟩)
  · have r : RM I (wkS K x y z 0) C b := RM_to hR (wkS_57 hS)
    have sc : Sc (wkS I x y z 0) (wkS K x y z 0) := Sc_wk hS
    refine spq_discharge (mn_of hK r) r.1.2.2.2 hK.wk (fun _ K' f s u => ⟨rfl, ?_⟩) (fun w => absurd hp w)
    exact iv_act hR (KI_sc (KI_wk hK hp (Or.inl rfl)) sc) (wkS_57 hS) (sc_rm sc) (fun q hq => wkS_q (by omega)) f s u
  · have r : RM I (rfs K 2) C b := RM_to hR (rfs_57 hS)
    refine spq_discharge (mn_of hK r) r.1.2.2.2 hK.wk (fun w => absurd w hp) (fun _ K' f => ⟨rfl, ?_⟩)
    exact iv_ref hR (KI_rf (KI_sc hK hS)) (rfs_57 hS) (rfs_sc hS) f
theorem shS_q {x y z w : Int} {q : Nat} (h : q < 30 ∨ 39 < q) : shS I x y z w q = I q := by
  unfold shS
  rw [up_cell (by omega), up_cell (by omega), rem_cell (by omega) (by omega)]
theorem tw_shift (h : Iv I) {x y z w : Int} : T2 MX11_shift MX12_shift 3 2 [aI x, aI y, aI z, aI w] I := by
  obtain ⟨C, b, hK, hR⟩ := h
  refine sp_X11_shift hK.wf hK.wk (fun hp => ⟨_, rfl, ?_⟩) (fun hp => ⟨_, rfl, ?_⟩)
  · have r : RM I (shS I x y z w) C b := RM_to hR (fun q hq => shS_q (by omega))
    refine spq_shift (mn_of hK r) r.1.2.2.2 hK.wk (fun _ K' f s u => ⟨rfl, ?_⟩) (fun w => absurd hp w)
    exact iv_act hR (KI_sh hK hp) (fun q hq => shS_q (by omega)) (fun q _ => rfl) (fun q hq => shS_q (by omega)) f s u
  · have r : RM I (rfs I 2) C b := RM_to hR (fun q hq => up_cell (by omega))
    refine spq_shift (mn_of hK r) r.1.2.2.2 hK.wk (fun w => absurd w hp) (fun _ => ⟨rfl, ?_⟩)
    exact iv_rfr hR hK
theorem tw_moor (h : Iv I) {x y : Int} : T2 MX11_moor MX12_moor 6 7 [aI x, aI y] I := by
  obtain ⟨C, b, hK, hR⟩ := h
  refine sp_X11_moor hK.wf hK.wk (fun hp K hS => ⟨_, rfl, ?_⟩) (fun hp K hS => ⟨_, rfl, ?_⟩)
  · have e57 : ∀ q, 57 ≤ q → up (rem_ K) 31 x.toNat y q = I q := fun q hq => by
      rw [up_cell (by omega), rem_cell (by omega) (by omega)]
      exact hS.1 q (by omega) (by omega)
    have r : RM I (up (rem_ K) 31 x.toNat y) C b := RM_to hR e57
    have sc : Sc (up (rem_ I) 31 x.toNat y) (up (rem_ K) 31 x.toNat y) := (Sc_rem hS).up (by decide) (by decide)
    refine spq_moor (mn_of hK r) r.1.2.2.2 hK.wk (fun _ K' f s u => ⟨rfl, ?_⟩) (fun w => absurd hp w)
    exact iv_act hR (KI_sc (KI_mo hK hp) sc) e57 (sc_rm sc) (fun q hq => by rw [up_cell (by omega), rem_cell (by omega) (by omega)]) f s u
  · have r : RM I (rfs K 3) C b := RM_to hR (rfs_57 hS)
    refine spq_moor (mn_of hK r) r.1.2.2.2 hK.wk (fun w => absurd w hp) (fun _ K' f => ⟨rfl, ?_⟩)
    exact iv_ref hR (KI_rf (KI_sc hK hS)) (rfs_57 hS) (rfs_sc hS) f
theorem tw_hours (h : Iv I) {m : Int} : T2 MX11_hours MX12_hours 7 7 [aI m] I := by
  obtain ⟨C, b, hK, hR⟩ := h
  refine sp_X11_hours hK.wf hK.wk (fun hc K hS => ⟨_, rfl, ?_⟩) (fun hc => ⟨_, rfl, ?_⟩)
  · have h5 : rem_ I 30 5 = I 30 5 := by rw [rem_cell (by decide) (by decide)]
    have hm : rem_ I 30 5 + (m.toNat : Int) ≤ 9999 := by
      have h1 := hc.1
      have h2 := hc.2.2.2
      rw [h5]
      omega
    have e57 : ∀ q, 57 ≤ q → K q = I q := fun q hq => by rw [hS.1 q (by omega) (by omega), hrN_q _ (by omega) (by omega), rem_cell (by omega) (by omega)]
    have r : RM I K C b := RM_to hR e57
    refine spq_hours (mn_of hK r) r.1.2.2.2 hK.wk (fun _ K' f mn u => ⟨rfl, ?_⟩) (fun w => absurd hc w)
    exact iv_act hR (KI_sc (KI_hrN (KI_rem hK) _ hm) hS) e57 (sc_rm hS) (fun q hq => by rw [hrN_q _ (by omega) (by omega), rem_cell (by omega) (by omega)]) f mn.2.2.2.1 u
  · have r : RM I (rfs I 3) C b := RM_to hR (fun q hq => up_cell (by omega))
    refine spq_hours (mn_of hK r) r.1.2.2.2 hK.wk (fun w => absurd w hc) (fun _ => ⟨rfl, ?_⟩)
    exact iv_rfr hR hK
theorem tw_gales (h : Iv I) {m : Int} : T2 MX11_gales MX12_gales 7 7 [aI m] I := by
  obtain ⟨C, b, hK, hR⟩ := h
  refine sp_X11_gales hK.wf hK.wk hK.bw (fun hc K hS => ⟨_, rfl, ?_⟩) (fun hc => ⟨_, rfl, ?_⟩)
  · have h5 : rem_ I 30 5 = I 30 5 := by rw [rem_cell (by decide) (by decide)]
    have hm : rem_ I 30 5 + (m.toNat : Int) ≤ 9999 := by
      have h1 := hc.1
      have h2 := hc.2.2.2
      rw [h5]
      omega
    have o : ∀ q, q ≠ 0 → (q < 30 ∨ 39 < q ∨ (33 < q ∧ q < 38)) → (gaB (rem_ I) C m.toNat).1 q = I q := fun q a c => by rw [gaB_q _ a (by omega), rem_cell (by omega) (by omega)]
    have o0 : ∀ j, j ≠ 15 → (gaB (rem_ I) C m.toNat).1 0 j = I 0 j := fun j hj => by rw [gaB_o _ hj, rem_cell (by decide) (by decide)]
    have e57 : ∀ q, 57 ≤ q → K q = I q := fun q hq => by rw [hS.1 q (by omega) (by omega), o q (by omega) (by omega)]
    have r : RM I K C b := RM_to hR e57
    refine spq_gales (mn_of hK r) r.1.2.2.2 hK.wk hK.bw r.2.2.2.2.2.1 r.2.2.2.2.2.2.1 (fun _ K' f mn u h54 => ⟨rfl, ?_⟩) (fun w => absurd hc w)
    have g57 : ∀ j, j ≠ 52 → j ≠ 53 → j ≠ 54 → ¬ (57 ≤ j ∧ j ≤ 60) → K' 57 j = K 57 j := f.2.1
    have gq : ∀ q, q ≠ 57 → (q < 85 ∨ 91 < q) → K' q = K q := f.1
    refine iv_of (KI_sc (KI_ga (KI_rem hK) _ hm) hS) (J' := (gaB (rem_ I) C m.toNat).1) (b := b) (RM_G r (fun q hq => o q (by omega) (by omega)) (fun q hq => gq q (by omega) (by omega)) (g57 13 (by decide) (by decide) (by decide) (by decide)) (by rw [g57 10 (by decide) (by decide) (by decide) (by decide), o0 13 (by decide)]; exact r.2.2.2.1) (by rw [g57 11 (by decide) (by decide) (by decide) (by decide), o0 14 (by decide)]; exact r.2.2.2.2.1) f.2.2 mn.2.2.2.1 u (RRw_s r.2.1.1 (by rw [o 44 (by decide) (by decide)]) (by rw [o 44 (by decide) (by decide)]) (o 46 (by decide) (by decide)) (o 48 (by decide) (by decide)) (g57 63 (by decide) (by decide) (by decide) (by decide)) (g57 66 (by decide) (by decide) (by decide) (by decide)) (gq 94 (by decide) (by decide)) (gq 96 (by decide) (by decide))) (RRf_s r.2.1.2.1 (o 55 (by decide) (by decide)) (gq 84 (by decide) (by decide))) (RWr_s r.2.1.2.2.1 (o0 12 (by decide)) (o 56 (by decide) (by decide)) (g57 70 (by decide) (by decide) (by decide) (by decide)) (gq 98 (by decide) (by decide))) (RTp_s r.2.1.2.2.2 (by rw [o 1 (by decide) (by decide)]) (o 2 (by decide) (by decide)) (gq 58 (by decide) (by decide))) (by rw [g57 1 (by decide) (by decide) (by decide) (by decide), o 1 (by decide) (by decide)]; exact r.2.2.1) h54) (fun q hq => gq q (by omega) (by omega)) (sc_rm hS)
  · have r : RM I (rfs I 3) C b := RM_to hR (fun q hq => up_cell (by omega))
    refine spq_gales (mn_of hK r) r.1.2.2.2 hK.wk hK.bw r.2.2.2.2.2.1 r.2.2.2.2.2.2.1 (fun w => absurd w hc) (fun _ => ⟨rfl, ?_⟩)
    exact iv_rfr hR hK
theorem tw_undo (h : Iv I) : T2 MX11_undo MX12_undo 3 1 [] I := by
  obtain ⟨C, b, hK, hR⟩ := h
  refine sp_X11_undo hK.wk.2 (fun hp => ⟨_, rfl, ?_⟩) (fun hp => ⟨_, rfl, ?_⟩)
  · have o : ∀ q, (q < 30 ∨ 33 < q) → q ≠ 38 → rdf (up I 38 2 (I 38 2 - 1)) ((I 38 1 + (I 38 2 - 1)) % 20 * 213) q = I q := fun q a c => (rdf_o a).trans (up_cell c)
    have r := RM_to hR (K' := rdf (up I 38 2 (I 38 2 - 1)) ((I 38 1 + (I 38 2 - 1)) % 20 * 213)) (fun q hq => o q (by omega) (by omega))
    refine spq_undo r.1.2.2.2 hK.wk r.1.2.1 (fun _ K' f s u => ⟨rfl, ?_⟩) (fun w => absurd hp (by omega))
    exact iv_act hR (KI_un hK hp) (fun q hq => o q (by omega) (by omega)) (fun q _ => rfl) (fun q hq => o q (by omega) (by omega)) f s u
  · have r := RM_to hR (K' := rfs I 4) (fun q hq => up_cell (by omega))
    refine spq_undo r.1.2.2.2 hK.wk r.1.2.1 (fun w => absurd w (by omega)) (fun _ => ⟨rfl, ?_⟩)
    exact iv_rfr hR hK
end TWO4
