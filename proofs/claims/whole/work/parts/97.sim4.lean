/-! ===== the machine reads as P does: parts, all ===== -/
section SI6
variable {n : Nat} {B : Nat → Int} {se k0 : Nat} {W : Nat → Nat → List Fm → List Int → Prop} {E : Int × Int → Prop} {f : Nat}
theorem tst_n {F : Fm} (h : F.ki = 0 ∨ F.ki = 2 ∨ F.ki = 3 ∨ F.ki = 4) : ¬ tst F := by
  unfold tst
  omega
/-- a sum within a frame of its own, at depth d -/
theorem s_in (h3 : S3 n B se k0 W E f) {d q : Nat} {G : Fm} {r : List Fm} {cs : List Int} (hG : G.os = [] ∧ G.ph = 0 ∧ ¬ tst G) (hr : r ≠ []) (hd : d ≤ 7) (ho : opN (G :: r) = d) (hq : q ≤ n) (hb : k0 + cs.length + tot r + r.length ≤ q) (ht : tot r ≤ 6 * d) (hN : NF (P n B se f 3 d q)) (kE : ∀ e, P n B se f 3 d q = .inl e → E e) (kW : ∀ p1 c1 c1' O1, P n B se f 3 d q = .inr (p1, c1) → c1' ++ O1 = c1 → O1.length ≤ 2 → ¬ ari n B p1 → q + c1.length ≤ p1 → p1 ≤ n → Vd k0 n p1 ((mkF G.ki G.ph 0 G.pa O1) :: r) (cs ++ c1') → W 1 p1 ((mkF G.ki G.ph 0 G.pa O1) :: r) (cs ++ c1')) : W 0 q (G :: r) cs := by
  have htc := tot_c (F := G) (r := r)
  rw [hG.1, List.length_nil] at htc
  refine h3 d q G r cs ⟨hd, ho, hq, by omega, by omega, fun _ => hr⟩ (by rw [hG.1]; exact hdl_nil) (by rw [hG.2.1]; omega) (fun w => absurd w.1 hG.2.2) hN kE (fun p1 c1 c1' O1 e1 e1' r1 l1 x1 => ?_)
  have hro := ro_5 hq (by decide) e1
  have hl2 : c1.length = c1'.length + O1.length := by rw [← e1', List.length_append]
  have := kW p1 c1 c1' O1 e1 e1' l1 x1 hro.1 hro.2.2 (vd_1 (lim := 0) (O' := O1) (F := G) (d := d) hd ho hro.2.2 (by rw [List.length_append]; omega) (by omega) (by omega) (by decide) (by rw [hG.1, List.append_nil]))
  have eG : ((mkF G.ki G.ph 0 G.pa (O1 ++ G.os)) : Fm) = (mkF G.ki G.ph 0 G.pa O1) := by rw [hG.1, List.append_nil]
  rw [eG]
  exact this
theorem s5_step (hC0 : Cl0 n B se k0 W E) (hC : Cl1 n B k0 W E) (h3 : S3 n B se k0 W E f) (h0 : S0 n B se k0 W E f) : S5 n B se k0 W E (f + 1) := by
  intro d p F r cs hB hnF hN kE kW
  have hvd := vd_of hB (by decide)
  obtain ⟨b1, b2, b3, b4, b5, b6⟩ := hB
  have hoc := opN_c (F := F) (r := r)
  have htc := tot_c (F := F) (r := r)
  have n1 : ¬ (fst_ F ∧ tw n B p = 25) := fun w => (hnF w.1).1 w.2
  have n2 : ¬ (fst_ F ∧ sg n B p 91) := fun w => (hnF w.1).2.1 w.2
  have n3 : ¬ (fst_ F ∧ tw n B p = 26) := fun w => (hnF w.1).2.2 w.2
  have eO : tk n B p ≠ 4 → opF n B se F r cs p = _ := fun h4 => (if_neg h4).trans ((if_neg n1).trans ((if_neg n2).trans (if_neg n3)))
  have hop : ∀ G : Fm, G.os = [] → opN (G :: (mkF F.ki F.ph 0 F.pa F.os) :: r) = d + 1 := by
    intro G hG
    rw [opN_c, nts_c, List.length_cons, hG]
    show 0 + (ntO F.os + nts r) + (r.length + 1) = d + 1
    omega
  have hto : tot ((mkF F.ki F.ph 0 F.pa F.os) :: r) = tot (F :: r) := rfl
  have hln : ((mkF F.ki F.ph 0 F.pa F.os) :: r).length = r.length + 1 := List.length_cons
  have hne : ((mkF F.ki F.ph 0 F.pa F.os) :: r) ≠ [] := List.cons_ne_nil _ _
  by_cases k2 : tk n B p = 2
  · have hsg : ∀ s, ¬ sg n B p s := fun s w => by have := w.1; omega
    have htw : tw n B p = -1 := tw_q (by omega)
    refine st0 hC0 hvd.1 hvd.2 (t := 1) (p' := te n B p) (fs' := (mkF F.ki F.ph 0 F.pa F.os) :: r) (cs' := cs ++ [tv n B p]) ((eO (by omega)).trans ((if_neg (hsg 40)).trans ((if_neg (by omega)).trans (if_pos k2)))) ?_
    exact kW _ _ (if_pos k2)
  by_cases s40 : sg n B p 40
  · have hk3 := s40.1
    have hte := te_gp (sg_c s40)
    by_cases hd7 : d < 7
    · have eP : P n B se (f + 1) 5 d p = nee n B (P n B se f 3 (d + 1) (te n B p)) 41 := (if_neg k2).trans ((if_pos s40).trans (if_pos hd7))
      rw [eP] at hN kE kW
      refine st0 hC0 hvd.1 hvd.2 (t := 0) (p' := te n B p) (fs' := (mkF 2 0 1 0 []) :: (mkF F.ki F.ph 0 F.pa F.os) :: r) (cs' := cs) ((eO (by omega)).trans ((if_pos s40).trans (if_neg (by omega)))) ?_
      refine s_in h3 (d := d + 1) ⟨rfl, rfl, tst_n (Or.inr (Or.inl rfl))⟩ hne (by omega) (hop _ rfl) hte.2 (by rw [hto, hln]; omega) (by rw [hto]; omega) (nf_nee.1 hN) (fun e he => kE e (by rw [he]; rfl)) (fun p1 c1 c1' O1 e1 e1' l1 x1 hr1 hr2 hv => ?_)
      refine w_close hC hv (Or.inl rfl) hne x1 (fun hs => kE _ (by rw [e1]; exact if_neg hs)) (fun hs => ?_)
      have := kW (te n B p1) c1 (by rw [e1]; exact if_pos hs)
      show W 1 (te n B p1) ((mkF F.ki F.ph 0 F.pa F.os) :: r) (cs ++ c1' ++ O1 ++ [])
      rw [List.append_nil, List.append_assoc, e1']
      exact this
    · exact st0E hC0 hvd.1 hvd.2 (e := (5, (tq n B p : Int))) ((eO (by omega)).trans ((if_pos s40).trans (if_pos (by omega)))) (kE _ ((if_neg k2).trans ((if_pos s40).trans (if_neg hd7))))
  have pair_ : ∀ v : Int, (tw n B p = 27 ∧ v = -21) ∨ (tw n B p = 28 ∧ v = -22) → P n B se (f + 1) 5 d p = pPair n B (P n B se f) d (te n B p) v → W 0 p (F :: r) cs := by
    intro v hw eP
    have hk1 : tk n B p = 1 := by
      rcases hw with h | h
      · exact tw_1 h.1 (by decide)
      · exact tw_1 h.1 (by decide)
    have hte := te_gp (Or.inl hk1 : tk n B p = 1 ∨ tk n B p = 2 ∨ tk n B p = 3)
    have eQ := (eO (by omega)).trans ((if_neg s40).trans (if_pos (show tw n B p = 27 ∨ tw n B p = 28 ∨ tw n B p = 22 by omega)))
    have ev : (if tw n B p = 22 then (6 : Int) else 3) = 3 ∧ (if tw n B p = 27 then (-21 : Int) else if tw n B p = 28 then -22 else -10) = v := by
      rcases hw with ⟨h, e⟩ | ⟨h, e⟩
      · rw [if_neg (by omega), if_pos h]; exact ⟨rfl, e.symm⟩
      · rw [if_neg (by omega), if_neg (by omega), if_pos h]; exact ⟨rfl, e.symm⟩
    rw [eP] at hN kE kW
    by_cases s : sg n B (te n B p) 40
    · have hte2 := te_gp (sg_c s)
      by_cases hd7 : d < 7
      · have eR : pPair n B (P n B se f) d (te n B p) v = emi (nee n B (bnd (nee n B (P n B se f 3 (d + 1) (te n B (te n B p))) 44) (P n B se f 3 (d + 1))) 41) v := (if_pos s).trans (if_pos hd7)
        rw [eR] at hN kE kW
        have eQ2 := eQ.trans ((if_pos s).trans (if_neg (show ¬ opN (F :: r) = 7 by omega)))
        rw [ev.1, ev.2] at eQ2
        refine st0 hC0 hvd.1 hvd.2 eQ2 ?_
        have hN1 := nf_nee.1 (nf_emi.1 hN)
        refine s_in h3 (d := d + 1) ⟨rfl, rfl, tst_n (Or.inr (Or.inr (Or.inl rfl)))⟩ hne (by omega) (hop _ rfl) hte2.2 (by rw [hto, hln]; omega) (by rw [hto]; omega) (nf_nee.1 (nf_bnd hN1)) (fun e he => kE e (by rw [he]; rfl)) (fun p1 c1 c1' O1 e1 e1' l1 x1 hr1 hr2 hv => ?_)
        refine w_comma3 hC hv rfl hne x1 (fun hs => kE _ (by rw [e1, show nee n B (.inr (p1, c1)) 44 = .inl (1, (tsp n B p1 : Int)) from if_neg hs]; rfl)) (fun hs => ?_)
        have hte3 := te_gp (sg_c hs)
        have en : nee n B (P n B se f 3 (d + 1) (te n B (te n B p))) 44 = .inr (te n B p1, c1) := by rw [e1]; exact if_pos hs
        show W 0 (te n B p1) ((mkF 4 0 0 v []) :: (mkF F.ki F.ph 0 F.pa F.os) :: r) (cs ++ c1' ++ O1)
        rw [List.append_assoc, e1']
        refine s_in h3 (d := d + 1) ⟨rfl, rfl, tst_n (Or.inr (Or.inr (Or.inr rfl)))⟩ hne (by omega) (hop _ rfl) hte3.2 (by rw [hto, hln, List.length_append]; omega) (by rw [hto]; omega) (nf_r en hN1) (fun e he => kE e (by rw [bnd_e en he]; rfl)) (fun p2 c2 c2' O2 e2 e2' l2 x2 hr3 hr4 hv2 => ?_)
        refine w_close hC hv2 (Or.inr rfl) hne x2 (fun hs2 => kE _ (by rw [bnd_r en e2, show nee n B (.inr (p2, c1 ++ c2)) 41 = .inl (1, (tsp n B p2 : Int)) from if_neg hs2]; rfl)) (fun hs2 => ?_)
        have := kW (te n B p2) (c1 ++ c2 ++ [v]) (by rw [bnd_r en e2, show nee n B (.inr (p2, c1 ++ c2)) 41 = .inr (te n B p2, c1 ++ c2) from if_pos hs2]; rfl)
        show W 1 (te n B p2) ((mkF F.ki F.ph 0 F.pa F.os) :: r) (cs ++ c1 ++ c2' ++ O2 ++ [v])
        rw [show cs ++ c1 ++ c2' ++ O2 ++ [v] = cs ++ (c1 ++ c2 ++ [v]) by rw [← e2']; simp only [List.append_assoc]]
        exact this
      · exact st0E hC0 hvd.1 hvd.2 (eQ.trans ((if_pos s).trans (if_pos (by omega)))) (kE _ ((if_pos s).trans (if_neg hd7)))
    · exact st0E hC0 hvd.1 hvd.2 (eQ.trans (if_neg s)) (kE _ (if_neg s))
  by_cases w27 : tw n B p = 27
  · exact pair_ (-21) (Or.inl ⟨w27, rfl⟩) ((if_neg k2).trans ((if_neg s40).trans (if_pos w27)))
  by_cases w28 : tw n B p = 28
  · exact pair_ (-22) (Or.inr ⟨w28, rfl⟩) ((if_neg k2).trans ((if_neg s40).trans ((if_neg w27).trans (if_pos w28))))
  by_cases w22 : tw n B p = 22
  · have eP : P n B se (f + 1) 5 d p = pIf n B (P n B se f) d (te n B p) := (if_neg k2).trans ((if_neg s40).trans ((if_neg w27).trans ((if_neg w28).trans (if_pos w22))))
    have hk1 : tk n B p = 1 := tw_1 w22 (by decide)
    have hte := te_gp (Or.inl hk1 : tk n B p = 1 ∨ tk n B p = 2 ∨ tk n B p = 3)
    have eQ := (eO (by omega)).trans ((if_neg s40).trans (if_pos (show tw n B p = 27 ∨ tw n B p = 28 ∨ tw n B p = 22 by omega)))
    have ev : (if tw n B p = 22 then (6 : Int) else 3) = 6 ∧ (if tw n B p = 27 then (-21 : Int) else if tw n B p = 28 then -22 else -10) = -10 := by
      rw [if_pos w22, if_neg w27, if_neg w28]
      exact ⟨rfl, rfl⟩
    rw [eP] at hN kE kW
    by_cases s : sg n B (te n B p) 40
    · have hte2 := te_gp (sg_c s)
      by_cases hd7 : d < 7
      · have eR : pIf n B (P n B se f) d (te n B p) = emi (nee n B (bnd (nee n B (bnd (nee n B (P n B se f 0 (d + 1) (te n B (te n B p))) 44) (P n B se f 3 (d + 1))) 44) (P n B se f 3 (d + 1))) 41) (-10) := (if_pos s).trans (if_pos hd7)
        rw [eR] at hN kE kW
        have eQ2 := eQ.trans ((if_pos s).trans (if_neg (show ¬ opN (F :: r) = 7 by omega)))
        rw [ev.1, ev.2] at eQ2
        refine st0 hC0 hvd.1 hvd.2 eQ2 ?_
        have hN1 := nf_nee.1 (nf_emi.1 hN)
        have hN0 := nf_nee.1 (nf_bnd hN1)
        have ht6 : tot (((mkF 6 0 1 (-10) []) : Fm) :: (mkF F.ki F.ph 0 F.pa F.os) :: r) = tot (F :: r) := by
          rw [tot_c, hto]
          show 0 + _ = _
          omega
        refine h0 (d + 1) (te n B (te n B p)) (mkF 6 0 1 (-10) []) ((mkF F.ki F.ph 0 F.pa F.os) :: r) cs ⟨by omega, hop _ rfl, hte2.2, by rw [ht6, hln]; omega, by rw [ht6]; omega, fun _ => hne⟩ (Or.inr (Or.inr rfl)) rfl rfl hdl_nil (nf_nee.1 (nf_bnd hN0)) (fun e he => kE e (by rw [he]; rfl)) (fun p1 c1 c1' O1 φ e1 e1' l1 x1 => ?_)
        have hro := ro_5 hte2.2 (by decide) e1
        have hl2 : c1.length = c1'.length + O1.length := by rw [← e1', List.length_append]
        have hv : Vd k0 n p1 (((mkF 6 φ 0 (-10) (O1 ++ [])) : Fm) :: (mkF F.ki F.ph 0 F.pa F.os) :: r) (cs ++ c1') := vd_1 (lim := 0) (O' := O1) (F := (mkF 6 0 1 (-10) [])) (d := d + 1) (by omega) (hop _ rfl) hro.2.2 (by rw [List.length_append, ht6, hln]; omega) (by rw [ht6]; omega) (by omega) (by decide) rfl
        refine w_comma6 (F := (mkF 6 φ 0 (-10) (O1 ++ []))) hC hv rfl hne x1 (fun hs => kE _ (by rw [e1, show nee n B (.inr (p1, c1)) 44 = .inl (1, (tsp n B p1 : Int)) from if_neg hs]; rfl)) (fun hs => ?_)
        have hte3 := te_gp (sg_c hs)
        have en : nee n B (P n B se f 0 (d + 1) (te n B (te n B p))) 44 = .inr (te n B p1, c1) := by rw [e1]; exact if_pos hs
        show W 0 (te n B p1) ((mkF 3 0 0 (-10) []) :: (mkF F.ki F.ph 0 F.pa F.os) :: r) (cs ++ c1' ++ (O1 ++ []))
        rw [List.append_nil, List.append_assoc, e1']
        refine s_in h3 (d := d + 1) ⟨rfl, rfl, tst_n (Or.inr (Or.inr (Or.inl rfl)))⟩ hne (by omega) (hop _ rfl) hte3.2 (by rw [hto, hln, List.length_append]; omega) (by rw [hto]; omega) (nf_r en hN0) (fun e he => kE e (by rw [bnd_e en he]; rfl)) (fun p2 c2 c2' O2 e2 e2' l2 x2 hr3 hr4 hv2 => ?_)
        refine w_comma3 hC hv2 rfl hne x2 (fun hs2 => kE _ (by rw [bnd_r en e2, show nee n B (.inr (p2, c1 ++ c2)) 44 = .inl (1, (tsp n B p2 : Int)) from if_neg hs2]; rfl)) (fun hs2 => ?_)
        have hte4 := te_gp (sg_c hs2)
        have en2 : nee n B (bnd (nee n B (P n B se f 0 (d + 1) (te n B (te n B p))) 44) (P n B se f 3 (d + 1))) 44 = .inr (te n B p2, c1 ++ c2) := by rw [bnd_r en e2]; exact if_pos hs2
        show W 0 (te n B p2) ((mkF 4 0 0 (-10) []) :: (mkF F.ki F.ph 0 F.pa F.os) :: r) (cs ++ c1 ++ c2' ++ O2)
        rw [show cs ++ c1 ++ c2' ++ O2 = cs ++ (c1 ++ c2) by rw [← e2']; simp only [List.append_assoc]]
        refine s_in h3 (d := d + 1) ⟨rfl, rfl, tst_n (Or.inr (Or.inr (Or.inr rfl)))⟩ hne (by omega) (hop _ rfl) hte4.2 (by rw [hto, hln, List.length_append, List.length_append]; omega) (by rw [hto]; omega) (nf_r en2 hN1) (fun e he => kE e (by rw [bnd_e en2 he]; rfl)) (fun p3 c3 c3' O3 e3 e3' l3 x3 hr5 hr6 hv3 => ?_)
        refine w_close hC hv3 (Or.inr rfl) hne x3 (fun hs3 => kE _ (by rw [bnd_r en2 e3, show nee n B (.inr (p3, c1 ++ c2 ++ c3)) 41 = .inl (1, (tsp n B p3 : Int)) from if_neg hs3]; rfl)) (fun hs3 => ?_)
        have := kW (te n B p3) (c1 ++ c2 ++ c3 ++ [-10]) (by rw [bnd_r en2 e3, show nee n B (.inr (p3, c1 ++ c2 ++ c3)) 41 = .inr (te n B p3, c1 ++ c2 ++ c3) from if_pos hs3]; rfl)
        show W 1 (te n B p3) ((mkF F.ki F.ph 0 F.pa F.os) :: r) (cs ++ (c1 ++ c2) ++ c3' ++ O3 ++ [-10])
        rw [show cs ++ (c1 ++ c2) ++ c3' ++ O3 ++ [-10] = cs ++ (c1 ++ c2 ++ c3 ++ [-10]) by rw [← e3']; simp only [List.append_assoc]]
        exact this
      · exact st0E hC0 hvd.1 hvd.2 (eQ.trans ((if_pos s).trans (if_pos (by omega)))) (kE _ ((if_pos s).trans (if_neg hd7)))
    · exact st0E hC0 hvd.1 hvd.2 (eQ.trans (if_neg s)) (kE _ (if_neg s))
  have eP : P n B se (f + 1) 5 d p = seeF n B se p 8 0 := (if_neg k2).trans ((if_neg s40).trans ((if_neg w27).trans ((if_neg w28).trans (if_neg w22))))
  rw [eP] at hN kE kW
  by_cases h4 : tk n B p = 4
  · exact st0E hC0 hvd.1 hvd.2 (if_pos h4) (kE _ (see_no (by omega) 8 0 (by omega)))
  have eQ := (eO h4).trans ((if_neg s40).trans ((if_neg (show ¬ (tw n B p = 27 ∨ tw n B p = 28 ∨ tw n B p = 22) by omega)).trans (if_neg k2)))
  cases hs : seeF n B se p 8 0 with
  | inl e =>
    rw [hs] at eQ
    exact st0E hC0 hvd.1 hvd.2 eQ (kE e hs)
  | inr y =>
    obtain ⟨p', c⟩ := y
    rw [hs] at eQ
    exact st0 hC0 hvd.1 hvd.2 eQ (kW p' c hs)
theorem sim_all (hC0 : Cl0 n B se k0 W E) (hC : Cl1 n B k0 W E) : ∀ f, S0 n B se k0 W E f ∧ S1 n B se k0 W E f ∧ S2f n B se k0 W E f ∧ S3 n B se k0 W E f ∧ S4 n B se k0 W E f ∧ S5 n B se k0 W E f ∧ S6 n B se k0 W E f ∧ S7 n B se k0 W E f ∧ S8 n B se k0 W E f ∧ S9 n B se k0 W E f := by
  intro f
  induction f with
  | zero =>
    refine ⟨?_, ?_, ?_, ?_, ?_, ?_, ?_, ?_, ?_, ?_⟩
    · intro d p F r cs _ _ _ _ _ hN; exact absurd rfl (hN 0)
    · intro d p F r cs _ _ _ _ _ hN; exact absurd rfl (hN 0)
    · intro d p F r cs _ _ _ _ _ hN; exact absurd rfl (hN 0)
    · intro d p F r cs _ _ _ _ hN; exact absurd rfl (hN 0)
    · intro d p F r cs _ _ _ _ hN; exact absurd rfl (hN 0)
    · intro d p F r cs _ _ hN; exact absurd rfl (hN 0)
    · intro d p F r cs O' φ _ _ _ _ _ _ _ _ _ _ _ _ hN; exact absurd rfl (hN 0)
    · intro d p F r cs O' φ _ _ _ _ _ _ _ _ _ _ _ _ hN; exact absurd rfl (hN 0)
    · intro d p F r cs O' _ _ _ _ _ _ _ _ _ _ _ _ hN; exact absurd rfl (hN 0)
    · intro d p F r cs O' _ _ _ _ _ _ _ _ _ _ _ hN; exact absurd rfl (hN 0)
  | succ f ih =>
    obtain ⟨i0, i1, i2, i3, i4, i5, i6, i7, i8, i9⟩ := ih
    exact ⟨s0_step i1 i6, s1_step i2 i7, s2_step hC0 hC i2 i0 i3, s3_step i4 i8, s4_step i5 i9, s5_step hC0 hC i3 i0, s6_step hC i1 i6, s7_step hC i2 i7, s8_step hC i4 i8, s9_step hC i5 i9⟩
/-- a whole formula -/
theorem sim_sum (hC0 : Cl0 n B se k0 W E) (hC : Cl1 n B k0 W E) {p : Nat} {pa : Int} (hp : p ≤ n) (hk : k0 ≤ p) (hf : 12 * n + 7 ≤ f) (kE : ∀ e, P n B se f 3 0 p = .inl e → E e) (k4 : ∀ p' c, P n B se f 3 0 p = .inr (p', c) → tk n B p' = 4 → E (1, (tsp n B p' : Int))) (kW : ∀ p' c F, P n B se f 3 0 p = .inr (p', c) → tk n B p' ≠ 4 → W 2 p' [F] c) : W 0 p [(mkF 0 0 1 pa [])] [] := by
  refine (sim_all hC0 hC f).2.2.2.1 0 p (mkF 0 0 1 pa []) [] [] ⟨by decide, rfl, hp, by rw [List.length_nil]; show k0 + 0 + 0 + 0 ≤ p; omega, by show 0 ≤ _; omega, fun h => absurd h (show ¬ (2 : Int) ≤ 0 by decide)⟩ hdl_nil (show (0 : Int) < 2 by decide) (fun w => absurd w.1 (tst_n (Or.inl rfl))) (nf_P _ _ _ _ hp (by have := rk_le 3; omega)) kE (fun p' c c' O' e e' r1 l1 x1 => ?_)
  have hro := ro_5 hp (by decide) e
  have hl2 : c.length = c'.length + O'.length := by rw [← e', List.length_append]
  have hV : Vd k0 n p' [((mkF 0 0 0 pa (O' ++ [])) : Fm)] ([] ++ c') := by
    refine ⟨hro.2.2, ?_, ?_, show 1 ≤ 8 by decide⟩
    · show k0 + ([] ++ c').length + ((O' ++ []).length + 0) + 1 ≤ p' + 1
      rw [List.append_nil, List.nil_append]
      omega
    · show (O' ++ []).length + 0 ≤ 60
      rw [List.append_nil]
      omega
  by_cases h4 : tk n B p' = 4
  · exact st1E hC hV (fun h => absurd h (show ¬ (2 : Int) ≤ 0 by decide)) (if_pos h4) (k4 p' c e h4)
  · have nt : ¬ tst ((mkF 0 0 0 pa (O' ++ [])) : Fm) := tst_n (Or.inl rfl)
    refine st1 hC hV (fun h => absurd h (show ¬ (2 : Int) ≤ 0 by decide)) ((if_neg h4).trans ((if_neg (fun w => x1 w.2)).trans ((if_neg (fun w => nt w.1)).trans ((if_neg (fun w => nt w.1)).trans ((if_neg (fun w => nt w.1)).trans (if_pos (show (0 : Int) < 2 by decide))))))) ?_
    have := kW p' c (mkF 0 0 0 pa (joD 1 (O' ++ []))) e h4
    rw [List.nil_append, jo_1.1, List.append_nil, e']
    rw [List.append_nil] at this
    exact this
theorem sim_test (hC0 : Cl0 n B se k0 W E) (hC : Cl1 n B k0 W E) {p : Nat} {pa : Int} (hp : p ≤ n) (hk : k0 ≤ p) (hf : 12 * n + 7 ≤ f) (kE : ∀ e, P n B se f 0 0 p = .inl e → E e) (k4 : ∀ p' c, P n B se f 0 0 p = .inr (p', c) → tk n B p' = 4 → E (1, (tsp n B p' : Int))) (kW : ∀ p' c F, P n B se f 0 0 p = .inr (p', c) → tk n B p' ≠ 4 → W 2 p' [F] c) : W 0 p [(mkF 1 0 1 pa [])] [] := by
  refine (sim_all hC0 hC f).1 0 p (mkF 1 0 1 pa []) [] [] ⟨by decide, rfl, hp, by rw [List.length_nil]; show k0 + 0 + 0 + 0 ≤ p; omega, by show 0 ≤ _; omega, fun h => absurd h (show ¬ (2 : Int) ≤ 1 by decide)⟩ (Or.inl rfl) rfl rfl hdl_nil (nf_P _ _ _ _ hp (by have := rk_le 0; omega)) kE (fun p' c c' O' φ e e' l1 x1 => ?_)
  have hro := ro_5 hp (by decide) e
  have hl2 : c.length = c'.length + O'.length := by rw [← e', List.length_append]
  have hV : Vd k0 n p' [((mkF 1 φ 0 pa (O' ++ [])) : Fm)] ([] ++ c') := by
    refine ⟨hro.2.2, ?_, ?_, show 1 ≤ 8 by decide⟩
    · show k0 + ([] ++ c').length + ((O' ++ []).length + 0) + 1 ≤ p' + 1
      rw [List.append_nil, List.nil_append]
      omega
    · show (O' ++ []).length + 0 ≤ 60
      rw [List.append_nil]
      omega
  by_cases h4 : tk n B p' = 4
  · exact st1E hC hV (fun h => absurd h (show ¬ (2 : Int) ≤ 1 by decide)) (if_pos h4) (k4 p' c e h4)
  · refine st1 hC hV (fun h => absurd h (show ¬ (2 : Int) ≤ 1 by decide)) ((go_test h4 (Or.inl rfl) x1).trans (if_pos (show (1 : Int) < 2 by decide))) ?_
    have := kW p' c (mkF 1 φ 0 pa (joD 1 (O' ++ []))) e h4
    rw [List.nil_append, jo_1.1, List.append_nil, e']
    rw [List.append_nil] at this
    exact this
end SI6
