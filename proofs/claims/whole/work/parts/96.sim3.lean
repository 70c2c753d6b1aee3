/-! ===== the machine reads as P does: tests, parts ===== -/
section SI4
variable (n : Nat) (B : Nat → Int) (se k0 : Nat) (W : Nat → Nat → List Fm → List Int → Prop) (E : Int × Int → Prop)
abbrev phN (p : Nat) (φ : Int) : Prop := (φ = 1 ∨ φ = 2) ∧ (φ = 1 → ¬ ari n B p)
def S2f (f : Nat) : Prop := ∀ d p F r cs, Bg n k0 d p 2 F r cs → tst F → F.bg = 1 → F.ph = 0 → hdl 4 F.os → NF (P n B se f 2 d p) → (∀ e, P n B se f 2 d p = .inl e → E e) → (∀ p' c c' O' φ, P n B se f 2 d p = .inr (p', c) → c' ++ O' = c → (∀ v ∈ O', 3 ≤ rnk v) → O'.length + d ≤ 10 → phN n B p' φ → W 1 p' ((mkF F.ki φ 0 F.pa (O' ++ F.os)) :: r) (cs ++ c')) → W 0 p (F :: r) cs
def S7 (f : Nat) : Prop := ∀ d p F r cs O' φ, d ≤ 7 → opN (F :: r) = d → p ≤ n → k0 + cs.length + O'.length + tot (F :: r) + r.length ≤ p → tot (F :: r) ≤ 6 * d + 1 → (2 ≤ F.ki → r ≠ []) → tst F → hdl 2 F.os → F.bg = 0 → (∀ v ∈ O', 2 ≤ rnk v) → O'.length + d ≤ 11 → phN n B p φ → NF (P n B se f 7 d p) → (∀ e, P n B se f 7 d p = .inl e → E e) → (∀ p' c c1 O1 φ1, P n B se f 7 d p = .inr (p', c) → c1 ++ O1 = O' ++ c → (∀ v ∈ O1, 2 ≤ rnk v) → O1.length + d ≤ 11 → phN n B p' φ1 → tw n B p' ≠ 24 → W 1 p' ((mkF F.ki φ1 F.bg F.pa (O1 ++ F.os)) :: r) (cs ++ c1)) → W 1 p ((mkF F.ki φ F.bg F.pa (O' ++ F.os)) :: r) cs
def S1 (f : Nat) : Prop := ∀ d p F r cs, Bg n k0 d p 1 F r cs → tst F → F.bg = 1 → F.ph = 0 → hdl 2 F.os → NF (P n B se f 1 d p) → (∀ e, P n B se f 1 d p = .inl e → E e) → (∀ p' c c' O' φ, P n B se f 1 d p = .inr (p', c) → c' ++ O' = c → (∀ v ∈ O', 2 ≤ rnk v) → O'.length + d ≤ 11 → phN n B p' φ → tw n B p' ≠ 24 → W 1 p' ((mkF F.ki φ 0 F.pa (O' ++ F.os)) :: r) (cs ++ c')) → W 0 p (F :: r) cs
def S6 (f : Nat) : Prop := ∀ d p F r cs O' φ, d ≤ 7 → opN (F :: r) = d → p ≤ n → k0 + cs.length + O'.length + tot (F :: r) + r.length ≤ p → tot (F :: r) ≤ 6 * d → (2 ≤ F.ki → r ≠ []) → tst F → hdl 1 F.os → F.bg = 0 → O'.length + d ≤ 12 → phN n B p φ → tw n B p ≠ 24 → NF (P n B se f 6 d p) → (∀ e, P n B se f 6 d p = .inl e → E e) → (∀ p' c c1 O1 φ1, P n B se f 6 d p = .inr (p', c) → c1 ++ O1 = O' ++ c → O1.length + d ≤ 12 → tEnd n B p' φ1 → W 1 p' ((mkF F.ki φ1 F.bg F.pa (O1 ++ F.os)) :: r) (cs ++ c1)) → W 1 p ((mkF F.ki φ F.bg F.pa (O' ++ F.os)) :: r) cs
def S0 (f : Nat) : Prop := ∀ d p F r cs, Bg n k0 d p 0 F r cs → tst F → F.bg = 1 → F.ph = 0 → hdl 1 F.os → NF (P n B se f 0 d p) → (∀ e, P n B se f 0 d p = .inl e → E e) → (∀ p' c c' O' φ, P n B se f 0 d p = .inr (p', c) → c' ++ O' = c → O'.length + d ≤ 12 → tEnd n B p' φ → W 1 p' ((mkF F.ki φ 0 F.pa (O' ++ F.os)) :: r) (cs ++ c')) → W 0 p (F :: r) cs
end SI4
section SI5
variable {n : Nat} {B : Nat → Int} {se k0 : Nat} {W : Nat → Nat → List Fm → List Int → Prop} {E : Int × Int → Prop} {f : Nat}
theorem vd_1 {d p lim : Nat} {F : Fm} {r : List Fm} {cs O' : List Int} (hd : d ≤ 7) (ho : opN (F :: r) = d) (hp : p ≤ n) (hb : k0 + cs.length + O'.length + tot (F :: r) + r.length ≤ p) (ht : tot (F :: r) ≤ 6 * d + lim) (hO : O'.length + d ≤ 12) (hl : lim ≤ 3) {G : Fm} (hG : G.os = O' ++ F.os) : Vd k0 n p (G :: r) cs := by
  have hoc := opN_c (F := F) (r := r)
  have htc := tot_c (F := F) (r := r)
  have e : tot (G :: r) = O'.length + F.os.length + tot r := by rw [tot_c, hG, List.length_append]
  refine ⟨hp, ?_, by omega, ?_⟩
  · rw [e, List.length_cons]; omega
  · rw [List.length_cons]; omega
theorem s7_step (hC : Cl1 n B k0 W E) (h2 : S2f n B se k0 W E f) (h7 : S7 n B se k0 W E f) : S7 n B se k0 W E (f + 1) := by
  intro d p F r cs O' φ hd ho hp hb ht hr htF hh hbg hO hOl hφ hN kE kW
  have hoc := opN_c (F := F) (r := r)
  have htc := tot_c (F := F) (r := r)
  have hV : Vd k0 n p ((mkF F.ki φ F.bg F.pa (O' ++ F.os)) :: r) cs := vd_1 hd ho hp hb ht (by omega) (by decide) rfl
  by_cases hw : tw n B p = 24
  · have hk := tw_c (by decide) hw
    have hte := te_gp hk
    have eP : P n B se (f + 1) 7 d p = bnd (emi (P n B se f 2 d (te n B p)) (-12)) (P n B se f 7 d) := if_pos hw
    refine w_ao hC hV hr htF hφ.1 (Or.inl ⟨hw, rfl, rfl⟩) hO hh ?_
    rw [eP] at hN kE kW
    have hN5 := nf_emi.1 (nf_bnd hN)
    refine h2 d (te n B p) (mkF F.ki 0 1 F.pa (-12 :: F.os)) r (cs ++ O') ⟨hd, ?_, hte.2, ?_, ?_, hr⟩ htF rfl rfl (hdl_c (by decide)) hN5 (fun e he => kE e (by rw [he]; rfl)) (fun p2 c2 c2' O2 φ2 e1 e2 r2 l2 x2 => ?_)
    · rw [opN_c]
      show ntO (-12 :: F.os) + nts r + r.length = d
      rw [ntO_s (by decide)]
      omega
    · rw [tot_c, List.length_append]
      show k0 + (cs.length + O'.length) + ((-12 :: F.os).length + tot r) + r.length ≤ te n B p
      rw [List.length_cons]
      omega
    · rw [tot_c]
      show (-12 :: F.os).length + tot r ≤ 6 * d + 2
      rw [List.length_cons]
      omega
    · have hro := ro_5 (hte.2) (by decide) e1
      have hl2 : c2.length = c2'.length + O2.length := by rw [← e2, List.length_append]
      have hE2 : emi (P n B se f 2 d (te n B p)) (-12) = .inr (p2, c2 ++ [-12]) := by rw [e1]; rfl
      have hh7 := h7 d p2 F r (cs ++ O' ++ c2') (O2 ++ [-12]) φ2 hd ho hro.2.2 (by rw [List.length_append, List.length_append, List.length_append, List.length_singleton]; omega) ht hr htF hh hbg (fun w hw => by
        rcases List.mem_append.1 hw with h | h
        · have := r2 w h; omega
        · rw [List.mem_singleton.1 h]; decide) (by rw [List.length_append, List.length_singleton]; omega) x2 (nf_r hE2 hN) (fun e he => kE e (bnd_e hE2 he)) (fun p3 c3 c1 O1 φ1 h3 e3 r1 l1 x1 y1 => ?_)
      · have eG : ((mkF ((mkF F.ki 0 1 F.pa (-12 :: F.os)) : Fm).ki φ2 0 ((mkF F.ki 0 1 F.pa (-12 :: F.os)) : Fm).pa (O2 ++ (-12 :: F.os))) : Fm) = (mkF F.ki φ2 F.bg F.pa ((O2 ++ [-12]) ++ F.os)) := by
          show ((mkF F.ki φ2 0 F.pa (O2 ++ (-12 :: F.os))) : Fm) = _
          rw [← hbg, List.append_assoc]
          rfl
        rw [eG]
        exact hh7
      · have := kW p3 (c2 ++ [-12] ++ c3) (O' ++ c2' ++ c1) O1 φ1 (bnd_r hE2 h3) (by rw [List.append_assoc, e3, ← e2]; simp only [List.append_assoc]) r1 l1 x1 y1
        rw [← List.append_assoc, ← List.append_assoc] at this
        exact this
  · have := kW p [] [] O' φ (if_neg hw) (by rw [List.append_nil, List.nil_append]) hO hOl hφ hw
    rw [List.append_nil] at this
    exact this
theorem s1_step (h2 : S2f n B se k0 W E f) (h7 : S7 n B se k0 W E f) : S1 n B se k0 W E (f + 1) := by
  intro d p F r cs hB htF hbg hph hh hN kE kW
  have eP : P n B se (f + 1) 1 d p = bnd (P n B se f 2 d p) (P n B se f 7 d) := rfl
  rw [eP] at hN kE kW
  obtain ⟨b1, b2, b3, b4, b5, b6⟩ := hB
  refine h2 d p F r cs ⟨b1, b2, b3, b4, by omega, b6⟩ htF hbg hph (hdl_w hh (by decide)) (nf_bnd hN) (fun e he => kE e (by rw [he]; rfl)) (fun p1 c1 c1' O1 φ e1 e1' r1 l1 x1 => ?_)
  have hro := ro_5 b3 (by decide) e1
  have hl2 : c1.length = c1'.length + O1.length := by rw [← e1', List.length_append]
  have hh7 := h7 d p1 (mkF F.ki F.ph 0 F.pa F.os) r (cs ++ c1') O1 φ b1 b2 hro.2.2 (by rw [List.length_append]; show k0 + (cs.length + c1'.length) + O1.length + tot (F :: r) + r.length ≤ p1; omega) (by show tot (F :: r) ≤ _; omega) b6 htF hh rfl (fun v hv => by have := r1 v hv; omega) (by omega) x1 (nf_r e1 hN) (fun e he => kE e (bnd_e e1 he)) (fun p2 c2 c3 O2 φ2 e2 e3 r2 l2 x2 y2 => ?_)
  · exact hh7
  · have := kW p2 (c1 ++ c2) (c1' ++ c3) O2 φ2 (bnd_r e1 e2) (by rw [List.append_assoc, e3, ← e1', List.append_assoc]) r2 l2 x2 y2
    rw [← List.append_assoc] at this
    exact this
theorem s6_step (hC : Cl1 n B k0 W E) (h1 : S1 n B se k0 W E f) (h6 : S6 n B se k0 W E f) : S6 n B se k0 W E (f + 1) := by
  intro d p F r cs O' φ hd ho hp hb ht hr htF hh hbg hOl hφ h24 hN kE kW
  have hoc := opN_c (F := F) (r := r)
  have htc := tot_c (F := F) (r := r)
  have hV : Vd k0 n p ((mkF F.ki φ F.bg F.pa (O' ++ F.os)) :: r) cs := vd_1 (lim := 0) hd ho hp hb ht (by omega) (by decide) rfl
  by_cases hw : tw n B p = 23
  · have hk := tw_c (by decide) hw
    have hte := te_gp hk
    have eP : P n B se (f + 1) 6 d p = bnd (emi (P n B se f 1 d (te n B p)) (-11)) (P n B se f 6 d) := if_pos hw
    refine w_ao hC hV hr htF hφ.1 (Or.inr ⟨hw, rfl, rfl⟩) (fun v _ => (rnk_in v).1) hh ?_
    rw [eP] at hN kE kW
    have hN5 := nf_emi.1 (nf_bnd hN)
    refine h1 d (te n B p) (mkF F.ki 0 1 F.pa (-11 :: F.os)) r (cs ++ O') ⟨hd, ?_, hte.2, ?_, ?_, hr⟩ htF rfl rfl (hdl_c (by decide)) hN5 (fun e he => kE e (by rw [he]; rfl)) (fun p2 c2 c2' O2 φ2 e1 e2 r2 l2 x2 y2 => ?_)
    · rw [opN_c]
      show ntO (-11 :: F.os) + nts r + r.length = d
      rw [ntO_s (by decide)]
      omega
    · rw [tot_c, List.length_append]
      show k0 + (cs.length + O'.length) + ((-11 :: F.os).length + tot r) + r.length ≤ te n B p
      rw [List.length_cons]
      omega
    · rw [tot_c]
      show (-11 :: F.os).length + tot r ≤ 6 * d + 1
      rw [List.length_cons]
      omega
    · have hro := ro_5 (hte.2) (by decide) e1
      have hl2 : c2.length = c2'.length + O2.length := by rw [← e2, List.length_append]
      have hE2 : emi (P n B se f 1 d (te n B p)) (-11) = .inr (p2, c2 ++ [-11]) := by rw [e1]; rfl
      have hh6 := h6 d p2 F r (cs ++ O' ++ c2') (O2 ++ [-11]) φ2 hd ho hro.2.2 (by rw [List.length_append, List.length_append, List.length_append, List.length_singleton]; omega) ht hr htF hh hbg (by rw [List.length_append, List.length_singleton]; omega) x2 y2 (nf_r hE2 hN) (fun e he => kE e (bnd_e hE2 he)) (fun p3 c3 c1 O1 φ1 h3 e3 l1 x1 => ?_)
      · have eG : ((mkF ((mkF F.ki 0 1 F.pa (-11 :: F.os)) : Fm).ki φ2 0 ((mkF F.ki 0 1 F.pa (-11 :: F.os)) : Fm).pa (O2 ++ (-11 :: F.os))) : Fm) = (mkF F.ki φ2 F.bg F.pa ((O2 ++ [-11]) ++ F.os)) := by
          show ((mkF F.ki φ2 0 F.pa (O2 ++ (-11 :: F.os))) : Fm) = _
          rw [← hbg, List.append_assoc]
          rfl
        rw [eG]
        exact hh6
      · have := kW p3 (c2 ++ [-11] ++ c3) (O' ++ c2' ++ c1) O1 φ1 (bnd_r hE2 h3) (by rw [List.append_assoc, e3, ← e2]; simp only [List.append_assoc]) l1 x1
        rw [← List.append_assoc, ← List.append_assoc] at this
        exact this
  · have := kW p [] [] O' φ (if_neg hw) (by rw [List.append_nil, List.nil_append]) hOl ⟨hφ.1, hφ.2, h24, hw⟩
    rw [List.append_nil] at this
    exact this
theorem s0_step (h1 : S1 n B se k0 W E f) (h6 : S6 n B se k0 W E f) : S0 n B se k0 W E (f + 1) := by
  intro d p F r cs hB htF hbg hph hh hN kE kW
  have eP : P n B se (f + 1) 0 d p = bnd (P n B se f 1 d p) (P n B se f 6 d) := rfl
  rw [eP] at hN kE kW
  obtain ⟨b1, b2, b3, b4, b5, b6⟩ := hB
  refine h1 d p F r cs ⟨b1, b2, b3, b4, by omega, b6⟩ htF hbg hph (hdl_w hh (by decide)) (nf_bnd hN) (fun e he => kE e (by rw [he]; rfl)) (fun p1 c1 c1' O1 φ e1 e1' r1 l1 x1 y1 => ?_)
  have hro := ro_5 b3 (by decide) e1
  have hl2 : c1.length = c1'.length + O1.length := by rw [← e1', List.length_append]
  have hh6 := h6 d p1 (mkF F.ki F.ph 0 F.pa F.os) r (cs ++ c1') O1 φ b1 b2 hro.2.2 (by rw [List.length_append]; show k0 + (cs.length + c1'.length) + O1.length + tot (F :: r) + r.length ≤ p1; omega) (by show tot (F :: r) ≤ _; omega) b6 htF hh rfl (by omega) x1 y1 (nf_r e1 hN) (fun e he => kE e (bnd_e e1 he)) (fun p2 c2 c3 O2 φ2 e2 e3 l2 x2 => ?_)
  · exact hh6
  · have := kW p2 (c1 ++ c2) (c1' ++ c3) O2 φ2 (bnd_r e1 e2) (by rw [List.append_assoc, e3, ← e1', List.append_assoc]) l2 x2
    rw [← List.append_assoc] at this
    exact this
theorem s2_step (hC0 : Cl0 n B se k0 W E) (hC : Cl1 n B k0 W E) (h2 : S2f n B se k0 W E f) (h0 : S0 n B se k0 W E f) (h3 : S3 n B se k0 W E f) : S2f n B se k0 W E (f + 1) := by
  intro d p F r cs hB htF hbg hph hh hN kE kW
  have hvd := vd_of hB (by decide)
  have hf : fst_ F := ⟨htF, hbg⟩
  obtain ⟨b1, b2, b3, b4, b5, b6⟩ := hB
  have hoc := opN_c (F := F) (r := r)
  have htc := tot_c (F := F) (r := r)
  by_cases w25 : tw n B p = 25
  · have hk := tw_c (by decide) w25
    have hk1 : tk n B p = 1 := tw_1 w25 (by decide)
    have hte := te_gp hk
    by_cases hd7 : d < 7
    · have eP : P n B se (f + 1) 2 d p = emi (P n B se f 2 (d + 1) (te n B p)) (-9) := (if_pos w25).trans (if_pos hd7)
      rw [eP] at hN kE kW
      refine st0 hC0 hvd.1 hvd.2 (t := 0) (p' := te n B p) (fs' := (mkF F.ki F.ph F.bg F.pa (-9 :: F.os)) :: r) (cs' := cs) ((if_neg (by omega)).trans ((if_pos ⟨hf, w25⟩).trans (if_neg (by omega)))) ?_
      refine h2 (d + 1) (te n B p) (mkF F.ki F.ph F.bg F.pa (-9 :: F.os)) r cs ⟨by omega, ?_, hte.2, ?_, ?_, b6⟩ htF hbg hph (hdl_c (by decide)) (nf_emi.1 hN) (fun e he => kE e (by rw [he]; rfl)) (fun p1 c1 c1' O1 φ e1 e1' r1 l1 x1 => ?_)
      · rw [opN_c]
        show ntO (-9 :: F.os) + nts r + r.length = d + 1
        rw [ntO_9]
        omega
      · rw [tot_c]
        show k0 + cs.length + ((-9 :: F.os).length + tot r) + r.length ≤ te n B p
        rw [List.length_cons]
        omega
      · rw [tot_c]
        show (-9 :: F.os).length + tot r ≤ 6 * (d + 1) + 2
        rw [List.length_cons]
        omega
      · have := kW p1 (c1 ++ [-9]) c1' (O1 ++ [-9]) φ (by rw [e1]; rfl) (by rw [← e1', List.append_assoc]) (fun v hv => by
          rcases List.mem_append.1 hv with h | h
          · exact r1 v h
          · rw [List.mem_singleton.1 h]; decide) (by rw [List.length_append, List.length_singleton]; omega) x1
        rw [List.append_assoc] at this
        exact this
    · refine st0E hC0 hvd.1 hvd.2 (e := (5, (tq n B p : Int))) ((if_neg (by omega)).trans ((if_pos ⟨hf, w25⟩).trans (if_pos (by omega)))) (kE _ ((if_pos w25).trans (if_neg hd7)))
  by_cases s91 : sg n B p 91
  · have hk3 : tk n B p = 3 := s91.1
    have hte := te_gp (sg_c s91)
    by_cases hd7 : d < 7
    · have eP : P n B se (f + 1) 2 d p = nee n B (P n B se f 0 (d + 1) (te n B p)) 93 := (if_neg w25).trans ((if_pos s91).trans (if_pos hd7))
      rw [eP] at hN kE kW
      refine st0 hC0 hvd.1 hvd.2 (t := 0) (p' := te n B p) (fs' := (mkF 5 0 1 0 []) :: (mkF F.ki F.ph 0 F.pa F.os) :: r) (cs' := cs) ((if_neg (by omega)).trans ((if_neg (fun w => w25 w.2)).trans ((if_pos ⟨hf, s91⟩).trans (if_neg (by omega))))) ?_
      have ho2 : opN (((mkF 5 0 1 0 []) : Fm) :: (mkF F.ki F.ph 0 F.pa F.os) :: r) = d + 1 := by
        rw [opN_c, nts_c, List.length_cons]
        show 0 + (ntO F.os + nts r) + (r.length + 1) = d + 1
        omega
      have ht2 : tot (((mkF 5 0 1 0 []) : Fm) :: (mkF F.ki F.ph 0 F.pa F.os) :: r) = tot (F :: r) := by
        rw [tot_c, tot_c, tot_c]
        show 0 + (F.os.length + tot r) = _
        omega
      refine h0 (d + 1) (te n B p) (mkF 5 0 1 0 []) ((mkF F.ki F.ph 0 F.pa F.os) :: r) cs ⟨by omega, ho2, hte.2, by rw [ht2, List.length_cons]; omega, by rw [ht2]; omega, fun _ => List.cons_ne_nil _ _⟩ (Or.inr (Or.inl rfl)) rfl rfl hdl_nil (nf_nee.1 hN) (fun e he => kE e (by rw [he]; rfl)) (fun p1 c1 c1' O1 φ e1 e1' l1 x1 => ?_)
      have hro := ro_5 (hte.2) (by decide) e1
      have hl2 : c1.length = c1'.length + O1.length := by rw [← e1', List.length_append]
      refine w_close5 (F := (mkF 5 φ 0 0 (O1 ++ []))) hC (vd_1 (lim := 0) (O' := O1) (F := (mkF 5 0 1 0 [])) (d := d + 1) (by omega) ho2 hro.2.2 (by rw [List.length_append, ht2, List.length_cons]; omega) (by rw [ht2]; omega) (by omega) (by decide) rfl) rfl x1 (fun hs => kE _ (by rw [e1]; exact if_neg hs)) (fun hs => ?_)
      have := kW (te n B p1) c1 c1 [] 2 (by rw [e1]; exact if_pos hs) (List.append_nil _) (fun v hv => absurd hv List.not_mem_nil) (by rw [List.length_nil]; omega) ⟨Or.inr rfl, fun h => by omega⟩
      show W 1 (te n B p1) ((mkF F.ki 2 0 F.pa F.os) :: r) (cs ++ c1' ++ (O1 ++ []))
      rw [List.append_nil, List.append_assoc, e1']
      exact this
    · exact st0E hC0 hvd.1 hvd.2 (e := (5, (tq n B p : Int))) ((if_neg (by omega)).trans ((if_neg (fun w => w25 w.2)).trans ((if_pos ⟨hf, s91⟩).trans (if_pos (by omega))))) (kE _ ((if_neg w25).trans ((if_pos s91).trans (if_neg hd7))))
  by_cases w26 : tw n B p = 26
  · have hk1 : tk n B p = 1 := tw_1 w26 (by decide)
    refine st0 hC0 hvd.1 hvd.2 (t := 1) (p' := te n B p) (fs' := (mkF F.ki 2 0 F.pa F.os) :: r) (cs' := cs ++ [1]) ((if_neg (by omega)).trans ((if_neg (fun w => w25 w.2)).trans ((if_neg (fun w => s91 w.2)).trans (if_pos ⟨hf, w26⟩)))) ?_
    exact kW (te n B p) [1] [1] [] 2 ((if_neg w25).trans ((if_neg s91).trans (if_pos w26))) rfl (fun v hv => absurd hv List.not_mem_nil) (by rw [List.length_nil]; omega) ⟨Or.inr rfl, fun h => by omega⟩
  have eP : P n B se (f + 1) 2 d p = cmpr n B (P n B se f) d (P n B se f 3 d p) := (if_neg w25).trans ((if_neg s91).trans (if_neg w26))
  rw [eP] at hN kE kW
  have hN2 := nf_cmp1 hN
  refine h3 d p F r cs ⟨b1, b2, b3, b4, by omega, b6⟩ (hdl_w hh (by decide)) (by omega) (fun _ => ⟨w25, s91, w26⟩) hN2.1 (fun e he => kE e (by rw [he]; rfl)) (fun p1 c1 c1' O1 e1 e1' r1 l1 x1 => ?_)
  have hro := ro_5 b3 (by decide) e1
  have hl2 : c1.length = c1'.length + O1.length := by rw [← e1', List.length_append]
  refine w_cmp (G := (mkF F.ki F.ph 0 F.pa F.os)) hC (vd_1 (lim := 2) (O' := O1) (F := F) (d := d) b1 b2 hro.2.2 (by rw [List.length_append]; omega) b5 (by omega) (by decide) rfl) b6 htF hph x1 r1 (hdl_w hh (by decide)) (fun hc => kE _ (by rw [e1]; exact if_neg hc)) (fun hc => ?_)
  have hte := te_gp (Or.inr (Or.inr hc.1) : tk n B p1 = 1 ∨ tk n B p1 = 2 ∨ tk n B p1 = 3)
  have hrk : rnk (cmO n B p1) = 4 ∧ cmO n B p1 ≠ -9 := by
    unfold cmO
    repeat' split
    all_goals decide
  have e2 : cmp1 n B (P n B se f 3 d p) = .inr (te n B p1, c1) := by rw [e1]; exact if_pos hc
  have eC : cmpr n B (P n B se f) d (P n B se f 3 d p) = emi (bnd (.inr (te n B p1, c1)) (P n B se f 3 d)) (cmO n B p1) := by rw [e1]; exact if_pos hc
  have hN3 := hN2.2
  rw [e2] at hN3
  rw [eC] at kE kW
  rw [List.append_assoc, e1']
  refine h3 d (te n B p1) (mkF F.ki 1 0 F.pa (cmO n B p1 :: F.os)) r (cs ++ c1) ⟨b1, ?_, hte.2, ?_, ?_, b6⟩ (hdl_c (by show rnk (cmO n B p1) < 5; omega)) (by show (1 : Int) < 2; omega) (fun w => absurd w.2 (by show ¬ (0 : Int) = 1; omega)) (nf_r rfl hN3) (fun e he => kE e (by rw [bnd_e rfl he]; rfl)) (fun p2 c2 c2' O2 e3 e3' r2 l2 x2 => ?_)
  · rw [opN_c]
    show ntO (cmO n B p1 :: F.os) + nts r + r.length = d
    rw [ntO_s hrk.2]
    omega
  · rw [tot_c, List.length_append]
    show k0 + (cs.length + c1.length) + ((cmO n B p1 :: F.os).length + tot r) + r.length ≤ te n B p1
    rw [List.length_cons]
    omega
  · rw [tot_c]
    show (cmO n B p1 :: F.os).length + tot r ≤ 6 * d + 3
    rw [List.length_cons]
    omega
  · have := kW p2 (c1 ++ c2 ++ [cmO n B p1]) (c1 ++ c2') (O2 ++ [cmO n B p1]) 1 (by rw [bnd_r rfl e3]; rfl) (by rw [← e3']; simp only [List.append_assoc]) (fun v hv => by
      rcases List.mem_append.1 hv with h | h
      · have := r2 v h; omega
      · rw [List.mem_singleton.1 h]; omega) (by rw [List.length_append, List.length_singleton]; omega) ⟨Or.inl rfl, fun _ => x2⟩
    rw [show O2 ++ [cmO n B p1] ++ F.os = O2 ++ (cmO n B p1 :: F.os) by rw [List.append_assoc]; rfl, show cs ++ (c1 ++ c2') = cs ++ c1 ++ c2' from (List.append_assoc _ _ _).symm] at this
    exact this
end SI5
