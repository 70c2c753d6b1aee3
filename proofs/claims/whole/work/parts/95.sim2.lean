/-! ===== the machine reads as P does: sums, products, parts ===== -/
section SI2
variable (n : Nat) (B : Nat → Int) (se k0 : Nat) (W : Nat → Nat → List Fm → List Int → Prop) (E : Int × Int → Prop)
/-- how a part, a sum, .. may begin -/
abbrev Bg (d p lim : Nat) (F : Fm) (r : List Fm) (cs : List Int) : Prop := d ≤ 7 ∧ opN (F :: r) = d ∧ p ≤ n ∧ k0 + cs.length + tot (F :: r) + r.length ≤ p ∧ tot (F :: r) ≤ 6 * d + lim ∧ (2 ≤ F.ki → r ≠ [])
abbrev nF (p : Nat) (F : Fm) : Prop := fst_ F → tw n B p ≠ 25 ∧ ¬ sg n B p 91 ∧ tw n B p ≠ 26
def S5 (f : Nat) : Prop := ∀ d p F r cs, Bg n k0 d p 5 F r cs → nF n B p F → NF (P n B se f 5 d p) → (∀ e, P n B se f 5 d p = .inl e → E e) → (∀ p' c, P n B se f 5 d p = .inr (p', c) → W 1 p' ((mkF F.ki F.ph 0 F.pa F.os) :: r) (cs ++ c)) → W 0 p (F :: r) cs
abbrev n9 (p : Nat) : Prop := ¬ sg n B p 42 ∧ ¬ sg n B p 47 ∧ ¬ sg n B p 37
def S4 (f : Nat) : Prop := ∀ d p F r cs, Bg n k0 d p 4 F r cs → hdl 6 F.os → F.ph < 2 → nF n B p F → NF (P n B se f 4 d p) → (∀ e, P n B se f 4 d p = .inl e → E e) → (∀ p' c c' O', P n B se f 4 d p = .inr (p', c) → c' ++ O' = c → (∀ v ∈ O', 6 ≤ rnk v) → O'.length ≤ 1 → n9 n B p' → W 1 p' ((mkF F.ki F.ph 0 F.pa (O' ++ F.os)) :: r) (cs ++ c')) → W 0 p (F :: r) cs
def S9 (f : Nat) : Prop := ∀ d p F r cs O', d ≤ 7 → opN (F :: r) = d → p ≤ n → k0 + cs.length + O'.length + tot (F :: r) + r.length ≤ p → tot (F :: r) ≤ 6 * d + 4 → (2 ≤ F.ki → r ≠ []) → hdl 6 F.os → F.ph < 2 → F.bg = 0 → (∀ v ∈ O', 6 ≤ rnk v) → O'.length ≤ 1 → NF (P n B se f 9 d p) → (∀ e, P n B se f 9 d p = .inl e → E e) → (∀ p' c c1 O1, P n B se f 9 d p = .inr (p', c) → c1 ++ O1 = O' ++ c → (∀ v ∈ O1, 6 ≤ rnk v) → O1.length ≤ 1 → n9 n B p' → W 1 p' ((mkF F.ki F.ph F.bg F.pa (O1 ++ F.os)) :: r) (cs ++ c1)) → W 1 p ((mkF F.ki F.ph F.bg F.pa (O' ++ F.os)) :: r) cs
def S3 (f : Nat) : Prop := ∀ d p F r cs, Bg n k0 d p 3 F r cs → hdl 5 F.os → F.ph < 2 → nF n B p F → NF (P n B se f 3 d p) → (∀ e, P n B se f 3 d p = .inl e → E e) → (∀ p' c c' O', P n B se f 3 d p = .inr (p', c) → c' ++ O' = c → (∀ v ∈ O', 5 ≤ rnk v) → O'.length ≤ 2 → ¬ ari n B p' → W 1 p' ((mkF F.ki F.ph 0 F.pa (O' ++ F.os)) :: r) (cs ++ c')) → W 0 p (F :: r) cs
def S8 (f : Nat) : Prop := ∀ d p F r cs O', d ≤ 7 → opN (F :: r) = d → p ≤ n → k0 + cs.length + O'.length + tot (F :: r) + r.length ≤ p → tot (F :: r) ≤ 6 * d + 3 → (2 ≤ F.ki → r ≠ []) → hdl 5 F.os → F.ph < 2 → F.bg = 0 → (∀ v ∈ O', 5 ≤ rnk v) → O'.length ≤ 2 → n9 n B p → NF (P n B se f 8 d p) → (∀ e, P n B se f 8 d p = .inl e → E e) → (∀ p' c c1 O1, P n B se f 8 d p = .inr (p', c) → c1 ++ O1 = O' ++ c → (∀ v ∈ O1, 5 ≤ rnk v) → O1.length ≤ 2 → ¬ ari n B p' → W 1 p' ((mkF F.ki F.ph F.bg F.pa (O1 ++ F.os)) :: r) (cs ++ c1)) → W 1 p ((mkF F.ki F.ph F.bg F.pa (O' ++ F.os)) :: r) cs
end SI2
section SI3
variable {n : Nat} {B : Nat → Int} {se k0 : Nat} {W : Nat → Nat → List Fm → List Int → Prop} {E : Int × Int → Prop} {f : Nat}
theorem bnd_r {r : Res} {g : Nat → Res} {p : Nat} {c : List Int} (h : r = .inr (p, c)) {q : Nat} {c2 : List Int} (h2 : g p = .inr (q, c2)) : bnd r g = .inr (q, c ++ c2) := by
  rw [h, bnd_inr, h2]
  rfl
theorem bnd_e {r : Res} {g : Nat → Res} {p : Nat} {c : List Int} (h : r = .inr (p, c)) {e : Int × Int} (h2 : g p = .inl e) : bnd r g = .inl e := by
  rw [h, bnd_inr, h2]
  rfl
theorem nf_r {r : Res} {g : Nat → Res} {p : Nat} {c : List Int} (h : r = .inr (p, c)) (hN : NF (bnd r g)) : NF (g p) := by
  rw [h, bnd_inr] at hN
  cases hg : g p with
  | inl e =>
    rw [hg] at hN
    exact hN
  | inr x => exact nf_inr
theorem vd_of {d p lim : Nat} {F : Fm} {r : List Fm} {cs : List Int} (h : Bg n k0 d p lim F r cs) (hl : lim ≤ 10) : Vd k0 n p (F :: r) cs ∧ opN (F :: r) ≤ 7 := by
  obtain ⟨h1, h2, h3, h4, h5, h6⟩ := h
  have := opN_c (F := F) (r := r)
  refine ⟨⟨h3, ?_, by omega, ?_⟩, by omega⟩
  · rw [List.length_cons]; omega
  · rw [List.length_cons]; omega
theorem ro_5 {m d p p' : Nat} {c : List Int} (hp : p ≤ n) (hm : m < 6) (h : P n B se f m d p = .inr (p', c)) : p + c.length ≤ p' ∧ p + 1 ≤ p' ∧ p' ≤ n := ((ro_P (n := n) (B := B) (se := se) f m d p hp).2 hm) p' c h
theorem s9_step (hC : Cl1 n B k0 W E) (h5 : S5 n B se k0 W E f) (h9 : S9 n B se k0 W E f) : S9 n B se k0 W E (f + 1) := by
  intro d p F r cs O' hd ho hp hb ht hr hh hph hbg hO hO1 hN kE kW
  have hoc := opN_c (F := F) (r := r)
  have htc := tot_c (F := F) (r := r)
  have hV : Vd k0 n p ((mkF F.ki F.ph F.bg F.pa (O' ++ F.os)) :: r) cs := by
    refine ⟨hp, ?_, ?_, ?_⟩
    · rw [tot_c, List.length_cons]
      show k0 + cs.length + ((O' ++ F.os).length + tot r) + (r.length + 1) ≤ p + 1
      rw [List.length_append]
      omega
    · rw [tot_c]
      show (O' ++ F.os).length + tot r ≤ 60
      rw [List.length_append]
      omega
    · rw [List.length_cons]
      omega
  have go : ∀ v : Int, ari n B p → arL n B p = 6 → arO n B p = v → rnk v = 6 → v ≠ -9 → P n B se (f + 1) 9 d p = bnd (emi (P n B se f 5 d (te n B p)) v) (P n B se f 9 d) → W 1 p ((mkF F.ki F.ph F.bg F.pa (O' ++ F.os)) :: r) cs := by
    intro v ha hl hv hrv hv9 eP
    have hk : tk n B p = 3 := by rcases ha with h | h | h | h | h <;> exact h.1
    have hte := te_gp (Or.inr (Or.inr hk) : tk n B p = 1 ∨ tk n B p = 2 ∨ tk n B p = 3)
    refine w_ari hC hV hr hph ha hl hv hO hh ?_
    rw [eP] at hN kE kW
    have hN5 := nf_emi.1 (nf_bnd hN)
    refine h5 d (te n B p) (mkF F.ki F.ph F.bg F.pa (v :: F.os)) r (cs ++ O') ⟨hd, ?_, hte.2, ?_, ?_, hr⟩ (fun w => absurd w.2 (by show ¬ F.bg = 1; omega)) hN5 (fun e he => kE e (by rw [he]; rfl)) (fun p2 c2 h2 => ?_)
    · rw [opN_c]
      show ntO (v :: F.os) + nts r + r.length = d
      rw [ntO_s hv9]
      omega
    · rw [tot_c, List.length_append]
      show k0 + (cs.length + O'.length) + ((v :: F.os).length + tot r) + r.length ≤ te n B p
      rw [List.length_cons]
      omega
    · rw [tot_c]
      show (v :: F.os).length + tot r ≤ 6 * d + 5
      rw [List.length_cons]
      omega
    · have hro := ro_5 (hte.2) (by decide) h2
      have hE2 : emi (P n B se f 5 d (te n B p)) v = .inr (p2, c2 ++ [v]) := by rw [h2]; rfl
      have hh9 := h9 d p2 F r (cs ++ O' ++ c2) [v] hd ho hro.2.2 (by rw [List.length_append, List.length_append, List.length_singleton]; omega) ht hr hh hph hbg (fun w hw => by rw [List.mem_singleton.1 hw]; omega) (Nat.le_refl _) (nf_r hE2 hN) (fun e he => kE e (bnd_e hE2 he)) (fun p3 c3 c1 O1 h3 e1 r1 l1 x1 => ?_)
      · have eF : ((mkF F.ki F.ph F.bg F.pa (v :: F.os)) : Fm) = (mkF F.ki F.ph F.bg F.pa ([v] ++ F.os)) := rfl
        have eG : ((mkF ((mkF F.ki F.ph F.bg F.pa (v :: F.os)) : Fm).ki ((mkF F.ki F.ph F.bg F.pa (v :: F.os)) : Fm).ph 0 ((mkF F.ki F.ph F.bg F.pa (v :: F.os)) : Fm).pa ((mkF F.ki F.ph F.bg F.pa (v :: F.os)) : Fm).os) : Fm) = (mkF F.ki F.ph F.bg F.pa ([v] ++ F.os)) := by
          show ((mkF F.ki F.ph 0 F.pa (v :: F.os)) : Fm) = _
          rw [← hbg]
          rfl
        rw [eG]
        exact hh9
      · have := kW p3 (c2 ++ [v] ++ c3) (O' ++ c2 ++ c1) O1 (bnd_r hE2 h3) (by rw [List.append_assoc, List.append_assoc, e1, List.append_assoc]) r1 l1 x1
        rw [← List.append_assoc, ← List.append_assoc] at this
        exact this
  by_cases s1 : sg n B p 42
  · have e := s1.2
    exact go (-18) (Or.inr (Or.inr (Or.inl s1))) (by unfold arL; rw [if_neg (by omega)]) (by unfold arO; rw [if_neg (by omega), if_neg (by omega), if_pos e]) rfl (by decide) (if_pos s1)
  by_cases s2 : sg n B p 47
  · have e := s2.2
    exact go (-19) (Or.inr (Or.inr (Or.inr (Or.inl s2)))) (by unfold arL; rw [if_neg (by omega)]) (by unfold arO; rw [if_neg (by omega), if_neg (by omega), if_neg (by omega), if_pos e]) rfl (by decide) ((if_neg s1).trans (if_pos s2))
  by_cases s3 : sg n B p 37
  · have e := s3.2
    exact go (-20) (Or.inr (Or.inr (Or.inr (Or.inr s3)))) (by unfold arL; rw [if_neg (by omega)]) (by unfold arO; rw [if_neg (by omega), if_neg (by omega), if_neg (by omega), if_neg (by omega)]) rfl (by decide) ((if_neg s1).trans ((if_neg s2).trans (if_pos s3)))
  have := kW p [] [] O' ((if_neg s1).trans ((if_neg s2).trans (if_neg s3))) (by rw [List.append_nil, List.nil_append]) hO hO1 ⟨s1, s2, s3⟩
  rw [List.append_nil] at this
  exact this
theorem s4_step (h5 : S5 n B se k0 W E f) (h9 : S9 n B se k0 W E f) : S4 n B se k0 W E (f + 1) := by
  intro d p F r cs hB hh hph hnF hN kE kW
  have eP : P n B se (f + 1) 4 d p = bnd (P n B se f 5 d p) (P n B se f 9 d) := rfl
  rw [eP] at hN kE kW
  obtain ⟨h1, h2, h3, h4, h6, h7⟩ := hB
  refine h5 d p F r cs ⟨h1, h2, h3, h4, by omega, h7⟩ hnF (nf_bnd hN) (fun e he => kE e (by rw [he]; rfl)) (fun p1 c1 e1 => ?_)
  have hro := ro_5 h3 (by decide) e1
  have hh9 := h9 d p1 (mkF F.ki F.ph 0 F.pa F.os) r (cs ++ c1) [] h1 h2 hro.2.2 (by rw [List.length_append, List.length_nil]; show k0 + (cs.length + c1.length) + 0 + tot (F :: r) + r.length ≤ p1; omega) (by show tot (F :: r) ≤ _; omega) h7 hh hph rfl (fun v hv => absurd hv List.not_mem_nil) (Nat.zero_le _) (nf_r e1 hN) (fun e he => kE e (bnd_e e1 he)) (fun p2 c2 c3 O1 e2 e3 r1 l1 x1 => ?_)
  · exact hh9
  · have := kW p2 (c1 ++ c2) (c1 ++ c3) O1 (bnd_r e1 e2) (by rw [List.append_assoc, e3]; rfl) r1 l1 x1
    rw [← List.append_assoc] at this
    exact this
theorem s8_step (hC : Cl1 n B k0 W E) (h4 : S4 n B se k0 W E f) (h8 : S8 n B se k0 W E f) : S8 n B se k0 W E (f + 1) := by
  intro d p F r cs O' hd ho hp hb ht hr hh hph hbg hO hO1 hx9 hN kE kW
  have hoc := opN_c (F := F) (r := r)
  have htc := tot_c (F := F) (r := r)
  have hV : Vd k0 n p ((mkF F.ki F.ph F.bg F.pa (O' ++ F.os)) :: r) cs := by
    refine ⟨hp, ?_, ?_, ?_⟩
    · rw [tot_c, List.length_cons]
      show k0 + cs.length + ((O' ++ F.os).length + tot r) + (r.length + 1) ≤ p + 1
      rw [List.length_append]
      omega
    · rw [tot_c]
      show (O' ++ F.os).length + tot r ≤ 60
      rw [List.length_append]
      omega
    · rw [List.length_cons]
      omega
  have go : ∀ v : Int, ari n B p → arL n B p = 5 → arO n B p = v → rnk v = 5 → v ≠ -9 → P n B se (f + 1) 8 d p = bnd (emi (P n B se f 4 d (te n B p)) v) (P n B se f 8 d) → W 1 p ((mkF F.ki F.ph F.bg F.pa (O' ++ F.os)) :: r) cs := by
    intro v ha hl hv hrv hv9 eP
    have hk : tk n B p = 3 := by rcases ha with h | h | h | h | h <;> exact h.1
    have hte := te_gp (Or.inr (Or.inr hk) : tk n B p = 1 ∨ tk n B p = 2 ∨ tk n B p = 3)
    refine w_ari hC hV hr hph ha hl hv hO hh ?_
    rw [eP] at hN kE kW
    have hN5 := nf_emi.1 (nf_bnd hN)
    refine h4 d (te n B p) (mkF F.ki F.ph F.bg F.pa (v :: F.os)) r (cs ++ O') ⟨hd, ?_, hte.2, ?_, ?_, hr⟩ (hdl_c (by omega)) hph (fun w => absurd w.2 (by show ¬ F.bg = 1; omega)) hN5 (fun e he => kE e (by rw [he]; rfl)) (fun p2 c2 c2' O2 h2 e2 r2 l2 x2 => ?_)
    · rw [opN_c]
      show ntO (v :: F.os) + nts r + r.length = d
      rw [ntO_s hv9]
      omega
    · rw [tot_c, List.length_append]
      show k0 + (cs.length + O'.length) + ((v :: F.os).length + tot r) + r.length ≤ te n B p
      rw [List.length_cons]
      omega
    · rw [tot_c]
      show (v :: F.os).length + tot r ≤ 6 * d + 4
      rw [List.length_cons]
      omega
    · have hro := ro_5 (hte.2) (by decide) h2
      have hl2 : c2.length = c2'.length + O2.length := by rw [← e2, List.length_append]
      have hE2 : emi (P n B se f 4 d (te n B p)) v = .inr (p2, c2 ++ [v]) := by rw [h2]; rfl
      have hh8 := h8 d p2 F r (cs ++ O' ++ c2') (O2 ++ [v]) hd ho hro.2.2 (by rw [List.length_append, List.length_append, List.length_append, List.length_singleton]; omega) ht hr hh hph hbg (fun w hw => by
        rcases List.mem_append.1 hw with h | h
        · have := r2 w h; omega
        · rw [List.mem_singleton.1 h]; omega) (by rw [List.length_append, List.length_singleton]; omega) x2 (nf_r hE2 hN) (fun e he => kE e (bnd_e hE2 he)) (fun p3 c3 c1 O1 h3 e1 r1 l1 x1 => ?_)
      · have eG : ((mkF ((mkF F.ki F.ph F.bg F.pa (v :: F.os)) : Fm).ki ((mkF F.ki F.ph F.bg F.pa (v :: F.os)) : Fm).ph 0 ((mkF F.ki F.ph F.bg F.pa (v :: F.os)) : Fm).pa (O2 ++ (v :: F.os))) : Fm) = (mkF F.ki F.ph F.bg F.pa ((O2 ++ [v]) ++ F.os)) := by
          show ((mkF F.ki F.ph 0 F.pa (O2 ++ (v :: F.os))) : Fm) = _
          rw [← hbg, List.append_assoc]
          rfl
        rw [eG]
        exact hh8
      · have := kW p3 (c2 ++ [v] ++ c3) (O' ++ c2' ++ c1) O1 (bnd_r hE2 h3) (by rw [List.append_assoc, e1, ← e2]; simp only [List.append_assoc]) r1 l1 x1
        rw [← List.append_assoc, ← List.append_assoc] at this
        exact this
  by_cases s1 : sg n B p 43
  · have e := s1.2
    exact go (-16) (Or.inl s1) (by unfold arL; rw [if_pos (Or.inl e)]) (by unfold arO; rw [if_pos e]) rfl (by decide) (if_pos s1)
  by_cases s2 : sg n B p 45
  · have e := s2.2
    exact go (-17) (Or.inr (Or.inl s2)) (by unfold arL; rw [if_pos (Or.inr e)]) (by unfold arO; rw [if_neg (by omega), if_pos e]) rfl (by decide) ((if_neg s1).trans (if_pos s2))
  have := kW p [] [] O' ((if_neg s1).trans (if_neg s2)) (by rw [List.append_nil, List.nil_append]) hO hO1 (fun w => by
    rcases w with h | h | h | h | h
    · exact s1 h
    · exact s2 h
    · exact hx9.1 h
    · exact hx9.2.1 h
    · exact hx9.2.2 h)
  rw [List.append_nil] at this
  exact this
theorem s3_step (h4 : S4 n B se k0 W E f) (h8 : S8 n B se k0 W E f) : S3 n B se k0 W E (f + 1) := by
  intro d p F r cs hB hh hph hnF hN kE kW
  have eP : P n B se (f + 1) 3 d p = bnd (P n B se f 4 d p) (P n B se f 8 d) := rfl
  rw [eP] at hN kE kW
  obtain ⟨h1, h2, h3, h5, h6, h7⟩ := hB
  refine h4 d p F r cs ⟨h1, h2, h3, h5, by omega, h7⟩ (hdl_w hh (by decide)) hph hnF (nf_bnd hN) (fun e he => kE e (by rw [he]; rfl)) (fun p1 c1 c1' O1 e1 e1' r1 l1 x1 => ?_)
  have hro := ro_5 h3 (by decide) e1
  have hl2 : c1.length = c1'.length + O1.length := by rw [← e1', List.length_append]
  have hh8 := h8 d p1 (mkF F.ki F.ph 0 F.pa F.os) r (cs ++ c1') O1 h1 h2 hro.2.2 (by rw [List.length_append]; show k0 + (cs.length + c1'.length) + O1.length + tot (F :: r) + r.length ≤ p1; omega) (by show tot (F :: r) ≤ _; omega) h7 hh hph rfl (fun v hv => by have := r1 v hv; omega) (by omega) x1 (nf_r e1 hN) (fun e he => kE e (bnd_e e1 he)) (fun p2 c2 c3 O2 e2 e3 r2 l2 x2 => ?_)
  · exact hh8
  · have := kW p2 (c1 ++ c2) (c1' ++ c3) O2 (bnd_r e1 e2) (by rw [List.append_assoc, e3, ← e1', List.append_assoc]) r2 l2 x2
    rw [← List.append_assoc] at this
    exact this
end SI3
