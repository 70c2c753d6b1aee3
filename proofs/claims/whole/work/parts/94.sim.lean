/-! ===== the machine reads as P does ===== -/
def Vd (k0 n p : Nat) (fs : List Fm) (cs : List Int) : Prop := p ≤ n ∧ k0 + cs.length + tot fs + fs.length ≤ p + 1 ∧ tot fs ≤ 60 ∧ fs.length ≤ 8
def Cl0 (n : Nat) (B : Nat → Int) (se k0 : Nat) (W : Nat → Nat → List Fm → List Int → Prop) (E : Int × Int → Prop) : Prop := ∀ p F r cs, Vd k0 n p (F :: r) cs → opN (F :: r) ≤ 7 → (∀ e, opF n B se F r cs p = .inl e → E e) → (∀ t p' fs' cs', opF n B se F r cs p = .inr (t, p', fs', cs') → W t p' fs' cs') → W 0 p (F :: r) cs
def Cl1 (n : Nat) (B : Nat → Int) (k0 : Nat) (W : Nat → Nat → List Fm → List Int → Prop) (E : Int × Int → Prop) : Prop := ∀ p F r cs, Vd k0 n p (F :: r) cs → (2 ≤ F.ki → r ≠ []) → (∀ e, goF n B F r cs p = .inl e → E e) → (∀ t p' fs' cs', goF n B F r cs p = .inr (t, p', fs', cs') → W t p' fs' cs') → W 1 p (F :: r) cs
def hdl (l : Nat) (O : List Int) : Prop := ∀ v r, O = v :: r → rnk v < l
theorem hdl_c {l : Nat} {v : Int} {O : List Int} (h : rnk v < l) : hdl l (v :: O) := fun v' r e => by
  cases e
  exact h
theorem hdl_nil {l : Nat} : hdl l [] := fun v r e => by cases e
theorem hdl_w {l l' : Nat} {O : List Int} (h : hdl l O) (hl : l ≤ l') : hdl l' O := fun v r e => by
  have := h v r e
  omega
theorem tot_c {F : Fm} {r : List Fm} : tot (F :: r) = F.os.length + tot r := rfl
theorem opN_c {F : Fm} {r : List Fm} : opN (F :: r) = ntO F.os + nts r + r.length := rfl
theorem nts_c {F : Fm} {r : List Fm} : nts (F :: r) = ntO F.os + nts r := rfl
theorem ntO_a {A O : List Int} : ntO (A ++ O) = ntO A + ntO O := by
  induction A with
  | nil => rw [List.nil_append, show ntO ([] : List Int) = 0 from rfl, Nat.zero_add]
  | cons a A ih =>
    rw [List.cons_append, show ntO (a :: (A ++ O)) = (if a = -9 then 1 else 0) + ntO (A ++ O) from rfl, show ntO (a :: A) = (if a = -9 then 1 else 0) + ntO A from rfl, ih]
    omega
theorem ntO_s {v : Int} {O : List Int} (h : v ≠ -9) : ntO (v :: O) = ntO O := by
  rw [show ntO (v :: O) = (if v = -9 then 1 else 0) + ntO O from rfl, if_neg h, Nat.zero_add]
theorem ntO_9 {O : List Int} : ntO (-9 :: O) = ntO O + 1 := by
  rw [show ntO (-9 :: O) = 1 + ntO O from rfl]
  omega
section SIM
variable {n : Nat} {B : Nat → Int} {se k0 : Nat} {W : Nat → Nat → List Fm → List Int → Prop} {E : Int × Int → Prop} {p d f : Nat} {F : Fm} {r : List Fm} {cs : List Int}
theorem st0 {t p' : Nat} {fs' : List Fm} {cs' : List Int} (hC : Cl0 n B se k0 W E) (hV : Vd k0 n p (F :: r) cs) (ho : opN (F :: r) ≤ 7) (e : opF n B se F r cs p = .inr (t, p', fs', cs')) (h : W t p' fs' cs') : W 0 p (F :: r) cs := by
  refine hC p F r cs hV ho (fun e' h' => ?_) (fun t1 p1 f1 c1 h' => ?_)
  · rw [e] at h'; cases h'
  · rw [e] at h'; cases h'; exact h
theorem st0E {e : Int × Int} (hC : Cl0 n B se k0 W E) (hV : Vd k0 n p (F :: r) cs) (ho : opN (F :: r) ≤ 7) (he : opF n B se F r cs p = .inl e) (h : E e) : W 0 p (F :: r) cs := by
  refine hC p F r cs hV ho (fun e' h' => ?_) (fun t1 p1 f1 c1 h' => ?_)
  · rw [he] at h'; cases h'; exact h
  · rw [he] at h'; cases h'
theorem st1 {t p' : Nat} {fs' : List Fm} {cs' : List Int} (hC : Cl1 n B k0 W E) (hV : Vd k0 n p (F :: r) cs) (ho : 2 ≤ F.ki → r ≠ []) (e : goF n B F r cs p = .inr (t, p', fs', cs')) (h : W t p' fs' cs') : W 1 p (F :: r) cs := by
  refine hC p F r cs hV ho (fun e' h' => ?_) (fun t1 p1 f1 c1 h' => ?_)
  · rw [e] at h'; cases h'
  · rw [e] at h'; cases h'; exact h
theorem st1E {e : Int × Int} (hC : Cl1 n B k0 W E) (hV : Vd k0 n p (F :: r) cs) (ho : 2 ≤ F.ki → r ≠ []) (he : goF n B F r cs p = .inl e) (h : E e) : W 1 p (F :: r) cs := by
  refine hC p F r cs hV ho (fun e' h' => ?_) (fun t1 p1 f1 c1 h' => ?_)
  · rw [he] at h'; cases h'; exact h
  · rw [he] at h'; cases h'
theorem sg_4 {s : Int} (h : tk n B p = 4) : ¬ sg n B p s := fun w => by have := w.1; omega
/-- closes ( or a pair -/
theorem w_close (hC : Cl1 n B k0 W E) (hV : Vd k0 n p (F :: r) cs) (hk : F.ki = 2 ∨ F.ki = 4) (hr : r ≠ []) (ha : ¬ ari n B p) (kE : ¬ sg n B p 41 → E (1, (tsp n B p : Int))) (kW : sg n B p 41 → W 1 (te n B p) r (cs ++ F.os ++ (if F.ki = 4 then [F.pa] else []))) : W 1 p (F :: r) cs := by
  by_cases h4 : tk n B p = 4
  · exact st1E hC hV (fun _ => hr) (if_pos h4) (kE (sg_4 h4))
  have e0 : goF n B F r cs p = (if sg n B p (if F.ki = 5 then 93 else 41) then .inr (1, te n B p, pop2 F r, cs ++ joT 1 F.os ++ (if F.ki = 4 then [F.pa] else [])) else .inl (1, (tq n B p : Int))) := by
    unfold goF
    rw [if_neg h4, if_neg (fun w => ha w.2), if_neg (fun w => by have := w.1; unfold tst at this; omega), if_neg (fun w => by have := w.1; unfold tst at this; omega), if_neg (fun w => by have := w.1; unfold tst at this; omega), if_neg (by omega), if_neg (by omega)]
  rw [if_neg (show ¬ F.ki = 5 by omega)] at e0
  by_cases hs : sg n B p 41
  · rw [if_pos hs, jo_1.1, show pop2 F r = r from if_neg (by omega)] at e0
    exact st1 hC hV (fun _ => hr) e0 (kW hs)
  · rw [if_neg hs] at e0
    exact st1E hC hV (fun _ => hr) e0 (by rw [← tsp_q h4]; exact kE hs)
theorem w_comma3 (hC : Cl1 n B k0 W E) (hV : Vd k0 n p (F :: r) cs) (hk : F.ki = 3) (hr : r ≠ []) (ha : ¬ ari n B p) (kE : ¬ sg n B p 44 → E (1, (tsp n B p : Int))) (kW : sg n B p 44 → W 0 (te n B p) ((mkF 4 0 F.bg F.pa []) :: r) (cs ++ F.os)) : W 1 p (F :: r) cs := by
  by_cases h4 : tk n B p = 4
  · exact st1E hC hV (fun _ => hr) (if_pos h4) (kE (sg_4 h4))
  have e0 : goF n B F r cs p = (if sg n B p 44 then .inr (0, te n B p, (mkF ((if F.ki = 3 then 4 else 3)) 0 F.bg F.pa (joD 1 F.os)) :: r, cs ++ joT 1 F.os) else .inl (1, (tq n B p : Int))) := by
    unfold goF
    rw [if_neg h4, if_neg (fun w => ha w.2), if_neg (fun w => by have := w.1; unfold tst at this; omega), if_neg (fun w => by have := w.1; unfold tst at this; omega), if_neg (fun w => by have := w.1; unfold tst at this; omega), if_neg (by omega), if_pos (Or.inl hk)]
  by_cases hs : sg n B p 44
  · rw [if_pos hs, jo_1.1, jo_1.2, if_pos hk] at e0
    exact st1 hC hV (fun _ => hr) e0 (kW hs)
  · rw [if_neg hs] at e0
    exact st1E hC hV (fun _ => hr) e0 (by rw [← tsp_q h4]; exact kE hs)
/-- a test has ended: the next sign is none of its own -/
abbrev tEnd (n : Nat) (B : Nat → Int) (p : Nat) (φ : Int) : Prop := (φ = 1 ∨ φ = 2) ∧ (φ = 1 → ¬ ari n B p) ∧ tw n B p ≠ 24 ∧ tw n B p ≠ 23
theorem go_test (h4 : tk n B p ≠ 4) (ht : tst F) (he : tEnd n B p F.ph) : goF n B F r cs p = (if F.ki < 2 then .inr (2, p, (mkF F.ki F.ph F.bg F.pa (joD 1 F.os)) :: r, cs ++ joT 1 F.os)
  else if F.ki = 3 ∨ F.ki = 6 then (if sg n B p 44 then .inr (0, te n B p, (mkF ((if F.ki = 3 then 4 else 3)) 0 F.bg F.pa (joD 1 F.os)) :: r, cs ++ joT 1 F.os) else .inl (1, (tq n B p : Int)))
  else if sg n B p (if F.ki = 5 then 93 else 41) then .inr (1, te n B p, pop2 F r, cs ++ joT 1 F.os ++ (if F.ki = 4 then [F.pa] else [])) else .inl (1, (tq n B p : Int))) := by
  obtain ⟨e1, e2, e3, e4⟩ := he
  unfold goF
  rw [if_neg h4, if_neg (fun w => by
    rcases e1 with e | e
    · exact e2 e w.2
    · have := w.1; omega), if_neg (fun w => by have := w.2.1; omega), if_neg (fun w => by have := w.2; omega), if_neg (fun w => by have := w.2; omega)]
theorem w_comma6 (hC : Cl1 n B k0 W E) (hV : Vd k0 n p (F :: r) cs) (hk : F.ki = 6) (hr : r ≠ []) (he : tEnd n B p F.ph) (kE : ¬ sg n B p 44 → E (1, (tsp n B p : Int))) (kW : sg n B p 44 → W 0 (te n B p) ((mkF 3 0 F.bg F.pa []) :: r) (cs ++ F.os)) : W 1 p (F :: r) cs := by
  by_cases h4 : tk n B p = 4
  · exact st1E hC hV (fun _ => hr) (if_pos h4) (kE (sg_4 h4))
  have e0 := go_test (r := r) (cs := cs) h4 (Or.inr (Or.inr hk)) he
  rw [if_neg (by omega), if_pos (Or.inr hk)] at e0
  by_cases hs : sg n B p 44
  · rw [if_pos hs, jo_1.1, jo_1.2, if_neg (by omega)] at e0
    exact st1 hC hV (fun _ => hr) e0 (kW hs)
  · rw [if_neg hs] at e0
    exact st1E hC hV (fun _ => hr) e0 (by rw [← tsp_q h4]; exact kE hs)
theorem w_close5 {G : Fm} (hC : Cl1 n B k0 W E) (hV : Vd k0 n p (F :: G :: r) cs) (hk : F.ki = 5) (he : tEnd n B p F.ph) (kE : ¬ sg n B p 93 → E (1, (tsp n B p : Int))) (kW : sg n B p 93 → W 1 (te n B p) ((mkF G.ki 2 G.bg G.pa G.os) :: r) (cs ++ F.os)) : W 1 p (F :: G :: r) cs := by
  have hr : G :: r ≠ [] := List.cons_ne_nil _ _
  by_cases h4 : tk n B p = 4
  · exact st1E hC hV (fun _ => hr) (if_pos h4) (kE (sg_4 h4))
  have e0 := go_test (r := G :: r) (cs := cs) h4 (Or.inr (Or.inl hk)) he
  rw [if_neg (by omega), if_neg (by omega), if_pos hk] at e0
  by_cases hs : sg n B p 93
  · rw [if_pos hs, jo_1.1, if_neg (by omega), List.append_nil, show pop2 F (G :: r) = (mkF G.ki 2 G.bg G.pa G.os) :: r from if_pos hk] at e0
    exact st1 hC hV (fun _ => hr) e0 (kW hs)
  · rw [if_neg hs] at e0
    exact st1E hC hV (fun _ => hr) e0 (by rw [← tsp_q h4]; exact kE hs)
theorem w_ari {O' : List Int} {l : Nat} {v : Int} {G : Fm} (hC : Cl1 n B k0 W E) (hV : Vd k0 n p ((mkF G.ki G.ph G.bg G.pa (O' ++ G.os)) :: r) cs) (ho : 2 ≤ G.ki → r ≠ []) (hph : G.ph < 2) (ha : ari n B p) (hl : arL n B p = l) (hv : arO n B p = v) (h1 : ∀ v ∈ O', l ≤ rnk v) (h2 : hdl l G.os) (kW : W 0 (te n B p) ((mkF G.ki G.ph G.bg G.pa (v :: G.os)) :: r) (cs ++ O')) : W 1 p ((mkF G.ki G.ph G.bg G.pa (O' ++ G.os)) :: r) cs := by
  have h4 : tk n B p ≠ 4 := by
    rcases ha with h | h | h | h | h <;> (have := h.1; omega)
  have hj := jo_app h1 h2
  refine st1 hC hV ho (t := 0) (p' := te n B p) (fs' := (mkF G.ki G.ph G.bg G.pa (v :: G.os)) :: r) (cs' := cs ++ O') ?_ kW
  unfold goF
  rw [if_neg h4, if_pos ⟨hph, ha⟩, hl, hv]
  show Sum.inr (0, te n B p, (mkF G.ki G.ph G.bg G.pa (v :: joD l (O' ++ G.os))) :: r, cs ++ joT l (O' ++ G.os)) = _
  rw [hj.1, hj.2]
theorem w_cmp {O' : List Int} {G : Fm} (hC : Cl1 n B k0 W E) (hV : Vd k0 n p ((mkF G.ki G.ph G.bg G.pa (O' ++ G.os)) :: r) cs) (ho : 2 ≤ G.ki → r ≠ []) (ht : tst G) (hph : G.ph = 0) (ha : ¬ ari n B p) (h1 : ∀ v ∈ O', 5 ≤ rnk v) (h2 : hdl 5 G.os) (kE : ¬ (tk n B p = 3 ∧ (tv n B p = 60 ∨ tv n B p = 62 ∨ tv n B p = 61)) → E (1, (tsp n B p : Int))) (kW : (tk n B p = 3 ∧ (tv n B p = 60 ∨ tv n B p = 62 ∨ tv n B p = 61)) → W 0 (te n B p) ((mkF G.ki 1 G.bg G.pa (cmO n B p :: G.os)) :: r) (cs ++ O')) : W 1 p ((mkF G.ki G.ph G.bg G.pa (O' ++ G.os)) :: r) cs := by
  have hj := jo_app h1 h2
  by_cases h4 : tk n B p = 4
  · exact st1E hC hV ho (if_pos h4) (kE (fun w => by have := w.1; omega))
  by_cases hc : cmpS n B p
  · refine st1 hC hV ho (t := 0) (p' := te n B p) (fs' := (mkF G.ki 1 G.bg G.pa (cmO n B p :: G.os)) :: r) (cs' := cs ++ O') ?_ (kW ?_)
    · unfold goF
      rw [if_neg h4, if_neg (fun w => ha w.2), if_pos ⟨ht, hph, hc⟩]
      show Sum.inr (0, te n B p, (mkF G.ki 1 G.bg G.pa (cmO n B p :: joD 5 (O' ++ G.os))) :: r, cs ++ joT 5 (O' ++ G.os)) = _
      rw [hj.1, hj.2]
    · rcases hc with h | h | h
      · exact ⟨h.1, Or.inl h.2⟩
      · exact ⟨h.1, Or.inr (Or.inl h.2)⟩
      · exact ⟨h.1, Or.inr (Or.inr h.2)⟩
  · have hE := kE (fun w => hc (by
      rcases w.2 with h | h | h
      · exact Or.inl ⟨w.1, h⟩
      · exact Or.inr (Or.inl ⟨w.1, h⟩)
      · exact Or.inr (Or.inr ⟨w.1, h⟩)))
    rw [tsp_q h4] at hE
    refine st1E hC hV ho (e := (1, (tq n B p : Int))) ?_ hE
    unfold goF
    rw [if_neg h4, if_neg (fun w => ha w.2), if_neg (fun w => hc w.2.2)]
    by_cases hao : tst (mkF G.ki G.ph G.bg G.pa (O' ++ G.os)) ∧ (tw n B p = 24 ∨ tw n B p = 23)
    · rw [if_pos hao, if_pos hph]
    · rw [if_neg hao, if_pos ⟨ht, hph⟩]
theorem w_ao {O' : List Int} {l : Nat} {v : Int} {φ : Int} {G : Fm} (hC : Cl1 n B k0 W E) (hV : Vd k0 n p ((mkF G.ki φ G.bg G.pa (O' ++ G.os)) :: r) cs) (ho : 2 ≤ G.ki → r ≠ []) (ht : tst G) (hφ : φ = 1 ∨ φ = 2) (hw : (tw n B p = 24 ∧ l = 2 ∧ v = -12) ∨ (tw n B p = 23 ∧ l = 1 ∧ v = -11)) (h1 : ∀ v ∈ O', l ≤ rnk v) (h2 : hdl l G.os) (kW : W 0 (te n B p) ((mkF G.ki 0 1 G.pa (v :: G.os)) :: r) (cs ++ O')) : W 1 p ((mkF G.ki φ G.bg G.pa (O' ++ G.os)) :: r) cs := by
  have h1k : tk n B p = 1 := by
    rcases hw with h | h
    · exact tw_1 h.1 (by decide)
    · exact tw_1 h.1 (by decide)
  have hj := jo_app h1 h2
  refine st1 hC hV ho (t := 0) (p' := te n B p) (fs' := (mkF G.ki 0 1 G.pa (v :: G.os)) :: r) (cs' := cs ++ O') ?_ kW
  unfold goF
  rw [if_neg (by omega), if_neg (fun w => by
    rcases w.2 with h | h | h | h | h <;> (have := h.1; omega)), if_neg (fun w => by
    rcases w.2.2 with h | h | h <;> (have := h.1; omega)), if_pos ⟨ht, by omega⟩, if_neg (show ¬ φ = 0 by omega)]
  show Sum.inr (0, te n B p, (mkF G.ki 0 1 G.pa ((if tw n B p = 24 then -12 else -11) :: joD (if tw n B p = 24 then 2 else 1) (O' ++ G.os))) :: r, cs ++ joT (if tw n B p = 24 then 2 else 1) (O' ++ G.os)) = _
  rcases hw with ⟨a, b, c⟩ | ⟨a, b, c⟩
  · rw [if_pos a, if_pos a]
    subst b
    subst c
    rw [hj.1, hj.2]
  · rw [if_neg (by omega), if_neg (by omega)]
    subst b
    subst c
    rw [hj.1, hj.2]
end SIM
