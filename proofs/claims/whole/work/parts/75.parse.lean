/-! ===== the formulas, read: the pure reading ===== -/
abbrev Res := Sum (Int × Int) (Nat × List Int)
def bnd (r : Res) (g : Nat → Res) : Res := match r with
  | .inl e => .inl e
  | .inr (p, c) => match g p with
    | .inl e => .inl e
    | .inr (p', c') => .inr (p', c ++ c')
def emi (r : Res) (x : Int) : Res := match r with
  | .inl e => .inl e
  | .inr (p, c) => .inr (p, c ++ [x])
abbrev sg (n : Nat) (B : Nat → Int) (p : Nat) (s : Int) : Prop := tk n B p = 3 ∧ tv n B p = s
def nee (n : Nat) (B : Nat → Int) (r : Res) (s : Int) : Res := match r with
  | .inl e => .inl e
  | .inr (p, c) => if sg n B p s then .inr (te n B p, c) else .inl (1, (tsp n B p : Int))
def seW (k : Nat) : Int := [16, 11, 12, 17, 18, 19, 20, 21].getD k 0
section PRS
variable (n : Nat) (B : Nat → Int) (se : Nat)
noncomputable def seeF (p : Nat) : Nat → Nat → Res
  | 0, _ => .inl (1, (tsp n B p : Int))
  | f + 1, k => if se / 2 ^ k % 2 = 1 ∧ tw n B p = seW k then .inr (te n B p, [-1 - (k : Int)]) else seeF p f (k + 1)
def pPair (R : Nat → Nat → Nat → Res) (d p : Nat) (x : Int) : Res :=
  if sg n B p 40 then (if d < 7 then emi (nee n B (bnd (nee n B (R 3 (d + 1) (te n B p)) 44) (R 3 (d + 1))) 41) x else .inl (5, (tq n B p : Int))) else .inl (1, (tsp n B p : Int))
def pIf (R : Nat → Nat → Nat → Res) (d p : Nat) : Res :=
  if sg n B p 40 then (if d < 7 then emi (nee n B (bnd (nee n B (bnd (nee n B (R 0 (d + 1) (te n B p)) 44) (R 3 (d + 1))) 44) (R 3 (d + 1))) 41) (-10) else .inl (5, (tq n B p : Int))) else .inl (1, (tsp n B p : Int))
noncomputable def pPart (R : Nat → Nat → Nat → Res) (d p : Nat) : Res :=
  if tk n B p = 2 then .inr (te n B p, [tv n B p])
  else if sg n B p 40 then (if d < 7 then nee n B (R 3 (d + 1) (te n B p)) 41 else .inl (5, (tq n B p : Int)))
  else if tw n B p = 27 then pPair n B R d (te n B p) (-21)
  else if tw n B p = 28 then pPair n B R d (te n B p) (-22)
  else if tw n B p = 22 then pIf n B R d (te n B p)
  else seeF n B se p 8 0
def cmpr (R : Nat → Nat → Nat → Res) (d : Nat) (r : Res) : Res := match r with
  | .inl e => .inl e
  | .inr (q, c) => if tk n B q = 3 ∧ (tv n B q = 60 ∨ tv n B q = 62 ∨ tv n B q = 61) then emi (bnd (.inr (te n B q, c)) (R 3 d)) (if tv n B q = 60 then -13 else if tv n B q = 62 then -14 else -15) else .inl (1, (tsp n B q : Int))
noncomputable def pFact (R : Nat → Nat → Nat → Res) (d p : Nat) : Res :=
  if tw n B p = 25 then (if d < 7 then emi (R 2 (d + 1) (te n B p)) (-9) else .inl (5, (tq n B p : Int)))
  else if sg n B p 91 then (if d < 7 then nee n B (R 0 (d + 1) (te n B p)) 93 else .inl (5, (tq n B p : Int)))
  else if tw n B p = 26 then .inr (te n B p, [1])
  else cmpr n B R d (R 3 d p)
noncomputable def pLo6 (R : Nat → Nat → Nat → Res) (d p : Nat) : Res := if tw n B p = 23 then bnd (emi (R 1 d (te n B p)) (-11)) (R 6 d) else .inr (p, [])
noncomputable def pLo7 (R : Nat → Nat → Nat → Res) (d p : Nat) : Res := if tw n B p = 24 then bnd (emi (R 2 d (te n B p)) (-12)) (R 7 d) else .inr (p, [])
noncomputable def pLo8 (R : Nat → Nat → Nat → Res) (d p : Nat) : Res :=
  if sg n B p 43 then bnd (emi (R 4 d (te n B p)) (-16)) (R 8 d)
  else if sg n B p 45 then bnd (emi (R 4 d (te n B p)) (-17)) (R 8 d) else .inr (p, [])
noncomputable def pLo9 (R : Nat → Nat → Nat → Res) (d p : Nat) : Res :=
  if sg n B p 42 then bnd (emi (R 5 d (te n B p)) (-18)) (R 9 d)
  else if sg n B p 47 then bnd (emi (R 5 d (te n B p)) (-19)) (R 9 d)
  else if sg n B p 37 then bnd (emi (R 5 d (te n B p)) (-20)) (R 9 d) else .inr (p, [])
/-- modes: 0 test, 1 both, 2 fact, 3 sum, 4 product, 5 part, 6..9 the rests -/
noncomputable def P : Nat → Nat → Nat → Nat → Res
  | 0, _, _, _ => .inl (0, 0)
  | f + 1, m, d, p => match m with
    | 0 => bnd (P f 1 d p) (P f 6 d)
    | 1 => bnd (P f 2 d p) (P f 7 d)
    | 2 => pFact n B (P f) d p
    | 3 => bnd (P f 4 d p) (P f 8 d)
    | 4 => bnd (P f 5 d p) (P f 9 d)
    | 5 => pPart n B se (P f) d p
    | 6 => pLo6 n B (P f) d p
    | 7 => pLo7 n B (P f) d p
    | 8 => pLo8 n B (P f) d p
    | _ => pLo9 n B (P f) d p
end PRS
theorem bnd_inl {e : Int × Int} {g : Nat → Res} : bnd (.inl e) g = .inl e := rfl
theorem bnd_nil {p : Nat} {g : Nat → Res} : bnd (.inr (p, [])) g = g p := by
  unfold bnd
  show (match g p with | .inl e => (.inl e : Res) | .inr (p', c') => .inr (p', [] ++ c')) = g p
  cases h : g p with
  | inl e => rfl
  | inr x => rfl
theorem bnd_assoc {r : Res} {g h : Nat → Res} : bnd (bnd r g) h = bnd r (fun p => bnd (g p) h) := by
  cases r with
  | inl e => rfl
  | inr x =>
    obtain ⟨p, c⟩ := x
    unfold bnd
    show _ = _
    cases h1 : g p with
    | inl e => simp only [h1]
    | inr y =>
      obtain ⟨p1, c1⟩ := y
      cases h2 : h p1 with
      | inl e => simp only [h1, h2]
      | inr z =>
        obtain ⟨p2, c2⟩ := z
        simp only [h1, h2, List.append_assoc]
theorem bnd_ret {r : Res} : bnd r (fun p => .inr (p, [])) = r := by
  cases r with
  | inl e => rfl
  | inr x => exact congrArg Sum.inr (by show (x.1, x.2 ++ []) = x; rw [List.append_nil])
theorem bnd_emi {r : Res} {g : Nat → Res} {x : Int} : emi (bnd r g) x = bnd r (fun p => emi (g p) x) := by
  cases r with
  | inl e => rfl
  | inr y =>
    obtain ⟨p, c⟩ := y
    unfold bnd
    cases h1 : g p with
    | inl e => simp only [h1, emi]
    | inr y =>
      obtain ⟨p1, c1⟩ := y
      simp only [h1, emi, List.append_assoc]
theorem bnd_nee {n : Nat} {B : Nat → Int} {r : Res} {g : Nat → Res} {x : Int} : nee n B (bnd r g) x = bnd r (fun p => nee n B (g p) x) := by
  cases r with
  | inl e => rfl
  | inr y =>
    obtain ⟨p, c⟩ := y
    unfold bnd
    cases h1 : g p with
    | inl e => simp only [h1, nee]
    | inr y =>
      obtain ⟨p1, c1⟩ := y
      by_cases hs : sg n B p1 x
      · simp only [h1, nee, if_pos hs]
      · simp only [h1, nee, if_neg hs]
theorem bnd_cmpr {n : Nat} {B : Nat → Int} {r : Res} {g : Nat → Res} {R : Nat → Nat → Nat → Res} {d : Nat} : cmpr n B R d (bnd r g) = bnd r (fun p => cmpr n B R d (g p)) := by
  cases r with
  | inl e => rfl
  | inr y =>
    obtain ⟨p, c⟩ := y
    unfold bnd
    cases h1 : g p with
    | inl e => simp only [h1, cmpr]
    | inr y =>
      obtain ⟨p1, c1⟩ := y
      by_cases hs : tk n B p1 = 3 ∧ (tv n B p1 = 60 ∨ tv n B p1 = 62 ∨ tv n B p1 = 61)
      · simp only [h1, cmpr, if_pos hs]
        cases h2 : R 3 d (te n B p1) with
        | inl e => simp only [bnd, h2, emi]
        | inr z => simp only [bnd, h2, emi, List.append_assoc]
      · simp only [h1, cmpr, if_neg hs]
theorem te_gp {n : Nat} {B : Nat → Int} {p : Nat} (h : tk n B p = 1 ∨ tk n B p = 2 ∨ tk n B p = 3) : p + 1 ≤ te n B p ∧ te n B p ≤ n := by
  have h1 := te_gt h
  have h2 := tq_ge (n := n) (B := B) (p := p)
  omega
/-- it stays within the text -/
def Ro (a b n : Nat) (r : Res) : Prop := ∀ p c, r = .inr (p, c) → a + c.length ≤ p ∧ b ≤ p ∧ p ≤ n
theorem ro_inl {a b n : Nat} {e : Int × Int} : Ro a b n (.inl e) := fun _ _ h => by cases h
theorem ro_inr {a b n p : Nat} {c : List Int} (h : a + c.length ≤ p ∧ b ≤ p ∧ p ≤ n) : Ro a b n (.inr (p, c)) := fun p' c' e => by
  cases e
  exact h
theorem Ro.w {a b a' b' n : Nat} {r : Res} (h : Ro a b n r) (ha : a' ≤ a) (hb : b' ≤ b) : Ro a' b' n r := fun p c e => by
  have := h p c e
  omega
theorem ro_bnd {a b n : Nat} {r : Res} {g : Nat → Res} (h : Ro a b n r) (hg : ∀ p, p ≤ n → Ro p p n (g p)) : Ro a b n (bnd r g) := by
  cases r with
  | inl e => exact ro_inl
  | inr x =>
    obtain ⟨p, c⟩ := x
    have h1 := h p c rfl
    intro p' c' e
    change (match g p with | .inl e => (.inl e : Res) | .inr (p', c') => .inr (p', c ++ c')) = .inr (p', c') at e
    have h2 := hg p h1.2.2
    cases hh : g p with
    | inl e' => rw [hh] at e; cases e
    | inr y =>
      obtain ⟨p1, c1⟩ := y
      rw [hh] at e h2
      cases e
      have h3 := h2 _ _ rfl
      rw [List.length_append]
      omega
theorem ro_bnd1 {a b n : Nat} {r : Res} {g : Nat → Res} (h : Ro a b n r) (hg : ∀ p, p ≤ n → Ro p (p + 1) n (g p)) : Ro a (b + 1) n (bnd r g) := by
  cases r with
  | inl e => exact ro_inl
  | inr x =>
    obtain ⟨p, c⟩ := x
    have h1 := h p c rfl
    intro p' c' e
    change (match g p with | .inl e => (.inl e : Res) | .inr (p', c') => .inr (p', c ++ c')) = .inr (p', c') at e
    have h2 := hg p h1.2.2
    cases hh : g p with
    | inl e' => rw [hh] at e; cases e
    | inr y =>
      obtain ⟨p1, c1⟩ := y
      rw [hh] at e h2
      cases e
      have h3 := h2 _ _ rfl
      rw [List.length_append]
      omega
theorem ro_emi {a b n : Nat} {r : Res} {x : Int} (h : Ro (a + 1) b n r) : Ro a b n (emi r x) := by
  cases r with
  | inl e => exact ro_inl
  | inr y =>
    obtain ⟨p, c⟩ := y
    have h1 := h p c rfl
    refine ro_inr ?_
    rw [List.length_append, List.length_singleton]
    omega
theorem ro_te {a b n : Nat} {B : Nat → Int} {p : Nat} {c : List Int} (h : Ro a b n (.inr (p, c))) (hk : tk n B p = 1 ∨ tk n B p = 2 ∨ tk n B p = 3) : Ro (a + 1) (b + 1) n (.inr (te n B p, c)) := by
  have h1 := h p c rfl
  have h2 := te_gp hk
  exact ro_inr (by omega)
theorem ro_nee {a b n : Nat} {B : Nat → Int} {r : Res} {s : Int} (h : Ro a b n r) : Ro (a + 1) (b + 1) n (nee n B r s) := by
  cases r with
  | inl e => exact ro_inl
  | inr y =>
    obtain ⟨p, c⟩ := y
    unfold nee
    show Ro (a + 1) (b + 1) n (if sg n B p s then .inr (te n B p, c) else .inl (1, (tsp n B p : Int)))
    by_cases hs : sg n B p s
    · rw [if_pos hs]
      exact ro_te h (Or.inr (Or.inr hs.1))
    · rw [if_neg hs]
      exact ro_inl
theorem ro_see {n : Nat} {B : Nat → Int} {se p : Nat} (hp : p ≤ n) : ∀ f k, k + f = 8 → Ro p (p + 1) n (seeF n B se p f k) := by
  intro f
  induction f with
  | zero => intro k _; exact ro_inl
  | succ f ih =>
    intro k hk
    show Ro p (p + 1) n (if se / 2 ^ k % 2 = 1 ∧ tw n B p = seW k then .inr (te n B p, [-1 - (k : Int)]) else seeF n B se p f (k + 1))
    by_cases h : se / 2 ^ k % 2 = 1 ∧ tw n B p = seW k
    · rw [if_pos h]
      have hs : ∀ k : Fin 8, 0 ≤ seW k.val := by decide
      have hw : tk n B p = 1 := tw_1 h.2 (hs ⟨k, by omega⟩)
      have := te_gp (Or.inl hw : tk n B p = 1 ∨ tk n B p = 2 ∨ tk n B p = 3)
      exact ro_inr (by rw [List.length_singleton]; omega)
    · rw [if_neg h]
      exact ih (k + 1) (by omega)
abbrev RR (n : Nat) (R : Nat → Nat → Nat → Res) : Prop := ∀ m d p, p ≤ n → Ro p p n (R m d p) ∧ (m < 6 → Ro p (p + 1) n (R m d p))
section RRS
variable {n : Nat} {B : Nat → Int} {se : Nat} {R : Nat → Nat → Nat → Res} {d p : Nat}
theorem rr_at (hR : RR n R) (m : Nat) (hm : m < 6) (h : tk n B p = 1 ∨ tk n B p = 2 ∨ tk n B p = 3) (d : Nat) : Ro (p + 1) (p + 2) n (R m d (te n B p)) := by
  have h1 := te_gp h
  exact ((hR m d _ h1.2).2 hm).w h1.1 (by omega)
theorem tw_c {w : Int} (hw : 0 ≤ w) (h : tw n B p = w) : tk n B p = 1 ∨ tk n B p = 2 ∨ tk n B p = 3 := Or.inl (tw_1 h hw)
theorem sg_c {s : Int} (h : sg n B p s) : tk n B p = 1 ∨ tk n B p = 2 ∨ tk n B p = 3 := Or.inr (Or.inr h.1)
theorem ro_pair (hR : RR n R) {x : Int} : Ro p (p + 1) n (pPair n B R d p x) := by
  unfold pPair
  split
  · rename_i h
    split
    · refine (ro_emi (a := p + 2) (b := p + 3) ?_).w (by omega) (by omega)
      refine (ro_nee (a := p + 2) (b := p + 2) ?_)
      refine ro_bnd ?_ (fun q hq => (hR _ _ q hq).1)
      exact (ro_nee (rr_at hR 3 (by decide) (sg_c h) _)).w (by omega) (by omega)
    · exact ro_inl
  · exact ro_inl
theorem ro_if (hR : RR n R) : Ro p (p + 1) n (pIf n B R d p) := by
  unfold pIf
  split
  · rename_i h
    split
    · refine (ro_emi (a := p + 2) (b := p + 3) ?_).w (by omega) (by omega)
      refine (ro_nee (a := p + 2) (b := p + 2) ?_)
      refine ro_bnd ?_ (fun q hq => (hR _ _ q hq).1)
      refine (ro_nee (a := p + 2) (b := p + 2) ?_).w (by omega) (by omega)
      refine ro_bnd ?_ (fun q hq => (hR _ _ q hq).1)
      exact (ro_nee (rr_at hR 0 (by decide) (sg_c h) _)).w (by omega) (by omega)
    · exact ro_inl
  · exact ro_inl
theorem ro_part (hR : RR n R) (hp : p ≤ n) : Ro p (p + 1) n (pPart n B se R d p) := by
  unfold pPart
  split
  · rename_i h
    have h1 := te_gp (Or.inr (Or.inl h) : tk n B p = 1 ∨ tk n B p = 2 ∨ tk n B p = 3)
    exact ro_inr (by rw [List.length_singleton]; omega)
  · split
    · rename_i h
      split
      · exact (ro_nee (rr_at hR 3 (by decide) (sg_c h) _)).w (by omega) (by omega)
      · exact ro_inl
    · split
      · rename_i h
        exact (ro_pair hR).w (by have := te_gp (tw_c (by decide) h); omega) (by have := te_gp (tw_c (by decide) h); omega)
      · split
        · rename_i h
          exact (ro_pair hR).w (by have := te_gp (tw_c (by decide) h); omega) (by have := te_gp (tw_c (by decide) h); omega)
        · split
          · rename_i h
            exact (ro_if hR).w (by have := te_gp (tw_c (by decide) h); omega) (by have := te_gp (tw_c (by decide) h); omega)
          · exact ro_see hp 8 0 rfl
theorem ro_cmpr {a b : Nat} {r : Res} (hR : RR n R) (h : Ro a b n r) : Ro a b n (cmpr n B R d r) := by
  cases r with
  | inl e => exact ro_inl
  | inr y =>
    obtain ⟨q, c⟩ := y
    unfold cmpr
    show Ro a b n (if tk n B q = 3 ∧ (tv n B q = 60 ∨ tv n B q = 62 ∨ tv n B q = 61) then emi (bnd (.inr (te n B q, c)) (R 3 d)) (if tv n B q = 60 then -13 else if tv n B q = 62 then -14 else -15) else .inl (1, (tsp n B q : Int)))
    split
    · rename_i hh
      refine ro_emi ?_
      refine ro_bnd ?_ (fun q hq => (hR _ _ q hq).1)
      exact (ro_te h (Or.inr (Or.inr hh.1))).w (by omega) (by omega)
    · exact ro_inl
theorem ro_fact (hR : RR n R) (hp : p ≤ n) : Ro p (p + 1) n (pFact n B R d p) := by
  unfold pFact
  split
  · rename_i h
    split
    · exact ro_emi ((rr_at hR 2 (by decide) (tw_c (by decide) h) _).w (by omega) (by omega))
    · exact ro_inl
  · split
    · rename_i h
      split
      · exact (ro_nee (rr_at hR 0 (by decide) (sg_c h) _)).w (by omega) (by omega)
      · exact ro_inl
    · split
      · rename_i h
        have h1 := te_gp (tw_c (by decide) h)
        exact ro_inr (by rw [List.length_singleton]; omega)
      · exact ro_cmpr hR ((hR 3 d p hp).2 (by decide))
theorem ro_loop (hR : RR n R) {m m' : Nat} (hm : m < 6) (h : tk n B p = 1 ∨ tk n B p = 2 ∨ tk n B p = 3) {x : Int} : Ro p p n (bnd (emi (R m d (te n B p)) x) (R m' d)) := by
  refine ro_bnd ?_ (fun q hq => (hR _ _ q hq).1)
  exact ro_emi ((rr_at hR m hm h _).w (by omega) (by omega))
theorem ro_6 (hR : RR n R) (hp : p ≤ n) : Ro p p n (pLo6 n B R d p) := by
  unfold pLo6
  split
  · rename_i h; exact ro_loop hR (by decide) (tw_c (by decide) h)
  · exact ro_inr (by rw [List.length_nil]; omega)
theorem ro_7 (hR : RR n R) (hp : p ≤ n) : Ro p p n (pLo7 n B R d p) := by
  unfold pLo7
  split
  · rename_i h; exact ro_loop hR (by decide) (tw_c (by decide) h)
  · exact ro_inr (by rw [List.length_nil]; omega)
theorem ro_8 (hR : RR n R) (hp : p ≤ n) : Ro p p n (pLo8 n B R d p) := by
  unfold pLo8
  split
  · rename_i h; exact ro_loop hR (by decide) (sg_c h)
  · split
    · rename_i h; exact ro_loop hR (by decide) (sg_c h)
    · exact ro_inr (by rw [List.length_nil]; omega)
theorem ro_9 (hR : RR n R) (hp : p ≤ n) : Ro p p n (pLo9 n B R d p) := by
  unfold pLo9
  split
  · rename_i h; exact ro_loop hR (by decide) (sg_c h)
  · split
    · rename_i h; exact ro_loop hR (by decide) (sg_c h)
    · split
      · rename_i h; exact ro_loop hR (by decide) (sg_c h)
      · exact ro_inr (by rw [List.length_nil]; omega)
theorem ro_P : ∀ f, RR n (P n B se f) := by
  intro f
  induction f with
  | zero => intro m d p _; exact ⟨ro_inl, fun _ => ro_inl⟩
  | succ f ih =>
    intro m d p hp
    have b2 : ∀ m m', m < 6 → Ro p (p + 1) n (bnd (P n B se f m d p) (P n B se f m' d)) := fun m m' hm => ro_bnd ((ih m d p hp).2 hm) (fun q hq => (ih _ _ q hq).1)
    have st : ∀ r, Ro p (p + 1) n r → Ro p p n r ∧ (m < 6 → Ro p (p + 1) n r) := fun r h => ⟨h.w (Nat.le_refl _) (by omega), fun _ => h⟩
    match m with
    | 0 => exact st _ (b2 1 6 (by decide))
    | 1 => exact st _ (b2 2 7 (by decide))
    | 2 => exact st _ (ro_fact ih hp)
    | 3 => exact st _ (b2 4 8 (by decide))
    | 4 => exact st _ (b2 5 9 (by decide))
    | 5 => exact st _ (ro_part ih hp)
    | 6 => exact ⟨ro_6 ih hp, fun h => absurd h (by decide)⟩
    | 7 => exact ⟨ro_7 ih hp, fun h => absurd h (by decide)⟩
    | 8 => exact ⟨ro_8 ih hp, fun h => absurd h (by decide)⟩
    | m + 9 => exact ⟨ro_9 ih hp, fun h => absurd h (by omega)⟩
/-- it has an end -/
def NF (r : Res) : Prop := ∀ e, r ≠ .inl (0, e)
theorem nf_inr {x : Nat × List Int} : NF (.inr x) := fun _ h => by cases h
theorem nf_inl {k e : Int} (hk : k ≠ 0) : NF (.inl (k, e)) := fun _ h => by
  cases h
  exact hk rfl
theorem nf_bnd {r : Res} {g : Nat → Res} (h : NF (bnd r g)) : NF r := by
  cases r with
  | inl e => exact h
  | inr x => exact nf_inr
theorem nf_emi {r : Res} {x : Int} : NF (emi r x) ↔ NF r := by
  cases r with
  | inl e => exact Iff.rfl
  | inr y => exact ⟨fun _ => nf_inr, fun _ => nf_inr⟩
theorem nf_nee {r : Res} {x : Int} : NF (nee n B r x) ↔ NF r := by
  cases r with
  | inl e => exact Iff.rfl
  | inr y =>
    refine ⟨fun _ => nf_inr, fun _ => ?_⟩
    unfold nee
    show NF (if sg n B y.1 x then .inr (te n B y.1, y.2) else .inl (1, (tsp n B y.1 : Int)))
    split
    · exact nf_inr
    · exact nf_inl (by decide)
theorem nf_mk {a b : Nat} {r : Res} {g : Nat → Res} (h : NF r) (hr : Ro a b n r) (hg : ∀ p, b ≤ p → p ≤ n → NF (g p)) : NF (bnd r g) := by
  cases r with
  | inl e => exact h
  | inr x =>
    obtain ⟨p, c⟩ := x
    have h1 := hr p c rfl
    have h2 := hg p h1.2.1 h1.2.2
    unfold bnd
    show NF (match g p with | .inl e => (.inl e : Res) | .inr (p', c') => .inr (p', c ++ c'))
    cases hh : g p with
    | inl e => rw [hh] at h2; exact h2
    | inr y => exact nf_inr
theorem nf_pair (hR : RR n R) (hA : ∀ m d q, p ≤ q → q ≤ n → NF (R m d q)) {x : Int} : NF (pPair n B R d p x) := by
  unfold pPair
  split
  · rename_i h
    have ht := te_gp (sg_c h)
    split
    · refine nf_emi.2 (nf_nee.2 ?_)
      refine nf_mk (a := 0) (b := p) (nf_nee.2 (hA _ _ _ (by omega) ht.2)) ((ro_nee (rr_at hR 3 (by decide) (sg_c h) _)).w (by omega) (by omega)) (fun q h1 h2 => hA _ _ q h1 h2)
    · exact nf_inl (by decide)
  · exact nf_inl (by decide)
theorem nf_if (hR : RR n R) (hA : ∀ m d q, p ≤ q → q ≤ n → NF (R m d q)) : NF (pIf n B R d p) := by
  unfold pIf
  split
  · rename_i h
    have ht := te_gp (sg_c h)
    split
    · refine nf_emi.2 (nf_nee.2 ?_)
      have r1 : Ro p p n (nee n B (R 0 (d + 1) (te n B p)) 44) := (ro_nee (rr_at hR 0 (by decide) (sg_c h) _)).w (by omega) (by omega)
      have r2 : Ro p p n (nee n B (bnd (nee n B (R 0 (d + 1) (te n B p)) 44) (R 3 (d + 1))) 44) := (ro_nee (ro_bnd r1 (fun q hq => (hR _ _ q hq).1))).w (by omega) (by omega)
      refine nf_mk (a := p) (b := p) (nf_nee.2 ?_) r2 (fun q h1 h2 => hA _ _ q h1 h2)
      exact nf_mk (a := p) (b := p) (nf_nee.2 (hA _ _ _ (by omega) ht.2)) r1 (fun q h1 h2 => hA _ _ q h1 h2)
    · exact nf_inl (by decide)
  · exact nf_inl (by decide)
theorem nf_see : ∀ f k, NF (seeF n B se p f k) := by
  intro f
  induction f with
  | zero => intro k; exact nf_inl (by decide)
  | succ f ih =>
    intro k
    show NF (if se / 2 ^ k % 2 = 1 ∧ tw n B p = seW k then .inr (te n B p, [-1 - (k : Int)]) else seeF n B se p f (k + 1))
    split
    · exact nf_inr
    · exact ih _
theorem nf_part (hR : RR n R) (hA : ∀ m d q, p + 1 ≤ q → q ≤ n → NF (R m d q)) : NF (pPart n B se R d p) := by
  unfold pPart
  split
  · exact nf_inr
  · split
    · rename_i h
      have ht := te_gp (sg_c h)
      split
      · exact nf_nee.2 (hA _ _ _ ht.1 ht.2)
      · exact nf_inl (by decide)
    · split
      · rename_i h
        have ht := te_gp (tw_c (by decide) h)
        exact nf_pair hR (fun m d q h1 h2 => hA m d q (by omega) h2)
      · split
        · rename_i h
          have ht := te_gp (tw_c (by decide) h)
          exact nf_pair hR (fun m d q h1 h2 => hA m d q (by omega) h2)
        · split
          · rename_i h
            have ht := te_gp (tw_c (by decide) h)
            exact nf_if hR (fun m d q h1 h2 => hA m d q (by omega) h2)
          · exact nf_see _ _
theorem nf_cmpr {a : Nat} {r : Res} (h : NF r) (hr : Ro a p n r) (hR : RR n R) (hA : ∀ m d q, p ≤ q → q ≤ n → NF (R m d q)) : NF (cmpr n B R d r) := by
  cases r with
  | inl e => exact h
  | inr y =>
    obtain ⟨q, c⟩ := y
    have h1 := hr q c rfl
    unfold cmpr
    show NF (if tk n B q = 3 ∧ (tv n B q = 60 ∨ tv n B q = 62 ∨ tv n B q = 61) then emi (bnd (.inr (te n B q, c)) (R 3 d)) (if tv n B q = 60 then -13 else if tv n B q = 62 then -14 else -15) else .inl (1, (tsp n B q : Int)))
    split
    · rename_i hh
      have ht := te_gp (Or.inr (Or.inr hh.1) : tk n B q = 1 ∨ tk n B q = 2 ∨ tk n B q = 3)
      refine nf_emi.2 ?_
      exact nf_mk (n := n) (a := 0) (b := p) nf_inr ((ro_te hr (Or.inr (Or.inr hh.1))).w (Nat.zero_le _) (by omega)) (fun q h1 h2 => hA _ _ q h1 h2)
    · exact nf_inl (by decide)
theorem nf_fact (hR : RR n R) (hp : p ≤ n) (h3 : ∀ d, NF (R 3 d p)) (hA : ∀ m d q, p + 1 ≤ q → q ≤ n → NF (R m d q)) : NF (pFact n B R d p) := by
  unfold pFact
  split
  · rename_i h
    have ht := te_gp (tw_c (by decide) h)
    split
    · exact nf_emi.2 (hA _ _ _ ht.1 ht.2)
    · exact nf_inl (by decide)
  · split
    · rename_i h
      have ht := te_gp (sg_c h)
      split
      · exact nf_nee.2 (hA _ _ _ ht.1 ht.2)
      · exact nf_inl (by decide)
    · split
      · exact nf_inr
      · exact nf_cmpr (p := p + 1) (h3 d) ((hR 3 d p hp).2 (by decide)) hR hA
theorem nf_loop (hR : RR n R) (hA : ∀ m d q, p + 1 ≤ q → q ≤ n → NF (R m d q)) {m m' : Nat} (hm : m < 6) (h : tk n B p = 1 ∨ tk n B p = 2 ∨ tk n B p = 3) {x : Int} : NF (bnd (emi (R m d (te n B p)) x) (R m' d)) := by
  have ht := te_gp h
  exact nf_mk (n := n) (a := p) (b := p + 1) (nf_emi.2 (hA _ _ _ ht.1 ht.2)) (ro_emi ((rr_at hR m hm h _).w (by omega) (by omega))) (fun q h1 h2 => hA _ _ q h1 h2)
def rk : Nat → Nat
  | 0 => 7
  | 1 => 6
  | 2 => 5
  | 3 => 4
  | 4 => 3
  | 5 => 2
  | _ => 1
theorem rk_le : ∀ m, 1 ≤ rk m ∧ rk m ≤ 7 := by
  intro m
  unfold rk
  split <;> decide
theorem nf_P : ∀ f m d p, p ≤ n → 12 * (n - p) + rk m ≤ f → NF (P n B se f m d p) := by
  intro f
  induction f with
  | zero => intro m d p _ h; have := rk_le m; omega
  | succ f ih =>
    intro m d p hp hf
    have hR := ro_P (n := n) (B := B) (se := se) f
    have hrk := rk_le m
    have hA : ∀ m d q, p + 1 ≤ q → q ≤ n → NF (P n B se f m d q) := fun m' d q h1 h2 => ih m' d q h2 (by have := rk_le m'; omega)
    have two : ∀ m m', m < 6 → 12 * (n - p) + rk m ≤ f → NF (bnd (P n B se f m d p) (P n B se f m' d)) := fun m m' hm h => nf_mk (n := n) (a := p) (b := p + 1) (ih m d p hp h) ((hR m d p hp).2 hm) (fun q h1 h2 => hA _ _ q h1 h2)
    match m with
    | 0 => exact two 1 6 (by decide) (by have e : rk 0 = 7 := rfl; have e' : rk 1 = 6 := rfl; omega)
    | 1 => exact two 2 7 (by decide) (by have e : rk 1 = 6 := rfl; have e' : rk 2 = 5 := rfl; omega)
    | 2 => exact nf_fact hR hp (fun d => ih 3 d p hp (by have e : rk 2 = 5 := rfl; have e' : rk 3 = 4 := rfl; omega)) hA
    | 3 => exact two 4 8 (by decide) (by have e : rk 3 = 4 := rfl; have e' : rk 4 = 3 := rfl; omega)
    | 4 => exact two 5 9 (by decide) (by have e : rk 4 = 3 := rfl; have e' : rk 5 = 2 := rfl; omega)
    | 5 => exact nf_part hR hA
    | 6 =>
      show NF (pLo6 n B (P n B se f) d p)
      unfold pLo6
      split
      · rename_i h; exact nf_loop hR hA (by decide) (tw_c (by decide) h)
      · exact nf_inr
    | 7 =>
      show NF (pLo7 n B (P n B se f) d p)
      unfold pLo7
      split
      · rename_i h; exact nf_loop hR hA (by decide) (tw_c (by decide) h)
      · exact nf_inr
    | 8 =>
      show NF (pLo8 n B (P n B se f) d p)
      unfold pLo8
      split
      · rename_i h; exact nf_loop hR hA (by decide) (sg_c h)
      · split
        · rename_i h; exact nf_loop hR hA (by decide) (sg_c h)
        · exact nf_inr
    | m + 9 =>
      show NF (pLo9 n B (P n B se f) d p)
      unfold pLo9
      split
      · rename_i h; exact nf_loop hR hA (by decide) (sg_c h)
      · split
        · rename_i h; exact nf_loop hR hA (by decide) (sg_c h)
        · split
          · rename_i h; exact nf_loop hR hA (by decide) (sg_c h)
          · exact nf_inr
end RRS
