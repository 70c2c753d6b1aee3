/-! ===== the text: runs, tokens, names ===== -/
abbrev isLet (c : Int) : Prop := 97 ≤ c ∧ c ≤ 122
abbrev isDig (c : Int) : Prop := 48 ≤ c ∧ c ≤ 57
abbrev isBl (c : Int) : Prop := c = 32 ∨ c = 10
def runF (pr : Int → Prop) [DecidablePred pr] (n : Nat) (B : Nat → Int) : Nat → Nat → Nat
  | 0, _ => 0
  | f + 1, q => if q < n ∧ pr (B q) then runF pr n B f (q + 1) + 1 else 0
theorem run_le {pr : Int → Prop} [DecidablePred pr] {n : Nat} {B : Nat → Int} : ∀ f q, runF pr n B f q ≤ f := by
  intro f
  induction f with
  | zero => intro q; exact Nat.le_refl _
  | succ f ih =>
    intro q
    show (if q < n ∧ pr (B q) then runF pr n B f (q + 1) + 1 else 0) ≤ f + 1
    have := ih (q + 1)
    split <;> omega
theorem run_in {pr : Int → Prop} [DecidablePred pr] {n : Nat} {B : Nat → Int} : ∀ f q i, i < runF pr n B f q → q + i < n ∧ pr (B (q + i)) := by
  intro f
  induction f with
  | zero => intro q i hi; exact absurd hi (Nat.not_lt_zero _)
  | succ f ih =>
    intro q i hi
    have e : runF pr n B (f + 1) q = if q < n ∧ pr (B q) then runF pr n B f (q + 1) + 1 else 0 := rfl
    rw [e] at hi
    by_cases h : q < n ∧ pr (B q)
    · rw [if_pos h] at hi
      cases i with
      | zero => exact h
      | succ i =>
        have := ih (q + 1) i (by omega)
        rw [show q + (i + 1) = q + 1 + i by omega]
        exact this
    · rw [if_neg h] at hi
      omega
theorem run_end {pr : Int → Prop} [DecidablePred pr] {n : Nat} {B : Nat → Int} : ∀ f q, runF pr n B f q < f → ¬ (q + runF pr n B f q < n ∧ pr (B (q + runF pr n B f q))) := by
  intro f
  induction f with
  | zero => intro q h; exact absurd h (Nat.not_lt_zero _)
  | succ f ih =>
    intro q
    have e : runF pr n B (f + 1) q = if q < n ∧ pr (B q) then runF pr n B f (q + 1) + 1 else 0 := rfl
    rw [e]
    by_cases h : q < n ∧ pr (B q)
    · rw [if_pos h]
      intro hl
      have := ih (q + 1) (by omega)
      rw [show q + (runF pr n B f (q + 1) + 1) = q + 1 + runF pr n B f (q + 1) by omega]
      exact this
    · rw [if_neg h]
      intro _
      exact h
theorem run_pos {pr : Int → Prop} [DecidablePred pr] {n : Nat} {B : Nat → Int} {f q : Nat} (h : q < n ∧ pr (B q)) : 0 < runF pr n B (f + 1) q := by
  have e : runF pr n B (f + 1) q = if q < n ∧ pr (B q) then runF pr n B f (q + 1) + 1 else 0 := rfl
  rw [e, if_pos h]
  omega
/-- where the token behind p begins -/
def tq (n : Nat) (B : Nat → Int) (p : Nat) : Nat := p + runF isBl n B n p
theorem tq_ge {n : Nat} {B : Nat → Int} {p : Nat} : p ≤ tq n B p := Nat.le_add_right _ _
theorem tq_end {n : Nat} {B : Nat → Int} {p : Nat} : ¬ (tq n B p < n ∧ isBl (B (tq n B p))) := by
  have h1 := run_le (pr := isBl) (n := n) (B := B) n p
  by_cases h : runF isBl n B n p < n
  · exact run_end n p h
  · intro w
    have := w.1
    unfold tq at this
    omega
theorem tq_le {n : Nat} {B : Nat → Int} {p : Nat} (h : p ≤ n) : tq n B p ≤ n := by
  unfold tq
  by_cases e : runF isBl n B n p = 0
  · omega
  · have := (run_in (pr := isBl) (n := n) (B := B) n p (runF isBl n B n p - 1) (by omega)).1
    omega
abbrev pvD (B : Nat → Int) (q : Nat) : Prop := 0 < q ∧ isDig (B (q - 1))
abbrev pvL (B : Nat → Int) (q : Nat) : Prop := 0 < q ∧ isLet (B (q - 1))
def tk (n : Nat) (B : Nat → Int) (p : Nat) : Nat := if n ≤ tq n B p then 0 else if isLet (B (tq n B p)) then (if pvD B (tq n B p) then 4 else if runF isLet n B 7 (tq n B p) = 7 then 4 else 1) else if isDig (B (tq n B p)) then (if pvL B (tq n B p) then 4 else if runF isDig n B 5 (tq n B p) = 5 then 4 else 2) else 3
def tsp (n : Nat) (B : Nat → Int) (p : Nat) : Nat := if tk n B p = 4 then (if isLet (B (tq n B p)) then (if pvD B (tq n B p) then tq n B p else tq n B p + 6) else if pvL B (tq n B p) then tq n B p else tq n B p + 4) else tq n B p
def te (n : Nat) (B : Nat → Int) (p : Nat) : Nat := if tk n B p = 1 then tq n B p + runF isLet n B 7 (tq n B p) else if tk n B p = 2 then tq n B p + runF isDig n B 5 (tq n B p) else if tk n B p = 3 then tq n B p + 1 else tq n B p
def tln (n : Nat) (B : Nat → Int) (p : Nat) : Nat := runF isLet n B 7 (tq n B p)
def tl (n : Nat) (B : Nat → Int) (p : Nat) : Nat → Nat := fun i => if i < tln n B p then (B (tq n B p + i) - 96).toNat else 0
def nv (B : Nat → Int) (q : Nat) : Nat → Int
  | 0 => 0
  | i + 1 => nv B q i * 10 + (B (q + i) - 48)
/-- the value of a name, a number, a sign -/
def tv (n : Nat) (B : Nat → Int) (p : Nat) : Int := if tk n B p = 1 then (e5 (tl n B p) 6 : Int) else if tk n B p = 2 then nv B (tq n B p) (runF isDig n B 5 (tq n B p)) else if tk n B p = 3 then B (tq n B p) else 0
def own5L : List Int := [773395456, 777297171, 412308064, 646234112, 284562016, 690271840, 418419296, 72962304, 220705792, 686817280, 412273664, 773461568, 452442112, 613553760, 438075392, 236327936, 284870656, 777297172, 412307456, 681050112, 117095040, 273980692, 308281344, 522190848, 48365568, 486146048, 46530560, 446103552, 438042624]
def own8L : List Int := [2002874981, 131277443786867, 465624790131, 1936222576, 448545973363, 500135718259, 465725121651, 422608794728, 1718775661, 29807, 1818846579, 512736126322, 1836019566, 491394458995, 7168377, 1734437989, 1752135026, 131277443786868, 1818846836, 7629168, 427071729268, 114784769370228, 26982, 28530, 6385252, 7237492, 6384748, 7170414, 7168376]
def ownLs : List (List Nat) := [[23, 1, 18, 5], [23, 5, 9, 7, 8, 19], [12, 9, 6, 20, 19], [19, 8, 9, 16], [8, 15, 12, 4, 19], [20, 18, 9, 13, 19], [12, 15, 1, 4, 19], [2, 5, 18, 20, 8], [6, 18, 15, 13], [20, 15], [12, 9, 5, 19], [23, 1, 20, 5, 18], [13, 15, 15, 14], [18, 9, 4, 5, 19], [13, 1, 25], [7, 1, 12, 5], [8, 15, 21, 18], [23, 5, 9, 7, 8, 20], [12, 9, 6, 20], [20, 9, 16], [3, 15, 21, 14, 20], [8, 5, 9, 7, 8, 20], [9, 6], [15, 18], [1, 14, 4], [14, 15, 20], [1, 12, 12], [13, 9, 14], [13, 1, 24]]
def own5 (k : Nat) : Int := own5L.getD k 0
def own8 (k : Nat) : Int := own8L.getD k 0
theorem own_all : ∀ k : Fin 29, (1 ≤ (ownLs.getD k.val []).length ∧ (ownLs.getD k.val []).length ≤ 6) ∧ (∀ i : Fin 6, i.val < (ownLs.getD k.val []).length → 1 ≤ (ownLs.getD k.val []).getD i.val 0 ∧ (ownLs.getD k.val []).getD i.val 0 ≤ 26) ∧ own5 k.val = (e5 (fun i => (ownLs.getD k.val []).getD i 0) 6 : Int) ∧ own8 k.val = (e8 (fun i => (ownLs.getD k.val []).getD i 0) (ownLs.getD k.val []).length : Int) := by decide +kernel
theorem own_NR {k : Nat} (hk : k < 29) : NR (own5 k) (own8 k) := by
  obtain ⟨⟨h1, h2⟩, h3, h4, h5⟩ := own_all ⟨k, hk⟩
  refine ⟨(ownLs.getD k []).length, fun i => (ownLs.getD k []).getD i 0, h1, h2, fun i hi => h3 ⟨i, by have : (ownLs.getD k []).length ≤ 6 := h2; omega⟩ hi, fun i hi => ?_, h4, h5⟩
  show (ownLs.getD k []).getD i 0 = 0
  rw [List.getD_eq_getElem?_getD, List.getElem?_eq_none hi]
  rfl
theorem own5_inj : ∀ j k : Fin 29, own5 j.val = own5 k.val → j = k := by decide +kernel
theorem e8_inj {l l' : Nat → Nat} (h : ∀ i, l i ≤ 26) (h' : ∀ i, l' i ≤ 26) : ∀ n n', e8 l n = e8 l' n' → n = n' ∧ ∀ i, i < n → l i = l' i := by
  intro n
  induction n with
  | zero =>
    intro n' e
    cases n' with
    | zero => exact ⟨rfl, fun i hi => absurd hi (Nat.not_lt_zero _)⟩
    | succ n' =>
      have e2 : 0 = e8 l' n' * 256 + (l' n' + 96) := e
      omega
  | succ n ih =>
    intro n' e
    cases n' with
    | zero =>
      have e2 : e8 l n * 256 + (l n + 96) = 0 := e
      omega
    | succ n' =>
      have e2 : e8 l n * 256 + (l n + 96) = e8 l' n' * 256 + (l' n' + 96) := e
      have a1 := h n
      have a2 := h' n'
      obtain ⟨i1, i2⟩ := ih n' (by omega)
      refine ⟨by omega, fun i hi => ?_⟩
      by_cases q : i = n
      · rw [q]
        rw [← i1] at e2 a2
        omega
      · exact i2 i (by omega)
theorem NR_b {n : Nat} {l : Nat → Nat} (h1 : ∀ i, i < n → 1 ≤ l i ∧ l i ≤ 26) (h0 : ∀ i, n ≤ i → l i = 0) : ∀ i, l i ≤ 26 := fun i => by
  by_cases e : i < n
  · exact (h1 i e).2
  · rw [h0 i (by omega)]; omega
theorem NR_inj {a b a' b' : Int} (h : NR a b) (h' : NR a' b') : a = a' ↔ b = b' := by
  obtain ⟨n, l, n1, n6, l1, l0, v5, v8⟩ := h
  obtain ⟨n', l', n1', n6', l1', l0', v5', v8'⟩ := h'
  have b1 := NR_b l1 l0
  have b1' := NR_b l1' l0'
  have fin : (∀ i, i < 6 → l i = l' i) → a = a' ∧ b = b' := by
    intro hl
    have hl2 : l = l' := by
      funext i
      by_cases e : i < 6
      · exact hl i e
      · rw [l0 i (by omega), l0' i (by omega)]
    subst hl2
    have hn : n = n' := by
      by_cases e1 : n < n'
      · have := (l1' n e1).1
        rw [l0 n (Nat.le_refl _)] at this
        omega
      · by_cases e2 : n' < n
        · have := (l1 n' e2).1
          rw [l0' n' (Nat.le_refl _)] at this
          omega
        · omega
    subst hn
    exact ⟨by rw [v5, v5'], by rw [v8, v8']⟩
  constructor
  · intro e
    refine (fin (fun i hi => ?_)).2
    have d1 := e5_dig (l := l) (fun i => by have := b1 i; omega) i hi
    have d2 := e5_dig (l := l') (fun i => by have := b1' i; omega) i hi
    rw [← v5] at d1
    rw [← v5', ← e, d1] at d2
    omega
  · intro e
    have e2 : e8 l n = e8 l' n' := by omega
    obtain ⟨i1, i2⟩ := e8_inj b1 b1' n n' e2
    refine (fin (fun i hi => ?_)).1
    by_cases q : i < n
    · exact i2 i q
    · rw [l0 i (by omega), l0' i (by omega)]
/-- which own word a token is; -1 for none -/
noncomputable def tw (n : Nat) (B : Nat → Int) (p : Nat) : Int := if tk n B p = 1 then fP (fun k => own5 k = tv n B p) 29 0 else -1
def t8 (n : Nat) (B : Nat → Int) (p : Nat) : Int := (e8 (tl n B p) (tln n B p) : Int)
section TK
variable {n : Nat} {B : Nat → Int} {p : Nat}
theorem tk_1 (h : tk n B p = 1) : tq n B p < n ∧ isLet (B (tq n B p)) ∧ ¬ pvD B (tq n B p) ∧ 1 ≤ tln n B p ∧ tln n B p ≤ 6 := by
  unfold tk at h
  by_cases h1 : n ≤ tq n B p
  · rw [if_pos h1] at h; omega
  · rw [if_neg h1] at h
    by_cases h2 : isLet (B (tq n B p))
    · rw [if_pos h2] at h
      by_cases h3 : pvD B (tq n B p)
      · rw [if_pos h3] at h; omega
      · rw [if_neg h3] at h
        by_cases h4 : runF isLet n B 7 (tq n B p) = 7
        · rw [if_pos h4] at h; omega
        · have h5 := run_le (pr := isLet) (n := n) (B := B) 7 (tq n B p)
          have h6 : 0 < runF isLet n B 7 (tq n B p) := run_pos (pr := isLet) (n := n) (B := B) (f := 6) (q := tq n B p) ⟨by omega, h2⟩
          unfold tln
          exact ⟨by omega, h2, h3, by omega, by omega⟩
    · rw [if_neg h2] at h
      by_cases h3 : isDig (B (tq n B p))
      · rw [if_pos h3] at h
        split at h
        · omega
        · split at h <;> omega
      · rw [if_neg h3] at h; omega
theorem tk_2 (h : tk n B p = 2) : tq n B p < n ∧ isDig (B (tq n B p)) ∧ ¬ pvL B (tq n B p) ∧ 1 ≤ runF isDig n B 5 (tq n B p) ∧ runF isDig n B 5 (tq n B p) ≤ 4 := by
  unfold tk at h
  by_cases h1 : n ≤ tq n B p
  · rw [if_pos h1] at h; omega
  · rw [if_neg h1] at h
    by_cases h2 : isLet (B (tq n B p))
    · rw [if_pos h2] at h
      split at h
      · omega
      · split at h <;> omega
    · rw [if_neg h2] at h
      by_cases h3 : isDig (B (tq n B p))
      · rw [if_pos h3] at h
        by_cases h4 : pvL B (tq n B p)
        · rw [if_pos h4] at h; omega
        · rw [if_neg h4] at h
          by_cases h5 : runF isDig n B 5 (tq n B p) = 5
          · rw [if_pos h5] at h; omega
          · have h6 := run_le (pr := isDig) (n := n) (B := B) 5 (tq n B p)
            have h7 : 0 < runF isDig n B 5 (tq n B p) := run_pos (pr := isDig) (n := n) (B := B) (f := 4) (q := tq n B p) ⟨by omega, h3⟩
            exact ⟨by omega, h3, h4, by omega, by omega⟩
      · rw [if_neg h3] at h; omega
theorem tk_3 (h : tk n B p = 3) : tq n B p < n ∧ ¬ isLet (B (tq n B p)) ∧ ¬ isDig (B (tq n B p)) := by
  unfold tk at h
  by_cases h1 : n ≤ tq n B p
  · rw [if_pos h1] at h; omega
  · rw [if_neg h1] at h
    by_cases h2 : isLet (B (tq n B p))
    · rw [if_pos h2] at h
      split at h
      · omega
      · split at h <;> omega
    · rw [if_neg h2] at h
      by_cases h3 : isDig (B (tq n B p))
      · rw [if_pos h3] at h
        split at h
        · omega
        · split at h <;> omega
      · exact ⟨by omega, h2, h3⟩
theorem tl_in (h : tk n B p = 1) : (∀ i, i < tln n B p → 1 ≤ tl n B p i ∧ tl n B p i ≤ 26) ∧ ∀ i, tln n B p ≤ i → tl n B p i = 0 := by
  refine ⟨fun i hi => ?_, fun i hi => ?_⟩
  · have := (run_in (pr := isLet) (n := n) (B := B) 7 (tq n B p) i hi).2
    unfold isLet at this
    unfold tl
    rw [if_pos hi]
    omega
  · unfold tl
    rw [if_neg (by omega)]
theorem t_NR (h : tk n B p = 1) : NR (tv n B p) (t8 n B p) := by
  obtain ⟨_, _, _, h4, h5⟩ := tk_1 h
  obtain ⟨a1, a2⟩ := tl_in h
  refine ⟨tln n B p, tl n B p, h4, h5, a1, a2, ?_, rfl⟩
  unfold tv
  rw [if_pos h]
theorem tw_iff (h : tk n B p = 1) {k : Nat} (hk : k < 29) : tw n B p = (k : Int) ↔ tv n B p = own5 k := by
  unfold tw
  rw [if_pos h]
  constructor
  · intro e
    obtain ⟨j, f1, _, _, f4, _⟩ := fP_yes (p := fun k => own5 k = tv n B p) 29 0 (by omega)
    have : j = k := by omega
    rw [← this]
    exact f4.symm
  · intro e
    have hne : fP (fun k => own5 k = tv n B p) 29 0 ≠ -1 := fun z => (fP_no 29 0).1 z k (by omega) (by omega) e.symm
    obtain ⟨j, f1, _, f3, f4, _⟩ := fP_yes (p := fun k => own5 k = tv n B p) 29 0 hne
    rw [f1]
    have := own5_inj ⟨j, by omega⟩ ⟨k, hk⟩ (f4.trans e)
    have : j = k := Fin.val_eq_of_eq this
    omega
theorem tw_8 (h : tk n B p = 1) {k : Nat} (hk : k < 29) : tw n B p = (k : Int) ↔ t8 n B p = own8 k := (tw_iff h hk).trans (NR_inj (t_NR h) (own_NR hk))
theorem tw_no : tw n B p = -1 ∨ (tk n B p = 1 ∧ ∃ k : Nat, k < 29 ∧ tw n B p = (k : Int)) := by
  by_cases h : tk n B p = 1
  · by_cases e : fP (fun k => own5 k = tv n B p) 29 0 = -1
    · exact Or.inl (by unfold tw; rw [if_pos h]; exact e)
    · obtain ⟨j, f1, _, f3, _, _⟩ := fP_yes (p := fun k => own5 k = tv n B p) 29 0 e
      exact Or.inr ⟨h, j, by omega, by unfold tw; rw [if_pos h]; exact f1⟩
  · exact Or.inl (by unfold tw; rw [if_neg h])
def okp (n : Nat) (B : Nat → Int) (p : Nat) : Prop := p ≤ n ∧ (0 < p → p < n → ¬ (isLet (B (p - 1)) ∧ isLet (B p)) ∧ ¬ (isDig (B (p - 1)) ∧ isDig (B p)))
theorem te_1 (h : tk n B p = 1) : te n B p = tq n B p + tln n B p := by unfold te tln; rw [if_pos h]
theorem te_2 (h : tk n B p = 2) : te n B p = tq n B p + runF isDig n B 5 (tq n B p) := by unfold te; rw [if_neg (by omega), if_pos h]
theorem te_3 (h : tk n B p = 3) : te n B p = tq n B p + 1 := by unfold te; rw [if_neg (by omega), if_neg (by omega), if_pos h]
theorem te_gt (h : tk n B p = 1 ∨ tk n B p = 2 ∨ tk n B p = 3) : tq n B p < te n B p ∧ te n B p ≤ n := by
  rcases h with h | h | h
  · obtain ⟨_, _, _, h4, _⟩ := tk_1 h
    have := (run_in (pr := isLet) (n := n) (B := B) 7 (tq n B p) (tln n B p - 1) (by unfold tln at h4 ⊢; omega)).1
    rw [te_1 h]
    omega
  · obtain ⟨_, _, _, h4, _⟩ := tk_2 h
    have := (run_in (pr := isDig) (n := n) (B := B) 5 (tq n B p) (runF isDig n B 5 (tq n B p) - 1) (by omega)).1
    rw [te_2 h]
    omega
  · have := (tk_3 h).1
    rw [te_3 h]
    omega
theorem te_ok (h : tk n B p = 1 ∨ tk n B p = 2 ∨ tk n B p = 3) : okp n B (te n B p) := by
  have hg := te_gt h
  refine ⟨hg.2, fun h1 h2 => ?_⟩
  rcases h with h | h | h
  · obtain ⟨_, _, _, h4, h5⟩ := tk_1 h
    have a1 := (run_in (pr := isLet) (n := n) (B := B) 7 (tq n B p) (tln n B p - 1) (by unfold tln at h4 ⊢; omega)).2
    have a2 := run_end (pr := isLet) (n := n) (B := B) 7 (tq n B p) (by unfold tln at h5; omega)
    have e : te n B p = tq n B p + runF isLet n B 7 (tq n B p) := te_1 h
    rw [show tq n B p + (tln n B p - 1) = te n B p - 1 by unfold tln at h4 ⊢; omega] at a1
    rw [← e] at a2
    unfold isLet at *
    unfold isDig
    refine ⟨fun w => a2 ⟨h2, w.2⟩, fun w => ?_⟩
    omega
  · obtain ⟨_, _, _, h4, h5⟩ := tk_2 h
    have a1 := (run_in (pr := isDig) (n := n) (B := B) 5 (tq n B p) (runF isDig n B 5 (tq n B p) - 1) (by omega)).2
    have a2 := run_end (pr := isDig) (n := n) (B := B) 5 (tq n B p) (by omega)
    have e := te_2 h
    rw [show tq n B p + (runF isDig n B 5 (tq n B p) - 1) = te n B p - 1 by omega] at a1
    rw [← e] at a2
    unfold isDig at *
    unfold isLet
    refine ⟨fun w => ?_, fun w => a2 ⟨h2, w.2⟩⟩
    omega
  · obtain ⟨_, h4, h5⟩ := tk_3 h
    have e := te_3 h
    rw [show tq n B p = te n B p - 1 by omega] at h4 h5
    exact ⟨fun w => h4 w.1, fun w => h5 w.1⟩
end TK
