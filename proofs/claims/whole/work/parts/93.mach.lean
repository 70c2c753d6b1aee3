/-! ===== the reference's machine for formulas, pure ===== -/
abbrev Fm := Int × Int × Int × Int × List Int
abbrev mkF (a b c d : Int) (e : List Int) : Fm := (a, b, c, d, e)
abbrev Fm.ki (F : Fm) : Int := F.1
abbrev Fm.ph (F : Fm) : Int := F.2.1
abbrev Fm.bg (F : Fm) : Int := F.2.2.1
abbrev Fm.pa (F : Fm) : Int := F.2.2.2.1
abbrev Fm.os (F : Fm) : List Int := F.2.2.2.2
def rnk (v : Int) : Nat := if v = -11 then 1 else if v = -12 then 2 else if v = -9 then 3 else if v = -13 ∨ v = -14 ∨ v = -15 then 4 else if v = -16 ∨ v = -17 then 5 else 6
def tot : List Fm → Nat
  | [] => 0
  | f :: r => f.os.length + tot r
def ntO : List Int → Nat
  | [] => 0
  | v :: r => (if v = -9 then 1 else 0) + ntO r
def nts : List Fm → Nat
  | [] => 0
  | f :: r => ntO f.os + nts r
/-- how many are open -/
def opN : List Fm → Nat
  | [] => 0
  | f :: r => ntO f.os + nts r + r.length
def joT (l : Nat) (os : List Int) : List Int := os.takeWhile (fun v => decide (l ≤ rnk v))
def joD (l : Nat) (os : List Int) : List Int := os.dropWhile (fun v => decide (l ≤ rnk v))
abbrev tst (f : Fm) : Prop := f.ki = 1 ∨ f.ki = 5 ∨ f.ki = 6
abbrev fst_ (f : Fm) : Prop := tst f ∧ f.bg = 1
abbrev MRs := Sum (Int × Int) (Nat × Nat × List Fm × List Int)
section MAC
variable (n : Nat) (B : Nat → Int) (se : Nat)
noncomputable def opF (F : Fm) (r : List Fm) (cs : List Int) (p : Nat) : MRs :=
  if tk n B p = 4 then .inl (1, (tsp n B p : Int))
  else if fst_ F ∧ tw n B p = 25 then (if opN (F :: r) = 7 then .inl (5, (tq n B p : Int)) else .inr (0, te n B p, (mkF F.ki F.ph F.bg F.pa (-9 :: F.os)) :: r, cs))
  else if fst_ F ∧ sg n B p 91 then (if opN (F :: r) = 7 then .inl (5, (tq n B p : Int)) else .inr (0, te n B p, (mkF 5 0 1 0 []) :: (mkF F.ki F.ph 0 F.pa F.os) :: r, cs))
  else if fst_ F ∧ tw n B p = 26 then .inr (1, te n B p, (mkF F.ki 2 0 F.pa F.os) :: r, cs ++ [1])
  else if sg n B p 40 then (if opN (F :: r) = 7 then .inl (5, (tq n B p : Int)) else .inr (0, te n B p, (mkF 2 0 1 0 []) :: (mkF F.ki F.ph 0 F.pa F.os) :: r, cs))
  else if tw n B p = 27 ∨ tw n B p = 28 ∨ tw n B p = 22 then (if sg n B (te n B p) 40 then (if opN (F :: r) = 7 then .inl (5, (tq n B (te n B p) : Int)) else .inr (0, te n B (te n B p), (mkF (if tw n B p = 22 then 6 else 3) 0 1 (if tw n B p = 27 then -21 else if tw n B p = 28 then -22 else -10) []) :: (mkF F.ki F.ph 0 F.pa F.os) :: r, cs)) else .inl (1, (tsp n B (te n B p) : Int)))
  else if tk n B p = 2 then .inr (1, te n B p, (mkF F.ki F.ph 0 F.pa F.os) :: r, cs ++ [tv n B p])
  else match seeF n B se p 8 0 with
    | .inl e => .inl e
    | .inr (p', c) => .inr (1, p', (mkF F.ki F.ph 0 F.pa F.os) :: r, cs ++ c)
abbrev ari (p : Nat) : Prop := sg n B p 43 ∨ sg n B p 45 ∨ sg n B p 42 ∨ sg n B p 47 ∨ sg n B p 37
abbrev cmpS (p : Nat) : Prop := sg n B p 60 ∨ sg n B p 62 ∨ sg n B p 61
def arL (p : Nat) : Nat := if tv n B p = 43 ∨ tv n B p = 45 then 5 else 6
def arO (p : Nat) : Int := if tv n B p = 43 then -16 else if tv n B p = 45 then -17 else if tv n B p = 42 then -18 else if tv n B p = 47 then -19 else -20
def cmO (p : Nat) : Int := if tv n B p = 60 then -13 else if tv n B p = 62 then -14 else -15
def pop2 (F : Fm) (r : List Fm) : List Fm := if F.ki = 5 then (match r with
  | [] => []
  | G :: r' => (mkF G.ki 2 G.bg G.pa G.os) :: r') else r
noncomputable def goF (F : Fm) (r : List Fm) (cs : List Int) (p : Nat) : MRs :=
  if tk n B p = 4 then .inl (1, (tsp n B p : Int))
  else if F.ph < 2 ∧ ari n B p then .inr (0, te n B p, (mkF F.ki F.ph F.bg F.pa (arO n B p :: joD (arL n B p) F.os)) :: r, cs ++ joT (arL n B p) F.os)
  else if tst F ∧ F.ph = 0 ∧ cmpS n B p then .inr (0, te n B p, (mkF F.ki 1 F.bg F.pa (cmO n B p :: joD 5 F.os)) :: r, cs ++ joT 5 F.os)
  else if tst F ∧ (tw n B p = 24 ∨ tw n B p = 23) then (if F.ph = 0 then .inl (1, (tq n B p : Int)) else .inr (0, te n B p, (mkF F.ki 0 1 F.pa ((if tw n B p = 24 then -12 else -11) :: joD (if tw n B p = 24 then 2 else 1) F.os)) :: r, cs ++ joT (if tw n B p = 24 then 2 else 1) F.os))
  else if tst F ∧ F.ph = 0 then .inl (1, (tq n B p : Int))
  else if F.ki < 2 then .inr (2, p, (mkF F.ki F.ph F.bg F.pa (joD 1 F.os)) :: r, cs ++ joT 1 F.os)
  else if F.ki = 3 ∨ F.ki = 6 then (if sg n B p 44 then .inr (0, te n B p, (mkF ((if F.ki = 3 then 4 else 3)) 0 F.bg F.pa (joD 1 F.os)) :: r, cs ++ joT 1 F.os) else .inl (1, (tq n B p : Int)))
  else if sg n B p (if F.ki = 5 then 93 else 41) then .inr (1, te n B p, pop2 F r, cs ++ joT 1 F.os ++ (if F.ki = 4 then [F.pa] else [])) else .inl (1, (tq n B p : Int))
end MAC
theorem rnk_in (v : Int) : 1 ≤ rnk v ∧ rnk v ≤ 6 := by
  unfold rnk
  repeat' split
  all_goals omega
theorem jo_app {l : Nat} {A O : List Int} (hA : ∀ v ∈ A, l ≤ rnk v) (hO : ∀ v r, O = v :: r → rnk v < l) : joT l (A ++ O) = A ∧ joD l (A ++ O) = O := by
  induction A with
  | nil =>
    cases O with
    | nil => exact ⟨rfl, rfl⟩
    | cons v r =>
      have := hO v r rfl
      unfold joT joD
      rw [List.nil_append, List.takeWhile_cons, List.dropWhile_cons]
      rw [if_neg (by rw [decide_eq_true_eq]; omega), if_neg (by rw [decide_eq_true_eq]; omega)]
      exact ⟨rfl, rfl⟩
  | cons a A ih =>
    have h1 := hA a (List.mem_cons_self ..)
    have h2 := ih (fun v hv => hA v (List.mem_cons_of_mem _ hv))
    unfold joT joD at *
    rw [List.cons_append, List.takeWhile_cons, List.dropWhile_cons, if_pos (by rw [decide_eq_true_eq]; exact h1), if_pos (by rw [decide_eq_true_eq]; exact h1), h2.1, h2.2]
    exact ⟨rfl, rfl⟩
theorem jo_1 {O : List Int} : joT 1 O = O ∧ joD 1 O = [] := by
  have := jo_app (l := 1) (A := O) (O := []) (fun v _ => (rnk_in v).1) (fun v r h => by cases h)
  rw [List.append_nil] at this
  exact this
theorem jo_le {l : Nat} {O : List Int} : (joD l O).length ≤ O.length ∧ (joT l O).length + (joD l O).length = O.length ∧ ntO (joT l O) + ntO (joD l O) = ntO O := by
  induction O with
  | nil => exact ⟨Nat.le_refl _, rfl, rfl⟩
  | cons a O ih =>
    unfold joT joD at *
    rw [List.takeWhile_cons, List.dropWhile_cons]
    by_cases h : decide (l ≤ rnk a) = true
    · rw [if_pos h, if_pos h]
      simp only [List.length_cons]
      have := ih.2.2
      refine ⟨by omega, by omega, ?_⟩
      rw [show ntO (a :: O) = (if a = -9 then 1 else 0) + ntO O from rfl]
      rw [show ntO (a :: List.takeWhile (fun v => decide (l ≤ rnk v)) O) = (if a = -9 then 1 else 0) + ntO (List.takeWhile (fun v => decide (l ≤ rnk v)) O) from rfl]
      omega
    · rw [if_neg h, if_neg h]
      simp only [List.length_cons, List.length_nil]
      exact ⟨by omega, by omega, by rw [show ntO ([] : List Int) = 0 from rfl]; omega⟩
