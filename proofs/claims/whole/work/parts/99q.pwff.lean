/-! ===== what P writes fits its stack ===== -/
def WS (U : Nat) (c : List Int) : Prop := ∀ (rest : List Int) (fl : List Bool), fl.length + U ≤ 64 → (∀ b, wff rest (b :: fl)) → wff (c ++ rest) fl
def WT (U : Nat) (c : List Int) : Prop := ∀ (rest : List Int) (fl : List Bool), fl.length + U ≤ 64 → wff rest (true :: fl) → wff (c ++ rest) fl
def LSo (U : Nat) (c : List Int) : Prop := ∀ (rest : List Int) (fl : List Bool) (b0 : Bool), fl.length + U ≤ 64 → (∀ b, wff rest (b :: fl)) → wff (c ++ rest) (b0 :: fl)
def LTo (U : Nat) (c : List Int) : Prop := ∀ (rest : List Int) (fl : List Bool), fl.length + U ≤ 64 → wff rest (true :: fl) → wff (c ++ rest) (true :: fl)
def SEv (se : Nat) (c : List Int) : Prop := ∀ s ∈ c, -9 < s → s < 0 → se / 2 ^ (-1 - s).toNat % 2 = 1
theorem wf_p {v : Int} {r : List Int} {fl : List Bool} (h1 : -9 < v) (h2 : v ≤ 9999) (h3 : fl.length < 64) (h : wff r (decide (v = 0 ∨ v = 1) :: fl)) : wff (v :: r) fl := by
  unfold wff
  rw [if_pos h1]
  exact ⟨h2, h3, h⟩
theorem wf_o {x : Int} {r : List Int} {fl : List Bool} {a b : Bool} (hx : -22 ≤ x ∧ x ≤ -16) (h : wff r (false :: fl)) : wff (x :: r) (a :: b :: fl) := by
  unfold wff
  rw [if_neg (by omega), if_neg (by omega), if_neg (by omega), if_neg (by omega), if_neg (by omega)]
  exact ⟨hx.1, a, b, fl, rfl, h⟩
theorem wf_c {x : Int} {r : List Int} {fl : List Bool} {a b : Bool} (hx : x = -13 ∨ x = -14 ∨ x = -15) (h : wff r (true :: fl)) : wff (x :: r) (a :: b :: fl) := by
  unfold wff
  rw [if_neg (by omega), if_neg (by omega), if_neg (by omega), if_neg (by omega), if_pos hx]
  exact ⟨a, b, fl, rfl, h⟩
theorem wf_b {x : Int} {r : List Int} {fl : List Bool} (hx : x = -11 ∨ x = -12) (h : wff r (true :: fl)) : wff (x :: r) (true :: true :: fl) := by
  unfold wff
  rw [if_neg (by omega), if_neg (by omega), if_neg (by omega), if_pos hx]
  exact ⟨fl, rfl, h⟩
theorem wf_n {r : List Int} {fl : List Bool} (h : wff r (true :: fl)) : wff (-9 :: r) (true :: fl) := by
  unfold wff
  rw [if_neg (by omega), if_pos rfl]
  exact ⟨fl, rfl, h⟩
theorem wf_i {r : List Int} {fl : List Bool} {a b : Bool} (h : wff r (false :: fl)) : wff (-10 :: r) (a :: b :: true :: fl) := by
  unfold wff
  rw [if_neg (by omega), if_neg (by omega), if_pos rfl]
  exact ⟨a, b, fl, rfl, h⟩
def RW (φ : List Int → Prop) (r : Res) : Prop := ∀ p c, r = .inr (p, c) → φ c
theorem rw_l {φ : List Int → Prop} {e : Int × Int} : RW φ (.inl e) := fun _ _ h => by cases h
theorem rw_r {φ : List Int → Prop} {p : Nat} {c : List Int} (h : φ c) : RW φ (.inr (p, c)) := fun _ _ e => by
  cases e
  exact h
theorem rw_bnd {φ ψ χ : List Int → Prop} {r : Res} {g : Nat → Res} (h1 : RW φ r) (h2 : ∀ p, RW ψ (g p)) (h : ∀ c c', φ c → ψ c' → χ (c ++ c')) : RW χ (bnd r g) := by
  cases r with
  | inl e => exact rw_l
  | inr y =>
    obtain ⟨p, c⟩ := y
    have a := h1 p c rfl
    intro p' c' e
    rw [bnd_inr] at e
    cases hg : g p with
    | inl e' => rw [hg] at e; cases e
    | inr z =>
      rw [hg] at e
      cases e
      exact h c z.2 a (h2 p z.1 z.2 hg)
theorem rw_emi {φ χ : List Int → Prop} {r : Res} {x : Int} (h1 : RW φ r) (h : ∀ c, φ c → χ (c ++ [x])) : RW χ (emi r x) := by
  cases r with
  | inl e => exact rw_l
  | inr y =>
    obtain ⟨p, c⟩ := y
    exact rw_r (h c (h1 p c rfl))
theorem rw_nee {φ : List Int → Prop} {n : Nat} {B : Nat → Int} {r : Res} {x : Int} (h1 : RW φ r) : RW φ (nee n B r x) := by
  cases r with
  | inl e => exact rw_l
  | inr y =>
    obtain ⟨p, c⟩ := y
    unfold nee
    show RW φ (if sg n B p x then .inr (te n B p, c) else .inl (1, (tsp n B p : Int)))
    split
    · exact rw_r (h1 p c rfl)
    · exact rw_l
theorem sev_a {se : Nat} {c c' : List Int} (h : SEv se c) (h' : SEv se c') : SEv se (c ++ c') := fun s hs => by
  rcases List.mem_append.1 hs with e | e
  · exact h s e
  · exact h' s e
theorem sev_x {se : Nat} {c : List Int} {x : Int} (h : SEv se c) (hx : x ≤ -9 ∨ 0 ≤ x) : SEv se (c ++ [x]) := sev_a h (fun s hs a b => by
  rw [List.mem_singleton.1 hs] at a b
  omega)
theorem WS_w {U U' : Nat} {c : List Int} (h : WS U c) (hu : U ≤ U') : WS U' c := fun r fl a b => h r fl (by omega) b
theorem WT_w {U U' : Nat} {c : List Int} (h : WT U c) (hu : U ≤ U') : WT U' c := fun r fl a b => h r fl (by omega) b
theorem ws_op {U1 U2 U : Nat} {c c' : List Int} {x : Int} (h1 : WS U1 c) (h2 : WS U2 c') (hx : -22 ≤ x ∧ x ≤ -16) (hu : U1 ≤ U ∧ U2 + 1 ≤ U) : WS U (c ++ c' ++ [x]) := by
  intro rest fl hl hw
  rw [List.append_assoc, List.append_assoc]
  refine h1 _ fl (by omega) (fun b1 => h2 _ (b1 :: fl) (by rw [List.length_cons]; omega) (fun b2 => ?_))
  exact wf_o hx (hw false)
theorem wt_cmp {U1 U2 U : Nat} {c c' : List Int} {x : Int} (h1 : WS U1 c) (h2 : WS U2 c') (hx : x = -13 ∨ x = -14 ∨ x = -15) (hu : U1 ≤ U ∧ U2 + 1 ≤ U) : WT U (c ++ c' ++ [x]) := by
  intro rest fl hl hw
  rw [List.append_assoc, List.append_assoc]
  refine h1 _ fl (by omega) (fun b1 => h2 _ (b1 :: fl) (by rw [List.length_cons]; omega) (fun b2 => ?_))
  exact wf_c hx hw
theorem ws_if {U0 U1 U2 U : Nat} {c0 c1 c2 : List Int} (h0 : WT U0 c0) (h1 : WS U1 c1) (h2 : WS U2 c2) (hu : U0 ≤ U ∧ U1 + 1 ≤ U ∧ U2 + 2 ≤ U) : WS U (c0 ++ c1 ++ c2 ++ [-10]) := by
  intro rest fl hl hw
  rw [List.append_assoc, List.append_assoc, List.append_assoc]
  refine h0 _ fl (by omega) (h1 _ (true :: fl) (by rw [List.length_cons]; omega) (fun b1 => h2 _ (b1 :: true :: fl) (by rw [List.length_cons, List.length_cons]; omega) (fun b2 => ?_)))
  exact wf_i (hw false)
theorem ws_ls {U1 U : Nat} {c c' : List Int} (h1 : WS U1 c) (h2 : LSo U c') (hu : U1 ≤ U) : WS U (c ++ c') := by
  intro rest fl hl hw
  rw [List.append_assoc]
  exact h1 _ fl (by omega) (fun b => h2 rest fl b hl hw)
theorem wt_lt {U1 U : Nat} {c c' : List Int} (h1 : WT U1 c) (h2 : LTo U c') (hu : U1 ≤ U) : WT U (c ++ c') := by
  intro rest fl hl hw
  rw [List.append_assoc]
  exact h1 _ fl (by omega) (h2 rest fl hl hw)
theorem ls_op {U1 U : Nat} {c c' : List Int} {x : Int} (h1 : WS U1 c) (h2 : LSo U c') (hx : -22 ≤ x ∧ x ≤ -16) (hu : U1 + 1 ≤ U) : LSo U (c ++ [x] ++ c') := by
  intro rest fl b0 hl hw
  rw [List.append_assoc, List.append_assoc]
  refine h1 _ (b0 :: fl) (by rw [List.length_cons]; omega) (fun b1 => ?_)
  exact wf_o hx (h2 rest fl false hl hw)
theorem lt_op {U1 U : Nat} {c c' : List Int} {x : Int} (h1 : WT U1 c) (h2 : LTo U c') (hx : x = -11 ∨ x = -12) (hu : U1 + 1 ≤ U) : LTo U (c ++ [x] ++ c') := by
  intro rest fl hl hw
  rw [List.append_assoc, List.append_assoc]
  refine h1 _ (true :: fl) (by rw [List.length_cons]; omega) ?_
  exact wf_b hx (h2 rest fl hl hw)
theorem ls_nil {U : Nat} : LSo U [] := fun rest fl b0 _ hw => hw b0
theorem lt_nil {U : Nat} : LTo U [] := fun rest fl _ hw => hw
theorem wt_not {U : Nat} {c : List Int} (h : WT U c) : WT U (c ++ [-9]) := by
  intro rest fl hl hw
  rw [List.append_assoc]
  exact h _ fl hl (wf_n hw)
theorem ws_1 {U : Nat} {v : Int} (h : -9 < v ∧ v ≤ 9999) (hu : 1 ≤ U) : WS U [v] := fun rest fl hl hw => wf_p h.1 h.2 (by omega) (hw _)
theorem wt_1 {U : Nat} (hu : 1 ≤ U) : WT U [1] := fun rest fl hl hw => wf_p (by decide) (by decide) (by omega) hw
/-- how high the stack may grow -/
def aD (d : Nat) : Nat := 5 * (7 - d) + 1
def Wm (se m d : Nat) (c : List Int) : Prop := SEv se c ∧ (match m with
  | 0 => WT (aD d + 5) c
  | 1 => WT (aD d + 4) c
  | 2 => WT (aD d + 3) c
  | 3 => WS (aD d + 2) c
  | 4 => WS (aD d + 1) c
  | 5 => WS (aD d) c
  | 6 => LTo (aD d + 5) c
  | 7 => LTo (aD d + 4) c
  | 8 => LSo (aD d + 2) c
  | _ => LSo (aD d + 1) c)
theorem sev_nil {se : Nat} : SEv se [] := fun s hs => absurd hs List.not_mem_nil
theorem see_w {n : Nat} {B : Nat → Int} {se p d : Nat} : ∀ f k, k + f ≤ 8 → RW (Wm se 5 d) (seeF n B se p f k) := by
  intro f
  induction f with
  | zero => intro k _; exact rw_l
  | succ f ih =>
    intro k hk
    show RW (Wm se 5 d) (if se / 2 ^ k % 2 = 1 ∧ tw n B p = seW k then .inr (te n B p, [-1 - (k : Int)]) else seeF n B se p f (k + 1))
    split
    · rename_i h
      refine rw_r ⟨fun s hs a b => ?_, ws_1 (by omega) (by unfold aD; omega)⟩
      rw [List.mem_singleton.1 hs, show (-1 - (-1 - (k : Int))).toNat = k by omega]
      exact h.1
    · exact ih _ (by omega)
theorem tv_99 {n : Nat} {B : Nat → Int} {p : Nat} (h : tk n B p = 2) : tv n B p ≤ 9999 := by
  obtain ⟨h1, h2, h3, h4, h5⟩ := tk_2 h
  have hb := nv_b (B := B) (q := tq n B p) _ h5 (fun j hj => (run_in (pr := isDig) 5 _ j hj).2)
  unfold tv
  rw [if_neg (by omega), if_pos h]
  have : ∀ j : Fin 5, (10 : Int) ^ j.val ≤ 10000 := by decide
  have := this ⟨runF isDig n B 5 (tq n B p), by omega⟩
  have h9 : (10 : Int) ^ (runF isDig n B 5 (tq n B p)) ≤ 10000 := this
  omega
theorem P_w {n : Nat} {B : Nat → Int} {se : Nat} : ∀ f m d p, RW (Wm se m d) (P n B se f m d p) := by
  intro f
  induction f with
  | zero => intro m d p; exact rw_l
  | succ f ih =>
    intro m d p
    have a1 : d < 7 → aD (d + 1) + 5 = aD d := fun h => by unfold aD; omega
    match m with
    | 0 => exact rw_bnd (ih 1 d p) (fun q => ih 6 d q) (fun c c' h h' => ⟨sev_a h.1 h'.1, wt_lt h.2 h'.2 (by omega)⟩)
    | 1 => exact rw_bnd (ih 2 d p) (fun q => ih 7 d q) (fun c c' h h' => ⟨sev_a h.1 h'.1, wt_lt h.2 h'.2 (by omega)⟩)
    | 3 => exact rw_bnd (ih 4 d p) (fun q => ih 8 d q) (fun c c' h h' => ⟨sev_a h.1 h'.1, ws_ls h.2 h'.2 (by omega)⟩)
    | 4 => exact rw_bnd (ih 5 d p) (fun q => ih 9 d q) (fun c c' h h' => ⟨sev_a h.1 h'.1, ws_ls h.2 h'.2 (by omega)⟩)
    | 2 =>
      show RW (Wm se 2 d) (pFact n B (P n B se f) d p)
      unfold pFact
      split
      · split
        · rename_i hd
          have := a1 hd
          exact rw_emi (ih 2 (d + 1) _) (fun c h => ⟨sev_x h.1 (by omega), wt_not (WT_w h.2 (by omega))⟩)
        · exact rw_l
      split
      · split
        · rename_i hd
          have := a1 hd
          exact rw_nee (fun p c e => by
            have h := ih 0 (d + 1) _ p c e
            exact ⟨h.1, WT_w h.2 (by omega)⟩)
        · exact rw_l
      split
      · exact rw_r ⟨fun s hs a b => by rw [List.mem_singleton.1 hs] at b; omega, wt_1 (by unfold aD; omega)⟩
      · cases h : P n B se f 3 d p with
        | inl e => exact rw_l
        | inr y =>
          obtain ⟨q, c⟩ := y
          have hc := ih 3 d p q c h
          unfold cmpr
          show RW (Wm se 2 d) (if tk n B q = 3 ∧ (tv n B q = 60 ∨ tv n B q = 62 ∨ tv n B q = 61) then emi (bnd (.inr (te n B q, c)) (P n B se f 3 d)) (if tv n B q = 60 then -13 else if tv n B q = 62 then -14 else -15) else .inl (1, (tsp n B q : Int)))
          split
          · have hx : ∀ x : Int, x = (if tv n B q = 60 then -13 else if tv n B q = 62 then -14 else -15) → x = -13 ∨ x = -14 ∨ x = -15 := by
              intro x hx
              repeat' split at hx
              all_goals omega
            have hx2 := hx _ rfl
            refine rw_emi (φ := fun c2 => ∃ c', c2 = c ++ c' ∧ Wm se 3 d c') ?_ (fun c2 h2 => ?_)
            · intro p2 c2 e
              rw [bnd_inr] at e
              cases hg : P n B se f 3 d (te n B q) with
              | inl e' => rw [hg] at e; cases e
              | inr z =>
                rw [hg] at e
                cases e
                exact ⟨z.2, rfl, ih 3 d _ z.1 z.2 hg⟩
            · obtain ⟨c', e, hc'⟩ := h2
              rw [e]
              exact ⟨sev_x (sev_a hc.1 hc'.1) (by omega), wt_cmp hc.2 hc'.2 hx2 (by omega)⟩
          · exact rw_l
    | 5 =>
      show RW (Wm se 5 d) (pPart n B se (P n B se f) d p)
      unfold pPart
      have pr : ∀ q x, -22 ≤ x ∧ x ≤ -16 → RW (Wm se 5 d) (pPair n B (P n B se f) d q x) := by
        intro q x hx
        unfold pPair
        split
        · split
          · rename_i hd
            have := a1 hd
            refine rw_emi (φ := fun c => ∃ c1 c2, c = c1 ++ c2 ∧ Wm se 3 (d + 1) c1 ∧ Wm se 3 (d + 1) c2) (rw_nee (rw_bnd (rw_nee (ih 3 (d + 1) _)) (fun q => ih 3 (d + 1) q) (fun c c' h h' => ⟨c, c', rfl, h, h'⟩))) (fun c h => ?_)
            obtain ⟨c1, c2, e, h1, h2⟩ := h
            rw [e]
            exact ⟨sev_x (sev_a h1.1 h2.1) (by omega), ws_op h1.2 h2.2 hx (by omega)⟩
          · exact rw_l
        · exact rw_l
      split
      · rename_i h2
        have := tv_nn h2
        have := tv_99 h2
        exact rw_r ⟨fun s hs a b => by rw [List.mem_singleton.1 hs] at b; omega, ws_1 (by omega) (by unfold aD; omega)⟩
      split
      · split
        · rename_i hd
          have := a1 hd
          exact rw_nee (fun p c e => by
            have h := ih 3 (d + 1) _ p c e
            exact ⟨h.1, WS_w h.2 (by omega)⟩)
        · exact rw_l
      split
      · exact pr _ _ (by decide)
      split
      · exact pr _ _ (by decide)
      split
      · unfold pIf
        split
        · split
          · rename_i hd
            have := a1 hd
            refine rw_emi (φ := fun c => ∃ c0 c1 c2, c = c0 ++ c1 ++ c2 ∧ Wm se 0 (d + 1) c0 ∧ Wm se 3 (d + 1) c1 ∧ Wm se 3 (d + 1) c2) (rw_nee (rw_bnd (φ := fun c => ∃ c0 c1, c = c0 ++ c1 ∧ Wm se 0 (d + 1) c0 ∧ Wm se 3 (d + 1) c1) (rw_nee (rw_bnd (rw_nee (ih 0 (d + 1) _)) (fun q => ih 3 (d + 1) q) (fun c c' h h' => ⟨c, c', rfl, h, h'⟩))) (fun q => ih 3 (d + 1) q) (fun c c' h h' => by
              obtain ⟨c0, c1, e, h0, h1⟩ := h
              exact ⟨c0, c1, c', by rw [e], h0, h1, h'⟩))) (fun c h => ?_)
            obtain ⟨c0, c1, c2, e, h0, h1, h2⟩ := h
            rw [e]
            exact ⟨sev_x (sev_a (sev_a h0.1 h1.1) h2.1) (by omega), ws_if h0.2 h1.2 h2.2 (by omega)⟩
          · exact rw_l
        · exact rw_l
      · exact see_w 8 0 (by omega)
    | 6 =>
      show RW (Wm se 6 d) (pLo6 n B (P n B se f) d p)
      unfold pLo6
      split
      · refine rw_bnd (rw_emi (χ := fun c => ∃ c1, c = c1 ++ [-11] ∧ Wm se 1 d c1) (ih 1 d _) (fun c h => ⟨c, rfl, h⟩)) (fun q => ih 6 d q) (fun c c' h h' => ?_)
        obtain ⟨c1, e, h1⟩ := h
        rw [e]
        exact ⟨sev_a (sev_x h1.1 (by omega)) h'.1, lt_op h1.2 h'.2 (by omega) (by omega)⟩
      · exact rw_r ⟨sev_nil, lt_nil⟩
    | 7 =>
      show RW (Wm se 7 d) (pLo7 n B (P n B se f) d p)
      unfold pLo7
      split
      · refine rw_bnd (rw_emi (χ := fun c => ∃ c1, c = c1 ++ [-12] ∧ Wm se 2 d c1) (ih 2 d _) (fun c h => ⟨c, rfl, h⟩)) (fun q => ih 7 d q) (fun c c' h h' => ?_)
        obtain ⟨c1, e, h1⟩ := h
        rw [e]
        exact ⟨sev_a (sev_x h1.1 (by omega)) h'.1, lt_op h1.2 h'.2 (by omega) (by omega)⟩
      · exact rw_r ⟨sev_nil, lt_nil⟩
    | 8 =>
      show RW (Wm se 8 d) (pLo8 n B (P n B se f) d p)
      have lo : ∀ x q, -22 ≤ x ∧ x ≤ -16 → RW (Wm se 8 d) (bnd (emi (P n B se f 4 d q) x) (P n B se f 8 d)) := by
        intro x q hx
        refine rw_bnd (rw_emi (χ := fun c => ∃ c1, c = c1 ++ [x] ∧ Wm se 4 d c1) (ih 4 d q) (fun c h => ⟨c, rfl, h⟩)) (fun q => ih 8 d q) (fun c c' h h' => ?_)
        obtain ⟨c1, e, h1⟩ := h
        rw [e]
        exact ⟨sev_a (sev_x h1.1 (by omega)) h'.1, ls_op h1.2 h'.2 hx (by omega)⟩
      unfold pLo8
      repeat' split
      · exact lo _ _ (by decide)
      · exact lo _ _ (by decide)
      · exact rw_r ⟨sev_nil, ls_nil⟩
    | m + 9 =>
      show RW (Wm se 9 d) (pLo9 n B (P n B se f) d p)
      have lo : ∀ x q, -22 ≤ x ∧ x ≤ -16 → RW (Wm se 9 d) (bnd (emi (P n B se f 5 d q) x) (P n B se f 9 d)) := by
        intro x q hx
        refine rw_bnd (rw_emi (χ := fun c => ∃ c1, c = c1 ++ [x] ∧ Wm se 5 d c1) (ih 5 d q) (fun c h => ⟨c, rfl, h⟩)) (fun q => ih 9 d q) (fun c c' h h' => ?_)
        obtain ⟨c1, e, h1⟩ := h
        rw [e]
        exact ⟨sev_a (sev_x h1.1 (by omega)) h'.1, ls_op h1.2 h'.2 hx (by omega)⟩
      unfold pLo9
      repeat' split
      · exact lo _ _ (by decide)
      · exact lo _ _ (by decide)
      · exact lo _ _ (by decide)
      · exact rw_r ⟨sev_nil, ls_nil⟩
