/-! ===== the reference's machine in its heap ===== -/
abbrev opc (v : Int) : Prop := -20 ≤ v ∧ v ≤ -9 ∧ v ≠ -10
def ROs (K : HI) (t : Nat) (os : List Int) : Prop := ∀ j v, os[j]? = some v → K 83 (t + os.length - 1 - j) = so v ∧ opc v
def RFs (K : HI) : List Fm → Prop
  | [] => True
  | F :: r => RFs K r ∧ K 78 r.length = F.ki ∧ K 79 r.length = F.ph ∧ K 80 r.length = F.bg ∧ (F.pa = 0 ∨ (K 81 r.length = so F.pa ∧ (F.pa = -10 ∨ F.pa = -21 ∨ F.pa = -22))) ∧ K 82 r.length = (tot r : Int) ∧ ROs K (tot r) F.os ∧ (F.bg = 0 ∨ F.bg = 1) ∧ (0 ≤ F.ki ∧ F.ki ≤ 6) ∧ (0 ≤ F.ph ∧ F.ph ≤ 2)
def FrK (K0 : HI) (m k0 : Nat) (K : HI) : Prop := (∀ q, q ≠ 57 → q ≠ 73 → q ≠ 74 → ¬ (78 ≤ q ∧ q ≤ 83) → K q = K0 q) ∧ (∀ j, j ≠ 33 → j ≠ 41 → j ≠ 42 → j ≠ 44 → K 57 j = K0 57 j) ∧ (∀ q j, q = 73 ∨ q = 74 → ¬ (1600 * m + k0 ≤ j ∧ j < 1600 * m + 1600) → K q j = K0 q j)
def RC (K0 : HI) (m k0 : Nat) (fs : List Fm) (cs : List Int) (o : Int) (K : HI) : Prop := FrK K0 m k0 K ∧ RFs K fs ∧ K 57 41 = (fs.length : Int) ∧ K 57 44 = (tot fs : Int) ∧ K 57 42 = o ∧ K 57 33 = ((k0 + cs.length : Nat) : Int) ∧ K 57 34 = (m : Int) ∧ (∀ j v, cs[j]? = some v → cm (K 73 (1600 * m + k0 + j)) (K 74 (1600 * m + k0 + j)) v)
theorem ROs_to {K K' : HI} {t : Nat} {os : List Int} (h : ROs K t os) (h83 : ∀ j, j < t + os.length → K' 83 j = K 83 j) : ROs K' t os := by
  intro j v e
  have hj : j < os.length := by
    rcases Nat.lt_or_ge j os.length with h | h
    · exact h
    · rw [List.getElem?_eq_none h] at e; cases e
  rw [h83 _ (by omega)]
  exact h j v e
theorem RFs_to {K K' : HI} : ∀ {fs : List Fm}, RFs K fs → (∀ q j, 78 ≤ q ∧ q ≤ 82 → j < fs.length → K' q j = K q j) → (∀ j, j < tot fs → K' 83 j = K 83 j) → RFs K' fs := by
  intro fs
  induction fs with
  | nil => intro _ _ _; exact trivial
  | cons F r ih =>
    intro h h1 h2
    obtain ⟨a1, a2, a3, a4, a5, a6, a7, a8⟩ := h
    have hl : r.length < (F :: r).length := by rw [List.length_cons]; omega
    have ht := tot_c (F := F) (r := r)
    refine ⟨ih a1 (fun q j hq hj => h1 q j hq (by omega)) (fun j hj => h2 j (by omega)), ?_, ?_, ?_, ?_, ?_, ROs_to a7 (fun j hj => h2 j (by omega)), a8⟩
    · rw [h1 78 _ (by omega) hl]; exact a2
    · rw [h1 79 _ (by omega) hl]; exact a3
    · rw [h1 80 _ (by omega) hl]; exact a4
    · rw [h1 81 _ (by omega) hl]; exact a5
    · rw [h1 82 _ (by omega) hl]; exact a6
section MRC
variable {K0 K : HI} {m k0 : Nat} {fs r : List Fm} {F : Fm} {cs : List Int} {o : Int}
theorem FrK_57 {j : Nat} {x : Int} (h : FrK K0 m k0 K) (hj : j = 33 ∨ j = 41 ∨ j = 42 ∨ j = 44) : FrK K0 m k0 (up K 57 j x) := by
  obtain ⟨h1, h2, h3⟩ := h
  refine ⟨fun q a b c d => ?_, fun i a b c d => ?_, fun q i a b => ?_⟩
  · funext i
    rw [up_ap, if_neg (by omega), h1 q a b c d]
  · rw [up_ap, if_neg (by omega), h2 i a b c d]
  · rw [up_ap, if_neg (by omega), h3 q i a b]
theorem FrK_q {q0 i0 : Nat} {x : Int} (h : FrK K0 m k0 K) (hq : 78 ≤ q0 ∧ q0 ≤ 83) : FrK K0 m k0 (up K q0 i0 x) := by
  obtain ⟨h1, h2, h3⟩ := h
  refine ⟨fun q a b c d => ?_, fun i a b c d => ?_, fun q i a b => ?_⟩
  · funext i
    rw [up_ap, if_neg (by omega), h1 q a b c d]
  · rw [up_ap, if_neg (by omega), h2 i a b c d]
  · rw [up_ap, if_neg (by omega), h3 q i a b]
theorem FrK_c {q0 i0 : Nat} {x : Int} (h : FrK K0 m k0 K) (hq : q0 = 73 ∨ q0 = 74) (hi : 1600 * m + k0 ≤ i0 ∧ i0 < 1600 * m + 1600) : FrK K0 m k0 (up K q0 i0 x) := by
  obtain ⟨h1, h2, h3⟩ := h
  refine ⟨fun q a b c d => ?_, fun i a b c d => ?_, fun q i a b => ?_⟩
  · funext i
    rw [up_ap, if_neg (by omega), h1 q a b c d]
  · rw [up_ap, if_neg (by omega), h2 i a b c d]
  · rw [up_ap, if_neg (by omega), h3 q i a b]
theorem RC_add {s z v : Int} (h : RC K0 m k0 fs cs o K) (hr : k0 + cs.length < 1600) (hc : cm s z v) : RC K0 m k0 fs (cs ++ [v]) o (up (up (up K 73 (1600 * m + (k0 + cs.length)) s) 74 (1600 * m + (k0 + cs.length)) z) 57 33 (((k0 + cs.length : Nat) : Int) + 1)) := by
  obtain ⟨h1, h2, h3, h4, h5, h6, h7, h8⟩ := h
  have hl : (cs ++ [v]).length = cs.length + 1 := by rw [List.length_append, List.length_singleton]
  refine ⟨FrK_57 (FrK_c (FrK_c h1 (Or.inl rfl) (by omega)) (Or.inr rfl) (by omega)) (by omega), RFs_to h2 (fun q j hq hj => ?_) (fun j hj => ?_), ?_, ?_, ?_, ?_, ?_, fun j w e => ?_⟩
  · rw [up_ap, if_neg (by omega), up_ap, if_neg (by omega), up_ap, if_neg (by omega)]
  · rw [up_ap, if_neg (by omega), up_ap, if_neg (by omega), up_ap, if_neg (by omega)]
  · rw [up_ap, if_neg (by omega), up_ap, if_neg (by omega), up_ap, if_neg (by omega)]; exact h3
  · rw [up_ap, if_neg (by omega), up_ap, if_neg (by omega), up_ap, if_neg (by omega)]; exact h4
  · rw [up_ap, if_neg (by omega), up_ap, if_neg (by omega), up_ap, if_neg (by omega)]; exact h5
  · rw [up_ap, if_pos ⟨rfl, rfl⟩, hl]; omega
  · rw [up_ap, if_neg (by omega), up_ap, if_neg (by omega), up_ap, if_neg (by omega)]; exact h7
  · have u73 : ∀ i, up (up (up K 73 (1600 * m + (k0 + cs.length)) s) 74 (1600 * m + (k0 + cs.length)) z) 57 33 (((k0 + cs.length : Nat) : Int) + 1) 73 i = if i = 1600 * m + (k0 + cs.length) then s else K 73 i := by
      intro i
      rw [up_ap, if_neg (by omega), up_ap, if_neg (by omega), up_ap]
      by_cases h : i = 1600 * m + (k0 + cs.length)
      · rw [if_pos ⟨rfl, h⟩, if_pos h]
      · rw [if_neg (by omega), if_neg h]
    have u74 : ∀ i, up (up (up K 73 (1600 * m + (k0 + cs.length)) s) 74 (1600 * m + (k0 + cs.length)) z) 57 33 (((k0 + cs.length : Nat) : Int) + 1) 74 i = if i = 1600 * m + (k0 + cs.length) then z else K 74 i := by
      intro i
      rw [up_ap, if_neg (by omega), up_ap]
      by_cases h : i = 1600 * m + (k0 + cs.length)
      · rw [if_pos ⟨rfl, h⟩, if_pos h]
      · rw [if_neg (by omega), if_neg h, up_ap, if_neg (by omega)]
    rw [u73, u74]
    by_cases e2 : j < cs.length
    · rw [if_neg (by omega), if_neg (by omega)]
      rw [List.getElem?_append_left e2] at e
      exact h8 j w e
    · have hj : j = cs.length := by
        rcases Nat.lt_or_ge j (cs ++ [v]).length with h | h
        · omega
        · rw [List.getElem?_eq_none h] at e; cases e
      subst hj
      rw [List.getElem?_append_right (Nat.le_refl _), Nat.sub_self] at e
      cases e
      rw [if_pos (by omega), if_pos (by omega)]
      exact hc
theorem RC_o {x : Int} (h : RC K0 m k0 fs cs o K) : RC K0 m k0 fs cs x (up K 57 42 x) := by
  obtain ⟨h1, h2, h3, h4, h5, h6, h7, h8⟩ := h
  refine ⟨FrK_57 h1 (by omega), RFs_to h2 (fun q j hq hj => ?_) (fun j hj => ?_), ?_, ?_, ?_, ?_, ?_, fun j w e => ?_⟩
  · rw [up_ap, if_neg (by omega)]
  · rw [up_ap, if_neg (by omega)]
  · rw [up_ap, if_neg (by omega)]; exact h3
  · rw [up_ap, if_neg (by omega)]; exact h4
  · rw [up_ap, if_pos ⟨rfl, rfl⟩]
  · rw [up_ap, if_neg (by omega)]; exact h6
  · rw [up_ap, if_neg (by omega)]; exact h7
  · rw [up_ap, if_neg (by omega), up_ap, if_neg (by omega)]; exact h8 j w e
theorem FrK_45 {x : Int} (h : FrK K0 m k0 K) : FrK (up K0 57 45 x) m k0 (up K 57 45 x) := by
  obtain ⟨h1, h2, h3⟩ := h
  refine ⟨fun q a b c d => ?_, fun i a b c d => ?_, fun q i a b => ?_⟩
  · funext i
    rw [up_ap, if_neg (by omega), up_ap, if_neg (by omega), h1 q a b c d]
  · rw [up_ap, up_ap]
    by_cases e : i = 45
    · rw [if_pos ⟨rfl, e⟩, if_pos ⟨rfl, e⟩]
    · rw [if_neg (by omega), if_neg (by omega), h2 i a b c d]
  · rw [up_ap, if_neg (by omega), up_ap, if_neg (by omega), h3 q i a b]
theorem RC_45 {x : Int} (h : RC K0 m k0 fs cs o K) : RC (up K0 57 45 x) m k0 fs cs o (up K 57 45 x) := by
  obtain ⟨h1, h2, h3, h4, h5, h6, h7, h8⟩ := h
  refine ⟨FrK_45 h1, RFs_to h2 (fun q j hq hj => ?_) (fun j hj => ?_), ?_, ?_, ?_, ?_, ?_, fun j w e => ?_⟩
  · rw [up_ap, if_neg (by omega)]
  · rw [up_ap, if_neg (by omega)]
  · rw [up_ap, if_neg (by omega)]; exact h3
  · rw [up_ap, if_neg (by omega)]; exact h4
  · rw [up_ap, if_neg (by omega)]; exact h5
  · rw [up_ap, if_neg (by omega)]; exact h6
  · rw [up_ap, if_neg (by omega)]; exact h7
  · rw [up_ap, if_neg (by omega), up_ap, if_neg (by omega)]; exact h8 j w e
theorem ROs_push {t : Nat} {os : List Int} {v : Int} (h : ROs K t os) (hv : opc v) : ROs (up K 83 (t + os.length) (so v)) t (v :: os) := by
  intro j w e
  rw [List.length_cons]
  cases j with
  | zero =>
    rw [List.getElem?_cons_zero] at e
    cases e
    rw [up_ap, if_pos ⟨rfl, by omega⟩]
    exact ⟨rfl, hv⟩
  | succ j =>
    rw [List.getElem?_cons_succ] at e
    have hj : j < os.length := by
      rcases Nat.lt_or_ge j os.length with h | h
      · exact h
      · rw [List.getElem?_eq_none h] at e; cases e
    rw [up_ap, if_neg (by omega), show t + (os.length + 1) - 1 - (j + 1) = t + os.length - 1 - j by omega]
    exact h j w e
theorem ROs_tail {t : Nat} {os : List Int} {v : Int} (h : ROs K t (v :: os)) : ROs K t os ∧ K 83 (t + os.length) = so v ∧ opc v := by
  refine ⟨fun j w e => ?_, ?_⟩
  · have := h (j + 1) w (by rw [List.getElem?_cons_succ]; exact e)
    rw [List.length_cons, show t + (os.length + 1) - 1 - (j + 1) = t + os.length - 1 - j by omega] at this
    exact this
  · have := h 0 v (by rw [List.getElem?_cons_zero])
    rw [List.length_cons, show t + (os.length + 1) - 1 - 0 = t + os.length by omega] at this
    exact this
/-- the top frame changed, nothing below -/
theorem RC_top {K' : HI} {F' : Fm} {o' : Int} (h : RC K0 m k0 (F :: r) cs o K) (hF : FrK K0 m k0 K') (h57 : ∀ j, j = 33 ∨ j = 34 ∨ j = 41 → K' 57 j = K 57 j) (h73 : K' 73 = K 73) (h74 : K' 74 = K 74) (hl : ∀ q j, 78 ≤ q ∧ q ≤ 82 → j < r.length → K' q j = K q j) (h83 : ∀ j, j < tot r → K' 83 j = K 83 j) (h44 : K' 57 44 = (tot (F' :: r) : Int)) (h42 : K' 57 42 = o') (e1 : K' 78 r.length = F'.ki) (e2 : K' 79 r.length = F'.ph) (e3 : K' 80 r.length = F'.bg) (e4 : F'.pa = 0 ∨ (K' 81 r.length = so F'.pa ∧ (F'.pa = -10 ∨ F'.pa = -21 ∨ F'.pa = -22))) (e5 : K' 82 r.length = K 82 r.length) (e6 : ROs K' (tot r) F'.os) (e7 : (F'.bg = 0 ∨ F'.bg = 1) ∧ (0 ≤ F'.ki ∧ F'.ki ≤ 6) ∧ (0 ≤ F'.ph ∧ F'.ph ≤ 2)) : RC K0 m k0 (F' :: r) cs o' K' := by
  obtain ⟨h1, h2, h3, h4, h5, h6, h7, h8⟩ := h
  obtain ⟨a1, a2, a3, a4, a5, a6, a7, a8⟩ := h2
  refine ⟨hF, ⟨RFs_to a1 (fun q j hq hj => hl q j hq hj) (fun j hj => h83 j hj), e1, e2, e3, e4, by rw [e5]; exact a6, e6, e7⟩, ?_, h44, h42, ?_, ?_, fun j w e => ?_⟩
  · rw [h57 41 (by omega)]; exact h3
  · rw [h57 33 (by omega)]; exact h6
  · rw [h57 34 (by omega)]; exact h7
  · rw [h73, h74]; exact h8 j w e
theorem RC_hold {v : Int} (h : RC K0 m k0 (F :: r) cs o K) (hv : opc v) : RC K0 m k0 ((mkF F.ki F.ph F.bg F.pa (v :: F.os)) :: r) cs o (up (up K 83 (tot (F :: r)) (so v)) 57 44 ((tot (F :: r) : Int) + 1)) := by
  have h' := h
  obtain ⟨h1, h2, h3, h4, h5, h6, h7, h8⟩ := h
  obtain ⟨a1, a2, a3, a4, a5, a6, a7, a8⟩ := h2
  have ht := tot_c (F := F) (r := r)
  refine RC_top h' (FrK_57 (FrK_q h1 (by omega)) (by omega)) (fun j hj => ?_) ?_ ?_ (fun q j hq hj => ?_) (fun j hj => ?_) ?_ ?_ ?_ ?_ ?_ ?_ ?_ ?_ a8
  · rw [up_ap, if_neg (by omega), up_ap, if_neg (by omega)]
  · funext j; rw [up_ap, if_neg (by omega), up_ap, if_neg (by omega)]
  · funext j; rw [up_ap, if_neg (by omega), up_ap, if_neg (by omega)]
  · rw [up_ap, if_neg (by omega), up_ap, if_neg (by omega)]
  · rw [up_ap, if_neg (by omega), up_ap, if_neg (by omega)]
  · rw [up_ap, if_pos ⟨rfl, rfl⟩, ht, tot_c]
    show _ = (((v :: F.os).length + tot r : Nat) : Int)
    rw [List.length_cons]
    omega
  · rw [up_ap, if_neg (by omega), up_ap, if_neg (by omega)]; exact h5
  · rw [up_ap, if_neg (by omega), up_ap, if_neg (by omega)]; exact a2
  · rw [up_ap, if_neg (by omega), up_ap, if_neg (by omega)]; exact a3
  · rw [up_ap, if_neg (by omega), up_ap, if_neg (by omega)]; exact a4
  · rw [up_ap, if_neg (by omega), up_ap, if_neg (by omega)]; exact a5
  · rw [up_ap, if_neg (by omega), up_ap, if_neg (by omega)]
  · have := ROs_push a7 hv
    refine ROs_to (K := up K 83 (tot r + F.os.length) (so v)) this (fun j hj => ?_)
    rw [up_ap, if_neg (by omega), ht, Nat.add_comm F.os.length]
theorem RC_drop {v : Int} {os : List Int} (h : RC K0 m k0 ((mkF F.ki F.ph F.bg F.pa (v :: os)) :: r) cs o K) : RC K0 m k0 ((mkF F.ki F.ph F.bg F.pa os) :: r) cs o (up K 57 44 ((tot r + os.length : Nat) : Int)) := by
  have h' := h
  obtain ⟨h1, h2, h3, h4, h5, h6, h7, h8⟩ := h
  obtain ⟨a1, a2, a3, a4, a5, a6, a7, a8⟩ := h2
  refine RC_top h' (FrK_57 h1 (by omega)) (fun j hj => ?_) ?_ ?_ (fun q j hq hj => ?_) (fun j hj => ?_) ?_ ?_ ?_ ?_ ?_ ?_ ?_ ?_ a8
  · rw [up_ap, if_neg (by omega)]
  · funext j; rw [up_ap, if_neg (by omega)]
  · funext j; rw [up_ap, if_neg (by omega)]
  · rw [up_ap, if_neg (by omega)]
  · rw [up_ap, if_neg (by omega)]
  · rw [up_ap, if_pos ⟨rfl, rfl⟩, tot_c]
    show _ = ((os.length + tot r : Nat) : Int)
    omega
  · rw [up_ap, if_neg (by omega)]; exact h5
  · rw [up_ap, if_neg (by omega)]; exact a2
  · rw [up_ap, if_neg (by omega)]; exact a3
  · rw [up_ap, if_neg (by omega)]; exact a4
  · rw [up_ap, if_neg (by omega)]; exact a5
  · rw [up_ap, if_neg (by omega)]
  · exact ROs_to (ROs_tail a7).1 (fun j hj => by rw [up_ap, if_neg (by omega)])
theorem RC_ph {x : Int} (h : RC K0 m k0 (F :: r) cs o K) (hx : 0 ≤ x ∧ x ≤ 2) : RC K0 m k0 ((mkF F.ki x F.bg F.pa F.os) :: r) cs o (up K 79 r.length x) := by
  have h' := h
  obtain ⟨h1, h2, h3, h4, h5, h6, h7, h8⟩ := h
  obtain ⟨a1, a2, a3, a4, a5, a6, a7, a8⟩ := h2
  refine RC_top h' (FrK_q h1 (by omega)) (fun j hj => ?_) ?_ ?_ (fun q j hq hj => ?_) (fun j hj => ?_) ?_ ?_ ?_ ?_ ?_ ?_ ?_ ?_ ⟨a8.1, a8.2.1, hx⟩
  · rw [up_ap, if_neg (by omega)]
  · funext j; rw [up_ap, if_neg (by omega)]
  · funext j; rw [up_ap, if_neg (by omega)]
  · rw [up_ap, if_neg (by omega)]
  · rw [up_ap, if_neg (by omega)]
  · rw [up_ap, if_neg (by omega)]; exact h4
  · rw [up_ap, if_neg (by omega)]; exact h5
  · rw [up_ap, if_neg (by omega)]; exact a2
  · rw [up_ap, if_pos ⟨rfl, rfl⟩]
  · rw [up_ap, if_neg (by omega)]; exact a4
  · rw [up_ap, if_neg (by omega)]; exact a5
  · rw [up_ap, if_neg (by omega)]
  · exact ROs_to a7 (fun j hj => by rw [up_ap, if_neg (by omega)])
theorem RC_bg {x : Int} (h : RC K0 m k0 (F :: r) cs o K) (hx : x = 0 ∨ x = 1) : RC K0 m k0 ((mkF F.ki F.ph x F.pa F.os) :: r) cs o (up K 80 r.length x) := by
  have h' := h
  obtain ⟨h1, h2, h3, h4, h5, h6, h7, h8⟩ := h
  obtain ⟨a1, a2, a3, a4, a5, a6, a7, a8⟩ := h2
  refine RC_top h' (FrK_q h1 (by omega)) (fun j hj => ?_) ?_ ?_ (fun q j hq hj => ?_) (fun j hj => ?_) ?_ ?_ ?_ ?_ ?_ ?_ ?_ ?_ ⟨hx, a8.2⟩
  · rw [up_ap, if_neg (by omega)]
  · funext j; rw [up_ap, if_neg (by omega)]
  · funext j; rw [up_ap, if_neg (by omega)]
  · rw [up_ap, if_neg (by omega)]
  · rw [up_ap, if_neg (by omega)]
  · rw [up_ap, if_neg (by omega)]; exact h4
  · rw [up_ap, if_neg (by omega)]; exact h5
  · rw [up_ap, if_neg (by omega)]; exact a2
  · rw [up_ap, if_neg (by omega)]; exact a3
  · rw [up_ap, if_pos ⟨rfl, rfl⟩]
  · rw [up_ap, if_neg (by omega)]; exact a5
  · rw [up_ap, if_neg (by omega)]
  · exact ROs_to a7 (fun j hj => by rw [up_ap, if_neg (by omega)])
theorem RC_ki {x : Int} (h : RC K0 m k0 (F :: r) cs o K) (hx : 0 ≤ x ∧ x ≤ 6) : RC K0 m k0 ((mkF x F.ph F.bg F.pa F.os) :: r) cs o (up K 78 r.length x) := by
  have h' := h
  obtain ⟨h1, h2, h3, h4, h5, h6, h7, h8⟩ := h
  obtain ⟨a1, a2, a3, a4, a5, a6, a7, a8⟩ := h2
  refine RC_top h' (FrK_q h1 (by omega)) (fun j hj => ?_) ?_ ?_ (fun q j hq hj => ?_) (fun j hj => ?_) ?_ ?_ ?_ ?_ ?_ ?_ ?_ ?_ ⟨a8.1, hx, a8.2.2⟩
  · rw [up_ap, if_neg (by omega)]
  · funext j; rw [up_ap, if_neg (by omega)]
  · funext j; rw [up_ap, if_neg (by omega)]
  · rw [up_ap, if_neg (by omega)]
  · rw [up_ap, if_neg (by omega)]
  · rw [up_ap, if_neg (by omega)]; exact h4
  · rw [up_ap, if_neg (by omega)]; exact h5
  · rw [up_ap, if_pos ⟨rfl, rfl⟩]
  · rw [up_ap, if_neg (by omega)]; exact a3
  · rw [up_ap, if_neg (by omega)]; exact a4
  · rw [up_ap, if_neg (by omega)]; exact a5
  · rw [up_ap, if_neg (by omega)]
  · exact ROs_to a7 (fun j hj => by rw [up_ap, if_neg (by omega)])
theorem RC_pa {x : Int} (h : RC K0 m k0 (F :: r) cs o K) (hx : x = -10 ∨ x = -21 ∨ x = -22) : RC K0 m k0 ((mkF F.ki F.ph F.bg x F.os) :: r) cs o (up K 81 r.length (so x)) := by
  have h' := h
  obtain ⟨h1, h2, h3, h4, h5, h6, h7, h8⟩ := h
  obtain ⟨a1, a2, a3, a4, a5, a6, a7, a8⟩ := h2
  refine RC_top h' (FrK_q h1 (by omega)) (fun j hj => ?_) ?_ ?_ (fun q j hq hj => ?_) (fun j hj => ?_) ?_ ?_ ?_ ?_ ?_ ?_ ?_ ?_ a8
  · rw [up_ap, if_neg (by omega)]
  · funext j; rw [up_ap, if_neg (by omega)]
  · funext j; rw [up_ap, if_neg (by omega)]
  · rw [up_ap, if_neg (by omega)]
  · rw [up_ap, if_neg (by omega)]
  · rw [up_ap, if_neg (by omega)]; exact h4
  · rw [up_ap, if_neg (by omega)]; exact h5
  · rw [up_ap, if_neg (by omega)]; exact a2
  · rw [up_ap, if_neg (by omega)]; exact a3
  · rw [up_ap, if_neg (by omega)]; exact a4
  · exact Or.inr ⟨by rw [up_ap, if_pos ⟨rfl, rfl⟩], hx⟩
  · rw [up_ap, if_neg (by omega)]
  · exact ROs_to a7 (fun j hj => by rw [up_ap, if_neg (by omega)])
theorem RC_push {ki : Int} (h : RC K0 m k0 fs cs o K) (hk : 0 ≤ ki ∧ ki ≤ 6) : RC K0 m k0 ((mkF ki 0 1 0 []) :: fs) cs o (up (up (up (up (up K 78 fs.length ki) 79 fs.length 0) 80 fs.length 1) 82 fs.length (tot fs : Int)) 57 41 ((fs.length : Int) + 1)) := by
  obtain ⟨h1, h2, h3, h4, h5, h6, h7, h8⟩ := h
  have hu : ∀ q j, q ≠ 57 → j ≠ fs.length ∨ q < 78 ∨ 82 < q → up (up (up (up (up K 78 fs.length ki) 79 fs.length 0) 80 fs.length 1) 82 fs.length (tot fs : Int)) 57 41 ((fs.length : Int) + 1) q j = K q j := by
    intro q j a b
    rw [up_ap, if_neg (by omega), up_ap, if_neg (by omega), up_ap, if_neg (by omega), up_ap, if_neg (by omega), up_ap, if_neg (by omega)]
  have hv : ∀ j, j ≠ 41 → up (up (up (up (up K 78 fs.length ki) 79 fs.length 0) 80 fs.length 1) 82 fs.length (tot fs : Int)) 57 41 ((fs.length : Int) + 1) 57 j = K 57 j := by
    intro j a
    rw [up_ap, if_neg (by omega), up_ap, if_neg (by omega), up_ap, if_neg (by omega), up_ap, if_neg (by omega), up_ap, if_neg (by omega)]
  refine ⟨FrK_57 (FrK_q (FrK_q (FrK_q (FrK_q h1 (by omega)) (by omega)) (by omega)) (by omega)) (by omega), ⟨RFs_to h2 (fun q j hq hj => hu q j (by omega) (by omega)) (fun j hj => hu 83 j (by decide) (by omega)), ?_, ?_, ?_, Or.inl rfl, ?_, fun j v e => ?_, Or.inr rfl, hk, show (0 : Int) ≤ 0 ∧ (0 : Int) ≤ 2 by decide⟩, ?_, ?_, ?_, ?_, ?_, fun j w e => ?_⟩
  · rw [up_ap, if_neg (by omega), up_ap, if_neg (by omega), up_ap, if_neg (by omega), up_ap, if_neg (by omega), up_ap, if_pos ⟨rfl, rfl⟩]
  · rw [up_ap, if_neg (by omega), up_ap, if_neg (by omega), up_ap, if_neg (by omega), up_ap, if_pos ⟨rfl, rfl⟩]
  · rw [up_ap, if_neg (by omega), up_ap, if_neg (by omega), up_ap, if_pos ⟨rfl, rfl⟩]
  · rw [up_ap, if_neg (by omega), up_ap, if_pos ⟨rfl, rfl⟩]
  · cases e
  · rw [up_ap, if_pos ⟨rfl, rfl⟩, List.length_cons]; omega
  · rw [hv 44 (by decide), h4, tot_c]
    show (tot fs : Int) = ((0 + tot fs : Nat) : Int)
    omega
  · rw [hv 42 (by decide)]; exact h5
  · rw [hv 33 (by decide)]; exact h6
  · rw [hv 34 (by decide)]; exact h7
  · rw [hu 73 _ (by decide) (by omega), hu 74 _ (by decide) (by omega)]; exact h8 j w e
theorem RC_pop (h : RC K0 m k0 (F :: r) cs o K) (ho : F.os = []) : RC K0 m k0 r cs o (up K 57 41 (r.length : Int)) := by
  obtain ⟨h1, h2, h3, h4, h5, h6, h7, h8⟩ := h
  refine ⟨FrK_57 h1 (by omega), RFs_to h2.1 (fun q j hq hj => ?_) (fun j hj => ?_), ?_, ?_, ?_, ?_, ?_, fun j w e => ?_⟩
  · rw [up_ap, if_neg (by omega)]
  · rw [up_ap, if_neg (by omega)]
  · rw [up_ap, if_pos ⟨rfl, rfl⟩]
  · rw [up_ap, if_neg (by omega), h4, tot_c, ho]
    show ((0 + tot r : Nat) : Int) = _
    omega
  · rw [up_ap, if_neg (by omega)]; exact h5
  · rw [up_ap, if_neg (by omega)]; exact h6
  · rw [up_ap, if_neg (by omega)]; exact h7
  · rw [up_ap, if_neg (by omega), up_ap, if_neg (by omega)]; exact h8 j w e
end MRC
