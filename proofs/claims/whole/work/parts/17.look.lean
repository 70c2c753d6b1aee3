/-! ===== tides and heights, as numbers ===== -/
theorem up_cell {I : HI} {p k q : Nat} {v : Int} (h : q ≠ p) : up I p k v q = I q := by
  funext j
  exact up_n (fun z => h z.1)
theorem row_cell {I : HI} {c q : Nat} {g : Nat → Int} (h : q ≠ c) : row I c g q = I q := by
  funext j
  unfold row
  rw [if_neg h]
theorem row_same {I : HI} {c : Nat} {g : Nat → Int} : row I c g c = g := by
  funext j
  unfold row
  rw [if_pos rfl]
theorem up_row' {I : HI} {c p k : Nat} {g : Nat → Int} {v : Int} (h : p ≠ c) : up (row I c g) p k v = row (up I p k v) c g := by
  funext q j
  simp only [up_ap, row_ap]
  by_cases h1 : q = c <;> by_cases h2 : q = p <;> simp_all
theorem fcs_to {I J : HI} {f : Nat} {cs : List Int} (h : fcs I f cs) (h8 : J 8 = I 8) (h9 : J 9 = I 9) (h10 : J 10 = I 10) : fcs J f cs := by
  unfold fcs at *
  rw [h8, h9, h10]
  exact h
/-- the class's formulas are the rows C -/
def FM (I : HI) (C : Nat → List Int) : Prop := ∀ f, f < 4 → (C f = [] ∧ ¬ I 9 f < I 10 f) ∨ (C f ≠ [] ∧ fcs I f (C f))
theorem FM_to {I J : HI} {C : Nat → List Int} (h : FM I C) (h8 : J 8 = I 8) (h9 : J 9 = I 9) (h10 : J 10 = I 10) : FM J C := by
  intro f hf
  rcases h f hf with ⟨a, b⟩ | ⟨a, b⟩
  · exact Or.inl ⟨a, by rw [h9, h10]; exact b⟩
  · exact Or.inr ⟨a, fcs_to b h8 h9 h10⟩
theorem fcs_lt {I : HI} {f : Nat} {cs : List Int} (h : fcs I f cs) (hc : cs ≠ []) : I 9 f < I 10 f := by
  have h2 := h.2.1
  have : 0 < cs.length := List.length_pos_iff.mpr hc
  omega
theorem FM_iff {I : HI} {C : Nat → List Int} (h : FM I C) {f : Nat} (hf : f < 4) : I 9 f < I 10 f ↔ C f ≠ [] := by
  rcases h f hf with ⟨a, b⟩ | ⟨a, b⟩
  · exact ⟨fun z => absurd z b, fun z => absurd a z⟩
  · exact ⟨fun _ => a, fun _ => fcs_lt b a⟩
theorem FM_fcs {I : HI} {C : Nat → List Int} (h : FM I C) {f : Nat} (hf : f < 4) (hc : C f ≠ []) : fcs I f (C f) := by
  rcases h f hf with ⟨a, b⟩ | ⟨a, b⟩
  · exact absurd a hc
  · exact b
theorem evL_congr {s1 s2 : Nat → Int} {s : Int} {stk : List Int} (h : -9 < s → s < 0 → s1 (-1 - s).toNat = s2 (-1 - s).toNat) : evL s1 s stk = evL s2 s stk := by
  unfold evL
  by_cases h1 : -9 < s
  · rw [if_pos h1, if_pos h1]
    by_cases h2 : 0 ≤ s
    · rw [if_pos h2, if_pos h2]
    · rw [if_neg h2, if_neg h2, h h1 (by omega)]
  · rw [if_neg h1, if_neg h1]
theorem evs_congr {s1 s2 : Nat → Int} : ∀ {cs stk : List Int}, (∀ s ∈ cs, -9 < s → s < 0 → s1 (-1 - s).toNat = s2 (-1 - s).toNat) → evs s1 cs stk = evs s2 cs stk
  | [], _, _ => rfl
  | s :: r, stk, h => by
    show evs s1 r (evL s1 s stk) = evs s2 r (evL s2 s stk)
    rw [evL_congr (h s List.mem_cons_self)]
    exact evs_congr (fun x hx => h x (List.mem_cons_of_mem _ hx))
theorem ev_congr {s1 s2 : Nat → Int} {cs : List Int} (h : ∀ s ∈ cs, -9 < s → s < 0 → s1 (-1 - s).toNat = s2 (-1 - s).toNat) : ev s1 cs = ev s2 cs := by
  unfold ev
  rw [evs_congr h]
/-- each formula sees what it may -/
def FS (C : Nat → List Int) : Prop := (∀ s ∈ C 0, -9 < s → -1 ≤ s) ∧ (∀ s ∈ C 1, -9 < s → -1 ≤ s) ∧ (∀ s ∈ C 2, -9 < s → -6 ≤ s) ∧ (∀ s ∈ C 3, s ≠ -2 ∧ s ≠ -3)
def hg (z : Int) : Int := min (max z 0) 9999
theorem hg_in (z : Int) : 0 ≤ hg z ∧ hg z ≤ 9999 := by unfold hg; omega
def wat (C : Nat → List Int) (h : Int) : Int := if C 0 = [] then 100 else hg (ev (fun _ => h) (C 0))
def mon (C : Nat → List Int) (h : Int) : Int := if C 1 = [] then 0 else hg (ev (fun _ => h) (C 1))
theorem wat_in (C : Nat → List Int) (h : Int) : 0 ≤ wat C h ∧ wat C h ≤ 9999 := by
  unfold wat
  split
  · omega
  · exact hg_in _
theorem mon_in (C : Nat → List Int) (h : Int) : 0 ≤ mon C h ∧ mon C h ≤ 9999 := by
  unfold mon
  split
  · omega
  · exact hg_in _
def seR (C : Nat → List Int) (h w l t : Int) : Nat → Int := fun k => if k = 0 then h else if k = 1 then wat C h else if k = 2 then mon C h else if k = 3 then w else if k = 4 then l else t
def hei (C : Nat → List Int) (h w l t : Int) : Int := if C 2 = [] then hg (wat C h + l * mon C h / 100 - w) else hg (ev (seR C h w l t) (C 2))
theorem hei_in (C : Nat → List Int) (h w l t : Int) : 0 ≤ hei C h w l t ∧ hei C h w l t ≤ 9999 := by
  unfold hei
  split <;> exact hg_in _
def seM (h w l t c g : Int) : Nat → Int := fun k => if k = 0 then h else if k = 3 then w else if k = 4 then l else if k = 5 then t else if k = 6 then c else g
def alw (C : Nat → List Int) (h w l t c : Int) : Prop := C 3 = [] ∨ ev (seM h w l t c (hei C h w l t)) (C 3) ≠ 0
theorem sp_X5_height {I : HI} {Q : Option AV → HI → Prop} {z : Int} (kq : Q (some (aI (hg z))) I) : Rj MX5_height 1 [aI z] I Q := by
  refine rj_of okX5_height (Nat.le_of_ble_eq_true rfl) rfl ?_
  refine b_iload_n rfl rfl ?_
  refine b_iconst rfl (by decide) ?_
  refine b_mmax rfl ml5_71 (by omega) (Nat.le_of_ble_eq_true rfl) ?_
  refine b_sipush rfl (by decide) ?_
  refine b_mmin rfl ml5_74 (by omega) (Nat.le_of_ble_eq_true rfl) ?_
  refine b_iret rfl rfl ?_
  exact kq
def seB (I : HI) : Prop := ∀ k, k < 8 → -1000000 ≤ I 28 k ∧ I 28 k ≤ 1000000
def atH (I : HI) (C : Nat → List Int) (h : Int) : HI := up (up (up I 28 0 h) 28 1 (wat C h)) 28 2 (mon C h)
theorem atH_cell {I : HI} {C : Nat → List Int} {h : Int} {q : Nat} (hq : q ≠ 28) : atH I C h q = I q := by
  unfold atH
  rw [up_cell hq, up_cell hq, up_cell hq]
theorem seB_up {I : HI} {k : Nat} {v : Int} (h : seB I) (hv : -1000000 ≤ v ∧ v ≤ 1000000) : seB (up I 28 k v) := by
  intro j hj
  rw [up_ap]
  split
  · exact hv
  · exact h j hj
theorem seB_row {I : HI} {g : Nat → Int} (h : seB I) : seB (row I 29 g) := by
  intro j hj
  rw [row_cell (by decide)]
  exact h j hj
theorem seB_at {I : HI} {C : Nat → List Int} {h : Int} (hs : seB I) (hh : 0 ≤ h ∧ h ≤ 100000) : seB (atH I C h) := by
  have h1 := wat_in C h
  have h2 := mon_in C h
  exact seB_up (seB_up (seB_up hs (by omega)) (by omega)) (by omega)
theorem spf_tells {I : HI} {Q : Option AV → HI → Prop} {C : Nat → List Int} (f : Nat) (hf : f < 4) (hF : FM I C) (k1 : C f ≠ [] → Q (some (aI 1)) I) (k0 : C f = [] → Q (some (aI 0)) I) : Rj MX3_tells 0 [aR 3, aI (f : Int)] I Q := by
  refine sp_X3_tells_3 (by omega) ?_
  rw [Int.toNat_natCast]
  by_cases h : C f = []
  · rw [if_neg (fun z => (FM_iff hF hf).mp z h)]; exact k0 h
  · rw [if_pos ((FM_iff hF hf).mpr h)]; exact k1 h
theorem sp_X5_atHour {I : HI} {Q : Option AV → HI → Prop} {C : Nat → List Int} {h : Int} (hh : 0 ≤ h ∧ h ≤ 100000) (hF : FM I C) (hS : FS C) (hse : seB I) (kq : ∀ g, Q none (row (atH I C h) 29 g)) : Rj MX5_atHour 3 [aR 27, aI h] I Q := by
  have hw := wat_in C h
  have e1 : ∀ J : HI, J 28 0 = h → ev (J 28) (C 0) = ev (fun _ => h) (C 0) := fun J hJ => ev_congr (fun s hs h1 h2 => by
    have := hS.1 s hs h1
    rw [show (-1 - s).toNat = 0 by omega]
    exact hJ)
  have e2 : ∀ J : HI, J 28 0 = h → ev (J 28) (C 1) = ev (fun _ => h) (C 1) := fun J hJ => ev_congr (fun s hs h1 h2 => by
    have := hS.2.1 s hs h1
    rw [show (-1 - s).toNat = 0 by omega]
    exact hJ)
  refine rj_of okX5_atHour (Nat.le_of_ble_eq_true rfl) rfl ?_
  have tl : ∀ (J : HI) (g : Nat → Int), J = up (up I 28 0 h) 28 1 (wat C h) → Bj MX5_atHour 3 37 [some (aR 27), some (aI h)] [] (row J 29 g) Q := by
    intro J g eJ
    have j0 : J 28 0 = h := by rw [eJ]; rfl
    have c8 : row J 29 g 8 = I 8 := by rw [eJ, row_cell (by decide), up_cell (by decide), up_cell (by decide)]
    have c9 : row J 29 g 9 = I 9 := by rw [eJ, row_cell (by decide), up_cell (by decide), up_cell (by decide)]
    have c10 : row J 29 g 10 = I 10 := by rw [eJ, row_cell (by decide), up_cell (by decide), up_cell (by decide)]
    have hF2 : FM (row J 29 g) C := FM_to hF c8 c9 c10
    have js : seB J := by rw [eJ]; exact seB_up (seB_up hse (by omega)) (by omega)
    refine b_aload_n rfl rfl ?_
    refine b_getR (r := 28) rfl fl5_9 rfl (by decide) rfl rfl ?_
    refine b_iconst rfl (by decide) ?_
    refine b_aload_n rfl rfl ?_
    refine b_getR (r := 3) rfl fl5_18 rfl (by decide) rfl rfl ?_
    refine b_iconst rfl (by decide) ?_
    refine b_callV1i (ν := MX3_tells) rfl ml5_22 cvX3_tells (d' := 0) (by omega) rfl (by decide) rfl (Nat.le_of_ble_eq_true rfl) ?_
    refine spf_tells 1 (by decide) hF2 (fun ht => ?_) (fun ht => ?_)
    · refine ⟨_, rfl, ?_⟩
      refine b_if_eq (tgt := 64) rfl rfl (fun z => absurd z (by decide)) (fun _ => ?_)
      refine b_aload_n rfl rfl ?_
      refine b_iconst rfl (by decide) ?_
      refine b_callV1i (ν := MX5_reckon) rfl ml5_28 cvX5_reckon (d' := 2) (by omega) rfl (by decide) rfl (Nat.le_of_ble_eq_true rfl) ?_
      refine sp_X5_reckon (cs := C 1) (by decide) (FM_fcs hF2 (f := 1) (by decide) ht) (seB_row js) ?_
      intro g2
      rw [row_row, row_cell (by decide), e2 J j0]
      refine ⟨_, rfl, ?_⟩
      refine b_callS1i (ν := MX5_height) rfl ml5_32 csX5_height (d' := 1) (by omega) (Nat.le_of_ble_eq_true rfl) ?_
      refine sp_X5_height ?_
      refine ⟨_, rfl, ?_⟩
      refine b_goto (tgt := 65) rfl rfl ?_
      refine b_iastL (k := 2) rfl rfl rfl (by decide) ?_
      refine b_vret rfl rfl ?_
      rw [up_row' (by decide), eJ]
      have := kq
      unfold atH mon at this
      first | (simp only [if_neg ht] at this; exact this _) | (simp only [if_pos ht] at this; exact this _)
    · refine ⟨_, rfl, ?_⟩
      refine b_if_eq (tgt := 64) rfl rfl (fun _ => ?_) (fun z => absurd z (by decide))
      refine b_iconst rfl (by decide) ?_
      refine b_iastL (k := 2) rfl rfl rfl (by decide) ?_
      refine b_vret rfl rfl ?_
      rw [up_row' (by decide), eJ]
      have := kq
      unfold atH mon at this
      first | (simp only [if_neg ht] at this; exact this _) | (simp only [if_pos ht] at this; exact this _)
  have c8 : up I 28 0 h 8 = I 8 := up_cell (by decide)
  have c9 : up I 28 0 h 9 = I 9 := up_cell (by decide)
  have c10 : up I 28 0 h 10 = I 10 := up_cell (by decide)
  have hF2 : FM (up I 28 0 h) C := FM_to hF c8 c9 c10
  have js : seB (up I 28 0 h) := seB_up hse (by omega)
  refine b_aload_n rfl rfl ?_
  refine b_getR (r := 28) rfl fl5_9 rfl (by decide) rfl rfl ?_
  refine b_iconst rfl (by decide) ?_
  refine b_iload_n rfl rfl ?_
  refine b_iastL (k := 0) rfl rfl rfl (by decide) ?_
  refine b_aload_n rfl rfl ?_
  refine b_getR (r := 28) rfl fl5_9 rfl (by decide) rfl rfl ?_
  refine b_iconst rfl (by decide) ?_
  refine b_aload_n rfl rfl ?_
  refine b_getR (r := 3) rfl fl5_18 rfl (by decide) rfl rfl ?_
  refine b_iconst rfl (by decide) ?_
  refine b_callV1i (ν := MX3_tells) rfl ml5_22 cvX3_tells (d' := 0) (by omega) rfl (by decide) rfl (Nat.le_of_ble_eq_true rfl) ?_
  refine spf_tells 0 (by decide) hF2 (fun ht => ?_) (fun ht => ?_)
  · refine ⟨_, rfl, ?_⟩
    refine b_if_eq (tgt := 34) rfl rfl (fun z => absurd z (by decide)) (fun _ => ?_)
    refine b_aload_n rfl rfl ?_
    refine b_iconst rfl (by decide) ?_
    refine b_callV1i (ν := MX5_reckon) rfl ml5_28 cvX5_reckon (d' := 2) (by omega) rfl (by decide) rfl (Nat.le_of_ble_eq_true rfl) ?_
    refine sp_X5_reckon (cs := C 0) (by decide) (FM_fcs hF2 (f := 0) (by decide) ht) js ?_
    intro g2
    rw [e1 _ rfl]
    refine ⟨_, rfl, ?_⟩
    refine b_callS1i (ν := MX5_height) rfl ml5_32 csX5_height (d' := 1) (by omega) (Nat.le_of_ble_eq_true rfl) ?_
    refine sp_X5_height ?_
    refine ⟨_, rfl, ?_⟩
    refine b_goto (tgt := 36) rfl rfl ?_
    refine b_iastL (k := 1) rfl rfl rfl (by decide) ?_
    first
    | (rw [up_row' (by decide)]
       refine tl _ _ ?_
       unfold wat
       rw [if_neg ht])
    | (refine b_eq rfl rfl (row_self (c := 29)).symm ?_
       refine tl _ _ ?_
       unfold wat
       rw [if_pos ht])
  · refine ⟨_, rfl, ?_⟩
    refine b_if_eq (tgt := 34) rfl rfl (fun _ => ?_) (fun z => absurd z (by decide))
    refine b_bipush rfl (by decide) ?_
    refine b_iastL (k := 1) rfl rfl rfl (by decide) ?_
    first
    | (rw [up_row' (by decide)]
       refine tl _ _ ?_
       unfold wat
       rw [if_neg ht])
    | (refine b_eq rfl rfl (row_self (c := 29)).symm ?_
       refine tl _ _ ?_
       unfold wat
       rw [if_pos ht])
theorem sp_X5_waterAt {I : HI} {Q : Option AV → HI → Prop} {C : Nat → List Int} {h : Int} (hh : 0 ≤ h ∧ h ≤ 100000) (hF : FM I C) (hS : FS C) (hse : seB I) (kq : ∀ g, Q (some (aI (wat C h))) (row (atH I C h) 29 g)) : Rj MX5_waterAt 4 [aR 27, aI h] I Q := by
  refine rj_of okX5_waterAt (Nat.le_of_ble_eq_true rfl) rfl ?_
  refine b_aload_n rfl rfl ?_
  refine b_iload_n rfl rfl ?_
  refine b_callV1v (ν := MX5_atHour) rfl ml5_35 cvX5_atHour (d' := 3) (by omega) rfl (by decide) rfl (Nat.le_of_ble_eq_true rfl) ?_
  refine sp_X5_atHour hh hF hS hse ?_
  intro g
  refine ⟨rfl, ?_⟩
  refine b_aload_n rfl rfl ?_
  refine b_getR (r := 28) rfl fl5_9 rfl (by decide) rfl rfl ?_
  refine b_iconst rfl (by decide) ?_
  refine b_ialdL (k := 1) rfl rfl rfl (by decide) ?_
  refine b_iret rfl rfl ?_
  exact qI (kq g) rfl rfl
theorem sp_X5_moonAt {I : HI} {Q : Option AV → HI → Prop} {C : Nat → List Int} {h : Int} (hh : 0 ≤ h ∧ h ≤ 100000) (hF : FM I C) (hS : FS C) (hse : seB I) (kq : ∀ g, Q (some (aI (mon C h))) (row (atH I C h) 29 g)) : Rj MX5_moonAt 4 [aR 27, aI h] I Q := by
  refine rj_of okX5_moonAt (Nat.le_of_ble_eq_true rfl) rfl ?_
  refine b_aload_n rfl rfl ?_
  refine b_iload_n rfl rfl ?_
  refine b_callV1v (ν := MX5_atHour) rfl ml5_35 cvX5_atHour (d' := 3) (by omega) rfl (by decide) rfl (Nat.le_of_ble_eq_true rfl) ?_
  refine sp_X5_atHour hh hF hS hse ?_
  intro g
  refine ⟨rfl, ?_⟩
  refine b_aload_n rfl rfl ?_
  refine b_getR (r := 28) rfl fl5_9 rfl (by decide) rfl rfl ?_
  refine b_iconst rfl (by decide) ?_
  refine b_ialdL (k := 2) rfl rfl rfl (by decide) ?_
  refine b_iret rfl rfl ?_
  exact qI (kq g) rfl rfl
