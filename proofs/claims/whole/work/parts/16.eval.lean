def evL (sees : Nat → Int) (s : Int) (stk : List Int) : List Int :=
  if -9 < s then (if 0 ≤ s then s else sees (-1 - s).toNat) :: stk
  else if s = -9 then (match stk with | x :: r => (1 - x) :: r | [] => [])
  else if s = -10 then (match stk with | b :: a :: c :: r => (if c = 0 then b else a) :: r | _ => [])
  else (match stk with | b :: a :: r => jn s a b :: r | _ => [])
def evs (sees : Nat → Int) (cs : List Int) (stk : List Int) : List Int := cs.foldl (fun k s => evL sees s k) stk
/-- a row of steps that fits a stack of such values (true: it is 0 or 1) -/
def wff : List Int → List Bool → Prop
  | [], fl => fl.length = 1
  | s :: r, fl =>
    if -9 < s then s ≤ 9999 ∧ fl.length < 64 ∧ wff r (decide (s = 0 ∨ s = 1) :: fl)
    else if s = -9 then ∃ rest, fl = true :: rest ∧ wff r (true :: rest)
    else if s = -10 then ∃ a b rest, fl = a :: b :: true :: rest ∧ wff r (false :: rest)
    else if s = -11 ∨ s = -12 then ∃ rest, fl = true :: true :: rest ∧ wff r (true :: rest)
    else if s = -13 ∨ s = -14 ∨ s = -15 then ∃ a b rest, fl = a :: b :: rest ∧ wff r (true :: rest)
    else -22 ≤ s ∧ ∃ a b rest, fl = a :: b :: rest ∧ wff r (false :: rest)
/-- values and their marks -/
def vfl : List Int → List Bool → Prop
  | [], [] => True
  | v :: t, b :: u => (-1000000 ≤ v ∧ v ≤ 1000000) ∧ (b = true → v = 0 ∨ v = 1) ∧ vfl t u
  | _, _ => False
theorem vfl_len : ∀ {st : List Int} {fl : List Bool}, vfl st fl → st.length = fl.length
  | [], [], _ => rfl
  | _ :: _, _ :: _, h => by simp [vfl_len h.2.2]
  | [], _ :: _, h => h.elim
  | _ :: _, [], h => h.elim
def arr (g : Nat → Int) (stk : List Int) : Prop := ∀ i v, stk[i]? = some v → g (stk.length - 1 - i) = v
theorem arr_push {g : Nat → Int} {stk : List Int} {v : Int} (h : arr g stk) : arr (fun j => if j = stk.length then v else g j) (v :: stk) := by
  intro i w hi
  cases i with
  | zero =>
    cases hi
    simp
  | succ i =>
    have h1 : stk[i]? = some w := hi
    have h2 : i < stk.length := (List.getElem?_eq_some_iff.mp h1).1
    have h3 := h i w h1
    simp only [List.length_cons]
    rw [show stk.length + 1 - 1 - (i + 1) = stk.length - 1 - i by omega, if_neg (by omega)]
    exact h3
theorem arr_pop {g : Nat → Int} {stk : List Int} {v : Int} (h : arr g (v :: stk)) : arr g stk := by
  intro i w hi
  have h2 : i < stk.length := (List.getElem?_eq_some_iff.mp hi).1
  have := h (i + 1) w hi
  simp only [List.length_cons] at this
  rw [show stk.length + 1 - 1 - (i + 1) = stk.length - 1 - i by omega] at this
  exact this
theorem arr_top {g : Nat → Int} {stk : List Int} {v : Int} (h : arr g (v :: stk)) : g stk.length = v := by
  have := h 0 v rfl
  simpa using this
theorem iOr_b {a b : Int} (ha : a = 0 ∨ a = 1) (hb : b = 0 ∨ b = 1) : iOr a b = 0 ∨ iOr a b = 1 := by
  rcases ha with e | e <;> rcases hb with e2 | e2 <;> subst e <;> subst e2 <;> decide
theorem iAnd_b {a b : Int} (ha : a = 0 ∨ a = 1) (hb : b = 0 ∨ b = 1) : iAnd a b = 0 ∨ iAnd a b = 1 := by
  rcases ha with e | e <;> rcases hb with e2 | e2 <;> subst e <;> subst e2 <;> decide
theorem jn_b {s a b : Int} (hs : s = -13 ∨ s = -14 ∨ s = -15 ∨ ((s = -11 ∨ s = -12) ∧ (a = 0 ∨ a = 1) ∧ (b = 0 ∨ b = 1))) : jn s a b = 0 ∨ jn s a b = 1 := by
  have key : jnv s a b = 0 ∨ jnv s a b = 1 := by
    unfold jnv
    rcases hs with e | e | e | ⟨e | e, h1, h2⟩ <;> subst e <;> simp
    · omega
    · omega
    · omega
    · exact iOr_b h1 h2
    · exact iAnd_b h1 h2
  unfold jn
  rw [cl6_id (by omega)]
  exact key
/-- the marks stay true of the values -/
theorem vfl_step {sees : Nat → Int} {s : Int} {r : List Int} {stk : List Int} {fl : List Bool} (hse : ∀ k, k < 8 → -1000000 ≤ sees k ∧ sees k ≤ 1000000) (hw : wff (s :: r) fl) (hv : vfl stk fl) : ∃ fl', wff r fl' ∧ vfl (evL sees s stk) fl' := by
  unfold wff at hw
  unfold evL
  by_cases h1 : -9 < s
  · rw [if_pos h1] at hw ⊢
    refine ⟨_, hw.2.2, ?_, ?_, hv⟩
    · split
      · omega
      · exact hse _ (by omega)
    · intro hb
      have := of_decide_eq_true hb
      rw [if_pos (by omega)]
      exact this
  · rw [if_neg h1] at hw ⊢
    by_cases h2 : s = -9
    · rw [if_pos h2] at hw ⊢
      obtain ⟨rest, rfl, hw⟩ := hw
      match stk, hv with
      | x :: t, hv => exact ⟨_, hw, by have := hv.2.1 rfl; omega, fun _ => by have := hv.2.1 rfl; omega, hv.2.2⟩
    · rw [if_neg h2] at hw ⊢
      by_cases h3 : s = -10
      · rw [if_pos h3] at hw ⊢
        obtain ⟨a, b, rest, rfl, hw⟩ := hw
        match stk, hv with
        | x :: y :: z :: t, hv =>
          refine ⟨_, hw, ?_, fun h => (by cases h), hv.2.2.2.2.2.2⟩
          show _ ≤ (if z = 0 then x else y) ∧ _
          have q1 := hv.1
          have q2 := hv.2.2.1
          split <;> assumption
      · rw [if_neg h3] at hw ⊢
        by_cases h4 : s = -11 ∨ s = -12
        · rw [if_pos h4] at hw
          obtain ⟨rest, rfl, hw⟩ := hw
          match stk, hv with
          | x :: y :: t, hv => exact ⟨_, hw, cl6_in _, fun _ => jn_b (Or.inr (Or.inr (Or.inr ⟨h4, hv.2.2.2.1 rfl, hv.2.1 rfl⟩))), hv.2.2.2.2⟩
        · rw [if_neg h4] at hw
          by_cases h5 : s = -13 ∨ s = -14 ∨ s = -15
          · rw [if_pos h5] at hw
            obtain ⟨a, b, rest, rfl, hw⟩ := hw
            match stk, hv with
            | x :: y :: t, hv => exact ⟨_, hw, cl6_in _, fun _ => jn_b (by rcases h5 with e | e | e <;> simp [e]), hv.2.2.2.2⟩
          · rw [if_neg h5] at hw
            obtain ⟨-, a, b, rest, rfl, hw⟩ := hw
            match stk, hv with
            | x :: y :: t, hv => exact ⟨_, hw, cl6_in _, fun h => (by cases h), hv.2.2.2.2⟩
/-- what a step needs of the stack -/
theorem wff_need {s : Int} {r : List Int} {fl : List Bool} (hw : wff (s :: r) fl) : (-9 < s → s ≤ 9999 ∧ fl.length < 64) ∧ (s = -9 → 1 ≤ fl.length) ∧ (s = -10 → 3 ≤ fl.length) ∧ (s < -10 → -22 ≤ s ∧ 2 ≤ fl.length) := by
  unfold wff at hw
  refine ⟨fun h => ?_, fun h => ?_, fun h => ?_, fun h => ?_⟩
  · rw [if_pos h] at hw; exact ⟨hw.1, hw.2.1⟩
  · rw [if_neg (by omega), if_pos h] at hw
    obtain ⟨rest, rfl, -⟩ := hw
    simp
  · rw [if_neg (by omega), if_neg (by omega), if_pos h] at hw
    obtain ⟨a, b, rest, rfl, -⟩ := hw
    simp
  · rw [if_neg (by omega), if_neg (by omega), if_neg (by omega)] at hw
    by_cases h4 : s = -11 ∨ s = -12
    · rw [if_pos h4] at hw
      obtain ⟨rest, rfl, -⟩ := hw
      exact ⟨by omega, by simp⟩
    · rw [if_neg h4] at hw
      by_cases h5 : s = -13 ∨ s = -14 ∨ s = -15
      · rw [if_pos h5] at hw
        obtain ⟨a, b, rest, rfl, -⟩ := hw
        exact ⟨by omega, by simp⟩
      · rw [if_neg h5] at hw
        obtain ⟨h6, a, b, rest, rfl, -⟩ := hw
        exact ⟨h6, by simp⟩
theorem evs_fin {sees : Nat → Int} (hse : ∀ k, k < 8 → -1000000 ≤ sees k ∧ sees k ≤ 1000000) : ∀ {cs : List Int} {stk : List Int} {fl : List Bool}, wff cs fl → vfl stk fl → ∃ v, evs sees cs stk = [v] ∧ -1000000 ≤ v ∧ v ≤ 1000000
  | [], [], fl, hw, hv => by
    have := vfl_len hv
    have h1 : fl.length = 1 := hw
    rw [h1] at this
    cases this
  | [], [v], [b], _, hv => ⟨v, rfl, hv.1⟩
  | [], v :: w :: t, fl, hw, hv => by
    have := vfl_len hv
    have h1 : fl.length = 1 := hw
    rw [h1] at this
    simp at this
  | s :: r, stk, fl, hw, hv => by
    obtain ⟨fl', h1, h2⟩ := vfl_step hse hw hv
    exact (show ∃ v, evs sees r (evL sees s stk) = [v] ∧ -1000000 ≤ v ∧ v ≤ 1000000 from evs_fin hse h1 h2)
def ev (sees : Nat → Int) (cs : List Int) : Int := (evs sees cs []).headD 0
/-- formula f of the class's plan is the row cs -/
def fcs (I : HI) (f : Nat) (cs : List Int) : Prop := 0 ≤ I 9 f ∧ I 10 f = I 9 f + cs.length ∧ I 10 f ≤ 1600 ∧ (∀ j v, cs[j]? = some v → I 8 ((I 9 f).toNat + j) = v) ∧ wff cs []
theorem sp_X5_reckon {I : HI} {Q : Option AV → HI → Prop} {f : Int} {cs : List Int} (hf : 0 ≤ f ∧ f < 4) (hc : fcs I f.toNat cs) (hse : ∀ k, k < 8 → -1000000 ≤ I 28 k ∧ I 28 k ≤ 1000000) (kq : ∀ g, Q (some (aI (ev (I 28) cs))) (row I 29 g)) : Rj MX5_reckon 2 [aR 27, aI f] I Q := by
  obtain ⟨hc1, hc2, hc3, hc4, hc5⟩ := hc
  have lp : ∀ (cs stk : List Int) (fl : List Bool) (t k : Int) (x4 : Option AV) (g : Nat → Int), t = stk.length → stk.length ≤ 64 → 0 ≤ k → k + cs.length = I 10 f.toNat → (∀ j v, cs[j]? = some v → I 8 (k.toNat + j) = v) → wff cs fl → vfl stk fl → arr g stk → (∀ g v, evs (I 28) cs stk = [v] → Q (some (aI v)) (row I 29 g)) → Bj MX5_reckon 2 12 [some (aR 27), some (aI f), some (aI t), some (aI k), x4] [] (row I 29 g) Q := by
    intro cs
    induction cs with
    | nil =>
      intro stk fl t k x4 g ht ht64 hk hke hcs hw hv ha hq
      obtain ⟨v, e1, -⟩ := evs_fin hse hw hv
      have e2 : stk = [v] := e1
      subst e2
      have hg : g 0 = v := ha 0 v rfl
      simp at hke ht
      refine b_iload_n rfl rfl ?_
      refine b_aload_n rfl rfl ?_
      refine b_getR (r := 3) rfl fl5_18 rfl (by decide) rfl rfl ?_
      refine b_getR (r := 10) rfl fl5_80 rfl (by decide) rfl rfl ?_
      refine b_iload_n rfl rfl ?_
      refine b_iald rfl rfl (by omega) (by omega) ?_
      try simp only [up_ap, cpy_ap, fil_ap, row_ap, Nat.reduceEqDiff, Nat.reduceLT, Nat.reduceLeDiff, Int.toNat_natCast, Int.reduceToNat, reduceCtorEq, false_and, and_false, true_and, and_true, and_self, reduceIte]
      refine b_icmp_ge (tgt := 212) rfl rfl (fun c22 => ?_) (fun c22 => ?_)
      · refine b_iload_n rfl rfl ?_
        refine b_if_le (tgt := 225) rfl rfl (fun c213 => ?_) (fun c213 => ?_)
        · omega
        · refine b_aload_n rfl rfl ?_
          refine b_getR (r := 29) rfl fl5_15 rfl (by decide) rfl rfl ?_
          refine b_iconst rfl (by decide) ?_
          refine b_ialdL (k := 0) rfl rfl rfl (by decide) ?_
          try simp only [up_ap, cpy_ap, fil_ap, row_ap, Nat.reduceEqDiff, Nat.reduceLT, Nat.reduceLeDiff, Int.toNat_natCast, Int.reduceToNat, reduceCtorEq, false_and, and_false, true_and, and_true, and_self, reduceIte]
          refine b_goto (tgt := 226) rfl rfl ?_
          refine b_iret rfl rfl ?_
          exact qI (hq g v rfl) hg.symm rfl
      · omega
    | cons s r ih =>
      intro stk fl t k x4 g ht ht64 hk hke hcs hw hv ha hq
      obtain ⟨n1, n2, n3, n4⟩ := wff_need hw
      obtain ⟨fl', hw', hv'⟩ := vfl_step hse hw hv
      have hlen := vfl_len hv
      have hs0 : I 8 k.toNat = s := hcs 0 s rfl
      have hcs' : ∀ j v, r[j]? = some v → I 8 ((k + 1).toNat + j) = v := by
        intro j v hj
        rw [show (k + 1).toNat + j = k.toNat + (j + 1) by omega]
        exact hcs (j + 1) v hj
      simp only [List.length_cons] at hke
      have fin : ∀ (g' : Nat → Int) (t' k' : Int) (x' : Option AV), t' = (evL (I 28) s stk).length → t' ≤ 64 → k' = k + 1 → arr g' (evL (I 28) s stk) → Bj MX5_reckon 2 12 [some (aR 27), some (aI f), some (aI t'), some (aI k'), x'] [] (row I 29 g') Q := by
        intro g' t' k' x' h1 h64 h2 h3
        subst h2
        exact ih _ fl' t' _ x' g' h1 (by omega) (by omega) (by omega) hcs' hw' hv' h3 hq
      clear ih
      refine b_iload_n rfl rfl ?_
      refine b_aload_n rfl rfl ?_
      refine b_getR (r := 3) rfl fl5_18 rfl (by decide) rfl rfl ?_
      refine b_getR (r := 10) rfl fl5_80 rfl (by decide) rfl rfl ?_
      refine b_iload_n rfl rfl ?_
      refine b_iald rfl rfl (by omega) (by omega) ?_
      try simp only [up_ap, cpy_ap, fil_ap, row_ap, Nat.reduceEqDiff, Nat.reduceLT, Nat.reduceLeDiff, Int.toNat_natCast, Int.reduceToNat, reduceCtorEq, false_and, and_false, true_and, and_true, and_self, reduceIte]
      refine b_icmp_ge (tgt := 212) rfl rfl (fun c22 => ?_) (fun c22 => ?_)
      · omega
      · refine b_aload_n rfl rfl ?_
        refine b_getR (r := 3) rfl fl5_18 rfl (by decide) rfl rfl ?_
        refine b_getR (r := 8) rfl fl5_83 rfl (by decide) rfl rfl ?_
        refine b_iload_n rfl rfl ?_
        refine b_iald rfl rfl (by omega) (by omega) ?_
        try simp only [up_ap, cpy_ap, fil_ap, row_ap, Nat.reduceEqDiff, Nat.reduceLT, Nat.reduceLeDiff, Int.toNat_natCast, Int.reduceToNat, reduceCtorEq, false_and, and_false, true_and, and_true, and_self, reduceIte]
        refine b_istoreX (F := fun z34 => [some (aR 27), some (aI f), some (aI t), some (aI k), some (aI z34)]) rfl (by decide) (fun _ => rfl) (fun z34 ez34 => ?_)
        have es : z34 = s := by rw [ez34, hs0]
        subst es
        refine b_iload rfl rfl ?_
        refine b_bipush rfl (by decide) ?_
        refine b_icmp_le (tgt := 80) rfl rfl (fun c40 => ?_) (fun c40 => ?_)
        · refine b_iload rfl rfl ?_
          refine b_bipush rfl (by decide) ?_
          refine b_icmp_ne (tgt := 113) rfl rfl (fun c84 => ?_) (fun c84 => ?_)
          · refine b_iload rfl rfl ?_
            refine b_bipush rfl (by decide) ?_
            refine b_icmp_ne (tgt := 169) rfl rfl (fun c117 => ?_) (fun c117 => ?_)
            · have hstk : ∃ x y u, stk = x :: y :: u := by
                  have h3 := n4 (by omega)
                  match stk with
                  | [] => simp at hlen; omega
                  | [_] => simp at hlen; omega
                  | x :: y :: u => exact ⟨x, y, u, rfl⟩
              obtain ⟨x, y, u, rfl⟩ := hstk
              have ee : evL (I 28) z34 (x :: y :: u) = jn z34 y x :: u := by unfold evL; rw [if_neg (by omega), if_neg (by omega), if_neg (by omega)]
              simp only [List.length_cons] at ht ht64 hlen
              have et : (t - 2).toNat = u.length := by omega
              have et1 : (t - 1).toNat = u.length + 1 := by omega
              have g1 : g (u.length + 1) = x := arr_top ha
              have g2 : g u.length = y := arr_top (arr_pop ha)
              obtain ⟨fa, fb, frest, rfl⟩ : ∃ fa fb frest, fl = fa :: fb :: frest := by
                  match fl, hv with
                  | a :: b :: c, _ => exact ⟨a, b, c, rfl⟩
              refine b_iload_n rfl rfl ?_
              refine b_iconst rfl (by decide) ?_
              refine b_icmp_lt (tgt := 206) rfl rfl (fun c171 => ?_) (fun c171 => ?_)
              · omega
              · refine b_aload_n rfl rfl ?_
                refine b_getR (r := 29) rfl fl5_15 rfl (by decide) rfl rfl ?_
                refine b_iload_n rfl rfl ?_
                refine b_iconst rfl (by decide) ?_
                refine b_isubN rfl (by omega) (by omega) ?_
                refine b_iload rfl rfl ?_
                refine b_aload_n rfl rfl ?_
                refine b_getR (r := 29) rfl fl5_15 rfl (by decide) rfl rfl ?_
                refine b_iload_n rfl rfl ?_
                refine b_iconst rfl (by decide) ?_
                refine b_isubN rfl (by omega) (by omega) ?_
                refine b_iald rfl rfl (by omega) (by omega) ?_
                try simp only [up_ap, cpy_ap, fil_ap, row_ap, Nat.reduceEqDiff, Nat.reduceLT, Nat.reduceLeDiff, Int.toNat_natCast, Int.reduceToNat, reduceCtorEq, false_and, and_false, true_and, and_true, and_self, reduceIte]
                rw [et, g2]
                refine b_aload_n rfl rfl ?_
                refine b_getR (r := 29) rfl fl5_15 rfl (by decide) rfl rfl ?_
                refine b_iload_n rfl rfl ?_
                refine b_iconst rfl (by decide) ?_
                refine b_isubN rfl (by omega) (by omega) ?_
                refine b_iald rfl rfl (by omega) (by omega) ?_
                try simp only [up_ap, cpy_ap, fil_ap, row_ap, Nat.reduceEqDiff, Nat.reduceLT, Nat.reduceLeDiff, Int.toNat_natCast, Int.reduceToNat, reduceCtorEq, false_and, and_false, true_and, and_true, and_self, reduceIte]
                rw [et1, g1]
                refine b_callS3i (ν := MX5_join) rfl ml5_86 csX5_join (d' := 1) (by omega) (Nat.le_of_ble_eq_true rfl) ?_
                refine sp_X5_join hv.2.2.1 hv.1 ?_
                refine ⟨_, rfl, ?_⟩
                refine b_iast rfl rfl (by omega) (by omega) ?_
                refine b_iincX (F := fun z203 => [some (aR 27), some (aI f), some (aI z203), some (aI k), some (aI z34)]) rfl rfl (by omega) (by omega) (fun _ => rfl) (fun z203 ez203 => ?_)
                refine b_iincX (F := fun z206 => [some (aR 27), some (aI f), some (aI z203), some (aI z206), some (aI z34)]) rfl rfl (by omega) (by omega) (fun _ => rfl) (fun z206 ez206 => ?_)
                refine b_goto (tgt := 12) rfl rfl ?_
                rw [row_up]
                refine fin _ _ _ _ ?_ (by omega) (by omega) ?_
                · rw [ee]; simp only [List.length_cons] at *; omega
                · rw [ee]
                  first
                    | (rw [et]; first | (rw [if_pos (by omega)]; exact arr_push ha) | (rw [if_neg (by omega)]; exact arr_push ha))
                    | (rw [et]; exact arr_push (arr_pop ha))
                    | (rw [et, if_pos ‹_›]; exact arr_push (arr_pop (arr_pop (arr_pop ha))))
                    | (rw [et, if_neg ‹_›]; exact arr_push (arr_pop (arr_pop (arr_pop ha))))
                    | (rw [et]; exact arr_push (arr_pop (arr_pop ha)))
            · have hstk : ∃ x y w u, stk = x :: y :: w :: u := by
                  have h3 := n3 (by omega)
                  match stk with
                  | [] => simp at hlen; omega
                  | [_] => simp at hlen; omega
                  | [_, _] => simp at hlen; omega
                  | x :: y :: w :: u => exact ⟨x, y, w, u, rfl⟩
              obtain ⟨x, y, w, u, rfl⟩ := hstk
              have ee : evL (I 28) z34 (x :: y :: w :: u) = (if w = 0 then x else y) :: u := by unfold evL; rw [if_neg (by omega), if_neg (by omega), if_pos (by omega)]
              simp only [List.length_cons] at ht ht64 hlen
              have et : (t - 3).toNat = u.length := by omega
              have et2 : (t - 2).toNat = u.length + 1 := by omega
              have et1 : (t - 1).toNat = u.length + 2 := by omega
              have g1 : g (u.length + 2) = x := arr_top ha
              have g2 : g (u.length + 1) = y := arr_top (arr_pop ha)
              have g3 : g u.length = w := arr_top (arr_pop (arr_pop ha))
              refine b_iload_n rfl rfl ?_
              refine b_iconst rfl (by decide) ?_
              refine b_icmp_lt (tgt := 206) rfl rfl (fun c122 => ?_) (fun c122 => ?_)
              · omega
              · refine b_aload_n rfl rfl ?_
                refine b_getR (r := 29) rfl fl5_15 rfl (by decide) rfl rfl ?_
                refine b_iload_n rfl rfl ?_
                refine b_iconst rfl (by decide) ?_
                refine b_isubN rfl (by omega) (by omega) ?_
                refine b_aload_n rfl rfl ?_
                refine b_getR (r := 29) rfl fl5_15 rfl (by decide) rfl rfl ?_
                refine b_iload_n rfl rfl ?_
                refine b_iconst rfl (by decide) ?_
                refine b_isubN rfl (by omega) (by omega) ?_
                refine b_iald rfl rfl (by omega) (by omega) ?_
                try simp only [up_ap, cpy_ap, fil_ap, row_ap, Nat.reduceEqDiff, Nat.reduceLT, Nat.reduceLeDiff, Int.toNat_natCast, Int.reduceToNat, reduceCtorEq, false_and, and_false, true_and, and_true, and_self, reduceIte]
                rw [et, g3]
                refine b_if_eq (tgt := 154) rfl rfl (fun c140 => ?_) (fun c140 => ?_)
                · refine b_aload_n rfl rfl ?_
                  refine b_getR (r := 29) rfl fl5_15 rfl (by decide) rfl rfl ?_
                  refine b_iload_n rfl rfl ?_
                  refine b_iconst rfl (by decide) ?_
                  refine b_isubN rfl (by omega) (by omega) ?_
                  refine b_iald rfl rfl (by omega) (by omega) ?_
                  try simp only [up_ap, cpy_ap, fil_ap, row_ap, Nat.reduceEqDiff, Nat.reduceLT, Nat.reduceLeDiff, Int.toNat_natCast, Int.reduceToNat, reduceCtorEq, false_and, and_false, true_and, and_true, and_self, reduceIte]
                  try rw [et1, g1]
                  refine b_iast rfl rfl (by omega) (by omega) ?_
                  refine b_iincX (F := fun z163 => [some (aR 27), some (aI f), some (aI z163), some (aI k), some (aI z34)]) rfl rfl (by omega) (by omega) (fun _ => rfl) (fun z163 ez163 => ?_)
                  refine b_goto (tgt := 206) rfl rfl ?_
                  refine b_iincX (F := fun z206 => [some (aR 27), some (aI f), some (aI z163), some (aI z206), some (aI z34)]) rfl rfl (by omega) (by omega) (fun _ => rfl) (fun z206 ez206 => ?_)
                  refine b_goto (tgt := 12) rfl rfl ?_
                  rw [row_up]
                  refine fin _ _ _ _ ?_ (by omega) (by omega) ?_
                  · rw [ee]; simp only [List.length_cons] at *; omega
                  · rw [ee]
                    first
                      | (rw [et]; first | (rw [if_pos (by omega)]; exact arr_push ha) | (rw [if_neg (by omega)]; exact arr_push ha))
                      | (rw [et]; exact arr_push (arr_pop ha))
                      | (rw [et, if_pos ‹_›]; exact arr_push (arr_pop (arr_pop (arr_pop ha))))
                      | (rw [et, if_neg ‹_›]; exact arr_push (arr_pop (arr_pop (arr_pop ha))))
                      | (rw [et]; exact arr_push (arr_pop (arr_pop ha)))
                · refine b_aload_n rfl rfl ?_
                  refine b_getR (r := 29) rfl fl5_15 rfl (by decide) rfl rfl ?_
                  refine b_iload_n rfl rfl ?_
                  refine b_iconst rfl (by decide) ?_
                  refine b_isubN rfl (by omega) (by omega) ?_
                  refine b_iald rfl rfl (by omega) (by omega) ?_
                  try simp only [up_ap, cpy_ap, fil_ap, row_ap, Nat.reduceEqDiff, Nat.reduceLT, Nat.reduceLeDiff, Int.toNat_natCast, Int.reduceToNat, reduceCtorEq, false_and, and_false, true_and, and_true, and_self, reduceIte]
                  rw [et2, g2]
                  refine b_goto (tgt := 162) rfl rfl ?_
                  try rw [et1, g1]
                  refine b_iast rfl rfl (by omega) (by omega) ?_
                  refine b_iincX (F := fun z163 => [some (aR 27), some (aI f), some (aI z163), some (aI k), some (aI z34)]) rfl rfl (by omega) (by omega) (fun _ => rfl) (fun z163 ez163 => ?_)
                  refine b_goto (tgt := 206) rfl rfl ?_
                  refine b_iincX (F := fun z206 => [some (aR 27), some (aI f), some (aI z163), some (aI z206), some (aI z34)]) rfl rfl (by omega) (by omega) (fun _ => rfl) (fun z206 ez206 => ?_)
                  refine b_goto (tgt := 12) rfl rfl ?_
                  rw [row_up]
                  refine fin _ _ _ _ ?_ (by omega) (by omega) ?_
                  · rw [ee]; simp only [List.length_cons] at *; omega
                  · rw [ee]
                    first
                      | (rw [et]; first | (rw [if_pos (by omega)]; exact arr_push ha) | (rw [if_neg (by omega)]; exact arr_push ha))
                      | (rw [et]; exact arr_push (arr_pop ha))
                      | (rw [et, if_pos ‹_›]; exact arr_push (arr_pop (arr_pop (arr_pop ha))))
                      | (rw [et, if_neg ‹_›]; exact arr_push (arr_pop (arr_pop (arr_pop ha))))
                      | (rw [et]; exact arr_push (arr_pop (arr_pop ha)))
          · have hstk : ∃ x u, stk = x :: u := by
                cases stk with
                | nil => simp at hlen; omega
                | cons x u => exact ⟨x, u, rfl⟩
            obtain ⟨x, u, rfl⟩ := hstk
            have ee : evL (I 28) z34 (x :: u) = (1 - x) :: u := by unfold evL; rw [if_neg (by omega), if_pos (by omega)]
            simp only [List.length_cons] at ht ht64 hlen
            have et : (t - 1).toNat = u.length := by omega
            have g1 := arr_top ha
            have b1 := hv
            obtain ⟨fb, frest, rfl⟩ : ∃ fb frest, fl = fb :: frest := by
                cases fl with
                | nil => exact hv.elim
                | cons a b => exact ⟨a, b, rfl⟩
            have bx := hv.1
            refine b_iload_n rfl rfl ?_
            refine b_iconst rfl (by decide) ?_
            refine b_icmp_lt (tgt := 206) rfl rfl (fun c89 => ?_) (fun c89 => ?_)
            · omega
            · refine b_aload_n rfl rfl ?_
              refine b_getR (r := 29) rfl fl5_15 rfl (by decide) rfl rfl ?_
              refine b_iload_n rfl rfl ?_
              refine b_iconst rfl (by decide) ?_
              refine b_isubN rfl (by omega) (by omega) ?_
              refine b_iconst rfl (by decide) ?_
              refine b_aload_n rfl rfl ?_
              refine b_getR (r := 29) rfl fl5_15 rfl (by decide) rfl rfl ?_
              refine b_iload_n rfl rfl ?_
              refine b_iconst rfl (by decide) ?_
              refine b_isubN rfl (by omega) (by omega) ?_
              refine b_iald rfl rfl (by omega) (by omega) ?_
              try simp only [up_ap, cpy_ap, fil_ap, row_ap, Nat.reduceEqDiff, Nat.reduceLT, Nat.reduceLeDiff, Int.toNat_natCast, Int.reduceToNat, reduceCtorEq, false_and, and_false, true_and, and_true, and_self, reduceIte]
              rw [et, g1]
              refine b_isubN rfl (by omega) (by omega) ?_
              refine b_iast rfl rfl (by omega) (by omega) ?_
              refine b_goto (tgt := 206) rfl rfl ?_
              refine b_iincX (F := fun z206 => [some (aR 27), some (aI f), some (aI t), some (aI z206), some (aI z34)]) rfl rfl (by omega) (by omega) (fun _ => rfl) (fun z206 ez206 => ?_)
              refine b_goto (tgt := 12) rfl rfl ?_
              rw [row_up]
              refine fin _ _ _ _ ?_ (by omega) (by omega) ?_
              · rw [ee]; simp only [List.length_cons] at *; omega
              · rw [ee]
                first
                  | (rw [et]; first | (rw [if_pos (by omega)]; exact arr_push ha) | (rw [if_neg (by omega)]; exact arr_push ha))
                  | (rw [et]; exact arr_push (arr_pop ha))
                  | (rw [et, if_pos ‹_›]; exact arr_push (arr_pop (arr_pop (arr_pop ha))))
                  | (rw [et, if_neg ‹_›]; exact arr_push (arr_pop (arr_pop (arr_pop ha))))
                  | (rw [et]; exact arr_push (arr_pop (arr_pop ha)))
        · refine b_iload_n rfl rfl ?_
          refine b_bipush rfl (by decide) ?_
          refine b_icmp_ge (tgt := 206) rfl rfl (fun c46 => ?_) (fun c46 => ?_)
          · omega
          · refine b_aload_n rfl rfl ?_
            refine b_getR (r := 29) rfl fl5_15 rfl (by decide) rfl rfl ?_
            refine b_iload_n rfl rfl ?_
            refine b_iload rfl rfl ?_
            have ee : evL (I 28) z34 stk = (if 0 ≤ z34 then z34 else I 28 (-1 - z34).toNat) :: stk := by unfold evL; rw [if_pos (by omega)]
            have et : t.toNat = stk.length := by omega
            refine b_if_lt (tgt := 64) rfl rfl (fun c56 => ?_) (fun c56 => ?_)
            · refine b_aload_n rfl rfl ?_
              refine b_getR (r := 28) rfl fl5_9 rfl (by decide) rfl rfl ?_
              refine b_iconst rfl (by decide) ?_
              refine b_iload rfl rfl ?_
              refine b_isubN rfl (by omega) (by omega) ?_
              refine b_iald rfl rfl (by omega) (by omega) ?_
              try simp only [up_ap, cpy_ap, fil_ap, row_ap, Nat.reduceEqDiff, Nat.reduceLT, Nat.reduceLeDiff, Int.toNat_natCast, Int.reduceToNat, reduceCtorEq, false_and, and_false, true_and, and_true, and_self, reduceIte]
              refine b_iast rfl rfl (by omega) (by omega) ?_
              refine b_iincX (F := fun z74 => [some (aR 27), some (aI f), some (aI z74), some (aI k), some (aI z34)]) rfl rfl (by omega) (by omega) (fun _ => rfl) (fun z74 ez74 => ?_)
              refine b_goto (tgt := 206) rfl rfl ?_
              refine b_iincX (F := fun z206 => [some (aR 27), some (aI f), some (aI z74), some (aI z206), some (aI z34)]) rfl rfl (by omega) (by omega) (fun _ => rfl) (fun z206 ez206 => ?_)
              refine b_goto (tgt := 12) rfl rfl ?_
              rw [row_up]
              refine fin _ _ _ _ ?_ (by omega) (by omega) ?_
              · rw [ee]; simp only [List.length_cons] at *; omega
              · rw [ee]
                first
                  | (rw [et]; first | (rw [if_pos (by omega)]; exact arr_push ha) | (rw [if_neg (by omega)]; exact arr_push ha))
                  | (rw [et]; exact arr_push (arr_pop ha))
                  | (rw [et, if_pos ‹_›]; exact arr_push (arr_pop (arr_pop (arr_pop ha))))
                  | (rw [et, if_neg ‹_›]; exact arr_push (arr_pop (arr_pop (arr_pop ha))))
                  | (rw [et]; exact arr_push (arr_pop (arr_pop ha)))
            · refine b_iload rfl rfl ?_
              refine b_goto (tgt := 73) rfl rfl ?_
              refine b_iast rfl rfl (by omega) (by omega) ?_
              refine b_iincX (F := fun z74 => [some (aR 27), some (aI f), some (aI z74), some (aI k), some (aI z34)]) rfl rfl (by omega) (by omega) (fun _ => rfl) (fun z74 ez74 => ?_)
              refine b_goto (tgt := 206) rfl rfl ?_
              refine b_iincX (F := fun z206 => [some (aR 27), some (aI f), some (aI z74), some (aI z206), some (aI z34)]) rfl rfl (by omega) (by omega) (fun _ => rfl) (fun z206 ez206 => ?_)
              refine b_goto (tgt := 12) rfl rfl ?_
              rw [row_up]
              refine fin _ _ _ _ ?_ (by omega) (by omega) ?_
              · rw [ee]; simp only [List.length_cons] at *; omega
              · rw [ee]
                first
                  | (rw [et]; first | (rw [if_pos (by omega)]; exact arr_push ha) | (rw [if_neg (by omega)]; exact arr_push ha))
                  | (rw [et]; exact arr_push (arr_pop ha))
                  | (rw [et, if_pos ‹_›]; exact arr_push (arr_pop (arr_pop (arr_pop ha))))
                  | (rw [et, if_neg ‹_›]; exact arr_push (arr_pop (arr_pop (arr_pop ha))))
                  | (rw [et]; exact arr_push (arr_pop (arr_pop ha)))
  refine rj_of okX5_reckon (Nat.le_of_ble_eq_true rfl) rfl ?_
  refine b_iconst rfl (by decide) ?_
  refine b_istoreX_n (F := fun z1 => [some (aR 27), some (aI f), some (aI z1), none, none]) rfl (by decide) (fun _ => rfl) (fun z1 ez1 => ?_)
  refine b_aload_n rfl rfl ?_
  refine b_getR (r := 3) rfl fl5_18 rfl (by decide) rfl rfl ?_
  refine b_getR (r := 9) rfl fl5_77 rfl (by decide) rfl rfl ?_
  refine b_iload_n rfl rfl ?_
  refine b_iald rfl rfl (by omega) (by omega) ?_
  refine b_istoreX_n (F := fun z11 => [some (aR 27), some (aI f), some (aI z1), some (aI z11), none]) rfl (by decide) (fun _ => rfl) (fun z11 ez11 => ?_)
  refine b_eq rfl rfl (row_self (c := 29)).symm ?_
  refine lp cs [] [] _ _ _ _ (by rw [ez1]; rfl) (by simp) (by omega) (by omega) (by rw [ez11]; exact hc4) hc5 trivial (fun i v h => by cases h) ?_
  intro g v hv
  refine qI (kq g) ?_ rfl
  unfold ev
  rw [hv]
  rfl
