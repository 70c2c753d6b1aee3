/-! ===== the class: what the reading rests on ===== -/
def Lok (I : HI) (n p : Nat) (ts tu : Int) (H : HI) : Prop := ∃ po va : Int, H = LX I po (tk n (I 2) p : Int) (tq n (I 2) p : Int) (tsp n (I 2) p : Int) va (tw n (I 2) p) ts tu 0 (-1) ∧ (tk n (I 2) p = 1 ∨ tk n (I 2) p = 2 ∨ tk n (I 2) p = 3 → po = (te n (I 2) p : Int) ∧ va = tv n (I 2) p)
def Lbad (I : HI) (k pl : Int) (H : HI) : Prop := ∃ po st sp va wo ts tu : Int, H = LX I po 4 st sp va wo ts tu k pl ∧ k ≠ 0
theorem tk_le {n : Nat} {B : Nat → Int} {p : Nat} : tk n B p ≤ 4 := by
  unfold tk
  repeat' split
  all_goals decide
theorem sp_take {I H : HI} {Q : Option AV → HI → Prop} {n p : Nat} {ts tu : Int} (hX : TX I n) (hL : Lok I n p ts tu H) (hk : tk n (I 2) p = 1 ∨ tk n (I 2) p = 2 ∨ tk n (I 2) p = 3) (kq : ∀ H', Lok I n (te n (I 2) p) (tq n (I 2) p : Int) (tv n (I 2) p) H' → Q none H') : Rj MX1_take 1 [aR 24] H Q := by
  obtain ⟨po, va, e, h⟩ := hL
  obtain ⟨h1, h2⟩ := h hk
  subst e
  refine sp_X1_take (p := te n (I 2) p) hX h1 (te_gt hk).2 (fun po' va' h' => ?_)
  refine kq _ ⟨po', va', ?_, h'⟩
  rw [h2]
theorem sp_wrong {I H : HI} {Q : Option AV → HI → Prop} {n p : Nat} {ts tu : Int} (hL : Lok I n p ts tu H) (kq : ∀ H', Lbad I 1 (tsp n (I 2) p : Int) H' → Q none H') : Rj MX1_wrong 1 [aR 24] H Q := by
  obtain ⟨po, va, e, h⟩ := hL
  subst e
  refine rj_of okX1_wrong (Nat.le_of_ble_eq_true rfl) rfl ?_
  refine b_aload_n rfl rfl ?_
  refine b_iconst rfl (by decide) ?_
  refine b_aload_n rfl rfl ?_
  refine b_getI rfl fl1_67 rfl (by decide) rfl ?_
  rw [LX_5]
  refine b_callV2v (ν := MX1_fail) rfl ml1_89 cvX1_fail (d' := 0) (by omega) rfl (by decide) rfl (Nat.le_of_ble_eq_true rfl) ?_
  refine sp_X1_fail (fun _ => ?_) (fun z => absurd rfl z)
  refine ⟨rfl, ?_⟩
  refine b_vret rfl rfl ?_
  exact kq _ ⟨_, _, _, _, _, _, _, rfl, by decide⟩
theorem sp_wrongB {I H : HI} {Q : Option AV → HI → Prop} {k pl : Int} (hL : Lbad I k pl H) (kq : ∀ H', Lbad I k pl H' → Q none H') : Rj MX1_wrong 1 [aR 24] H Q := by
  obtain ⟨po, st, sp, va, wo, ts, tu, e, h⟩ := hL
  subst e
  refine rj_of okX1_wrong (Nat.le_of_ble_eq_true rfl) rfl ?_
  refine b_aload_n rfl rfl ?_
  refine b_iconst rfl (by decide) ?_
  refine b_aload_n rfl rfl ?_
  refine b_getI rfl fl1_67 rfl (by decide) rfl ?_
  rw [LX_5]
  refine b_callV2v (ν := MX1_fail) rfl ml1_89 cvX1_fail (d' := 0) (by omega) rfl (by decide) rfl (Nat.le_of_ble_eq_true rfl) ?_
  refine sp_X1_fail (fun z => absurd z h) (fun _ => ?_)
  refine ⟨rfl, ?_⟩
  refine b_vret rfl rfl ?_
  exact kq _ ⟨_, _, _, _, _, _, _, rfl, h⟩
theorem sp_fail {I H : HI} {Q : Option AV → HI → Prop} {n p : Nat} {ts tu w x : Int} (hw : w ≠ 0) (hL : Lok I n p ts tu H) (kq : ∀ H', Lbad I w x H' → Q none H') : Rj MX1_fail 0 [aR 24, aI w, aI x] H Q := by
  obtain ⟨po, va, e, h⟩ := hL
  subst e
  exact sp_X1_fail (fun _ => kq _ ⟨_, _, _, _, _, _, _, rfl, hw⟩) (fun z => absurd rfl z)
theorem sp_failB {I H : HI} {Q : Option AV → HI → Prop} {k pl w x : Int} (hL : Lbad I k pl H) (kq : ∀ H', Lbad I k pl H' → Q none H') : Rj MX1_fail 0 [aR 24, aI w, aI x] H Q := by
  obtain ⟨po, st, sp, va, wo, ts, tu, e, h⟩ := hL
  subst e
  exact sp_X1_fail (fun z => absurd z h) (fun _ => kq _ ⟨_, _, _, _, _, _, _, rfl, h⟩)
theorem sp_takeSign {I H : HI} {Q : Option AV → HI → Prop} {n p : Nat} {ts tu c : Int} (hX : TX I n) (hL : Lok I n p ts tu H) (k1 : tk n (I 2) p = 3 ∧ tv n (I 2) p = c → ∀ H', Lok I n (te n (I 2) p) (tq n (I 2) p : Int) (tv n (I 2) p) H' → Q (some (aI 1)) H') (k0 : ¬ (tk n (I 2) p = 3 ∧ tv n (I 2) p = c) → Q (some (aI 0)) H) : Rj MX1_takeSign 2 [aR 24, aI c] H Q := by
  have hL' := hL
  obtain ⟨po, va, e, h⟩ := hL
  have e3 : tk n (I 2) p = 3 → va = tv n (I 2) p := fun z => (h (Or.inr (Or.inr z))).2
  refine rj_of okX1_takeSign (Nat.le_of_ble_eq_true rfl) rfl ?_
  have yes_ : tk n (I 2) p = 3 ∧ tv n (I 2) p = c → ∀ z : Int, z = 1 → Bj MX1_takeSign 2 22 [some (aR 24), some (aI c), some (aI z)] [] H Q := by
    intro hc z hz
    refine b_iload_n rfl rfl ?_
    refine b_if_eq (tgt := 30) rfl rfl (fun c23 => ?_) (fun c23 => ?_)
    · omega
    · refine b_aload_n rfl rfl ?_
      refine b_callV0v (ν := MX1_take) rfl ml1_51 cvX1_take (d' := 1) (by omega) rfl (by decide) rfl (Nat.le_of_ble_eq_true rfl) ?_
      refine sp_take hX hL' (Or.inr (Or.inr hc.1)) (fun H' hH' => ?_)
      refine ⟨rfl, ?_⟩
      refine b_iload_n rfl rfl ?_
      refine b_zret rfl rfl (by first | decide | omega) ?_
      exact qI (k1 hc H' hH') (by omega) rfl
  have no_ : ¬ (tk n (I 2) p = 3 ∧ tv n (I 2) p = c) → ∀ z : Int, z = 0 → Bj MX1_takeSign 2 22 [some (aR 24), some (aI c), some (aI z)] [] H Q := by
    intro hc z hz
    refine b_iload_n rfl rfl ?_
    refine b_if_eq (tgt := 30) rfl rfl (fun c23 => ?_) (fun c23 => ?_)
    · refine b_iload_n rfl rfl ?_
      refine b_zret rfl rfl (by first | decide | omega) ?_
      exact qI (k0 hc) (by omega) rfl
    · omega
  subst e
  refine b_aload_n rfl rfl ?_
  refine b_getI rfl fl1_73 rfl (by decide) rfl ?_
  rw [LX_3]
  refine b_iconst rfl (by decide) ?_
  refine b_icmp_ne (tgt := 20) rfl rfl (fun c5 => ?_) (fun c5 => ?_)
  · refine b_iconst rfl (by decide) ?_
    refine b_istoreX_n (F := fun z21 => [some (aR 24), some (aI c), some (aI z21)]) rfl (by decide) (fun _ => rfl) (fun z21 ez21 => ?_)
    first
    | (have hz : tk n (I 2) p = 3 ∧ va = c := by omega
       exact yes_ ⟨hz.1, by rw [← e3 hz.1]; exact hz.2⟩ _ (by omega))
    | (have hz : ¬ (tk n (I 2) p = 3 ∧ va = c) := by omega
       exact no_ (fun w => hz ⟨w.1, by rw [e3 w.1]; exact w.2⟩) _ (by omega))
  · refine b_aload_n rfl rfl ?_
    refine b_getI rfl fl1_45 rfl (by decide) rfl ?_
    rw [LX_6]
    refine b_iload_n rfl rfl ?_
    refine b_icmp_ne (tgt := 20) rfl rfl (fun c13 => ?_) (fun c13 => ?_)
    · refine b_iconst rfl (by decide) ?_
      refine b_istoreX_n (F := fun z21 => [some (aR 24), some (aI c), some (aI z21)]) rfl (by decide) (fun _ => rfl) (fun z21 ez21 => ?_)
      first
      | (have hz : tk n (I 2) p = 3 ∧ va = c := by omega
         exact yes_ ⟨hz.1, by rw [← e3 hz.1]; exact hz.2⟩ _ (by omega))
      | (have hz : ¬ (tk n (I 2) p = 3 ∧ va = c) := by omega
         exact no_ (fun w => hz ⟨w.1, by rw [e3 w.1]; exact w.2⟩) _ (by omega))
    · refine b_iconst rfl (by decide) ?_
      refine b_goto (tgt := 21) rfl rfl ?_
      refine b_istoreX_n (F := fun z21 => [some (aR 24), some (aI c), some (aI z21)]) rfl (by decide) (fun _ => rfl) (fun z21 ez21 => ?_)
      first
      | (have hz : tk n (I 2) p = 3 ∧ va = c := by omega
         exact yes_ ⟨hz.1, by rw [← e3 hz.1]; exact hz.2⟩ _ (by omega))
      | (have hz : ¬ (tk n (I 2) p = 3 ∧ va = c) := by omega
         exact no_ (fun w => hz ⟨w.1, by rw [e3 w.1]; exact w.2⟩) _ (by omega))
theorem sp_takeSignB {I H : HI} {Q : Option AV → HI → Prop} {k pl c : Int} (hL : Lbad I k pl H) (kq : Q (some (aI 0)) H) : Rj MX1_takeSign 2 [aR 24, aI c] H Q := by
  obtain ⟨po, st, sp, va, wo, ts, tu, e, h⟩ := hL
  subst e
  refine rj_of okX1_takeSign (Nat.le_of_ble_eq_true rfl) rfl ?_
  refine b_aload_n rfl rfl ?_
  refine b_getI rfl fl1_73 rfl (by decide) rfl ?_
  rw [LX_3]
  refine b_iconst rfl (by decide) ?_
  refine b_icmp_ne (tgt := 20) rfl rfl (fun c5 => ?_) (fun c5 => ?_)
  · refine b_iconst rfl (by decide) ?_
    refine b_istoreX_n (F := fun z21 => [some (aR 24), some (aI c), some (aI z21)]) rfl (by decide) (fun _ => rfl) (fun z21 ez21 => ?_)
    refine b_iload_n rfl rfl ?_
    refine b_if_eq (tgt := 30) rfl rfl (fun c23 => ?_) (fun c23 => ?_)
    · refine b_iload_n rfl rfl ?_
      refine b_zret rfl rfl (by first | decide | omega) ?_
      exact qI kq (by omega) rfl
    · omega
  · omega
theorem tw_1 {n : Nat} {B : Nat → Int} {p : Nat} {w : Int} (h : tw n B p = w) (hw : 0 ≤ w) : tk n B p = 1 := by
  rcases tw_no (n := n) (B := B) (p := p) with h1 | ⟨h1, _⟩
  · omega
  · exact h1
theorem sp_takeWord {I H : HI} {Q : Option AV → HI → Prop} {n p : Nat} {ts tu w : Int} (hX : TX I n) (hw0 : 0 ≤ w) (hL : Lok I n p ts tu H) (k1 : tw n (I 2) p = w → ∀ H', Lok I n (te n (I 2) p) (tq n (I 2) p : Int) (tv n (I 2) p) H' → Q (some (aI 1)) H') (k0 : tw n (I 2) p ≠ w → Q (some (aI 0)) H) : Rj MX1_takeWord 2 [aR 24, aI w] H Q := by
  have hL' := hL
  obtain ⟨po, va, e, h⟩ := hL
  refine rj_of okX1_takeWord (Nat.le_of_ble_eq_true rfl) rfl ?_
  have yes_ : tw n (I 2) p = w → ∀ z : Int, z = 1 → Bj MX1_takeWord 2 22 [some (aR 24), some (aI w), some (aI z)] [] H Q := by
    intro hc z hz
    refine b_iload_n rfl rfl ?_
    refine b_if_eq (tgt := 30) rfl rfl (fun c23 => ?_) (fun c23 => ?_)
    · omega
    · refine b_aload_n rfl rfl ?_
      refine b_callV0v (ν := MX1_take) rfl ml1_51 cvX1_take (d' := 1) (by omega) rfl (by decide) rfl (Nat.le_of_ble_eq_true rfl) ?_
      refine sp_take hX hL' (Or.inl (tw_1 hc hw0)) (fun H' hH' => ?_)
      refine ⟨rfl, ?_⟩
      refine b_iload_n rfl rfl ?_
      refine b_zret rfl rfl (by first | decide | omega) ?_
      exact qI (k1 hc H' hH') (by omega) rfl
  have no_ : tw n (I 2) p ≠ w → ∀ z : Int, z = 0 → Bj MX1_takeWord 2 22 [some (aR 24), some (aI w), some (aI z)] [] H Q := by
    intro hc z hz
    refine b_iload_n rfl rfl ?_
    refine b_if_eq (tgt := 30) rfl rfl (fun c23 => ?_) (fun c23 => ?_)
    · refine b_iload_n rfl rfl ?_
      refine b_zret rfl rfl (by first | decide | omega) ?_
      exact qI (k0 hc) (by omega) rfl
    · omega
  subst e
  have h1 : tw n (I 2) p = w → tk n (I 2) p = 1 := fun z => tw_1 z hw0
  refine b_aload_n rfl rfl ?_
  refine b_getI rfl fl1_73 rfl (by decide) rfl ?_
  rw [LX_3]
  refine b_iconst rfl (by decide) ?_
  refine b_icmp_ne (tgt := 20) rfl rfl (fun c5 => ?_) (fun c5 => ?_)
  · refine b_iconst rfl (by decide) ?_
    refine b_istoreX_n (F := fun z21 => [some (aR 24), some (aI w), some (aI z21)]) rfl (by decide) (fun _ => rfl) (fun z21 ez21 => ?_)
    first
    | (have hz : tw n (I 2) p = w := by omega
       exact yes_ hz _ (by omega))
    | (have hz : tw n (I 2) p ≠ w := by omega
       exact no_ hz _ (by omega))
    | (have hz : tk n (I 2) p ≠ 1 := by omega
       exact no_ (fun z => hz (h1 z)) _ (by omega))
  · refine b_aload_n rfl rfl ?_
    refine b_getI rfl fl1_70 rfl (by decide) rfl ?_
    rw [LX_7]
    refine b_iload_n rfl rfl ?_
    refine b_icmp_ne (tgt := 20) rfl rfl (fun c13 => ?_) (fun c13 => ?_)
    · refine b_iconst rfl (by decide) ?_
      refine b_istoreX_n (F := fun z21 => [some (aR 24), some (aI w), some (aI z21)]) rfl (by decide) (fun _ => rfl) (fun z21 ez21 => ?_)
      first
      | (have hz : tw n (I 2) p = w := by omega
         exact yes_ hz _ (by omega))
      | (have hz : tw n (I 2) p ≠ w := by omega
         exact no_ hz _ (by omega))
      | (have hz : tk n (I 2) p ≠ 1 := by omega
         exact no_ (fun z => hz (h1 z)) _ (by omega))
    · refine b_iconst rfl (by decide) ?_
      refine b_goto (tgt := 21) rfl rfl ?_
      refine b_istoreX_n (F := fun z21 => [some (aR 24), some (aI w), some (aI z21)]) rfl (by decide) (fun _ => rfl) (fun z21 ez21 => ?_)
      first
      | (have hz : tw n (I 2) p = w := by omega
         exact yes_ hz _ (by omega))
      | (have hz : tw n (I 2) p ≠ w := by omega
         exact no_ hz _ (by omega))
      | (have hz : tk n (I 2) p ≠ 1 := by omega
         exact no_ (fun z => hz (h1 z)) _ (by omega))
theorem sp_takeWordB {I H : HI} {Q : Option AV → HI → Prop} {k pl c : Int} (hL : Lbad I k pl H) (kq : Q (some (aI 0)) H) : Rj MX1_takeWord 2 [aR 24, aI c] H Q := by
  obtain ⟨po, st, sp, va, wo, ts, tu, e, h⟩ := hL
  subst e
  refine rj_of okX1_takeWord (Nat.le_of_ble_eq_true rfl) rfl ?_
  refine b_aload_n rfl rfl ?_
  refine b_getI rfl fl1_73 rfl (by decide) rfl ?_
  rw [LX_3]
  refine b_iconst rfl (by decide) ?_
  refine b_icmp_ne (tgt := 20) rfl rfl (fun c5 => ?_) (fun c5 => ?_)
  · refine b_iconst rfl (by decide) ?_
    refine b_istoreX_n (F := fun z21 => [some (aR 24), some (aI c), some (aI z21)]) rfl (by decide) (fun _ => rfl) (fun z21 ez21 => ?_)
    refine b_iload_n rfl rfl ?_
    refine b_if_eq (tgt := 30) rfl rfl (fun c23 => ?_) (fun c23 => ?_)
    · refine b_iload_n rfl rfl ?_
      refine b_zret rfl rfl (by first | decide | omega) ?_
      exact qI kq (by omega) rfl
    · omega
  · omega
theorem sp_needSign {I H : HI} {Q : Option AV → HI → Prop} {n p : Nat} {ts tu c : Int} (hX : TX I n) (hL : Lok I n p ts tu H) (k1 : tk n (I 2) p = 3 ∧ tv n (I 2) p = c → ∀ H', Lok I n (te n (I 2) p) (tq n (I 2) p : Int) (tv n (I 2) p) H' → Q none H') (k0 : ¬ (tk n (I 2) p = 3 ∧ tv n (I 2) p = c) → ∀ H', Lbad I 1 (tsp n (I 2) p : Int) H' → Q none H') : Rj MX1_needSign 2 [aR 24, aI c] H Q := by
  have hL' := hL
  obtain ⟨po, va, e, h⟩ := hL
  have e3 : tk n (I 2) p = 3 → va = tv n (I 2) p := fun z => (h (Or.inr (Or.inr z))).2
  refine rj_of okX1_needSign (Nat.le_of_ble_eq_true rfl) rfl ?_
  have yes_ : tk n (I 2) p = 3 ∧ tv n (I 2) p = c → Bj MX1_needSign 2 16 [some (aR 24), some (aI c)] [] H Q := by
    intro hc
    refine b_aload_n rfl rfl ?_
    refine b_callV0v (ν := MX1_take) rfl ml1_51 cvX1_take (d' := 1) (by omega) rfl (by decide) rfl (Nat.le_of_ble_eq_true rfl) ?_
    refine sp_take hX hL' (Or.inr (Or.inr hc.1)) (fun H' hH' => ?_)
    refine ⟨rfl, ?_⟩
    refine b_goto (tgt := 27) rfl rfl ?_
    refine b_vret rfl rfl ?_
    exact k1 hc H' hH'
  have no_ : ¬ (tk n (I 2) p = 3 ∧ tv n (I 2) p = c) → Bj MX1_needSign 2 23 [some (aR 24), some (aI c)] [] H Q := by
    intro hc
    refine b_aload_n rfl rfl ?_
    refine b_callV0v (ν := MX1_wrong) rfl ml1_93 cvX1_wrong (d' := 1) (by omega) rfl (by decide) rfl (Nat.le_of_ble_eq_true rfl) ?_
    refine sp_wrong hL' (fun H' hH' => ?_)
    refine ⟨rfl, ?_⟩
    refine b_vret rfl rfl ?_
    exact k0 hc H' hH'
  subst e
  refine b_aload_n rfl rfl ?_
  refine b_getI rfl fl1_73 rfl (by decide) rfl ?_
  rw [LX_3]
  refine b_iconst rfl (by decide) ?_
  refine b_icmp_ne (tgt := 23) rfl rfl (fun c5 => ?_) (fun c5 => ?_)
  · have hz : ¬ (tk n (I 2) p = 3 ∧ va = c) := by omega
    exact no_ (fun w => hz ⟨w.1, by rw [e3 w.1]; exact w.2⟩)
  · refine b_aload_n rfl rfl ?_
    refine b_getI rfl fl1_45 rfl (by decide) rfl ?_
    rw [LX_6]
    refine b_iload_n rfl rfl ?_
    refine b_icmp_ne (tgt := 23) rfl rfl (fun c13 => ?_) (fun c13 => ?_)
    · have hz : ¬ (tk n (I 2) p = 3 ∧ va = c) := by omega
      exact no_ (fun w => hz ⟨w.1, by rw [e3 w.1]; exact w.2⟩)
    · have hz : tk n (I 2) p = 3 ∧ va = c := by omega
      exact yes_ ⟨hz.1, by rw [← e3 hz.1]; exact hz.2⟩
theorem sp_needSignB {I H : HI} {Q : Option AV → HI → Prop} {k pl c : Int} (hL : Lbad I k pl H) (kq : ∀ H', Lbad I k pl H' → Q none H') : Rj MX1_needSign 2 [aR 24, aI c] H Q := by
  have hL' := hL
  obtain ⟨po, st, sp, va, wo, ts, tu, e, h⟩ := hL
  refine rj_of okX1_needSign (Nat.le_of_ble_eq_true rfl) rfl ?_
  have no_ : Bj MX1_needSign 2 23 [some (aR 24), some (aI c)] [] H Q := by
    refine b_aload_n rfl rfl ?_
    refine b_callV0v (ν := MX1_wrong) rfl ml1_93 cvX1_wrong (d' := 1) (by omega) rfl (by decide) rfl (Nat.le_of_ble_eq_true rfl) ?_
    refine sp_wrongB hL' (fun H' hH' => ?_)
    refine ⟨rfl, ?_⟩
    refine b_vret rfl rfl ?_
    exact kq H' hH'
  subst e
  refine b_aload_n rfl rfl ?_
  refine b_getI rfl fl1_73 rfl (by decide) rfl ?_
  rw [LX_3]
  refine b_iconst rfl (by decide) ?_
  refine b_icmp_ne (tgt := 23) rfl rfl (fun c5 => ?_) (fun c5 => ?_)
  · exact no_
  · omega
theorem sp_needWord {I H : HI} {Q : Option AV → HI → Prop} {n p : Nat} {ts tu w : Int} (hX : TX I n) (hw0 : 0 ≤ w) (hL : Lok I n p ts tu H) (k1 : tw n (I 2) p = w → ∀ H', Lok I n (te n (I 2) p) (tq n (I 2) p : Int) (tv n (I 2) p) H' → Q none H') (k0 : tw n (I 2) p ≠ w → ∀ H', Lbad I 1 (tsp n (I 2) p : Int) H' → Q none H') : Rj MX1_needWord 2 [aR 24, aI w] H Q := by
  have hL' := hL
  obtain ⟨po, va, e, h⟩ := hL
  refine rj_of okX1_needWord (Nat.le_of_ble_eq_true rfl) rfl ?_
  have yes_ : tw n (I 2) p = w → Bj MX1_needWord 2 16 [some (aR 24), some (aI w)] [] H Q := by
    intro hc
    refine b_aload_n rfl rfl ?_
    refine b_callV0v (ν := MX1_take) rfl ml1_51 cvX1_take (d' := 1) (by omega) rfl (by decide) rfl (Nat.le_of_ble_eq_true rfl) ?_
    refine sp_take hX hL' (Or.inl (tw_1 hc hw0)) (fun H' hH' => ?_)
    refine ⟨rfl, ?_⟩
    refine b_goto (tgt := 27) rfl rfl ?_
    refine b_vret rfl rfl ?_
    exact k1 hc H' hH'
  have no_ : tw n (I 2) p ≠ w → Bj MX1_needWord 2 23 [some (aR 24), some (aI w)] [] H Q := by
    intro hc
    refine b_aload_n rfl rfl ?_
    refine b_callV0v (ν := MX1_wrong) rfl ml1_93 cvX1_wrong (d' := 1) (by omega) rfl (by decide) rfl (Nat.le_of_ble_eq_true rfl) ?_
    refine sp_wrong hL' (fun H' hH' => ?_)
    refine ⟨rfl, ?_⟩
    refine b_vret rfl rfl ?_
    exact k0 hc H' hH'
  subst e
  have h1 : tw n (I 2) p = w → tk n (I 2) p = 1 := fun z => tw_1 z hw0
  refine b_aload_n rfl rfl ?_
  refine b_getI rfl fl1_73 rfl (by decide) rfl ?_
  rw [LX_3]
  refine b_iconst rfl (by decide) ?_
  refine b_icmp_ne (tgt := 23) rfl rfl (fun c5 => ?_) (fun c5 => ?_)
  · first
    | (have hz : tw n (I 2) p ≠ w := by omega
       exact no_ hz)
    | (have hz : tk n (I 2) p ≠ 1 := by omega
       exact no_ (fun z => hz (h1 z)))
  · refine b_aload_n rfl rfl ?_
    refine b_getI rfl fl1_70 rfl (by decide) rfl ?_
    rw [LX_7]
    refine b_iload_n rfl rfl ?_
    refine b_icmp_ne (tgt := 23) rfl rfl (fun c13 => ?_) (fun c13 => ?_)
    · first
      | (have hz : tw n (I 2) p ≠ w := by omega
         exact no_ hz)
      | (have hz : tk n (I 2) p ≠ 1 := by omega
         exact no_ (fun z => hz (h1 z)))
    · exact yes_ (by omega)
theorem sp_needWordB {I H : HI} {Q : Option AV → HI → Prop} {k pl c : Int} (hL : Lbad I k pl H) (kq : ∀ H', Lbad I k pl H' → Q none H') : Rj MX1_needWord 2 [aR 24, aI c] H Q := by
  have hL' := hL
  obtain ⟨po, st, sp, va, wo, ts, tu, e, h⟩ := hL
  refine rj_of okX1_needWord (Nat.le_of_ble_eq_true rfl) rfl ?_
  have no_ : Bj MX1_needWord 2 23 [some (aR 24), some (aI c)] [] H Q := by
    refine b_aload_n rfl rfl ?_
    refine b_callV0v (ν := MX1_wrong) rfl ml1_93 cvX1_wrong (d' := 1) (by omega) rfl (by decide) rfl (Nat.le_of_ble_eq_true rfl) ?_
    refine sp_wrongB hL' (fun H' hH' => ?_)
    refine ⟨rfl, ?_⟩
    refine b_vret rfl rfl ?_
    exact kq H' hH'
  subst e
  refine b_aload_n rfl rfl ?_
  refine b_getI rfl fl1_73 rfl (by decide) rfl ?_
  rw [LX_3]
  refine b_iconst rfl (by decide) ?_
  refine b_icmp_ne (tgt := 23) rfl rfl (fun c5 => ?_) (fun c5 => ?_)
  · exact no_
  · omega
theorem sp_needNumber {I H : HI} {Q : Option AV → HI → Prop} {n p : Nat} {ts tu a b : Int} (hX : TX I n) (hL : Lok I n p ts tu H) (k1 : tk n (I 2) p = 2 → a ≤ tv n (I 2) p → tv n (I 2) p ≤ b → ∀ H', Lok I n (te n (I 2) p) (tq n (I 2) p : Int) (tv n (I 2) p) H' → Q (some (aI (tv n (I 2) p))) H') (k4 : tk n (I 2) p = 2 → ¬ (a ≤ tv n (I 2) p ∧ tv n (I 2) p ≤ b) → ∀ H', Lbad I 4 (tq n (I 2) p : Int) H' → Q (some (aI 0)) H') (k0 : tk n (I 2) p ≠ 2 → ∀ H', Lbad I 1 (tsp n (I 2) p : Int) H' → Q (some (aI 0)) H') : Rj MX1_needNumber 2 [aR 24, aI a, aI b] H Q := by
  have hL' := hL
  obtain ⟨po, va, e, h⟩ := hL
  have e3 : tk n (I 2) p = 2 → va = tv n (I 2) p := fun z => (h (Or.inr (Or.inl z))).2
  refine rj_of okX1_needNumber (Nat.le_of_ble_eq_true rfl) rfl ?_
  have no_ : tk n (I 2) p ≠ 2 → Bj MX1_needNumber 2 8 [some (aR 24), some (aI a), some (aI b)] [] H Q := by
    intro hc
    refine b_aload_n rfl rfl ?_
    refine b_callV0v (ν := MX1_wrong) rfl ml1_93 cvX1_wrong (d' := 1) (by omega) rfl (by decide) rfl (Nat.le_of_ble_eq_true rfl) ?_
    refine sp_wrong hL' (fun H' hH' => ?_)
    refine ⟨rfl, ?_⟩
    refine b_iconst rfl (by decide) ?_
    refine b_iret rfl rfl ?_
    exact k0 hc H' hH'
  have out_ : tk n (I 2) p = 2 → ¬ (a ≤ tv n (I 2) p ∧ tv n (I 2) p ≤ b) → Bj MX1_needNumber 2 30 [some (aR 24), some (aI a), some (aI b)] [] H Q := by
    intro hc ho
    subst e
    refine b_aload_n rfl rfl ?_
    refine b_iconst rfl (by decide) ?_
    refine b_aload_n rfl rfl ?_
    refine b_getI rfl fl1_42 rfl (by decide) rfl ?_
    rw [LX_4]
    refine b_callV2v (ν := MX1_fail) rfl ml1_89 cvX1_fail (d' := 0) (by omega) rfl (by decide) rfl (Nat.le_of_ble_eq_true rfl) ?_
    refine sp_fail (by decide) hL' (fun H' hH' => ?_)
    refine ⟨rfl, ?_⟩
    refine b_iconst rfl (by decide) ?_
    refine b_iret rfl rfl ?_
    exact k4 hc ho H' hH'
  have in_ : tk n (I 2) p = 2 → a ≤ tv n (I 2) p → tv n (I 2) p ≤ b → Bj MX1_needNumber 2 41 [some (aR 24), some (aI a), some (aI b)] [] H Q := by
    intro hc h1 h2
    refine b_aload_n rfl rfl ?_
    refine b_callV0v (ν := MX1_take) rfl ml1_51 cvX1_take (d' := 1) (by omega) rfl (by decide) rfl (Nat.le_of_ble_eq_true rfl) ?_
    refine sp_take hX hL' (Or.inr (Or.inl hc)) (fun H' hH' => ?_)
    refine ⟨rfl, ?_⟩
    have kk := k1 hc h1 h2 H' hH'
    obtain ⟨po', va', e', h'⟩ := hH'
    subst e'
    refine b_aload_n rfl rfl ?_
    refine b_getI rfl fl1_57 rfl (by decide) rfl ?_
    rw [LX_9]
    refine b_iret rfl rfl ?_
    exact kk
  subst e
  refine b_aload_n rfl rfl ?_
  refine b_getI rfl fl1_73 rfl (by decide) rfl ?_
  rw [LX_3]
  refine b_iconst rfl (by decide) ?_
  refine b_icmp_eq (tgt := 14) rfl rfl (fun c5 => ?_) (fun c5 => ?_)
  · refine b_aload_n rfl rfl ?_
    refine b_getI rfl fl1_45 rfl (by decide) rfl ?_
    rw [LX_6]
    refine b_iload_n rfl rfl ?_
    refine b_icmp_lt (tgt := 30) rfl rfl (fun c19 => ?_) (fun c19 => ?_)
    · have hz : tk n (I 2) p = 2 := by omega
      have := e3 hz
      exact out_ hz (by omega)
    · refine b_aload_n rfl rfl ?_
      refine b_getI rfl fl1_45 rfl (by decide) rfl ?_
      rw [LX_6]
      refine b_iload_n rfl rfl ?_
      refine b_icmp_le (tgt := 41) rfl rfl (fun c27 => ?_) (fun c27 => ?_)
      · have hz : tk n (I 2) p = 2 := by omega
        have := e3 hz
        exact in_ hz (by omega) (by omega)
      · have hz : tk n (I 2) p = 2 := by omega
        have := e3 hz
        exact out_ hz (by omega)
  · exact no_ (by omega)
theorem sp_needNumberB {I H : HI} {Q : Option AV → HI → Prop} {k pl a b : Int} (hL : Lbad I k pl H) (kq : ∀ H', Lbad I k pl H' → Q (some (aI 0)) H') : Rj MX1_needNumber 2 [aR 24, aI a, aI b] H Q := by
  have hL' := hL
  obtain ⟨po, st, sp, va, wo, ts, tu, e, h⟩ := hL
  refine rj_of okX1_needNumber (Nat.le_of_ble_eq_true rfl) rfl ?_
  have no_ : Bj MX1_needNumber 2 8 [some (aR 24), some (aI a), some (aI b)] [] H Q := by
    refine b_aload_n rfl rfl ?_
    refine b_callV0v (ν := MX1_wrong) rfl ml1_93 cvX1_wrong (d' := 1) (by omega) rfl (by decide) rfl (Nat.le_of_ble_eq_true rfl) ?_
    refine sp_wrongB hL' (fun H' hH' => ?_)
    refine ⟨rfl, ?_⟩
    refine b_iconst rfl (by decide) ?_
    refine b_iret rfl rfl ?_
    exact kq H' hH'
  subst e
  refine b_aload_n rfl rfl ?_
  refine b_getI rfl fl1_73 rfl (by decide) rfl ?_
  rw [LX_3]
  refine b_iconst rfl (by decide) ?_
  refine b_icmp_eq (tgt := 14) rfl rfl (fun c5 => ?_) (fun c5 => ?_)
  · omega
  · exact no_
theorem sp_needName {I H : HI} {Q : Option AV → HI → Prop} {n p : Nat} {ts tu : Int} (hX : TX I n) (hL : Lok I n p ts tu H) (k1 : tk n (I 2) p = 1 → tw n (I 2) p = -1 → ∀ H', Lok I n (te n (I 2) p) (tq n (I 2) p : Int) (tv n (I 2) p) H' → Q (some (aI (tv n (I 2) p))) H') (k0 : ¬ (tk n (I 2) p = 1 ∧ tw n (I 2) p = -1) → ∀ H', Lbad I 1 (tsp n (I 2) p : Int) H' → Q (some (aI 0)) H') : Rj MX1_needName 2 [aR 24] H Q := by
  have hL' := hL
  obtain ⟨po, va, e, h⟩ := hL
  refine rj_of okX1_needName (Nat.le_of_ble_eq_true rfl) rfl ?_
  have no_ : ¬ (tk n (I 2) p = 1 ∧ tw n (I 2) p = -1) → Bj MX1_needName 2 16 [some (aR 24)] [] H Q := by
    intro hc
    subst e
    refine b_aload_n rfl rfl ?_
    refine b_iconst rfl (by decide) ?_
    refine b_aload_n rfl rfl ?_
    refine b_getI rfl fl1_67 rfl (by decide) rfl ?_
    rw [LX_5]
    refine b_callV2v (ν := MX1_fail) rfl ml1_89 cvX1_fail (d' := 0) (by omega) rfl (by decide) rfl (Nat.le_of_ble_eq_true rfl) ?_
    refine sp_fail (by decide) hL' (fun H' hH' => ?_)
    refine ⟨rfl, ?_⟩
    refine b_iconst rfl (by decide) ?_
    refine b_iret rfl rfl ?_
    exact k0 hc H' hH'
  have in_ : tk n (I 2) p = 1 → tw n (I 2) p = -1 → Bj MX1_needName 2 27 [some (aR 24)] [] H Q := by
    intro hc h1
    refine b_aload_n rfl rfl ?_
    refine b_callV0v (ν := MX1_take) rfl ml1_51 cvX1_take (d' := 1) (by omega) rfl (by decide) rfl (Nat.le_of_ble_eq_true rfl) ?_
    refine sp_take hX hL' (Or.inl hc) (fun H' hH' => ?_)
    refine ⟨rfl, ?_⟩
    have kk := k1 hc h1 H' hH'
    obtain ⟨po', va', e', h'⟩ := hH'
    subst e'
    refine b_aload_n rfl rfl ?_
    refine b_getI rfl fl1_57 rfl (by decide) rfl ?_
    rw [LX_9]
    refine b_iret rfl rfl ?_
    exact kk
  subst e
  refine b_aload_n rfl rfl ?_
  refine b_getI rfl fl1_73 rfl (by decide) rfl ?_
  rw [LX_3]
  refine b_iconst rfl (by decide) ?_
  refine b_icmp_ne (tgt := 16) rfl rfl (fun c5 => ?_) (fun c5 => ?_)
  · exact no_ (by omega)
  · refine b_aload_n rfl rfl ?_
    refine b_getI rfl fl1_70 rfl (by decide) rfl ?_
    rw [LX_7]
    refine b_iconst rfl (by decide) ?_
    refine b_icmp_eq (tgt := 27) rfl rfl (fun c13 => ?_) (fun c13 => ?_)
    · exact in_ (by omega) (by omega)
    · exact no_ (by omega)
theorem sp_needNameB {I H : HI} {Q : Option AV → HI → Prop} {k pl : Int} (hL : Lbad I k pl H) (kq : ∀ H', Lbad I k pl H' → Q (some (aI 0)) H') : Rj MX1_needName 2 [aR 24] H Q := by
  have hL' := hL
  obtain ⟨po, st, sp, va, wo, ts, tu, e, h⟩ := hL
  refine rj_of okX1_needName (Nat.le_of_ble_eq_true rfl) rfl ?_
  have no_ : Bj MX1_needName 2 16 [some (aR 24)] [] H Q := by
    subst e
    refine b_aload_n rfl rfl ?_
    refine b_iconst rfl (by decide) ?_
    refine b_aload_n rfl rfl ?_
    refine b_getI rfl fl1_67 rfl (by decide) rfl ?_
    rw [LX_5]
    refine b_callV2v (ν := MX1_fail) rfl ml1_89 cvX1_fail (d' := 0) (by omega) rfl (by decide) rfl (Nat.le_of_ble_eq_true rfl) ?_
    refine sp_failB hL' (fun H' hH' => ?_)
    refine ⟨rfl, ?_⟩
    refine b_iconst rfl (by decide) ?_
    refine b_iret rfl rfl ?_
    exact kq H' hH'
  subst e
  refine b_aload_n rfl rfl ?_
  refine b_getI rfl fl1_73 rfl (by decide) rfl ?_
  rw [LX_3]
  refine b_iconst rfl (by decide) ?_
  refine b_icmp_ne (tgt := 16) rfl rfl (fun c5 => ?_) (fun c5 => ?_)
  · exact no_
  · omega
theorem sp_rewind {I : HI} {Q : Option AV → HI → Prop} {n : Nat} (hX : TX I n) (kq : ∀ H', Lok I n 0 0 0 H' → Q none H') : Rj MX1_rewind 2 [aR 24] I Q := by
  refine rj_of okX1_rewind (Nat.le_of_ble_eq_true rfl) rfl ?_
  rw [← LX_self (I := I)]
  have hX2 : TX I n := hX
  refine b_aload_n rfl rfl ?_
  refine b_iconst rfl (by decide) ?_
  refine b_putI rfl fl1_39 rfl (by decide) rfl ?_
  rw [LX_u2]
  refine b_aload_n rfl rfl ?_
  refine b_iconst rfl (by decide) ?_
  refine b_putI rfl fl1_42 rfl (by decide) rfl ?_
  rw [LX_u4]
  refine b_aload_n rfl rfl ?_
  refine b_iconst rfl (by decide) ?_
  refine b_putI rfl fl1_45 rfl (by decide) rfl ?_
  rw [LX_u6]
  refine b_aload_n rfl rfl ?_
  refine b_iconst rfl (by decide) ?_
  refine b_putI rfl fl1_48 rfl (by decide) rfl ?_
  rw [LX_u10]
  refine b_aload_n rfl rfl ?_
  refine b_iconst rfl (by decide) ?_
  refine b_putI rfl fl1_19 rfl (by decide) rfl ?_
  rw [LX_u11]
  refine b_aload_n rfl rfl ?_
  refine b_callV0v (ν := MX1_take) rfl ml1_51 cvX1_take (d' := 1) (by omega) rfl (by decide) rfl (Nat.le_of_ble_eq_true rfl) ?_
  refine sp_X1_take (n := n) (p := 0) hX rfl (Nat.zero_le _) (fun po' va' h' => ?_)
  refine ⟨rfl, ?_⟩
  refine b_vret rfl rfl ?_
  exact kq _ ⟨po', va', rfl, h'⟩
