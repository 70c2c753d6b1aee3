/-! ===== Tape ===== -/
def tAt (I : HI) (k : Int) : Int := if 0 ≤ k ∧ k < I 1 1 then I 2 k.toNat else -1
theorem sp_X9_at {I : HI} {Q : Option AV → HI → Prop} {k : Int} (hI : I 1 1 ≤ 1600) (kq : Q (some (aI (tAt I k))) I) : Rj MX9_at 0 [aR 1, aI k] I Q := by
  refine rj_of okX9_at (Nat.le_of_ble_eq_true rfl) rfl ?_
  refine b_iload_n rfl rfl ?_
  refine b_if_lt (tgt := 21) rfl rfl (fun c1 => ?_) (fun c1 => ?_)
  · refine b_iconst rfl (by decide) ?_
    refine b_iret rfl rfl ?_
    exact qI kq (by unfold tAt; split <;> first | rfl | omega) rfl
  · refine b_iload_n rfl rfl ?_
    refine b_aload_n rfl rfl ?_
    refine b_getI rfl fl9_15 rfl (by decide) rfl ?_
    refine b_icmp_ge (tgt := 21) rfl rfl (fun c9 => ?_) (fun c9 => ?_)
    · refine b_iconst rfl (by decide) ?_
      refine b_iret rfl rfl ?_
      exact qI kq (by unfold tAt; split <;> first | rfl | omega) rfl
    · refine b_aload_n rfl rfl ?_
      refine b_getR (r := 2) rfl fl9_9 rfl (by decide) rfl rfl ?_
      refine b_iload_n rfl rfl ?_
      refine b_iald rfl rfl (by omega) (by omega) ?_
      refine b_goto (tgt := 22) rfl rfl ?_
      refine b_iret rfl rfl ?_
      exact qI kq (by unfold tAt; split <;> first | rfl | omega) rfl
theorem tAt_in {I : HI} {k : Int} (hB : ∀ j, 0 ≤ I 2 j ∧ I 2 j < 256) : -1 ≤ tAt I k ∧ tAt I k < 256 := by
  unfold tAt
  have := hB k.toNat
  split <;> omega
theorem sp_X9_pairAt {I : HI} {Q : Option AV → HI → Prop} {k : Int} (hI : I 1 1 ≤ 1600) (hB : ∀ j, 0 ≤ I 2 j ∧ I 2 j < 256) (hk : -100000 ≤ k ∧ k < 100000) (kq : Q (some (aI (tAt I k * 256 + tAt I (k + 1)))) I) : Rj MX9_pairAt 1 [aR 1, aI k] I Q := by
  have h1 := tAt_in (k := k) hB
  have h2 := tAt_in (k := k + 1) hB
  refine rj_of okX9_pairAt (Nat.le_of_ble_eq_true rfl) rfl ?_
  refine b_aload_n rfl rfl ?_
  refine b_iload_n rfl rfl ?_
  refine b_callV1i (ν := MX9_at) rfl ml9_19 cvX9_at (d' := 0) (by omega) rfl (by decide) rfl (Nat.le_of_ble_eq_true rfl) ?_
  refine sp_X9_at hI ?_
  refine ⟨_, rfl, ?_⟩
  refine b_sipush rfl (by decide) ?_
  refine b_imulN rfl (by omega) (by omega) ?_
  refine b_aload_n rfl rfl ?_
  refine b_iload_n rfl rfl ?_
  refine b_iconst rfl (by decide) ?_
  refine b_iaddN rfl (by omega) (by omega) ?_
  refine b_callV1i (ν := MX9_at) rfl ml9_19 cvX9_at (d' := 0) (by omega) rfl (by decide) rfl (Nat.le_of_ble_eq_true rfl) ?_
  refine sp_X9_at hI ?_
  refine ⟨_, rfl, ?_⟩
  refine b_iaddN rfl (by omega) (by omega) ?_
  refine b_iret rfl rfl ?_
  exact kq
/-- four bytes come on the tape -/
def byt (a : Int) (j : Nat) : Int := a / 2 ^ (24 - 8 * j) % 256
def tAdd (I : HI) (a : Int) : HI := fun q k => if q = 2 ∧ (I 1 1).toNat ≤ k ∧ k < (I 1 1).toNat + 4 then byt a (k - (I 1 1).toNat) else if q = 1 ∧ k = 1 then I 1 1 + 4 else I q k
theorem sp_X9_add {I : HI} {Q : Option AV → HI → Prop} {a : Int} (h0 : 0 ≤ I 1 1) (h1 : I 1 1 + 4 ≤ 1600) (ha : in32 a) (kq : Q none (tAdd I a)) : Rj MX9_add 0 [aR 1, aI a] I Q := by
  refine rj_of okX9_add (Nat.le_of_ble_eq_true rfl) rfl ?_
  have lp : ∀ (n i : Nat) (z : Int), i + n = 4 → z = 24 - 8 * (i : Int) → ∀ J : HI, (∀ q k, J q k = if q = 2 ∧ (I 1 1).toNat ≤ k ∧ k < (I 1 1).toNat + i then byt a (k - (I 1 1).toNat) else if q = 1 ∧ k = 1 then I 1 1 + i else I q k) → Bj MX9_add 0 3 [some (aR 1), some (aI a), some (aI z)] [] J Q := by
    intro n
    induction n with
    | zero =>
      intro i z hi hz J hJ
      have e1 : J 1 1 = I 1 1 + i := by rw [hJ]; simp
      refine b_iload_n rfl rfl ?_
      refine b_if_lt (tgt := 49) rfl rfl (fun c4 => ?_) (fun c4 => ?_)
      · refine b_vret rfl rfl ?_
        refine qN kq ?_
        funext q k
        rw [hJ]
        unfold tAdd
        have : i = 4 := by omega
        subst this
        rfl
      · omega
    | succ n ih =>
      intro i z hi hz J hJ
      have e1 : J 1 1 = I 1 1 + i := by rw [hJ]; simp
      refine b_iload_n rfl rfl ?_
      refine b_if_lt (tgt := 49) rfl rfl (fun c4 => ?_) (fun c4 => ?_)
      · omega
      · refine b_aload_n rfl rfl ?_
        refine b_getI rfl fl9_15 rfl (by decide) rfl ?_
        refine b_sipush rfl (by decide) ?_
        refine b_icmp_ge (tgt := 49) rfl rfl (fun c14 => ?_) (fun c14 => ?_)
        · rw [e1] at c14; omega
        · refine b_aload_n rfl rfl ?_
          refine b_getR (r := 2) rfl fl9_9 rfl (by decide) rfl rfl ?_
          refine b_aload_n rfl rfl ?_
          refine b_getI rfl fl9_15 rfl (by decide) rfl ?_
          refine b_iload_n rfl rfl ?_
          refine b_iload_n rfl rfl ?_
          refine b_ishr rfl ?_
          refine b_sipush rfl (by decide) ?_
          refine b_iand rfl ?_
          rw [show iAnd (iShr a z) 255 = byt a i by
          have e2 : z = ((24 - 8 * i : Nat) : Int) := by omega
          rw [e2, iShr_p _ ha (by omega), iAnd_255]
          rfl]
          refine b_iast rfl rfl (by rw [e1]; omega) (by rw [e1]; omega) ?_
          refine b_aload_n rfl rfl ?_
          refine b_dup rfl rfl ?_
          refine b_getI rfl fl9_15 rfl (by decide) rfl ?_
          try simp only [up_ap, cpy_ap, fil_ap, row_ap, Nat.reduceEqDiff, Nat.reduceLT, Nat.reduceLeDiff, Int.toNat_natCast, Int.reduceToNat, reduceCtorEq, false_and, and_false, true_and, and_true, and_self, reduceIte]
          refine b_iconst rfl (by decide) ?_
          refine b_iaddN rfl (by rw [e1]; omega) (by rw [e1]; omega) ?_
          refine b_putI rfl fl9_15 rfl (by decide) rfl ?_
          refine b_iincX (F := fun z43 => [some (aR 1), some (aI a), some (aI z43)]) rfl rfl (by omega) (by omega) (fun _ => rfl) (fun z43 ez43 => ?_)
          refine b_goto (tgt := 3) rfl rfl ?_
          refine ih (i + 1) _ (by omega) (by omega) _ ?_
          intro q k
          simp only [up_ap, e1]
          rw [hJ]
          have e3 : (I 1 1 + (i : Int)).toNat = (I 1 1).toNat + i := by omega
          rw [e3]
          generalize (I 1 1).toNat = w
          clear ih
          grind
  refine b_bipush rfl (by decide) ?_
  refine b_istoreX_n (F := fun z2 => [some (aR 1), some (aI a), some (aI z2)]) rfl (by decide) (fun _ => rfl) (fun z2 ez2 => ?_)
  refine lp 4 0 _ rfl (by omega) I ?_
  intro q k
  clear lp
  grind
/-! ===== Plan ===== -/
def kO (I : HI) (c : Nat) (a b : Int) : Prop := 0 ≤ a ∧ a < 3 ∧ 0 ≤ b ∧ b < I c a.toNat
def kn (I : HI) (c : Nat) (a b : Int) : Int := if 0 ≤ a ∧ a < 3 ∧ 0 ≤ b ∧ b < I c a.toNat then 1 else 0
theorem kn_1 {I : HI} {c : Nat} {a b : Int} (h : kO I c a b) : kn I c a b = 1 := if_pos h
theorem kn_0 {I : HI} {c : Nat} {a b : Int} (h : ¬ kO I c a b) : kn I c a b = 0 := if_neg h
theorem kn_ne {I : HI} {c : Nat} {a b : Int} (h : ¬ kn I c a b = 0) : kO I c a b := Classical.byContradiction fun z => h (kn_0 z)
theorem kn_eq {I : HI} {c : Nat} {a b : Int} (h : kn I c a b = 0) : ¬ kO I c a b := fun z => by rw [kn_1 z] at h; omega
noncomputable def fo (I : HI) (c f : Nat) (a b : Int) : Int := if 0 ≤ a ∧ a < 3 ∧ 0 ≤ b ∧ b < I c a.toNat then I f (a * 6 + b).toNat else 0
theorem fo_1 {I : HI} {c f : Nat} {a b : Int} (h : kO I c a b) : fo I c f a b = I f (a * 6 + b).toNat := if_pos h
theorem fo_0 {I : HI} {c f : Nat} {a b : Int} (h : ¬ kO I c a b) : fo I c f a b = 0 := if_neg h
/-- the counts are those of six things at most -/
def cOK (I : HI) (c : Nat) : Prop := ∀ a : Nat, a < 3 → 0 ≤ I c a ∧ I c a ≤ 6
theorem kO_b {I : HI} {c : Nat} {a b : Int} (hC : cOK I c) (h : kO I c a b) : 0 ≤ a * 6 + b ∧ a * 6 + b < 18 ∧ 0 ≤ b ∧ b < 6 ∧ 0 ≤ a ∧ a < 3 := by
  obtain ⟨h1, h2, h3, h4⟩ := h
  have := hC a.toNat (by omega)
  omega
theorem sp_X3_knows_3 {I : HI} {Q : Option AV → HI → Prop} {a b : Int} (kq : Q (some (aI (kn I 4 a b))) I) : Rj MX3_knows 0 [aR 3, aI a, aI b] I Q := by
  refine rj_of okX3_knows (Nat.le_of_ble_eq_true rfl) rfl ?_
  refine b_iload_n rfl rfl ?_
  refine b_if_lt (tgt := 27) rfl rfl (fun c1 => ?_) (fun c1 => ?_)
  · refine b_iconst rfl (by decide) ?_
    refine b_zret rfl rfl (by first | decide | omega) ?_
    exact qI kq (by unfold kn; split <;> first | rfl | omega) rfl
  · refine b_iload_n rfl rfl ?_
    refine b_iconst rfl (by decide) ?_
    refine b_icmp_ge (tgt := 27) rfl rfl (fun c6 => ?_) (fun c6 => ?_)
    · refine b_iconst rfl (by decide) ?_
      refine b_zret rfl rfl (by first | decide | omega) ?_
      exact qI kq (by unfold kn; split <;> first | rfl | omega) rfl
    · refine b_iload_n rfl rfl ?_
      refine b_if_lt (tgt := 27) rfl rfl (fun c10 => ?_) (fun c10 => ?_)
      · refine b_iconst rfl (by decide) ?_
        refine b_zret rfl rfl (by first | decide | omega) ?_
        exact qI kq (by unfold kn; split <;> first | rfl | omega) rfl
      · refine b_iload_n rfl rfl ?_
        refine b_aload_n rfl rfl ?_
        refine b_getR (r := 4) rfl fl3_9 rfl (by decide) rfl rfl ?_
        refine b_iload_n rfl rfl ?_
        refine b_iald rfl rfl (by omega) (by omega) ?_
        refine b_icmp_ge (tgt := 27) rfl rfl (fun c20 => ?_) (fun c20 => ?_)
        · refine b_iconst rfl (by decide) ?_
          refine b_zret rfl rfl (by first | decide | omega) ?_
          exact qI kq (by unfold kn; split <;> first | rfl | omega) rfl
        · refine b_iconst rfl (by decide) ?_
          refine b_goto (tgt := 28) rfl rfl ?_
          refine b_zret rfl rfl (by first | decide | omega) ?_
          exact qI kq (by unfold kn; split <;> first | rfl | omega) rfl
theorem sp_X3_firstOf_3 {I : HI} {Q : Option AV → HI → Prop} {a b : Int} (hC : cOK I 4) (kq : Q (some (aI (fo I 4 6 a b))) I) : Rj MX3_firstOf 1 [aR 3, aI a, aI b] I Q := by
  refine rj_of okX3_firstOf (Nat.le_of_ble_eq_true rfl) rfl ?_
  refine b_aload_n rfl rfl ?_
  refine b_iload_n rfl rfl ?_
  refine b_iload_n rfl rfl ?_
  refine b_callV2i (ν := MX3_knows) rfl ml3_49 cvX3_knows (d' := 0) (by omega) rfl (by decide) rfl (Nat.le_of_ble_eq_true rfl) ?_
  refine sp_X3_knows_3 ?_
  refine ⟨_, rfl, ?_⟩
  refine b_if_eq (tgt := 23) rfl rfl (fun c6 => ?_) (fun c6 => ?_)
  · refine b_iconst rfl (by decide) ?_
    refine b_iret rfl rfl ?_
    first | exact qI kq (fo_1 hk) rfl | exact qI kq (fo_0 (kn_eq c6)) rfl
  · have hk := kn_ne c6
    have hb := kO_b hC hk
    refine b_aload_n rfl rfl ?_
    refine b_getR (r := 6) rfl fl3_18 rfl (by decide) rfl rfl ?_
    refine b_iload_n rfl rfl ?_
    refine b_bipush rfl (by decide) ?_
    refine b_imulN rfl (by omega) (by omega) ?_
    refine b_iload_n rfl rfl ?_
    refine b_iaddN rfl (by omega) (by omega) ?_
    refine b_iald rfl rfl (by omega) (by omega) ?_
    refine b_goto (tgt := 24) rfl rfl ?_
    refine b_iret rfl rfl ?_
    first | exact qI kq (fo_1 hk) rfl | exact qI kq (fo_0 (kn_eq c6)) rfl
theorem sp_X3_secondOf_3 {I : HI} {Q : Option AV → HI → Prop} {a b : Int} (hC : cOK I 4) (kq : Q (some (aI (fo I 4 7 a b))) I) : Rj MX3_secondOf 1 [aR 3, aI a, aI b] I Q := by
  refine rj_of okX3_secondOf (Nat.le_of_ble_eq_true rfl) rfl ?_
  refine b_aload_n rfl rfl ?_
  refine b_iload_n rfl rfl ?_
  refine b_iload_n rfl rfl ?_
  refine b_callV2i (ν := MX3_knows) rfl ml3_49 cvX3_knows (d' := 0) (by omega) rfl (by decide) rfl (Nat.le_of_ble_eq_true rfl) ?_
  refine sp_X3_knows_3 ?_
  refine ⟨_, rfl, ?_⟩
  refine b_if_eq (tgt := 23) rfl rfl (fun c6 => ?_) (fun c6 => ?_)
  · refine b_iconst rfl (by decide) ?_
    refine b_iret rfl rfl ?_
    first | exact qI kq (fo_1 hk) rfl | exact qI kq (fo_0 (kn_eq c6)) rfl
  · have hk := kn_ne c6
    have hb := kO_b hC hk
    refine b_aload_n rfl rfl ?_
    refine b_getR (r := 7) rfl fl3_21 rfl (by decide) rfl rfl ?_
    refine b_iload_n rfl rfl ?_
    refine b_bipush rfl (by decide) ?_
    refine b_imulN rfl (by omega) (by omega) ?_
    refine b_iload_n rfl rfl ?_
    refine b_iaddN rfl (by omega) (by omega) ?_
    refine b_iald rfl rfl (by omega) (by omega) ?_
    refine b_goto (tgt := 24) rfl rfl ?_
    refine b_iret rfl rfl ?_
    first | exact qI kq (fo_1 hk) rfl | exact qI kq (fo_0 (kn_eq c6)) rfl
theorem sp_X3_tells_3 {I : HI} {Q : Option AV → HI → Prop} {a : Int} (ha : 0 ≤ a ∧ a < 4) (kq : Q (some (aI (if I 9 a.toNat < I 10 a.toNat then 1 else 0))) I) : Rj MX3_tells 0 [aR 3, aI a] I Q := by
  refine rj_of okX3_tells (Nat.le_of_ble_eq_true rfl) rfl ?_
  refine b_aload_n rfl rfl ?_
  refine b_getR (r := 10) rfl fl3_30 rfl (by decide) rfl rfl ?_
  refine b_iload_n rfl rfl ?_
  refine b_iald rfl rfl (by omega) (by omega) ?_
  refine b_aload_n rfl rfl ?_
  refine b_getR (r := 9) rfl fl3_27 rfl (by decide) rfl rfl ?_
  refine b_iload_n rfl rfl ?_
  refine b_iald rfl rfl (by omega) (by omega) ?_
  refine b_icmp_le (tgt := 19) rfl rfl (fun c12 => ?_) (fun c12 => ?_)
  · refine b_iconst rfl (by decide) ?_
    refine b_zret rfl rfl (by first | decide | omega) ?_
    exact qI kq (by split <;> first | rfl | omega) rfl
  · refine b_iconst rfl (by decide) ?_
    refine b_goto (tgt := 20) rfl rfl ?_
    refine b_zret rfl rfl (by first | decide | omega) ?_
    exact qI kq (by split <;> first | rfl | omega) rfl
def kc_3 (I : HI) (s h w : Int) : Prop := kO I 4 1 s ∧ 0 ≤ h ∧ h < I 6 (1 * 6 + s).toNat ∧ kO I 4 0 w
theorem sp_X3_knowsCell_3 {I : HI} {Q : Option AV → HI → Prop} {s h w : Int} (hC : cOK I 4) (k1 : kc_3 I s h w → Q (some (aI 1)) I) (k0 : ¬ kc_3 I s h w → Q (some (aI 0)) I) : Rj MX3_knowsCell 2 [aR 3, aI s, aI h, aI w] I Q := by
  refine rj_of okX3_knowsCell (Nat.le_of_ble_eq_true rfl) rfl ?_
  refine b_aload_n rfl rfl ?_
  refine b_iconst rfl (by decide) ?_
  refine b_iload_n rfl rfl ?_
  refine b_callV2i (ν := MX3_knows) rfl ml3_49 cvX3_knows (d' := 0) (by omega) rfl (by decide) rfl (Nat.le_of_ble_eq_true rfl) ?_
  refine sp_X3_knows_3 ?_
  refine ⟨_, rfl, ?_⟩
  refine b_if_eq (tgt := 36) rfl rfl (fun c6 => ?_) (fun c6 => ?_)
  · refine b_iconst rfl (by decide) ?_
    refine b_zret rfl rfl (by first | decide | omega) ?_
    first | exact k0 (fun z => kn_eq c6 z.1) | exact k0 (fun z => by have := z.2.1; omega) | exact k0 (fun z => by have := z.2.2.1; rw [fo_1 z.1] at c20; omega) | exact k0 (fun z => kn_eq c29 z.2.2.2) | exact k1 ⟨kn_ne c6, by omega, by rw [fo_1 (kn_ne c6)] at c20; omega, kn_ne c29⟩
  · refine b_iload_n rfl rfl ?_
    refine b_if_lt (tgt := 36) rfl rfl (fun c10 => ?_) (fun c10 => ?_)
    · refine b_iconst rfl (by decide) ?_
      refine b_zret rfl rfl (by first | decide | omega) ?_
      first | exact k0 (fun z => kn_eq c6 z.1) | exact k0 (fun z => by have := z.2.1; omega) | exact k0 (fun z => by have := z.2.2.1; rw [fo_1 z.1] at c20; omega) | exact k0 (fun z => kn_eq c29 z.2.2.2) | exact k1 ⟨kn_ne c6, by omega, by rw [fo_1 (kn_ne c6)] at c20; omega, kn_ne c29⟩
    · refine b_iload_n rfl rfl ?_
      refine b_aload_n rfl rfl ?_
      refine b_iconst rfl (by decide) ?_
      refine b_iload_n rfl rfl ?_
      refine b_callV2i (ν := MX3_firstOf) rfl ml3_53 cvX3_firstOf (d' := 1) (by omega) rfl (by decide) rfl (Nat.le_of_ble_eq_true rfl) ?_
      refine sp_X3_firstOf_3 hC ?_
      refine ⟨_, rfl, ?_⟩
      refine b_icmp_ge (tgt := 36) rfl rfl (fun c20 => ?_) (fun c20 => ?_)
      · refine b_iconst rfl (by decide) ?_
        refine b_zret rfl rfl (by first | decide | omega) ?_
        first | exact k0 (fun z => kn_eq c6 z.1) | exact k0 (fun z => by have := z.2.1; omega) | exact k0 (fun z => by have := z.2.2.1; rw [fo_1 z.1] at c20; omega) | exact k0 (fun z => kn_eq c29 z.2.2.2) | exact k1 ⟨kn_ne c6, by omega, by rw [fo_1 (kn_ne c6)] at c20; omega, kn_ne c29⟩
      · refine b_aload_n rfl rfl ?_
        refine b_iconst rfl (by decide) ?_
        refine b_iload_n rfl rfl ?_
        refine b_callV2i (ν := MX3_knows) rfl ml3_49 cvX3_knows (d' := 0) (by omega) rfl (by decide) rfl (Nat.le_of_ble_eq_true rfl) ?_
        refine sp_X3_knows_3 ?_
        refine ⟨_, rfl, ?_⟩
        refine b_if_eq (tgt := 36) rfl rfl (fun c29 => ?_) (fun c29 => ?_)
        · refine b_iconst rfl (by decide) ?_
          refine b_zret rfl rfl (by first | decide | omega) ?_
          first | exact k0 (fun z => kn_eq c6 z.1) | exact k0 (fun z => by have := z.2.1; omega) | exact k0 (fun z => by have := z.2.2.1; rw [fo_1 z.1] at c20; omega) | exact k0 (fun z => kn_eq c29 z.2.2.2) | exact k1 ⟨kn_ne c6, by omega, by rw [fo_1 (kn_ne c6)] at c20; omega, kn_ne c29⟩
        · refine b_iconst rfl (by decide) ?_
          refine b_goto (tgt := 37) rfl rfl ?_
          refine b_zret rfl rfl (by first | decide | omega) ?_
          first | exact k0 (fun z => kn_eq c6 z.1) | exact k0 (fun z => by have := z.2.1; omega) | exact k0 (fun z => by have := z.2.2.1; rw [fo_1 z.1] at c20; omega) | exact k0 (fun z => kn_eq c29 z.2.2.2) | exact k1 ⟨kn_ne c6, by omega, by rw [fo_1 (kn_ne c6)] at c20; omega, kn_ne c29⟩
theorem sp_X3_knows_12 {I : HI} {Q : Option AV → HI → Prop} {a b : Int} (kq : Q (some (aI (kn I 13 a b))) I) : Rj MX3_knows 0 [aR 12, aI a, aI b] I Q := by
  refine rj_of okX3_knows (Nat.le_of_ble_eq_true rfl) rfl ?_
  refine b_iload_n rfl rfl ?_
  refine b_if_lt (tgt := 27) rfl rfl (fun c1 => ?_) (fun c1 => ?_)
  · refine b_iconst rfl (by decide) ?_
    refine b_zret rfl rfl (by first | decide | omega) ?_
    exact qI kq (by unfold kn; split <;> first | rfl | omega) rfl
  · refine b_iload_n rfl rfl ?_
    refine b_iconst rfl (by decide) ?_
    refine b_icmp_ge (tgt := 27) rfl rfl (fun c6 => ?_) (fun c6 => ?_)
    · refine b_iconst rfl (by decide) ?_
      refine b_zret rfl rfl (by first | decide | omega) ?_
      exact qI kq (by unfold kn; split <;> first | rfl | omega) rfl
    · refine b_iload_n rfl rfl ?_
      refine b_if_lt (tgt := 27) rfl rfl (fun c10 => ?_) (fun c10 => ?_)
      · refine b_iconst rfl (by decide) ?_
        refine b_zret rfl rfl (by first | decide | omega) ?_
        exact qI kq (by unfold kn; split <;> first | rfl | omega) rfl
      · refine b_iload_n rfl rfl ?_
        refine b_aload_n rfl rfl ?_
        refine b_getR (r := 13) rfl fl3_9 rfl (by decide) rfl rfl ?_
        refine b_iload_n rfl rfl ?_
        refine b_iald rfl rfl (by omega) (by omega) ?_
        refine b_icmp_ge (tgt := 27) rfl rfl (fun c20 => ?_) (fun c20 => ?_)
        · refine b_iconst rfl (by decide) ?_
          refine b_zret rfl rfl (by first | decide | omega) ?_
          exact qI kq (by unfold kn; split <;> first | rfl | omega) rfl
        · refine b_iconst rfl (by decide) ?_
          refine b_goto (tgt := 28) rfl rfl ?_
          refine b_zret rfl rfl (by first | decide | omega) ?_
          exact qI kq (by unfold kn; split <;> first | rfl | omega) rfl
theorem sp_X3_firstOf_12 {I : HI} {Q : Option AV → HI → Prop} {a b : Int} (hC : cOK I 13) (kq : Q (some (aI (fo I 13 15 a b))) I) : Rj MX3_firstOf 1 [aR 12, aI a, aI b] I Q := by
  refine rj_of okX3_firstOf (Nat.le_of_ble_eq_true rfl) rfl ?_
  refine b_aload_n rfl rfl ?_
  refine b_iload_n rfl rfl ?_
  refine b_iload_n rfl rfl ?_
  refine b_callV2i (ν := MX3_knows) rfl ml3_49 cvX3_knows (d' := 0) (by omega) rfl (by decide) rfl (Nat.le_of_ble_eq_true rfl) ?_
  refine sp_X3_knows_12 ?_
  refine ⟨_, rfl, ?_⟩
  refine b_if_eq (tgt := 23) rfl rfl (fun c6 => ?_) (fun c6 => ?_)
  · refine b_iconst rfl (by decide) ?_
    refine b_iret rfl rfl ?_
    first | exact qI kq (fo_1 hk) rfl | exact qI kq (fo_0 (kn_eq c6)) rfl
  · have hk := kn_ne c6
    have hb := kO_b hC hk
    refine b_aload_n rfl rfl ?_
    refine b_getR (r := 15) rfl fl3_18 rfl (by decide) rfl rfl ?_
    refine b_iload_n rfl rfl ?_
    refine b_bipush rfl (by decide) ?_
    refine b_imulN rfl (by omega) (by omega) ?_
    refine b_iload_n rfl rfl ?_
    refine b_iaddN rfl (by omega) (by omega) ?_
    refine b_iald rfl rfl (by omega) (by omega) ?_
    refine b_goto (tgt := 24) rfl rfl ?_
    refine b_iret rfl rfl ?_
    first | exact qI kq (fo_1 hk) rfl | exact qI kq (fo_0 (kn_eq c6)) rfl
theorem sp_X3_secondOf_12 {I : HI} {Q : Option AV → HI → Prop} {a b : Int} (hC : cOK I 13) (kq : Q (some (aI (fo I 13 16 a b))) I) : Rj MX3_secondOf 1 [aR 12, aI a, aI b] I Q := by
  refine rj_of okX3_secondOf (Nat.le_of_ble_eq_true rfl) rfl ?_
  refine b_aload_n rfl rfl ?_
  refine b_iload_n rfl rfl ?_
  refine b_iload_n rfl rfl ?_
  refine b_callV2i (ν := MX3_knows) rfl ml3_49 cvX3_knows (d' := 0) (by omega) rfl (by decide) rfl (Nat.le_of_ble_eq_true rfl) ?_
  refine sp_X3_knows_12 ?_
  refine ⟨_, rfl, ?_⟩
  refine b_if_eq (tgt := 23) rfl rfl (fun c6 => ?_) (fun c6 => ?_)
  · refine b_iconst rfl (by decide) ?_
    refine b_iret rfl rfl ?_
    first | exact qI kq (fo_1 hk) rfl | exact qI kq (fo_0 (kn_eq c6)) rfl
  · have hk := kn_ne c6
    have hb := kO_b hC hk
    refine b_aload_n rfl rfl ?_
    refine b_getR (r := 16) rfl fl3_21 rfl (by decide) rfl rfl ?_
    refine b_iload_n rfl rfl ?_
    refine b_bipush rfl (by decide) ?_
    refine b_imulN rfl (by omega) (by omega) ?_
    refine b_iload_n rfl rfl ?_
    refine b_iaddN rfl (by omega) (by omega) ?_
    refine b_iald rfl rfl (by omega) (by omega) ?_
    refine b_goto (tgt := 24) rfl rfl ?_
    refine b_iret rfl rfl ?_
    first | exact qI kq (fo_1 hk) rfl | exact qI kq (fo_0 (kn_eq c6)) rfl
theorem sp_X3_tells_12 {I : HI} {Q : Option AV → HI → Prop} {a : Int} (ha : 0 ≤ a ∧ a < 4) (kq : Q (some (aI (if I 18 a.toNat < I 19 a.toNat then 1 else 0))) I) : Rj MX3_tells 0 [aR 12, aI a] I Q := by
  refine rj_of okX3_tells (Nat.le_of_ble_eq_true rfl) rfl ?_
  refine b_aload_n rfl rfl ?_
  refine b_getR (r := 19) rfl fl3_30 rfl (by decide) rfl rfl ?_
  refine b_iload_n rfl rfl ?_
  refine b_iald rfl rfl (by omega) (by omega) ?_
  refine b_aload_n rfl rfl ?_
  refine b_getR (r := 18) rfl fl3_27 rfl (by decide) rfl rfl ?_
  refine b_iload_n rfl rfl ?_
  refine b_iald rfl rfl (by omega) (by omega) ?_
  refine b_icmp_le (tgt := 19) rfl rfl (fun c12 => ?_) (fun c12 => ?_)
  · refine b_iconst rfl (by decide) ?_
    refine b_zret rfl rfl (by first | decide | omega) ?_
    exact qI kq (by split <;> first | rfl | omega) rfl
  · refine b_iconst rfl (by decide) ?_
    refine b_goto (tgt := 20) rfl rfl ?_
    refine b_zret rfl rfl (by first | decide | omega) ?_
    exact qI kq (by split <;> first | rfl | omega) rfl
def kc_12 (I : HI) (s h w : Int) : Prop := kO I 13 1 s ∧ 0 ≤ h ∧ h < I 15 (1 * 6 + s).toNat ∧ kO I 13 0 w
theorem sp_X3_knowsCell_12 {I : HI} {Q : Option AV → HI → Prop} {s h w : Int} (hC : cOK I 13) (k1 : kc_12 I s h w → Q (some (aI 1)) I) (k0 : ¬ kc_12 I s h w → Q (some (aI 0)) I) : Rj MX3_knowsCell 2 [aR 12, aI s, aI h, aI w] I Q := by
  refine rj_of okX3_knowsCell (Nat.le_of_ble_eq_true rfl) rfl ?_
  refine b_aload_n rfl rfl ?_
  refine b_iconst rfl (by decide) ?_
  refine b_iload_n rfl rfl ?_
  refine b_callV2i (ν := MX3_knows) rfl ml3_49 cvX3_knows (d' := 0) (by omega) rfl (by decide) rfl (Nat.le_of_ble_eq_true rfl) ?_
  refine sp_X3_knows_12 ?_
  refine ⟨_, rfl, ?_⟩
  refine b_if_eq (tgt := 36) rfl rfl (fun c6 => ?_) (fun c6 => ?_)
  · refine b_iconst rfl (by decide) ?_
    refine b_zret rfl rfl (by first | decide | omega) ?_
    first | exact k0 (fun z => kn_eq c6 z.1) | exact k0 (fun z => by have := z.2.1; omega) | exact k0 (fun z => by have := z.2.2.1; rw [fo_1 z.1] at c20; omega) | exact k0 (fun z => kn_eq c29 z.2.2.2) | exact k1 ⟨kn_ne c6, by omega, by rw [fo_1 (kn_ne c6)] at c20; omega, kn_ne c29⟩
  · refine b_iload_n rfl rfl ?_
    refine b_if_lt (tgt := 36) rfl rfl (fun c10 => ?_) (fun c10 => ?_)
    · refine b_iconst rfl (by decide) ?_
      refine b_zret rfl rfl (by first | decide | omega) ?_
      first | exact k0 (fun z => kn_eq c6 z.1) | exact k0 (fun z => by have := z.2.1; omega) | exact k0 (fun z => by have := z.2.2.1; rw [fo_1 z.1] at c20; omega) | exact k0 (fun z => kn_eq c29 z.2.2.2) | exact k1 ⟨kn_ne c6, by omega, by rw [fo_1 (kn_ne c6)] at c20; omega, kn_ne c29⟩
    · refine b_iload_n rfl rfl ?_
      refine b_aload_n rfl rfl ?_
      refine b_iconst rfl (by decide) ?_
      refine b_iload_n rfl rfl ?_
      refine b_callV2i (ν := MX3_firstOf) rfl ml3_53 cvX3_firstOf (d' := 1) (by omega) rfl (by decide) rfl (Nat.le_of_ble_eq_true rfl) ?_
      refine sp_X3_firstOf_12 hC ?_
      refine ⟨_, rfl, ?_⟩
      refine b_icmp_ge (tgt := 36) rfl rfl (fun c20 => ?_) (fun c20 => ?_)
      · refine b_iconst rfl (by decide) ?_
        refine b_zret rfl rfl (by first | decide | omega) ?_
        first | exact k0 (fun z => kn_eq c6 z.1) | exact k0 (fun z => by have := z.2.1; omega) | exact k0 (fun z => by have := z.2.2.1; rw [fo_1 z.1] at c20; omega) | exact k0 (fun z => kn_eq c29 z.2.2.2) | exact k1 ⟨kn_ne c6, by omega, by rw [fo_1 (kn_ne c6)] at c20; omega, kn_ne c29⟩
      · refine b_aload_n rfl rfl ?_
        refine b_iconst rfl (by decide) ?_
        refine b_iload_n rfl rfl ?_
        refine b_callV2i (ν := MX3_knows) rfl ml3_49 cvX3_knows (d' := 0) (by omega) rfl (by decide) rfl (Nat.le_of_ble_eq_true rfl) ?_
        refine sp_X3_knows_12 ?_
        refine ⟨_, rfl, ?_⟩
        refine b_if_eq (tgt := 36) rfl rfl (fun c29 => ?_) (fun c29 => ?_)
        · refine b_iconst rfl (by decide) ?_
          refine b_zret rfl rfl (by first | decide | omega) ?_
          first | exact k0 (fun z => kn_eq c6 z.1) | exact k0 (fun z => by have := z.2.1; omega) | exact k0 (fun z => by have := z.2.2.1; rw [fo_1 z.1] at c20; omega) | exact k0 (fun z => kn_eq c29 z.2.2.2) | exact k1 ⟨kn_ne c6, by omega, by rw [fo_1 (kn_ne c6)] at c20; omega, kn_ne c29⟩
        · refine b_iconst rfl (by decide) ?_
          refine b_goto (tgt := 37) rfl rfl ?_
          refine b_zret rfl rfl (by first | decide | omega) ?_
          first | exact k0 (fun z => kn_eq c6 z.1) | exact k0 (fun z => by have := z.2.1; omega) | exact k0 (fun z => by have := z.2.2.1; rw [fo_1 z.1] at c20; omega) | exact k0 (fun z => kn_eq c29 z.2.2.2) | exact k1 ⟨kn_ne c6, by omega, by rw [fo_1 (kn_ne c6)] at c20; omega, kn_ne c29⟩
theorem sp_X3_net_3 {I : HI} {Q : Option AV → HI → Prop} {w : Int} (hC : cOK I 4) (hw : kO I 4 0 w) (hr : 0 ≤ I 6 w.toNat ∧ I 6 w.toNat < 1000 ∧ 0 ≤ I 7 w.toNat ∧ I 7 w.toNat < 1000) (kq : Q (some (aI (I 6 w.toNat - I 7 w.toNat))) I) : Rj MX3_net 2 [aR 3, aI w] I Q := by
  refine rj_of okX3_net (Nat.le_of_ble_eq_true rfl) rfl ?_
  have e1 : fo I 4 6 0 w = I 6 w.toNat := by rw [fo_1 hw]; congr 1; omega
  have e2 : fo I 4 7 0 w = I 7 w.toNat := by rw [fo_1 hw]; congr 1; omega
  refine b_aload_n rfl rfl ?_
  refine b_iconst rfl (by decide) ?_
  refine b_iload_n rfl rfl ?_
  refine b_callV2i (ν := MX3_firstOf) rfl ml3_53 cvX3_firstOf (d' := 1) (by omega) rfl (by decide) rfl (Nat.le_of_ble_eq_true rfl) ?_
  refine sp_X3_firstOf_3 hC ?_
  rw [e1]
  refine ⟨_, rfl, ?_⟩
  refine b_aload_n rfl rfl ?_
  refine b_iconst rfl (by decide) ?_
  refine b_iload_n rfl rfl ?_
  refine b_callV2i (ν := MX3_secondOf) rfl ml3_57 cvX3_secondOf (d' := 1) (by omega) rfl (by decide) rfl (Nat.le_of_ble_eq_true rfl) ?_
  refine sp_X3_secondOf_3 hC ?_
  rw [e2]
  refine ⟨_, rfl, ?_⟩
  refine b_isubN rfl (by omega) (by omega) ?_
  refine b_iret rfl rfl ?_
  exact kq
theorem sp_X11_cell {I : HI} {Q : Option AV → HI → Prop} {a b c : Int} (h : 0 ≤ a ∧ a < 100 ∧ 0 ≤ b ∧ b < 300 ∧ 0 ≤ c ∧ c < 300) (kq : Q (some (aI (a * 24 + b * 6 + c))) I) : Rj MX11_cell 0 [aI a, aI b, aI c] I Q := by
  refine rj_of okX11_cell (Nat.le_of_ble_eq_true rfl) rfl ?_
  refine b_iload_n rfl rfl ?_
  refine b_bipush rfl (by decide) ?_
  refine b_imulN rfl (by omega) (by omega) ?_
  refine b_iload_n rfl rfl ?_
  refine b_bipush rfl (by decide) ?_
  refine b_imulN rfl (by omega) (by omega) ?_
  refine b_iaddN rfl (by omega) (by omega) ?_
  refine b_iload_n rfl rfl ?_
  refine b_iaddN rfl (by omega) (by omega) ?_
  refine b_iret rfl rfl ?_
  exact kq
def sd (h : Int) : Int := if h % 2 = 0 then 1 else -1
theorem sp_X11_side {I : HI} {Q : Option AV → HI → Prop} {h : Int} (hh : 0 ≤ h ∧ h < 100) (kq : Q (some (aI (sd h))) I) : Rj MX11_side 0 [aI h] I Q := by
  refine rj_of okX11_side (Nat.le_of_ble_eq_true rfl) rfl ?_
  refine b_iload_n rfl rfl ?_
  refine b_iconst rfl (by decide) ?_
  refine b_iremP rfl (by omega) (by omega) ?_
  refine b_if_ne (tgt := 10) rfl rfl (fun c3 => ?_) (fun c3 => ?_)
  · refine b_iconst rfl (by decide) ?_
    refine b_iret rfl rfl ?_
    exact qI kq (by unfold sd; split <;> first | rfl | omega) rfl
  · refine b_iconst rfl (by decide) ?_
    refine b_goto (tgt := 11) rfl rfl ?_
    refine b_iret rfl rfl ?_
    exact qI kq (by unfold sd; split <;> first | rfl | omega) rfl
