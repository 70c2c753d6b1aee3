def fi (f : Nat → Int) (b : Int) : Nat → Nat → Int
  | 0, _ => -1
  | n + 1, k => if f k = b then (k : Int) else fi f b n (k + 1)
def mxN : Nat → (Nat → Int) → Int
  | 0, _ => 0
  | n + 1, f => max (mxN n f) (f n)
theorem mxN_in {n : Nat} {f : Nat → Int} {b : Int} (hb : 0 ≤ b) (h : ∀ k, k < n → f k ≤ b) : 0 ≤ mxN n f ∧ mxN n f ≤ b := by
  induction n with
  | zero => simp [mxN]; exact hb
  | succ n ih =>
    have h1 := ih (fun k hk => h k (by omega))
    have h2 := h n (by omega)
    unfold mxN
    omega
theorem mxN_iff {n : Nat} {f : Nat → Int} {b : Int} (hb : 0 ≤ b) : mxN n f ≤ b ↔ ∀ k, k < n → f k ≤ b := by
  induction n with
  | zero => simp [mxN]; exact hb
  | succ n ih =>
    unfold mxN
    constructor
    · intro h k hk
      by_cases e : k = n
      · subst e; omega
      · exact ih.mp (by omega) k (by omega)
    · intro h
      have h1 := ih.mpr (fun k hk => h k (by omega))
      have h2 := h n (by omega)
      omega
theorem sp_X7_shipIn_30 {I : HI} {Q : Option AV → HI → Prop} {b : Int} (kq : Q (some (aI (fi (I 31) b 6 0))) I) : Rj MX7_shipIn 0 [aR 30, aI b] I Q := by
  have lp : ∀ (n k : Nat) (z : Int), z = (k : Int) → k + n = 6 → Q (some (aI (fi (I 31) b n k))) I → Bj MX7_shipIn 0 2 [some (aR 30), some (aI b), some (aI z)] [] I Q := by
    intro n
    induction n with
    | zero =>
      intro k z hz hk hq
      refine b_iload_n rfl rfl ?_
      refine b_bipush rfl (by decide) ?_
      refine b_icmp_ge (tgt := 26) rfl rfl (fun c5 => ?_) (fun c5 => ?_)
      · refine b_iconst rfl (by decide) ?_
        refine b_iret rfl rfl ?_
        exact hq
      · omega
    | succ n ih =>
      intro k z hz hk hq
      have ez : z.toNat = k := by omega
      refine b_iload_n rfl rfl ?_
      refine b_bipush rfl (by decide) ?_
      refine b_icmp_ge (tgt := 26) rfl rfl (fun c5 => ?_) (fun c5 => ?_)
      · omega
      · refine b_aload_n rfl rfl ?_
        refine b_getR (r := 31) rfl fl7_9 rfl (by decide) rfl rfl ?_
        refine b_iload_n rfl rfl ?_
        refine b_iald rfl rfl (by omega) (by omega) ?_
        refine b_iload_n rfl rfl ?_
        rw [ez]
        refine b_icmp_ne (tgt := 20) rfl rfl (fun c15 => ?_) (fun c15 => ?_)
        · refine b_iincX (F := fun z20 => [some (aR 30), some (aI b), some (aI z20)]) rfl rfl (by omega) (by omega) (fun _ => rfl) (fun z20 ez20 => ?_)
          refine b_goto (tgt := 2) rfl rfl ?_
          refine ih (k + 1) _ (by omega) (by omega) ?_
          refine qI hq ?_ rfl
          rw [fi, if_neg c15]
        · refine b_iload_n rfl rfl ?_
          refine b_iret rfl rfl ?_
          exact qI hq (by unfold fi; rw [if_pos c15]; exact hz.symm) rfl
  refine rj_of okX7_shipIn (Nat.le_of_ble_eq_true rfl) rfl ?_
  refine b_iconst rfl (by decide) ?_
  refine b_istoreX_n (F := fun z1 => [some (aR 30), some (aI b), some (aI z1)]) rfl (by decide) (fun _ => rfl) (fun z1 ez1 => ?_)
  exact lp 6 0 _ (by omega) rfl kq
theorem sp_X7_shipIn_34 {I : HI} {Q : Option AV → HI → Prop} {b : Int} (kq : Q (some (aI (fi (I 35) b 6 0))) I) : Rj MX7_shipIn 0 [aR 34, aI b] I Q := by
  have lp : ∀ (n k : Nat) (z : Int), z = (k : Int) → k + n = 6 → Q (some (aI (fi (I 35) b n k))) I → Bj MX7_shipIn 0 2 [some (aR 34), some (aI b), some (aI z)] [] I Q := by
    intro n
    induction n with
    | zero =>
      intro k z hz hk hq
      refine b_iload_n rfl rfl ?_
      refine b_bipush rfl (by decide) ?_
      refine b_icmp_ge (tgt := 26) rfl rfl (fun c5 => ?_) (fun c5 => ?_)
      · refine b_iconst rfl (by decide) ?_
        refine b_iret rfl rfl ?_
        exact hq
      · omega
    | succ n ih =>
      intro k z hz hk hq
      have ez : z.toNat = k := by omega
      refine b_iload_n rfl rfl ?_
      refine b_bipush rfl (by decide) ?_
      refine b_icmp_ge (tgt := 26) rfl rfl (fun c5 => ?_) (fun c5 => ?_)
      · omega
      · refine b_aload_n rfl rfl ?_
        refine b_getR (r := 35) rfl fl7_9 rfl (by decide) rfl rfl ?_
        refine b_iload_n rfl rfl ?_
        refine b_iald rfl rfl (by omega) (by omega) ?_
        refine b_iload_n rfl rfl ?_
        rw [ez]
        refine b_icmp_ne (tgt := 20) rfl rfl (fun c15 => ?_) (fun c15 => ?_)
        · refine b_iincX (F := fun z20 => [some (aR 34), some (aI b), some (aI z20)]) rfl rfl (by omega) (by omega) (fun _ => rfl) (fun z20 ez20 => ?_)
          refine b_goto (tgt := 2) rfl rfl ?_
          refine ih (k + 1) _ (by omega) (by omega) ?_
          refine qI hq ?_ rfl
          rw [fi, if_neg c15]
        · refine b_iload_n rfl rfl ?_
          refine b_iret rfl rfl ?_
          exact qI hq (by unfold fi; rw [if_pos c15]; exact hz.symm) rfl
  refine rj_of okX7_shipIn (Nat.le_of_ble_eq_true rfl) rfl ?_
  refine b_iconst rfl (by decide) ?_
  refine b_istoreX_n (F := fun z1 => [some (aR 34), some (aI b), some (aI z1)]) rfl (by decide) (fun _ => rfl) (fun z1 ez1 => ?_)
  exact lp 6 0 _ (by omega) rfl kq
theorem sp_X7_shipIn_20 {I : HI} {Q : Option AV → HI → Prop} {b : Int} (kq : Q (some (aI (fi (I 21) b 6 0))) I) : Rj MX7_shipIn 0 [aR 20, aI b] I Q := by
  have lp : ∀ (n k : Nat) (z : Int), z = (k : Int) → k + n = 6 → Q (some (aI (fi (I 21) b n k))) I → Bj MX7_shipIn 0 2 [some (aR 20), some (aI b), some (aI z)] [] I Q := by
    intro n
    induction n with
    | zero =>
      intro k z hz hk hq
      refine b_iload_n rfl rfl ?_
      refine b_bipush rfl (by decide) ?_
      refine b_icmp_ge (tgt := 26) rfl rfl (fun c5 => ?_) (fun c5 => ?_)
      · refine b_iconst rfl (by decide) ?_
        refine b_iret rfl rfl ?_
        exact hq
      · omega
    | succ n ih =>
      intro k z hz hk hq
      have ez : z.toNat = k := by omega
      refine b_iload_n rfl rfl ?_
      refine b_bipush rfl (by decide) ?_
      refine b_icmp_ge (tgt := 26) rfl rfl (fun c5 => ?_) (fun c5 => ?_)
      · omega
      · refine b_aload_n rfl rfl ?_
        refine b_getR (r := 21) rfl fl7_9 rfl (by decide) rfl rfl ?_
        refine b_iload_n rfl rfl ?_
        refine b_iald rfl rfl (by omega) (by omega) ?_
        refine b_iload_n rfl rfl ?_
        rw [ez]
        refine b_icmp_ne (tgt := 20) rfl rfl (fun c15 => ?_) (fun c15 => ?_)
        · refine b_iincX (F := fun z20 => [some (aR 20), some (aI b), some (aI z20)]) rfl rfl (by omega) (by omega) (fun _ => rfl) (fun z20 ez20 => ?_)
          refine b_goto (tgt := 2) rfl rfl ?_
          refine ih (k + 1) _ (by omega) (by omega) ?_
          refine qI hq ?_ rfl
          rw [fi, if_neg c15]
        · refine b_iload_n rfl rfl ?_
          refine b_iret rfl rfl ?_
          exact qI hq (by unfold fi; rw [if_pos c15]; exact hz.symm) rfl
  refine rj_of okX7_shipIn (Nat.le_of_ble_eq_true rfl) rfl ?_
  refine b_iconst rfl (by decide) ?_
  refine b_istoreX_n (F := fun z1 => [some (aR 20), some (aI b), some (aI z1)]) rfl (by decide) (fun _ => rfl) (fun z1 ez1 => ?_)
  exact lp 6 0 _ (by omega) rfl kq
theorem sp_X7_lying_30 {I : HI} {Q : Option AV → HI → Prop} (kq : Q (some (aI (sumN 6 (fun k => if I 31 k = -1 then 0 else 1)))) I) : Rj MX7_lying 0 [aR 30] I Q := by
  have lp : ∀ (n k : Nat) (z y : Int), z = (k : Int) → k + n = 6 → y = sumN k (fun k => if I 31 k = -1 then 0 else 1) → 0 ≤ y ∧ y ≤ k → Bj MX7_lying 0 4 [some (aR 30), some (aI y), some (aI z)] [] I Q := by
    intro n
    induction n with
    | zero =>
      intro k z y hz hk hy hb
      refine b_iload_n rfl rfl ?_
      refine b_bipush rfl (by decide) ?_
      refine b_icmp_ge (tgt := 29) rfl rfl (fun c7 => ?_) (fun c7 => ?_)
      · refine b_iload_n rfl rfl ?_
        refine b_iret rfl rfl ?_
        exact qI kq (by rw [hy, show k = 6 by omega]) rfl
      · omega
    | succ n ih =>
      intro k z y hz hk hy hb
      have ez : z.toNat = k := by omega
      refine b_iload_n rfl rfl ?_
      refine b_bipush rfl (by decide) ?_
      refine b_icmp_ge (tgt := 29) rfl rfl (fun c7 => ?_) (fun c7 => ?_)
      · omega
      · refine b_aload_n rfl rfl ?_
        refine b_getR (r := 31) rfl fl7_9 rfl (by decide) rfl rfl ?_
        refine b_iload_n rfl rfl ?_
        refine b_iald rfl rfl (by omega) (by omega) ?_
        refine b_iconst rfl (by decide) ?_
        rw [ez]
        refine b_icmp_eq (tgt := 23) rfl rfl (fun c17 => ?_) (fun c17 => ?_)
        · refine b_iincX (F := fun z23 => [some (aR 30), some (aI y), some (aI z23)]) rfl rfl (by omega) (by omega) (fun _ => rfl) (fun z23 ez23 => ?_)
          refine b_goto (tgt := 4) rfl rfl ?_
          refine ih (k + 1) _ _ (by omega) (by omega) ?_ (by omega)
          show _ = sumN k _ + _
          dsimp only
          split <;> omega
        · refine b_iincX (F := fun z20 => [some (aR 30), some (aI z20), some (aI z)]) rfl rfl (by omega) (by omega) (fun _ => rfl) (fun z20 ez20 => ?_)
          refine b_iincX (F := fun z23 => [some (aR 30), some (aI z20), some (aI z23)]) rfl rfl (by omega) (by omega) (fun _ => rfl) (fun z23 ez23 => ?_)
          refine b_goto (tgt := 4) rfl rfl ?_
          refine ih (k + 1) _ _ (by omega) (by omega) ?_ (by omega)
          show _ = sumN k _ + _
          dsimp only
          split <;> omega
  refine rj_of okX7_lying (Nat.le_of_ble_eq_true rfl) rfl ?_
  refine b_iconst rfl (by decide) ?_
  refine b_istoreX_n (F := fun z1 => [some (aR 30), some (aI z1), none]) rfl (by decide) (fun _ => rfl) (fun z1 ez1 => ?_)
  refine b_iconst rfl (by decide) ?_
  refine b_istoreX_n (F := fun z3 => [some (aR 30), some (aI z1), some (aI z3)]) rfl (by decide) (fun _ => rfl) (fun z3 ez3 => ?_)
  exact lp 6 0 _ _ (by omega) rfl (by rw [ez1]; rfl) (by omega)
theorem sp_X7_allCrates_30 {I : HI} {Q : Option AV → HI → Prop} (hr : ∀ k, 0 ≤ I 32 k ∧ I 32 k ≤ 255) (kq : Q (some (aI (sumN 144 (I 32)))) I) : Rj MX7_allCrates 0 [aR 30] I Q := by
  have lp : ∀ (n k : Nat) (z y : Int), z = (k : Int) → k + n = 144 → y = sumN k (I 32) → 0 ≤ y ∧ y ≤ 255 * k → Bj MX7_allCrates 0 4 [some (aR 30), some (aI y), some (aI z)] [] I Q := by
    intro n
    induction n with
    | zero =>
      intro k z y hz hk hy hb
      refine b_iload_n rfl rfl ?_
      refine b_sipush rfl (by decide) ?_
      refine b_icmp_ge (tgt := 26) rfl rfl (fun c8 => ?_) (fun c8 => ?_)
      · refine b_iload_n rfl rfl ?_
        refine b_iret rfl rfl ?_
        exact qI kq (by rw [hy, show k = 144 by omega]) rfl
      · omega
    | succ n ih =>
      intro k z y hz hk hy hb
      have ez : z.toNat = k := by omega
      have hr0 := hr k
      refine b_iload_n rfl rfl ?_
      refine b_sipush rfl (by decide) ?_
      refine b_icmp_ge (tgt := 26) rfl rfl (fun c8 => ?_) (fun c8 => ?_)
      · omega
      · refine b_iload_n rfl rfl ?_
        refine b_aload_n rfl rfl ?_
        refine b_getR (r := 32) rfl fl7_15 rfl (by decide) rfl rfl ?_
        refine b_iload_n rfl rfl ?_
        refine b_iald rfl rfl (by omega) (by omega) ?_
        rw [ez]
        refine b_iaddN rfl (by omega) (by omega) ?_
        refine b_istoreX_n (F := fun z19 => [some (aR 30), some (aI z19), some (aI z)]) rfl (by decide) (fun _ => rfl) (fun z19 ez19 => ?_)
        refine b_iincX (F := fun z20 => [some (aR 30), some (aI z19), some (aI z20)]) rfl rfl (by omega) (by omega) (fun _ => rfl) (fun z20 ez20 => ?_)
        refine b_goto (tgt := 4) rfl rfl ?_
        refine ih (k + 1) _ _ (by omega) (by omega) ?_ (by omega)
        show _ = sumN k _ + _
        try dsimp only
        omega
  refine rj_of okX7_allCrates (Nat.le_of_ble_eq_true rfl) rfl ?_
  refine b_iconst rfl (by decide) ?_
  refine b_istoreX_n (F := fun z1 => [some (aR 30), some (aI z1), none]) rfl (by decide) (fun _ => rfl) (fun z1 ez1 => ?_)
  refine b_iconst rfl (by decide) ?_
  refine b_istoreX_n (F := fun z3 => [some (aR 30), some (aI z1), some (aI z3)]) rfl (by decide) (fun _ => rfl) (fun z3 ez3 => ?_)
  exact lp 144 0 _ _ (by omega) rfl (by rw [ez1]; rfl) (by omega)
theorem sp_X7_cratesOf_30 {I : HI} {Q : Option AV → HI → Prop} {w : Int} (hw : 0 ≤ w ∧ w < 6) (hr : ∀ k, 0 ≤ I 32 k ∧ I 32 k ≤ 255) (kq : Q (some (aI (sumN 24 (fun j => I 32 (w.toNat + 6 * j))))) I) : Rj MX7_cratesOf 1 [aR 30, aI w] I Q := by
  have lp : ∀ (n k : Nat) (z y : Int), z = w + 6 * (k : Int) → k + n = 24 → y = sumN k (fun j => I 32 (w.toNat + 6 * j)) → 0 ≤ y ∧ y ≤ 255 * k → Bj MX7_cratesOf 1 8 [some (aR 30), some (aI w), some (aI y), some (aI z)] [] I Q := by
    intro n
    induction n with
    | zero =>
      intro k z y hz hk hy hb
      refine b_iload_n rfl rfl ?_
      refine b_sipush rfl (by decide) ?_
      refine b_icmp_ge (tgt := 30) rfl rfl (fun c12 => ?_) (fun c12 => ?_)
      · refine b_iload_n rfl rfl ?_
        refine b_iret rfl rfl ?_
        exact qI kq (by rw [hy, show k = 24 by omega]) rfl
      · omega
    | succ n ih =>
      intro k z y hz hk hy hb
      have ez : z.toNat = w.toNat + 6 * k := by omega
      have hr0 := hr (w.toNat + 6 * k)
      refine b_iload_n rfl rfl ?_
      refine b_sipush rfl (by decide) ?_
      refine b_icmp_ge (tgt := 30) rfl rfl (fun c12 => ?_) (fun c12 => ?_)
      · omega
      · refine b_iload_n rfl rfl ?_
        refine b_aload_n rfl rfl ?_
        refine b_getR (r := 32) rfl fl7_15 rfl (by decide) rfl rfl ?_
        refine b_iload_n rfl rfl ?_
        refine b_iald rfl rfl (by omega) (by omega) ?_
        rw [ez]
        refine b_iaddN rfl (by omega) (by omega) ?_
        refine b_istoreX_n (F := fun z23 => [some (aR 30), some (aI w), some (aI z23), some (aI z)]) rfl (by decide) (fun _ => rfl) (fun z23 ez23 => ?_)
        refine b_iincX (F := fun z24 => [some (aR 30), some (aI w), some (aI z23), some (aI z24)]) rfl rfl (by omega) (by omega) (fun _ => rfl) (fun z24 ez24 => ?_)
        refine b_goto (tgt := 8) rfl rfl ?_
        refine ih (k + 1) _ _ (by omega) (by omega) ?_ (by omega)
        show _ = sumN k _ + _
        try dsimp only
        omega
  refine rj_of okX7_cratesOf (Nat.le_of_ble_eq_true rfl) rfl ?_
  refine b_iconst rfl (by decide) ?_
  refine b_istoreX_n (F := fun z1 => [some (aR 30), some (aI w), some (aI z1), none]) rfl (by decide) (fun _ => rfl) (fun z1 ez1 => ?_)
  refine b_iload_n rfl rfl ?_
  refine b_iconst rfl (by decide) ?_
  refine b_mmax rfl ml7_40 (by omega) (Nat.le_of_ble_eq_true rfl) ?_
  refine b_istoreX_n (F := fun z7 => [some (aR 30), some (aI w), some (aI z1), some (aI z7)]) rfl (by decide) (fun _ => rfl) (fun z7 ez7 => ?_)
  exact lp 24 0 _ _ (by omega) rfl (by rw [ez1]; rfl) (by omega)
theorem sp_X7_fullestCell_34 {I : HI} {Q : Option AV → HI → Prop} (hr : ∀ k, I 36 k ≤ 255) (kq : Q (some (aI (mxN 144 (I 36)))) I) : Rj MX7_fullestCell 1 [aR 34] I Q := by
  have lp : ∀ (n k : Nat) (z y : Int), z = (k : Int) → k + n = 144 → y = mxN k (I 36) → Bj MX7_fullestCell 1 4 [some (aR 34), some (aI y), some (aI z)] [] I Q := by
    intro n
    induction n with
    | zero =>
      intro k z y hz hk hy
      refine b_iload_n rfl rfl ?_
      refine b_sipush rfl (by decide) ?_
      refine b_icmp_ge (tgt := 28) rfl rfl (fun c8 => ?_) (fun c8 => ?_)
      · refine b_iload_n rfl rfl ?_
        refine b_iret rfl rfl ?_
        exact qI kq (by rw [hy, show k = 144 by omega]) rfl
      · omega
    | succ n ih =>
      intro k z y hz hk hy
      have ez : z.toNat = k := by omega
      refine b_iload_n rfl rfl ?_
      refine b_sipush rfl (by decide) ?_
      refine b_icmp_ge (tgt := 28) rfl rfl (fun c8 => ?_) (fun c8 => ?_)
      · omega
      · refine b_iload_n rfl rfl ?_
        refine b_aload_n rfl rfl ?_
        refine b_getR (r := 36) rfl fl7_15 rfl (by decide) rfl rfl ?_
        refine b_iload_n rfl rfl ?_
        refine b_iald rfl rfl (by omega) (by omega) ?_
        rw [ez]
        refine b_mmax rfl ml7_40 (by omega) (Nat.le_of_ble_eq_true rfl) ?_
        refine b_istoreX_n (F := fun z21 => [some (aR 34), some (aI z21), some (aI z)]) rfl (by decide) (fun _ => rfl) (fun z21 ez21 => ?_)
        refine b_iincX (F := fun z22 => [some (aR 34), some (aI z21), some (aI z22)]) rfl rfl (by omega) (by omega) (fun _ => rfl) (fun z22 ez22 => ?_)
        refine b_goto (tgt := 4) rfl rfl ?_
        refine ih (k + 1) _ _ (by omega) (by omega) ?_
        unfold mxN
        omega
  refine rj_of okX7_fullestCell (Nat.le_of_ble_eq_true rfl) rfl ?_
  refine b_iconst rfl (by decide) ?_
  refine b_istoreX_n (F := fun z1 => [some (aR 34), some (aI z1), none]) rfl (by decide) (fun _ => rfl) (fun z1 ez1 => ?_)
  refine b_iconst rfl (by decide) ?_
  refine b_istoreX_n (F := fun z3 => [some (aR 34), some (aI z1), some (aI z3)]) rfl (by decide) (fun _ => rfl) (fun z3 ez3 => ?_)
  exact lp 144 0 _ _ (by omega) rfl (by rw [ez1]; rfl)
def clrS_34 (I : HI) : HI := fil (fil (up (up (up I 34 5 0) 34 3 0) 34 4 0) 35 6 (fun _ => -1)) 36 144 (fun _ => 0)
theorem sp_X7_clear_34 {I : HI} {Q : Option AV → HI → Prop} (kq : Q none (clrS_34 I)) : Rj MX7_clear 0 [aR 34] I Q := by
  have lp2 : ∀ (n k : Nat) (z : Int) (J : HI), z = (k : Int) → k + n = 144 → (∀ J', J' = fil J 36 144 (fun _ => 0) → Q none J') → Bj MX7_clear 0 38 [some (aR 34), some (aI z)] [] (fil J 36 k (fun _ => 0)) Q := by
    intro n
    induction n with
    | zero =>
      intro k z J hz hk hq
      refine b_iload_n rfl rfl ?_
      refine b_sipush rfl (by decide) ?_
      refine b_icmp_ge (tgt := 58) rfl rfl (fun c42 => ?_) (fun c42 => ?_)
      · refine b_vret rfl rfl ?_
        exact hq _ (by rw [show k = 144 by omega])
      · omega
    | succ n ih =>
      intro k z J hz hk hq
      have ez : z.toNat = k := by omega
      refine b_iload_n rfl rfl ?_
      refine b_sipush rfl (by decide) ?_
      refine b_icmp_ge (tgt := 58) rfl rfl (fun c42 => ?_) (fun c42 => ?_)
      · omega
      · refine b_aload_n rfl rfl ?_
        refine b_getR (r := 36) rfl fl7_15 rfl (by decide) rfl rfl ?_
        refine b_iload_n rfl rfl ?_
        refine b_iconst rfl (by decide) ?_
        refine b_iast rfl rfl (by omega) (by omega) ?_
        refine b_iincX (F := fun z52 => [some (aR 34), some (aI z52)]) rfl rfl (by omega) (by omega) (fun _ => rfl) (fun z52 ez52 => ?_)
        refine b_goto (tgt := 38) rfl rfl ?_
        rw [ez, fil_up (f := fun _ => 0)]
        exact ih (k + 1) _ J (by omega) (by omega) hq
  have lp1 : ∀ (n k : Nat) (z : Int) (J : HI), z = (k : Int) → k + n = 6 → (∀ J', J' = fil (fil J 35 6 (fun _ => -1)) 36 144 (fun _ => 0) → Q none J') → Bj MX7_clear 0 17 [some (aR 34), some (aI z)] [] (fil J 35 k (fun _ => -1)) Q := by
    intro n
    induction n with
    | zero =>
      intro k z J hz hk hq
      refine b_iload_n rfl rfl ?_
      refine b_bipush rfl (by decide) ?_
      refine b_icmp_ge (tgt := 36) rfl rfl (fun c20 => ?_) (fun c20 => ?_)
      · refine b_iconst rfl (by decide) ?_
        refine b_istoreX_n (F := fun z37 => [some (aR 34), some (aI z37)]) rfl (by decide) (fun _ => rfl) (fun z37 ez37 => ?_)
        refine b_eq rfl rfl (fil_0 (c := 36) (f := fun _ => 0)).symm ?_
        exact lp2 144 0 _ _ (by omega) rfl (fun J' e => hq J' (by rw [e, show k = 6 by omega]))
      · omega
    | succ n ih =>
      intro k z J hz hk hq
      have ez : z.toNat = k := by omega
      refine b_iload_n rfl rfl ?_
      refine b_bipush rfl (by decide) ?_
      refine b_icmp_ge (tgt := 36) rfl rfl (fun c20 => ?_) (fun c20 => ?_)
      · omega
      · refine b_aload_n rfl rfl ?_
        refine b_getR (r := 35) rfl fl7_9 rfl (by decide) rfl rfl ?_
        refine b_iload_n rfl rfl ?_
        refine b_iconst rfl (by decide) ?_
        refine b_iast rfl rfl (by omega) (by omega) ?_
        refine b_iincX (F := fun z30 => [some (aR 34), some (aI z30)]) rfl rfl (by omega) (by omega) (fun _ => rfl) (fun z30 ez30 => ?_)
        refine b_goto (tgt := 17) rfl rfl ?_
        rw [ez, fil_up (f := fun _ => -1)]
        exact ih (k + 1) _ J (by omega) (by omega) hq
  refine rj_of okX7_clear (Nat.le_of_ble_eq_true rfl) rfl ?_
  refine b_aload_n rfl rfl ?_
  refine b_iconst rfl (by decide) ?_
  refine b_putI rfl fl7_24 rfl (by decide) rfl ?_
  refine b_aload_n rfl rfl ?_
  refine b_iconst rfl (by decide) ?_
  refine b_putI rfl fl7_28 rfl (by decide) rfl ?_
  refine b_aload_n rfl rfl ?_
  refine b_iconst rfl (by decide) ?_
  refine b_putI rfl fl7_31 rfl (by decide) rfl ?_
  refine b_iconst rfl (by decide) ?_
  refine b_istoreX_n (F := fun z16 => [some (aR 34), some (aI z16)]) rfl (by decide) (fun _ => rfl) (fun z16 ez16 => ?_)
  refine b_eq rfl rfl (fil_0 (c := 35) (f := fun _ => -1)).symm ?_
  exact lp1 6 0 _ _ (by omega) rfl (fun J' e => by rw [e]; exact kq)
def clrS_20 (I : HI) : HI := fil (fil (up (up (up I 20 5 0) 20 3 0) 20 4 0) 21 6 (fun _ => -1)) 22 144 (fun _ => 0)
theorem sp_X7_clear_20 {I : HI} {Q : Option AV → HI → Prop} (kq : Q none (clrS_20 I)) : Rj MX7_clear 0 [aR 20] I Q := by
  have lp2 : ∀ (n k : Nat) (z : Int) (J : HI), z = (k : Int) → k + n = 144 → (∀ J', J' = fil J 22 144 (fun _ => 0) → Q none J') → Bj MX7_clear 0 38 [some (aR 20), some (aI z)] [] (fil J 22 k (fun _ => 0)) Q := by
    intro n
    induction n with
    | zero =>
      intro k z J hz hk hq
      refine b_iload_n rfl rfl ?_
      refine b_sipush rfl (by decide) ?_
      refine b_icmp_ge (tgt := 58) rfl rfl (fun c42 => ?_) (fun c42 => ?_)
      · refine b_vret rfl rfl ?_
        exact hq _ (by rw [show k = 144 by omega])
      · omega
    | succ n ih =>
      intro k z J hz hk hq
      have ez : z.toNat = k := by omega
      refine b_iload_n rfl rfl ?_
      refine b_sipush rfl (by decide) ?_
      refine b_icmp_ge (tgt := 58) rfl rfl (fun c42 => ?_) (fun c42 => ?_)
      · omega
      · refine b_aload_n rfl rfl ?_
        refine b_getR (r := 22) rfl fl7_15 rfl (by decide) rfl rfl ?_
        refine b_iload_n rfl rfl ?_
        refine b_iconst rfl (by decide) ?_
        refine b_iast rfl rfl (by omega) (by omega) ?_
        refine b_iincX (F := fun z52 => [some (aR 20), some (aI z52)]) rfl rfl (by omega) (by omega) (fun _ => rfl) (fun z52 ez52 => ?_)
        refine b_goto (tgt := 38) rfl rfl ?_
        rw [ez, fil_up (f := fun _ => 0)]
        exact ih (k + 1) _ J (by omega) (by omega) hq
  have lp1 : ∀ (n k : Nat) (z : Int) (J : HI), z = (k : Int) → k + n = 6 → (∀ J', J' = fil (fil J 21 6 (fun _ => -1)) 22 144 (fun _ => 0) → Q none J') → Bj MX7_clear 0 17 [some (aR 20), some (aI z)] [] (fil J 21 k (fun _ => -1)) Q := by
    intro n
    induction n with
    | zero =>
      intro k z J hz hk hq
      refine b_iload_n rfl rfl ?_
      refine b_bipush rfl (by decide) ?_
      refine b_icmp_ge (tgt := 36) rfl rfl (fun c20 => ?_) (fun c20 => ?_)
      · refine b_iconst rfl (by decide) ?_
        refine b_istoreX_n (F := fun z37 => [some (aR 20), some (aI z37)]) rfl (by decide) (fun _ => rfl) (fun z37 ez37 => ?_)
        refine b_eq rfl rfl (fil_0 (c := 22) (f := fun _ => 0)).symm ?_
        exact lp2 144 0 _ _ (by omega) rfl (fun J' e => hq J' (by rw [e, show k = 6 by omega]))
      · omega
    | succ n ih =>
      intro k z J hz hk hq
      have ez : z.toNat = k := by omega
      refine b_iload_n rfl rfl ?_
      refine b_bipush rfl (by decide) ?_
      refine b_icmp_ge (tgt := 36) rfl rfl (fun c20 => ?_) (fun c20 => ?_)
      · omega
      · refine b_aload_n rfl rfl ?_
        refine b_getR (r := 21) rfl fl7_9 rfl (by decide) rfl rfl ?_
        refine b_iload_n rfl rfl ?_
        refine b_iconst rfl (by decide) ?_
        refine b_iast rfl rfl (by omega) (by omega) ?_
        refine b_iincX (F := fun z30 => [some (aR 20), some (aI z30)]) rfl rfl (by omega) (by omega) (fun _ => rfl) (fun z30 ez30 => ?_)
        refine b_goto (tgt := 17) rfl rfl ?_
        rw [ez, fil_up (f := fun _ => -1)]
        exact ih (k + 1) _ J (by omega) (by omega) hq
  refine rj_of okX7_clear (Nat.le_of_ble_eq_true rfl) rfl ?_
  refine b_aload_n rfl rfl ?_
  refine b_iconst rfl (by decide) ?_
  refine b_putI rfl fl7_24 rfl (by decide) rfl ?_
  refine b_aload_n rfl rfl ?_
  refine b_iconst rfl (by decide) ?_
  refine b_putI rfl fl7_28 rfl (by decide) rfl ?_
  refine b_aload_n rfl rfl ?_
  refine b_iconst rfl (by decide) ?_
  refine b_putI rfl fl7_31 rfl (by decide) rfl ?_
  refine b_iconst rfl (by decide) ?_
  refine b_istoreX_n (F := fun z16 => [some (aR 20), some (aI z16)]) rfl (by decide) (fun _ => rfl) (fun z16 ez16 => ?_)
  refine b_eq rfl rfl (fil_0 (c := 21) (f := fun _ => -1)).symm ?_
  exact lp1 6 0 _ _ (by omega) rfl (fun J' e => by rw [e]; exact kq)
def cpS_34 (I : HI) : HI := cpy (cpy (up (up (up I 30 5 (I 34 5)) 30 3 0) 30 4 0) 35 31 0 0 6) 36 32 0 0 144
theorem sp_X7_copy_30_34 {I : HI} {Q : Option AV → HI → Prop} (kq : Q none (cpS_34 I)) : Rj MX7_copy 1 [aR 30, aR 34] I Q := by
  refine rj_of okX7_copy (Nat.le_of_ble_eq_true rfl) rfl ?_
  refine b_aload_n rfl rfl ?_
  refine b_aload_n rfl rfl ?_
  refine b_getI rfl fl7_24 rfl (by decide) rfl ?_
  refine b_putI rfl fl7_24 rfl (by decide) rfl ?_
  refine b_aload_n rfl rfl ?_
  refine b_iconst rfl (by decide) ?_
  refine b_putI rfl fl7_28 rfl (by decide) rfl ?_
  refine b_aload_n rfl rfl ?_
  refine b_iconst rfl (by decide) ?_
  refine b_putI rfl fl7_31 rfl (by decide) rfl ?_
  refine b_aload_n rfl rfl ?_
  refine b_getR (r := 35) rfl fl7_9 rfl (by decide) rfl rfl ?_
  refine b_iconst rfl (by decide) ?_
  refine b_aload_n rfl rfl ?_
  refine b_getR (r := 31) rfl fl7_9 rfl (by decide) rfl rfl ?_
  refine b_iconst rfl (by decide) ?_
  refine b_bipush rfl (by decide) ?_
  refine b_copy rfl ml7_34 (by omega) rfl rfl (by omega) (by omega) (by omega) (by omega) (by omega) ?_
  refine b_aload_n rfl rfl ?_
  refine b_getR (r := 36) rfl fl7_15 rfl (by decide) rfl rfl ?_
  refine b_iconst rfl (by decide) ?_
  refine b_aload_n rfl rfl ?_
  refine b_getR (r := 32) rfl fl7_15 rfl (by decide) rfl rfl ?_
  refine b_iconst rfl (by decide) ?_
  refine b_sipush rfl (by decide) ?_
  refine b_copy rfl ml7_34 (by omega) rfl rfl (by omega) (by omega) (by omega) (by omega) (by omega) ?_
  refine b_vret rfl rfl ?_
  exact kq
def cpS_20 (I : HI) : HI := cpy (cpy (up (up (up I 30 5 (I 20 5)) 30 3 0) 30 4 0) 21 31 0 0 6) 22 32 0 0 144
theorem sp_X7_copy_30_20 {I : HI} {Q : Option AV → HI → Prop} (kq : Q none (cpS_20 I)) : Rj MX7_copy 1 [aR 30, aR 20] I Q := by
  refine rj_of okX7_copy (Nat.le_of_ble_eq_true rfl) rfl ?_
  refine b_aload_n rfl rfl ?_
  refine b_aload_n rfl rfl ?_
  refine b_getI rfl fl7_24 rfl (by decide) rfl ?_
  refine b_putI rfl fl7_24 rfl (by decide) rfl ?_
  refine b_aload_n rfl rfl ?_
  refine b_iconst rfl (by decide) ?_
  refine b_putI rfl fl7_28 rfl (by decide) rfl ?_
  refine b_aload_n rfl rfl ?_
  refine b_iconst rfl (by decide) ?_
  refine b_putI rfl fl7_31 rfl (by decide) rfl ?_
  refine b_aload_n rfl rfl ?_
  refine b_getR (r := 21) rfl fl7_9 rfl (by decide) rfl rfl ?_
  refine b_iconst rfl (by decide) ?_
  refine b_aload_n rfl rfl ?_
  refine b_getR (r := 31) rfl fl7_9 rfl (by decide) rfl rfl ?_
  refine b_iconst rfl (by decide) ?_
  refine b_bipush rfl (by decide) ?_
  refine b_copy rfl ml7_34 (by omega) rfl rfl (by omega) (by omega) (by omega) (by omega) (by omega) ?_
  refine b_aload_n rfl rfl ?_
  refine b_getR (r := 22) rfl fl7_15 rfl (by decide) rfl rfl ?_
  refine b_iconst rfl (by decide) ?_
  refine b_aload_n rfl rfl ?_
  refine b_getR (r := 32) rfl fl7_15 rfl (by decide) rfl rfl ?_
  refine b_iconst rfl (by decide) ?_
  refine b_sipush rfl (by decide) ?_
  refine b_copy rfl ml7_34 (by omega) rfl rfl (by omega) (by omega) (by omega) (by omega) (by omega) ?_
  refine b_vret rfl rfl ?_
  exact kq
theorem sp_X7_writeTo_30 {I : HI} {Q : Option AV → HI → Prop} {a : Int} (ha : 0 ≤ a ∧ a + 213 ≤ 4260) (kq : Q none (cpy (cpy (cpy (up (up (up I 39 a.toNat (I 30 5)) 39 (a + 1).toNat (I 30 3)) 39 (a + 2).toNat (I 30 4)) 31 39 0 (a + 3).toNat 6) 32 39 0 (a + 3 + 6).toNat 144) 33 39 0 (a + 3 + 6 + 144).toNat 60)) : Rj MX7_writeTo 1 [aR 30, aR 39, aI a] I Q := by
  refine rj_of okX7_writeTo (Nat.le_of_ble_eq_true rfl) rfl ?_
  refine b_aload_n rfl rfl ?_
  refine b_iload_n rfl rfl ?_
  refine b_aload_n rfl rfl ?_
  refine b_getI rfl fl7_24 rfl (by decide) rfl ?_
  refine b_iast rfl rfl (by omega) (by omega) ?_
  refine b_aload_n rfl rfl ?_
  refine b_iload_n rfl rfl ?_
  refine b_iconst rfl (by decide) ?_
  refine b_iaddN rfl (by omega) (by omega) ?_
  refine b_aload_n rfl rfl ?_
  refine b_getI rfl fl7_28 rfl (by decide) rfl ?_
  try simp only [up_ap, cpy_ap, fil_ap, row_ap, Nat.reduceEqDiff, Nat.reduceLT, Nat.reduceLeDiff, Int.toNat_natCast, Int.reduceToNat, reduceCtorEq, false_and, and_false, true_and, and_true, and_self, reduceIte]
  refine b_iast rfl rfl (by omega) (by omega) ?_
  refine b_aload_n rfl rfl ?_
  refine b_iload_n rfl rfl ?_
  refine b_iconst rfl (by decide) ?_
  refine b_iaddN rfl (by omega) (by omega) ?_
  refine b_aload_n rfl rfl ?_
  refine b_getI rfl fl7_31 rfl (by decide) rfl ?_
  try simp only [up_ap, cpy_ap, fil_ap, row_ap, Nat.reduceEqDiff, Nat.reduceLT, Nat.reduceLeDiff, Int.toNat_natCast, Int.reduceToNat, reduceCtorEq, false_and, and_false, true_and, and_true, and_self, reduceIte]
  refine b_iast rfl rfl (by omega) (by omega) ?_
  refine b_aload_n rfl rfl ?_
  refine b_getR (r := 31) rfl fl7_9 rfl (by decide) rfl rfl ?_
  refine b_iconst rfl (by decide) ?_
  refine b_aload_n rfl rfl ?_
  refine b_iload_n rfl rfl ?_
  refine b_iconst rfl (by decide) ?_
  refine b_iaddN rfl (by omega) (by omega) ?_
  refine b_bipush rfl (by decide) ?_
  refine b_copy rfl ml7_34 (by omega) rfl rfl (by omega) (by omega) (by omega) (by omega) (by omega) ?_
  refine b_aload_n rfl rfl ?_
  refine b_getR (r := 32) rfl fl7_15 rfl (by decide) rfl rfl ?_
  refine b_iconst rfl (by decide) ?_
  refine b_aload_n rfl rfl ?_
  refine b_iload_n rfl rfl ?_
  refine b_iconst rfl (by decide) ?_
  refine b_iaddN rfl (by omega) (by omega) ?_
  refine b_bipush rfl (by decide) ?_
  refine b_iaddN rfl (by omega) (by omega) ?_
  refine b_sipush rfl (by decide) ?_
  refine b_copy rfl ml7_34 (by omega) rfl rfl (by omega) (by omega) (by omega) (by omega) (by omega) ?_
  refine b_aload_n rfl rfl ?_
  refine b_getR (r := 33) rfl fl7_18 rfl (by decide) rfl rfl ?_
  refine b_iconst rfl (by decide) ?_
  refine b_aload_n rfl rfl ?_
  refine b_iload_n rfl rfl ?_
  refine b_iconst rfl (by decide) ?_
  refine b_iaddN rfl (by omega) (by omega) ?_
  refine b_bipush rfl (by decide) ?_
  refine b_iaddN rfl (by omega) (by omega) ?_
  refine b_sipush rfl (by decide) ?_
  refine b_iaddN rfl (by omega) (by omega) ?_
  refine b_bipush rfl (by decide) ?_
  refine b_copy rfl ml7_34 (by omega) rfl rfl (by omega) (by omega) (by omega) (by omega) (by omega) ?_
  refine b_vret rfl rfl ?_
  exact kq
theorem sp_X7_readFrom_30 {I : HI} {Q : Option AV → HI → Prop} {a : Int} (ha : 0 ≤ a ∧ a + 213 ≤ 4260) (kq : Q none (cpy (cpy (cpy (up (up (up I 30 5 (I 39 a.toNat)) 30 3 (I 39 (a + 1).toNat)) 30 4 (I 39 (a + 2).toNat)) 39 31 (a + 3).toNat 0 6) 39 32 (a + 3 + 6).toNat 0 144) 39 33 (a + 3 + 6 + 144).toNat 0 60)) : Rj MX7_readFrom 1 [aR 30, aR 39, aI a] I Q := by
  refine rj_of okX7_readFrom (Nat.le_of_ble_eq_true rfl) rfl ?_
  refine b_aload_n rfl rfl ?_
  refine b_aload_n rfl rfl ?_
  refine b_iload_n rfl rfl ?_
  refine b_iald rfl rfl (by omega) (by omega) ?_
  refine b_putI rfl fl7_24 rfl (by decide) rfl ?_
  refine b_aload_n rfl rfl ?_
  refine b_aload_n rfl rfl ?_
  refine b_iload_n rfl rfl ?_
  refine b_iconst rfl (by decide) ?_
  refine b_iaddN rfl (by omega) (by omega) ?_
  refine b_iald rfl rfl (by omega) (by omega) ?_
  try simp only [up_ap, cpy_ap, fil_ap, row_ap, Nat.reduceEqDiff, Nat.reduceLT, Nat.reduceLeDiff, Int.toNat_natCast, Int.reduceToNat, reduceCtorEq, false_and, and_false, true_and, and_true, and_self, reduceIte]
  refine b_putI rfl fl7_28 rfl (by decide) rfl ?_
  refine b_aload_n rfl rfl ?_
  refine b_aload_n rfl rfl ?_
  refine b_iload_n rfl rfl ?_
  refine b_iconst rfl (by decide) ?_
  refine b_iaddN rfl (by omega) (by omega) ?_
  refine b_iald rfl rfl (by omega) (by omega) ?_
  try simp only [up_ap, cpy_ap, fil_ap, row_ap, Nat.reduceEqDiff, Nat.reduceLT, Nat.reduceLeDiff, Int.toNat_natCast, Int.reduceToNat, reduceCtorEq, false_and, and_false, true_and, and_true, and_self, reduceIte]
  refine b_putI rfl fl7_31 rfl (by decide) rfl ?_
  refine b_aload_n rfl rfl ?_
  refine b_iload_n rfl rfl ?_
  refine b_iconst rfl (by decide) ?_
  refine b_iaddN rfl (by omega) (by omega) ?_
  refine b_aload_n rfl rfl ?_
  refine b_getR (r := 31) rfl fl7_9 rfl (by decide) rfl rfl ?_
  refine b_iconst rfl (by decide) ?_
  refine b_bipush rfl (by decide) ?_
  refine b_copy rfl ml7_34 (by omega) rfl rfl (by omega) (by omega) (by omega) (by omega) (by omega) ?_
  refine b_aload_n rfl rfl ?_
  refine b_iload_n rfl rfl ?_
  refine b_iconst rfl (by decide) ?_
  refine b_iaddN rfl (by omega) (by omega) ?_
  refine b_bipush rfl (by decide) ?_
  refine b_iaddN rfl (by omega) (by omega) ?_
  refine b_aload_n rfl rfl ?_
  refine b_getR (r := 32) rfl fl7_15 rfl (by decide) rfl rfl ?_
  refine b_iconst rfl (by decide) ?_
  refine b_sipush rfl (by decide) ?_
  refine b_copy rfl ml7_34 (by omega) rfl rfl (by omega) (by omega) (by omega) (by omega) (by omega) ?_
  refine b_aload_n rfl rfl ?_
  refine b_iload_n rfl rfl ?_
  refine b_iconst rfl (by decide) ?_
  refine b_iaddN rfl (by omega) (by omega) ?_
  refine b_bipush rfl (by decide) ?_
  refine b_iaddN rfl (by omega) (by omega) ?_
  refine b_sipush rfl (by decide) ?_
  refine b_iaddN rfl (by omega) (by omega) ?_
  refine b_aload_n rfl rfl ?_
  refine b_getR (r := 33) rfl fl7_18 rfl (by decide) rfl rfl ?_
  refine b_iconst rfl (by decide) ?_
  refine b_bipush rfl (by decide) ?_
  refine b_copy rfl ml7_34 (by omega) rfl rfl (by omega) (by omega) (by omega) (by omega) (by omega) ?_
  refine b_vret rfl rfl ?_
  exact kq
def pk (h s c w : Int) : Int := ((h * 6 + s) * 24 + c) * 3 + w
def keepS (I : HI) (s c w : Int) : HI := if I 30 4 < 60 then up (up I 33 ((I 30 3 + I 30 4) % 60).toNat (pk (I 30 5) s c w)) 30 4 (I 30 4 + 1) else up (up I 33 ((I 30 3 + I 30 4) % 60).toNat (pk (I 30 5) s c w)) 30 3 ((I 30 3 + 1) % 60)
theorem sp_X7_keep_30 {I : HI} {Q : Option AV → HI → Prop} {s c w : Int} (h1 : 0 ≤ I 30 3 ∧ I 30 3 < 60 ∧ 0 ≤ I 30 4 ∧ I 30 4 ≤ 60 ∧ 0 ≤ I 30 5 ∧ I 30 5 ≤ 9999) (h2 : 0 ≤ s ∧ s < 6 ∧ 0 ≤ c ∧ c < 24 ∧ 0 ≤ w ∧ w < 3) (kq : Q none (keepS I s c w)) : Rj MX7_keep 0 [aR 30, aI s, aI c, aI w] I Q := by
  refine rj_of okX7_keep (Nat.le_of_ble_eq_true rfl) rfl ?_
  refine b_aload_n rfl rfl ?_
  refine b_getI rfl fl7_28 rfl (by decide) rfl ?_
  refine b_aload_n rfl rfl ?_
  refine b_getI rfl fl7_31 rfl (by decide) rfl ?_
  refine b_iaddN rfl (by omega) (by omega) ?_
  refine b_bipush rfl (by decide) ?_
  refine b_iremP rfl (by omega) (by omega) ?_
  refine b_istoreX (F := fun z12 => [some (aR 30), some (aI s), some (aI c), some (aI w), some (aI z12)]) rfl (by decide) (fun _ => rfl) (fun z12 ez12 => ?_)
  refine b_aload_n rfl rfl ?_
  refine b_getR (r := 33) rfl fl7_18 rfl (by decide) rfl rfl ?_
  refine b_iload rfl rfl ?_
  refine b_aload_n rfl rfl ?_
  refine b_getI rfl fl7_24 rfl (by decide) rfl ?_
  refine b_bipush rfl (by decide) ?_
  refine b_imulN rfl (by omega) (by omega) ?_
  refine b_iload_n rfl rfl ?_
  refine b_iaddN rfl (by omega) (by omega) ?_
  refine b_bipush rfl (by decide) ?_
  refine b_imulN rfl (by omega) (by omega) ?_
  refine b_iload_n rfl rfl ?_
  refine b_iaddN rfl (by omega) (by omega) ?_
  refine b_iconst rfl (by decide) ?_
  refine b_imulN rfl (by omega) (by omega) ?_
  refine b_iload_n rfl rfl ?_
  refine b_iaddN rfl (by omega) (by omega) ?_
  refine b_iast rfl rfl (by omega) (by omega) ?_
  refine b_aload_n rfl rfl ?_
  refine b_getI rfl fl7_31 rfl (by decide) rfl ?_
  try simp only [up_ap, cpy_ap, fil_ap, row_ap, Nat.reduceEqDiff, Nat.reduceLT, Nat.reduceLeDiff, Int.toNat_natCast, Int.reduceToNat, reduceCtorEq, false_and, and_false, true_and, and_true, and_self, reduceIte]
  refine b_bipush rfl (by decide) ?_
  refine b_icmp_ge (tgt := 61) rfl rfl (fun c45 => ?_) (fun c45 => ?_)
  · refine b_aload_n rfl rfl ?_
    refine b_aload_n rfl rfl ?_
    refine b_getI rfl fl7_28 rfl (by decide) rfl ?_
    try simp only [up_ap, cpy_ap, fil_ap, row_ap, Nat.reduceEqDiff, Nat.reduceLT, Nat.reduceLeDiff, Int.toNat_natCast, Int.reduceToNat, reduceCtorEq, false_and, and_false, true_and, and_true, and_self, reduceIte]
    refine b_iconst rfl (by decide) ?_
    refine b_iaddN rfl (by omega) (by omega) ?_
    refine b_bipush rfl (by decide) ?_
    refine b_iremP rfl (by omega) (by omega) ?_
    refine b_putI rfl fl7_28 rfl (by decide) rfl ?_
    refine b_vret rfl rfl ?_
    refine qN kq ?_
    unfold keepS pk
    first | rw [if_pos (by omega), ez12] | rw [if_neg (by omega), ez12]
  · refine b_aload_n rfl rfl ?_
    refine b_dup rfl rfl ?_
    refine b_getI rfl fl7_31 rfl (by decide) rfl ?_
    try simp only [up_ap, cpy_ap, fil_ap, row_ap, Nat.reduceEqDiff, Nat.reduceLT, Nat.reduceLeDiff, Int.toNat_natCast, Int.reduceToNat, reduceCtorEq, false_and, and_false, true_and, and_true, and_self, reduceIte]
    refine b_iconst rfl (by decide) ?_
    refine b_iaddN rfl (by omega) (by omega) ?_
    refine b_putI rfl fl7_31 rfl (by decide) rfl ?_
    refine b_goto (tgt := 74) rfl rfl ?_
    refine b_vret rfl rfl ?_
    refine qN kq ?_
    unfold keepS pk
    first | rw [if_pos (by omega), ez12] | rw [if_neg (by omega), ez12]
theorem sp_X7_keptAt_30 {I : HI} {Q : Option AV → HI → Prop} {k w : Int} (h1 : 0 ≤ I 30 3 ∧ I 30 3 < 60 ∧ 0 ≤ k ∧ k < 60) (hp : ∀ j, 0 ≤ I 33 j ∧ I 33 j < 2000000000) (kq : Q (some (aI (if w = 0 then I 33 ((I 30 3 + k) % 60).toNat / 3 / 24 / 6 else if w = 1 then I 33 ((I 30 3 + k) % 60).toNat / 3 / 24 % 6 else if w = 2 then I 33 ((I 30 3 + k) % 60).toNat / 3 % 24 / 6 else if w = 3 then I 33 ((I 30 3 + k) % 60).toNat / 3 % 24 % 6 else if w = 4 then I 33 ((I 30 3 + k) % 60).toNat % 3 else -1))) I) : Rj MX7_keptAt 0 [aR 30, aI k, aI w] I Q := by
  refine rj_of okX7_keptAt (Nat.le_of_ble_eq_true rfl) rfl ?_
  have hpx := hp ((I 30 3 + k) % 60).toNat
  generalize hP : I 33 ((I 30 3 + k) % 60).toNat = P at *
  refine b_aload_n rfl rfl ?_
  refine b_getR (r := 33) rfl fl7_18 rfl (by decide) rfl rfl ?_
  refine b_aload_n rfl rfl ?_
  refine b_getI rfl fl7_28 rfl (by decide) rfl ?_
  refine b_iload_n rfl rfl ?_
  refine b_iaddN rfl (by omega) (by omega) ?_
  refine b_bipush rfl (by decide) ?_
  refine b_iremP rfl (by omega) (by omega) ?_
  refine b_iald rfl rfl (by omega) (by omega) ?_
  rw [hP]
  refine b_istoreX_n (F := fun z14 => [some (aR 30), some (aI k), some (aI w), some (aI z14), none]) rfl (by decide) (fun _ => rfl) (fun z14 ez14 => ?_)
  refine b_iload_n rfl rfl ?_
  refine b_iconst rfl (by decide) ?_
  refine b_idivP rfl (by omega) (by omega) ?_
  refine b_bipush rfl (by decide) ?_
  refine b_iremP rfl (by omega) (by omega) ?_
  refine b_istoreX (F := fun z21 => [some (aR 30), some (aI k), some (aI w), some (aI z14), some (aI z21)]) rfl (by decide) (fun _ => rfl) (fun z21 ez21 => ?_)
  refine b_iload_n rfl rfl ?_
  by_cases s24_0 : w = 0
  · refine b_tswIn (tgt := 60) rfl (by omega) (by omega) (by rw [s24_0]; rfl) rfl ?_
    refine b_iload_n rfl rfl ?_
    refine b_iconst rfl (by decide) ?_
    refine b_idivP rfl (by omega) (by omega) ?_
    refine b_bipush rfl (by decide) ?_
    refine b_idivP rfl (by omega) (by omega) ?_
    refine b_bipush rfl (by decide) ?_
    refine b_idivP rfl (by omega) (by omega) ?_
    refine b_iret rfl rfl ?_
    refine qI kq ?_ rfl
    repeat' split
    all_goals omega
  by_cases s24_1 : w = 1
  · refine b_tswIn (tgt := 70) rfl (by omega) (by omega) (by rw [s24_1]; rfl) rfl ?_
    refine b_iload_n rfl rfl ?_
    refine b_iconst rfl (by decide) ?_
    refine b_idivP rfl (by omega) (by omega) ?_
    refine b_bipush rfl (by decide) ?_
    refine b_idivP rfl (by omega) (by omega) ?_
    refine b_bipush rfl (by decide) ?_
    refine b_iremP rfl (by omega) (by omega) ?_
    refine b_iret rfl rfl ?_
    refine qI kq ?_ rfl
    repeat' split
    all_goals omega
  by_cases s24_2 : w = 2
  · refine b_tswIn (tgt := 80) rfl (by omega) (by omega) (by rw [s24_2]; rfl) rfl ?_
    refine b_iload rfl rfl ?_
    refine b_bipush rfl (by decide) ?_
    refine b_idivP rfl (by omega) (by omega) ?_
    refine b_iret rfl rfl ?_
    refine qI kq ?_ rfl
    repeat' split
    all_goals omega
  by_cases s24_3 : w = 3
  · refine b_tswIn (tgt := 86) rfl (by omega) (by omega) (by rw [s24_3]; rfl) rfl ?_
    refine b_iload rfl rfl ?_
    refine b_bipush rfl (by decide) ?_
    refine b_iremP rfl (by omega) (by omega) ?_
    refine b_iret rfl rfl ?_
    refine qI kq ?_ rfl
    repeat' split
    all_goals omega
  by_cases s24_4 : w = 4
  · refine b_tswIn (tgt := 92) rfl (by omega) (by omega) (by rw [s24_4]; rfl) rfl ?_
    refine b_iload_n rfl rfl ?_
    refine b_iconst rfl (by decide) ?_
    refine b_iremP rfl (by omega) (by omega) ?_
    refine b_iret rfl rfl ?_
    refine qI kq ?_ rfl
    repeat' split
    all_goals omega
  refine b_tswOut (tgt := 96) rfl (by omega) rfl ?_
  refine b_iconst rfl (by decide) ?_
  refine b_iret rfl rfl ?_
  refine qI kq ?_ rfl
  repeat' split
  all_goals omega
/-- the first cell of a ship with a crate -/
def fc (f : Nat → Int) : Nat → Nat → Option Nat
  | 0, _ => none
  | n + 1, k => if 0 < f k then some k else fc f n (k + 1)
theorem sp_X7_loseFirst_30 {I : HI} {Q : Option AV → HI → Prop} {s : Int} (hs : 0 ≤ s ∧ s < 6) (hr : ∀ k, 0 ≤ I 32 k ∧ I 32 k ≤ 20) (h1 : 0 ≤ I 30 3 ∧ I 30 3 < 60 ∧ 0 ≤ I 30 4 ∧ I 30 4 ≤ 60 ∧ 0 ≤ I 30 5 ∧ I 30 5 ≤ 9999) (k0 : fc (fun j => I 32 (24 * s.toNat + j)) 24 0 = none → Q (some (aI 0)) I) (k1 : ∀ j, j < 24 → fc (fun j => I 32 (24 * s.toNat + j)) 24 0 = some j → Q (some (aI 1)) (keepS (up I 32 (24 * s.toNat + j) (I 32 (24 * s.toNat + j) - 1)) s j 2)) : Rj MX7_loseFirst 1 [aR 30, aI s] I Q := by
  have lp : ∀ (n k : Nat) (z : Int), z = (k : Int) → k + n = 24 → (fc (fun j => I 32 (24 * s.toNat + j)) 24 0 = fc (fun j => I 32 (24 * s.toNat + j)) n k) → Bj MX7_loseFirst 1 2 [some (aR 30), some (aI s), some (aI z)] [] I Q := by
    intro n
    induction n with
    | zero =>
      intro k z hz hk hq
      refine b_iload_n rfl rfl ?_
      refine b_bipush rfl (by decide) ?_
      refine b_icmp_ge (tgt := 52) rfl rfl (fun c5 => ?_) (fun c5 => ?_)
      · refine b_iconst rfl (by decide) ?_
        refine b_zret rfl rfl (by first | decide | omega) ?_
        exact k0 (by rw [hq]; rfl)
      · omega
    | succ n ih =>
      intro k z hz hk hq
      have ez : (s * 24 + z).toNat = 24 * s.toNat + k := by omega
      have hr0 := hr (24 * s.toNat + k)
      refine b_iload_n rfl rfl ?_
      refine b_bipush rfl (by decide) ?_
      refine b_icmp_ge (tgt := 52) rfl rfl (fun c5 => ?_) (fun c5 => ?_)
      · omega
      · refine b_aload_n rfl rfl ?_
        refine b_getR (r := 32) rfl fl7_15 rfl (by decide) rfl rfl ?_
        refine b_iload_n rfl rfl ?_
        refine b_bipush rfl (by decide) ?_
        refine b_imulN rfl (by omega) (by omega) ?_
        refine b_iload_n rfl rfl ?_
        refine b_iaddN rfl (by omega) (by omega) ?_
        refine b_iald rfl rfl (by omega) (by omega) ?_
        rw [ez]
        refine b_if_le (tgt := 46) rfl rfl (fun c19 => ?_) (fun c19 => ?_)
        · refine b_iincX (F := fun z46 => [some (aR 30), some (aI s), some (aI z46)]) rfl rfl (by omega) (by omega) (fun _ => rfl) (fun z46 ez46 => ?_)
          refine b_goto (tgt := 2) rfl rfl ?_
          refine ih (k + 1) _ (by omega) (by omega) ?_
          rw [hq, fc, if_neg (by omega)]
        · refine b_aload_n rfl rfl ?_
          refine b_getR (r := 32) rfl fl7_15 rfl (by decide) rfl rfl ?_
          refine b_iload_n rfl rfl ?_
          refine b_bipush rfl (by decide) ?_
          refine b_imulN rfl (by omega) (by omega) ?_
          refine b_iload_n rfl rfl ?_
          refine b_iaddN rfl (by omega) (by omega) ?_
          refine b_dup2 rfl rfl rfl ?_
          refine b_iald rfl rfl (by omega) (by omega) ?_
          refine b_iconst rfl (by decide) ?_
          rw [ez]
          refine b_isubN rfl (by omega) (by omega) ?_
          refine b_iast rfl rfl (by omega) (by omega) ?_
          refine b_aload_n rfl rfl ?_
          refine b_iload_n rfl rfl ?_
          refine b_iload_n rfl rfl ?_
          refine b_iconst rfl (by decide) ?_
          refine b_callV3v (ν := MX7_keep) rfl ml7_46 cvX7_keep (d' := 0) (by omega) rfl (by decide) rfl (Nat.le_of_ble_eq_true rfl) ?_
          rw [ez]
          refine sp_X7_keep_30 (by simp only [up_ap, Nat.reduceEqDiff, false_and, if_false]; exact h1) (by omega) ?_
          refine ⟨rfl, ?_⟩
          rw [hz]
          refine b_iconst rfl (by decide) ?_
          refine b_zret rfl rfl (by first | decide | omega) ?_
          exact k1 k (by omega) (by rw [hq, fc, if_pos (by omega)])
  refine rj_of okX7_loseFirst (Nat.le_of_ble_eq_true rfl) rfl ?_
  refine b_iconst rfl (by decide) ?_
  refine b_istoreX_n (F := fun z1 => [some (aR 30), some (aI s), some (aI z1)]) rfl (by decide) (fun _ => rfl) (fun z1 ez1 => ?_)
  exact lp 24 0 _ (by omega) rfl rfl
/-! ===== Past ===== -/
theorem sp_X2_forget {I : HI} {Q : Option AV → HI → Prop} (kq : Q none (up I 38 2 0)) : Rj MX2_forget 0 [aR 38] I Q := by
  refine rj_of okX2_forget (Nat.le_of_ble_eq_true rfl) rfl ?_
  refine b_aload_n rfl rfl ?_
  refine b_iconst rfl (by decide) ?_
  refine b_putI rfl fl2_17 rfl (by decide) rfl ?_
  refine b_vret rfl rfl ?_
  exact kq
def wrt (I : HI) (a : Int) : HI := cpy (cpy (cpy (up (up (up I 39 a.toNat (I 30 5)) 39 (a + 1).toNat (I 30 3)) 39 (a + 2).toNat (I 30 4)) 31 39 0 (a + 3).toNat 6) 32 39 0 (a + 3 + 6).toNat 144) 33 39 0 (a + 3 + 6 + 144).toNat 60
def rdf (I : HI) (a : Int) : HI := cpy (cpy (cpy (up (up (up I 30 5 (I 39 a.toNat)) 30 3 (I 39 (a + 1).toNat)) 30 4 (I 39 (a + 2).toNat)) 39 31 (a + 3).toNat 0 6) 39 32 (a + 3 + 6).toNat 0 144) 39 33 (a + 3 + 6 + 144).toNat 0 60
theorem wrt_38 {I : HI} {a : Int} {k : Nat} : wrt I a 38 k = I 38 k := by
  unfold wrt
  simp only [cpy_ap, up_ap, Nat.reduceEqDiff, false_and, if_false]
def rem_ (I : HI) : HI := if I 38 2 < 20 then up (wrt I ((I 38 1 + I 38 2) % 20 * 213)) 38 2 (I 38 2 + 1) else up (wrt I ((I 38 1 + I 38 2) % 20 * 213)) 38 1 ((I 38 1 + 1) % 20)
theorem sp_X2_remember {I : HI} {Q : Option AV → HI → Prop} (h1 : 0 ≤ I 38 1 ∧ I 38 1 < 20 ∧ 0 ≤ I 38 2 ∧ I 38 2 ≤ 20) (kq : Q none (rem_ I)) : Rj MX2_remember 2 [aR 38, aR 30] I Q := by
  refine rj_of okX2_remember (Nat.le_of_ble_eq_true rfl) rfl ?_
  refine b_aload_n rfl rfl ?_
  refine b_aload_n rfl rfl ?_
  refine b_getR (r := 39) rfl fl2_11 rfl (by decide) rfl rfl ?_
  refine b_aload_n rfl rfl ?_
  refine b_getI rfl fl2_21 rfl (by decide) rfl ?_
  refine b_aload_n rfl rfl ?_
  refine b_getI rfl fl2_17 rfl (by decide) rfl ?_
  refine b_iaddN rfl (by omega) (by omega) ?_
  refine b_bipush rfl (by decide) ?_
  refine b_iremP rfl (by omega) (by omega) ?_
  refine b_sipush rfl (by decide) ?_
  refine b_imulN rfl (by omega) (by omega) ?_
  refine b_callV2v (ν := MX7_writeTo) rfl ml2_24 cvX7_writeTo (d' := 1) (by omega) rfl (by decide) rfl (Nat.le_of_ble_eq_true rfl) ?_
  refine sp_X7_writeTo_30 (by omega) ?_
  show _ ∧ Bj _ _ _ _ _ (wrt I ((I 38 1 + I 38 2) % 20 * 213)) Q
  refine ⟨rfl, ?_⟩
  refine b_aload_n rfl rfl ?_
  refine b_getI rfl fl2_17 rfl (by decide) rfl ?_
  refine b_bipush rfl (by decide) ?_
  rw [wrt_38]
  refine b_icmp_ge (tgt := 46) rfl rfl (fun c30 => ?_) (fun c30 => ?_)
  · refine b_aload_n rfl rfl ?_
    refine b_aload_n rfl rfl ?_
    refine b_getI rfl fl2_21 rfl (by decide) rfl ?_
    rw [wrt_38]
    refine b_iconst rfl (by decide) ?_
    refine b_iaddN rfl (by omega) (by omega) ?_
    refine b_bipush rfl (by decide) ?_
    refine b_iremP rfl (by omega) (by omega) ?_
    refine b_putI rfl fl2_21 rfl (by decide) rfl ?_
    refine b_vret rfl rfl ?_
    refine qN kq ?_
    unfold rem_
    first | rw [if_pos (by omega)] | rw [if_neg (by omega)]
  · refine b_aload_n rfl rfl ?_
    refine b_dup rfl rfl ?_
    refine b_getI rfl fl2_17 rfl (by decide) rfl ?_
    try simp only [up_ap, cpy_ap, fil_ap, row_ap, Nat.reduceEqDiff, Nat.reduceLT, Nat.reduceLeDiff, Int.toNat_natCast, Int.reduceToNat, reduceCtorEq, false_and, and_false, true_and, and_true, and_self, reduceIte]
    rw [wrt_38]
    refine b_iconst rfl (by decide) ?_
    refine b_iaddN rfl (by omega) (by omega) ?_
    refine b_putI rfl fl2_17 rfl (by decide) rfl ?_
    refine b_goto (tgt := 59) rfl rfl ?_
    refine b_vret rfl rfl ?_
    refine qN kq ?_
    unfold rem_
    first | rw [if_pos (by omega)] | rw [if_neg (by omega)]
theorem sp_X2_recall {I : HI} {Q : Option AV → HI → Prop} (h1 : 0 ≤ I 38 1 ∧ I 38 1 < 20 ∧ 0 < I 38 2 ∧ I 38 2 ≤ 20) (kq : Q none (rdf (up I 38 2 (I 38 2 - 1)) ((I 38 1 + (I 38 2 - 1)) % 20 * 213))) : Rj MX2_recall 2 [aR 38, aR 30] I Q := by
  refine rj_of okX2_recall (Nat.le_of_ble_eq_true rfl) rfl ?_
  refine b_aload_n rfl rfl ?_
  refine b_getI rfl fl2_17 rfl (by decide) rfl ?_
  refine b_if_le (tgt := 41) rfl rfl (fun c4 => ?_) (fun c4 => ?_)
  · omega
  · refine b_aload_n rfl rfl ?_
    refine b_dup rfl rfl ?_
    refine b_getI rfl fl2_17 rfl (by decide) rfl ?_
    refine b_iconst rfl (by decide) ?_
    refine b_isubN rfl (by omega) (by omega) ?_
    refine b_putI rfl fl2_17 rfl (by decide) rfl ?_
    refine b_aload_n rfl rfl ?_
    refine b_aload_n rfl rfl ?_
    refine b_getR (r := 39) rfl fl2_11 rfl (by decide) rfl rfl ?_
    refine b_aload_n rfl rfl ?_
    refine b_getI rfl fl2_21 rfl (by decide) rfl ?_
    try simp only [up_ap, cpy_ap, fil_ap, row_ap, Nat.reduceEqDiff, Nat.reduceLT, Nat.reduceLeDiff, Int.toNat_natCast, Int.reduceToNat, reduceCtorEq, false_and, and_false, true_and, and_true, and_self, reduceIte]
    refine b_aload_n rfl rfl ?_
    refine b_getI rfl fl2_17 rfl (by decide) rfl ?_
    try simp only [up_ap, cpy_ap, fil_ap, row_ap, Nat.reduceEqDiff, Nat.reduceLT, Nat.reduceLeDiff, Int.toNat_natCast, Int.reduceToNat, reduceCtorEq, false_and, and_false, true_and, and_true, and_self, reduceIte]
    refine b_iaddN rfl (by omega) (by omega) ?_
    refine b_bipush rfl (by decide) ?_
    refine b_iremP rfl (by omega) (by omega) ?_
    refine b_sipush rfl (by decide) ?_
    refine b_imulN rfl (by omega) (by omega) ?_
    refine b_callV2v (ν := MX7_readFrom) rfl ml2_28 cvX7_readFrom (d' := 1) (by omega) rfl (by decide) rfl (Nat.le_of_ble_eq_true rfl) ?_
    refine sp_X7_readFrom_30 (by omega) ?_
    refine ⟨rfl, ?_⟩
    refine b_vret rfl rfl ?_
    exact kq
