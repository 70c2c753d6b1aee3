/-! ===== WrongTide: going on from an image ===== -/
theorem tAt_to {I J : HI} {k : Int} (h1 : J 1 = I 1) (h2 : J 2 = I 2) : tAt J k = tAt I k := by
  unfold tAt
  rw [h1, h2]
theorem tAt_i2 {I : HI} (hB : ∀ j, 0 ≤ I 2 j ∧ I 2 j < 256) (k : Int) : -1 ≤ tAt I k ∧ tAt I k ≤ 255 := by
  unfold tAt
  split
  · have := hB k.toNat; omega
  · omega
theorem tAt_1 {I : HI} (hB : ∀ j, 0 ≤ I 2 j ∧ I 2 j < 256) {k : Int} (h : 0 ≤ k ∧ k < I 1 1) : 0 ≤ tAt I k ∧ tAt I k ≤ 255 := by
  unfold tAt
  rw [if_pos h]
  have := hB k.toNat
  omega
def sfO (I : HI) : Prop := tAt I (I 1 1 - 1) = imS (fun k => tAt I k) (I 1 1 - 1).toNat
theorem spf_sumFits {I : HI} {Q : Option AV → HI → Prop} (hT : 0 ≤ I 1 1 ∧ I 1 1 ≤ 1600) (hB : ∀ j, 0 ≤ I 2 j ∧ I 2 j < 256) (k1 : sfO I → Q (some (aI 1)) I) (k0 : ¬ sfO I → Q (some (aI 0)) I) : Rj MX11_sumFits 1 [aR 0] I Q := by
  refine rj_of okX11_sumFits (Nat.le_of_ble_eq_true rfl) rfl ?_
  have lp : ∀ (n i : Nat) (y z : Int), z = (i : Int) → i + n = (I 1 1 - 1).toNat → y = imS (fun k => tAt I k) i → Bj MX11_sumFits 1 6 [some (aR 0), some (aI y), some (aI z)] [] I Q := by
    intro n
    induction n with
    | zero =>
      intro i y z hz hi hy
      have ei : i = (I 1 1 - 1).toNat := by omega
      refine b_iload_n rfl rfl ?_
      refine b_aload_n rfl rfl ?_
      refine b_getR (r := 1) rfl fl11_10 rfl (by decide) rfl rfl ?_
      refine b_getI rfl fl11_97 rfl (by decide) rfl ?_
      refine b_iconst rfl (by decide) ?_
      refine b_isubN rfl (by omega) (by omega) ?_
      refine b_icmp_ge (tgt := 42) rfl rfl (fun c16 => ?_) (fun c16 => ?_)
      · refine b_aload_n rfl rfl ?_
        refine b_getR (r := 1) rfl fl11_10 rfl (by decide) rfl rfl ?_
        refine b_aload_n rfl rfl ?_
        refine b_getR (r := 1) rfl fl11_10 rfl (by decide) rfl rfl ?_
        refine b_getI rfl fl11_97 rfl (by decide) rfl ?_
        refine b_iconst rfl (by decide) ?_
        refine b_isubN rfl (by omega) (by omega) ?_
        refine b_callV1i (ν := MX9_at) rfl ml11_365 cvX9_at (d' := 0) (by omega) rfl (by decide) rfl (Nat.le_of_ble_eq_true rfl) ?_
        refine sp_X9_at (by omega) ?_
        refine ⟨_, rfl, ?_⟩
        refine b_iload_n rfl rfl ?_
        refine b_icmp_ne (tgt := 66) rfl rfl (fun c59 => ?_) (fun c59 => ?_)
        · refine b_iconst rfl (by decide) ?_
          refine b_zret rfl rfl (by first | decide | omega) ?_
          first
          | exact k1 (by unfold sfO; rw [← ei, ← hy]; omega)
          | exact k0 (by unfold sfO; rw [← ei, ← hy]; omega)
        · refine b_iconst rfl (by decide) ?_
          refine b_goto (tgt := 67) rfl rfl ?_
          refine b_zret rfl rfl (by first | decide | omega) ?_
          first
          | exact k1 (by unfold sfO; rw [← ei, ← hy]; omega)
          | exact k0 (by unfold sfO; rw [← ei, ← hy]; omega)
      · omega
    | succ n ih =>
      intro i y z hz hi hy
      subst hz
      have hs := imS_in (f := fun k => tAt I k) i
      have ht := tAt_1 hB (k := (i : Int)) (by omega)
      refine b_iload_n rfl rfl ?_
      refine b_aload_n rfl rfl ?_
      refine b_getR (r := 1) rfl fl11_10 rfl (by decide) rfl rfl ?_
      refine b_getI rfl fl11_97 rfl (by decide) rfl ?_
      refine b_iconst rfl (by decide) ?_
      refine b_isubN rfl (by omega) (by omega) ?_
      refine b_icmp_ge (tgt := 42) rfl rfl (fun c16 => ?_) (fun c16 => ?_)
      · omega
      · refine b_iconst rfl (by decide) ?_
        refine b_iload_n rfl rfl ?_
        refine b_imulN rfl (by omega) (by omega) ?_
        refine b_aload_n rfl rfl ?_
        refine b_getR (r := 1) rfl fl11_10 rfl (by decide) rfl rfl ?_
        refine b_iload_n rfl rfl ?_
        refine b_callV1i (ν := MX9_at) rfl ml11_365 cvX9_at (d' := 0) (by omega) rfl (by decide) rfl (Nat.le_of_ble_eq_true rfl) ?_
        refine sp_X9_at (by omega) ?_
        refine ⟨_, rfl, ?_⟩
        refine b_iaddN rfl (by omega) (by omega) ?_
        refine b_sipush rfl (by decide) ?_
        refine b_iremP rfl (by omega) (by omega) ?_
        refine b_istoreX_n (F := fun z35 => [some (aR 0), some (aI z35), some (aI (i : Int))]) rfl (by decide) (fun _ => rfl) (fun z35 ez35 => ?_)
        refine b_iincX (F := fun z36 => [some (aR 0), some (aI z35), some (aI z36)]) rfl rfl (by omega) (by omega) (fun _ => rfl) (fun z36 ez36 => ?_)
        refine b_goto (tgt := 6) rfl rfl ?_
        exact ih (i + 1) _ _ (by omega) (by omega) (by show _ = (5 * imS (fun k => tAt I k) i + tAt I i) % 251; rw [← hy]; assumption)
  refine b_sipush rfl (by decide) ?_
  refine b_istoreX_n (F := fun z3 => [some (aR 0), some (aI z3), none]) rfl (by decide) (fun _ => rfl) (fun z3 ez3 => ?_)
  refine b_iconst rfl (by decide) ?_
  refine b_istoreX_n (F := fun z5 => [some (aR 0), some (aI z3), some (aI z5)]) rfl (by decide) (fun _ => rfl) (fun z5 ez5 => ?_)
  exact lp (I 1 1 - 1).toNat 0 _ _ (by omega) (by omega) (by show _ = (139 : Int); omega)
def tI (I : HI) (s a : Nat) (H : HI) : Nat → HI
  | 0 => up H 35 s (tAt I (a : Int) - 1)
  | k + 1 => up (tI I s a H k) 36 (cI I s k) (tAt I ((a + 1 + k : Nat) : Int))
def tO (I : HI) : Nat → HI
  | 0 => up (clrS_34 I) 34 5 (tAt I 0 * 256 + tAt I (0 + 1))
  | s + 1 => tI I s (iLn I s - 1) (tO I s) (cO I s)
theorem tI_cell {I H : HI} {s a k q : Nat} (h5 : q ≠ 35) (h6 : q ≠ 36) : tI I s a H k q = H q := by
  induction k with
  | zero => exact up_cell h5
  | succ k ih => exact (up_cell h6).trans ih
theorem clrS_cell {I : HI} {q : Nat} (h4 : q ≠ 34) (h5 : q ≠ 35) (h6 : q ≠ 36) : clrS_34 I q = I q := by
  funext k
  unfold clrS_34
  rw [fil_ap, if_neg (fun z => h6 z.1), fil_ap, if_neg (fun z => h5 z.1), up_cell h4, up_cell h4, up_cell h4]
theorem tO_cell {I : HI} {s q : Nat} (h4 : q ≠ 34) (h5 : q ≠ 35) (h6 : q ≠ 36) : tO I s q = I q := by
  induction s with
  | zero => exact (up_cell h4).trans (clrS_cell h4 h5 h6)
  | succ s ih => exact (tI_cell h5 h6).trans ih
def tB (I : HI) : Prop := ∀ k, I 36 k ≤ 255
theorem tI_B {I H : HI} {s a k : Nat} (hB : ∀ j, 0 ≤ I 2 j ∧ I 2 j < 256) (h : tB H) : tB (tI I s a H k) := by
  induction k with
  | zero => intro j; have := h j; show up H 35 s _ 36 j ≤ 255; rw [up_cell (by decide)]; exact this
  | succ k ih =>
    intro j
    have h1 := ih j
    have h2 := tAt_i2 hB ((a + 1 + k : Nat) : Int)
    show up (tI I s a H k) 36 _ _ 36 j ≤ 255
    rw [up_ap]
    split <;> omega
theorem tO_B {I : HI} (hB : ∀ j, 0 ≤ I 2 j ∧ I 2 j < 256) (h : tB I) (s : Nat) : tB (tO I s) := by
  induction s with
  | zero =>
    intro j
    have := h j
    show up (clrS_34 I) 34 5 _ 36 j ≤ 255
    rw [up_cell (by decide)]
    unfold clrS_34
    rw [fil_ap]
    split
    · omega
    · rw [fil_ap, if_neg (by omega), up_cell (by decide), up_cell (by decide), up_cell (by decide)]; exact this
  | succ s ih => exact tI_B hB ih
def bT (I : HI) (s : Nat) : Int := tAt I ((iLn I s - 1 : Nat) : Int) - 1
def okT (I : HI) (s : Nat) : Prop := bT I s = -1 ∨ (kO I 4 2 (bT I s) ∧ fi (tO I s 35) (bT I s) 6 0 = -1)
def isI (I : HI) : Prop := I 1 1 = (iLn I (nS I) : Int) ∧ sfO I ∧ (∀ s, s < nS I → okT I s) ∧ tO I (nS I) 34 5 ≤ 9999 ∧ mxN 144 (tO I (nS I) 36) ≤ 20
theorem sp_X11_isImage {I : HI} {Q : Option AV → HI → Prop} (hp : pOK I) (hT : 0 ≤ I 1 1 ∧ I 1 1 ≤ 1600) (hB : ∀ j, 0 ≤ I 2 j ∧ I 2 j < 256) (h36 : tB I) (k1 : isI I → Q (some (aI 1)) (tO I (nS I))) (k0 : ¬ isI I → ∀ K : HI, (∀ q, q ≠ 34 → q ≠ 35 → q ≠ 36 → K q = I q) → Q (some (aI 0)) K) : Rj MX11_isImage 4 [aR 0] I Q := by
  obtain ⟨n6, n1⟩ := nS_in hp
  have hL := iLn_in hp (nS I) (by omega)
  have hpK : ∀ K : HI, (∀ q, q ≠ 34 → q ≠ 35 → q ≠ 36 → K q = I q) → pOK K ∧ (∀ s, cO K s = cO I s) ∧ (∀ s k, cI K s k = cI I s k) ∧ (∀ k, tAt K k = tAt I k) ∧ K 1 1 = I 1 1 ∧ K 4 = I 4 := by
    intro K e
    have e4 := e 4 (by decide) (by decide) (by decide)
    have e6 := e 6 (by decide) (by decide) (by decide)
    have e1 := e 1 (by decide) (by decide) (by decide)
    refine ⟨pOK_to hp e4 e6 (e 7 (by decide) (by decide) (by decide)), fun s => ?_, fun s k => ?_, fun k => tAt_to e1 (e 2 (by decide) (by decide) (by decide)), by rw [e1], e4⟩
    · unfold cO nH nW; rw [e4, e6]
    · unfold cI nW; rw [e4]
  have hcO : ∀ s q, q ≠ 34 → q ≠ 35 → q ≠ 36 → tO I s q = I q := fun s q a b c => tO_cell a b c
  refine rj_of okX11_isImage (Nat.le_of_ble_eq_true rfl) rfl ?_
  have inn : ∀ (s : Nat) (x3 : Int), (s : Int) < I 4 1 → I 1 1 = (iLn I (nS I) : Int) → (∀ (y : Int) (x4 : Option AV), y = (iLn I (s + 1) : Int) - 1 → Bj MX11_isImage 4 162 [some (aR 0), some (aI y), some (aI (s : Int)), some (aI x3), x4] [] (tO I (s + 1)) Q) → ∀ (n k : Nat) (y z : Int), z = (k : Int) → k + n = cO I s → y = (iLn I s : Int) + k → Bj MX11_isImage 4 120 [some (aR 0), some (aI y), some (aI (s : Int)), some (aI x3), some (aI z)] [] (tI I s (iLn I s - 1) (tO I s) k) Q := by
    intro s x3 hs hlen hk n
    have hc := (cO_in hp hs).1
    have hl := iLn_in hp s (by omega)
    have hs6 : s < 6 := by omega
    induction n with
    | zero =>
      intro k y z hz hi hy
      obtain ⟨p1, p2, p3, p4, p5, p6⟩ := hpK (tI I s (iLn I s - 1) (tO I s) k) (fun q a b c => (tI_cell b c).trans (tO_cell a b c))
      refine b_iload rfl rfl ?_
      refine b_aload_n rfl rfl ?_
      refine b_iload_n rfl rfl ?_
      refine b_callV1i (ν := MX11_cellsOf) rfl ml11_339 cvX11_cellsOf (d' := 2) (by omega) rfl (by decide) rfl (Nat.le_of_ble_eq_true rfl) ?_
      refine sp_X11_cellsOf p1 (by rw [p6]; exact hs) ?_
      rw [p2]
      refine ⟨_, rfl, ?_⟩
      refine b_icmp_ge (tgt := 162) rfl rfl (fun c127 => ?_) (fun c127 => ?_)
      · have ek : k = cO I s := by omega
        subst ek
        exact hk _ _ (by show _ = ((iLn I s + (1 + cO I s) : Nat) : Int) - 1; omega)
      · omega
    | succ n ih =>
      intro k y z hz hi hy
      subst hz
      obtain ⟨p1, p2, p3, p4, p5, p6⟩ := hpK (tI I s (iLn I s - 1) (tO I s) k) (fun q a b c => (tI_cell b c).trans (tO_cell a b c))
      have hci := cI_in hp hs (show k < cO I s by omega)
      have hcb : cI I s k < 144 := by unfold cI; omega
      refine b_iload rfl rfl ?_
      refine b_aload_n rfl rfl ?_
      refine b_iload_n rfl rfl ?_
      refine b_callV1i (ν := MX11_cellsOf) rfl ml11_339 cvX11_cellsOf (d' := 2) (by omega) rfl (by decide) rfl (Nat.le_of_ble_eq_true rfl) ?_
      refine sp_X11_cellsOf p1 (by rw [p6]; exact hs) ?_
      rw [p2]
      refine ⟨_, rfl, ?_⟩
      refine b_icmp_ge (tgt := 162) rfl rfl (fun c127 => ?_) (fun c127 => ?_)
      · omega
      · refine b_aload_n rfl rfl ?_
        refine b_getR (r := 34) rfl fl11_48 rfl (by decide) rfl rfl ?_
        refine b_getR (r := 36) rfl fl11_198 rfl (by decide) rfl rfl ?_
        refine b_aload_n rfl rfl ?_
        refine b_iload_n rfl rfl ?_
        refine b_iload rfl rfl ?_
        refine b_callV2i (ν := MX11_cellInImage) rfl ml11_342 cvX11_cellInImage (d' := 1) (by omega) rfl (by decide) rfl (Nat.le_of_ble_eq_true rfl) ?_
        refine sp_X11_cellInImage p1 (by rw [p6]; exact hs) (by rw [p2]; omega) ?_
        rw [p3]
        refine ⟨_, rfl, ?_⟩
        refine b_aload_n rfl rfl ?_
        refine b_getR (r := 1) rfl fl11_10 rfl (by decide) rfl rfl ?_
        refine b_iload_n rfl rfl ?_
        refine b_callV1i (ν := MX9_at) rfl ml11_365 cvX9_at (d' := 0) (by omega) rfl (by decide) rfl (Nat.le_of_ble_eq_true rfl) ?_
        refine sp_X9_at (by omega) ?_
        rw [p4]
        refine ⟨_, rfl, ?_⟩
        refine b_iast rfl rfl (by omega) (by omega) ?_
        rw [Int.toNat_natCast, show y = ((iLn I s - 1 + 1 + k : Nat) : Int) by omega]
        refine b_iincX (F := fun z153 => [some (aR 0), some (aI z153), some (aI (s : Int)), some (aI x3), some (aI (k : Int))]) rfl rfl (by omega) (by omega) (fun _ => rfl) (fun z153 ez153 => ?_)
        refine b_iincX (F := fun z156 => [some (aR 0), some (aI z153), some (aI (s : Int)), some (aI x3), some (aI z156)]) rfl rfl (by omega) (by omega) (fun _ => rfl) (fun z156 ez156 => ?_)
        refine b_goto (tgt := 120) rfl rfl ?_
        exact ih (k + 1) _ _ (by omega) (by omega) (by omega)
  have lp : I 1 1 = (iLn I (nS I) : Int) → sfO I → ∀ (n i : Nat) (y z : Int) (x3 x4 : Option AV), z = (i : Int) → i + n = nS I → y = (iLn I i : Int) - 1 → (∀ s, s < i → okT I s) → Bj MX11_isImage 4 49 [some (aR 0), some (aI y), some (aI z), x3, x4] [] (tO I i) Q := by
    intro hlen hsf n
    induction n with
    | zero =>
      intro i y z x3 x4 hz hi hy hok
      obtain ⟨p1, p2, p3, p4, p5, p6⟩ := hpK (tO I i) (hcO i)
      have p41 : tO I i 4 1 = I 4 1 := by rw [p6]
      have ei : i = nS I := by omega
      refine b_iload_n rfl rfl ?_
      refine b_aload_n rfl rfl ?_
      refine b_getR (r := 3) rfl fl11_19 rfl (by decide) rfl rfl ?_
      refine b_getR (r := 4) rfl fl11_150 rfl (by decide) rfl rfl ?_
      refine b_iconst rfl (by decide) ?_
      refine b_ialdL (k := 1) rfl rfl rfl (by decide) ?_
      refine b_icmp_ge (tgt := 168) rfl rfl (fun c59 => ?_) (fun c59 => ?_)
      · refine b_aload_n rfl rfl ?_
        refine b_getR (r := 34) rfl fl11_48 rfl (by decide) rfl rfl ?_
        refine b_getI rfl fl11_153 rfl (by decide) rfl ?_
        refine b_sipush rfl (by decide) ?_
        refine b_icmp_gt (tgt := 197) rfl rfl (fun c178 => ?_) (fun c178 => ?_)
        · refine b_iconst rfl (by decide) ?_
          refine b_zret rfl rfl (by first | decide | omega) ?_
          first
          | (subst ei
             exact k1 ⟨hlen, hsf, hok, by omega, by omega⟩)
          | (subst ei
             exact k0 (fun w => by have h1 := w.2.2.2.1; have h2 := w.2.2.2.2; omega) _ (hcO _))
        · refine b_aload_n rfl rfl ?_
          refine b_getR (r := 34) rfl fl11_48 rfl (by decide) rfl rfl ?_
          refine b_callV0i (ν := MX7_fullestCell) rfl ml11_368 cvX7_fullestCell (d' := 1) (by omega) rfl (by decide) rfl (Nat.le_of_ble_eq_true rfl) ?_
          refine sp_X7_fullestCell_34 (tO_B hB h36 i) ?_
          refine ⟨_, rfl, ?_⟩
          refine b_bipush rfl (by decide) ?_
          refine b_icmp_gt (tgt := 197) rfl rfl (fun c190 => ?_) (fun c190 => ?_)
          · refine b_iconst rfl (by decide) ?_
            refine b_zret rfl rfl (by first | decide | omega) ?_
            first
            | (subst ei
               exact k1 ⟨hlen, hsf, hok, by omega, by omega⟩)
            | (subst ei
               exact k0 (fun w => by have h1 := w.2.2.2.1; have h2 := w.2.2.2.2; omega) _ (hcO _))
          · refine b_iconst rfl (by decide) ?_
            refine b_goto (tgt := 198) rfl rfl ?_
            refine b_zret rfl rfl (by first | decide | omega) ?_
            first
            | (subst ei
               exact k1 ⟨hlen, hsf, hok, by omega, by omega⟩)
            | (subst ei
               exact k0 (fun w => by have h1 := w.2.2.2.1; have h2 := w.2.2.2.2; omega) _ (hcO _))
      · omega
    | succ n ih =>
      intro i y z x3 x4 hz hi hy hok
      subst hz
      obtain ⟨p1, p2, p3, p4, p5, p6⟩ := hpK (tO I i) (hcO i)
      have p41 : tO I i 4 1 = I 4 1 := by rw [p6]
      have hs : (i : Int) < I 4 1 := by omega
      have hl := iLn_in hp i (by omega)
      have hin := tAt_i2 hB y
      have ey : y = ((iLn I i - 1 : Nat) : Int) := by omega
      have eb : bT I i = tAt I y - 1 := by unfold bT; rw [← ey]
      have nxt_ : ∀ (y' z' : Int) (x3' x4' : Option AV), okT I i → y' = (iLn I (i + 1) : Int) - 1 → z' = (i : Int) + 1 → Bj MX11_isImage 4 49 [some (aR 0), some (aI y'), some (aI z'), x3', x4'] [] (tO I (i + 1)) Q := fun y' z' x3' x4' ho g1 g2 => ih (i + 1) _ _ _ _ (by omega) (by omega) g1 (fun s hs => by
        by_cases e : s = i
        · rw [e]; exact ho
        · exact hok s (by omega))
      clear ih
      have bad : ¬ okT I i → ¬ isI I := fun g w => g (w.2.2.1 i (by omega))
      have kOt : ∀ b, kO (tO I i) 4 2 b → kO I 4 2 b := fun b w => by unfold kO at *; rw [p6] at w; exact w
      have kOf : ∀ b, kO I 4 2 b → kO (tO I i) 4 2 b := fun b w => by unfold kO at *; rw [p6]; exact w
      have go : okT I i → ∀ (zb : Int) (x4 : Option AV), zb = tAt I y - 1 → Bj MX11_isImage 4 104 [some (aR 0), some (aI y), some (aI (i : Int)), some (aI zb), x4] [] (tO I i) Q := by
        intro ho zb x4 hzb
        have nx2 : ∀ (y' : Int) (x4' : Option AV), y' = (iLn I (i + 1) : Int) - 1 → Bj MX11_isImage 4 162 [some (aR 0), some (aI y'), some (aI (i : Int)), some (aI zb), x4'] [] (tO I (i + 1)) Q := by
          intro y' x4' hy'
          refine b_iincX (F := fun z162 => [some (aR 0), some (aI y'), some (aI z162), some (aI zb), x4']) rfl rfl (by omega) (by omega) (fun _ => rfl) (fun z162 ez162 => ?_)
          refine b_goto (tgt := 49) rfl rfl ?_
          exact nxt_ _ _ _ _ ho hy' (by omega)
        refine b_aload_n rfl rfl ?_
        refine b_getR (r := 34) rfl fl11_48 rfl (by decide) rfl rfl ?_
        refine b_getR (r := 35) rfl fl11_205 rfl (by decide) rfl rfl ?_
        refine b_iload_n rfl rfl ?_
        refine b_iload_n rfl rfl ?_
        refine b_iast rfl rfl (by omega) (by omega) ?_
        rw [show up (tO I i) 35 (i : Int).toNat zb = tI I i (iLn I i - 1) (tO I i) 0 from by show _ = up (tO I i) 35 i (tAt I ((iLn I i - 1 : Nat) : Int) - 1); rw [Int.toNat_natCast, ← ey, ← hzb]]
        refine b_iincX (F := fun z114 => [some (aR 0), some (aI z114), some (aI (i : Int)), some (aI zb), x4]) rfl rfl (by omega) (by omega) (fun _ => rfl) (fun z114 ez114 => ?_)
        refine b_iconst rfl (by decide) ?_
        refine b_istoreX (F := fun z118 => [some (aR 0), some (aI z114), some (aI (i : Int)), some (aI zb), some (aI z118)]) rfl (by decide) (fun _ => rfl) (fun z118 ez118 => ?_)
        exact inn i _ hs hlen nx2 (cO I i) 0 _ _ (by omega) (by omega) (by omega)
      refine b_iload_n rfl rfl ?_
      refine b_aload_n rfl rfl ?_
      refine b_getR (r := 3) rfl fl11_19 rfl (by decide) rfl rfl ?_
      refine b_getR (r := 4) rfl fl11_150 rfl (by decide) rfl rfl ?_
      refine b_iconst rfl (by decide) ?_
      refine b_ialdL (k := 1) rfl rfl rfl (by decide) ?_
      refine b_icmp_ge (tgt := 168) rfl rfl (fun c59 => ?_) (fun c59 => ?_)
      · omega
      · refine b_aload_n rfl rfl ?_
        refine b_getR (r := 1) rfl fl11_10 rfl (by decide) rfl rfl ?_
        refine b_iload_n rfl rfl ?_
        refine b_callV1i (ν := MX9_at) rfl ml11_365 cvX9_at (d' := 0) (by omega) rfl (by decide) rfl (Nat.le_of_ble_eq_true rfl) ?_
        refine sp_X9_at (by omega) ?_
        rw [p4]
        refine ⟨_, rfl, ?_⟩
        refine b_iconst rfl (by decide) ?_
        refine b_isubN rfl (by omega) (by omega) ?_
        refine b_istoreX_n (F := fun z72 => [some (aR 0), some (aI y), some (aI (i : Int)), some (aI z72), x4]) rfl (by decide) (fun _ => rfl) (fun z72 ez72 => ?_)
        refine b_iload_n rfl rfl ?_
        refine b_iconst rfl (by decide) ?_
        refine b_icmp_eq (tgt := 104) rfl rfl (fun c75 => ?_) (fun c75 => ?_)
        · first
          | exact go (Or.inl (by omega)) _ _ ez72
          | exact go (Or.inr ⟨by rw [eb, ← ez72]; exact kOt _ hk, by rw [eb, ← ez72]; omega⟩) _ _ ez72
        · refine b_aload_n rfl rfl ?_
          refine b_getR (r := 3) rfl fl11_19 rfl (by decide) rfl rfl ?_
          refine b_iconst rfl (by decide) ?_
          refine b_iload_n rfl rfl ?_
          refine b_callV2i (ν := MX3_knows) rfl ml11_175 cvX3_knows (d' := 0) (by omega) rfl (by decide) rfl (Nat.le_of_ble_eq_true rfl) ?_
          refine spf_knows (fun hk => ?_) (fun hk => ?_)
          · refine ⟨_, rfl, ?_⟩
            refine b_if_eq (tgt := 102) rfl rfl (fun z => absurd z (by decide)) (fun _ => ?_)
            refine b_aload_n rfl rfl ?_
            refine b_getR (r := 34) rfl fl11_48 rfl (by decide) rfl rfl ?_
            refine b_iload_n rfl rfl ?_
            refine b_callV1i (ν := MX7_shipIn) rfl ml11_227 cvX7_shipIn (d' := 0) (by omega) rfl (by decide) rfl (Nat.le_of_ble_eq_true rfl) ?_
            refine sp_X7_shipIn_34 ?_
            refine ⟨_, rfl, ?_⟩
            refine b_iconst rfl (by decide) ?_
            refine b_icmp_eq (tgt := 104) rfl rfl (fun c99 => ?_) (fun c99 => ?_)
            · first
              | exact go (Or.inl (by omega)) _ _ ez72
              | exact go (Or.inr ⟨by rw [eb, ← ez72]; exact kOt _ hk, by rw [eb, ← ez72]; omega⟩) _ _ ez72
            · refine b_iconst rfl (by decide) ?_
              refine b_zret rfl rfl (by first | decide | omega) ?_
              first
              | exact k0 (bad (fun w => w.elim (fun v => by omega) (fun v => hk (kOf _ (by have := v.1; rw [eb, ← ez72] at this; exact this))))) _ (hcO _)
              | exact k0 (bad (fun w => w.elim (fun v => by omega) (fun v => by have := v.2; rw [eb, ← ez72] at this; omega))) _ (hcO _)
          · refine ⟨_, rfl, ?_⟩
            refine b_if_eq (tgt := 102) rfl rfl (fun _ => ?_) (fun z => absurd z (by decide))
            refine b_iconst rfl (by decide) ?_
            refine b_zret rfl rfl (by first | decide | omega) ?_
            first
            | exact k0 (bad (fun w => w.elim (fun v => by omega) (fun v => hk (kOf _ (by have := v.1; rw [eb, ← ez72] at this; exact this))))) _ (hcO _)
            | exact k0 (bad (fun w => w.elim (fun v => by omega) (fun v => by have := v.2; rw [eb, ← ez72] at this; omega))) _ (hcO _)
  refine b_aload_n rfl rfl ?_
  refine b_getR (r := 1) rfl fl11_10 rfl (by decide) rfl rfl ?_
  refine b_getI rfl fl11_97 rfl (by decide) rfl ?_
  refine b_aload_n rfl rfl ?_
  refine b_callV0i (ν := MX11_imageLength) rfl ml11_336 cvX11_imageLength (d' := 3) (by omega) rfl (by decide) rfl (Nat.le_of_ble_eq_true rfl) ?_
  refine sp_X11_imageLength hp ?_
  refine ⟨_, rfl, ?_⟩
  refine b_icmp_ne (tgt := 21) rfl rfl (fun c11 => ?_) (fun c11 => ?_)
  · refine b_iconst rfl (by decide) ?_
    refine b_zret rfl rfl (by first | decide | omega) ?_
    first
    | exact k0 (fun w => by have := w.1; omega) _ (fun _ _ _ _ => rfl)
    | exact k0 (fun w => absurd w.2.1 (by assumption)) _ (fun _ _ _ _ => rfl)
  · refine b_aload_n rfl rfl ?_
    refine b_callV0i (ν := MX11_sumFits) rfl ml11_356 cvX11_sumFits (d' := 1) (by omega) rfl (by decide) rfl (Nat.le_of_ble_eq_true rfl) ?_
    refine spf_sumFits hT hB (fun hf => ?_) (fun hf => ?_)
    · refine ⟨_, rfl, ?_⟩
      refine b_if_ne (tgt := 23) rfl rfl (fun _ => ?_) (fun z => absurd z (by decide))
      refine b_aload_n rfl rfl ?_
      refine b_getR (r := 34) rfl fl11_48 rfl (by decide) rfl rfl ?_
      refine b_callV0v (ν := MX7_clear) rfl ml11_359 cvX7_clear (d' := 0) (by omega) rfl (by decide) rfl (Nat.le_of_ble_eq_true rfl) ?_
      refine sp_X7_clear_34 ?_
      refine ⟨rfl, ?_⟩
      refine b_aload_n rfl rfl ?_
      refine b_getR (r := 34) rfl fl11_48 rfl (by decide) rfl rfl ?_
      refine b_aload_n rfl rfl ?_
      refine b_getR (r := 1) rfl fl11_10 rfl (by decide) rfl rfl ?_
      refine b_iconst rfl (by decide) ?_
      have e1 : clrS_34 I 1 = I 1 := clrS_cell (by decide) (by decide) (by decide)
      have e2 : clrS_34 I 2 = I 2 := clrS_cell (by decide) (by decide) (by decide)
      refine b_callV1i (ν := MX9_pairAt) rfl ml11_362 cvX9_pairAt (d' := 1) (by omega) rfl (by decide) rfl (Nat.le_of_ble_eq_true rfl) ?_
      refine sp_X9_pairAt (by rw [e1]; omega) (by rw [e2]; exact hB) (by omega) ?_
      rw [tAt_to e1 e2, tAt_to e1 e2]
      refine ⟨_, rfl, ?_⟩
      refine b_putI rfl fl11_153 rfl (by decide) rfl ?_
      refine b_iconst rfl (by decide) ?_
      refine b_istoreX_n (F := fun z46 => [some (aR 0), some (aI z46), none, none, none]) rfl (by decide) (fun _ => rfl) (fun z46 ez46 => ?_)
      refine b_iconst rfl (by decide) ?_
      refine b_istoreX_n (F := fun z48 => [some (aR 0), some (aI z46), some (aI z48), none, none]) rfl (by decide) (fun _ => rfl) (fun z48 ez48 => ?_)
      exact lp (by omega) hf (nS I) 0 _ _ _ _ (by omega) (by omega) (by show _ = ((3 : Nat) : Int) - 1; omega) (fun s h => absurd h (by omega))
    · refine ⟨_, rfl, ?_⟩
      refine b_if_ne (tgt := 23) rfl rfl (fun z => absurd z (by decide)) (fun _ => ?_)
      refine b_iconst rfl (by decide) ?_
      refine b_zret rfl rfl (by first | decide | omega) ?_
      first
      | exact k0 (fun w => by have := w.1; omega) _ (fun _ _ _ _ => rfl)
      | exact k0 (fun w => absurd w.2.1 (by assumption)) _ (fun _ _ _ _ => rfl)
theorem sp_X11_on {I : HI} {Q : Option AV → HI → Prop} (hp : pOK I) (hT : 0 ≤ I 1 1 ∧ I 1 1 ≤ 1600) (hB : ∀ j, 0 ≤ I 2 j ∧ I 2 j < 256) (h36 : tB I) (k1 : isI I → Q (some (aI 1)) (up (cpS_34 (up (tO I (nS I)) 1 1 0)) 38 2 0)) (k0 : ¬ isI I → ∀ K : HI, (∀ q, q ≠ 34 → q ≠ 35 → q ≠ 36 → K q = I q) → Q (some (aI 0)) (rfs (up K 1 1 0) 5)) : Rj MX11_on 5 [aR 0] I Q := by
  refine rj_of okX11_on (Nat.le_of_ble_eq_true rfl) rfl ?_
  refine b_aload_n rfl rfl ?_
  refine b_callV0i (ν := MX11_isImage) rfl ml11_353 cvX11_isImage (d' := 4) (by omega) rfl (by decide) rfl (Nat.le_of_ble_eq_true rfl) ?_
  refine sp_X11_isImage hp hT hB h36 (fun hi => ?_) (fun hi K hK => ?_)
  · refine ⟨_, rfl, ?_⟩
    refine b_istoreX_n (F := fun z4 => [some (aR 0), some (aI z4)]) rfl (by decide) (fun _ => rfl) (fun z4 ez4 => ?_)
    refine b_aload_n rfl rfl ?_
    refine b_getR (r := 1) rfl fl11_10 rfl (by decide) rfl rfl ?_
    refine b_iconst rfl (by decide) ?_
    refine b_putI rfl fl11_97 rfl (by decide) rfl ?_
    refine b_iload_n rfl rfl ?_
    refine b_if_ne (tgt := 23) rfl rfl (fun c14 => ?_) (fun c14 => ?_)
    · refine b_aload_n rfl rfl ?_
      refine b_getR (r := 30) rfl fl11_44 rfl (by decide) rfl rfl ?_
      refine b_aload_n rfl rfl ?_
      refine b_getR (r := 34) rfl fl11_48 rfl (by decide) rfl rfl ?_
      refine b_callV1v (ν := MX7_copy) rfl ml11_140 cvX7_copy (d' := 1) (by omega) rfl (by decide) rfl (Nat.le_of_ble_eq_true rfl) ?_
      refine sp_X7_copy_30_34 ?_
      refine ⟨rfl, ?_⟩
      refine b_aload_n rfl rfl ?_
      refine b_getR (r := 38) rfl fl11_54 rfl (by decide) rfl rfl ?_
      refine b_callV0v (ν := MX2_forget) rfl ml11_143 cvX2_forget (d' := 0) (by omega) rfl (by decide) rfl (Nat.le_of_ble_eq_true rfl) ?_
      refine sp_X2_forget ?_
      refine ⟨rfl, ?_⟩
      refine b_iconst rfl (by decide) ?_
      refine b_zret rfl rfl (by first | decide | omega) ?_
      first | exact absurd c14 (by omega) | exact k1 hi
    · refine b_aload_n rfl rfl ?_
      refine b_iconst rfl (by decide) ?_
      refine b_callV1i (ν := MX11_refuses) rfl ml11_108 cvX11_refuses (d' := 1) (by omega) rfl (by decide) rfl (Nat.le_of_ble_eq_true rfl) ?_
      refine sp_X11_refuses (k := 5) (by decide) ?_
      refine ⟨_, rfl, ?_⟩
      refine b_zret rfl rfl (by first | decide | omega) ?_
      first | exact absurd c14 (by omega) | exact k0 hi _ hK
  · refine ⟨_, rfl, ?_⟩
    refine b_istoreX_n (F := fun z4 => [some (aR 0), some (aI z4)]) rfl (by decide) (fun _ => rfl) (fun z4 ez4 => ?_)
    refine b_aload_n rfl rfl ?_
    refine b_getR (r := 1) rfl fl11_10 rfl (by decide) rfl rfl ?_
    refine b_iconst rfl (by decide) ?_
    refine b_putI rfl fl11_97 rfl (by decide) rfl ?_
    refine b_iload_n rfl rfl ?_
    refine b_if_ne (tgt := 23) rfl rfl (fun c14 => ?_) (fun c14 => ?_)
    · refine b_aload_n rfl rfl ?_
      refine b_getR (r := 30) rfl fl11_44 rfl (by decide) rfl rfl ?_
      refine b_aload_n rfl rfl ?_
      refine b_getR (r := 34) rfl fl11_48 rfl (by decide) rfl rfl ?_
      refine b_callV1v (ν := MX7_copy) rfl ml11_140 cvX7_copy (d' := 1) (by omega) rfl (by decide) rfl (Nat.le_of_ble_eq_true rfl) ?_
      refine sp_X7_copy_30_34 ?_
      refine ⟨rfl, ?_⟩
      refine b_aload_n rfl rfl ?_
      refine b_getR (r := 38) rfl fl11_54 rfl (by decide) rfl rfl ?_
      refine b_callV0v (ν := MX2_forget) rfl ml11_143 cvX2_forget (d' := 0) (by omega) rfl (by decide) rfl (Nat.le_of_ble_eq_true rfl) ?_
      refine sp_X2_forget ?_
      refine ⟨rfl, ?_⟩
      refine b_iconst rfl (by decide) ?_
      refine b_zret rfl rfl (by first | decide | omega) ?_
      first | exact absurd c14 (by omega) | exact k1 hi
    · refine b_aload_n rfl rfl ?_
      refine b_iconst rfl (by decide) ?_
      refine b_callV1i (ν := MX11_refuses) rfl ml11_108 cvX11_refuses (d' := 1) (by omega) rfl (by decide) rfl (Nat.le_of_ble_eq_true rfl) ?_
      refine sp_X11_refuses (k := 5) (by decide) ?_
      refine ⟨_, rfl, ?_⟩
      refine b_zret rfl rfl (by first | decide | omega) ?_
      first | exact absurd c14 (by omega) | exact k0 hi _ hK
