/-! ===== WrongTide: images ===== -/
def cO (I : HI) (s : Nat) : Nat := nH I s * nW I
theorem cO_in {I : HI} (hp : pOK I) {s : Nat} (hs : (s : Int) < I 4 1) : cO I s ≤ 24 ∧ (cO I s : Int) = I 6 (6 + s) * I 4 0 := by
  obtain ⟨a1, a2, a3⟩ := nH_in hp hs
  obtain ⟨b1, b2⟩ := nW_in hp
  unfold cO
  refine ⟨Nat.mul_le_mul a2 b1, ?_⟩
  rw [← a3, ← b2, Int.natCast_mul]
theorem sp_X11_cellsOf {I : HI} {Q : Option AV → HI → Prop} {s : Nat} (hp : pOK I) (hs : (s : Int) < I 4 1) (kq : Q (some (aI (cO I s : Int))) I) : Rj MX11_cellsOf 2 [aR 0, aI (s : Int)] I Q := by
  obtain ⟨c1, c2⟩ := cO_in hp hs
  have f6 := fo_ship (f := 6) hs
  refine rj_of okX11_cellsOf (Nat.le_of_ble_eq_true rfl) rfl ?_
  refine b_aload_n rfl rfl ?_
  refine b_getR (r := 3) rfl fl11_19 rfl (by decide) rfl rfl ?_
  refine b_iconst rfl (by decide) ?_
  refine b_iload_n rfl rfl ?_
  refine b_callV2i (ν := MX3_firstOf) rfl ml11_185 cvX3_firstOf (d' := 1) (by omega) rfl (by decide) rfl (Nat.le_of_ble_eq_true rfl) ?_
  refine sp_X3_firstOf_3 hp.1 ?_
  rw [f6]
  refine ⟨_, rfl, ?_⟩
  refine b_aload_n rfl rfl ?_
  refine b_getR (r := 3) rfl fl11_19 rfl (by decide) rfl rfl ?_
  refine b_getR (r := 4) rfl fl11_150 rfl (by decide) rfl rfl ?_
  refine b_iconst rfl (by decide) ?_
  refine b_ialdL (k := 0) rfl rfl rfl (by decide) ?_
  refine b_imulN rfl (by omega) (by omega) ?_
  refine b_iret rfl rfl ?_
  exact qI kq c2 rfl
def iLn (I : HI) : Nat → Nat
  | 0 => 3
  | n + 1 => iLn I n + (1 + cO I n)
theorem iLn_in {I : HI} (hp : pOK I) (n : Nat) (hn : (n : Int) ≤ I 4 1) : 3 + n ≤ iLn I n ∧ iLn I n ≤ 3 + 25 * n := by
  induction n with
  | zero => show 3 + 0 ≤ 3 ∧ 3 ≤ 3 + 25 * 0; omega
  | succ n ih =>
    have := ih (by omega)
    have := (cO_in hp (s := n) (by omega)).1
    show 3 + (n + 1) ≤ iLn I n + (1 + cO I n) ∧ iLn I n + (1 + cO I n) ≤ _
    omega
theorem sp_X11_imageLength {I : HI} {Q : Option AV → HI → Prop} (hp : pOK I) (kq : Q (some (aI (iLn I (nS I) : Int))) I) : Rj MX11_imageLength 3 [aR 0] I Q := by
  obtain ⟨n6, n1⟩ := nS_in hp
  refine rj_of okX11_imageLength (Nat.le_of_ble_eq_true rfl) rfl ?_
  have lp : ∀ (n i : Nat) (y z : Int), z = (i : Int) → i + n = nS I → y = (iLn I i : Int) → Bj MX11_imageLength 3 4 [some (aR 0), some (aI y), some (aI z)] [] I Q := by
    intro n
    induction n with
    | zero =>
      intro i y z hz hi hy
      refine b_iload_n rfl rfl ?_
      refine b_aload_n rfl rfl ?_
      refine b_getR (r := 3) rfl fl11_19 rfl (by decide) rfl rfl ?_
      refine b_getR (r := 4) rfl fl11_150 rfl (by decide) rfl rfl ?_
      refine b_iconst rfl (by decide) ?_
      refine b_ialdL (k := 1) rfl rfl rfl (by decide) ?_
      refine b_icmp_ge (tgt := 33) rfl rfl (fun c14 => ?_) (fun c14 => ?_)
      · refine b_iload_n rfl rfl ?_
        refine b_iret rfl rfl ?_
        have ei : i = nS I := by omega
        subst ei
        exact qI kq hy.symm rfl
      · omega
    | succ n ih =>
      intro i y z hz hi hy
      subst hz
      have hs : (i : Int) < I 4 1 := by omega
      have hc := (cO_in hp hs).1
      have hl := iLn_in hp i (by omega)
      refine b_iload_n rfl rfl ?_
      refine b_aload_n rfl rfl ?_
      refine b_getR (r := 3) rfl fl11_19 rfl (by decide) rfl rfl ?_
      refine b_getR (r := 4) rfl fl11_150 rfl (by decide) rfl rfl ?_
      refine b_iconst rfl (by decide) ?_
      refine b_ialdL (k := 1) rfl rfl rfl (by decide) ?_
      refine b_icmp_ge (tgt := 33) rfl rfl (fun c14 => ?_) (fun c14 => ?_)
      · omega
      · refine b_iload_n rfl rfl ?_
        refine b_iconst rfl (by decide) ?_
        refine b_aload_n rfl rfl ?_
        refine b_iload_n rfl rfl ?_
        refine b_callV1i (ν := MX11_cellsOf) rfl ml11_339 cvX11_cellsOf (d' := 2) (by omega) rfl (by decide) rfl (Nat.le_of_ble_eq_true rfl) ?_
        refine sp_X11_cellsOf hp hs ?_
        refine ⟨_, rfl, ?_⟩
        refine b_iaddN rfl (by omega) (by omega) ?_
        refine b_iaddN rfl (by omega) (by omega) ?_
        refine b_istoreX_n (F := fun z26 => [some (aR 0), some (aI z26), some (aI (i : Int))]) rfl (by decide) (fun _ => rfl) (fun z26 ez26 => ?_)
        refine b_iincX (F := fun z27 => [some (aR 0), some (aI z26), some (aI z27)]) rfl rfl (by omega) (by omega) (fun _ => rfl) (fun z27 ez27 => ?_)
        refine b_goto (tgt := 4) rfl rfl ?_
        exact ih (i + 1) _ _ (by omega) (by omega) (by show _ = ((iLn I i + (1 + cO I i) : Nat) : Int); omega)
  refine b_iconst rfl (by decide) ?_
  refine b_istoreX_n (F := fun z1 => [some (aR 0), some (aI z1), none]) rfl (by decide) (fun _ => rfl) (fun z1 ez1 => ?_)
  refine b_iconst rfl (by decide) ?_
  refine b_istoreX_n (F := fun z3 => [some (aR 0), some (aI z1), some (aI z3)]) rfl (by decide) (fun _ => rfl) (fun z3 ez3 => ?_)
  exact lp (nS I) 0 _ _ (by omega) (by omega) (by show _ = ((3 : Nat) : Int); omega)
def cI (I : HI) (s k : Nat) : Nat := 24 * s + 6 * (k / nW I) + k % nW I
theorem cI_in {I : HI} (hp : pOK I) {s k : Nat} (hs : (s : Int) < I 4 1) (hk : k < cO I s) : 1 ≤ nW I ∧ nW I ≤ 6 ∧ k / nW I < 4 ∧ k % nW I < nW I ∧ k < 24 := by
  have h1 := (nW_in hp).1
  have h2 := (nH_in hp hs).2.1
  have h3 := (cO_in hp hs).1
  have hw : 1 ≤ nW I := by
    rcases Nat.eq_zero_or_pos (nW I) with e | e
    · unfold cO at hk; rw [e, Nat.mul_zero] at hk; omega
    · exact e
  have h4 : k / nW I < nH I s := (Nat.div_lt_iff_lt_mul hw).2 hk
  exact ⟨hw, h1, by omega, Nat.mod_lt _ hw, by omega⟩
theorem sp_X11_cellInImage {I : HI} {Q : Option AV → HI → Prop} {s k : Nat} (hp : pOK I) (hs : (s : Int) < I 4 1) (hk : k < cO I s) (kq : Q (some (aI (cI I s k : Int))) I) : Rj MX11_cellInImage 1 [aR 0, aI (s : Int), aI (k : Int)] I Q := by
  obtain ⟨h1, h2, h3, h4, h5⟩ := cI_in hp hs hk
  have hs6 : s < 6 := by have := hp.1 1 (by decide); omega
  have ew := (nW_in hp).2
  have ed : (k : Int) / (nW I : Int) = ((k / nW I : Nat) : Int) := (Int.natCast_ediv k (nW I)).symm
  have em : (k : Int) % (nW I : Int) = ((k % nW I : Nat) : Int) := (Int.natCast_emod k (nW I)).symm
  generalize hQ : k / nW I = qq at *
  generalize hR : k % nW I = rr at *
  refine rj_of okX11_cellInImage (Nat.le_of_ble_eq_true rfl) rfl ?_
  refine b_aload_n rfl rfl ?_
  refine b_getR (r := 3) rfl fl11_19 rfl (by decide) rfl rfl ?_
  refine b_getR (r := 4) rfl fl11_150 rfl (by decide) rfl rfl ?_
  refine b_iconst rfl (by decide) ?_
  refine b_ialdL (k := 0) rfl rfl rfl (by decide) ?_
  refine b_iconst rfl (by decide) ?_
  refine b_mmax rfl ml11_348 (by omega) (Nat.le_of_ble_eq_true rfl) ?_
  refine b_istoreX_n (F := fun z13 => [some (aR 0), some (aI (s : Int)), some (aI (k : Int)), some (aI z13)]) rfl (by decide) (fun _ => rfl) (fun z13 ez13 => ?_)
  have es : z13 = (nW I : Int) := by omega
  clear ez13
  subst es
  refine b_iload_n rfl rfl ?_
  refine b_iload_n rfl rfl ?_
  refine b_iload_n rfl rfl ?_
  refine b_idivP rfl (by omega) (by omega) ?_
  refine b_iload_n rfl rfl ?_
  refine b_iload_n rfl rfl ?_
  refine b_iremP rfl (by omega) (by omega) ?_
  refine b_callS3i (ν := MX11_cell) rfl ml11_223 csX11_cell (d' := 0) (by omega) (Nat.le_of_ble_eq_true rfl) ?_
  rw [ed, em]
  refine sp_X11_cell (by omega) ?_
  refine ⟨_, rfl, ?_⟩
  refine b_iret rfl rfl ?_
  exact qI kq (by unfold cI; rw [hQ, hR]; omega) rfl
def imS (f : Nat → Int) : Nat → Int
  | 0 => 139
  | k + 1 => (5 * imS f k + f k) % 251
theorem imS_in {f : Nat → Int} (n : Nat) : 0 ≤ imS f n ∧ imS f n < 251 := by
  induction n with
  | zero => show (0 : Int) ≤ 139 ∧ (139 : Int) < 251; omega
  | succ n ih => show 0 ≤ (5 * imS f n + f n) % 251 ∧ (5 * imS f n + f n) % 251 < 251; omega
def imI (I : HI) (s a : Nat) (H : HI) : Nat → HI
  | 0 => up H 56 a (I 31 s + 1)
  | k + 1 => up (imI I s a H k) 56 (a + 1 + k) (I 32 (cI I s k))
def imO (I : HI) : Nat → HI
  | 0 => up (up I 56 0 (I 30 5 / 256)) 56 1 (I 30 5 % 256)
  | s + 1 => imI I s (iLn I s - 1) (imO I s) (cO I s)
theorem imI_cell {I H : HI} {s a k q : Nat} (hq : q ≠ 56) : imI I s a H k q = H q := by
  induction k with
  | zero => exact up_cell hq
  | succ k ih => exact (up_cell hq).trans ih
theorem imO_cell {I : HI} {s q : Nat} (hq : q ≠ 56) : imO I s q = I q := by
  induction s with
  | zero => exact (up_cell hq).trans (up_cell hq)
  | succ s ih => exact (imI_cell hq).trans ih
def oB (I : HI) : Prop := ∀ k, 0 ≤ I 56 k ∧ I 56 k ≤ 255
theorem oB_up {I : HI} {k : Nat} {v : Int} (h : oB I) (hv : 0 ≤ v ∧ v ≤ 255) : oB (up I 56 k v) := by
  intro j
  have := h j
  rw [up_ap]
  split <;> omega
theorem imI_B {I H : HI} {s a k : Nat} (h : oB H) (h31 : -1 ≤ I 31 s ∧ I 31 s < 6) (h32 : ∀ k, 0 ≤ I 32 k ∧ I 32 k ≤ 20) : oB (imI I s a H k) := by
  induction k with
  | zero => exact oB_up h (by omega)
  | succ k ih => exact oB_up ih (by have := h32 (cI I s k); omega)
def imgF (I : HI) : HI := imO I (nS I)
def imgS (I : HI) : HI := up (up (imgF I) 56 (iLn I (nS I) - 1) (imS (imgF I 56) (iLn I (nS I) - 1))) 0 12 (iLn I (nS I))
theorem lies_in {I : HI} {C : Nat → List Int} (hW : WF I C) {s : Nat} (hs : (s : Int) < I 4 1) : -1 ≤ I 31 s ∧ I 31 s < 6 := by
  have h1 := hW.2.2.2.2 s hs
  have h2 := hW.1.1.1 2 (by decide)
  omega
theorem imO_B {I : HI} {C : Nat → List Int} (hW : WF I C) (h : oB I) (s : Nat) (hs : (s : Int) ≤ I 4 1) : oB (imO I s) := by
  have r := hW.2.2.1
  induction s with
  | zero => exact oB_up (oB_up h (by omega)) (by omega)
  | succ s ih => exact imI_B (ih (by omega)) (lies_in hW (by omega)) hW.2.2.2.1
theorem sp_X11_image {I : HI} {Q : Option AV → HI → Prop} {C : Nat → List Int} (hW : WF I C) (hO : oB I) (kq : Q (some (aI (iLn I (nS I) : Int))) (imgS I)) : Rj MX11_image 4 [aR 0] I Q := by
  obtain ⟨n6, n1⟩ := nS_in hW.1.1
  have r := hW.2.2.1
  have hL := iLn_in hW.1.1 (nS I) (by omega)
  have hpK : ∀ K : HI, (∀ q, q ≠ 56 → K q = I q) → pOK K ∧ (∀ s, cO K s = cO I s) ∧ (∀ s k, cI K s k = cI I s k) := by
    intro K e
    have e4 := e 4 (by decide)
    have e6 := e 6 (by decide)
    refine ⟨pOK_to hW.1.1 e4 e6 (e 7 (by decide)), fun s => ?_, fun s k => ?_⟩
    · unfold cO nH nW; rw [e4, e6]
    · unfold cI nW; rw [e4]
  generalize hLe : iLn I (nS I) = L at *
  refine rj_of okX11_image (Nat.le_of_ble_eq_true rfl) rfl ?_
  have sm : ∀ (n i : Nat) (y z x2 : Int), z = (i : Int) → i + n = L - 1 → y = imS (imgF I 56) i → Bj MX11_image 4 132 [some (aR 0), some (aI (L : Int)), some (aI x2), some (aI y), some (aI z)] [] (imgF I) Q := by
    have hB : oB (imgF I) := imO_B hW hO (nS I) (by omega)
    intro n
    induction n with
    | zero =>
      intro i y z x2 hz hi hy
      refine b_iload rfl rfl ?_
      refine b_iload_n rfl rfl ?_
      refine b_iconst rfl (by decide) ?_
      refine b_isubN rfl (by omega) (by omega) ?_
      refine b_icmp_ge (tgt := 162) rfl rfl (fun c137 => ?_) (fun c137 => ?_)
      · refine b_aload_n rfl rfl ?_
        refine b_getR (r := 56) rfl fl11_87 rfl (by decide) rfl rfl ?_
        refine b_iload_n rfl rfl ?_
        refine b_iconst rfl (by decide) ?_
        refine b_isubN rfl (by omega) (by omega) ?_
        refine b_iload_n rfl rfl ?_
        refine b_iast rfl rfl (by omega) (by omega) ?_
        refine b_aload_n rfl rfl ?_
        refine b_iload_n rfl rfl ?_
        refine b_putI rfl fl11_345 rfl (by decide) rfl ?_
        refine b_iload_n rfl rfl ?_
        refine b_iret rfl rfl ?_
        have ei : i = L - 1 := by omega
        subst ei
        refine qI kq rfl ?_
        unfold imgS
        rw [hLe, hy, show ((L : Int) - 1).toNat = L - 1 by omega]
      · omega
    | succ n ih =>
      intro i y z x2 hz hi hy
      subst hz
      have hb := hB i
      have hs := imS_in (f := imgF I 56) i
      refine b_iload rfl rfl ?_
      refine b_iload_n rfl rfl ?_
      refine b_iconst rfl (by decide) ?_
      refine b_isubN rfl (by omega) (by omega) ?_
      refine b_icmp_ge (tgt := 162) rfl rfl (fun c137 => ?_) (fun c137 => ?_)
      · omega
      · refine b_iconst rfl (by decide) ?_
        refine b_iload_n rfl rfl ?_
        refine b_imulN rfl (by omega) (by omega) ?_
        refine b_aload_n rfl rfl ?_
        refine b_getR (r := 56) rfl fl11_87 rfl (by decide) rfl rfl ?_
        refine b_iload rfl rfl ?_
        refine b_iald rfl rfl (by omega) (by omega) ?_
        rw [Int.toNat_natCast]
        refine b_iaddN rfl (by omega) (by omega) ?_
        refine b_sipush rfl (by decide) ?_
        refine b_iremP rfl (by omega) (by omega) ?_
        refine b_istoreX_n (F := fun z155 => [some (aR 0), some (aI (L : Int)), some (aI x2), some (aI z155), some (aI (i : Int))]) rfl (by decide) (fun _ => rfl) (fun z155 ez155 => ?_)
        refine b_iincX (F := fun z156 => [some (aR 0), some (aI (L : Int)), some (aI x2), some (aI z155), some (aI z156)]) rfl rfl (by omega) (by omega) (fun _ => rfl) (fun z156 ez156 => ?_)
        refine b_goto (tgt := 132) rfl rfl ?_
        exact ih (i + 1) _ _ _ (by omega) (by omega) (by show _ = (5 * imS (imgF I 56) i + imgF I 56 i) % 251; rw [← hy]; assumption)
  have inn : ∀ (s : Nat), (s : Int) < I 4 1 → (∀ (y : Int) (x4 : Option AV), y = (iLn I (s + 1) : Int) - 1 → Bj MX11_image 4 119 [some (aR 0), some (aI (L : Int)), some (aI y), some (aI (s : Int)), x4] [] (imO I (s + 1)) Q) → ∀ (n k : Nat) (y z : Int), z = (k : Int) → k + n = cO I s → y = (iLn I s : Int) + k → Bj MX11_image 4 79 [some (aR 0), some (aI (L : Int)), some (aI y), some (aI (s : Int)), some (aI z)] [] (imI I s (iLn I s - 1) (imO I s) k) Q := by
    intro s hs hk n
    have hc := (cO_in hW.1.1 hs).1
    have hl := iLn_in hW.1.1 s (by omega)
    have hs6 : s < 6 := by omega
    induction n with
    | zero =>
      intro k y z hz hi hy
      obtain ⟨p1, p2, p3⟩ := hpK (imI I s (iLn I s - 1) (imO I s) k) (fun q hq => (imI_cell hq).trans (imO_cell hq))
      have e4 : imI I s (iLn I s - 1) (imO I s) k 4 = I 4 := (imI_cell (by decide)).trans (imO_cell (by decide))
      refine b_iload rfl rfl ?_
      refine b_aload_n rfl rfl ?_
      refine b_iload_n rfl rfl ?_
      refine b_callV1i (ν := MX11_cellsOf) rfl ml11_339 cvX11_cellsOf (d' := 2) (by omega) rfl (by decide) rfl (Nat.le_of_ble_eq_true rfl) ?_
      refine sp_X11_cellsOf p1 (by rw [e4]; exact hs) ?_
      rw [p2]
      refine ⟨_, rfl, ?_⟩
      refine b_icmp_ge (tgt := 119) rfl rfl (fun c86 => ?_) (fun c86 => ?_)
      · have ek : k = cO I s := by omega
        subst ek
        exact hk _ _ (by show _ = ((iLn I s + (1 + cO I s) : Nat) : Int) - 1; omega)
      · omega
    | succ n ih =>
      intro k y z hz hi hy
      subst hz
      obtain ⟨p1, p2, p3⟩ := hpK (imI I s (iLn I s - 1) (imO I s) k) (fun q hq => (imI_cell hq).trans (imO_cell hq))
      have e4 : imI I s (iLn I s - 1) (imO I s) k 4 = I 4 := (imI_cell (by decide)).trans (imO_cell (by decide))
      have e32 : imI I s (iLn I s - 1) (imO I s) k 32 = I 32 := (imI_cell (by decide)).trans (imO_cell (by decide))
      have hci := cI_in hW.1.1 hs (show k < cO I s by omega)
      have hcb : cI I s k < 144 := by unfold cI; omega
      refine b_iload rfl rfl ?_
      refine b_aload_n rfl rfl ?_
      refine b_iload_n rfl rfl ?_
      refine b_callV1i (ν := MX11_cellsOf) rfl ml11_339 cvX11_cellsOf (d' := 2) (by omega) rfl (by decide) rfl (Nat.le_of_ble_eq_true rfl) ?_
      refine sp_X11_cellsOf p1 (by rw [e4]; exact hs) ?_
      rw [p2]
      refine ⟨_, rfl, ?_⟩
      refine b_icmp_ge (tgt := 119) rfl rfl (fun c86 => ?_) (fun c86 => ?_)
      · omega
      · refine b_aload_n rfl rfl ?_
        refine b_getR (r := 56) rfl fl11_87 rfl (by decide) rfl rfl ?_
        refine b_iload_n rfl rfl ?_
        refine b_aload_n rfl rfl ?_
        refine b_getR (r := 30) rfl fl11_44 rfl (by decide) rfl rfl ?_
        refine b_getR (r := 32) rfl fl11_198 rfl (by decide) rfl rfl ?_
        refine b_aload_n rfl rfl ?_
        refine b_iload_n rfl rfl ?_
        refine b_iload rfl rfl ?_
        refine b_callV2i (ν := MX11_cellInImage) rfl ml11_342 cvX11_cellInImage (d' := 1) (by omega) rfl (by decide) rfl (Nat.le_of_ble_eq_true rfl) ?_
        refine sp_X11_cellInImage p1 (by rw [e4]; exact hs) (by rw [p2]; omega) ?_
        rw [p3]
        refine ⟨_, rfl, ?_⟩
        refine b_iald rfl rfl (by omega) (by omega) ?_
        rw [Int.toNat_natCast, e32]
        refine b_iast rfl rfl (by omega) (by omega) ?_
        rw [show y.toNat = iLn I s - 1 + 1 + k by omega]
        refine b_iincX (F := fun z110 => [some (aR 0), some (aI (L : Int)), some (aI z110), some (aI (s : Int)), some (aI (k : Int))]) rfl rfl (by omega) (by omega) (fun _ => rfl) (fun z110 ez110 => ?_)
        refine b_iincX (F := fun z113 => [some (aR 0), some (aI (L : Int)), some (aI z110), some (aI (s : Int)), some (aI z113)]) rfl rfl (by omega) (by omega) (fun _ => rfl) (fun z113 ez113 => ?_)
        refine b_goto (tgt := 79) rfl rfl ?_
        exact ih (k + 1) _ _ (by omega) (by omega) (by omega)
  have lp : ∀ (n i : Nat) (y z : Int) (x4 : Option AV), z = (i : Int) → i + n = nS I → y = (iLn I i : Int) - 1 → Bj MX11_image 4 43 [some (aR 0), some (aI (L : Int)), some (aI y), some (aI z), x4] [] (imO I i) Q := by
    intro n
    induction n with
    | zero =>
      intro i y z x4 hz hi hy
      have e4 : imO I i 4 1 = I 4 1 := by rw [imO_cell (by decide)]
      refine b_iload_n rfl rfl ?_
      refine b_aload_n rfl rfl ?_
      refine b_getR (r := 3) rfl fl11_19 rfl (by decide) rfl rfl ?_
      refine b_getR (r := 4) rfl fl11_150 rfl (by decide) rfl rfl ?_
      refine b_iconst rfl (by decide) ?_
      refine b_ialdL (k := 1) rfl rfl rfl (by decide) ?_
      refine b_icmp_ge (tgt := 125) rfl rfl (fun c53 => ?_) (fun c53 => ?_)
      · refine b_sipush rfl (by decide) ?_
        refine b_istoreX_n (F := fun z128 => [some (aR 0), some (aI (L : Int)), some (aI y), some (aI z128), x4]) rfl (by decide) (fun _ => rfl) (fun z128 ez128 => ?_)
        refine b_iconst rfl (by decide) ?_
        refine b_istoreX (F := fun z130 => [some (aR 0), some (aI (L : Int)), some (aI y), some (aI z128), some (aI z130)]) rfl (by decide) (fun _ => rfl) (fun z130 ez130 => ?_)
        have ei : i = nS I := by omega
        subst ei
        exact sm (L - 1) 0 _ _ _ (by omega) (by omega) (by show _ = (139 : Int); omega)
      · omega
    | succ n ih =>
      intro i y z x4 hz hi hy
      subst hz
      have hs : (i : Int) < I 4 1 := by omega
      have e4 : imO I i 4 1 = I 4 1 := by rw [imO_cell (by decide)]
      have e31 : imO I i 31 = I 31 := imO_cell (by decide)
      have hl := iLn_in hW.1.1 i (by omega)
      have hli := lies_in hW hs
      have nx : ∀ (y' : Int) (x4' : Option AV), y' = (iLn I (i + 1) : Int) - 1 → Bj MX11_image 4 119 [some (aR 0), some (aI (L : Int)), some (aI y'), some (aI (i : Int)), x4'] [] (imO I (i + 1)) Q := by
        intro y' x4' hy'
        refine b_iincX (F := fun z119 => [some (aR 0), some (aI (L : Int)), some (aI y'), some (aI z119), x4']) rfl rfl (by omega) (by omega) (fun _ => rfl) (fun z119 ez119 => ?_)
        refine b_goto (tgt := 43) rfl rfl ?_
        exact ih (i + 1) _ _ _ (by omega) (by omega) hy'
      refine b_iload_n rfl rfl ?_
      refine b_aload_n rfl rfl ?_
      refine b_getR (r := 3) rfl fl11_19 rfl (by decide) rfl rfl ?_
      refine b_getR (r := 4) rfl fl11_150 rfl (by decide) rfl rfl ?_
      refine b_iconst rfl (by decide) ?_
      refine b_ialdL (k := 1) rfl rfl rfl (by decide) ?_
      refine b_icmp_ge (tgt := 125) rfl rfl (fun c53 => ?_) (fun c53 => ?_)
      · omega
      · refine b_aload_n rfl rfl ?_
        refine b_getR (r := 56) rfl fl11_87 rfl (by decide) rfl rfl ?_
        refine b_iload_n rfl rfl ?_
        refine b_aload_n rfl rfl ?_
        refine b_getR (r := 30) rfl fl11_44 rfl (by decide) rfl rfl ?_
        refine b_getR (r := 31) rfl fl11_205 rfl (by decide) rfl rfl ?_
        refine b_iload_n rfl rfl ?_
        refine b_iald rfl rfl (by omega) (by omega) ?_
        rw [Int.toNat_natCast, e31]
        refine b_iconst rfl (by decide) ?_
        refine b_iaddN rfl (by omega) (by omega) ?_
        refine b_iast rfl rfl (by omega) (by omega) ?_
        rw [show y.toNat = iLn I i - 1 by omega]
        refine b_iincX (F := fun z73 => [some (aR 0), some (aI (L : Int)), some (aI z73), some (aI (i : Int)), x4]) rfl rfl (by omega) (by omega) (fun _ => rfl) (fun z73 ez73 => ?_)
        refine b_iconst rfl (by decide) ?_
        refine b_istoreX (F := fun z77 => [some (aR 0), some (aI (L : Int)), some (aI z73), some (aI (i : Int)), some (aI z77)]) rfl (by decide) (fun _ => rfl) (fun z77 ez77 => ?_)
        exact inn i hs nx (cO I i) 0 _ _ (by omega) (by omega) (by omega)
  refine b_aload_n rfl rfl ?_
  refine b_callV0i (ν := MX11_imageLength) rfl ml11_336 cvX11_imageLength (d' := 3) (by omega) rfl (by decide) rfl (Nat.le_of_ble_eq_true rfl) ?_
  refine sp_X11_imageLength hW.1.1 ?_
  rw [hLe]
  refine ⟨_, rfl, ?_⟩
  refine b_istoreX_n (F := fun z4 => [some (aR 0), some (aI z4), none, none, none]) rfl (by decide) (fun _ => rfl) (fun z4 ez4 => ?_)
  refine b_aload_n rfl rfl ?_
  refine b_getR (r := 56) rfl fl11_87 rfl (by decide) rfl rfl ?_
  refine b_iconst rfl (by decide) ?_
  refine b_aload_n rfl rfl ?_
  refine b_getR (r := 30) rfl fl11_44 rfl (by decide) rfl rfl ?_
  refine b_getI rfl fl11_153 rfl (by decide) rfl ?_
  refine b_sipush rfl (by decide) ?_
  refine b_idivP rfl (by omega) (by omega) ?_
  refine b_iastL (k := 0) rfl rfl rfl (by decide) ?_
  refine b_aload_n rfl rfl ?_
  refine b_getR (r := 56) rfl fl11_87 rfl (by decide) rfl rfl ?_
  refine b_iconst rfl (by decide) ?_
  refine b_aload_n rfl rfl ?_
  refine b_getR (r := 30) rfl fl11_44 rfl (by decide) rfl rfl ?_
  refine b_getI rfl fl11_153 rfl (by decide) rfl ?_
  try simp only [up_ap, cpy_ap, fil_ap, row_ap, Nat.reduceEqDiff, Nat.reduceLT, Nat.reduceLeDiff, Int.toNat_natCast, Int.reduceToNat, reduceCtorEq, false_and, and_false, true_and, and_true, and_self, reduceIte]
  refine b_sipush rfl (by decide) ?_
  refine b_iremP rfl (by omega) (by omega) ?_
  refine b_iastL (k := 1) rfl rfl rfl (by decide) ?_
  refine b_iconst rfl (by decide) ?_
  refine b_istoreX_n (F := fun z40 => [some (aR 0), some (aI z4), some (aI z40), none, none]) rfl (by decide) (fun _ => rfl) (fun z40 ez40 => ?_)
  refine b_iconst rfl (by decide) ?_
  refine b_istoreX_n (F := fun z42 => [some (aR 0), some (aI z4), some (aI z40), some (aI z42), none]) rfl (by decide) (fun _ => rfl) (fun z42 ez42 => ?_)
  subst ez4
  exact lp (nS I) 0 _ _ _ (by omega) (by omega) (by show _ = ((3 : Nat) : Int) - 1; omega)
