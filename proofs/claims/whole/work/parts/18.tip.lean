/-! ===== how a ship is laden: sums over holds and wares ===== -/
def S2 (nh nw : Nat) (f : Nat → Nat → Int) : Int := sumN nh (fun h => sumN nw (fun w => f h w))
theorem S2_s {nh nw : Nat} {f : Nat → Nat → Int} : S2 (nh + 1) nw f = S2 nh nw f + sumN nw (fun w => f nh w) := rfl
theorem S2_le {nh nw : Nat} {f : Nat → Nat → Int} {b : Int} (hb : 0 ≤ b) (h : ∀ i j, i < nh → j < nw → -b ≤ f i j ∧ f i j ≤ b) : -(nh * (nw * b)) ≤ S2 nh nw f ∧ S2 nh nw f ≤ nh * (nw * b) := by
  have h1 := sumN_le (n := nh) (f := fun h => sumN nw (fun w => f h w)) (a := -(nw * b)) (b := nw * b) (fun i hi => by
    have := sumN_le (n := nw) (f := fun w => f i w) (a := -b) (b := b) (fun j hj => h i j hi hj)
    rw [Int.mul_neg] at this
    exact this)
  rw [Int.mul_neg] at h1
  exact h1
/-- the plan's numbers are as the document bounds them -/
def pOK (I : HI) : Prop := cOK I 4 ∧ (∀ w, w < 6 → 0 ≤ I 6 w ∧ I 6 w ≤ 99 ∧ 0 ≤ I 7 w ∧ I 7 w ≤ 99) ∧ (∀ s : Nat, (s : Int) < I 4 1 → 2 ≤ I 6 (6 + s) ∧ I 6 (6 + s) ≤ 4 ∧ 0 ≤ I 7 (6 + s) ∧ I 7 (6 + s) ≤ 999) ∧ (∀ b : Nat, (b : Int) < I 4 2 → 0 ≤ I 6 (12 + b) ∧ I 6 (12 + b) ≤ I 7 (12 + b) ∧ I 7 (12 + b) ≤ 9999)
def cW (I : HI) (cr s : Nat) (h w : Nat) : Int := I cr (24 * s + 6 * h + w) * I 6 w
def cL (I : HI) (cr s : Nat) (h w : Nat) : Int := I cr (24 * s + 6 * h + w) * I 7 w
def cT (I : HI) (cr s : Nat) (h w : Nat) : Int := sd h * I cr (24 * s + 6 * h + w) * (I 6 w - I 7 w)
def cN (I : HI) (cr s : Nat) (h w : Nat) : Int := I cr (24 * s + 6 * h + w)
def nH (I : HI) (s : Nat) : Nat := (I 6 (6 + s)).toNat
def nW (I : HI) : Nat := (I 4 0).toNat
def tW (I : HI) (cr s : Nat) : Int := S2 (nH I s) (nW I) (cW I cr s)
def tL (I : HI) (cr s : Nat) : Int := S2 (nH I s) (nW I) (cL I cr s)
def tT (I : HI) (cr s : Nat) : Int := S2 (nH I s) (nW I) (cT I cr s)
def tN (I : HI) (cr s : Nat) : Int := S2 (nH I s) (nW I) (cN I cr s)
def crB (I : HI) (cr : Nat) : Prop := ∀ k, 0 ≤ I cr k ∧ I cr k ≤ 300
theorem sd_in (h : Int) : sd h = 1 ∨ sd h = -1 := by
  unfold sd
  split
  · exact Or.inl rfl
  · exact Or.inr rfl
theorem mulB {a b A B : Int} (ha : -A ≤ a ∧ a ≤ A) (hb : -B ≤ b ∧ b ≤ B) : -(A * B) ≤ a * b ∧ a * b ≤ A * B := by
  have h1 : (a * b).natAbs ≤ A.toNat * B.toNat := by
    rw [Int.natAbs_mul]
    exact Nat.mul_le_mul (by omega) (by omega)
  have h2 : ((A.toNat * B.toNat : Nat) : Int) = A * B := by
    rw [Int.natCast_mul, Int.toNat_of_nonneg (by omega), Int.toNat_of_nonneg (by omega)]
  omega
theorem cW_in {I : HI} {cr s h w : Nat} (hp : pOK I) (hb : crB I cr) (hw : w < 6) : -29700 ≤ cW I cr s h w ∧ cW I cr s h w ≤ 29700 := by
  have h1 := hb (24 * s + 6 * h + w)
  have h2 := hp.2.1 w hw
  have := mulB (a := I cr (24 * s + 6 * h + w)) (b := I 6 w) (A := 300) (B := 99) (by omega) (by omega)
  unfold cW
  omega
theorem cL_in {I : HI} {cr s h w : Nat} (hp : pOK I) (hb : crB I cr) (hw : w < 6) : -29700 ≤ cL I cr s h w ∧ cL I cr s h w ≤ 29700 := by
  have h1 := hb (24 * s + 6 * h + w)
  have h2 := hp.2.1 w hw
  have := mulB (a := I cr (24 * s + 6 * h + w)) (b := I 7 w) (A := 300) (B := 99) (by omega) (by omega)
  unfold cL
  omega
theorem cT_in {I : HI} {cr s h w : Nat} (hp : pOK I) (hb : crB I cr) (hw : w < 6) : -29700 ≤ cT I cr s h w ∧ cT I cr s h w ≤ 29700 := by
  have h1 := hb (24 * s + 6 * h + w)
  have h2 := hp.2.1 w hw
  have := mulB (a := sd h * I cr (24 * s + 6 * h + w)) (b := I 6 w - I 7 w) (A := 300) (B := 99) (by rcases sd_in h with e | e <;> rw [e] <;> omega) (by omega)
  unfold cT
  omega
theorem S2_b {f : Nat → Nat → Int} {nh nw h w : Nat} (hh : h ≤ nh) (hw : w ≤ nw) (hn : nh ≤ 4) (hm : nw ≤ 6) (hf : ∀ i j, j < 6 → -29700 ≤ f i j ∧ f i j ≤ 29700) : -900000 ≤ S2 h nw f + sumN w (fun j => f h j) ∧ S2 h nw f + sumN w (fun j => f h j) ≤ 900000 := by
  have h1 := S2_le (nh := h) (nw := nw) (f := f) (b := 29700) (by omega) (fun i j _ hj => hf i j (by omega))
  have h2 := sumN_le (n := w) (f := fun j => f h j) (a := -29700) (b := 29700) (fun j hj => hf h j (by omega))
  have e1 : (h : Int) * ((nw : Int) * 29700) ≤ 4 * (6 * 29700) := by
    have h9 : h * nw ≤ 4 * 6 := Nat.mul_le_mul (by omega) (by omega)
    rw [← Int.mul_assoc, ← Int.natCast_mul]
    omega
  have e2 : (w : Int) * 29700 ≤ 6 * 29700 := by omega
  have e3 : (w : Int) * -29700 = - (w * 29700) := by rw [Int.mul_neg]
  omega
theorem S2_b0 {f : Nat → Nat → Int} {nh nw : Nat} (hn : nh ≤ 4) (hm : nw ≤ 6) (hf : ∀ i j, j < 6 → -29700 ≤ f i j ∧ f i j ≤ 29700) : -900000 ≤ S2 nh nw f ∧ S2 nh nw f ≤ 900000 := by
  have := S2_b (h := nh) (w := 0) (nh := nh) (nw := nw) (Nat.le_refl _) (Nat.zero_le _) hn hm hf
  simpa [sumN] using this
theorem nH_in {I : HI} {s : Nat} (hp : pOK I) (hs : (s : Int) < I 4 1) : 2 ≤ nH I s ∧ nH I s ≤ 4 ∧ (nH I s : Int) = I 6 (6 + s) := by
  have := hp.2.2.1 s hs
  unfold nH
  omega
theorem nW_in {I : HI} (hp : pOK I) : nW I ≤ 6 ∧ (nW I : Int) = I 4 0 := by
  have := hp.1 0 (by decide)
  unfold nW
  omega
theorem fo_ship {I : HI} {s : Nat} {f : Nat} (hs : (s : Int) < I 4 1) : fo I 4 f 1 (s : Int) = I f (6 + s) := by
  rw [fo_1 ⟨by omega, by omega, by omega, hs⟩]
  congr 1
theorem fo_ware {I : HI} {w : Nat} {f : Nat} (hs : (w : Int) < I 4 0) : fo I 4 f 0 (w : Int) = I f w := by
  rw [fo_1 ⟨by omega, by omega, by omega, hs⟩]
  congr 1
  omega
theorem fo_berth {I : HI} {b : Nat} {f : Nat} (hs : (b : Int) < I 4 2) : fo I 4 f 2 (b : Int) = I f (12 + b) := by
  rw [fo_1 ⟨by omega, by omega, by omega, hs⟩]
  congr 1
theorem sp_X5_tipOf_32 {I : HI} {Q : Option AV → HI → Prop} {s : Nat} (hp : pOK I) (hb : crB I 32) (hs : (s : Int) < I 4 1) (kq : Q (some (aI (tT I 32 s))) I) : Rj MX5_tipOf 3 [aR 27, aR 32, aI (s : Int)] I Q := by
  obtain ⟨h1, h2, h3⟩ := nH_in hp hs
  obtain ⟨w1, w2⟩ := nW_in hp
  have hs6 : s < 6 := by have := hp.1 1 (by decide); omega
  have e1 := fo_ship (f := 6) hs
  have inn : ∀ (n j : Nat) (i : Nat) (z y t : Int), (∀ (t' : Int) (x5 : Option AV), t' = S2 (i + 1) (nW I) (cT I 32 s) → Bj MX5_tipOf 3 71 [some (aR 27), some (aR 32), some (aI (s : Int)), some (aI t'), some (aI y), x5] [] I Q) → i < nH I s → z = (j : Int) → y = (i : Int) → j + n = nW I → t = S2 i (nW I) (cT I 32 s) + sumN j (fun w => cT I 32 s i w) → Bj MX5_tipOf 3 22 [some (aR 27), some (aR 32), some (aI (s : Int)), some (aI t), some (aI y), some (aI z)] [] I Q := by
    intro n
    induction n with
    | zero =>
      intro j i z y t hk hi hz hy hj ht
      refine b_iload rfl rfl ?_
      refine b_aload_n rfl rfl ?_
      refine b_getR (r := 3) rfl fl5_18 rfl (by decide) rfl rfl ?_
      refine b_getR (r := 4) rfl fl5_43 rfl (by decide) rfl rfl ?_
      refine b_iconst rfl (by decide) ?_
      refine b_ialdL (k := 0) rfl rfl rfl (by decide) ?_
      refine b_icmp_ge (tgt := 71) rfl rfl (fun c33 => ?_) (fun c33 => ?_)
      · refine hk _ _ ?_
        rw [ht, S2_s, show j = nW I by omega]
      · omega
    | succ n ih =>
      intro j i z y t hk hi hz hy hj ht
      subst hz
      subst hy
      have b1 := S2_b (f := cT I 32 s) (h := i) (w := j) (nh := nH I s) (nw := nW I) (by omega) (by omega) h2 w1 (fun i j hj => cT_in hp hb hj)
      have b2 := cT_in (s := s) (h := i) (w := j) hp hb (by omega)
      have hcell := hb (24 * s + 6 * i + j)
      have hwr := hp.2.1 j (by omega)
      have ec : ((s : Int) * 24 + (i : Int) * 6 + (j : Int)).toNat = 24 * s + 6 * i + j := by omega
      have hsd := sd_in (i : Int)
      have hsm : -300 ≤ sd (i : Int) * I 32 (24 * s + 6 * i + j) ∧ sd (i : Int) * I 32 (24 * s + 6 * i + j) ≤ 300 := by rcases hsd with e | e <;> rw [e] <;> omega
      refine b_iload rfl rfl ?_
      refine b_aload_n rfl rfl ?_
      refine b_getR (r := 3) rfl fl5_18 rfl (by decide) rfl rfl ?_
      refine b_getR (r := 4) rfl fl5_43 rfl (by decide) rfl rfl ?_
      refine b_iconst rfl (by decide) ?_
      refine b_ialdL (k := 0) rfl rfl rfl (by decide) ?_
      refine b_icmp_ge (tgt := 71) rfl rfl (fun c33 => ?_) (fun c33 => ?_)
      · omega
      · refine b_iload_n rfl rfl ?_
        refine b_iload rfl rfl ?_
        refine b_callSN1i (ν := MX11_side) rfl ml5_53 csX11_side (d' := 0) (by omega) (Nat.le_of_ble_eq_true rfl) ?_
        refine sp_X11_side (by omega) ?_
        refine ⟨_, rfl, ?_⟩
        refine b_aload_n rfl rfl ?_
        refine b_iload_n rfl rfl ?_
        refine b_iload rfl rfl ?_
        refine b_iload rfl rfl ?_
        refine b_callSN3i (ν := MX11_cell) rfl ml5_46 csX11_cell (d' := 0) (by omega) (Nat.le_of_ble_eq_true rfl) ?_
        refine sp_X11_cell (by omega) ?_
        refine ⟨_, rfl, ?_⟩
        refine b_iald rfl rfl (by omega) (by omega) ?_
        rw [ec]
        refine b_imulN rfl (by omega) (by omega) ?_
        refine b_aload_n rfl rfl ?_
        refine b_getR (r := 3) rfl fl5_18 rfl (by decide) rfl rfl ?_
        refine b_iload rfl rfl ?_
        refine b_callV1i (ν := MX3_net) rfl ml5_56 cvX3_net (d' := 2) (by omega) rfl (by decide) rfl (Nat.le_of_ble_eq_true rfl) ?_
        refine sp_X3_net_3 hp.1 ⟨by omega, by omega, by omega, by show (j : Int) < I 4 0; omega⟩ (by rw [Int.toNat_natCast]; omega) ?_
        rw [Int.toNat_natCast]
        refine ⟨_, rfl, ?_⟩
        refine b_imulN rfl (by unfold cT at b2; omega) (by unfold cT at b2; omega) ?_
        refine b_iaddN rfl (by unfold cT at *; omega) (by unfold cT at *; omega) ?_
        refine b_istoreX_n (F := fun z64 => [some (aR 27), some (aR 32), some (aI (s : Int)), some (aI z64), some (aI (i : Int)), some (aI (j : Int))]) rfl (by decide) (fun _ => rfl) (fun z64 ez64 => ?_)
        refine b_iincX (F := fun z65 => [some (aR 27), some (aR 32), some (aI (s : Int)), some (aI z64), some (aI (i : Int)), some (aI z65)]) rfl rfl (by omega) (by omega) (fun _ => rfl) (fun z65 ez65 => ?_)
        refine b_goto (tgt := 22) rfl rfl ?_
        refine ih (j + 1) i _ _ _ hk hi (by omega) rfl (by omega) ?_
        rw [ez64, ht]
        show _ = S2 i (nW I) (cT I 32 s) + (sumN j (fun w => cT I 32 s i w) + cT I 32 s i j)
        unfold cT
        omega
  have lp : ∀ (n i : Nat) (y t : Int) (x5 : Option AV), y = (i : Int) → i + n = nH I s → t = S2 i (nW I) (cT I 32 s) → Bj MX5_tipOf 3 5 [some (aR 27), some (aR 32), some (aI (s : Int)), some (aI t), some (aI y), x5] [] I Q := by
    intro n
    induction n with
    | zero =>
      intro i y t x5 hy hi ht
      refine b_iload rfl rfl ?_
      refine b_aload_n rfl rfl ?_
      refine b_getR (r := 3) rfl fl5_18 rfl (by decide) rfl rfl ?_
      refine b_iconst rfl (by decide) ?_
      refine b_iload_n rfl rfl ?_
      refine b_callV2i (ν := MX3_firstOf) rfl ml5_39 cvX3_firstOf (d' := 1) (by omega) rfl (by decide) rfl (Nat.le_of_ble_eq_true rfl) ?_
      refine sp_X3_firstOf_3 hp.1 ?_
      rw [e1]
      refine ⟨_, rfl, ?_⟩
      refine b_icmp_ge (tgt := 77) rfl rfl (fun c16 => ?_) (fun c16 => ?_)
      · refine b_iload_n rfl rfl ?_
        refine b_iret rfl rfl ?_
        exact qI kq (by rw [ht, show i = nH I s by omega]; rfl) rfl
      · omega
    | succ n ih =>
      intro i y t x5 hy hi ht
      refine b_iload rfl rfl ?_
      refine b_aload_n rfl rfl ?_
      refine b_getR (r := 3) rfl fl5_18 rfl (by decide) rfl rfl ?_
      refine b_iconst rfl (by decide) ?_
      refine b_iload_n rfl rfl ?_
      refine b_callV2i (ν := MX3_firstOf) rfl ml5_39 cvX3_firstOf (d' := 1) (by omega) rfl (by decide) rfl (Nat.le_of_ble_eq_true rfl) ?_
      refine sp_X3_firstOf_3 hp.1 ?_
      rw [e1]
      refine ⟨_, rfl, ?_⟩
      refine b_icmp_ge (tgt := 77) rfl rfl (fun c16 => ?_) (fun c16 => ?_)
      · omega
      · refine b_iconst rfl (by decide) ?_
        refine b_istoreX (F := fun z20 => [some (aR 27), some (aR 32), some (aI (s : Int)), some (aI t), some (aI y), some (aI z20)]) rfl (by decide) (fun _ => rfl) (fun z20 ez20 => ?_)
        refine inn (nW I) 0 i _ _ _ (fun t' x5 ht' => ?_) (by omega) (by omega) hy (by omega) (by rw [ht]; simp [sumN])
        refine b_iincX (F := fun z71 => [some (aR 27), some (aR 32), some (aI (s : Int)), some (aI t'), some (aI z71), x5]) rfl rfl (by omega) (by omega) (fun _ => rfl) (fun z71 ez71 => ?_)
        refine b_goto (tgt := 5) rfl rfl ?_
        exact ih (i + 1) _ _ _ (by omega) (by omega) ht'
  refine rj_of okX5_tipOf (Nat.le_of_ble_eq_true rfl) rfl ?_
  refine b_iconst rfl (by decide) ?_
  refine b_istoreX_n (F := fun z1 => [some (aR 27), some (aR 32), some (aI (s : Int)), some (aI z1), none, none]) rfl (by decide) (fun _ => rfl) (fun z1 ez1 => ?_)
  refine b_iconst rfl (by decide) ?_
  refine b_istoreX (F := fun z3 => [some (aR 27), some (aR 32), some (aI (s : Int)), some (aI z1), some (aI z3), none]) rfl (by decide) (fun _ => rfl) (fun z3 ez3 => ?_)
  exact lp (nH I s) 0 _ _ _ (by omega) (by omega) (by rw [ez1]; rfl)
theorem sp_X5_tipOf_45 {I : HI} {Q : Option AV → HI → Prop} {s : Nat} (hp : pOK I) (hb : crB I 45) (hs : (s : Int) < I 4 1) (kq : Q (some (aI (tT I 45 s))) I) : Rj MX5_tipOf 3 [aR 27, aR 45, aI (s : Int)] I Q := by
  obtain ⟨h1, h2, h3⟩ := nH_in hp hs
  obtain ⟨w1, w2⟩ := nW_in hp
  have hs6 : s < 6 := by have := hp.1 1 (by decide); omega
  have e1 := fo_ship (f := 6) hs
  have inn : ∀ (n j : Nat) (i : Nat) (z y t : Int), (∀ (t' : Int) (x5 : Option AV), t' = S2 (i + 1) (nW I) (cT I 45 s) → Bj MX5_tipOf 3 71 [some (aR 27), some (aR 45), some (aI (s : Int)), some (aI t'), some (aI y), x5] [] I Q) → i < nH I s → z = (j : Int) → y = (i : Int) → j + n = nW I → t = S2 i (nW I) (cT I 45 s) + sumN j (fun w => cT I 45 s i w) → Bj MX5_tipOf 3 22 [some (aR 27), some (aR 45), some (aI (s : Int)), some (aI t), some (aI y), some (aI z)] [] I Q := by
    intro n
    induction n with
    | zero =>
      intro j i z y t hk hi hz hy hj ht
      refine b_iload rfl rfl ?_
      refine b_aload_n rfl rfl ?_
      refine b_getR (r := 3) rfl fl5_18 rfl (by decide) rfl rfl ?_
      refine b_getR (r := 4) rfl fl5_43 rfl (by decide) rfl rfl ?_
      refine b_iconst rfl (by decide) ?_
      refine b_ialdL (k := 0) rfl rfl rfl (by decide) ?_
      refine b_icmp_ge (tgt := 71) rfl rfl (fun c33 => ?_) (fun c33 => ?_)
      · refine hk _ _ ?_
        rw [ht, S2_s, show j = nW I by omega]
      · omega
    | succ n ih =>
      intro j i z y t hk hi hz hy hj ht
      subst hz
      subst hy
      have b1 := S2_b (f := cT I 45 s) (h := i) (w := j) (nh := nH I s) (nw := nW I) (by omega) (by omega) h2 w1 (fun i j hj => cT_in hp hb hj)
      have b2 := cT_in (s := s) (h := i) (w := j) hp hb (by omega)
      have hcell := hb (24 * s + 6 * i + j)
      have hwr := hp.2.1 j (by omega)
      have ec : ((s : Int) * 24 + (i : Int) * 6 + (j : Int)).toNat = 24 * s + 6 * i + j := by omega
      have hsd := sd_in (i : Int)
      have hsm : -300 ≤ sd (i : Int) * I 45 (24 * s + 6 * i + j) ∧ sd (i : Int) * I 45 (24 * s + 6 * i + j) ≤ 300 := by rcases hsd with e | e <;> rw [e] <;> omega
      refine b_iload rfl rfl ?_
      refine b_aload_n rfl rfl ?_
      refine b_getR (r := 3) rfl fl5_18 rfl (by decide) rfl rfl ?_
      refine b_getR (r := 4) rfl fl5_43 rfl (by decide) rfl rfl ?_
      refine b_iconst rfl (by decide) ?_
      refine b_ialdL (k := 0) rfl rfl rfl (by decide) ?_
      refine b_icmp_ge (tgt := 71) rfl rfl (fun c33 => ?_) (fun c33 => ?_)
      · omega
      · refine b_iload_n rfl rfl ?_
        refine b_iload rfl rfl ?_
        refine b_callSN1i (ν := MX11_side) rfl ml5_53 csX11_side (d' := 0) (by omega) (Nat.le_of_ble_eq_true rfl) ?_
        refine sp_X11_side (by omega) ?_
        refine ⟨_, rfl, ?_⟩
        refine b_aload_n rfl rfl ?_
        refine b_iload_n rfl rfl ?_
        refine b_iload rfl rfl ?_
        refine b_iload rfl rfl ?_
        refine b_callSN3i (ν := MX11_cell) rfl ml5_46 csX11_cell (d' := 0) (by omega) (Nat.le_of_ble_eq_true rfl) ?_
        refine sp_X11_cell (by omega) ?_
        refine ⟨_, rfl, ?_⟩
        refine b_iald rfl rfl (by omega) (by omega) ?_
        rw [ec]
        refine b_imulN rfl (by omega) (by omega) ?_
        refine b_aload_n rfl rfl ?_
        refine b_getR (r := 3) rfl fl5_18 rfl (by decide) rfl rfl ?_
        refine b_iload rfl rfl ?_
        refine b_callV1i (ν := MX3_net) rfl ml5_56 cvX3_net (d' := 2) (by omega) rfl (by decide) rfl (Nat.le_of_ble_eq_true rfl) ?_
        refine sp_X3_net_3 hp.1 ⟨by omega, by omega, by omega, by show (j : Int) < I 4 0; omega⟩ (by rw [Int.toNat_natCast]; omega) ?_
        rw [Int.toNat_natCast]
        refine ⟨_, rfl, ?_⟩
        refine b_imulN rfl (by unfold cT at b2; omega) (by unfold cT at b2; omega) ?_
        refine b_iaddN rfl (by unfold cT at *; omega) (by unfold cT at *; omega) ?_
        refine b_istoreX_n (F := fun z64 => [some (aR 27), some (aR 45), some (aI (s : Int)), some (aI z64), some (aI (i : Int)), some (aI (j : Int))]) rfl (by decide) (fun _ => rfl) (fun z64 ez64 => ?_)
        refine b_iincX (F := fun z65 => [some (aR 27), some (aR 45), some (aI (s : Int)), some (aI z64), some (aI (i : Int)), some (aI z65)]) rfl rfl (by omega) (by omega) (fun _ => rfl) (fun z65 ez65 => ?_)
        refine b_goto (tgt := 22) rfl rfl ?_
        refine ih (j + 1) i _ _ _ hk hi (by omega) rfl (by omega) ?_
        rw [ez64, ht]
        show _ = S2 i (nW I) (cT I 45 s) + (sumN j (fun w => cT I 45 s i w) + cT I 45 s i j)
        unfold cT
        omega
  have lp : ∀ (n i : Nat) (y t : Int) (x5 : Option AV), y = (i : Int) → i + n = nH I s → t = S2 i (nW I) (cT I 45 s) → Bj MX5_tipOf 3 5 [some (aR 27), some (aR 45), some (aI (s : Int)), some (aI t), some (aI y), x5] [] I Q := by
    intro n
    induction n with
    | zero =>
      intro i y t x5 hy hi ht
      refine b_iload rfl rfl ?_
      refine b_aload_n rfl rfl ?_
      refine b_getR (r := 3) rfl fl5_18 rfl (by decide) rfl rfl ?_
      refine b_iconst rfl (by decide) ?_
      refine b_iload_n rfl rfl ?_
      refine b_callV2i (ν := MX3_firstOf) rfl ml5_39 cvX3_firstOf (d' := 1) (by omega) rfl (by decide) rfl (Nat.le_of_ble_eq_true rfl) ?_
      refine sp_X3_firstOf_3 hp.1 ?_
      rw [e1]
      refine ⟨_, rfl, ?_⟩
      refine b_icmp_ge (tgt := 77) rfl rfl (fun c16 => ?_) (fun c16 => ?_)
      · refine b_iload_n rfl rfl ?_
        refine b_iret rfl rfl ?_
        exact qI kq (by rw [ht, show i = nH I s by omega]; rfl) rfl
      · omega
    | succ n ih =>
      intro i y t x5 hy hi ht
      refine b_iload rfl rfl ?_
      refine b_aload_n rfl rfl ?_
      refine b_getR (r := 3) rfl fl5_18 rfl (by decide) rfl rfl ?_
      refine b_iconst rfl (by decide) ?_
      refine b_iload_n rfl rfl ?_
      refine b_callV2i (ν := MX3_firstOf) rfl ml5_39 cvX3_firstOf (d' := 1) (by omega) rfl (by decide) rfl (Nat.le_of_ble_eq_true rfl) ?_
      refine sp_X3_firstOf_3 hp.1 ?_
      rw [e1]
      refine ⟨_, rfl, ?_⟩
      refine b_icmp_ge (tgt := 77) rfl rfl (fun c16 => ?_) (fun c16 => ?_)
      · omega
      · refine b_iconst rfl (by decide) ?_
        refine b_istoreX (F := fun z20 => [some (aR 27), some (aR 45), some (aI (s : Int)), some (aI t), some (aI y), some (aI z20)]) rfl (by decide) (fun _ => rfl) (fun z20 ez20 => ?_)
        refine inn (nW I) 0 i _ _ _ (fun t' x5 ht' => ?_) (by omega) (by omega) hy (by omega) (by rw [ht]; simp [sumN])
        refine b_iincX (F := fun z71 => [some (aR 27), some (aR 45), some (aI (s : Int)), some (aI t'), some (aI z71), x5]) rfl rfl (by omega) (by omega) (fun _ => rfl) (fun z71 ez71 => ?_)
        refine b_goto (tgt := 5) rfl rfl ?_
        exact ih (i + 1) _ _ _ (by omega) (by omega) ht'
  refine rj_of okX5_tipOf (Nat.le_of_ble_eq_true rfl) rfl ?_
  refine b_iconst rfl (by decide) ?_
  refine b_istoreX_n (F := fun z1 => [some (aR 27), some (aR 45), some (aI (s : Int)), some (aI z1), none, none]) rfl (by decide) (fun _ => rfl) (fun z1 ez1 => ?_)
  refine b_iconst rfl (by decide) ?_
  refine b_istoreX (F := fun z3 => [some (aR 27), some (aR 45), some (aI (s : Int)), some (aI z1), some (aI z3), none]) rfl (by decide) (fun _ => rfl) (fun z3 ez3 => ?_)
  exact lp (nH I s) 0 _ _ _ (by omega) (by omega) (by rw [ez1]; rfl)
theorem sp_X5_tipOf_53 {I : HI} {Q : Option AV → HI → Prop} {s : Nat} (hp : pOK I) (hb : crB I 53) (hs : (s : Int) < I 4 1) (kq : Q (some (aI (tT I 53 s))) I) : Rj MX5_tipOf 3 [aR 27, aR 53, aI (s : Int)] I Q := by
  obtain ⟨h1, h2, h3⟩ := nH_in hp hs
  obtain ⟨w1, w2⟩ := nW_in hp
  have hs6 : s < 6 := by have := hp.1 1 (by decide); omega
  have e1 := fo_ship (f := 6) hs
  have inn : ∀ (n j : Nat) (i : Nat) (z y t : Int), (∀ (t' : Int) (x5 : Option AV), t' = S2 (i + 1) (nW I) (cT I 53 s) → Bj MX5_tipOf 3 71 [some (aR 27), some (aR 53), some (aI (s : Int)), some (aI t'), some (aI y), x5] [] I Q) → i < nH I s → z = (j : Int) → y = (i : Int) → j + n = nW I → t = S2 i (nW I) (cT I 53 s) + sumN j (fun w => cT I 53 s i w) → Bj MX5_tipOf 3 22 [some (aR 27), some (aR 53), some (aI (s : Int)), some (aI t), some (aI y), some (aI z)] [] I Q := by
    intro n
    induction n with
    | zero =>
      intro j i z y t hk hi hz hy hj ht
      refine b_iload rfl rfl ?_
      refine b_aload_n rfl rfl ?_
      refine b_getR (r := 3) rfl fl5_18 rfl (by decide) rfl rfl ?_
      refine b_getR (r := 4) rfl fl5_43 rfl (by decide) rfl rfl ?_
      refine b_iconst rfl (by decide) ?_
      refine b_ialdL (k := 0) rfl rfl rfl (by decide) ?_
      refine b_icmp_ge (tgt := 71) rfl rfl (fun c33 => ?_) (fun c33 => ?_)
      · refine hk _ _ ?_
        rw [ht, S2_s, show j = nW I by omega]
      · omega
    | succ n ih =>
      intro j i z y t hk hi hz hy hj ht
      subst hz
      subst hy
      have b1 := S2_b (f := cT I 53 s) (h := i) (w := j) (nh := nH I s) (nw := nW I) (by omega) (by omega) h2 w1 (fun i j hj => cT_in hp hb hj)
      have b2 := cT_in (s := s) (h := i) (w := j) hp hb (by omega)
      have hcell := hb (24 * s + 6 * i + j)
      have hwr := hp.2.1 j (by omega)
      have ec : ((s : Int) * 24 + (i : Int) * 6 + (j : Int)).toNat = 24 * s + 6 * i + j := by omega
      have hsd := sd_in (i : Int)
      have hsm : -300 ≤ sd (i : Int) * I 53 (24 * s + 6 * i + j) ∧ sd (i : Int) * I 53 (24 * s + 6 * i + j) ≤ 300 := by rcases hsd with e | e <;> rw [e] <;> omega
      refine b_iload rfl rfl ?_
      refine b_aload_n rfl rfl ?_
      refine b_getR (r := 3) rfl fl5_18 rfl (by decide) rfl rfl ?_
      refine b_getR (r := 4) rfl fl5_43 rfl (by decide) rfl rfl ?_
      refine b_iconst rfl (by decide) ?_
      refine b_ialdL (k := 0) rfl rfl rfl (by decide) ?_
      refine b_icmp_ge (tgt := 71) rfl rfl (fun c33 => ?_) (fun c33 => ?_)
      · omega
      · refine b_iload_n rfl rfl ?_
        refine b_iload rfl rfl ?_
        refine b_callSN1i (ν := MX11_side) rfl ml5_53 csX11_side (d' := 0) (by omega) (Nat.le_of_ble_eq_true rfl) ?_
        refine sp_X11_side (by omega) ?_
        refine ⟨_, rfl, ?_⟩
        refine b_aload_n rfl rfl ?_
        refine b_iload_n rfl rfl ?_
        refine b_iload rfl rfl ?_
        refine b_iload rfl rfl ?_
        refine b_callSN3i (ν := MX11_cell) rfl ml5_46 csX11_cell (d' := 0) (by omega) (Nat.le_of_ble_eq_true rfl) ?_
        refine sp_X11_cell (by omega) ?_
        refine ⟨_, rfl, ?_⟩
        refine b_iald rfl rfl (by omega) (by omega) ?_
        rw [ec]
        refine b_imulN rfl (by omega) (by omega) ?_
        refine b_aload_n rfl rfl ?_
        refine b_getR (r := 3) rfl fl5_18 rfl (by decide) rfl rfl ?_
        refine b_iload rfl rfl ?_
        refine b_callV1i (ν := MX3_net) rfl ml5_56 cvX3_net (d' := 2) (by omega) rfl (by decide) rfl (Nat.le_of_ble_eq_true rfl) ?_
        refine sp_X3_net_3 hp.1 ⟨by omega, by omega, by omega, by show (j : Int) < I 4 0; omega⟩ (by rw [Int.toNat_natCast]; omega) ?_
        rw [Int.toNat_natCast]
        refine ⟨_, rfl, ?_⟩
        refine b_imulN rfl (by unfold cT at b2; omega) (by unfold cT at b2; omega) ?_
        refine b_iaddN rfl (by unfold cT at *; omega) (by unfold cT at *; omega) ?_
        refine b_istoreX_n (F := fun z64 => [some (aR 27), some (aR 53), some (aI (s : Int)), some (aI z64), some (aI (i : Int)), some (aI (j : Int))]) rfl (by decide) (fun _ => rfl) (fun z64 ez64 => ?_)
        refine b_iincX (F := fun z65 => [some (aR 27), some (aR 53), some (aI (s : Int)), some (aI z64), some (aI (i : Int)), some (aI z65)]) rfl rfl (by omega) (by omega) (fun _ => rfl) (fun z65 ez65 => ?_)
        refine b_goto (tgt := 22) rfl rfl ?_
        refine ih (j + 1) i _ _ _ hk hi (by omega) rfl (by omega) ?_
        rw [ez64, ht]
        show _ = S2 i (nW I) (cT I 53 s) + (sumN j (fun w => cT I 53 s i w) + cT I 53 s i j)
        unfold cT
        omega
  have lp : ∀ (n i : Nat) (y t : Int) (x5 : Option AV), y = (i : Int) → i + n = nH I s → t = S2 i (nW I) (cT I 53 s) → Bj MX5_tipOf 3 5 [some (aR 27), some (aR 53), some (aI (s : Int)), some (aI t), some (aI y), x5] [] I Q := by
    intro n
    induction n with
    | zero =>
      intro i y t x5 hy hi ht
      refine b_iload rfl rfl ?_
      refine b_aload_n rfl rfl ?_
      refine b_getR (r := 3) rfl fl5_18 rfl (by decide) rfl rfl ?_
      refine b_iconst rfl (by decide) ?_
      refine b_iload_n rfl rfl ?_
      refine b_callV2i (ν := MX3_firstOf) rfl ml5_39 cvX3_firstOf (d' := 1) (by omega) rfl (by decide) rfl (Nat.le_of_ble_eq_true rfl) ?_
      refine sp_X3_firstOf_3 hp.1 ?_
      rw [e1]
      refine ⟨_, rfl, ?_⟩
      refine b_icmp_ge (tgt := 77) rfl rfl (fun c16 => ?_) (fun c16 => ?_)
      · refine b_iload_n rfl rfl ?_
        refine b_iret rfl rfl ?_
        exact qI kq (by rw [ht, show i = nH I s by omega]; rfl) rfl
      · omega
    | succ n ih =>
      intro i y t x5 hy hi ht
      refine b_iload rfl rfl ?_
      refine b_aload_n rfl rfl ?_
      refine b_getR (r := 3) rfl fl5_18 rfl (by decide) rfl rfl ?_
      refine b_iconst rfl (by decide) ?_
      refine b_iload_n rfl rfl ?_
      refine b_callV2i (ν := MX3_firstOf) rfl ml5_39 cvX3_firstOf (d' := 1) (by omega) rfl (by decide) rfl (Nat.le_of_ble_eq_true rfl) ?_
      refine sp_X3_firstOf_3 hp.1 ?_
      rw [e1]
      refine ⟨_, rfl, ?_⟩
      refine b_icmp_ge (tgt := 77) rfl rfl (fun c16 => ?_) (fun c16 => ?_)
      · omega
      · refine b_iconst rfl (by decide) ?_
        refine b_istoreX (F := fun z20 => [some (aR 27), some (aR 53), some (aI (s : Int)), some (aI t), some (aI y), some (aI z20)]) rfl (by decide) (fun _ => rfl) (fun z20 ez20 => ?_)
        refine inn (nW I) 0 i _ _ _ (fun t' x5 ht' => ?_) (by omega) (by omega) hy (by omega) (by rw [ht]; simp [sumN])
        refine b_iincX (F := fun z71 => [some (aR 27), some (aR 53), some (aI (s : Int)), some (aI t'), some (aI z71), x5]) rfl rfl (by omega) (by omega) (fun _ => rfl) (fun z71 ez71 => ?_)
        refine b_goto (tgt := 5) rfl rfl ?_
        exact ih (i + 1) _ _ _ (by omega) (by omega) ht'
  refine rj_of okX5_tipOf (Nat.le_of_ble_eq_true rfl) rfl ?_
  refine b_iconst rfl (by decide) ?_
  refine b_istoreX_n (F := fun z1 => [some (aR 27), some (aR 53), some (aI (s : Int)), some (aI z1), none, none]) rfl (by decide) (fun _ => rfl) (fun z1 ez1 => ?_)
  refine b_iconst rfl (by decide) ?_
  refine b_istoreX (F := fun z3 => [some (aR 27), some (aR 53), some (aI (s : Int)), some (aI z1), some (aI z3), none]) rfl (by decide) (fun _ => rfl) (fun z3 ez3 => ?_)
  exact lp (nH I s) 0 _ _ _ (by omega) (by omega) (by rw [ez1]; rfl)
