/-! ===== Quays: which ships lie where ===== -/
theorem or_bit_ : ∀ b : Fin 6, ∀ t : Fin 64, iOr (t.val : Int) (iShl 1 (b.val : Int)) = ((t.val ||| 2 ^ b.val : Nat) : Int) := by decide +kernel
theorem or_bit {b t : Nat} (hb : b < 6) (ht : t < 64) : iOr (t : Int) (iShl 1 (b : Int)) = ((t ||| 2 ^ b : Nat) : Int) := or_bit_ ⟨b, hb⟩ ⟨t, ht⟩
theorem and_not_ : ∀ f : Fin 64, ∀ t : Fin 64, iAnd (f.val : Int) (iXor (t.val : Int) (-1)) = ((f.val &&& (63 - t.val) : Nat) : Int) := by decide +kernel
theorem and_not {f t : Nat} (hf : f < 64) (ht : t < 64) : iAnd (f : Int) (iXor (t : Int) (-1)) = ((f &&& (63 - t) : Nat) : Int) := and_not_ ⟨f, hf⟩ ⟨t, ht⟩
def frB (f t b : Nat) : Prop := f.testBit b = true ∧ t.testBit b = false
theorem fr_bit {f t b : Nat} (hf : f < 64) (ht : t < 64) (hb : b < 6) : (iAnd (iShr ((f &&& (63 - t) : Nat) : Int) (b : Int)) 1 = 1 ↔ frB f t b) := by
  have hlt : f &&& (63 - t) < 64 := Nat.lt_of_le_of_lt Nat.and_le_left hf
  rw [iShr_p _ (by unfold in32; omega) (by omega), iAnd_1]
  have e : ((f &&& (63 - t) : Nat) : Int) / 2 ^ b % 2 = (((f &&& (63 - t)) / 2 ^ b % 2 : Nat) : Int) := by push_cast; rfl
  rw [e]
  have h1 : (f &&& (63 - t)).testBit b = decide ((f &&& (63 - t)) / 2 ^ b % 2 = 1) := Nat.testBit_eq_decide_div_mod_eq
  have h2 : (f &&& (63 - t)).testBit b = (f.testBit b && !t.testBit b) := by
    rw [Nat.testBit_and, show 63 - t = 2 ^ 6 - (t + 1) by omega, Nat.testBit_two_pow_sub_succ (by omega)]
    simp [hb]
  rw [h2] at h1
  unfold frB
  constructor
  · intro h
    have : (f &&& (63 - t)) / 2 ^ b % 2 = 1 := by omega
    rw [decide_eq_true this] at h1
    simpa using h1
  · intro h
    rw [h.1, h.2] at h1
    have := of_decide_eq_true h1.symm
    omega
theorem or_lt {t b : Nat} (ht : t < 64) (hb : b < 6) : t ||| 2 ^ b < 64 := Nat.or_lt_two_pow (n := 6) ht (Nat.pow_lt_pow_right (by decide) hb)
noncomputable def mb (g : Nat → Int) (f t : Nat) : Nat → Int
  | 0 => g t
  | b + 1 => pI (frB f t b) (max (mb g f t b) (1 + g (t ||| 2 ^ b))) (mb g f t b)
noncomputable def mW (ft : Nat → Nat) : Nat → Nat → Nat → Int
  | 0, _, _ => 0
  | f + 1, s, t => mb (mW ft f (s + 1)) (ft s) t 6
theorem mb_in {g : Nat → Int} {f t : Nat} {B : Int} (h : ∀ t, 0 ≤ g t ∧ g t ≤ B) (b : Nat) : 0 ≤ mb g f t b ∧ mb g f t b ≤ B + 1 := by
  induction b with
  | zero => have := h t; show 0 ≤ g t ∧ g t ≤ _; omega
  | succ b ih =>
    have h1 := h (t ||| 2 ^ b)
    show 0 ≤ pI (frB f t b) _ _ ∧ pI (frB f t b) _ _ ≤ _
    by_cases e : frB f t b
    · rw [pI_1 e]; omega
    · rw [pI_0 e]; omega
theorem mW_in {ft : Nat → Nat} (f s t : Nat) : 0 ≤ mW ft f s t ∧ mW ft f s t ≤ f := by
  induction f generalizing s t with
  | zero => show (0 : Int) ≤ 0 ∧ (0 : Int) ≤ _; omega
  | succ f ih =>
    have := mb_in (g := mW ft f (s + 1)) (f := ft s) (t := t) (B := f) (fun t => ih (s + 1) t) 6
    show 0 ≤ mb (mW ft f (s + 1)) (ft s) t 6 ∧ mb (mW ft f (s + 1)) (ft s) t 6 ≤ _
    omega
theorem sp_X4_mostFrom {I : HI} {Q : Option AV → HI → Prop} {s t f : Nat} {g : Nat → Int} (hs : s < 6) (ht : t < 64) (hf : I 42 s = (f : Int)) (hf6 : f < 64) (hg : ∀ t, t < 64 → I 43 (64 * (s + 1) + t) = g t) (hb : ∀ t, 0 ≤ g t ∧ g t ≤ 10) (kq : Q (some (aI (mb g f t 6))) I) : Rj MX4_mostFrom 1 [aR 40, aI (s : Int), aI (t : Int)] I Q := by
  refine rj_of okX4_mostFrom (Nat.le_of_ble_eq_true rfl) rfl ?_
  have lp : ∀ (n b : Nat) (w x z : Int), x = mb g f t b → w = 64 * ((s : Int) + 1) → z = (b : Int) → b + n = 6 → Bj MX4_mostFrom 1 32 [some (aR 40), some (aI (s : Int)), some (aI (t : Int)), some (aI w), some (aI x), some (aI ((f &&& (63 - t) : Nat) : Int)), some (aI z)] [] I Q := by
    intro n
    induction n with
    | zero =>
      intro b w x z hx hw hz hi
      have e : b = 6 := by omega
      subst e
      refine b_iload rfl rfl ?_
      refine b_bipush rfl (by decide) ?_
      refine b_icmp_ge (tgt := 78) rfl rfl (fun c36 => ?_) (fun c36 => ?_)
      · refine b_iload rfl rfl ?_
        refine b_iret rfl rfl ?_
        exact qI kq hx.symm rfl
      · omega
    | succ n ih =>
      intro b w x z hx hw hz hi
      subst hz
      have hfr := fr_bit hf6 ht (show b < 6 by omega)
      have hol := or_lt ht (show b < 6 by omega)
      have hgo := hg _ hol
      have hgb := hb (t ||| 2 ^ b)
      have hxb := mb_in (f := f) (t := t) hb b
      have m1 : frB f t b → mb g f t (b + 1) = max (mb g f t b) (1 + g (t ||| 2 ^ b)) := fun e => pI_1 e
      have m0 : ¬ frB f t b → mb g f t (b + 1) = mb g f t b := fun e => pI_0 e
      refine b_iload rfl rfl ?_
      refine b_bipush rfl (by decide) ?_
      refine b_icmp_ge (tgt := 78) rfl rfl (fun c36 => ?_) (fun c36 => ?_)
      · omega
      · refine b_iload rfl rfl ?_
        refine b_iload rfl rfl ?_
        refine b_ishr rfl ?_
        refine b_iconst rfl (by decide) ?_
        refine b_iand rfl ?_
        refine b_iconst rfl (by decide) ?_
        refine b_icmp_ne (tgt := 72) rfl rfl (fun c47 => ?_) (fun c47 => ?_)
        · refine b_iincX (F := fun z72 => [some (aR 40), some (aI (s : Int)), some (aI (t : Int)), some (aI w), some (aI x), some (aI ((f &&& (63 - t) : Nat) : Int)), some (aI z72)]) rfl rfl (by omega) (by omega) (fun _ => rfl) (fun z72 ez72 => ?_)
          refine b_goto (tgt := 32) rfl rfl ?_
          first
          | exact ih (b + 1) _ _ _ (by rw [m1 (hfr.1 (by omega)), ← hx]; omega) hw (by omega) (by omega)
          | exact ih (b + 1) _ _ _ (by rw [m0 (fun e => by have := hfr.2 e; omega)]; exact hx) hw (by omega) (by omega)
        · refine b_iload rfl rfl ?_
          refine b_iconst rfl (by decide) ?_
          refine b_aload_n rfl rfl ?_
          refine b_getR (r := 43) rfl fl4_18 rfl (by decide) rfl rfl ?_
          refine b_iload_n rfl rfl ?_
          refine b_iload_n rfl rfl ?_
          refine b_iconst rfl (by decide) ?_
          refine b_iload rfl rfl ?_
          refine b_ishl rfl ?_
          refine b_ior rfl ?_
          rw [or_bit (by omega) ht]
          refine b_iaddN rfl (by omega) (by omega) ?_
          refine b_iald rfl rfl (by omega) (by omega) ?_
          rw [show (w + ((t ||| 2 ^ b : Nat) : Int)).toNat = 64 * (s + 1) + (t ||| 2 ^ b) by omega, hgo]
          refine b_iaddN rfl (by omega) (by omega) ?_
          refine b_mmax rfl ml4_59 (by omega) (Nat.le_of_ble_eq_true rfl) ?_
          refine b_istoreX (F := fun z70 => [some (aR 40), some (aI (s : Int)), some (aI (t : Int)), some (aI w), some (aI z70), some (aI ((f &&& (63 - t) : Nat) : Int)), some (aI (b : Int))]) rfl (by decide) (fun _ => rfl) (fun z70 ez70 => ?_)
          refine b_iincX (F := fun z72 => [some (aR 40), some (aI (s : Int)), some (aI (t : Int)), some (aI w), some (aI z70), some (aI ((f &&& (63 - t) : Nat) : Int)), some (aI z72)]) rfl rfl (by omega) (by omega) (fun _ => rfl) (fun z72 ez72 => ?_)
          refine b_goto (tgt := 32) rfl rfl ?_
          first
          | exact ih (b + 1) _ _ _ (by rw [m1 (hfr.1 (by omega)), ← hx]; omega) hw (by omega) (by omega)
          | exact ih (b + 1) _ _ _ (by rw [m0 (fun e => by have := hfr.2 e; omega)]; exact hx) hw (by omega) (by omega)
  refine b_iload_n rfl rfl ?_
  refine b_iconst rfl (by decide) ?_
  refine b_iaddN rfl (by omega) (by omega) ?_
  refine b_bipush rfl (by decide) ?_
  refine b_imulN rfl (by omega) (by omega) ?_
  refine b_istoreX_n (F := fun z6 => [some (aR 40), some (aI (s : Int)), some (aI (t : Int)), some (aI z6), none, none, none]) rfl (by decide) (fun _ => rfl) (fun z6 ez6 => ?_)
  refine b_aload_n rfl rfl ?_
  refine b_getR (r := 43) rfl fl4_18 rfl (by decide) rfl rfl ?_
  refine b_iload_n rfl rfl ?_
  refine b_iload_n rfl rfl ?_
  refine b_iaddN rfl (by omega) (by omega) ?_
  refine b_iald rfl rfl (by omega) (by omega) ?_
  rw [show (z6 + (t : Int)).toNat = 64 * (s + 1) + t by omega, hg _ ht]
  refine b_istoreX (F := fun z15 => [some (aR 40), some (aI (s : Int)), some (aI (t : Int)), some (aI z6), some (aI z15), none, none]) rfl (by decide) (fun _ => rfl) (fun z15 ez15 => ?_)
  refine b_aload_n rfl rfl ?_
  refine b_getR (r := 42) rfl fl4_15 rfl (by decide) rfl rfl ?_
  refine b_iload_n rfl rfl ?_
  refine b_iald rfl rfl (by omega) (by omega) ?_
  rw [Int.toNat_natCast, hf]
  refine b_iload_n rfl rfl ?_
  refine b_iconst rfl (by decide) ?_
  refine b_ixor rfl ?_
  refine b_iand rfl ?_
  rw [and_not hf6 ht]
  refine b_istoreX (F := fun z27 => [some (aR 40), some (aI (s : Int)), some (aI (t : Int)), some (aI z6), some (aI z15), some (aI z27), none]) rfl (by decide) (fun _ => rfl) (fun z27 ez27 => ?_)
  refine b_iconst rfl (by decide) ?_
  refine b_istoreX (F := fun z30 => [some (aR 40), some (aI (s : Int)), some (aI (t : Int)), some (aI z6), some (aI z15), some (aI z27), some (aI z30)]) rfl (by decide) (fun _ => rfl) (fun z30 ez30 => ?_)
  subst ez27
  exact lp 6 0 _ _ _ (by show _ = g t; omega) (by omega) (by omega) (by omega)
def fbP (g : Nat → Int) (v : Int) (f t : Nat) : Nat → Prop := fun b => frB f t b ∧ 1 + g (t ||| 2 ^ b) = v
theorem sp_X4_firstBest {I : HI} {Q : Option AV → HI → Prop} {s t f : Nat} {g : Nat → Int} {v : Int} (hs : s < 6) (ht : t < 64) (hf : I 42 s = (f : Int)) (hf6 : f < 64) (hg : ∀ t, t < 64 → I 43 (64 * (s + 1) + t) = g t) (hb : ∀ t, 0 ≤ g t ∧ g t ≤ 10) (hv : I 43 (64 * s + t) = v) (kq : Q (some (aI (fP (fbP g v f t) 6 0))) I) : Rj MX4_firstBest 0 [aR 40, aI (s : Int), aI (t : Int)] I Q := by
  refine rj_of okX4_firstBest (Nat.le_of_ble_eq_true rfl) rfl ?_
  have lp : ∀ (n b : Nat) (w z : Int), (Q (some (aI (fP (fbP g v f t) n b))) I) → w = 64 * ((s : Int) + 1) → z = (b : Int) → b + n = 6 → Bj MX4_firstBest 0 22 [some (aR 40), some (aI (s : Int)), some (aI (t : Int)), some (aI w), some (aI ((f &&& (63 - t) : Nat) : Int)), some (aI z)] [] I Q := by
    intro n
    induction n with
    | zero =>
      intro b w z hk hw hz hi
      refine b_iload rfl rfl ?_
      refine b_bipush rfl (by decide) ?_
      refine b_icmp_ge (tgt := 78) rfl rfl (fun c26 => ?_) (fun c26 => ?_)
      · refine b_iconst rfl (by decide) ?_
        refine b_iret rfl rfl ?_
        exact hk
      · omega
    | succ n ih =>
      intro b w z hk hw hz hi
      subst hz
      have hk' : Q (some (aI (pI (fbP g v f t b) (b : Int) (fP (fbP g v f t) n (b + 1))))) I := hk
      have hfr := fr_bit hf6 ht (show b < 6 by omega)
      have hol := or_lt ht (show b < 6 by omega)
      have hgo := hg _ hol
      have hgb := hb (t ||| 2 ^ b)
      refine b_iload rfl rfl ?_
      refine b_bipush rfl (by decide) ?_
      refine b_icmp_ge (tgt := 78) rfl rfl (fun c26 => ?_) (fun c26 => ?_)
      · omega
      · refine b_iload rfl rfl ?_
        refine b_iload rfl rfl ?_
        refine b_ishr rfl ?_
        refine b_iconst rfl (by decide) ?_
        refine b_iand rfl ?_
        refine b_iconst rfl (by decide) ?_
        refine b_icmp_ne (tgt := 72) rfl rfl (fun c37 => ?_) (fun c37 => ?_)
        · refine b_iincX (F := fun z72 => [some (aR 40), some (aI (s : Int)), some (aI (t : Int)), some (aI w), some (aI ((f &&& (63 - t) : Nat) : Int)), some (aI z72)]) rfl rfl (by omega) (by omega) (fun _ => rfl) (fun z72 ez72 => ?_)
          refine b_goto (tgt := 22) rfl rfl ?_
          first
          | exact ih (b + 1) _ _ (qI hk' (pI_0 (fun e => by have := hfr.2 e.1; omega)) rfl) hw (by omega) (by omega)
          | exact ih (b + 1) _ _ (qI hk' (pI_0 (fun e => by have := e.2; omega)) rfl) hw (by omega) (by omega)
        · refine b_iconst rfl (by decide) ?_
          refine b_aload_n rfl rfl ?_
          refine b_getR (r := 43) rfl fl4_18 rfl (by decide) rfl rfl ?_
          refine b_iload_n rfl rfl ?_
          refine b_iload_n rfl rfl ?_
          refine b_iconst rfl (by decide) ?_
          refine b_iload rfl rfl ?_
          refine b_ishl rfl ?_
          refine b_ior rfl ?_
          rw [or_bit (by omega) ht]
          refine b_iaddN rfl (by omega) (by omega) ?_
          refine b_iald rfl rfl (by omega) (by omega) ?_
          rw [show (w + ((t ||| 2 ^ b : Nat) : Int)).toNat = 64 * (s + 1) + (t ||| 2 ^ b) by omega, hgo]
          refine b_iaddN rfl (by omega) (by omega) ?_
          refine b_aload_n rfl rfl ?_
          refine b_getR (r := 43) rfl fl4_18 rfl (by decide) rfl rfl ?_
          refine b_iload_n rfl rfl ?_
          refine b_bipush rfl (by decide) ?_
          refine b_imulN rfl (by omega) (by omega) ?_
          refine b_iload_n rfl rfl ?_
          refine b_iaddN rfl (by omega) (by omega) ?_
          refine b_iald rfl rfl (by omega) (by omega) ?_
          rw [show ((s : Int) * 64 + (t : Int)).toNat = 64 * s + t by omega, hv]
          refine b_icmp_ne (tgt := 72) rfl rfl (fun c66 => ?_) (fun c66 => ?_)
          · refine b_iincX (F := fun z72 => [some (aR 40), some (aI (s : Int)), some (aI (t : Int)), some (aI w), some (aI ((f &&& (63 - t) : Nat) : Int)), some (aI z72)]) rfl rfl (by omega) (by omega) (fun _ => rfl) (fun z72 ez72 => ?_)
            refine b_goto (tgt := 22) rfl rfl ?_
            first
            | exact ih (b + 1) _ _ (qI hk' (pI_0 (fun e => by have := hfr.2 e.1; omega)) rfl) hw (by omega) (by omega)
            | exact ih (b + 1) _ _ (qI hk' (pI_0 (fun e => by have := e.2; omega)) rfl) hw (by omega) (by omega)
          · refine b_iload rfl rfl ?_
            refine b_iret rfl rfl ?_
            exact qI hk' (pI_1 ⟨hfr.1 (by omega), by omega⟩) rfl
  refine b_iload_n rfl rfl ?_
  refine b_iconst rfl (by decide) ?_
  refine b_iaddN rfl (by omega) (by omega) ?_
  refine b_bipush rfl (by decide) ?_
  refine b_imulN rfl (by omega) (by omega) ?_
  refine b_istoreX_n (F := fun z6 => [some (aR 40), some (aI (s : Int)), some (aI (t : Int)), some (aI z6), none, none]) rfl (by decide) (fun _ => rfl) (fun z6 ez6 => ?_)
  refine b_aload_n rfl rfl ?_
  refine b_getR (r := 42) rfl fl4_15 rfl (by decide) rfl rfl ?_
  refine b_iload_n rfl rfl ?_
  refine b_iald rfl rfl (by omega) (by omega) ?_
  rw [Int.toNat_natCast, hf]
  refine b_iload_n rfl rfl ?_
  refine b_iconst rfl (by decide) ?_
  refine b_ixor rfl ?_
  refine b_iand rfl ?_
  rw [and_not hf6 ht]
  refine b_istoreX (F := fun z17 => [some (aR 40), some (aI (s : Int)), some (aI (t : Int)), some (aI z6), some (aI z17), none]) rfl (by decide) (fun _ => rfl) (fun z17 ez17 => ?_)
  refine b_iconst rfl (by decide) ?_
  refine b_istoreX (F := fun z20 => [some (aR 40), some (aI (s : Int)), some (aI (t : Int)), some (aI z6), some (aI z17), some (aI z20)]) rfl (by decide) (fun _ => rfl) (fun z20 ez20 => ?_)
  subst ez17
  exact lp 6 0 _ _ kq (by omega) (by omega) (by omega)
def nB (I : HI) : Nat := (I 4 2).toNat
theorem nB_in {I : HI} (hp : pOK I) : nB I ≤ 6 ∧ (nB I : Int) = I 4 2 := by
  have := hp.1 2 (by decide)
  unfold nB
  omega
def sbP (I : HI) (C : Nat → List Int) (h : Int) (s : Nat) : Nat → Prop := fun b => SF I C h 32 s b
noncomputable def ftN (I : HI) (C : Nat → List Int) (h : Int) (s : Nat) : Nat := bN (sbP I C h s) (nB I)
theorem ftN_lt {I : HI} {C : Nat → List Int} {h : Int} {s : Nat} (hp : pOK I) : ftN I C h s < 64 := by
  have h1 := bN_lt (p := sbP I C h s) (nB I)
  have h2 : 2 ^ nB I ≤ 2 ^ 6 := Nat.pow_le_pow_right (by decide) (nB_in hp).1
  have e : 2 ^ 6 = 64 := by decide
  unfold ftN
  omega
theorem sp_X4_berthsThatFit {I J : HI} {Q : Option AV → HI → Prop} {C : Nat → List Int} {h : Int} {s : Nat} (hP : CP I C) (hb5 : ∀ k, 0 ≤ I 32 k ∧ I 32 k ≤ 50) (hL : Lk I J C h 32 s) (hs : (s : Int) < I 4 1) (kq : Q (some (aI (ftN I C h s : Int))) J) : Rj MX4_berthsThatFit 4 [aR 40, aI (s : Int)] J Q := by
  obtain ⟨n6, n1⟩ := nB_in hP.1
  have e4 : J 4 2 = I 4 2 := hL.1.1.ap (by decide) (by decide)
  refine rj_of okX4_berthsThatFit (Nat.le_of_ble_eq_true rfl) rfl ?_
  have lp : ∀ (n i : Nat) (y z : Int), z = (i : Int) → i + n = nB I → y = ((bN (sbP I C h s) i : Nat) : Int) → Bj MX4_berthsThatFit 4 4 [some (aR 40), some (aI (s : Int)), some (aI y), some (aI z)] [] J Q := by
    intro n
    induction n with
    | zero =>
      intro i y z hz hi hy
      refine b_iload_n rfl rfl ?_
      refine b_aload_n rfl rfl ?_
      refine b_getR (r := 3) rfl fl4_21 rfl (by decide) rfl rfl ?_
      refine b_getR (r := 4) rfl fl4_35 rfl (by decide) rfl rfl ?_
      refine b_iconst rfl (by decide) ?_
      refine b_ialdL (k := 2) rfl rfl rfl (by decide) ?_
      refine b_icmp_ge (tgt := 41) rfl rfl (fun c14 => ?_) (fun c14 => ?_)
      · refine b_iload_n rfl rfl ?_
        refine b_iret rfl rfl ?_
        have ei : i = nB I := by omega
        subst ei
        exact qI kq hy.symm rfl
      · omega
    | succ n ih =>
      intro i y z hz hi hy
      subst hz
      refine b_iload_n rfl rfl ?_
      refine b_aload_n rfl rfl ?_
      refine b_getR (r := 3) rfl fl4_21 rfl (by decide) rfl rfl ?_
      refine b_getR (r := 4) rfl fl4_35 rfl (by decide) rfl rfl ?_
      refine b_iconst rfl (by decide) ?_
      refine b_ialdL (k := 2) rfl rfl rfl (by decide) ?_
      refine b_icmp_ge (tgt := 41) rfl rfl (fun c14 => ?_) (fun c14 => ?_)
      · omega
      · refine b_aload_n rfl rfl ?_
        refine b_getR (r := 27) rfl fl4_25 rfl (by decide) rfl rfl ?_
        refine b_iload_n rfl rfl ?_
        refine b_iload_n rfl rfl ?_
        refine b_callV2i (ν := MX5_safe) rfl ml4_55 cvX5_safe (d' := 3) (by omega) rfl (by decide) rfl (Nat.le_of_ble_eq_true rfl) ?_
        refine spa_safe hP hL hs (by omega) (by have := t_in hP.1 hb5 hs; omega) (fun hf => ?_) (fun hf => ?_)
        · refine ⟨_, rfl, ?_⟩
          refine b_if_eq (tgt := 35) rfl rfl (fun z => absurd z (by decide)) (fun _ => ?_)
          refine b_iload_n rfl rfl ?_
          refine b_iconst rfl (by decide) ?_
          refine b_iload_n rfl rfl ?_
          refine b_ishl rfl ?_
          refine b_ior rfl ?_
          refine b_istoreX_n (F := fun z34 => [some (aR 40), some (aI (s : Int)), some (aI z34), some (aI (i : Int))]) rfl (by decide) (fun _ => rfl) (fun z34 ez34 => ?_)
          refine b_iincX (F := fun z35 => [some (aR 40), some (aI (s : Int)), some (aI z34), some (aI z35)]) rfl rfl (by omega) (by omega) (fun _ => rfl) (fun z35 ez35 => ?_)
          refine b_goto (tgt := 4) rfl rfl ?_
          first
          | exact ih (i + 1) _ _ (by omega) (by omega) (by rw [bN_0 (p := sbP I C h s) hf]; exact hy)
          | exact ih (i + 1) _ _ (by omega) (by omega) (by rw [bN_1 (p := sbP I C h s) hf, ← or_new (by omega) (bN_lt i), ← hy]; assumption)
        · refine ⟨_, rfl, ?_⟩
          refine b_if_eq (tgt := 35) rfl rfl (fun _ => ?_) (fun z => absurd z (by decide))
          refine b_iincX (F := fun z35 => [some (aR 40), some (aI (s : Int)), some (aI y), some (aI z35)]) rfl rfl (by omega) (by omega) (fun _ => rfl) (fun z35 ez35 => ?_)
          refine b_goto (tgt := 4) rfl rfl ?_
          first
          | exact ih (i + 1) _ _ (by omega) (by omega) (by rw [bN_0 (p := sbP I C h s) hf]; exact hy)
          | exact ih (i + 1) _ _ (by omega) (by omega) (by rw [bN_1 (p := sbP I C h s) hf, ← or_new (by omega) (bN_lt i), ← hy]; assumption)
  refine b_iconst rfl (by decide) ?_
  refine b_istoreX_n (F := fun z1 => [some (aR 40), some (aI (s : Int)), some (aI z1), none]) rfl (by decide) (fun _ => rfl) (fun z1 ez1 => ?_)
  refine b_iconst rfl (by decide) ?_
  refine b_istoreX_n (F := fun z3 => [some (aR 40), some (aI (s : Int)), some (aI z1), some (aI z3)]) rfl (by decide) (fun _ => rfl) (fun z3 ez3 => ?_)
  exact lp (nB I) 0 _ _ (by omega) (by omega) (by show _ = ((0 : Nat) : Int); omega)
def qF (C : Nat → List Int) (I : HI) (h : Int) (i : Nat) : HI → Prop := fun J => ∃ B : HI, (∀ q, q ≠ 42 → B q = I q) ∧ (∀ k, k < i → B 42 k = (ftN I C h k : Int)) ∧ At B J C h
noncomputable def chN (ft : Nat → Nat) (n : Nat) : Nat → Int × Nat
  | 0 => (-1, 0)
  | s + 1 => (fP (fbP (mW ft (n - (s + 1)) (s + 1)) (mW ft (n - s) s (chN ft n s).2) (ft s) (chN ft n s).2) 6 0, if fP (fbP (mW ft (n - (s + 1)) (s + 1)) (mW ft (n - s) s (chN ft n s).2) (ft s) (chN ft n s).2) 6 0 = -1 then (chN ft n s).2 else (chN ft n s).2 ||| 2 ^ (fP (fbP (mW ft (n - (s + 1)) (s + 1)) (mW ft (n - s) s (chN ft n s).2) (ft s) (chN ft n s).2) 6 0).toNat)
theorem fP_in {p : Nat → Prop} (n i : Nat) : fP p n i = -1 ∨ ((i : Int) ≤ fP p n i ∧ fP p n i < i + n) := by
  induction n generalizing i with
  | zero => exact Or.inl rfl
  | succ n ih =>
    show pI (p i) (i : Int) (fP p n (i + 1)) = -1 ∨ ((i : Int) ≤ pI (p i) (i : Int) (fP p n (i + 1)) ∧ pI (p i) (i : Int) (fP p n (i + 1)) < _)
    by_cases h : p i
    · rw [pI_1 h]; omega
    · rw [pI_0 h]
      have := ih (i + 1)
      omega
theorem chN_lt {ft : Nat → Nat} {n : Nat} (s : Nat) : (chN ft n s).2 < 64 := by
  induction s with
  | zero => show 0 < 64; omega
  | succ s ih =>
    show (if fP _ 6 0 = -1 then (chN ft n s).2 else (chN ft n s).2 ||| 2 ^ (fP _ 6 0).toNat) < 64
    generalize hv : fP _ 6 0 = v
    have := fP_in (p := fbP (mW ft (n - (s + 1)) (s + 1)) (mW ft (n - s) s (chN ft n s).2) (ft s) (chN ft n s).2) 6 0
    rw [hv] at this
    split
    · exact ih
    · exact or_lt ih (by omega)
theorem or_zero_f : ∀ t : Fin 64, iOr (t.val : Int) 0 = (t.val : Int) := by decide +kernel
theorem or_zero_ {t : Nat} (ht : t < 64) : iOr (t : Int) 0 = (t : Int) := or_zero_f ⟨t, ht⟩
def qS (I K : HI) : Prop := (∀ q, q ≠ 28 → q ≠ 29 → q ≠ 41 → q ≠ 42 → q ≠ 43 → K q = I q) ∧ seB K
theorem sp_X4_fill {I : HI} {Q : Option AV → HI → Prop} {C : Nat → List Int} {h : Int} (hW : WF I C) (hh : 0 ≤ h ∧ h ≤ 100000) (kq : ∀ K, qS I K → (∀ s, s < nS I → K 41 s = (chN (ftN I C h) (nS I) (s + 1)).1) → Q (some (aI (mW (ftN I C h) (nS I) 0 0))) K) : Rj MX4_fill 5 [aR 40, aR 32, aI h] I Q := by
  obtain ⟨n6, n1⟩ := nS_in hW.1.1
  have hf6 : ∀ s, ftN I C h s < 64 := fun s => ftN_lt hW.1.1
  have hmb : ∀ f s, f ≤ 6 → ∀ t, 0 ≤ mW (ftN I C h) f s t ∧ mW (ftN I C h) f s t ≤ 10 := fun f s hf t => by have := mW_in (ft := ftN I C h) f s t; omega
  generalize hft : ftN I C h = ft at *
  refine rj_of okX4_fill (Nat.le_of_ble_eq_true rfl) rfl ?_
  have ch : ∀ (n i : Nat) (K : HI) (y z : Int), qS I K → (∀ s, s < nS I → K 42 s = (ft s : Int)) → (∀ s, s ≤ nS I → ∀ t, t < 64 → K 43 (64 * s + t) = mW ft (nS I - s) s t) → (∀ s, s < i → K 41 s = (chN ft (nS I) (s + 1)).1) → y = ((chN ft (nS I) i).2 : Int) → z = (i : Int) → i + n = nS I → Bj MX4_fill 5 144 [some (aR 40), some (aR 32), some (aI h), some (aI (nS I : Int)), some (aI y), some (aI z)] [] K Q := by
    intro n
    induction n with
    | zero =>
      intro i K y z hq h42 h43 h41 hy hz hi
      have e0 := h43 0 (by omega) 0 (by omega)
      have ei : i = nS I := by omega
      refine b_iload rfl rfl ?_
      refine b_iload_n rfl rfl ?_
      refine b_icmp_ge (tgt := 200) rfl rfl (fun c147 => ?_) (fun c147 => ?_)
      · refine b_aload_n rfl rfl ?_
        refine b_getR (r := 43) rfl fl4_18 rfl (by decide) rfl rfl ?_
        refine b_iconst rfl (by decide) ?_
        refine b_ialdL (k := 0) rfl rfl rfl (by decide) ?_
        refine b_iret rfl rfl ?_
        exact qI (kq K hq (fun s hs => h41 s (by omega))) e0.symm rfl
      · omega
    | succ n ih =>
      intro i K y z hq h42 h43 h41 hy hz hi
      subst hz
      have hlt := chN_lt (ft := ft) (n := nS I) i
      have hv := h43 i (by omega) _ hlt
      have hch : (chN ft (nS I) (i + 1)).1 = fP (fbP (mW ft (nS I - (i + 1)) (i + 1)) (mW ft (nS I - i) i (chN ft (nS I) i).2) (ft i) (chN ft (nS I) i).2) 6 0 := rfl
      have hch2 : (chN ft (nS I) (i + 1)).2 = if (chN ft (nS I) (i + 1)).1 = -1 then (chN ft (nS I) i).2 else (chN ft (nS I) i).2 ||| 2 ^ ((chN ft (nS I) (i + 1)).1).toNat := rfl
      have hin := fP_in (p := fbP (mW ft (nS I - (i + 1)) (i + 1)) (mW ft (nS I - i) i (chN ft (nS I) i).2) (ft i) (chN ft (nS I) i).2) 6 0
      rw [← hch] at hin
      generalize hc1 : (chN ft (nS I) (i + 1)).1 = c at *
      subst hy
      have hnx : ∀ (y' z' : Int), y' = ((chN ft (nS I) (i + 1)).2 : Int) → z' = (i : Int) + 1 → Bj MX4_fill 5 144 [some (aR 40), some (aR 32), some (aI h), some (aI (nS I : Int)), some (aI y'), some (aI z')] [] (up K 41 i c) Q := by
        intro y' z' g1 g2
        refine ih (i + 1) _ _ _ ⟨fun q a b c1 d e => ?_, ?_⟩ (fun s hs => ?_) (fun s hs t ht => ?_) (fun s hs => ?_) g1 (by omega) (by omega)
        · rw [up_cell c1]; exact hq.1 q a b c1 d e
        · have := hq.2; unfold seB at *; rw [up_cell (by decide)]; exact this
        · rw [up_cell (by decide)]; exact h42 s hs
        · rw [up_cell (by decide)]; exact h43 s hs t ht
        · rw [up_ap]
          by_cases e : s = i
          · subst e; rw [if_pos ⟨rfl, rfl⟩]; exact hc1.symm
          · rw [if_neg (fun z => e z.2)]; exact h41 s (by omega)
      clear ih
      refine b_iload rfl rfl ?_
      refine b_iload_n rfl rfl ?_
      refine b_icmp_ge (tgt := 200) rfl rfl (fun c147 => ?_) (fun c147 => ?_)
      · omega
      · refine b_aload_n rfl rfl ?_
        refine b_getR (r := 41) rfl fl4_9 rfl (by decide) rfl rfl ?_
        refine b_iload rfl rfl ?_
        refine b_aload_n rfl rfl ?_
        refine b_iload rfl rfl ?_
        refine b_iload rfl rfl ?_
        refine b_callV2i (ν := MX4_firstBest) rfl ml4_52 cvX4_firstBest (d' := 0) (by omega) rfl (by decide) rfl (Nat.le_of_ble_eq_true rfl) ?_
        refine sp_X4_firstBest (by omega) hlt (h42 i (by omega)) (hf6 i) (fun t ht => h43 (i + 1) (by omega) t ht) (hmb _ _ (by omega)) hv ?_
        rw [← hch]
        refine ⟨_, rfl, ?_⟩
        refine b_iast rfl rfl (by omega) (by omega) ?_
        rw [Int.toNat_natCast]
        refine b_iload rfl rfl ?_
        refine b_aload_n rfl rfl ?_
        refine b_getR (r := 41) rfl fl4_9 rfl (by decide) rfl rfl ?_
        refine b_iload rfl rfl ?_
        refine b_iald rfl rfl (by omega) (by omega) ?_
        try simp only [up_ap, cpy_ap, fil_ap, row_ap, Nat.reduceEqDiff, Nat.reduceLT, Nat.reduceLeDiff, Int.toNat_natCast, Int.reduceToNat, reduceCtorEq, false_and, and_false, true_and, and_true, and_self, reduceIte]
        refine b_iconst rfl (by decide) ?_
        refine b_icmp_ne (tgt := 182) rfl rfl (fun c175 => ?_) (fun c175 => ?_)
        · refine b_iconst rfl (by decide) ?_
          refine b_aload_n rfl rfl ?_
          refine b_getR (r := 41) rfl fl4_9 rfl (by decide) rfl rfl ?_
          refine b_iload rfl rfl ?_
          refine b_iald rfl rfl (by omega) (by omega) ?_
          try simp only [up_ap, cpy_ap, fil_ap, row_ap, Nat.reduceEqDiff, Nat.reduceLT, Nat.reduceLeDiff, Int.toNat_natCast, Int.reduceToNat, reduceCtorEq, false_and, and_false, true_and, and_true, and_self, reduceIte]
          refine b_ishl rfl ?_
          refine b_ior rfl ?_
          refine b_istoreX (F := fun z192 => [some (aR 40), some (aR 32), some (aI h), some (aI (nS I : Int)), some (aI z192), some (aI (i : Int))]) rfl (by decide) (fun _ => rfl) (fun z192 ez192 => ?_)
          refine b_iincX (F := fun z194 => [some (aR 40), some (aR 32), some (aI h), some (aI (nS I : Int)), some (aI z192), some (aI z194)]) rfl rfl (by omega) (by omega) (fun _ => rfl) (fun z194 ez194 => ?_)
          refine b_goto (tgt := 144) rfl rfl ?_
          first
          | exact hnx _ _ (by rw [hch2, if_pos (by omega)]; rw [ez192]; exact or_zero_ hlt) (by omega)
          | exact hnx _ _ (by rw [hch2, if_neg (by omega), ← or_bit (by omega) hlt, ez192]; congr 2; omega) (by omega)
        · refine b_iconst rfl (by decide) ?_
          refine b_goto (tgt := 191) rfl rfl ?_
          refine b_ior rfl ?_
          refine b_istoreX (F := fun z192 => [some (aR 40), some (aR 32), some (aI h), some (aI (nS I : Int)), some (aI z192), some (aI (i : Int))]) rfl (by decide) (fun _ => rfl) (fun z192 ez192 => ?_)
          refine b_iincX (F := fun z194 => [some (aR 40), some (aR 32), some (aI h), some (aI (nS I : Int)), some (aI z192), some (aI z194)]) rfl rfl (by omega) (by omega) (fun _ => rfl) (fun z194 ez194 => ?_)
          refine b_goto (tgt := 144) rfl rfl ?_
          first
          | exact hnx _ _ (by rw [hch2, if_pos (by omega)]; rw [ez192]; exact or_zero_ hlt) (by omega)
          | exact hnx _ _ (by rw [hch2, if_neg (by omega), ← or_bit (by omega) hlt, ez192]; congr 2; omega) (by omega)
  have dpI : ∀ (i : Nat), i < nS I → (∀ (K : HI) (x5 : Option AV), qS I K → (∀ s, s < nS I → K 42 s = (ft s : Int)) → (∀ s, i ≤ s → s ≤ nS I → ∀ t, t < 64 → K 43 (64 * s + t) = mW ft (nS I - s) s t) → Bj MX4_fill 5 132 [some (aR 40), some (aR 32), some (aI h), some (aI (nS I : Int)), some (aI (i : Int)), x5] [] K Q) → ∀ (n t : Nat) (K : HI) (z : Int), qS I K → (∀ s, s < nS I → K 42 s = (ft s : Int)) → (∀ s, i < s → s ≤ nS I → ∀ t, t < 64 → K 43 (64 * s + t) = mW ft (nS I - s) s t) → (∀ u, u < t → K 43 (64 * i + u) = mW ft (nS I - i) i u) → z = (t : Int) → t + n = 64 → Bj MX4_fill 5 98 [some (aR 40), some (aR 32), some (aI h), some (aI (nS I : Int)), some (aI (i : Int)), some (aI z)] [] K Q := by
    intro i hi hk n
    induction n with
    | zero =>
      intro t K z hq h42 h43 hlo hz ht
      refine b_iload rfl rfl ?_
      refine b_bipush rfl (by decide) ?_
      refine b_icmp_ge (tgt := 132) rfl rfl (fun c102 => ?_) (fun c102 => ?_)
      · exact hk K _ hq h42 (fun s h1 h2 t ht => by
        by_cases e : s = i
        · subst e; exact hlo t (by omega)
        · exact h43 s (by omega) h2 t ht)
      · omega
    | succ n ih =>
      intro t K z hq h42 h43 hlo hz ht
      subst hz
      have ew : mW ft (nS I - i) i t = mb (mW ft (nS I - (i + 1)) (i + 1)) (ft i) t 6 := by
        rw [show nS I - i = (nS I - (i + 1)) + 1 by omega]
        rfl
      have hnx : ∀ z' : Int, z' = (t : Int) + 1 → Bj MX4_fill 5 98 [some (aR 40), some (aR 32), some (aI h), some (aI (nS I : Int)), some (aI (i : Int)), some (aI z')] [] (up K 43 (64 * i + t) (mb (mW ft (nS I - (i + 1)) (i + 1)) (ft i) t 6)) Q := by
        intro z' g
        refine ih (t + 1) _ _ ⟨fun q a b c1 d e => ?_, ?_⟩ (fun s hs => ?_) (fun s h1 h2 u hu => ?_) (fun u hu => ?_) (by omega) (by omega)
        · rw [up_cell e]; exact hq.1 q a b c1 d e
        · have := hq.2; unfold seB at *; rw [up_cell (by decide)]; exact this
        · rw [up_cell (by decide)]; exact h42 s hs
        · rw [up_ap, if_neg (by omega)]; exact h43 s h1 h2 u hu
        · rw [up_ap]
          by_cases e : u = t
          · subst e; rw [if_pos ⟨rfl, rfl⟩, ew]
          · rw [if_neg (by omega)]; exact hlo u (by omega)
      clear ih
      refine b_iload rfl rfl ?_
      refine b_bipush rfl (by decide) ?_
      refine b_icmp_ge (tgt := 132) rfl rfl (fun c102 => ?_) (fun c102 => ?_)
      · omega
      · refine b_aload_n rfl rfl ?_
        refine b_getR (r := 43) rfl fl4_18 rfl (by decide) rfl rfl ?_
        refine b_iload rfl rfl ?_
        refine b_bipush rfl (by decide) ?_
        refine b_imulN rfl (by omega) (by omega) ?_
        refine b_iload rfl rfl ?_
        refine b_iaddN rfl (by omega) (by omega) ?_
        refine b_aload_n rfl rfl ?_
        refine b_iload rfl rfl ?_
        refine b_iload rfl rfl ?_
        refine b_callV2i (ν := MX4_mostFrom) rfl ml4_48 cvX4_mostFrom (d' := 1) (by omega) rfl (by decide) rfl (Nat.le_of_ble_eq_true rfl) ?_
        refine sp_X4_mostFrom (by omega) (by omega) (h42 i hi) (hf6 i) (fun t ht => h43 (i + 1) (by omega) (by omega) t ht) (hmb _ _ (by omega)) ?_
        refine ⟨_, rfl, ?_⟩
        refine b_iast rfl rfl (by omega) (by omega) ?_
        rw [show ((i : Int) * 64 + (t : Int)).toNat = 64 * i + t by omega]
        refine b_iincX (F := fun z126 => [some (aR 40), some (aR 32), some (aI h), some (aI (nS I : Int)), some (aI (i : Int)), some (aI z126)]) rfl rfl (by omega) (by omega) (fun _ => rfl) (fun z126 ez126 => ?_)
        refine b_goto (tgt := 98) rfl rfl ?_
        exact hnx _ (by omega)
  have dp : ∀ (i : Nat) (K : HI) (z : Int) (x5 : Option AV), i ≤ nS I → qS I K → (∀ s, s < nS I → K 42 s = (ft s : Int)) → (∀ s, i ≤ s → s ≤ nS I → ∀ t, t < 64 → K 43 (64 * s + t) = mW ft (nS I - s) s t) → z = (i : Int) - 1 → Bj MX4_fill 5 90 [some (aR 40), some (aR 32), some (aI h), some (aI (nS I : Int)), some (aI z), x5] [] K Q := by
    intro i
    induction i with
    | zero =>
      intro K z x5 hi hq h42 h43 hz
      refine b_iload rfl rfl ?_
      refine b_if_lt (tgt := 138) rfl rfl (fun c92 => ?_) (fun c92 => ?_)
      · refine b_iconst rfl (by decide) ?_
        refine b_istoreX (F := fun z139 => [some (aR 40), some (aR 32), some (aI h), some (aI (nS I : Int)), some (aI z139), x5]) rfl (by decide) (fun _ => rfl) (fun z139 ez139 => ?_)
        refine b_iconst rfl (by decide) ?_
        refine b_istoreX (F := fun z142 => [some (aR 40), some (aR 32), some (aI h), some (aI (nS I : Int)), some (aI z139), some (aI z142)]) rfl (by decide) (fun _ => rfl) (fun z142 ez142 => ?_)
        exact ch (nS I) 0 K _ _ hq h42 (fun s hs t ht => h43 s (by omega) hs t ht) (fun s hs => absurd hs (by omega)) (by show _ = ((0 : Nat) : Int); omega) (by omega) (by omega)
      · omega
    | succ i ih =>
      intro K z x5 hi hq h42 h43 hz
      have ez : z = (i : Int) := by omega
      subst ez
      have nx3 : ∀ (K : HI) (x5 : Option AV), qS I K → (∀ s, s < nS I → K 42 s = (ft s : Int)) → (∀ s, i ≤ s → s ≤ nS I → ∀ t, t < 64 → K 43 (64 * s + t) = mW ft (nS I - s) s t) → Bj MX4_fill 5 132 [some (aR 40), some (aR 32), some (aI h), some (aI (nS I : Int)), some (aI (i : Int)), x5] [] K Q := by
        intro K x5 hq h42 h43
        refine b_iincX (F := fun z132 => [some (aR 40), some (aR 32), some (aI h), some (aI (nS I : Int)), some (aI z132), x5]) rfl rfl (by omega) (by omega) (fun _ => rfl) (fun z132 ez132 => ?_)
        refine b_goto (tgt := 90) rfl rfl ?_
        exact ih K _ _ (by omega) hq h42 h43 (by omega)
      refine b_iload rfl rfl ?_
      refine b_if_lt (tgt := 138) rfl rfl (fun c92 => ?_) (fun c92 => ?_)
      · omega
      · refine b_iconst rfl (by decide) ?_
        refine b_istoreX (F := fun z96 => [some (aR 40), some (aR 32), some (aI h), some (aI (nS I : Int)), some (aI (i : Int)), some (aI z96)]) rfl (by decide) (fun _ => rfl) (fun z96 ez96 => ?_)
        exact dpI i (by omega) nx3 64 0 K _ hq h42 (fun s h1 h2 t ht => h43 s (by omega) h2 t ht) (fun u hu => absurd hu (by omega)) (by omega) (by omega)
  have zr : ∀ (n t : Nat) (K : HI) (z : Int), qS I K → (∀ s, s < nS I → K 42 s = (ft s : Int)) → (∀ u, u < t → K 43 (64 * nS I + u) = 0) → z = (t : Int) → t + n = 64 → Bj MX4_fill 5 59 [some (aR 40), some (aR 32), some (aI h), some (aI (nS I : Int)), some (aI z), none] [] K Q := by
    intro n
    induction n with
    | zero =>
      intro t K z hq h42 hlo hz ht
      refine b_iload rfl rfl ?_
      refine b_bipush rfl (by decide) ?_
      refine b_icmp_ge (tgt := 85) rfl rfl (fun c63 => ?_) (fun c63 => ?_)
      · refine b_iload_n rfl rfl ?_
        refine b_iconst rfl (by decide) ?_
        refine b_isubN rfl (by omega) (by omega) ?_
        refine b_istoreX (F := fun z88 => [some (aR 40), some (aR 32), some (aI h), some (aI (nS I : Int)), some (aI z88), none]) rfl (by decide) (fun _ => rfl) (fun z88 ez88 => ?_)
        exact dp (nS I) K _ _ (by omega) hq h42 (fun s h1 h2 u hu => by
        have e : s = nS I := by omega
        rw [e, hlo u (by omega), Nat.sub_self]
        rfl) (by omega)
      · omega
    | succ n ih =>
      intro t K z hq h42 hlo hz ht
      subst hz
      refine b_iload rfl rfl ?_
      refine b_bipush rfl (by decide) ?_
      refine b_icmp_ge (tgt := 85) rfl rfl (fun c63 => ?_) (fun c63 => ?_)
      · omega
      · refine b_aload_n rfl rfl ?_
        refine b_getR (r := 43) rfl fl4_18 rfl (by decide) rfl rfl ?_
        refine b_iload_n rfl rfl ?_
        refine b_bipush rfl (by decide) ?_
        refine b_imulN rfl (by omega) (by omega) ?_
        refine b_iload rfl rfl ?_
        refine b_iaddN rfl (by omega) (by omega) ?_
        refine b_iconst rfl (by decide) ?_
        refine b_iast rfl rfl (by omega) (by omega) ?_
        rw [show ((nS I : Int) * 64 + (t : Int)).toNat = 64 * nS I + t by omega]
        refine b_iincX (F := fun z79 => [some (aR 40), some (aR 32), some (aI h), some (aI (nS I : Int)), some (aI z79), none]) rfl rfl (by omega) (by omega) (fun _ => rfl) (fun z79 ez79 => ?_)
        refine b_goto (tgt := 59) rfl rfl ?_
        refine ih (t + 1) _ _ ⟨fun q a b c1 d e => ?_, ?_⟩ (fun s hs => ?_) (fun u hu => ?_) (by omega) (by omega)
        · rw [up_cell e]; exact hq.1 q a b c1 d e
        · have := hq.2; unfold seB at *; rw [up_cell (by decide)]; exact this
        · rw [up_cell (by decide)]; exact h42 s hs
        · rw [up_ap]
          by_cases e : u = t
          · subst e; rw [if_pos ⟨rfl, rfl⟩]
          · rw [if_neg (by omega)]; exact hlo u (by omega)
  have fl : ∀ (n i : Nat) (B J : HI) (z : Int), (∀ q, q ≠ 42 → B q = I q) → (∀ k, k < i → B 42 k = (ft k : Int)) → At B J C h → z = (i : Int) → i + n = nS I → Bj MX4_fill 5 21 [some (aR 40), some (aR 32), some (aI h), some (aI (nS I : Int)), some (aI z), none] [] J Q := by
    intro n
    induction n with
    | zero =>
      intro i B J z hB h42 hA hz hi
      refine b_iload rfl rfl ?_
      refine b_iload_n rfl rfl ?_
      refine b_icmp_ge (tgt := 56) rfl rfl (fun c24 => ?_) (fun c24 => ?_)
      · refine b_iconst rfl (by decide) ?_
        refine b_istoreX (F := fun z57 => [some (aR 40), some (aR 32), some (aI h), some (aI (nS I : Int)), some (aI z57), none]) rfl (by decide) (fun _ => rfl) (fun z57 ez57 => ?_)
        exact zr 64 0 J _ ⟨fun q a b c d e => (hA.1.1 q a b).trans (hB q d), hA.1.2⟩ (fun s hs => by rw [hA.1.1 42 (by decide) (by decide)]; exact h42 s (by omega)) (fun u hu => absurd hu (by omega)) (by omega) (by omega)
      · omega
    | succ n ih =>
      intro i B J z hB h42 hA hz hi
      subst hz
      have hs : (i : Int) < I 4 1 := by omega
      have hPB : CP B C := hW.1.of (fun q _ hq => hB q (by omega))
      have e4 := hB 4 (by decide)
      have e32 := hB 32 (by decide)
      have hb5 : ∀ k, 0 ≤ B 32 k ∧ B 32 k ≤ 50 := by rw [e32]; exact hW.b5
      have eF : ftN B C h i = ft i := by
        rw [← hft]
        have e1 : sbP B C h i = sbP I C h i := by
          funext b
          exact propext (SF_to e4 (hB 6 (by decide)) (hB 7 (by decide)) e32)
        unfold ftN nB
        rw [e1, e4]
      refine b_iload rfl rfl ?_
      refine b_iload_n rfl rfl ?_
      refine b_icmp_ge (tgt := 56) rfl rfl (fun c24 => ?_) (fun c24 => ?_)
      · omega
      · refine b_aload_n rfl rfl ?_
        refine b_getR (r := 27) rfl fl4_25 rfl (by decide) rfl rfl ?_
        refine b_aload_n rfl rfl ?_
        refine b_iload rfl rfl ?_
        refine b_callV2v (ν := MX5_look) rfl ml4_40 cvX5_look (d' := 4) (by omega) rfl (by decide) rfl (Nat.le_of_ble_eq_true rfl) ?_
        refine spa_look_32 hPB hA hb5 (by rw [e4]; exact hs) (fun K hL => ?_)
        refine ⟨rfl, ?_⟩
        refine b_aload_n rfl rfl ?_
        refine b_getR (r := 42) rfl fl4_15 rfl (by decide) rfl rfl ?_
        refine b_iload rfl rfl ?_
        refine b_aload_n rfl rfl ?_
        refine b_iload rfl rfl ?_
        refine b_callV1i (ν := MX4_berthsThatFit) rfl ml4_44 cvX4_berthsThatFit (d' := 4) (by omega) rfl (by decide) rfl (Nat.le_of_ble_eq_true rfl) ?_
        refine sp_X4_berthsThatFit hPB hb5 hL (by rw [e4]; exact hs) ?_
        rw [eF]
        refine ⟨_, rfl, ?_⟩
        refine b_iast rfl rfl (by omega) (by omega) ?_
        rw [Int.toNat_natCast]
        refine b_iincX (F := fun z50 => [some (aR 40), some (aR 32), some (aI h), some (aI (nS I : Int)), some (aI z50), none]) rfl rfl (by omega) (by omega) (fun _ => rfl) (fun z50 ez50 => ?_)
        refine b_goto (tgt := 21) rfl rfl ?_
        refine ih (i + 1) (up B 42 i (ft i : Int)) _ _ (fun q hq => ?_) (fun k hk => ?_) (hL.1.up (by decide) (by decide)) (by omega) (by omega)
        · rw [up_cell hq]; exact hB q hq
        · rw [up_ap]
          by_cases e : k = i
          · subst e; rw [if_pos ⟨rfl, rfl⟩]
          · rw [if_neg (by omega)]; exact h42 k (by omega)
  refine b_aload_n rfl rfl ?_
  refine b_getR (r := 27) rfl fl4_25 rfl (by decide) rfl rfl ?_
  refine b_iload_n rfl rfl ?_
  refine b_callV1v (ν := MX5_atHour) rfl ml4_29 cvX5_atHour (d' := 3) (by omega) rfl (by decide) rfl (Nat.le_of_ble_eq_true rfl) ?_
  refine spa_atHour hW.1 (Sc.rf hW.2.1) hh (fun K hA => ?_)
  refine ⟨rfl, ?_⟩
  refine b_aload_n rfl rfl ?_
  refine b_getR (r := 3) rfl fl4_21 rfl (by decide) rfl rfl ?_
  refine b_getR (r := 4) rfl fl4_35 rfl (by decide) rfl rfl ?_
  refine b_iconst rfl (by decide) ?_
  refine b_ialdL (k := 1) rfl rfl rfl (by decide) ?_
  rw [show K 4 1 = (nS I : Int) by rw [hA.1.1 4 (by decide) (by decide)]; omega]
  refine b_istoreX_n (F := fun z17 => [some (aR 40), some (aR 32), some (aI h), some (aI z17), none, none]) rfl (by decide) (fun _ => rfl) (fun z17 ez17 => ?_)
  refine b_iconst rfl (by decide) ?_
  refine b_istoreX (F := fun z19 => [some (aR 40), some (aR 32), some (aI h), some (aI z17), some (aI z19), none]) rfl (by decide) (fun _ => rfl) (fun z19 ez19 => ?_)
  subst ez17
  exact fl (nS I) 0 I K _ (fun q _ => rfl) (fun k hk => absurd hk (by omega)) hA (by omega) (by omega)
noncomputable def bdV (I : HI) (C : Nat → List Int) (h b : Int) : Int := if b = -1 then mW (ftN I C h) (nS I) 0 0 else (chN (ftN I C h) (nS I) (b.toNat + 1)).1
theorem sp_X11_berthed {I : HI} {Q : Option AV → HI → Prop} {C : Nat → List Int} {n b : Int} (hW : WF I C) (k1 : clk I n ∧ (b = -1 ∨ kO I 4 1 b) → ∀ K, qS I K → Q (some (aI (bdV I C (I 30 5 + n) b))) K) (k0 : ¬ (clk I n ∧ (b = -1 ∨ kO I 4 1 b)) → Q (some (aI (-1000000000))) I) : Rj MX11_berthed 6 [aR 0, aI n, aI b] I Q := by
  have r := hW.2.2.1
  unfold bdV at k1
  refine rj_of okX11_berthed (Nat.le_of_ble_eq_true rfl) rfl ?_
  refine b_aload_n rfl rfl ?_
  refine b_iload_n rfl rfl ?_
  refine b_callV1i (ν := MX11_canLook) rfl ml11_236 cvX11_canLook (d' := 0) (by omega) rfl (by decide) rfl (Nat.le_of_ble_eq_true rfl) ?_
  refine spf_canLook (by omega) (fun hc => ?_) (fun hc => ?_)
  · refine ⟨_, rfl, ?_⟩
    refine b_if_eq (tgt := 25) rfl rfl (fun z => absurd z (by decide)) (fun _ => ?_)
    refine b_iload_n rfl rfl ?_
    refine b_iconst rfl (by decide) ?_
    refine b_icmp_eq (tgt := 28) rfl rfl (fun c10 => ?_) (fun c10 => ?_)
    · have hc' := hc
      unfold clk at hc'
      refine b_aload_n rfl rfl ?_
      refine b_getR (r := 40) rfl fl11_63 rfl (by decide) rfl rfl ?_
      refine b_aload_n rfl rfl ?_
      refine b_getR (r := 30) rfl fl11_44 rfl (by decide) rfl rfl ?_
      refine b_getR (r := 32) rfl fl11_198 rfl (by decide) rfl rfl ?_
      refine b_aload_n rfl rfl ?_
      refine b_getR (r := 30) rfl fl11_44 rfl (by decide) rfl rfl ?_
      refine b_getI rfl fl11_153 rfl (by decide) rfl ?_
      refine b_iload_n rfl rfl ?_
      refine b_iaddN rfl (by omega) (by omega) ?_
      refine b_callV2i (ν := MX4_fill) rfl ml11_245 cvX4_fill (d' := 5) (by omega) rfl (by decide) rfl (Nat.le_of_ble_eq_true rfl) ?_
      refine sp_X4_fill hW (by omega) (fun K hq h41 => ?_)
      refine ⟨_, rfl, ?_⟩
      refine b_istoreX_n (F := fun z51 => [some (aR 0), some (aI n), some (aI b), some (aI z51)]) rfl (by decide) (fun _ => rfl) (fun z51 ez51 => ?_)
      refine b_iload_n rfl rfl ?_
      refine b_iconst rfl (by decide) ?_
      refine b_icmp_ne (tgt := 61) rfl rfl (fun c54 => ?_) (fun c54 => ?_)
      · refine b_aload_n rfl rfl ?_
        refine b_getR (r := 40) rfl fl11_63 rfl (by decide) rfl rfl ?_
        refine b_getR (r := 41) rfl fl11_248 rfl (by decide) rfl rfl ?_
        refine b_iload_n rfl rfl ?_
        refine b_iald rfl rfl (by first | omega | (have h0 := (show kO I 4 1 b by assumption).2.2.1; omega)) (by first | omega | (have h0 := kO_b hW.1.1.1 (show kO I 4 1 b by assumption); omega)) ?_
        refine b_iret rfl rfl ?_
        first
        | (exfalso; omega)
        | exact qI (k1 ⟨hc, Or.inl (by omega)⟩ K hq) (by rw [if_pos (by omega)]; exact ez51.symm) rfl
        | exact qI (k1 ⟨hc, Or.inr (by assumption)⟩ K hq) (by rw [if_neg (by omega)]; exact (h41 b.toNat (by have hk4 : b < I 4 1 := (show kO I 4 1 b by assumption).2.2.2; have h0 := (show kO I 4 1 b by assumption).2.2.1; have := (nS_in hW.1.1).2; omega)).symm) rfl
      · refine b_iload_n rfl rfl ?_
        refine b_goto (tgt := 70) rfl rfl ?_
        refine b_iret rfl rfl ?_
        first
        | (exfalso; omega)
        | exact qI (k1 ⟨hc, Or.inl (by omega)⟩ K hq) (by rw [if_pos (by omega)]; exact ez51.symm) rfl
        | exact qI (k1 ⟨hc, Or.inr (by assumption)⟩ K hq) (by rw [if_neg (by omega)]; exact (h41 b.toNat (by have hk4 : b < I 4 1 := (show kO I 4 1 b by assumption).2.2.2; have h0 := (show kO I 4 1 b by assumption).2.2.1; have := (nS_in hW.1.1).2; omega)).symm) rfl
    · refine b_aload_n rfl rfl ?_
      refine b_getR (r := 3) rfl fl11_19 rfl (by decide) rfl rfl ?_
      refine b_iconst rfl (by decide) ?_
      refine b_iload_n rfl rfl ?_
      refine b_callV2i (ν := MX3_knows) rfl ml11_175 cvX3_knows (d' := 0) (by omega) rfl (by decide) rfl (Nat.le_of_ble_eq_true rfl) ?_
      refine spf_knows (fun hk => ?_) (fun hk => ?_)
      · refine ⟨_, rfl, ?_⟩
        refine b_if_ne (tgt := 28) rfl rfl (fun _ => ?_) (fun z => absurd z (by decide))
        have hc' := hc
        unfold clk at hc'
        refine b_aload_n rfl rfl ?_
        refine b_getR (r := 40) rfl fl11_63 rfl (by decide) rfl rfl ?_
        refine b_aload_n rfl rfl ?_
        refine b_getR (r := 30) rfl fl11_44 rfl (by decide) rfl rfl ?_
        refine b_getR (r := 32) rfl fl11_198 rfl (by decide) rfl rfl ?_
        refine b_aload_n rfl rfl ?_
        refine b_getR (r := 30) rfl fl11_44 rfl (by decide) rfl rfl ?_
        refine b_getI rfl fl11_153 rfl (by decide) rfl ?_
        refine b_iload_n rfl rfl ?_
        refine b_iaddN rfl (by omega) (by omega) ?_
        refine b_callV2i (ν := MX4_fill) rfl ml11_245 cvX4_fill (d' := 5) (by omega) rfl (by decide) rfl (Nat.le_of_ble_eq_true rfl) ?_
        refine sp_X4_fill hW (by omega) (fun K hq h41 => ?_)
        refine ⟨_, rfl, ?_⟩
        refine b_istoreX_n (F := fun z51 => [some (aR 0), some (aI n), some (aI b), some (aI z51)]) rfl (by decide) (fun _ => rfl) (fun z51 ez51 => ?_)
        refine b_iload_n rfl rfl ?_
        refine b_iconst rfl (by decide) ?_
        refine b_icmp_ne (tgt := 61) rfl rfl (fun c54 => ?_) (fun c54 => ?_)
        · refine b_aload_n rfl rfl ?_
          refine b_getR (r := 40) rfl fl11_63 rfl (by decide) rfl rfl ?_
          refine b_getR (r := 41) rfl fl11_248 rfl (by decide) rfl rfl ?_
          refine b_iload_n rfl rfl ?_
          refine b_iald rfl rfl (by first | omega | (have h0 := (show kO I 4 1 b by assumption).2.2.1; omega)) (by first | omega | (have h0 := kO_b hW.1.1.1 (show kO I 4 1 b by assumption); omega)) ?_
          refine b_iret rfl rfl ?_
          first
          | (exfalso; omega)
          | exact qI (k1 ⟨hc, Or.inl (by omega)⟩ K hq) (by rw [if_pos (by omega)]; exact ez51.symm) rfl
          | exact qI (k1 ⟨hc, Or.inr (by assumption)⟩ K hq) (by rw [if_neg (by omega)]; exact (h41 b.toNat (by have hk4 : b < I 4 1 := (show kO I 4 1 b by assumption).2.2.2; have h0 := (show kO I 4 1 b by assumption).2.2.1; have := (nS_in hW.1.1).2; omega)).symm) rfl
        · refine b_iload_n rfl rfl ?_
          refine b_goto (tgt := 70) rfl rfl ?_
          refine b_iret rfl rfl ?_
          first
          | (exfalso; omega)
          | exact qI (k1 ⟨hc, Or.inl (by omega)⟩ K hq) (by rw [if_pos (by omega)]; exact ez51.symm) rfl
          | exact qI (k1 ⟨hc, Or.inr (by assumption)⟩ K hq) (by rw [if_neg (by omega)]; exact (h41 b.toNat (by have hk4 : b < I 4 1 := (show kO I 4 1 b by assumption).2.2.2; have h0 := (show kO I 4 1 b by assumption).2.2.1; have := (nS_in hW.1.1).2; omega)).symm) rfl
      · refine ⟨_, rfl, ?_⟩
        refine b_if_ne (tgt := 28) rfl rfl (fun z => absurd z (by decide)) (fun _ => ?_)
        refine b_ldc (z := -1000000000) rfl kc11_214 (by decide) ?_
        refine b_iret rfl rfl ?_
        first | exact k0 (fun w => hc w.1) | exact k0 (fun w => w.2.elim (fun v => by omega) (fun v => absurd v (by assumption)))
  · refine ⟨_, rfl, ?_⟩
    refine b_if_eq (tgt := 25) rfl rfl (fun _ => ?_) (fun z => absurd z (by decide))
    refine b_ldc (z := -1000000000) rfl kc11_214 (by decide) ?_
    refine b_iret rfl rfl ?_
    first | exact k0 (fun w => hc w.1) | exact k0 (fun w => w.2.elim (fun v => by omega) (fun v => absurd v (by assumption)))
