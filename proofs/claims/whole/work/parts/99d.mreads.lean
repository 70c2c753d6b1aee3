/-! ===== the reference: reads ===== -/
theorem uu45 {K : HI} {a b : Int} : up (up K 57 45 a) 57 45 b = up K 57 45 b := by
  funext q j
  rw [up_ap, up_ap, up_ap]
  by_cases h : q = 57 ∧ j = 45
  · rw [if_pos h, if_pos h]
  · rw [if_neg h, if_neg h, if_neg h]
section MRD
variable {K H : HI} {m k0 n p se : Nat} {B : Nat → Int} {Q : Option AV → HI → Prop}
theorem MTx_45 {x : Int} (h : MTx K n B) : MTx (up K 57 45 x) n B := by
  obtain ⟨h1, h2, h3, h4⟩ := h
  exact ⟨by rw [up_ap, if_neg (by omega)]; exact h1, h2, fun k hk => by rw [up_ap, if_neg (by omega)]; exact h3 k hk, h4⟩
theorem opF_t {F : Fm} {r : List Fm} {cs : List Int} {t p' : Nat} {fs' : List Fm} {cs' : List Int} (h : opF n B se F r cs p = .inr (t, p', fs', cs')) : t = 0 ∨ t = 1 := by
  unfold opF at h
  repeat' split at h
  all_goals first
    | (cases h; exact Or.inl rfl)
    | (cases h; exact Or.inr rfl)
    | cases h
theorem goF_t {F : Fm} {r : List Fm} {cs : List Int} {t p' : Nat} {fs' : List Fm} {cs' : List Int} (h : goF n B F r cs p = .inr (t, p', fs', cs')) : t = 0 ∨ t = 1 ∨ t = 2 := by
  unfold goF at h
  repeat' split at h
  all_goals first
    | (cases h; exact Or.inl rfl)
    | (cases h; exact Or.inr (Or.inl rfl))
    | (cases h; exact Or.inr (Or.inr rfl))
    | cases h
/-- what reading a formula leaves -/
def RdR (K : HI) (m k0 : Nat) (c : List Int) (K1 : HI) : Prop := (∃ x, FrK (up K 57 45 x) m k0 K1) ∧ K1 57 33 = ((k0 + c.length : Nat) : Int) ∧ (∀ j v, c[j]? = some v → cm (K1 73 (1600 * m + k0 + j)) (K1 74 (1600 * m + k0 + j)) v)
theorem RC_Rd {x o : Int} {fs : List Fm} {cs : List Int} {K1 : HI} (h : RC (up K 57 45 x) m k0 fs cs o K1) : RdR K m k0 cs K1 := ⟨⟨x, h.1⟩, h.2.2.2.2.2.1, h.2.2.2.2.2.2.2⟩
theorem Mbad_45 {k pl x : Int} (h : Mbad K k pl H) : Mbad (up K 57 45 x) k pl (up H 57 45 x) := by
  obtain ⟨si, sa, en, va, wo, lx, e, h⟩ := h
  subst e
  exact ⟨si, sa, en, va, wo, lx, MX_uo (by decide), h⟩
theorem Mok_45 {x : Int} (h : Mok K n B p H) : Mok (up K 57 45 x) n B p (up H 57 45 x) := by
  obtain ⟨si, sa, en, va, wo, lx, e, h⟩ := h
  subst e
  exact ⟨si, sa, en, va, wo, lx, MX_uo (by decide), h⟩
theorem FrK_45' {x y : Int} {K1 : HI} (h : FrK (up K 57 45 x) m k0 K1) : FrK (up K 57 45 y) m k0 (up K1 57 45 y) := by
  have := FrK_45 (x := y) h
  rw [uu45] at this
  exact this
theorem mc_reads {z : Int} (hz : z = 0 ∨ z = 1) (hT : MTx K n B) (hm : m < 2) (hse : K 57 35 = 2 * (se : Int) ∧ se < 256) (h33 : K 57 33 = (k0 : Int)) (h34 : K 57 34 = (m : Int)) (hp : p ≤ n) (hk0 : k0 ≤ p) (hM : Mok K n B p H) (kE : ∀ e K1 H1, P n B se (12 * n + 7) (if z = 1 then 0 else 3) 0 p = .inl e → (∃ x, FrK (up K 57 45 x) m k0 K1) → Mbad K1 e.1 e.2 H1 → Q none H1) (k4 : ∀ p' c K1 H1, P n B se (12 * n + 7) (if z = 1 then 0 else 3) 0 p = .inr (p', c) → tk n B p' = 4 → (∃ x, FrK (up K 57 45 x) m k0 K1) → Mbad K1 1 (tsp n B p' : Int) H1 → Q none H1) (kq : ∀ p' c K1 H1, P n B se (12 * n + 7) (if z = 1 then 0 else 3) 0 p = .inr (p', c) → tk n B p' ≠ 4 → RdR K m k0 c K1 → Mok K1 n B p' H1 → Q none H1) : Rj MX12_reads 4 [aR 57, aI z] H Q := by
  refine rj_of okX12_reads (Nat.le_of_ble_eq_true rfl) rfl ?_
  have hn := hT.2.1
  have ex_ : ∀ (y : Int) (H1 : HI), y = 0 → Q none H1 → Bj MX12_reads 4 43 [some (aR 57), some (aI z), some (aI y)] [] H1 Q := by
    intro y H1 hy kk
    refine b_iload_n rfl rfl ?_
    refine b_if_eq (tgt := 90) rfl rfl (fun c44 => ?_) (fun c44 => ?_)
    · refine b_vret rfl rfl ?_
      exact kk
    · omega
  have fl : ∀ (y k pl : Int) (K1 H1 : HI), Mbad K1 k pl H1 → Q none H1 → Bj MX12_reads 4 70 [some (aR 57), some (aI z), some (aI y)] [] H1 Q := by
    intro y k pl K1 H1 hb kk
    have hf := Mbad_f hb
    refine b_iload_n rfl rfl ?_
    refine b_if_eq (tgt := 85) rfl rfl (fun c71 => ?_) (fun c71 => ?_)
    · refine b_iconst rfl (by decide) ?_
      refine b_istoreX_n (F := fun z86 => [some (aR 57), some (aI z), some (aI z86)]) rfl (by decide) (fun _ => rfl) (fun z86 ez86 => ?_)
      refine b_goto (tgt := 43) rfl rfl ?_
      exact ex_ _ _ (by omega) kk
    · refine b_aload_n rfl rfl ?_
      refine b_getI rfl fl12_36 rfl (by decide) rfl ?_
      refine b_if_ne (tgt := 85) rfl rfl (fun c78 => ?_) (fun c78 => ?_)
      · refine b_iconst rfl (by decide) ?_
        refine b_istoreX_n (F := fun z86 => [some (aR 57), some (aI z), some (aI z86)]) rfl (by decide) (fun _ => rfl) (fun z86 ez86 => ?_)
        refine b_goto (tgt := 43) rfl rfl ?_
        exact ex_ _ _ (by omega) kk
      · omega
  have gl : ∀ (y : Int) (p' : Nat) (K1 H1 : HI), y = 1 → Mok K1 n B p' H1 → (∀ y, y = 1 → Bj MX12_reads 4 43 [some (aR 57), some (aI z), some (aI y)] [] H1 Q) → Bj MX12_reads 4 70 [some (aR 57), some (aI z), some (aI y)] [] H1 Q := by
    intro y p' K1 H1 hy hM1 kk
    have hf := Mok_f hM1
    refine b_iload_n rfl rfl ?_
    refine b_if_eq (tgt := 85) rfl rfl (fun c71 => ?_) (fun c71 => ?_)
    · omega
    · refine b_aload_n rfl rfl ?_
      refine b_getI rfl fl12_36 rfl (by decide) rfl ?_
      rw [hf.1]
      refine b_if_ne (tgt := 85) rfl rfl (fun c78 => ?_) (fun c78 => ?_)
      · omega
      · refine b_iconst rfl (by decide) ?_
        refine b_goto (tgt := 86) rfl rfl ?_
        refine b_istoreX_n (F := fun z86 => [some (aR 57), some (aI z), some (aI z86)]) rfl (by decide) (fun _ => rfl) (fun z86 ez86 => ?_)
        refine b_goto (tgt := 43) rfl rfl ?_
        exact kk _ (by omega)
  have key : ∀ (W : Nat → Nat → List Fm → List Int → Prop) (E : Int × Int → Prop), (∀ t p fs cs, W t p fs cs = ∀ K1 H1 y, y = 1 → RC (up K 57 45 (if t = 2 then 1 else (t : Int))) m k0 fs cs (opN fs : Int) K1 → PF fs → Mok K1 n B p H1 → (t = 2 → Q none H1) ∧ (t ≠ 2 → Bj MX12_reads 4 43 [some (aR 57), some (aI z), some (aI y)] [] H1 Q)) → (∀ e, E e = ∀ K1 H1, (∃ x, FrK (up K 57 45 x) m k0 K1) → Mbad K1 e.1 e.2 H1 → Q none H1) → Cl0 n B se k0 W E ∧ Cl1 n B k0 W E := by
    intro W E hW hE
    constructor
    · intro p F r cs hV ho hkE hkW
      rw [hW]
      intro K1 H1 y hy hR hP hM1
      refine ⟨fun h => absurd h (by decide), fun _ => ?_⟩
      have h45 : H1 57 45 = 0 := by
        rw [Mok_g hM1 (by decide), hR.1.2.1 45 (by decide) (by decide) (by decide) (by decide), up_ap, if_pos ⟨rfl, rfl⟩]
        rfl
      have hse' : up K 57 45 0 57 35 = 2 * (se : Int) ∧ se < 256 := ⟨by rw [up_ap, if_neg (by omega)]; exact hse.1, hse.2⟩
      refine b_iload_n rfl rfl ?_
      refine b_if_eq (tgt := 90) rfl rfl (fun c44 => ?_) (fun c44 => ?_)
      · omega
      · refine b_aload_n rfl rfl ?_
        refine b_getI rfl fl12_149 rfl (by decide) rfl ?_
        rw [h45]
        refine b_if_ne (tgt := 65) rfl rfl (fun c51 => ?_) (fun c51 => ?_)
        · omega
        · refine b_aload_n rfl rfl ?_
          refine b_aload_n rfl rfl ?_
          refine b_callV0i (ν := MX12_operand) rfl ml12_351 cvX12_operand (d' := 3) (by omega) rfl (by decide) rfl (Nat.le_of_ble_eq_true rfl) ?_
          refine mc_operand (MTx_45 hT) hm hse' hR hP hV ho hM1 (fun e v K2 H2 hO hF hb hv => ?_) (fun t p' fs' cs' K2 H2 hO hR2 hP2 hM2 => ?_)
          · refine ⟨_, rfl, ?_⟩
            try have ht := opF_t hO
            refine b_putZ rfl fl12_149 rfl (by decide) rfl (by first | decide | omega) ?_
            refine b_goto (tgt := 70) rfl rfl ?_
            first
            | (have hEe := hkE e hO
               rw [hE] at hEe
               exact fl _ _ _ _ _ (Mbad_45 hb) (hEe _ _ ⟨_, FrK_45' hF⟩ (Mbad_45 hb)))
            | (have hWW := hkW t p' fs' cs' hO
               rw [hW] at hWW
               have ht := opF_t hO
               refine gl _ _ _ _ hy (Mok_45 hM2) (fun y hy => (hWW _ _ y hy ?_ hP2 (Mok_45 hM2)).2 (by omega))
               rw [if_neg (by omega)]
               have := RC_45 (x := (t : Int)) hR2
               rw [uu45] at this
               exact this)
          · refine ⟨_, rfl, ?_⟩
            try have ht := opF_t hO
            refine b_putZ rfl fl12_149 rfl (by decide) rfl (by first | decide | omega) ?_
            refine b_goto (tgt := 70) rfl rfl ?_
            first
            | (have hEe := hkE e hO
               rw [hE] at hEe
               exact fl _ _ _ _ _ (Mbad_45 hb) (hEe _ _ ⟨_, FrK_45' hF⟩ (Mbad_45 hb)))
            | (have hWW := hkW t p' fs' cs' hO
               rw [hW] at hWW
               have ht := opF_t hO
               refine gl _ _ _ _ hy (Mok_45 hM2) (fun y hy => (hWW _ _ y hy ?_ hP2 (Mok_45 hM2)).2 (by omega))
               rw [if_neg (by omega)]
               have := RC_45 (x := (t : Int)) hR2
               rw [uu45] at this
               exact this)
    · intro p F r cs hV hr0 hkE hkW
      rw [hW]
      intro K1 H1 y hy hR hP hM1
      refine ⟨fun h => absurd h (by decide), fun _ => ?_⟩
      have h45 : H1 57 45 = 1 := by
        rw [Mok_g hM1 (by decide), hR.1.2.1 45 (by decide) (by decide) (by decide) (by decide), up_ap, if_pos ⟨rfl, rfl⟩]
        rfl
      have g66 : ∀ (t p' : Nat) (fs' : List Fm) (cs' : List Int) (K2 H2 : HI) (y : Int), y = (if t = 2 then 0 else 1) → (t = 0 ∨ t = 1 ∨ t = 2) → RC (if t = 0 then up (up K 57 45 1) 57 45 0 else up K 57 45 1) m k0 fs' cs' (opN fs' : Int) K2 → PF fs' → Mok K2 n B p' H2 → (∀ K1 H1 y, y = 1 → RC (up K 57 45 (if t = 2 then 1 else (t : Int))) m k0 fs' cs' (opN fs' : Int) K1 → PF fs' → Mok K1 n B p' H1 → (t = 2 → Q none H1) ∧ (t ≠ 2 → Bj MX12_reads 4 43 [some (aR 57), some (aI z), some (aI y)] [] H1 Q)) → Bj MX12_reads 4 70 [some (aR 57), some (aI z), some (aI y)] [] H2 Q := by
        intro t p' fs' cs' K2 H2 y hy ht hR2 hP2 hM2 hWW
        rcases ht with e | e | e
        · subst e
          rw [if_pos rfl, uu45] at hR2
          exact gl _ _ _ _ hy hM2 (fun y hy => (hWW K2 H2 y hy hR2 hP2 hM2).2 (by decide))
        · subst e
          exact gl _ _ _ _ hy hM2 (fun y hy => (hWW K2 H2 y hy hR2 hP2 hM2).2 (by decide))
        · subst e
          have hq := (hWW K2 H2 1 rfl hR2 hP2 hM2).1 rfl
          have hy0 : y = 0 := hy
          refine b_iload_n rfl rfl ?_
          refine b_if_eq (tgt := 85) rfl rfl (fun c71 => ?_) (fun c71 => ?_)
          · refine b_iconst rfl (by decide) ?_
            refine b_istoreX_n (F := fun z86 => [some (aR 57), some (aI z), some (aI z86)]) rfl (by decide) (fun _ => rfl) (fun z86 ez86 => ?_)
            refine b_goto (tgt := 43) rfl rfl ?_
            exact ex_ _ _ (by omega) hq
          · omega
      refine b_iload_n rfl rfl ?_
      refine b_if_eq (tgt := 90) rfl rfl (fun c44 => ?_) (fun c44 => ?_)
      · omega
      · refine b_aload_n rfl rfl ?_
        refine b_getI rfl fl12_149 rfl (by decide) rfl ?_
        rw [h45]
        refine b_if_ne (tgt := 65) rfl rfl (fun c51 => ?_) (fun c51 => ?_)
        · refine b_aload_n rfl rfl ?_
          refine b_callV0i (ν := MX12_goesOn) rfl ml12_354 cvX12_goesOn (d' := 2) (by omega) rfl (by decide) rfl (Nat.le_of_ble_eq_true rfl) ?_
          refine mc_goesOn (MTx_45 hT) hm hR hP hV hr0 hM1 (fun e v K2 H2 hO hF hb => ?_) (fun t p' fs' cs' K2 H2 hO hR2 hP2 hM2 => ?_)
          · refine ⟨_, rfl, ?_⟩
            refine b_istoreX_n (F := fun z69 => [some (aR 57), some (aI z), some (aI z69)]) rfl (by decide) (fun _ => rfl) (fun z69 ez69 => ?_)
            first
            | (have hEe := hkE e hO
               rw [hE] at hEe
               exact fl _ _ _ _ _ hb (hEe _ _ ⟨_, hF⟩ hb))
            | (have hWW := hkW t p' fs' cs' hO
               rw [hW] at hWW
               have ht := goF_t hO
               exact g66 t p' fs' cs' K2 H2 _ ez69 ht hR2 hP2 hM2 hWW)
          · refine ⟨_, rfl, ?_⟩
            refine b_istoreX_n (F := fun z69 => [some (aR 57), some (aI z), some (aI z69)]) rfl (by decide) (fun _ => rfl) (fun z69 ez69 => ?_)
            first
            | (have hEe := hkE e hO
               rw [hE] at hEe
               exact fl _ _ _ _ _ hb (hEe _ _ ⟨_, hF⟩ hb))
            | (have hWW := hkW t p' fs' cs' hO
               rw [hW] at hWW
               have ht := goF_t hO
               exact g66 t p' fs' cs' K2 H2 _ ez69 ht hR2 hP2 hM2 hWW)
        · omega
  obtain ⟨c0, c1⟩ := key (fun t p fs cs => ∀ K1 H1 y, y = 1 → RC (up K 57 45 (if t = 2 then 1 else (t : Int))) m k0 fs cs (opN fs : Int) K1 → PF fs → Mok K1 n B p H1 → (t = 2 → Q none H1) ∧ (t ≠ 2 → Bj MX12_reads 4 43 [some (aR 57), some (aI z), some (aI y)] [] H1 Q)) (fun e => ∀ K1 H1, (∃ x, FrK (up K 57 45 x) m k0 K1) → Mbad K1 e.1 e.2 H1 → Q none H1) (fun _ _ _ _ => rfl) (fun _ => rfl)
  have g43 : ∀ (ki y : Int) (K1 H1 : HI), ki = (if z = 1 then 1 else 0) → y = 1 → RC (up K 57 45 0) m k0 [mkF ki 0 1 0 []] [] 0 K1 → Mok K1 n B p H1 → Bj MX12_reads 4 43 [some (aR 57), some (aI z), some (aI y)] [] H1 Q := by
    intro ki y K1 H1 hki hy hR1 hM1
    have hpf : PF [mkF ki 0 1 0 []] := by
      intro X hX
      rw [List.mem_singleton.1 hX]
      intro w
      have w2 : ki = 3 ∨ ki = 4 ∨ ki = 6 := w
      exfalso
      split at hki <;> omega
    rcases hz with e | e
    · rw [if_neg (by omega)] at hki
      subst hki
      rw [if_neg (by omega)] at kE k4 kq
      exact (sim_sum (f := 12 * n + 7) c0 c1 hp hk0 (Nat.le_refl _) (fun e' he K1 H1 hF hb => kE e' K1 H1 he hF hb) (fun p' c he h4 K1 H1 hF hb => k4 p' c K1 H1 he h4 hF hb) (fun p' c F he h4 K1 H1 y hy hR hP hM => ⟨fun _ => kq p' c K1 H1 he h4 (RC_Rd hR) hM, fun h => absurd rfl h⟩) K1 H1 y hy hR1 hpf hM1).2 (by decide)
    · rw [if_pos e] at hki
      subst hki
      rw [if_pos e] at kE k4 kq
      exact (sim_test (f := 12 * n + 7) c0 c1 hp hk0 (Nat.le_refl _) (fun e' he K1 H1 hF hb => kE e' K1 H1 he hF hb) (fun p' c he h4 K1 H1 hF hb => k4 p' c K1 H1 he h4 hF hb) (fun p' c F he h4 K1 H1 y hy hR hP hM => ⟨fun _ => kq p' c K1 H1 he h4 (RC_Rd hR) hM, fun h => absurd rfl h⟩) K1 H1 y hy hR1 hpf hM1).2 (by decide)
  have hf := Mok_f hM
  have hM' := hM
  obtain ⟨si, sa, en, va, wo, lx, e, h⟩ := hM
  subst e
  have hR0 : RC (up K 57 45 0) m k0 [] [] 0 (up (up (up (up K 57 41 0) 57 42 0) 57 44 0) 57 45 0) := by
    refine ⟨FrK_45 (FrK_57 (FrK_57 (FrK_57 ⟨fun _ _ _ _ _ => rfl, fun _ _ _ _ _ => rfl, fun _ _ _ _ => rfl⟩ (by omega)) (by omega)) (by omega)), trivial, ?_, ?_, ?_, ?_, ?_, fun j v e => by cases e⟩
    · rw [up_ap, if_neg (by omega), up_ap, if_neg (by omega), up_ap, if_neg (by omega), up_ap, if_pos ⟨rfl, rfl⟩]; rfl
    · rw [up_ap, if_neg (by omega), up_ap, if_pos ⟨rfl, rfl⟩]; rfl
    · rw [up_ap, if_neg (by omega), up_ap, if_neg (by omega), up_ap, if_pos ⟨rfl, rfl⟩]
    · rw [up_ap, if_neg (by omega), up_ap, if_neg (by omega), up_ap, if_neg (by omega), up_ap, if_neg (by omega), h33]; rfl
    · rw [up_ap, if_neg (by omega), up_ap, if_neg (by omega), up_ap, if_neg (by omega), up_ap, if_neg (by omega)]; exact h34
  refine b_aload_n rfl rfl ?_
  refine b_getI rfl fl12_36 rfl (by decide) rfl ?_
  rw [MX_8]
  refine b_if_le (tgt := 8) rfl rfl (fun c4 => ?_) (fun c4 => ?_)
  · refine b_aload_n rfl rfl ?_
    refine b_iconst rfl (by decide) ?_
    refine b_putI rfl fl12_137 rfl (by decide) rfl ?_
    rw [MX_uo (by decide)]
    refine b_aload_n rfl rfl ?_
    refine b_iconst rfl (by decide) ?_
    refine b_putI rfl fl12_140 rfl (by decide) rfl ?_
    rw [MX_uo (by decide)]
    refine b_aload_n rfl rfl ?_
    refine b_iconst rfl (by decide) ?_
    refine b_putI rfl fl12_146 rfl (by decide) rfl ?_
    rw [MX_uo (by decide)]
    refine b_aload_n rfl rfl ?_
    refine b_iconst rfl (by decide) ?_
    refine b_putZ rfl fl12_149 rfl (by decide) rfl (by first | decide | omega) ?_
    rw [MX_uo (by decide)]
    refine b_aload_n rfl rfl ?_
    refine b_iload_n rfl rfl ?_
    refine b_if_eq (tgt := 37) rfl rfl (fun c30 => ?_) (fun c30 => ?_)
    · refine b_iconst rfl (by decide) ?_
      refine b_callV1v (ν := MX12_pushes) rfl ml12_332 cvX12_pushes (d' := 0) (by omega) rfl (by decide) rfl (Nat.le_of_ble_eq_true rfl) ?_
      refine mc_pushes hR0 (by decide) (by decide) (by decide) (fun K1 hR1 => ?_)
      refine ⟨rfl, ?_⟩
      refine b_iconst rfl (by decide) ?_
      refine b_istoreX_n (F := fun z42 => [some (aR 57), some (aI z), some (aI z42)]) rfl (by decide) (fun _ => rfl) (fun z42 ez42 => ?_)
      first
      | (have e1 : z = 1 := by omega
         exact g43 1 _ _ _ (if_pos e1).symm (by omega) hR1 ⟨si, sa, en, va, wo, lx, rfl, h⟩)
      | (have e1 : ¬ z = 1 := by omega
         exact g43 0 _ _ _ (if_neg e1).symm (by omega) hR1 ⟨si, sa, en, va, wo, lx, rfl, h⟩)
    · refine b_iconst rfl (by decide) ?_
      refine b_goto (tgt := 38) rfl rfl ?_
      refine b_callV1v (ν := MX12_pushes) rfl ml12_332 cvX12_pushes (d' := 0) (by omega) rfl (by decide) rfl (Nat.le_of_ble_eq_true rfl) ?_
      refine mc_pushes hR0 (by decide) (by decide) (by decide) (fun K1 hR1 => ?_)
      refine ⟨rfl, ?_⟩
      refine b_iconst rfl (by decide) ?_
      refine b_istoreX_n (F := fun z42 => [some (aR 57), some (aI z), some (aI z42)]) rfl (by decide) (fun _ => rfl) (fun z42 ez42 => ?_)
      first
      | (have e1 : z = 1 := by omega
         exact g43 1 _ _ _ (if_pos e1).symm (by omega) hR1 ⟨si, sa, en, va, wo, lx, rfl, h⟩)
      | (have e1 : ¬ z = 1 := by omega
         exact g43 0 _ _ _ (if_neg e1).symm (by omega) hR1 ⟨si, sa, en, va, wo, lx, rfl, h⟩)
  · omega
theorem mc_readsB {z k pl : Int} (hM : Mbad K k pl H) (kq : Q none H) : Rj MX12_reads 4 [aR 57, aI z] H Q := by
  refine rj_of okX12_reads (Nat.le_of_ble_eq_true rfl) rfl ?_
  have hf := Mbad_f hM
  refine b_aload_n rfl rfl ?_
  refine b_getI rfl fl12_36 rfl (by decide) rfl ?_
  refine b_if_le (tgt := 8) rfl rfl (fun c4 => ?_) (fun c4 => ?_)
  · omega
  · refine b_vret rfl rfl ?_
    exact kq
end MRD
