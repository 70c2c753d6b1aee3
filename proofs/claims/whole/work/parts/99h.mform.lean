/-! ===== the reference: a formula's statement ===== -/
def Ne (r : Res) : Prop := ∀ p c, r = .inr (p, c) → c ≠ []
theorem ne_l {e : Int × Int} : Ne (.inl e) := fun _ _ h => by cases h
theorem ne_emi {r : Res} {x : Int} : Ne (emi r x) := by
  cases r with
  | inl e => exact ne_l
  | inr y =>
    intro p c h
    cases h
    simp
theorem ne_bnd {r : Res} {g : Nat → Res} (h : Ne r) : Ne (bnd r g) := by
  cases r with
  | inl e => exact ne_l
  | inr y =>
    obtain ⟨p, c⟩ := y
    have h1 := h p c rfl
    intro p' c' e
    rw [bnd_inr] at e
    cases hg : g p with
    | inl e' => rw [hg] at e; cases e
    | inr z =>
      rw [hg] at e
      cases e
      intro w
      exact h1 (List.append_eq_nil_iff.1 w).1
theorem ne_nee {n : Nat} {B : Nat → Int} {r : Res} {x : Int} (h : Ne r) : Ne (nee n B r x) := by
  cases r with
  | inl e => exact ne_l
  | inr y =>
    obtain ⟨p, c⟩ := y
    have h1 := h p c rfl
    unfold nee
    show Ne (if sg n B p x then .inr (te n B p, c) else .inl (1, (tsp n B p : Int)))
    split
    · intro p' c' e
      cases e
      exact h1
    · exact ne_l
theorem ne_see {n : Nat} {B : Nat → Int} {se p : Nat} : ∀ f k, Ne (seeF n B se p f k) := by
  intro f
  induction f with
  | zero => intro k; exact ne_l
  | succ f ih =>
    intro k
    show Ne (if se / 2 ^ k % 2 = 1 ∧ tw n B p = seW k then .inr (te n B p, [-1 - (k : Int)]) else seeF n B se p f (k + 1))
    split
    · intro p' c' e
      cases e
      simp
    · exact ih _
theorem ne_P {n : Nat} {B : Nat → Int} {se : Nat} : ∀ f m d p, m < 6 → Ne (P n B se f m d p) := by
  intro f
  induction f with
  | zero => intro m d p _; exact ne_l
  | succ f ih =>
    intro m d p hm
    match m, hm with
    | 0, _ => exact ne_bnd (ih 1 d p (by decide))
    | 1, _ => exact ne_bnd (ih 2 d p (by decide))
    | 2, _ =>
      show Ne (pFact n B (P n B se f) d p)
      unfold pFact
      repeat' split
      · exact ne_emi
      · exact ne_l
      · exact ne_nee (ih 0 _ _ (by decide))
      · exact ne_l
      · intro p' c' e; cases e; simp
      · cases h : P n B se f 3 d p with
        | inl e => exact ne_l
        | inr y =>
          unfold cmpr
          show Ne (if tk n B y.1 = 3 ∧ (tv n B y.1 = 60 ∨ tv n B y.1 = 62 ∨ tv n B y.1 = 61) then emi (bnd (.inr (te n B y.1, y.2)) (P n B se f 3 d)) (if tv n B y.1 = 60 then -13 else if tv n B y.1 = 62 then -14 else -15) else .inl (1, (tsp n B y.1 : Int)))
          split
          · exact ne_emi
          · exact ne_l
    | 3, _ => exact ne_bnd (ih 4 d p (by decide))
    | 4, _ => exact ne_bnd (ih 5 d p (by decide))
    | 5, _ =>
      show Ne (pPart n B se (P n B se f) d p)
      unfold pPart pPair pIf
      repeat' split
      all_goals first
        | exact ne_l
        | exact ne_emi
        | exact ne_nee (ih 3 _ _ (by decide))
        | exact ne_see _ _
        | (intro p' c' e; cases e; simp)
section MFO
variable {Kb K H I : HI} {m n p f : Nat} {Q : Option AV → HI → Prop}
theorem RDr_fo {K1 K2 : HI} {k0 : Nat} {c : List Int} (hf : f < 4) (hR : RDr I K m) (hk0 : I 12 7 = (k0 : Int)) (hc : c ≠ []) (hK1 : K1 = up (up K 57 35 (2 * (seO f : Int))) 71 (4 * m + f) (I 12 7)) (hRd : RdR K1 m k0 c K2) : RDr (up (stW (foI I f) k0 c) 19 f ((k0 + c.length : Nat) : Int)) (up K2 72 (4 * m + f) ((k0 + c.length : Nat) : Int)) m := by
  obtain ⟨h1, h2, h3, h4, h5, h6⟩ := hR
  obtain ⟨⟨x, f1, f2, f3⟩, d2, d3⟩ := hRd
  have hcl : 0 < c.length := List.length_pos_iff.2 hc
  have iI : ∀ q k, q ≠ 17 → q ≠ 18 → q ≠ 19 → q ≠ 26 → ¬ (q = 12 ∧ k = 7) → up (stW (foI I f) k0 c) 19 f ((k0 + c.length : Nat) : Int) q k = I q k := by
    intro q k a1 a2 a3 a4 a5
    rw [up_ap, if_neg (by omega)]
    unfold stW foI
    by_cases e : q = 12
    · subst e
      rw [if_neg (by decide), if_pos rfl, if_neg (by omega), up_ap, if_neg (by omega), up_ap, if_neg (by omega)]
    · rw [if_neg a1, if_neg e, up_ap, if_neg (by omega), up_ap, if_neg (by omega)]
  have i7 : up (stW (foI I f) k0 c) 19 f ((k0 + c.length : Nat) : Int) 12 7 = ((k0 + c.length : Nat) : Int) := by
    rw [up_ap, if_neg (by omega)]
    rfl
  have i17 : ∀ j, up (stW (foI I f) k0 c) 19 f ((k0 + c.length : Nat) : Int) 17 j = if k0 ≤ j ∧ j < k0 + c.length then c.getD (j - k0) 0 else I 17 j := by
    intro j
    rw [up_ap, if_neg (by omega)]
    have e17 : foI I f 17 j = I 17 j := by
      unfold foI
      rw [up_ap, if_neg (by omega), up_ap, if_neg (by omega)]
    show (if k0 ≤ j ∧ j < k0 + c.length then c.getD (j - k0) 0 else foI I f 17 j) = _
    rw [e17]
  have i18 : ∀ j, up (stW (foI I f) k0 c) 19 f ((k0 + c.length : Nat) : Int) 18 j = if j = f then I 12 7 else I 18 j := by
    intro j
    rw [up_ap, if_neg (by omega)]
    show foI I f 18 j = _
    unfold foI
    rw [up_ap]
    by_cases e : j = f
    · rw [if_pos ⟨rfl, e⟩, if_pos e]
    · rw [if_neg (by omega), if_neg e, up_ap, if_neg (by omega)]
  have i19 : ∀ j, up (stW (foI I f) k0 c) 19 f ((k0 + c.length : Nat) : Int) 19 j = if j = f then ((k0 + c.length : Nat) : Int) else I 19 j := by
    intro j
    rw [up_ap]
    by_cases e : j = f
    · rw [if_pos ⟨rfl, e⟩, if_pos e]
    · rw [if_neg (by omega), if_neg e]
      show foI I f 19 j = _
      unfold foI
      rw [up_ap, if_neg (by omega), up_ap, if_neg (by omega)]
  have kK : ∀ q j, 59 ≤ q ∧ q ≤ 77 → q ≠ 71 → q ≠ 72 → q ≠ 73 → q ≠ 74 → up K2 72 (4 * m + f) ((k0 + c.length : Nat) : Int) q j = K q j := by
    intro q j a1 a2 a3 a4 a5
    rw [up_ap, if_neg (by omega), f1 q (by omega) a4 a5 (by omega), up_ap, if_neg (by omega), hK1, up_ap, if_neg (by omega), up_ap, if_neg (by omega)]
  have k34 : up K2 72 (4 * m + f) ((k0 + c.length : Nat) : Int) 57 34 = K 57 34 := by
    rw [up_ap, if_neg (by omega), f2 34 (by decide) (by decide) (by decide) (by decide), up_ap, if_neg (by omega), hK1, up_ap, if_neg (by omega), up_ap, if_neg (by omega)]
  have k71 : ∀ j, up K2 72 (4 * m + f) ((k0 + c.length : Nat) : Int) 71 j = if j = 4 * m + f then I 12 7 else K 71 j := by
    intro j
    rw [up_ap, if_neg (by omega), f1 71 (by decide) (by decide) (by decide) (by omega), up_ap, if_neg (by omega), hK1, up_ap]
    by_cases e : j = 4 * m + f
    · rw [if_pos ⟨rfl, e⟩, if_pos e]
    · rw [if_neg (by omega), if_neg e, up_ap, if_neg (by omega)]
  have k72 : ∀ j, up K2 72 (4 * m + f) ((k0 + c.length : Nat) : Int) 72 j = if j = 4 * m + f then ((k0 + c.length : Nat) : Int) else K 72 j := by
    intro j
    rw [up_ap]
    by_cases e : j = 4 * m + f
    · rw [if_pos ⟨rfl, e⟩, if_pos e]
    · rw [if_neg (by omega), if_neg e, f1 72 (by decide) (by decide) (by decide) (by omega), up_ap, if_neg (by omega), hK1, up_ap, if_neg (by omega), up_ap, if_neg (by omega)]
  have kcd : ∀ q j, q = 73 ∨ q = 74 → j < k0 → up K2 72 (4 * m + f) ((k0 + c.length : Nat) : Int) q (1600 * m + j) = K q (1600 * m + j) := by
    intro q j a b
    rw [up_ap, if_neg (by omega), f3 q _ a (by omega), up_ap, if_neg (by omega), hK1, up_ap, if_neg (by omega), up_ap, if_neg (by omega)]
  refine ⟨RDn_I (RDn_K h1 k34 (fun q hq => by funext j; exact kK q j (by omega) (by omega) (by omega) (by omega) (by omega))) (by funext j; exact iI 13 j (by decide) (by decide) (by decide) (by decide) (by omega)) (by funext j; exact iI 14 j (by decide) (by decide) (by decide) (by decide) (by omega)), fun w hw => ?_, fun s hs => ?_, fun b hb => ?_, ?_, ?_, fun j hj => ?_, fun g hg => ?_⟩
  · rw [iI 13 0 (by decide) (by decide) (by decide) (by decide) (by omega)] at hw
    rw [kK 60 _ (by decide) (by decide) (by decide) (by decide) (by decide), kK 61 _ (by decide) (by decide) (by decide) (by decide) (by decide), iI 15 _ (by decide) (by decide) (by decide) (by decide) (by omega), iI 16 _ (by decide) (by decide) (by decide) (by decide) (by omega)]
    exact h2 w hw
  · rw [iI 13 1 (by decide) (by decide) (by decide) (by decide) (by omega)] at hs
    obtain ⟨a1, a2, a3, a4⟩ := h3 s hs
    refine ⟨?_, ?_, ?_, fun c' hc' => ?_⟩
    · rw [kK 63 _ (by decide) (by decide) (by decide) (by decide) (by decide), iI 15 _ (by decide) (by decide) (by decide) (by decide) (by omega)]; exact a1
    · rw [kK 64 _ (by decide) (by decide) (by decide) (by decide) (by decide), iI 16 _ (by decide) (by decide) (by decide) (by decide) (by omega)]; exact a2
    · rw [kK 65 _ (by decide) (by decide) (by decide) (by decide) (by decide), iI 21 _ (by decide) (by decide) (by decide) (by decide) (by omega)]; exact a3
    · rw [kK 66 _ (by decide) (by decide) (by decide) (by decide) (by decide), iI 22 _ (by decide) (by decide) (by decide) (by decide) (by omega)]; exact a4 c' hc'
  · rw [iI 13 2 (by decide) (by decide) (by decide) (by decide) (by omega)] at hb
    rw [kK 68 _ (by decide) (by decide) (by decide) (by decide) (by decide), kK 69 _ (by decide) (by decide) (by decide) (by decide) (by decide), iI 15 _ (by decide) (by decide) (by decide) (by decide) (by omega), iI 16 _ (by decide) (by decide) (by decide) (by decide) (by omega)]
    exact h4 b hb
  · unfold RDg
    rw [kK 70 _ (by decide) (by decide) (by decide) (by decide) (by decide), iI 12 8 (by decide) (by decide) (by decide) (by decide) (by omega)]
    exact h5
  · rw [i7, up_ap, if_neg (by omega)]
    exact d2
  · rw [i7] at hj
    rw [i17]
    by_cases e : k0 ≤ j
    · rw [if_pos ⟨e, by omega⟩]
      have := d3 (j - k0) (c.getD (j - k0) 0) (by
        rw [List.getD_eq_getElem?_getD, List.getElem?_eq_getElem (by omega)]
        rfl)
      rw [show 1600 * m + k0 + (j - k0) = 1600 * m + j by omega] at this
      rw [up_ap, if_neg (by omega), up_ap, if_neg (by omega)]
      exact this
    · rw [if_neg (by omega), kcd 73 j (Or.inl rfl) (by omega), kcd 74 j (Or.inr rfl) (by omega)]
      exact h6.2.1 j (by omega)
  · rw [k71, k72, i18, i19, i7]
    by_cases e : g = f
    · subst e
      rw [if_pos rfl, if_pos rfl, if_pos rfl, if_pos rfl]
      exact Or.inr ⟨rfl, rfl, by omega, by omega, by omega⟩
    · rw [if_neg (show ¬ 4 * m + g = 4 * m + f by omega), if_neg (show ¬ 4 * m + g = 4 * m + f by omega), if_neg e, if_neg e]
      rcases h6.2.2 g hg with a | a
      · exact Or.inl a
      · exact Or.inr ⟨a.1, a.2.1, a.2.2.1, a.2.2.2.1, by have := a.2.2.2.2; omega⟩
theorem mr_reading (hT : MTx Kb n (I 2)) (hF : FrB Kb m K) (hR : RDr I K m) (hI : DI I p) (hp : p ≤ n) (hf : f < 4) (hk : tk n (I 2) p = 1) (hM : Mok K n (I 2) p H) (kq : ∀ H', MSO n m Kb I (stFo n I f p) H' → Q none H') : Rj MX12_reading 5 [aR 57, aI (f : Int)] H Q := by
  refine rj_of okX12_reading (Nat.le_of_ble_eq_true rfl) rfl ?_
  have hm := hR.1.2.1
  have hTK := MTx_B hT hF
  have hn := hT.2.1
  have h127 := hI.2.2.1
  have h127b := hI.2.2.2.1
  have hte := te_gp (Or.inl hk : tk n (I 2) p = 1 ∨ tk n (I 2) p = 2 ∨ tk n (I 2) p = 3)
  have ek : I 12 7 = ((I 12 7).toNat : Int) := by omega
  have hc := hR.2.2.2.2.2
  have hse : ∀ f : Fin 4, seO f.val < 256 ∧ (f.val = 3 → (498 : Int) = 2 * (seO f.val : Int)) ∧ (f.val = 2 → (126 : Int) = 2 * (seO f.val : Int)) ∧ (f.val < 2 → (2 : Int) = 2 * (seO f.val : Int)) := by decide
  have hse2 := hse ⟨f, hf⟩
  have fin : ∀ (z : Int) (K2 H2 : HI), z = (4 * m + f : Nat) → (∃ si sa en va wo fk fp lx, H2 = MX K2 si sa en va wo fk fp lx) → (∀ H', H' = up H2 72 (4 * m + f) (H2 57 33) → Q none H') → Bj MX12_reading 5 82 [some (aR 57), some (aI (f : Int)), some (aI z)] [] H2 Q := by
    intro z K2 H2 hz hX kk
    have ez : z.toNat = 4 * m + f := by omega
    refine b_aload_n rfl rfl ?_
    refine b_getR (r := 72) rfl fl12_93 rfl (by decide) rfl rfl ?_
    refine b_iload_n rfl rfl ?_
    refine b_aload_n rfl rfl ?_
    refine b_getI rfl fl12_112 rfl (by decide) rfl ?_
    refine b_iast rfl rfl (by omega) (by omega) ?_
    try simp only [tn6, tn4, tn2, tn144, tn24, tn_cast, Int.reduceToNat]
    refine b_vret rfl rfl ?_
    try rw [ez]
    exact kk _ rfl
  have mxu : ∀ (K2 H2 : HI) (k pl x : Int), Mbad K2 k pl H2 → Mbad (up K2 72 (4 * m + f) x) k pl (up H2 72 (4 * m + f) x) := by
    intro K2 H2 k pl x hb
    obtain ⟨si, sa, en, va, wo, lx, e, h⟩ := hb
    subst e
    exact ⟨si, sa, en, va, wo, lx, MX_ux (by decide), h⟩
  have hb72 : bkw 72 * m ≤ 4 * m + f ∧ 4 * m + f < bkw 72 * m + bkw 72 := by
    show 4 * m ≤ 4 * m + f ∧ 4 * m + f < 4 * m + 4
    omega
  have g32 : ∀ (z : Int) (H1 : HI), z = (4 * m + f : Nat) → ¬ I 18 f < I 19 f → Mok K n (I 2) (te n (I 2) p) H1 → Bj MX12_reading 5 32 [some (aR 57), some (aI (f : Int)), some (aI z)] [] H1 Q := by
    intro z H1 hz hT18 hM1
    have ez : z.toNat = 4 * m + f := by omega
    obtain ⟨si, sa, en, va, wo, lx, e, h⟩ := hM1
    subst e
    have hF1 : FrB Kb m (up (up K 57 35 (2 * (seO f : Int))) 71 (4 * m + f) (I 12 7)) := FrB_up (FrB_57 hF (by decide)) (by decide) hb72
    have h33 : up K 57 35 (2 * (seO f : Int)) 57 33 = I 12 7 := by rw [up_ap, if_neg (by omega)]; exact hc.1
    have hM2 : Mok (up (up K 57 35 (2 * (seO f : Int))) 71 (4 * m + f) (I 12 7)) n (I 2) (te n (I 2) p) (MX (up (up K 57 35 (2 * (seO f : Int))) 71 (4 * m + f) (I 12 7)) si sa en va wo 0 (-1) lx) := ⟨si, sa, en, va, wo, lx, rfl, h⟩
    have eS : stFo n I f p = _ := if_neg hT18
    have rd : ∀ y : Int, y = (if f = 3 then 1 else 0) → Rj MX12_reads 4 [aR 57, aI y] (MX (up (up K 57 35 (2 * (seO f : Int))) 71 (4 * m + f) (I 12 7)) si sa en va wo 0 (-1) lx) (fun rr I' => rr = none ∧ Bj MX12_reading 5 82 [some (aR 57), some (aI (f : Int)), some (aI z)] [] I' Q) := by
      intro y hy
      have em : (if y = 1 then 0 else 3) = (if f = 3 then 0 else 3) := by
        by_cases e : f = 3
        · rw [if_pos e] at hy
          rw [if_pos hy, if_pos e]
        · rw [if_neg e] at hy
          rw [if_neg (by omega), if_neg e]
      refine mc_reads (m := m) (k0 := (I 12 7).toNat) (se := seO f) (p := te n (I 2) p) (by split at hy <;> omega) (MTx_B hT hF1) hm ⟨by rw [up_ap, if_neg (by omega), up_ap, if_pos ⟨rfl, rfl⟩], hse2.1⟩ (by rw [up_ap, if_neg (by omega), h33]; exact ek) (by rw [up_ap, if_neg (by omega), up_ap, if_neg (by omega)]; exact hR.1.1) hte.2 (by omega) hM2 (fun e K2 H2 eP hx hb => ⟨rfl, ?_⟩) (fun p' c K2 H2 eP h4 hx hb => ⟨rfl, ?_⟩) (fun p' c K2 H2 eP h4 hRd hM3 => ⟨rfl, ?_⟩)
      · rw [em] at eP
        obtain ⟨x, hx⟩ := hx
        have hb' := hb
        obtain ⟨s1, s2, s3, s4, s5, s6, s7, _⟩ := hb'
        refine fin z K2 H2 hz ⟨_, _, _, _, _, _, _, _, s7⟩ (fun H' e' => ?_)
        rw [e']
        exact kq _ (MSO_l (k := e.1) (pl := e.2) (eS.trans (by rw [eP])) (FrB_up (FrB_F hF1 hx) (by decide) hb72) (mxu _ _ _ _ _ hb))
      · rw [em] at eP
        obtain ⟨x, hx⟩ := hx
        have hb' := hb
        obtain ⟨s1, s2, s3, s4, s5, s6, s7, _⟩ := hb'
        refine fin z K2 H2 hz ⟨_, _, _, _, _, _, _, _, s7⟩ (fun H' e' => ?_)
        rw [e']
        refine kq _ (MSO_e (eS.trans (by rw [eP])) ?_)
        exact Or.inr ⟨h4, _, FrB_up (FrB_F hF1 hx) (by decide) hb72, mxu _ _ _ _ _ hb⟩
      · rw [em] at eP
        have hRd' := hRd
        obtain ⟨⟨x, hx⟩, d2, d3⟩ := hRd
        obtain ⟨s1, s2, s3, s4, s5, s6, s7, hs⟩ := hM3
        refine fin z K2 H2 hz ⟨_, _, _, _, _, _, _, _, s7⟩ (fun H' e' => ?_)
        rw [e', s7, MXo (by decide), d2, MX_ux (by decide)]
        have hcne : c ≠ [] := ne_P _ _ _ _ (by split <;> decide) p' c eP
        refine kq _ (MSO_r (eS.trans (by rw [eP])) (FrB_up (FrB_F hF1 hx) (by decide) hb72) (RDr_fo hf hR ek hcne rfl hRd') ⟨s1, s2, s3, s4, s5, s6, rfl, hs⟩)
    refine b_aload_n rfl rfl ?_
    refine b_iload_n rfl rfl ?_
    refine b_iconst rfl (by decide) ?_
    refine b_icmp_ne (tgt := 44) rfl rfl (fun c35 => ?_) (fun c35 => ?_)
    · refine b_iload_n rfl rfl ?_
      refine b_iconst rfl (by decide) ?_
      refine b_icmp_ne (tgt := 54) rfl rfl (fun c46 => ?_) (fun c46 => ?_)
      · refine b_iconst rfl (by decide) ?_
        first
        | rw [show (498 : Int) = 2 * (seO f : Int) from hse2.2.1 (by show f = 3; omega)]
        | rw [show (126 : Int) = 2 * (seO f : Int) from hse2.2.2.1 (by show f = 2; omega)]
        | rw [show (2 : Int) = 2 * (seO f : Int) from hse2.2.2.2 (by show f < 2; omega)]
        refine b_putI rfl fl12_118 rfl (by decide) rfl ?_
        rw [MX_uo (by decide)]
        refine b_aload_n rfl rfl ?_
        refine b_getR (r := 71) rfl fl12_90 rfl (by decide) rfl rfl ?_
        refine b_iload_n rfl rfl ?_
        refine b_aload_n rfl rfl ?_
        refine b_getI rfl fl12_112 rfl (by decide) rfl ?_
        rw [MXo (by decide)]
        try simp only [up_ap, cpy_ap, fil_ap, row_ap, Nat.reduceEqDiff, Nat.reduceLT, Nat.reduceLeDiff, Int.toNat_natCast, Int.reduceToNat, reduceCtorEq, false_and, and_false, true_and, and_true, and_self, reduceIte]
        rw [hc.1]
        refine b_iast rfl rfl (by omega) (by omega) ?_
        try simp only [tn6, tn4, tn2, tn144, tn24, tn_cast, Int.reduceToNat]
        rw [MX_ux (by decide)]
        try rw [ez]
        refine b_aload_n rfl rfl ?_
        refine b_iload_n rfl rfl ?_
        refine b_iconst rfl (by decide) ?_
        refine b_icmp_ne (tgt := 78) rfl rfl (fun c71 => ?_) (fun c71 => ?_)
        · refine b_iconst rfl (by decide) ?_
          refine b_callV1v (ν := MX12_reads) rfl ml12_386 cvX12_reads (d' := 4) (by omega) rfl (by decide) rfl (Nat.le_of_ble_eq_true rfl) ?_
          first
          | (have e3 : f = 3 := by omega
             exact rd _ (if_pos e3).symm)
          | (have e3 : ¬ f = 3 := by omega
             exact rd _ (if_neg e3).symm)
        · refine b_iconst rfl (by decide) ?_
          refine b_goto (tgt := 79) rfl rfl ?_
          refine b_callV1v (ν := MX12_reads) rfl ml12_386 cvX12_reads (d' := 4) (by omega) rfl (by decide) rfl (Nat.le_of_ble_eq_true rfl) ?_
          first
          | (have e3 : f = 3 := by omega
             exact rd _ (if_pos e3).symm)
          | (have e3 : ¬ f = 3 := by omega
             exact rd _ (if_neg e3).symm)
      · refine b_bipush rfl (by decide) ?_
        refine b_goto (tgt := 55) rfl rfl ?_
        first
        | rw [show (498 : Int) = 2 * (seO f : Int) from hse2.2.1 (by show f = 3; omega)]
        | rw [show (126 : Int) = 2 * (seO f : Int) from hse2.2.2.1 (by show f = 2; omega)]
        | rw [show (2 : Int) = 2 * (seO f : Int) from hse2.2.2.2 (by show f < 2; omega)]
        refine b_putI rfl fl12_118 rfl (by decide) rfl ?_
        rw [MX_uo (by decide)]
        refine b_aload_n rfl rfl ?_
        refine b_getR (r := 71) rfl fl12_90 rfl (by decide) rfl rfl ?_
        refine b_iload_n rfl rfl ?_
        refine b_aload_n rfl rfl ?_
        refine b_getI rfl fl12_112 rfl (by decide) rfl ?_
        rw [MXo (by decide)]
        try simp only [up_ap, cpy_ap, fil_ap, row_ap, Nat.reduceEqDiff, Nat.reduceLT, Nat.reduceLeDiff, Int.toNat_natCast, Int.reduceToNat, reduceCtorEq, false_and, and_false, true_and, and_true, and_self, reduceIte]
        rw [hc.1]
        refine b_iast rfl rfl (by omega) (by omega) ?_
        try simp only [tn6, tn4, tn2, tn144, tn24, tn_cast, Int.reduceToNat]
        rw [MX_ux (by decide)]
        try rw [ez]
        refine b_aload_n rfl rfl ?_
        refine b_iload_n rfl rfl ?_
        refine b_iconst rfl (by decide) ?_
        refine b_icmp_ne (tgt := 78) rfl rfl (fun c71 => ?_) (fun c71 => ?_)
        · refine b_iconst rfl (by decide) ?_
          refine b_callV1v (ν := MX12_reads) rfl ml12_386 cvX12_reads (d' := 4) (by omega) rfl (by decide) rfl (Nat.le_of_ble_eq_true rfl) ?_
          first
          | (have e3 : f = 3 := by omega
             exact rd _ (if_pos e3).symm)
          | (have e3 : ¬ f = 3 := by omega
             exact rd _ (if_neg e3).symm)
        · refine b_iconst rfl (by decide) ?_
          refine b_goto (tgt := 79) rfl rfl ?_
          refine b_callV1v (ν := MX12_reads) rfl ml12_386 cvX12_reads (d' := 4) (by omega) rfl (by decide) rfl (Nat.le_of_ble_eq_true rfl) ?_
          first
          | (have e3 : f = 3 := by omega
             exact rd _ (if_pos e3).symm)
          | (have e3 : ¬ f = 3 := by omega
             exact rd _ (if_neg e3).symm)
    · refine b_sipush rfl (by decide) ?_
      refine b_goto (tgt := 55) rfl rfl ?_
      first
      | rw [show (498 : Int) = 2 * (seO f : Int) from hse2.2.1 (by show f = 3; omega)]
      | rw [show (126 : Int) = 2 * (seO f : Int) from hse2.2.2.1 (by show f = 2; omega)]
      | rw [show (2 : Int) = 2 * (seO f : Int) from hse2.2.2.2 (by show f < 2; omega)]
      refine b_putI rfl fl12_118 rfl (by decide) rfl ?_
      rw [MX_uo (by decide)]
      refine b_aload_n rfl rfl ?_
      refine b_getR (r := 71) rfl fl12_90 rfl (by decide) rfl rfl ?_
      refine b_iload_n rfl rfl ?_
      refine b_aload_n rfl rfl ?_
      refine b_getI rfl fl12_112 rfl (by decide) rfl ?_
      rw [MXo (by decide)]
      try simp only [up_ap, cpy_ap, fil_ap, row_ap, Nat.reduceEqDiff, Nat.reduceLT, Nat.reduceLeDiff, Int.toNat_natCast, Int.reduceToNat, reduceCtorEq, false_and, and_false, true_and, and_true, and_self, reduceIte]
      rw [hc.1]
      refine b_iast rfl rfl (by omega) (by omega) ?_
      try simp only [tn6, tn4, tn2, tn144, tn24, tn_cast, Int.reduceToNat]
      rw [MX_ux (by decide)]
      try rw [ez]
      refine b_aload_n rfl rfl ?_
      refine b_iload_n rfl rfl ?_
      refine b_iconst rfl (by decide) ?_
      refine b_icmp_ne (tgt := 78) rfl rfl (fun c71 => ?_) (fun c71 => ?_)
      · refine b_iconst rfl (by decide) ?_
        refine b_callV1v (ν := MX12_reads) rfl ml12_386 cvX12_reads (d' := 4) (by omega) rfl (by decide) rfl (Nat.le_of_ble_eq_true rfl) ?_
        first
        | (have e3 : f = 3 := by omega
           exact rd _ (if_pos e3).symm)
        | (have e3 : ¬ f = 3 := by omega
           exact rd _ (if_neg e3).symm)
      · refine b_iconst rfl (by decide) ?_
        refine b_goto (tgt := 79) rfl rfl ?_
        refine b_callV1v (ν := MX12_reads) rfl ml12_386 cvX12_reads (d' := 4) (by omega) rfl (by decide) rfl (Nat.le_of_ble_eq_true rfl) ?_
        first
        | (have e3 : f = 3 := by omega
           exact rd _ (if_pos e3).symm)
        | (have e3 : ¬ f = 3 := by omega
           exact rd _ (if_neg e3).symm)
  have h34 : H 57 34 = (m : Int) := by rw [Mok_g hM (by decide)]; exact hR.1.1
  have h71 : H 71 (4 * m + f) = K 71 (4 * m + f) := by rw [Mok_q hM (by decide)]
  have hff := hc.2.2 f hf
  refine b_iconst rfl (by decide) ?_
  refine b_aload_n rfl rfl ?_
  refine b_getI rfl fl12_115 rfl (by decide) rfl ?_
  rw [h34]
  refine b_imulN rfl (by omega) (by omega) ?_
  refine b_iload_n rfl rfl ?_
  refine b_iaddN rfl (by omega) (by omega) ?_
  refine b_istoreX_n (F := fun z8 => [some (aR 57), some (aI (f : Int)), some (aI z8)]) rfl (by decide) (fun _ => rfl) (fun z8 ez8 => ?_)
  refine b_aload_n rfl rfl ?_
  refine b_aload_n rfl rfl ?_
  refine b_getR (r := 71) rfl fl12_90 rfl (by decide) rfl rfl ?_
  refine b_iload_n rfl rfl ?_
  refine b_iald rfl rfl (by omega) (by omega) ?_
  try simp only [tn6, tn4, tn2, tn144, tn24, tn_cast, Int.reduceToNat]
  rw [show z8.toNat = 4 * m + f by omega, h71]
  refine b_iconst rfl (by decide) ?_
  refine b_icmp_eq (tgt := 24) rfl rfl (fun c17 => ?_) (fun c17 => ?_)
  · refine b_iconst rfl (by decide) ?_
    refine b_callV1i (ν := MX12_counts) rfl ml12_368 cvX12_counts (d' := 2) (by omega) rfl (by decide) rfl (Nat.le_of_ble_eq_true rfl) ?_
    refine mk_counts (by omega) hTK hM hk (fun hz H1 hM1 => ?_) (fun hz H1 hb => ?_)
    · refine ⟨_, rfl, ?_⟩
      refine b_if_ne (tgt := 32) rfl rfl (fun _ => ?_) (fun z => absurd z (by decide))
      first
      | (exfalso; omega)
      | exact g32 _ _ (by omega) (by omega) hM1
    · refine ⟨_, rfl, ?_⟩
      refine b_if_ne (tgt := 32) rfl rfl (fun z => absurd z (by decide)) (fun _ => ?_)
      refine b_vret rfl rfl ?_
      first
      | (exfalso; omega)
      | exact kq _ (MSO_l (if_pos (by omega)) hF hb)
  · refine b_iconst rfl (by decide) ?_
    refine b_goto (tgt := 25) rfl rfl ?_
    refine b_callV1i (ν := MX12_counts) rfl ml12_368 cvX12_counts (d' := 2) (by omega) rfl (by decide) rfl (Nat.le_of_ble_eq_true rfl) ?_
    refine mk_counts (by omega) hTK hM hk (fun hz H1 hM1 => ?_) (fun hz H1 hb => ?_)
    · refine ⟨_, rfl, ?_⟩
      refine b_if_ne (tgt := 32) rfl rfl (fun _ => ?_) (fun z => absurd z (by decide))
      first
      | (exfalso; omega)
      | exact g32 _ _ (by omega) (by omega) hM1
    · refine ⟨_, rfl, ?_⟩
      refine b_if_ne (tgt := 32) rfl rfl (fun z => absurd z (by decide)) (fun _ => ?_)
      refine b_vret rfl rfl ?_
      first
      | (exfalso; omega)
      | exact kq _ (MSO_l (if_pos (by omega)) hF hb)
end MFO
