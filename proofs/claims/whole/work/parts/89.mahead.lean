/-! ===== the reference: ahead ===== -/
theorem lShl_8 {x : Nat} (hx : x < 281474976710656) : lShl (x : Int) 8 = ((2 ^ 8 * x : Nat) : Int) := by
  unfold lShl
  have h1 : (Int64.ofInt (x : Int) <<< ((Int32.ofInt ((8 : Nat) : Int)).toInt64 &&& 63)) = Int64.ofInt ((2 ^ 8 * x : Nat) : Int) := by
    apply Int64.toBitVec_inj.1
    show (BitVec.ofInt 64 (x : Int)) <<< (((Int32.ofInt ((8 : Nat) : Int)).toInt64 &&& 63).toBitVec.smod 64).toNat = BitVec.ofInt 64 ((2 ^ 8 * x : Nat) : Int)
    rw [lSh_s 8 (by decide), BitVec.ofInt_natCast, BitVec.ofInt_natCast]
    apply BitVec.eq_of_toNat_eq
    rw [BitVec.toNat_shiftLeft, BitVec.toNat_ofNat, BitVec.toNat_ofNat, Nat.shiftLeft_eq]
    omega
  have h2 : lShl (x : Int) 8 = (Int64.ofInt (x : Int) <<< ((Int32.ofInt ((8 : Nat) : Int)).toInt64 &&& 63)).toInt := rfl
  show (Int64.ofInt (x : Int) <<< ((Int32.ofInt ((8 : Nat) : Int)).toInt64 &&& 63)).toInt = _
  rw [h1]
  exact t64_of ⟨by omega, by omega⟩
theorem lOr_nat {a b : Nat} (h : a ||| b < 9223372036854775808) : lOr (a : Int) (b : Int) = ((a ||| b : Nat) : Int) := by
  have e : Int64.ofInt (a : Int) ||| Int64.ofInt (b : Int) = Int64.ofInt ((a ||| b : Nat) : Int) := by
    apply Int64.toBitVec_inj.1
    show BitVec.ofInt 64 (a : Int) ||| BitVec.ofInt 64 (b : Int) = BitVec.ofInt 64 ((a ||| b : Nat) : Int)
    rw [BitVec.ofInt_natCast, BitVec.ofInt_natCast, BitVec.ofInt_natCast]
    apply BitVec.eq_of_getLsbD_eq
    intro i hi
    simp [hi]
  unfold lOr
  rw [e]
  exact t64_of ⟨by omega, by omega⟩
theorem lwo8 {a b : Int} (ha : 0 ≤ a ∧ a < 281474976710656) (hb : 0 ≤ b ∧ b < 256) : lOr (lShl a 8) b = a * 256 + b := by
  obtain ⟨x, rfl⟩ : ∃ x : Nat, a = (x : Int) := ⟨a.toNat, by omega⟩
  obtain ⟨y, rfl⟩ : ∃ y : Nat, b = (y : Int) := ⟨b.toNat, by omega⟩
  have e3 : 2 ^ 8 * x + y = 2 ^ 8 * x ||| y := Nat.two_pow_add_eq_or_of_lt (by omega) x
  rw [lShl_8 (by omega), lOr_nat (by omega), ← e3]
  omega
def MTx (K : HI) (n : Nat) (B : Nat → Int) : Prop := K 57 2 = (n : Int) ∧ n ≤ 1600 ∧ (∀ k, k < n → K 58 k = B k) ∧ ∀ k, 0 ≤ B k ∧ B k < 256
/-- no fault, the token behind p is the one ahead -/
def Mok (K : HI) (n : Nat) (B : Nat → Int) (p : Nat) (H : HI) : Prop := ∃ si sa en va wo lx : Int, H = MX K si sa en va wo 0 (-1) lx ∧ sa = (tq n B p : Int) ∧ (tk n B p ≠ 4 → lx = -1 ∧ si = (tk n B p : Int)) ∧ (tk n B p = 4 → lx = (tsp n B p : Int) ∧ si ≠ 0) ∧ (tk n B p ≠ 4 → en = (te n B p : Int)) ∧ (tk n B p = 1 → wo = t8 n B p) ∧ (tk n B p = 2 ∨ tk n B p = 3 → va = tv n B p)
def Mbad (K : HI) (k pl : Int) (H : HI) : Prop := ∃ si sa en va wo lx : Int, H = MX K si sa en va wo k pl lx ∧ 0 < k
/-- the first letters as a word -/
def wv (B : Nat → Int) (t i : Nat) : Int := (e8 (fun j => (B (t + j) - 96).toNat) i : Int)
theorem wv_s {B : Nat → Int} {t i : Nat} (h : isLet (B (t + i))) : wv B t (i + 1) = wv B t i * 256 + B (t + i) := by
  unfold wv
  rw [show e8 (fun j => (B (t + j) - 96).toNat) (i + 1) = e8 (fun j => (B (t + j) - 96).toNat) i * 256 + ((B (t + i) - 96).toNat + 96) from rfl]
  unfold isLet at h
  generalize e8 (fun j => (B (t + j) - 96).toNat) i = a
  omega
theorem wv_b {B : Nat → Int} {t : Nat} : ∀ i, (∀ j, j < i → isLet (B (t + j))) → 0 ≤ wv B t i ∧ wv B t i < 256 ^ i := by
  intro i
  induction i with
  | zero => intro _; exact ⟨by unfold wv; omega, by show wv B t 0 < 1; unfold wv; rw [show e8 (fun j => (B (t + j) - 96).toNat) 0 = 0 from rfl]; omega⟩
  | succ i ih =>
    intro h
    have h1 := ih (fun j hj => h j (by omega))
    have h2 := h i (by omega)
    rw [wv_s h2, Int.pow_succ]
    unfold isLet at h2
    omega
theorem wv_t8 {n : Nat} {B : Nat → Int} {p : Nat} : t8 n B p = wv B (tq n B p) (tln n B p) := by
  unfold t8 wv
  have : ∀ i, i ≤ tln n B p → e8 (tl n B p) i = e8 (fun j => (B (tq n B p + j) - 96).toNat) i := by
    intro i
    induction i with
    | zero => intro _; rfl
    | succ i ih =>
      intro hi
      rw [show e8 (tl n B p) (i + 1) = e8 (tl n B p) i * 256 + (tl n B p i + 96) from rfl, ih (by omega), show tl n B p i = (B (tq n B p + i) - 96).toNat from if_pos (by omega)]
      rfl
  rw [this _ (Nat.le_refl _)]
theorem run_full {pr : Int → Prop} [DecidablePred pr] {n : Nat} {B : Nat → Int} : ∀ (f q i : Nat), i ≤ f → (∀ j, j < i → q + j < n ∧ pr (B (q + j))) → (i = f ∨ ¬ (q + i < n ∧ pr (B (q + i)))) → runF pr n B f q = i := by
  intro f q i hi h1 h2
  have r1 := run_le (pr := pr) (n := n) (B := B) f q
  by_cases e : runF pr n B f q < i
  · exact absurd (h1 _ e) (run_end f q (by omega))
  · by_cases e2 : i < runF pr n B f q
    · rcases h2 with h2 | h2
      · omega
      · exact absurd (run_in f q i e2) h2
    · omega
section AHD
variable {K : HI} {Q : Option AV → HI → Prop} {n p : Nat} {B : Nat → Int}
theorem Mok_3 {si sa en va wo lx : Int} (h3 : tk n B p = 3) (h1 : sa = (tq n B p : Int)) (h2 : si = 3) (h4 : lx = -1) (h5 : en = (tq n B p : Int) + 1) (h6 : va = B (tq n B p)) : Mok K n B p (MX K si sa en va wo 0 (-1) lx) := by
  refine ⟨si, sa, en, va, wo, lx, rfl, h1, fun _ => ⟨h4, by omega⟩, fun z => by omega, fun _ => by rw [te_3 h3]; omega, fun z => by omega, fun _ => ?_⟩
  rw [h6]
  unfold tv
  rw [if_neg (by omega), if_neg (by omega), if_pos h3]
theorem Mok_0 {si sa en va wo lx : Int} (h3 : tk n B p = 0) (h1 : sa = (tq n B p : Int)) (h2 : si = 0) (h4 : lx = -1) (h5 : en = (tq n B p : Int)) : Mok K n B p (MX K si sa en va wo 0 (-1) lx) := by
  refine ⟨si, sa, en, va, wo, lx, rfl, h1, fun _ => ⟨h4, by omega⟩, fun z => by omega, fun z => ?_, fun z => by omega, fun z => by omega⟩
  rw [h5]
  unfold te
  rw [if_neg (by omega), if_neg (by omega), if_neg (by omega)]
theorem Mok_4 {si sa en va wo lx : Int} (h3 : tk n B p = 4) (h1 : sa = (tq n B p : Int)) (h2 : si ≠ 0) (h4 : lx = (tsp n B p : Int)) : Mok K n B p (MX K si sa en va wo 0 (-1) lx) := ⟨si, sa, en, va, wo, lx, rfl, h1, fun z => absurd h3 z, fun _ => ⟨h4, h2⟩, fun z => absurd h3 z, fun z => by omega, fun z => by omega⟩
theorem Mok_1 {si sa en va wo lx : Int} (h3 : tk n B p = 1) (h1 : sa = (tq n B p : Int)) (h2 : si = 1) (h4 : lx = -1) (h5 : en = (tq n B p + tln n B p : Nat)) (h6 : wo = wv B (tq n B p) (tln n B p)) : Mok K n B p (MX K si sa en va wo 0 (-1) lx) := by
  refine ⟨si, sa, en, va, wo, lx, rfl, h1, fun _ => ⟨h4, by omega⟩, fun z => by omega, fun _ => by rw [te_1 h3]; exact h5, fun _ => by rw [wv_t8]; exact h6, fun z => by omega⟩
theorem Mok_2 {si sa en va wo lx : Int} (h3 : tk n B p = 2) (h1 : sa = (tq n B p : Int)) (h2 : si = 2) (h4 : lx = -1) (h5 : en = (tq n B p + runF isDig n B 5 (tq n B p) : Nat)) (h6 : va = nv B (tq n B p) (runF isDig n B 5 (tq n B p))) : Mok K n B p (MX K si sa en va wo 0 (-1) lx) := by
  refine ⟨si, sa, en, va, wo, lx, rfl, h1, fun _ => ⟨h4, by omega⟩, fun z => by omega, fun _ => by rw [te_2 h3]; exact h5, fun z => by omega, fun _ => ?_⟩
  rw [h6]
  unfold tv
  rw [if_neg (by omega), if_pos h3]
set_option maxRecDepth 16000 in
set_option maxHeartbeats 2000000 in
theorem sp_ahead {q : Nat} {si sa en va wo lx : Int} (hT : MTx K n B) (hq : okp n B q) (hen : en = (q : Int)) (kq : ∀ H', Mok K n B q H' → Q none H') : Rj MX12_ahead 1 [aR 57] (MX K si sa en va wo 0 (-1) lx) Q := by
  obtain ⟨hT1, hT2, hT3, hT4⟩ := hT
  refine rj_of okX12_ahead (Nat.le_of_ble_eq_true rfl) rfl ?_
  generalize ht : tq n B q = t at *
  have htn : t ≤ n := by rw [← ht]; exact tq_le hq.1
  have htq : q ≤ t := by rw [← ht]; exact tq_ge
  have hend : ¬ (t < n ∧ isBl (B t)) := by rw [← ht]; exact tq_end
  -- the end of the run
  have fin : ∀ (z1 z2 z3 z4 z5 si va wo lx : Int), (∀ en, en = z1 → Mok K n B q (MX K si t en va wo 0 (-1) lx)) → Bj MX12_ahead 1 334 [some (aR 57), some (aI z1), some (aI z2), some (aI z3), some (aI z4), some (aI z5)] [] (MX K si t (t + 1) va wo 0 (-1) lx) Q := by
    intro z1 z2 z3 z4 z5 si va wo lx hM
    refine b_aload_n rfl rfl ?_
    refine b_iload_n rfl rfl ?_
    refine b_putI rfl fl12_26 rfl (by decide) rfl ?_
    rw [MX_u5]
    refine b_vret rfl rfl ?_
    exact kq _ (hM _ rfl)
  -- letters
  have lpL : ∀ (g i : Nat) (z1 z5 wo lx lx0 : Int), t + i + g = n → z1 = (t + i : Nat) → z5 = (i : Int) → (∀ j, j < i → isLet (B (t + j))) → wo = wv B t (min i 6) → lx0 = -1 ∨ lx0 = (t : Int) → lx = (if lx0 = -1 then (if 6 < i then (t : Int) + 6 else -1) else lx0) → (∀ (i : Nat) (en wo lx : Int), t + i ≤ n → (∀ j, j < i → isLet (B (t + j))) → ¬ (t + i < n ∧ isLet (B (t + i))) → en = (t + i : Nat) → wo = wv B t (min i 6) → lx = (if lx0 = -1 then (if 6 < i then (t : Int) + 6 else -1) else lx0) → Mok K n B q (MX K 1 t en 0 wo 0 (-1) lx)) → Bj MX12_ahead 1 204 [some (aR 57), some (aI z1), some (aI 1), some (aI 0), some (aI 6), some (aI z5)] [] (MX K 1 t (t + 1) 0 wo 0 (-1) lx) Q := by
    intro g
    induction g with
    | zero =>
      intro i z1 z5 wo lx lx0 hg h1 h5 hl hw h0 hx hM
      refine b_iload_n rfl rfl ?_
      refine b_aload_n rfl rfl ?_
      refine b_getI rfl fl12_17 rfl (by decide) rfl ?_
      rw [MXo (by decide)]
      rw [hT1]
      refine b_icmp_ge (tgt := 334) rfl rfl (fun c209 => ?_) (fun c209 => ?_)
      · exact fin _ _ _ _ _ _ _ _ _ (fun en e => hM i en wo lx (by omega) hl (by omega) (by omega) hw hx)
      · omega
    | succ g ih =>
      intro i z1 z5 wo lx lx0 hg h1 h5 hl hw h0 hx hM
      have hbt := hT3 (t + i) (by omega)
      have ez : z1.toNat = t + i := by omega
      have hB := hT4 (t + i)
      have hbw := wv_b (B := B) (t := t) (min i 6) (fun j hj => hl j (by omega))
      have hb6 : (256 : Int) ^ (min i 6) ≤ 281474976710656 := by
        have : ∀ j : Fin 7, (256 : Int) ^ j.val ≤ 281474976710656 := by decide
        exact this ⟨min i 6, by omega⟩
      have stp : isLet (B (t + i)) → ∀ (z1' z5' wo' lx' : Int), z1' = z1 + 1 → z5' = z5 + 1 → wo' = (if i < 6 then wo * 256 + B (t + i) else wo) → lx' = (if i = 6 ∧ lx = -1 then z1 else lx) → Bj MX12_ahead 1 204 [some (aR 57), some (aI z1'), some (aI 1), some (aI 0), some (aI 6), some (aI z5')] [] (MX K 1 t (t + 1) 0 wo' 0 (-1) lx') Q := by
        intro hL z1' z5' wo' lx' e1 e5 ew ex
        refine ih (i + 1) z1' z5' wo' lx' lx0 (by omega) (by omega) (by omega) (fun j hj => ?_) ?_ h0 ?_ hM
        · by_cases e : j = i
          · rw [e]; exact hL
          · exact hl j (by omega)
        · rw [ew, hw]
          by_cases e : i < 6
          · rw [if_pos e, show min (i + 1) 6 = i + 1 by omega, show min i 6 = i by omega, wv_s hL]
          · rw [if_neg e, show min (i + 1) 6 = 6 by omega, show min i 6 = 6 by omega]
        · rw [ex, hx]
          repeat' split
          all_goals omega
      refine b_iload_n rfl rfl ?_
      refine b_aload_n rfl rfl ?_
      refine b_getI rfl fl12_17 rfl (by decide) rfl ?_
      rw [MXo (by decide)]
      rw [hT1]
      refine b_icmp_ge (tgt := 334) rfl rfl (fun c209 => ?_) (fun c209 => ?_)
      · omega
      · refine b_iload_n rfl rfl ?_
        refine b_if_eq (tgt := 231) rfl rfl (fun c213 => ?_) (fun c213 => ?_)
        · omega
        · refine b_aload_n rfl rfl ?_
          refine b_getR (r := 58) rfl fl12_7 rfl (by decide) rfl rfl ?_
          refine b_iload_n rfl rfl ?_
          refine b_iald rfl rfl (by omega) (by omega) ?_
          try simp only [tn6, tn4, tn2, tn144, tn24, tn_cast, Int.reduceToNat]
          rw [MXc (by decide)]
          rw [ez, hbt]
          refine b_callS1i (ν := MX12_isLetter) rfl ml12_240 csX12_isLetter (d' := 0) (by omega) (Nat.le_of_ble_eq_true rfl) ?_
          refine spr_isLetter (fun hL => ?_) (fun hL => ?_)
          · refine ⟨_, rfl, ?_⟩
            refine b_if_eq (tgt := 334) rfl rfl (fun z => absurd z (by decide)) (fun _ => ?_)
            refine b_goto (tgt := 243) rfl rfl ?_
            refine b_iload rfl rfl ?_
            refine b_iload rfl rfl ?_
            refine b_icmp_ne (tgt := 263) rfl rfl (fun c247 => ?_) (fun c247 => ?_)
            · refine b_iload rfl rfl ?_
              refine b_iload rfl rfl ?_
              refine b_icmp_ge (tgt := 293) rfl rfl (fun c267 => ?_) (fun c267 => ?_)
              · refine b_iload rfl rfl ?_
                refine b_iload rfl rfl ?_
                refine b_icmp_ge (tgt := 325) rfl rfl (fun c297 => ?_) (fun c297 => ?_)
                · refine b_iincX (F := fun z325 => [some (aR 57), some (aI z1), some (aI 1), some (aI 0), some (aI 6), some (aI z325)]) rfl rfl (by omega) (by omega) (fun _ => rfl) (fun z325 ez325 => ?_)
                  refine b_iincX (F := fun z328 => [some (aR 57), some (aI z328), some (aI 1), some (aI 0), some (aI 6), some (aI z325)]) rfl rfl (by omega) (by omega) (fun _ => rfl) (fun z328 ez328 => ?_)
                  refine b_goto (tgt := 204) rfl rfl ?_
                  first
                  | (exfalso; omega)
                  | (have e : i < 6 := by omega
                     exact stp hL _ _ _ _ (by omega) (by omega) (if_pos e).symm (if_neg (by omega)).symm)
                  | (have e : i = 6 ∧ lx = -1 := by omega
                     exact stp hL _ _ _ _ (by omega) (by omega) (if_neg (by omega)).symm (if_pos e).symm)
                  | (have e : ¬ i < 6 ∧ ¬ (i = 6 ∧ lx = -1) := by omega
                     exact stp hL _ _ _ _ (by omega) (by omega) (if_neg e.1).symm (if_neg e.2).symm)
                · refine b_iload_n rfl rfl ?_
                  refine b_if_eq (tgt := 325) rfl rfl (fun c301 => ?_) (fun c301 => ?_)
                  · refine b_iincX (F := fun z325 => [some (aR 57), some (aI z1), some (aI 1), some (aI 0), some (aI 6), some (aI z325)]) rfl rfl (by omega) (by omega) (fun _ => rfl) (fun z325 ez325 => ?_)
                    refine b_iincX (F := fun z328 => [some (aR 57), some (aI z328), some (aI 1), some (aI 0), some (aI 6), some (aI z325)]) rfl rfl (by omega) (by omega) (fun _ => rfl) (fun z328 ez328 => ?_)
                    refine b_goto (tgt := 204) rfl rfl ?_
                    first
                    | (exfalso; omega)
                    | (have e : i < 6 := by omega
                       exact stp hL _ _ _ _ (by omega) (by omega) (if_pos e).symm (if_neg (by omega)).symm)
                    | (have e : i = 6 ∧ lx = -1 := by omega
                       exact stp hL _ _ _ _ (by omega) (by omega) (if_neg (by omega)).symm (if_pos e).symm)
                    | (have e : ¬ i < 6 ∧ ¬ (i = 6 ∧ lx = -1) := by omega
                       exact stp hL _ _ _ _ (by omega) (by omega) (if_neg e.1).symm (if_neg e.2).symm)
                  · omega
              · refine b_iload_n rfl rfl ?_
                refine b_if_eq (tgt := 293) rfl rfl (fun c271 => ?_) (fun c271 => ?_)
                · omega
                · refine b_aload_n rfl rfl ?_
                  refine b_aload_n rfl rfl ?_
                  refine b_getJ rfl fl12_32 rfl (by decide) rfl ?_
                  rw [MX_7]
                  refine b_bipush rfl (by decide) ?_
                  refine b_lshl rfl ?_
                  refine b_aload_n rfl rfl ?_
                  refine b_getR (r := 58) rfl fl12_7 rfl (by decide) rfl rfl ?_
                  refine b_iload_n rfl rfl ?_
                  refine b_iald rfl rfl (by omega) (by omega) ?_
                  try simp only [tn6, tn4, tn2, tn144, tn24, tn_cast, Int.reduceToNat]
                  rw [MXc (by decide)]
                  rw [ez, hbt]
                  refine b_i2l rfl ?_
                  refine b_lor rfl ?_
                  rw [lwo8 (by omega) (by omega)]
                  refine b_putJ rfl fl12_32 rfl (by decide) rfl ?_
                  rw [MX_u7]
                  refine b_iload rfl rfl ?_
                  refine b_iload rfl rfl ?_
                  refine b_icmp_ge (tgt := 325) rfl rfl (fun c297 => ?_) (fun c297 => ?_)
                  · refine b_iincX (F := fun z325 => [some (aR 57), some (aI z1), some (aI 1), some (aI 0), some (aI 6), some (aI z325)]) rfl rfl (by omega) (by omega) (fun _ => rfl) (fun z325 ez325 => ?_)
                    refine b_iincX (F := fun z328 => [some (aR 57), some (aI z328), some (aI 1), some (aI 0), some (aI 6), some (aI z325)]) rfl rfl (by omega) (by omega) (fun _ => rfl) (fun z328 ez328 => ?_)
                    refine b_goto (tgt := 204) rfl rfl ?_
                    first
                    | (exfalso; omega)
                    | (have e : i < 6 := by omega
                       exact stp hL _ _ _ _ (by omega) (by omega) (if_pos e).symm (if_neg (by omega)).symm)
                    | (have e : i = 6 ∧ lx = -1 := by omega
                       exact stp hL _ _ _ _ (by omega) (by omega) (if_neg (by omega)).symm (if_pos e).symm)
                    | (have e : ¬ i < 6 ∧ ¬ (i = 6 ∧ lx = -1) := by omega
                       exact stp hL _ _ _ _ (by omega) (by omega) (if_neg e.1).symm (if_neg e.2).symm)
                  · refine b_iload_n rfl rfl ?_
                    refine b_if_eq (tgt := 325) rfl rfl (fun c301 => ?_) (fun c301 => ?_)
                    · refine b_iincX (F := fun z325 => [some (aR 57), some (aI z1), some (aI 1), some (aI 0), some (aI 6), some (aI z325)]) rfl rfl (by omega) (by omega) (fun _ => rfl) (fun z325 ez325 => ?_)
                      refine b_iincX (F := fun z328 => [some (aR 57), some (aI z328), some (aI 1), some (aI 0), some (aI 6), some (aI z325)]) rfl rfl (by omega) (by omega) (fun _ => rfl) (fun z328 ez328 => ?_)
                      refine b_goto (tgt := 204) rfl rfl ?_
                      first
                      | (exfalso; omega)
                      | (have e : i < 6 := by omega
                         exact stp hL _ _ _ _ (by omega) (by omega) (if_pos e).symm (if_neg (by omega)).symm)
                      | (have e : i = 6 ∧ lx = -1 := by omega
                         exact stp hL _ _ _ _ (by omega) (by omega) (if_neg (by omega)).symm (if_pos e).symm)
                      | (have e : ¬ i < 6 ∧ ¬ (i = 6 ∧ lx = -1) := by omega
                         exact stp hL _ _ _ _ (by omega) (by omega) (if_neg e.1).symm (if_neg e.2).symm)
                    · omega
            · refine b_aload_n rfl rfl ?_
              refine b_getI rfl fl12_48 rfl (by decide) rfl ?_
              rw [MX_12]
              refine b_iconst rfl (by decide) ?_
              refine b_icmp_ne (tgt := 263) rfl rfl (fun c255 => ?_) (fun c255 => ?_)
              · refine b_iload rfl rfl ?_
                refine b_iload rfl rfl ?_
                refine b_icmp_ge (tgt := 293) rfl rfl (fun c267 => ?_) (fun c267 => ?_)
                · refine b_iload rfl rfl ?_
                  refine b_iload rfl rfl ?_
                  refine b_icmp_ge (tgt := 325) rfl rfl (fun c297 => ?_) (fun c297 => ?_)
                  · refine b_iincX (F := fun z325 => [some (aR 57), some (aI z1), some (aI 1), some (aI 0), some (aI 6), some (aI z325)]) rfl rfl (by omega) (by omega) (fun _ => rfl) (fun z325 ez325 => ?_)
                    refine b_iincX (F := fun z328 => [some (aR 57), some (aI z328), some (aI 1), some (aI 0), some (aI 6), some (aI z325)]) rfl rfl (by omega) (by omega) (fun _ => rfl) (fun z328 ez328 => ?_)
                    refine b_goto (tgt := 204) rfl rfl ?_
                    first
                    | (exfalso; omega)
                    | (have e : i < 6 := by omega
                       exact stp hL _ _ _ _ (by omega) (by omega) (if_pos e).symm (if_neg (by omega)).symm)
                    | (have e : i = 6 ∧ lx = -1 := by omega
                       exact stp hL _ _ _ _ (by omega) (by omega) (if_neg (by omega)).symm (if_pos e).symm)
                    | (have e : ¬ i < 6 ∧ ¬ (i = 6 ∧ lx = -1) := by omega
                       exact stp hL _ _ _ _ (by omega) (by omega) (if_neg e.1).symm (if_neg e.2).symm)
                  · refine b_iload_n rfl rfl ?_
                    refine b_if_eq (tgt := 325) rfl rfl (fun c301 => ?_) (fun c301 => ?_)
                    · refine b_iincX (F := fun z325 => [some (aR 57), some (aI z1), some (aI 1), some (aI 0), some (aI 6), some (aI z325)]) rfl rfl (by omega) (by omega) (fun _ => rfl) (fun z325 ez325 => ?_)
                      refine b_iincX (F := fun z328 => [some (aR 57), some (aI z328), some (aI 1), some (aI 0), some (aI 6), some (aI z325)]) rfl rfl (by omega) (by omega) (fun _ => rfl) (fun z328 ez328 => ?_)
                      refine b_goto (tgt := 204) rfl rfl ?_
                      first
                      | (exfalso; omega)
                      | (have e : i < 6 := by omega
                         exact stp hL _ _ _ _ (by omega) (by omega) (if_pos e).symm (if_neg (by omega)).symm)
                      | (have e : i = 6 ∧ lx = -1 := by omega
                         exact stp hL _ _ _ _ (by omega) (by omega) (if_neg (by omega)).symm (if_pos e).symm)
                      | (have e : ¬ i < 6 ∧ ¬ (i = 6 ∧ lx = -1) := by omega
                         exact stp hL _ _ _ _ (by omega) (by omega) (if_neg e.1).symm (if_neg e.2).symm)
                    · omega
                · refine b_iload_n rfl rfl ?_
                  refine b_if_eq (tgt := 293) rfl rfl (fun c271 => ?_) (fun c271 => ?_)
                  · omega
                  · refine b_aload_n rfl rfl ?_
                    refine b_aload_n rfl rfl ?_
                    refine b_getJ rfl fl12_32 rfl (by decide) rfl ?_
                    rw [MX_7]
                    refine b_bipush rfl (by decide) ?_
                    refine b_lshl rfl ?_
                    refine b_aload_n rfl rfl ?_
                    refine b_getR (r := 58) rfl fl12_7 rfl (by decide) rfl rfl ?_
                    refine b_iload_n rfl rfl ?_
                    refine b_iald rfl rfl (by omega) (by omega) ?_
                    try simp only [tn6, tn4, tn2, tn144, tn24, tn_cast, Int.reduceToNat]
                    rw [MXc (by decide)]
                    rw [ez, hbt]
                    refine b_i2l rfl ?_
                    refine b_lor rfl ?_
                    rw [lwo8 (by omega) (by omega)]
                    refine b_putJ rfl fl12_32 rfl (by decide) rfl ?_
                    rw [MX_u7]
                    refine b_iload rfl rfl ?_
                    refine b_iload rfl rfl ?_
                    refine b_icmp_ge (tgt := 325) rfl rfl (fun c297 => ?_) (fun c297 => ?_)
                    · refine b_iincX (F := fun z325 => [some (aR 57), some (aI z1), some (aI 1), some (aI 0), some (aI 6), some (aI z325)]) rfl rfl (by omega) (by omega) (fun _ => rfl) (fun z325 ez325 => ?_)
                      refine b_iincX (F := fun z328 => [some (aR 57), some (aI z328), some (aI 1), some (aI 0), some (aI 6), some (aI z325)]) rfl rfl (by omega) (by omega) (fun _ => rfl) (fun z328 ez328 => ?_)
                      refine b_goto (tgt := 204) rfl rfl ?_
                      first
                      | (exfalso; omega)
                      | (have e : i < 6 := by omega
                         exact stp hL _ _ _ _ (by omega) (by omega) (if_pos e).symm (if_neg (by omega)).symm)
                      | (have e : i = 6 ∧ lx = -1 := by omega
                         exact stp hL _ _ _ _ (by omega) (by omega) (if_neg (by omega)).symm (if_pos e).symm)
                      | (have e : ¬ i < 6 ∧ ¬ (i = 6 ∧ lx = -1) := by omega
                         exact stp hL _ _ _ _ (by omega) (by omega) (if_neg e.1).symm (if_neg e.2).symm)
                    · refine b_iload_n rfl rfl ?_
                      refine b_if_eq (tgt := 325) rfl rfl (fun c301 => ?_) (fun c301 => ?_)
                      · refine b_iincX (F := fun z325 => [some (aR 57), some (aI z1), some (aI 1), some (aI 0), some (aI 6), some (aI z325)]) rfl rfl (by omega) (by omega) (fun _ => rfl) (fun z325 ez325 => ?_)
                        refine b_iincX (F := fun z328 => [some (aR 57), some (aI z328), some (aI 1), some (aI 0), some (aI 6), some (aI z325)]) rfl rfl (by omega) (by omega) (fun _ => rfl) (fun z328 ez328 => ?_)
                        refine b_goto (tgt := 204) rfl rfl ?_
                        first
                        | (exfalso; omega)
                        | (have e : i < 6 := by omega
                           exact stp hL _ _ _ _ (by omega) (by omega) (if_pos e).symm (if_neg (by omega)).symm)
                        | (have e : i = 6 ∧ lx = -1 := by omega
                           exact stp hL _ _ _ _ (by omega) (by omega) (if_neg (by omega)).symm (if_pos e).symm)
                        | (have e : ¬ i < 6 ∧ ¬ (i = 6 ∧ lx = -1) := by omega
                           exact stp hL _ _ _ _ (by omega) (by omega) (if_neg e.1).symm (if_neg e.2).symm)
                      · omega
              · refine b_aload_n rfl rfl ?_
                refine b_iload_n rfl rfl ?_
                refine b_putI rfl fl12_48 rfl (by decide) rfl ?_
                rw [MX_u12]
                refine b_iload rfl rfl ?_
                refine b_iload rfl rfl ?_
                refine b_icmp_ge (tgt := 293) rfl rfl (fun c267 => ?_) (fun c267 => ?_)
                · refine b_iload rfl rfl ?_
                  refine b_iload rfl rfl ?_
                  refine b_icmp_ge (tgt := 325) rfl rfl (fun c297 => ?_) (fun c297 => ?_)
                  · refine b_iincX (F := fun z325 => [some (aR 57), some (aI z1), some (aI 1), some (aI 0), some (aI 6), some (aI z325)]) rfl rfl (by omega) (by omega) (fun _ => rfl) (fun z325 ez325 => ?_)
                    refine b_iincX (F := fun z328 => [some (aR 57), some (aI z328), some (aI 1), some (aI 0), some (aI 6), some (aI z325)]) rfl rfl (by omega) (by omega) (fun _ => rfl) (fun z328 ez328 => ?_)
                    refine b_goto (tgt := 204) rfl rfl ?_
                    first
                    | (exfalso; omega)
                    | (have e : i < 6 := by omega
                       exact stp hL _ _ _ _ (by omega) (by omega) (if_pos e).symm (if_neg (by omega)).symm)
                    | (have e : i = 6 ∧ lx = -1 := by omega
                       exact stp hL _ _ _ _ (by omega) (by omega) (if_neg (by omega)).symm (if_pos e).symm)
                    | (have e : ¬ i < 6 ∧ ¬ (i = 6 ∧ lx = -1) := by omega
                       exact stp hL _ _ _ _ (by omega) (by omega) (if_neg e.1).symm (if_neg e.2).symm)
                  · refine b_iload_n rfl rfl ?_
                    refine b_if_eq (tgt := 325) rfl rfl (fun c301 => ?_) (fun c301 => ?_)
                    · refine b_iincX (F := fun z325 => [some (aR 57), some (aI z1), some (aI 1), some (aI 0), some (aI 6), some (aI z325)]) rfl rfl (by omega) (by omega) (fun _ => rfl) (fun z325 ez325 => ?_)
                      refine b_iincX (F := fun z328 => [some (aR 57), some (aI z328), some (aI 1), some (aI 0), some (aI 6), some (aI z325)]) rfl rfl (by omega) (by omega) (fun _ => rfl) (fun z328 ez328 => ?_)
                      refine b_goto (tgt := 204) rfl rfl ?_
                      first
                      | (exfalso; omega)
                      | (have e : i < 6 := by omega
                         exact stp hL _ _ _ _ (by omega) (by omega) (if_pos e).symm (if_neg (by omega)).symm)
                      | (have e : i = 6 ∧ lx = -1 := by omega
                         exact stp hL _ _ _ _ (by omega) (by omega) (if_neg (by omega)).symm (if_pos e).symm)
                      | (have e : ¬ i < 6 ∧ ¬ (i = 6 ∧ lx = -1) := by omega
                         exact stp hL _ _ _ _ (by omega) (by omega) (if_neg e.1).symm (if_neg e.2).symm)
                    · omega
                · refine b_iload_n rfl rfl ?_
                  refine b_if_eq (tgt := 293) rfl rfl (fun c271 => ?_) (fun c271 => ?_)
                  · omega
                  · refine b_aload_n rfl rfl ?_
                    refine b_aload_n rfl rfl ?_
                    refine b_getJ rfl fl12_32 rfl (by decide) rfl ?_
                    rw [MX_7]
                    refine b_bipush rfl (by decide) ?_
                    refine b_lshl rfl ?_
                    refine b_aload_n rfl rfl ?_
                    refine b_getR (r := 58) rfl fl12_7 rfl (by decide) rfl rfl ?_
                    refine b_iload_n rfl rfl ?_
                    refine b_iald rfl rfl (by omega) (by omega) ?_
                    try simp only [tn6, tn4, tn2, tn144, tn24, tn_cast, Int.reduceToNat]
                    rw [MXc (by decide)]
                    rw [ez, hbt]
                    refine b_i2l rfl ?_
                    refine b_lor rfl ?_
                    rw [lwo8 (by omega) (by omega)]
                    refine b_putJ rfl fl12_32 rfl (by decide) rfl ?_
                    rw [MX_u7]
                    refine b_iload rfl rfl ?_
                    refine b_iload rfl rfl ?_
                    refine b_icmp_ge (tgt := 325) rfl rfl (fun c297 => ?_) (fun c297 => ?_)
                    · refine b_iincX (F := fun z325 => [some (aR 57), some (aI z1), some (aI 1), some (aI 0), some (aI 6), some (aI z325)]) rfl rfl (by omega) (by omega) (fun _ => rfl) (fun z325 ez325 => ?_)
                      refine b_iincX (F := fun z328 => [some (aR 57), some (aI z328), some (aI 1), some (aI 0), some (aI 6), some (aI z325)]) rfl rfl (by omega) (by omega) (fun _ => rfl) (fun z328 ez328 => ?_)
                      refine b_goto (tgt := 204) rfl rfl ?_
                      first
                      | (exfalso; omega)
                      | (have e : i < 6 := by omega
                         exact stp hL _ _ _ _ (by omega) (by omega) (if_pos e).symm (if_neg (by omega)).symm)
                      | (have e : i = 6 ∧ lx = -1 := by omega
                         exact stp hL _ _ _ _ (by omega) (by omega) (if_neg (by omega)).symm (if_pos e).symm)
                      | (have e : ¬ i < 6 ∧ ¬ (i = 6 ∧ lx = -1) := by omega
                         exact stp hL _ _ _ _ (by omega) (by omega) (if_neg e.1).symm (if_neg e.2).symm)
                    · refine b_iload_n rfl rfl ?_
                      refine b_if_eq (tgt := 325) rfl rfl (fun c301 => ?_) (fun c301 => ?_)
                      · refine b_iincX (F := fun z325 => [some (aR 57), some (aI z1), some (aI 1), some (aI 0), some (aI 6), some (aI z325)]) rfl rfl (by omega) (by omega) (fun _ => rfl) (fun z325 ez325 => ?_)
                        refine b_iincX (F := fun z328 => [some (aR 57), some (aI z328), some (aI 1), some (aI 0), some (aI 6), some (aI z325)]) rfl rfl (by omega) (by omega) (fun _ => rfl) (fun z328 ez328 => ?_)
                        refine b_goto (tgt := 204) rfl rfl ?_
                        first
                        | (exfalso; omega)
                        | (have e : i < 6 := by omega
                           exact stp hL _ _ _ _ (by omega) (by omega) (if_pos e).symm (if_neg (by omega)).symm)
                        | (have e : i = 6 ∧ lx = -1 := by omega
                           exact stp hL _ _ _ _ (by omega) (by omega) (if_neg (by omega)).symm (if_pos e).symm)
                        | (have e : ¬ i < 6 ∧ ¬ (i = 6 ∧ lx = -1) := by omega
                           exact stp hL _ _ _ _ (by omega) (by omega) (if_neg e.1).symm (if_neg e.2).symm)
                      · omega
          · refine ⟨_, rfl, ?_⟩
            refine b_if_eq (tgt := 334) rfl rfl (fun _ => ?_) (fun z => absurd z (by decide))
            exact fin _ _ _ _ _ _ _ _ _ (fun en e => hM i en wo lx (by omega) hl (fun w => hL w.2) (by omega) hw hx)
  -- digits
  have lpD : ∀ (g i : Nat) (z1 z5 va lx lx0 : Int), t + i + g = n → z1 = (t + i : Nat) → z5 = (i : Int) → (∀ j, j < i → isDig (B (t + j))) → va = nv B t (min i 4) → lx0 = -1 ∨ lx0 = (t : Int) → lx = (if lx0 = -1 then (if 4 < i then (t : Int) + 4 else -1) else lx0) → (∀ (i : Nat) (en va lx : Int), t + i ≤ n → (∀ j, j < i → isDig (B (t + j))) → ¬ (t + i < n ∧ isDig (B (t + i))) → en = (t + i : Nat) → va = nv B t (min i 4) → lx = (if lx0 = -1 then (if 4 < i then (t : Int) + 4 else -1) else lx0) → Mok K n B q (MX K 2 t en va 0 0 (-1) lx)) → Bj MX12_ahead 1 204 [some (aR 57), some (aI z1), some (aI 0), some (aI 1), some (aI 4), some (aI z5)] [] (MX K 2 t (t + 1) va 0 0 (-1) lx) Q := by
    intro g
    induction g with
    | zero =>
      intro i z1 z5 va lx lx0 hg h1 h5 hl hw h0 hx hM
      refine b_iload_n rfl rfl ?_
      refine b_aload_n rfl rfl ?_
      refine b_getI rfl fl12_17 rfl (by decide) rfl ?_
      rw [MXo (by decide)]
      rw [hT1]
      refine b_icmp_ge (tgt := 334) rfl rfl (fun c209 => ?_) (fun c209 => ?_)
      · exact fin _ _ _ _ _ _ _ _ _ (fun en e => hM i en va lx (by omega) hl (by omega) (by omega) hw hx)
      · omega
    | succ g ih =>
      intro i z1 z5 va lx lx0 hg h1 h5 hl hw h0 hx hM
      have hbt := hT3 (t + i) (by omega)
      have ez : z1.toNat = t + i := by omega
      have hB := hT4 (t + i)
      have hbw := nv_b (B := B) (q := t) (min i 4) (by omega) (fun j hj => hl j (by omega))
      have hb6 : (10 : Int) ^ (min i 4) ≤ 10000 := by
        have : ∀ j : Fin 5, (10 : Int) ^ j.val ≤ 10000 := by decide
        exact this ⟨min i 4, by omega⟩
      have stp : isDig (B (t + i)) → ∀ (z1' z5' va' lx' : Int), z1' = z1 + 1 → z5' = z5 + 1 → va' = (if i < 4 then va * 10 + (B (t + i) - 48) else va) → lx' = (if i = 4 ∧ lx = -1 then z1 else lx) → Bj MX12_ahead 1 204 [some (aR 57), some (aI z1'), some (aI 0), some (aI 1), some (aI 4), some (aI z5')] [] (MX K 2 t (t + 1) va' 0 0 (-1) lx') Q := by
        intro hL z1' z5' va' lx' e1 e5 ew ex
        refine ih (i + 1) z1' z5' va' lx' lx0 (by omega) (by omega) (by omega) (fun j hj => ?_) ?_ h0 ?_ hM
        · by_cases e : j = i
          · rw [e]; exact hL
          · exact hl j (by omega)
        · rw [ew, hw]
          by_cases e : i < 4
          · rw [if_pos e, show min (i + 1) 4 = i + 1 by omega, show min i 4 = i by omega]
            rfl
          · rw [if_neg e, show min (i + 1) 4 = 4 by omega, show min i 4 = 4 by omega]
        · rw [ex, hx]
          repeat' split
          all_goals omega
      refine b_iload_n rfl rfl ?_
      refine b_aload_n rfl rfl ?_
      refine b_getI rfl fl12_17 rfl (by decide) rfl ?_
      rw [MXo (by decide)]
      rw [hT1]
      refine b_icmp_ge (tgt := 334) rfl rfl (fun c209 => ?_) (fun c209 => ?_)
      · omega
      · refine b_iload_n rfl rfl ?_
        refine b_if_eq (tgt := 231) rfl rfl (fun c213 => ?_) (fun c213 => ?_)
        · refine b_aload_n rfl rfl ?_
          refine b_getR (r := 58) rfl fl12_7 rfl (by decide) rfl rfl ?_
          refine b_iload_n rfl rfl ?_
          refine b_iald rfl rfl (by omega) (by omega) ?_
          try simp only [tn6, tn4, tn2, tn144, tn24, tn_cast, Int.reduceToNat]
          rw [MXc (by decide)]
          rw [ez, hbt]
          refine b_callS1i (ν := MX12_isDigit) rfl ml12_244 csX12_isDigit (d' := 0) (by omega) (Nat.le_of_ble_eq_true rfl) ?_
          refine spr_isDigit (fun hL => ?_) (fun hL => ?_)
          · refine ⟨_, rfl, ?_⟩
            refine b_if_eq (tgt := 334) rfl rfl (fun z => absurd z (by decide)) (fun _ => ?_)
            refine b_iload rfl rfl ?_
            refine b_iload rfl rfl ?_
            refine b_icmp_ne (tgt := 263) rfl rfl (fun c247 => ?_) (fun c247 => ?_)
            · refine b_iload rfl rfl ?_
              refine b_iload rfl rfl ?_
              refine b_icmp_ge (tgt := 293) rfl rfl (fun c267 => ?_) (fun c267 => ?_)
              · refine b_iload rfl rfl ?_
                refine b_iload rfl rfl ?_
                refine b_icmp_ge (tgt := 325) rfl rfl (fun c297 => ?_) (fun c297 => ?_)
                · refine b_iincX (F := fun z325 => [some (aR 57), some (aI z1), some (aI 0), some (aI 1), some (aI 4), some (aI z325)]) rfl rfl (by omega) (by omega) (fun _ => rfl) (fun z325 ez325 => ?_)
                  refine b_iincX (F := fun z328 => [some (aR 57), some (aI z328), some (aI 0), some (aI 1), some (aI 4), some (aI z325)]) rfl rfl (by omega) (by omega) (fun _ => rfl) (fun z328 ez328 => ?_)
                  refine b_goto (tgt := 204) rfl rfl ?_
                  have hL2 : 48 ≤ B (t + i) ∧ B (t + i) ≤ 57 := hL
                  first
                    | (exfalso; omega)
                    | (have e : i < 4 := by omega
                       exact stp hL _ _ _ _ (by omega) (by omega) (by rw [if_pos e]; omega) (if_neg (by omega)).symm)
                    | (have e : i = 4 ∧ lx = -1 := by omega
                       exact stp hL _ _ _ _ (by omega) (by omega) (if_neg (by omega)).symm (if_pos e).symm)
                    | (have e : ¬ i < 4 ∧ ¬ (i = 4 ∧ lx = -1) := by omega
                       exact stp hL _ _ _ _ (by omega) (by omega) (if_neg e.1).symm (if_neg e.2).symm)
                · refine b_iload_n rfl rfl ?_
                  refine b_if_eq (tgt := 325) rfl rfl (fun c301 => ?_) (fun c301 => ?_)
                  · omega
                  · refine b_aload_n rfl rfl ?_
                    refine b_bipush rfl (by decide) ?_
                    refine b_aload_n rfl rfl ?_
                    refine b_getI rfl fl12_29 rfl (by decide) rfl ?_
                    rw [MX_6]
                    refine b_imulN rfl (by omega) (by omega) ?_
                    refine b_aload_n rfl rfl ?_
                    refine b_getR (r := 58) rfl fl12_7 rfl (by decide) rfl rfl ?_
                    refine b_iload_n rfl rfl ?_
                    refine b_iald rfl rfl (by omega) (by omega) ?_
                    try simp only [tn6, tn4, tn2, tn144, tn24, tn_cast, Int.reduceToNat]
                    rw [MXc (by decide)]
                    rw [ez, hbt]
                    refine b_iaddN rfl (by omega) (by omega) ?_
                    refine b_bipush rfl (by decide) ?_
                    refine b_isubN rfl (by omega) (by omega) ?_
                    refine b_putI rfl fl12_29 rfl (by decide) rfl ?_
                    rw [MX_u6]
                    refine b_iincX (F := fun z325 => [some (aR 57), some (aI z1), some (aI 0), some (aI 1), some (aI 4), some (aI z325)]) rfl rfl (by omega) (by omega) (fun _ => rfl) (fun z325 ez325 => ?_)
                    refine b_iincX (F := fun z328 => [some (aR 57), some (aI z328), some (aI 0), some (aI 1), some (aI 4), some (aI z325)]) rfl rfl (by omega) (by omega) (fun _ => rfl) (fun z328 ez328 => ?_)
                    refine b_goto (tgt := 204) rfl rfl ?_
                    have hL2 : 48 ≤ B (t + i) ∧ B (t + i) ≤ 57 := hL
                    first
                      | (exfalso; omega)
                      | (have e : i < 4 := by omega
                         exact stp hL _ _ _ _ (by omega) (by omega) (by rw [if_pos e]; omega) (if_neg (by omega)).symm)
                      | (have e : i = 4 ∧ lx = -1 := by omega
                         exact stp hL _ _ _ _ (by omega) (by omega) (if_neg (by omega)).symm (if_pos e).symm)
                      | (have e : ¬ i < 4 ∧ ¬ (i = 4 ∧ lx = -1) := by omega
                         exact stp hL _ _ _ _ (by omega) (by omega) (if_neg e.1).symm (if_neg e.2).symm)
              · refine b_iload_n rfl rfl ?_
                refine b_if_eq (tgt := 293) rfl rfl (fun c271 => ?_) (fun c271 => ?_)
                · refine b_iload rfl rfl ?_
                  refine b_iload rfl rfl ?_
                  refine b_icmp_ge (tgt := 325) rfl rfl (fun c297 => ?_) (fun c297 => ?_)
                  · refine b_iincX (F := fun z325 => [some (aR 57), some (aI z1), some (aI 0), some (aI 1), some (aI 4), some (aI z325)]) rfl rfl (by omega) (by omega) (fun _ => rfl) (fun z325 ez325 => ?_)
                    refine b_iincX (F := fun z328 => [some (aR 57), some (aI z328), some (aI 0), some (aI 1), some (aI 4), some (aI z325)]) rfl rfl (by omega) (by omega) (fun _ => rfl) (fun z328 ez328 => ?_)
                    refine b_goto (tgt := 204) rfl rfl ?_
                    have hL2 : 48 ≤ B (t + i) ∧ B (t + i) ≤ 57 := hL
                    first
                      | (exfalso; omega)
                      | (have e : i < 4 := by omega
                         exact stp hL _ _ _ _ (by omega) (by omega) (by rw [if_pos e]; omega) (if_neg (by omega)).symm)
                      | (have e : i = 4 ∧ lx = -1 := by omega
                         exact stp hL _ _ _ _ (by omega) (by omega) (if_neg (by omega)).symm (if_pos e).symm)
                      | (have e : ¬ i < 4 ∧ ¬ (i = 4 ∧ lx = -1) := by omega
                         exact stp hL _ _ _ _ (by omega) (by omega) (if_neg e.1).symm (if_neg e.2).symm)
                  · refine b_iload_n rfl rfl ?_
                    refine b_if_eq (tgt := 325) rfl rfl (fun c301 => ?_) (fun c301 => ?_)
                    · omega
                    · refine b_aload_n rfl rfl ?_
                      refine b_bipush rfl (by decide) ?_
                      refine b_aload_n rfl rfl ?_
                      refine b_getI rfl fl12_29 rfl (by decide) rfl ?_
                      rw [MX_6]
                      refine b_imulN rfl (by omega) (by omega) ?_
                      refine b_aload_n rfl rfl ?_
                      refine b_getR (r := 58) rfl fl12_7 rfl (by decide) rfl rfl ?_
                      refine b_iload_n rfl rfl ?_
                      refine b_iald rfl rfl (by omega) (by omega) ?_
                      try simp only [tn6, tn4, tn2, tn144, tn24, tn_cast, Int.reduceToNat]
                      rw [MXc (by decide)]
                      rw [ez, hbt]
                      refine b_iaddN rfl (by omega) (by omega) ?_
                      refine b_bipush rfl (by decide) ?_
                      refine b_isubN rfl (by omega) (by omega) ?_
                      refine b_putI rfl fl12_29 rfl (by decide) rfl ?_
                      rw [MX_u6]
                      refine b_iincX (F := fun z325 => [some (aR 57), some (aI z1), some (aI 0), some (aI 1), some (aI 4), some (aI z325)]) rfl rfl (by omega) (by omega) (fun _ => rfl) (fun z325 ez325 => ?_)
                      refine b_iincX (F := fun z328 => [some (aR 57), some (aI z328), some (aI 0), some (aI 1), some (aI 4), some (aI z325)]) rfl rfl (by omega) (by omega) (fun _ => rfl) (fun z328 ez328 => ?_)
                      refine b_goto (tgt := 204) rfl rfl ?_
                      have hL2 : 48 ≤ B (t + i) ∧ B (t + i) ≤ 57 := hL
                      first
                        | (exfalso; omega)
                        | (have e : i < 4 := by omega
                           exact stp hL _ _ _ _ (by omega) (by omega) (by rw [if_pos e]; omega) (if_neg (by omega)).symm)
                        | (have e : i = 4 ∧ lx = -1 := by omega
                           exact stp hL _ _ _ _ (by omega) (by omega) (if_neg (by omega)).symm (if_pos e).symm)
                        | (have e : ¬ i < 4 ∧ ¬ (i = 4 ∧ lx = -1) := by omega
                           exact stp hL _ _ _ _ (by omega) (by omega) (if_neg e.1).symm (if_neg e.2).symm)
                · omega
            · refine b_aload_n rfl rfl ?_
              refine b_getI rfl fl12_48 rfl (by decide) rfl ?_
              rw [MX_12]
              refine b_iconst rfl (by decide) ?_
              refine b_icmp_ne (tgt := 263) rfl rfl (fun c255 => ?_) (fun c255 => ?_)
              · refine b_iload rfl rfl ?_
                refine b_iload rfl rfl ?_
                refine b_icmp_ge (tgt := 293) rfl rfl (fun c267 => ?_) (fun c267 => ?_)
                · refine b_iload rfl rfl ?_
                  refine b_iload rfl rfl ?_
                  refine b_icmp_ge (tgt := 325) rfl rfl (fun c297 => ?_) (fun c297 => ?_)
                  · refine b_iincX (F := fun z325 => [some (aR 57), some (aI z1), some (aI 0), some (aI 1), some (aI 4), some (aI z325)]) rfl rfl (by omega) (by omega) (fun _ => rfl) (fun z325 ez325 => ?_)
                    refine b_iincX (F := fun z328 => [some (aR 57), some (aI z328), some (aI 0), some (aI 1), some (aI 4), some (aI z325)]) rfl rfl (by omega) (by omega) (fun _ => rfl) (fun z328 ez328 => ?_)
                    refine b_goto (tgt := 204) rfl rfl ?_
                    have hL2 : 48 ≤ B (t + i) ∧ B (t + i) ≤ 57 := hL
                    first
                      | (exfalso; omega)
                      | (have e : i < 4 := by omega
                         exact stp hL _ _ _ _ (by omega) (by omega) (by rw [if_pos e]; omega) (if_neg (by omega)).symm)
                      | (have e : i = 4 ∧ lx = -1 := by omega
                         exact stp hL _ _ _ _ (by omega) (by omega) (if_neg (by omega)).symm (if_pos e).symm)
                      | (have e : ¬ i < 4 ∧ ¬ (i = 4 ∧ lx = -1) := by omega
                         exact stp hL _ _ _ _ (by omega) (by omega) (if_neg e.1).symm (if_neg e.2).symm)
                  · refine b_iload_n rfl rfl ?_
                    refine b_if_eq (tgt := 325) rfl rfl (fun c301 => ?_) (fun c301 => ?_)
                    · omega
                    · refine b_aload_n rfl rfl ?_
                      refine b_bipush rfl (by decide) ?_
                      refine b_aload_n rfl rfl ?_
                      refine b_getI rfl fl12_29 rfl (by decide) rfl ?_
                      rw [MX_6]
                      refine b_imulN rfl (by omega) (by omega) ?_
                      refine b_aload_n rfl rfl ?_
                      refine b_getR (r := 58) rfl fl12_7 rfl (by decide) rfl rfl ?_
                      refine b_iload_n rfl rfl ?_
                      refine b_iald rfl rfl (by omega) (by omega) ?_
                      try simp only [tn6, tn4, tn2, tn144, tn24, tn_cast, Int.reduceToNat]
                      rw [MXc (by decide)]
                      rw [ez, hbt]
                      refine b_iaddN rfl (by omega) (by omega) ?_
                      refine b_bipush rfl (by decide) ?_
                      refine b_isubN rfl (by omega) (by omega) ?_
                      refine b_putI rfl fl12_29 rfl (by decide) rfl ?_
                      rw [MX_u6]
                      refine b_iincX (F := fun z325 => [some (aR 57), some (aI z1), some (aI 0), some (aI 1), some (aI 4), some (aI z325)]) rfl rfl (by omega) (by omega) (fun _ => rfl) (fun z325 ez325 => ?_)
                      refine b_iincX (F := fun z328 => [some (aR 57), some (aI z328), some (aI 0), some (aI 1), some (aI 4), some (aI z325)]) rfl rfl (by omega) (by omega) (fun _ => rfl) (fun z328 ez328 => ?_)
                      refine b_goto (tgt := 204) rfl rfl ?_
                      have hL2 : 48 ≤ B (t + i) ∧ B (t + i) ≤ 57 := hL
                      first
                        | (exfalso; omega)
                        | (have e : i < 4 := by omega
                           exact stp hL _ _ _ _ (by omega) (by omega) (by rw [if_pos e]; omega) (if_neg (by omega)).symm)
                        | (have e : i = 4 ∧ lx = -1 := by omega
                           exact stp hL _ _ _ _ (by omega) (by omega) (if_neg (by omega)).symm (if_pos e).symm)
                        | (have e : ¬ i < 4 ∧ ¬ (i = 4 ∧ lx = -1) := by omega
                           exact stp hL _ _ _ _ (by omega) (by omega) (if_neg e.1).symm (if_neg e.2).symm)
                · refine b_iload_n rfl rfl ?_
                  refine b_if_eq (tgt := 293) rfl rfl (fun c271 => ?_) (fun c271 => ?_)
                  · refine b_iload rfl rfl ?_
                    refine b_iload rfl rfl ?_
                    refine b_icmp_ge (tgt := 325) rfl rfl (fun c297 => ?_) (fun c297 => ?_)
                    · refine b_iincX (F := fun z325 => [some (aR 57), some (aI z1), some (aI 0), some (aI 1), some (aI 4), some (aI z325)]) rfl rfl (by omega) (by omega) (fun _ => rfl) (fun z325 ez325 => ?_)
                      refine b_iincX (F := fun z328 => [some (aR 57), some (aI z328), some (aI 0), some (aI 1), some (aI 4), some (aI z325)]) rfl rfl (by omega) (by omega) (fun _ => rfl) (fun z328 ez328 => ?_)
                      refine b_goto (tgt := 204) rfl rfl ?_
                      have hL2 : 48 ≤ B (t + i) ∧ B (t + i) ≤ 57 := hL
                      first
                        | (exfalso; omega)
                        | (have e : i < 4 := by omega
                           exact stp hL _ _ _ _ (by omega) (by omega) (by rw [if_pos e]; omega) (if_neg (by omega)).symm)
                        | (have e : i = 4 ∧ lx = -1 := by omega
                           exact stp hL _ _ _ _ (by omega) (by omega) (if_neg (by omega)).symm (if_pos e).symm)
                        | (have e : ¬ i < 4 ∧ ¬ (i = 4 ∧ lx = -1) := by omega
                           exact stp hL _ _ _ _ (by omega) (by omega) (if_neg e.1).symm (if_neg e.2).symm)
                    · refine b_iload_n rfl rfl ?_
                      refine b_if_eq (tgt := 325) rfl rfl (fun c301 => ?_) (fun c301 => ?_)
                      · omega
                      · refine b_aload_n rfl rfl ?_
                        refine b_bipush rfl (by decide) ?_
                        refine b_aload_n rfl rfl ?_
                        refine b_getI rfl fl12_29 rfl (by decide) rfl ?_
                        rw [MX_6]
                        refine b_imulN rfl (by omega) (by omega) ?_
                        refine b_aload_n rfl rfl ?_
                        refine b_getR (r := 58) rfl fl12_7 rfl (by decide) rfl rfl ?_
                        refine b_iload_n rfl rfl ?_
                        refine b_iald rfl rfl (by omega) (by omega) ?_
                        try simp only [tn6, tn4, tn2, tn144, tn24, tn_cast, Int.reduceToNat]
                        rw [MXc (by decide)]
                        rw [ez, hbt]
                        refine b_iaddN rfl (by omega) (by omega) ?_
                        refine b_bipush rfl (by decide) ?_
                        refine b_isubN rfl (by omega) (by omega) ?_
                        refine b_putI rfl fl12_29 rfl (by decide) rfl ?_
                        rw [MX_u6]
                        refine b_iincX (F := fun z325 => [some (aR 57), some (aI z1), some (aI 0), some (aI 1), some (aI 4), some (aI z325)]) rfl rfl (by omega) (by omega) (fun _ => rfl) (fun z325 ez325 => ?_)
                        refine b_iincX (F := fun z328 => [some (aR 57), some (aI z328), some (aI 0), some (aI 1), some (aI 4), some (aI z325)]) rfl rfl (by omega) (by omega) (fun _ => rfl) (fun z328 ez328 => ?_)
                        refine b_goto (tgt := 204) rfl rfl ?_
                        have hL2 : 48 ≤ B (t + i) ∧ B (t + i) ≤ 57 := hL
                        first
                          | (exfalso; omega)
                          | (have e : i < 4 := by omega
                             exact stp hL _ _ _ _ (by omega) (by omega) (by rw [if_pos e]; omega) (if_neg (by omega)).symm)
                          | (have e : i = 4 ∧ lx = -1 := by omega
                             exact stp hL _ _ _ _ (by omega) (by omega) (if_neg (by omega)).symm (if_pos e).symm)
                          | (have e : ¬ i < 4 ∧ ¬ (i = 4 ∧ lx = -1) := by omega
                             exact stp hL _ _ _ _ (by omega) (by omega) (if_neg e.1).symm (if_neg e.2).symm)
                  · omega
              · refine b_aload_n rfl rfl ?_
                refine b_iload_n rfl rfl ?_
                refine b_putI rfl fl12_48 rfl (by decide) rfl ?_
                rw [MX_u12]
                refine b_iload rfl rfl ?_
                refine b_iload rfl rfl ?_
                refine b_icmp_ge (tgt := 293) rfl rfl (fun c267 => ?_) (fun c267 => ?_)
                · refine b_iload rfl rfl ?_
                  refine b_iload rfl rfl ?_
                  refine b_icmp_ge (tgt := 325) rfl rfl (fun c297 => ?_) (fun c297 => ?_)
                  · refine b_iincX (F := fun z325 => [some (aR 57), some (aI z1), some (aI 0), some (aI 1), some (aI 4), some (aI z325)]) rfl rfl (by omega) (by omega) (fun _ => rfl) (fun z325 ez325 => ?_)
                    refine b_iincX (F := fun z328 => [some (aR 57), some (aI z328), some (aI 0), some (aI 1), some (aI 4), some (aI z325)]) rfl rfl (by omega) (by omega) (fun _ => rfl) (fun z328 ez328 => ?_)
                    refine b_goto (tgt := 204) rfl rfl ?_
                    have hL2 : 48 ≤ B (t + i) ∧ B (t + i) ≤ 57 := hL
                    first
                      | (exfalso; omega)
                      | (have e : i < 4 := by omega
                         exact stp hL _ _ _ _ (by omega) (by omega) (by rw [if_pos e]; omega) (if_neg (by omega)).symm)
                      | (have e : i = 4 ∧ lx = -1 := by omega
                         exact stp hL _ _ _ _ (by omega) (by omega) (if_neg (by omega)).symm (if_pos e).symm)
                      | (have e : ¬ i < 4 ∧ ¬ (i = 4 ∧ lx = -1) := by omega
                         exact stp hL _ _ _ _ (by omega) (by omega) (if_neg e.1).symm (if_neg e.2).symm)
                  · refine b_iload_n rfl rfl ?_
                    refine b_if_eq (tgt := 325) rfl rfl (fun c301 => ?_) (fun c301 => ?_)
                    · omega
                    · refine b_aload_n rfl rfl ?_
                      refine b_bipush rfl (by decide) ?_
                      refine b_aload_n rfl rfl ?_
                      refine b_getI rfl fl12_29 rfl (by decide) rfl ?_
                      rw [MX_6]
                      refine b_imulN rfl (by omega) (by omega) ?_
                      refine b_aload_n rfl rfl ?_
                      refine b_getR (r := 58) rfl fl12_7 rfl (by decide) rfl rfl ?_
                      refine b_iload_n rfl rfl ?_
                      refine b_iald rfl rfl (by omega) (by omega) ?_
                      try simp only [tn6, tn4, tn2, tn144, tn24, tn_cast, Int.reduceToNat]
                      rw [MXc (by decide)]
                      rw [ez, hbt]
                      refine b_iaddN rfl (by omega) (by omega) ?_
                      refine b_bipush rfl (by decide) ?_
                      refine b_isubN rfl (by omega) (by omega) ?_
                      refine b_putI rfl fl12_29 rfl (by decide) rfl ?_
                      rw [MX_u6]
                      refine b_iincX (F := fun z325 => [some (aR 57), some (aI z1), some (aI 0), some (aI 1), some (aI 4), some (aI z325)]) rfl rfl (by omega) (by omega) (fun _ => rfl) (fun z325 ez325 => ?_)
                      refine b_iincX (F := fun z328 => [some (aR 57), some (aI z328), some (aI 0), some (aI 1), some (aI 4), some (aI z325)]) rfl rfl (by omega) (by omega) (fun _ => rfl) (fun z328 ez328 => ?_)
                      refine b_goto (tgt := 204) rfl rfl ?_
                      have hL2 : 48 ≤ B (t + i) ∧ B (t + i) ≤ 57 := hL
                      first
                        | (exfalso; omega)
                        | (have e : i < 4 := by omega
                           exact stp hL _ _ _ _ (by omega) (by omega) (by rw [if_pos e]; omega) (if_neg (by omega)).symm)
                        | (have e : i = 4 ∧ lx = -1 := by omega
                           exact stp hL _ _ _ _ (by omega) (by omega) (if_neg (by omega)).symm (if_pos e).symm)
                        | (have e : ¬ i < 4 ∧ ¬ (i = 4 ∧ lx = -1) := by omega
                           exact stp hL _ _ _ _ (by omega) (by omega) (if_neg e.1).symm (if_neg e.2).symm)
                · refine b_iload_n rfl rfl ?_
                  refine b_if_eq (tgt := 293) rfl rfl (fun c271 => ?_) (fun c271 => ?_)
                  · refine b_iload rfl rfl ?_
                    refine b_iload rfl rfl ?_
                    refine b_icmp_ge (tgt := 325) rfl rfl (fun c297 => ?_) (fun c297 => ?_)
                    · refine b_iincX (F := fun z325 => [some (aR 57), some (aI z1), some (aI 0), some (aI 1), some (aI 4), some (aI z325)]) rfl rfl (by omega) (by omega) (fun _ => rfl) (fun z325 ez325 => ?_)
                      refine b_iincX (F := fun z328 => [some (aR 57), some (aI z328), some (aI 0), some (aI 1), some (aI 4), some (aI z325)]) rfl rfl (by omega) (by omega) (fun _ => rfl) (fun z328 ez328 => ?_)
                      refine b_goto (tgt := 204) rfl rfl ?_
                      have hL2 : 48 ≤ B (t + i) ∧ B (t + i) ≤ 57 := hL
                      first
                        | (exfalso; omega)
                        | (have e : i < 4 := by omega
                           exact stp hL _ _ _ _ (by omega) (by omega) (by rw [if_pos e]; omega) (if_neg (by omega)).symm)
                        | (have e : i = 4 ∧ lx = -1 := by omega
                           exact stp hL _ _ _ _ (by omega) (by omega) (if_neg (by omega)).symm (if_pos e).symm)
                        | (have e : ¬ i < 4 ∧ ¬ (i = 4 ∧ lx = -1) := by omega
                           exact stp hL _ _ _ _ (by omega) (by omega) (if_neg e.1).symm (if_neg e.2).symm)
                    · refine b_iload_n rfl rfl ?_
                      refine b_if_eq (tgt := 325) rfl rfl (fun c301 => ?_) (fun c301 => ?_)
                      · omega
                      · refine b_aload_n rfl rfl ?_
                        refine b_bipush rfl (by decide) ?_
                        refine b_aload_n rfl rfl ?_
                        refine b_getI rfl fl12_29 rfl (by decide) rfl ?_
                        rw [MX_6]
                        refine b_imulN rfl (by omega) (by omega) ?_
                        refine b_aload_n rfl rfl ?_
                        refine b_getR (r := 58) rfl fl12_7 rfl (by decide) rfl rfl ?_
                        refine b_iload_n rfl rfl ?_
                        refine b_iald rfl rfl (by omega) (by omega) ?_
                        try simp only [tn6, tn4, tn2, tn144, tn24, tn_cast, Int.reduceToNat]
                        rw [MXc (by decide)]
                        rw [ez, hbt]
                        refine b_iaddN rfl (by omega) (by omega) ?_
                        refine b_bipush rfl (by decide) ?_
                        refine b_isubN rfl (by omega) (by omega) ?_
                        refine b_putI rfl fl12_29 rfl (by decide) rfl ?_
                        rw [MX_u6]
                        refine b_iincX (F := fun z325 => [some (aR 57), some (aI z1), some (aI 0), some (aI 1), some (aI 4), some (aI z325)]) rfl rfl (by omega) (by omega) (fun _ => rfl) (fun z325 ez325 => ?_)
                        refine b_iincX (F := fun z328 => [some (aR 57), some (aI z328), some (aI 0), some (aI 1), some (aI 4), some (aI z325)]) rfl rfl (by omega) (by omega) (fun _ => rfl) (fun z328 ez328 => ?_)
                        refine b_goto (tgt := 204) rfl rfl ?_
                        have hL2 : 48 ≤ B (t + i) ∧ B (t + i) ≤ 57 := hL
                        first
                          | (exfalso; omega)
                          | (have e : i < 4 := by omega
                             exact stp hL _ _ _ _ (by omega) (by omega) (by rw [if_pos e]; omega) (if_neg (by omega)).symm)
                          | (have e : i = 4 ∧ lx = -1 := by omega
                             exact stp hL _ _ _ _ (by omega) (by omega) (if_neg (by omega)).symm (if_pos e).symm)
                          | (have e : ¬ i < 4 ∧ ¬ (i = 4 ∧ lx = -1) := by omega
                             exact stp hL _ _ _ _ (by omega) (by omega) (if_neg e.1).symm (if_neg e.2).symm)
                  · omega
          · refine ⟨_, rfl, ?_⟩
            refine b_if_eq (tgt := 334) rfl rfl (fun _ => ?_) (fun z => absurd z (by decide))
            exact fin _ _ _ _ _ _ _ _ _ (fun en e => hM i en va lx (by omega) hl (fun w => hL w.2) (by omega) hw hx)
        · omega
  have prv : 0 < t → t ≠ q → isBl (B (t - 1)) := by
    intro h0 hne
    have := (run_in (pr := isBl) (n := n) (B := B) n q (t - 1 - q) (by unfold tq at ht; omega)).2
    rw [show q + (t - 1 - q) = t - 1 by omega] at this
    exact this
  have nLL : t < n → isLet (B t) → 0 < t → ¬ isLet (B (t - 1)) := by
    intro hn hl h0 hp
    by_cases e : t = q
    · rw [e] at hl hp hn h0
      exact (hq.2 h0 hn).1 ⟨hp, hl⟩
    · have := prv h0 e
      unfold isBl at this
      unfold isLet at hp
      omega
  have nDD : t < n → isDig (B t) → 0 < t → ¬ isDig (B (t - 1)) := by
    intro hn hl h0 hp
    by_cases e : t = q
    · rw [e] at hl hp hn h0
      exact (hq.2 h0 hn).2 ⟨hp, hl⟩
    · have := prv h0 e
      unfold isBl at this
      unfold isDig at hp
      omega
  have gL : ∀ (z1 z2 z3 va wo lx : Int), z1 = (t : Int) → z2 = 1 → z3 = 0 → t < n → isLet (B t) → lx = (if pvD B t then (t : Int) else -1) → Bj MX12_ahead 1 135 [some (aR 57), some (aI z1), some (aI z2), some (aI z3), none, none] [] (MX K 0 t t va wo 0 (-1) lx) Q := by
    intro z1 z2 z3 va wo lx e1 e2 e3 htl hl hx
    subst e1
    subst e2
    subst e3
    have hM : ∀ (i : Nat) (en wo lx' : Int), t + i ≤ n → (∀ j, j < i → isLet (B (t + j))) → ¬ (t + i < n ∧ isLet (B (t + i))) → en = (t + i : Nat) → wo = wv B t (min i 6) → lx' = (if lx = -1 then (if 6 < i then (t : Int) + 6 else -1) else lx) → Mok K n B q (MX K 1 t en 0 wo 0 (-1) lx') := by
      intro i en wo lx' h1 h2 h3 h4 h5 h6
      by_cases hp : pvD B t
      · rw [if_pos hp] at hx
        have h7 := tk_L4 (n := n) (B := B) (p := q) (by rw [ht]; exact htl) (by rw [ht]; exact hl) (by rw [ht]; exact hp)
        refine Mok_4 h7.1 (by rw [ht]) (by decide) ?_
        rw [h6, hx, if_neg (by omega), h7.2, ht]
      · rw [if_neg hp] at hx
        rw [if_pos hx] at h6
        by_cases h7 : 6 < i
        · rw [if_pos h7] at h6
          have hr : runF isLet n B 7 (tq n B q) = 7 := run_full 7 _ 7 (Nat.le_refl _) (fun j hj => by rw [ht]; exact ⟨by omega, h2 j (by omega)⟩) (Or.inl rfl)
          have h8 := tk_L7 (n := n) (B := B) (p := q) (by rw [ht]; exact htl) (by rw [ht]; exact hl) (by rw [ht]; exact hp) hr
          refine Mok_4 h8.1 (by rw [ht]) (by decide) ?_
          rw [h6, h8.2, ht]
          omega
        · rw [if_neg h7] at h6
          have hr : runF isLet n B 7 (tq n B q) = i := run_full 7 _ i (by omega) (fun j hj => by rw [ht]; exact ⟨by omega, h2 j hj⟩) (Or.inr (by rw [ht]; exact h3))
          have hk := tk_L1 (n := n) (B := B) (p := q) (by rw [ht]; exact htl) (by rw [ht]; exact hl) (by rw [ht]; exact hp) (by omega)
          refine Mok_1 hk (by rw [ht]) rfl h6 ?_ ?_
          · rw [h4, ht]
            show _ = ((t + runF isLet n B 7 (tq n B q) : Nat) : Int)
            rw [hr]
          · rw [h5, show min i 6 = i by omega, ht]
            show _ = wv B t (runF isLet n B 7 (tq n B q))
            rw [hr]
    refine b_aload_n rfl rfl ?_
    refine b_iconst rfl (by decide) ?_
    refine b_putI rfl fl12_29 rfl (by decide) rfl ?_
    rw [MX_u6]
    refine b_aload_n rfl rfl ?_
    refine b_lconst (z := 0) rfl rfl ?_
    refine b_putJ rfl fl12_32 rfl (by decide) rfl ?_
    rw [MX_u7]
    refine b_aload_n rfl rfl ?_
    refine b_iconst rfl (by decide) ?_
    refine b_putI rfl fl12_20 rfl (by decide) rfl ?_
    rw [MX_u3]
    refine b_aload_n rfl rfl ?_
    refine b_iload_n rfl rfl ?_
    refine b_iconst rfl (by decide) ?_
    refine b_iaddN rfl (by omega) (by omega) ?_
    refine b_putI rfl fl12_26 rfl (by decide) rfl ?_
    rw [MX_u5]
    refine b_iload_n rfl rfl ?_
    refine b_if_ne (tgt := 176) rfl rfl (fun c158 => ?_) (fun c158 => ?_)
    · refine b_aload_n rfl rfl ?_
      refine b_iload_n rfl rfl ?_
      refine b_if_eq (tgt := 185) rfl rfl (fun c178 => ?_) (fun c178 => ?_)
      · omega
      · refine b_iconst rfl (by decide) ?_
        refine b_goto (tgt := 186) rfl rfl ?_
        refine b_putI rfl fl12_20 rfl (by decide) rfl ?_
        rw [MX_u3]
        refine b_iload_n rfl rfl ?_
        refine b_if_eq (tgt := 198) rfl rfl (fun c190 => ?_) (fun c190 => ?_)
        · omega
        · refine b_bipush rfl (by decide) ?_
          refine b_goto (tgt := 199) rfl rfl ?_
          refine b_istoreX (F := fun z199 => [some (aR 57), some (aI (t : Int)), some (aI 1), some (aI 0), some (aI z199), none]) rfl (by decide) (fun _ => rfl) (fun z199 ez199 => ?_)
          refine b_iconst rfl (by decide) ?_
          refine b_istoreX (F := fun z202 => [some (aR 57), some (aI (t : Int)), some (aI 1), some (aI 0), some (aI z199), some (aI z202)]) rfl (by decide) (fun _ => rfl) (fun z202 ez202 => ?_)
          subst ez199
          exact lpL (n - t) 0 _ _ _ _ lx (by omega) rfl (by omega) (fun j hj => absurd hj (by omega)) rfl (by rw [hx]; split <;> simp) (by rw [hx]; repeat' split <;> omega) hM
    · omega
  have gD : ∀ (z1 z2 z3 va wo lx : Int), z1 = (t : Int) → z2 = 0 → z3 = 1 → t < n → ¬ isLet (B t) → isDig (B t) → lx = (if pvL B t then (t : Int) else -1) → Bj MX12_ahead 1 135 [some (aR 57), some (aI z1), some (aI z2), some (aI z3), none, none] [] (MX K 0 t t va wo 0 (-1) lx) Q := by
    intro z1 z2 z3 va wo lx e1 e2 e3 htl hnl hl hx
    subst e1
    subst e2
    subst e3
    have hM : ∀ (i : Nat) (en va lx' : Int), t + i ≤ n → (∀ j, j < i → isDig (B (t + j))) → ¬ (t + i < n ∧ isDig (B (t + i))) → en = (t + i : Nat) → va = nv B t (min i 4) → lx' = (if lx = -1 then (if 4 < i then (t : Int) + 4 else -1) else lx) → Mok K n B q (MX K 2 t en va 0 0 (-1) lx') := by
      intro i en va lx' h1 h2 h3 h4 h5 h6
      by_cases hp : pvL B t
      · rw [if_pos hp] at hx
        have h7 := tk_D4 (n := n) (B := B) (p := q) (by rw [ht]; exact htl) (by rw [ht]; exact hnl) (by rw [ht]; exact hl) (by rw [ht]; exact hp)
        refine Mok_4 h7.1 (by rw [ht]) (by decide) ?_
        rw [h6, hx, if_neg (by omega), h7.2, ht]
      · rw [if_neg hp] at hx
        rw [if_pos hx] at h6
        by_cases h7 : 4 < i
        · rw [if_pos h7] at h6
          have hr : runF isDig n B 5 (tq n B q) = 5 := run_full 5 _ 5 (Nat.le_refl _) (fun j hj => by rw [ht]; exact ⟨by omega, h2 j (by omega)⟩) (Or.inl rfl)
          have h8 := tk_D5 (n := n) (B := B) (p := q) (by rw [ht]; exact htl) (by rw [ht]; exact hnl) (by rw [ht]; exact hl) (by rw [ht]; exact hp) hr
          refine Mok_4 h8.1 (by rw [ht]) (by decide) ?_
          rw [h6, h8.2, ht]
          omega
        · rw [if_neg h7] at h6
          have hr : runF isDig n B 5 (tq n B q) = i := run_full 5 _ i (by omega) (fun j hj => by rw [ht]; exact ⟨by omega, h2 j hj⟩) (Or.inr (by rw [ht]; exact h3))
          have hk := tk_D2 (n := n) (B := B) (p := q) (by rw [ht]; exact htl) (by rw [ht]; exact hnl) (by rw [ht]; exact hl) (by rw [ht]; exact hp) (by omega)
          refine Mok_2 hk (by rw [ht]) rfl h6 ?_ ?_
          · rw [h4, hr, ht]
          · rw [h5, show min i 4 = i by omega, hr, ht]
    refine b_aload_n rfl rfl ?_
    refine b_iconst rfl (by decide) ?_
    refine b_putI rfl fl12_29 rfl (by decide) rfl ?_
    rw [MX_u6]
    refine b_aload_n rfl rfl ?_
    refine b_lconst (z := 0) rfl rfl ?_
    refine b_putJ rfl fl12_32 rfl (by decide) rfl ?_
    rw [MX_u7]
    refine b_aload_n rfl rfl ?_
    refine b_iconst rfl (by decide) ?_
    refine b_putI rfl fl12_20 rfl (by decide) rfl ?_
    rw [MX_u3]
    refine b_aload_n rfl rfl ?_
    refine b_iload_n rfl rfl ?_
    refine b_iconst rfl (by decide) ?_
    refine b_iaddN rfl (by omega) (by omega) ?_
    refine b_putI rfl fl12_26 rfl (by decide) rfl ?_
    rw [MX_u5]
    refine b_iload_n rfl rfl ?_
    refine b_if_ne (tgt := 176) rfl rfl (fun c158 => ?_) (fun c158 => ?_)
    · omega
    · refine b_iload_n rfl rfl ?_
      refine b_if_ne (tgt := 176) rfl rfl (fun c162 => ?_) (fun c162 => ?_)
      · refine b_aload_n rfl rfl ?_
        refine b_iload_n rfl rfl ?_
        refine b_if_eq (tgt := 185) rfl rfl (fun c178 => ?_) (fun c178 => ?_)
        · refine b_iconst rfl (by decide) ?_
          refine b_putI rfl fl12_20 rfl (by decide) rfl ?_
          rw [MX_u3]
          refine b_iload_n rfl rfl ?_
          refine b_if_eq (tgt := 198) rfl rfl (fun c190 => ?_) (fun c190 => ?_)
          · refine b_iconst rfl (by decide) ?_
            refine b_istoreX (F := fun z199 => [some (aR 57), some (aI (t : Int)), some (aI 0), some (aI 1), some (aI z199), none]) rfl (by decide) (fun _ => rfl) (fun z199 ez199 => ?_)
            refine b_iconst rfl (by decide) ?_
            refine b_istoreX (F := fun z202 => [some (aR 57), some (aI (t : Int)), some (aI 0), some (aI 1), some (aI z199), some (aI z202)]) rfl (by decide) (fun _ => rfl) (fun z202 ez202 => ?_)
            subst ez199
            exact lpD (n - t) 0 _ _ _ _ lx (by omega) rfl (by omega) (fun j hj => absurd hj (by omega)) rfl (by rw [hx]; split <;> simp) (by rw [hx]; repeat' split <;> omega) hM
          · omega
        · omega
      · omega
  have gS : ∀ (z1 z2 z3 va wo lx : Int), z1 = (t : Int) → z2 = 0 → z3 = 0 → t < n → ¬ isLet (B t) → ¬ isDig (B t) → lx = -1 → Bj MX12_ahead 1 135 [some (aR 57), some (aI z1), some (aI z2), some (aI z3), none, none] [] (MX K 0 t t va wo 0 (-1) lx) Q := by
    intro z1 z2 z3 va wo lx e1 e2 e3 htl hnl hl hx
    subst e1
    subst e2
    subst e3
    have hbt := hT3 t htl
    have hk := tk_S (n := n) (B := B) (p := q) (by rw [ht]; exact htl) (by rw [ht]; exact hnl) (by rw [ht]; exact hl)
    refine b_aload_n rfl rfl ?_
    refine b_iconst rfl (by decide) ?_
    refine b_putI rfl fl12_29 rfl (by decide) rfl ?_
    rw [MX_u6]
    refine b_aload_n rfl rfl ?_
    refine b_lconst (z := 0) rfl rfl ?_
    refine b_putJ rfl fl12_32 rfl (by decide) rfl ?_
    rw [MX_u7]
    refine b_aload_n rfl rfl ?_
    refine b_iconst rfl (by decide) ?_
    refine b_putI rfl fl12_20 rfl (by decide) rfl ?_
    rw [MX_u3]
    refine b_aload_n rfl rfl ?_
    refine b_iload_n rfl rfl ?_
    refine b_iconst rfl (by decide) ?_
    refine b_iaddN rfl (by omega) (by omega) ?_
    refine b_putI rfl fl12_26 rfl (by decide) rfl ?_
    rw [MX_u5]
    refine b_iload_n rfl rfl ?_
    refine b_if_ne (tgt := 176) rfl rfl (fun c158 => ?_) (fun c158 => ?_)
    · omega
    · refine b_iload_n rfl rfl ?_
      refine b_if_ne (tgt := 176) rfl rfl (fun c162 => ?_) (fun c162 => ?_)
      · omega
      · refine b_aload_n rfl rfl ?_
        refine b_aload_n rfl rfl ?_
        refine b_getR (r := 58) rfl fl12_7 rfl (by decide) rfl rfl ?_
        refine b_iload_n rfl rfl ?_
        refine b_iald rfl rfl (by omega) (by omega) ?_
        try simp only [tn6, tn4, tn2, tn144, tn24, tn_cast, Int.reduceToNat]
        rw [MXc (by decide)]
        refine b_putI rfl fl12_29 rfl (by decide) rfl ?_
        rw [MX_u6]
        refine b_vret rfl rfl ?_
        refine kq _ (Mok_3 hk (by rw [ht]) rfl hx (by rw [ht]) ?_)
        rw [ht]
        exact hbt
  have g70 : ∀ (z1 va wo : Int), z1 = (t : Int) → t < n → Bj MX12_ahead 1 70 [some (aR 57), some (aI z1), none, none, none, none] [] (MX K 0 t t va wo 0 (-1) (-1)) Q := by
    intro z1 va wo e1 htl
    subst e1
    have hbt := hT3 t htl
    have hbp : 0 < t → K 58 (t - 1) = B (t - 1) := fun h => hT3 (t - 1) (by omega)
    have ez : ((t : Int) - 1).toNat = t - 1 := by omega
    have hDD := nDD htl
    have hLL := nLL htl
    have nLD : isLet (B t) → isDig (B t) → False := fun a b => by unfold isLet at a; unfold isDig at b; omega
    refine b_aload_n rfl rfl ?_
    refine b_getR (r := 58) rfl fl12_7 rfl (by decide) rfl rfl ?_
    refine b_iload_n rfl rfl ?_
    refine b_iald rfl rfl (by omega) (by omega) ?_
    try simp only [tn6, tn4, tn2, tn144, tn24, tn_cast, Int.reduceToNat]
    rw [MXc (by decide)]
    try rw [Int.toNat_natCast]
    rw [hbt]
    refine b_callS1i (ν := MX12_isLetter) rfl ml12_240 csX12_isLetter (d' := 0) (by omega) (Nat.le_of_ble_eq_true rfl) ?_
    refine spr_isLetter (fun hl => ?_) (fun hl => ?_)
    · refine ⟨_, rfl, ?_⟩
      refine b_istoreX_n (F := fun z79 => [some (aR 57), some (aI (t : Int)), some (aI z79), none, none, none]) rfl (by decide) (fun _ => rfl) (fun z79 ez79 => ?_)
      refine b_aload_n rfl rfl ?_
      refine b_getR (r := 58) rfl fl12_7 rfl (by decide) rfl rfl ?_
      refine b_iload_n rfl rfl ?_
      refine b_iald rfl rfl (by omega) (by omega) ?_
      try simp only [tn6, tn4, tn2, tn144, tn24, tn_cast, Int.reduceToNat]
      rw [MXc (by decide)]
      try rw [Int.toNat_natCast]
      rw [hbt]
      refine b_callS1i (ν := MX12_isDigit) rfl ml12_244 csX12_isDigit (d' := 0) (by omega) (Nat.le_of_ble_eq_true rfl) ?_
      refine spr_isDigit (fun hd => ?_) (fun hd => ?_)
      · refine ⟨_, rfl, ?_⟩
        refine b_istoreX_n (F := fun z89 => [some (aR 57), some (aI (t : Int)), some (aI z79), some (aI z89), none, none]) rfl (by decide) (fun _ => rfl) (fun z89 ez89 => ?_)
        refine b_iload_n rfl rfl ?_
        refine b_if_ne (tgt := 98) rfl rfl (fun c91 => ?_) (fun c91 => ?_)
        · refine b_iload_n rfl rfl ?_
          refine b_if_le (tgt := 135) rfl rfl (fun c99 => ?_) (fun c99 => ?_)
          · first
            | (exfalso; omega)
            | exact (nLD hl hd).elim
            | exact absurd hpl (hLL hl (by omega))
            | exact absurd hpd (hDD hd (by omega))
            | exact gS _ _ _ _ _ _ rfl ez79 ez89 htl hl hd rfl
            | exact gL _ _ _ _ _ _ rfl ez79 ez89 htl hl (if_pos ⟨by omega, hpd⟩).symm
            | exact gL _ _ _ _ _ _ rfl ez79 ez89 htl hl (if_neg (fun w => hpd w.2)).symm
            | exact gL _ _ _ _ _ _ rfl ez79 ez89 htl hl (if_neg (fun w => absurd w.1 (by omega))).symm
            | exact gD _ _ _ _ _ _ rfl ez79 ez89 htl hl hd (if_pos ⟨by omega, hpl⟩).symm
            | exact gD _ _ _ _ _ _ rfl ez79 ez89 htl hl hd (if_neg (fun w => hpl w.2)).symm
            | exact gD _ _ _ _ _ _ rfl ez79 ez89 htl hl hd (if_neg (fun w => absurd w.1 (by omega))).symm
          · refine b_aload_n rfl rfl ?_
            refine b_getR (r := 58) rfl fl12_7 rfl (by decide) rfl rfl ?_
            refine b_iload_n rfl rfl ?_
            refine b_iconst rfl (by decide) ?_
            refine b_isubN rfl (by omega) (by omega) ?_
            refine b_iald rfl rfl (by omega) (by omega) ?_
            try simp only [tn6, tn4, tn2, tn144, tn24, tn_cast, Int.reduceToNat]
            rw [MXc (by decide)]
            rw [ez, hbp (by omega)]
            refine b_callS1i (ν := MX12_isLetter) rfl ml12_240 csX12_isLetter (d' := 0) (by omega) (Nat.le_of_ble_eq_true rfl) ?_
            refine spr_isLetter (fun hpl => ?_) (fun hpl => ?_)
            · refine ⟨_, rfl, ?_⟩
              refine b_if_ne (tgt := 130) rfl rfl (fun _ => ?_) (fun z => absurd z (by decide))
              refine b_aload_n rfl rfl ?_
              refine b_iload_n rfl rfl ?_
              refine b_putI rfl fl12_48 rfl (by decide) rfl ?_
              rw [MX_u12]
              first
              | (exfalso; omega)
              | exact (nLD hl hd).elim
              | exact absurd hpl (hLL hl (by omega))
              | exact absurd hpd (hDD hd (by omega))
              | exact gS _ _ _ _ _ _ rfl ez79 ez89 htl hl hd rfl
              | exact gL _ _ _ _ _ _ rfl ez79 ez89 htl hl (if_pos ⟨by omega, hpd⟩).symm
              | exact gL _ _ _ _ _ _ rfl ez79 ez89 htl hl (if_neg (fun w => hpd w.2)).symm
              | exact gL _ _ _ _ _ _ rfl ez79 ez89 htl hl (if_neg (fun w => absurd w.1 (by omega))).symm
              | exact gD _ _ _ _ _ _ rfl ez79 ez89 htl hl hd (if_pos ⟨by omega, hpl⟩).symm
              | exact gD _ _ _ _ _ _ rfl ez79 ez89 htl hl hd (if_neg (fun w => hpl w.2)).symm
              | exact gD _ _ _ _ _ _ rfl ez79 ez89 htl hl hd (if_neg (fun w => absurd w.1 (by omega))).symm
            · refine ⟨_, rfl, ?_⟩
              refine b_if_ne (tgt := 130) rfl rfl (fun z => absurd z (by decide)) (fun _ => ?_)
              refine b_aload_n rfl rfl ?_
              refine b_getR (r := 58) rfl fl12_7 rfl (by decide) rfl rfl ?_
              refine b_iload_n rfl rfl ?_
              refine b_iconst rfl (by decide) ?_
              refine b_isubN rfl (by omega) (by omega) ?_
              refine b_iald rfl rfl (by omega) (by omega) ?_
              try simp only [tn6, tn4, tn2, tn144, tn24, tn_cast, Int.reduceToNat]
              rw [MXc (by decide)]
              rw [ez, hbp (by omega)]
              refine b_callS1i (ν := MX12_isDigit) rfl ml12_244 csX12_isDigit (d' := 0) (by omega) (Nat.le_of_ble_eq_true rfl) ?_
              refine spr_isDigit (fun hpd => ?_) (fun hpd => ?_)
              · refine ⟨_, rfl, ?_⟩
                refine b_if_eq (tgt := 135) rfl rfl (fun z => absurd z (by decide)) (fun _ => ?_)
                refine b_aload_n rfl rfl ?_
                refine b_iload_n rfl rfl ?_
                refine b_putI rfl fl12_48 rfl (by decide) rfl ?_
                rw [MX_u12]
                first
                | (exfalso; omega)
                | exact (nLD hl hd).elim
                | exact absurd hpl (hLL hl (by omega))
                | exact absurd hpd (hDD hd (by omega))
                | exact gS _ _ _ _ _ _ rfl ez79 ez89 htl hl hd rfl
                | exact gL _ _ _ _ _ _ rfl ez79 ez89 htl hl (if_pos ⟨by omega, hpd⟩).symm
                | exact gL _ _ _ _ _ _ rfl ez79 ez89 htl hl (if_neg (fun w => hpd w.2)).symm
                | exact gL _ _ _ _ _ _ rfl ez79 ez89 htl hl (if_neg (fun w => absurd w.1 (by omega))).symm
                | exact gD _ _ _ _ _ _ rfl ez79 ez89 htl hl hd (if_pos ⟨by omega, hpl⟩).symm
                | exact gD _ _ _ _ _ _ rfl ez79 ez89 htl hl hd (if_neg (fun w => hpl w.2)).symm
                | exact gD _ _ _ _ _ _ rfl ez79 ez89 htl hl hd (if_neg (fun w => absurd w.1 (by omega))).symm
              · refine ⟨_, rfl, ?_⟩
                refine b_if_eq (tgt := 135) rfl rfl (fun _ => ?_) (fun z => absurd z (by decide))
                first
                | (exfalso; omega)
                | exact (nLD hl hd).elim
                | exact absurd hpl (hLL hl (by omega))
                | exact absurd hpd (hDD hd (by omega))
                | exact gS _ _ _ _ _ _ rfl ez79 ez89 htl hl hd rfl
                | exact gL _ _ _ _ _ _ rfl ez79 ez89 htl hl (if_pos ⟨by omega, hpd⟩).symm
                | exact gL _ _ _ _ _ _ rfl ez79 ez89 htl hl (if_neg (fun w => hpd w.2)).symm
                | exact gL _ _ _ _ _ _ rfl ez79 ez89 htl hl (if_neg (fun w => absurd w.1 (by omega))).symm
                | exact gD _ _ _ _ _ _ rfl ez79 ez89 htl hl hd (if_pos ⟨by omega, hpl⟩).symm
                | exact gD _ _ _ _ _ _ rfl ez79 ez89 htl hl hd (if_neg (fun w => hpl w.2)).symm
                | exact gD _ _ _ _ _ _ rfl ez79 ez89 htl hl hd (if_neg (fun w => absurd w.1 (by omega))).symm
        · refine b_iload_n rfl rfl ?_
          refine b_if_eq (tgt := 135) rfl rfl (fun c95 => ?_) (fun c95 => ?_)
          · first
            | (exfalso; omega)
            | exact (nLD hl hd).elim
            | exact absurd hpl (hLL hl (by omega))
            | exact absurd hpd (hDD hd (by omega))
            | exact gS _ _ _ _ _ _ rfl ez79 ez89 htl hl hd rfl
            | exact gL _ _ _ _ _ _ rfl ez79 ez89 htl hl (if_pos ⟨by omega, hpd⟩).symm
            | exact gL _ _ _ _ _ _ rfl ez79 ez89 htl hl (if_neg (fun w => hpd w.2)).symm
            | exact gL _ _ _ _ _ _ rfl ez79 ez89 htl hl (if_neg (fun w => absurd w.1 (by omega))).symm
            | exact gD _ _ _ _ _ _ rfl ez79 ez89 htl hl hd (if_pos ⟨by omega, hpl⟩).symm
            | exact gD _ _ _ _ _ _ rfl ez79 ez89 htl hl hd (if_neg (fun w => hpl w.2)).symm
            | exact gD _ _ _ _ _ _ rfl ez79 ez89 htl hl hd (if_neg (fun w => absurd w.1 (by omega))).symm
          · refine b_iload_n rfl rfl ?_
            refine b_if_le (tgt := 135) rfl rfl (fun c99 => ?_) (fun c99 => ?_)
            · first
              | (exfalso; omega)
              | exact (nLD hl hd).elim
              | exact absurd hpl (hLL hl (by omega))
              | exact absurd hpd (hDD hd (by omega))
              | exact gS _ _ _ _ _ _ rfl ez79 ez89 htl hl hd rfl
              | exact gL _ _ _ _ _ _ rfl ez79 ez89 htl hl (if_pos ⟨by omega, hpd⟩).symm
              | exact gL _ _ _ _ _ _ rfl ez79 ez89 htl hl (if_neg (fun w => hpd w.2)).symm
              | exact gL _ _ _ _ _ _ rfl ez79 ez89 htl hl (if_neg (fun w => absurd w.1 (by omega))).symm
              | exact gD _ _ _ _ _ _ rfl ez79 ez89 htl hl hd (if_pos ⟨by omega, hpl⟩).symm
              | exact gD _ _ _ _ _ _ rfl ez79 ez89 htl hl hd (if_neg (fun w => hpl w.2)).symm
              | exact gD _ _ _ _ _ _ rfl ez79 ez89 htl hl hd (if_neg (fun w => absurd w.1 (by omega))).symm
            · refine b_aload_n rfl rfl ?_
              refine b_getR (r := 58) rfl fl12_7 rfl (by decide) rfl rfl ?_
              refine b_iload_n rfl rfl ?_
              refine b_iconst rfl (by decide) ?_
              refine b_isubN rfl (by omega) (by omega) ?_
              refine b_iald rfl rfl (by omega) (by omega) ?_
              try simp only [tn6, tn4, tn2, tn144, tn24, tn_cast, Int.reduceToNat]
              rw [MXc (by decide)]
              rw [ez, hbp (by omega)]
              refine b_callS1i (ν := MX12_isLetter) rfl ml12_240 csX12_isLetter (d' := 0) (by omega) (Nat.le_of_ble_eq_true rfl) ?_
              refine spr_isLetter (fun hpl => ?_) (fun hpl => ?_)
              · refine ⟨_, rfl, ?_⟩
                refine b_if_ne (tgt := 130) rfl rfl (fun _ => ?_) (fun z => absurd z (by decide))
                refine b_aload_n rfl rfl ?_
                refine b_iload_n rfl rfl ?_
                refine b_putI rfl fl12_48 rfl (by decide) rfl ?_
                rw [MX_u12]
                first
                | (exfalso; omega)
                | exact (nLD hl hd).elim
                | exact absurd hpl (hLL hl (by omega))
                | exact absurd hpd (hDD hd (by omega))
                | exact gS _ _ _ _ _ _ rfl ez79 ez89 htl hl hd rfl
                | exact gL _ _ _ _ _ _ rfl ez79 ez89 htl hl (if_pos ⟨by omega, hpd⟩).symm
                | exact gL _ _ _ _ _ _ rfl ez79 ez89 htl hl (if_neg (fun w => hpd w.2)).symm
                | exact gL _ _ _ _ _ _ rfl ez79 ez89 htl hl (if_neg (fun w => absurd w.1 (by omega))).symm
                | exact gD _ _ _ _ _ _ rfl ez79 ez89 htl hl hd (if_pos ⟨by omega, hpl⟩).symm
                | exact gD _ _ _ _ _ _ rfl ez79 ez89 htl hl hd (if_neg (fun w => hpl w.2)).symm
                | exact gD _ _ _ _ _ _ rfl ez79 ez89 htl hl hd (if_neg (fun w => absurd w.1 (by omega))).symm
              · refine ⟨_, rfl, ?_⟩
                refine b_if_ne (tgt := 130) rfl rfl (fun z => absurd z (by decide)) (fun _ => ?_)
                refine b_aload_n rfl rfl ?_
                refine b_getR (r := 58) rfl fl12_7 rfl (by decide) rfl rfl ?_
                refine b_iload_n rfl rfl ?_
                refine b_iconst rfl (by decide) ?_
                refine b_isubN rfl (by omega) (by omega) ?_
                refine b_iald rfl rfl (by omega) (by omega) ?_
                try simp only [tn6, tn4, tn2, tn144, tn24, tn_cast, Int.reduceToNat]
                rw [MXc (by decide)]
                rw [ez, hbp (by omega)]
                refine b_callS1i (ν := MX12_isDigit) rfl ml12_244 csX12_isDigit (d' := 0) (by omega) (Nat.le_of_ble_eq_true rfl) ?_
                refine spr_isDigit (fun hpd => ?_) (fun hpd => ?_)
                · refine ⟨_, rfl, ?_⟩
                  refine b_if_eq (tgt := 135) rfl rfl (fun z => absurd z (by decide)) (fun _ => ?_)
                  refine b_aload_n rfl rfl ?_
                  refine b_iload_n rfl rfl ?_
                  refine b_putI rfl fl12_48 rfl (by decide) rfl ?_
                  rw [MX_u12]
                  first
                  | (exfalso; omega)
                  | exact (nLD hl hd).elim
                  | exact absurd hpl (hLL hl (by omega))
                  | exact absurd hpd (hDD hd (by omega))
                  | exact gS _ _ _ _ _ _ rfl ez79 ez89 htl hl hd rfl
                  | exact gL _ _ _ _ _ _ rfl ez79 ez89 htl hl (if_pos ⟨by omega, hpd⟩).symm
                  | exact gL _ _ _ _ _ _ rfl ez79 ez89 htl hl (if_neg (fun w => hpd w.2)).symm
                  | exact gL _ _ _ _ _ _ rfl ez79 ez89 htl hl (if_neg (fun w => absurd w.1 (by omega))).symm
                  | exact gD _ _ _ _ _ _ rfl ez79 ez89 htl hl hd (if_pos ⟨by omega, hpl⟩).symm
                  | exact gD _ _ _ _ _ _ rfl ez79 ez89 htl hl hd (if_neg (fun w => hpl w.2)).symm
                  | exact gD _ _ _ _ _ _ rfl ez79 ez89 htl hl hd (if_neg (fun w => absurd w.1 (by omega))).symm
                · refine ⟨_, rfl, ?_⟩
                  refine b_if_eq (tgt := 135) rfl rfl (fun _ => ?_) (fun z => absurd z (by decide))
                  first
                  | (exfalso; omega)
                  | exact (nLD hl hd).elim
                  | exact absurd hpl (hLL hl (by omega))
                  | exact absurd hpd (hDD hd (by omega))
                  | exact gS _ _ _ _ _ _ rfl ez79 ez89 htl hl hd rfl
                  | exact gL _ _ _ _ _ _ rfl ez79 ez89 htl hl (if_pos ⟨by omega, hpd⟩).symm
                  | exact gL _ _ _ _ _ _ rfl ez79 ez89 htl hl (if_neg (fun w => hpd w.2)).symm
                  | exact gL _ _ _ _ _ _ rfl ez79 ez89 htl hl (if_neg (fun w => absurd w.1 (by omega))).symm
                  | exact gD _ _ _ _ _ _ rfl ez79 ez89 htl hl hd (if_pos ⟨by omega, hpl⟩).symm
                  | exact gD _ _ _ _ _ _ rfl ez79 ez89 htl hl hd (if_neg (fun w => hpl w.2)).symm
                  | exact gD _ _ _ _ _ _ rfl ez79 ez89 htl hl hd (if_neg (fun w => absurd w.1 (by omega))).symm
      · refine ⟨_, rfl, ?_⟩
        refine b_istoreX_n (F := fun z89 => [some (aR 57), some (aI (t : Int)), some (aI z79), some (aI z89), none, none]) rfl (by decide) (fun _ => rfl) (fun z89 ez89 => ?_)
        refine b_iload_n rfl rfl ?_
        refine b_if_ne (tgt := 98) rfl rfl (fun c91 => ?_) (fun c91 => ?_)
        · refine b_iload_n rfl rfl ?_
          refine b_if_le (tgt := 135) rfl rfl (fun c99 => ?_) (fun c99 => ?_)
          · first
            | (exfalso; omega)
            | exact (nLD hl hd).elim
            | exact absurd hpl (hLL hl (by omega))
            | exact absurd hpd (hDD hd (by omega))
            | exact gS _ _ _ _ _ _ rfl ez79 ez89 htl hl hd rfl
            | exact gL _ _ _ _ _ _ rfl ez79 ez89 htl hl (if_pos ⟨by omega, hpd⟩).symm
            | exact gL _ _ _ _ _ _ rfl ez79 ez89 htl hl (if_neg (fun w => hpd w.2)).symm
            | exact gL _ _ _ _ _ _ rfl ez79 ez89 htl hl (if_neg (fun w => absurd w.1 (by omega))).symm
            | exact gD _ _ _ _ _ _ rfl ez79 ez89 htl hl hd (if_pos ⟨by omega, hpl⟩).symm
            | exact gD _ _ _ _ _ _ rfl ez79 ez89 htl hl hd (if_neg (fun w => hpl w.2)).symm
            | exact gD _ _ _ _ _ _ rfl ez79 ez89 htl hl hd (if_neg (fun w => absurd w.1 (by omega))).symm
          · refine b_aload_n rfl rfl ?_
            refine b_getR (r := 58) rfl fl12_7 rfl (by decide) rfl rfl ?_
            refine b_iload_n rfl rfl ?_
            refine b_iconst rfl (by decide) ?_
            refine b_isubN rfl (by omega) (by omega) ?_
            refine b_iald rfl rfl (by omega) (by omega) ?_
            try simp only [tn6, tn4, tn2, tn144, tn24, tn_cast, Int.reduceToNat]
            rw [MXc (by decide)]
            rw [ez, hbp (by omega)]
            refine b_callS1i (ν := MX12_isLetter) rfl ml12_240 csX12_isLetter (d' := 0) (by omega) (Nat.le_of_ble_eq_true rfl) ?_
            refine spr_isLetter (fun hpl => ?_) (fun hpl => ?_)
            · refine ⟨_, rfl, ?_⟩
              refine b_if_ne (tgt := 130) rfl rfl (fun _ => ?_) (fun z => absurd z (by decide))
              refine b_aload_n rfl rfl ?_
              refine b_iload_n rfl rfl ?_
              refine b_putI rfl fl12_48 rfl (by decide) rfl ?_
              rw [MX_u12]
              first
              | (exfalso; omega)
              | exact (nLD hl hd).elim
              | exact absurd hpl (hLL hl (by omega))
              | exact absurd hpd (hDD hd (by omega))
              | exact gS _ _ _ _ _ _ rfl ez79 ez89 htl hl hd rfl
              | exact gL _ _ _ _ _ _ rfl ez79 ez89 htl hl (if_pos ⟨by omega, hpd⟩).symm
              | exact gL _ _ _ _ _ _ rfl ez79 ez89 htl hl (if_neg (fun w => hpd w.2)).symm
              | exact gL _ _ _ _ _ _ rfl ez79 ez89 htl hl (if_neg (fun w => absurd w.1 (by omega))).symm
              | exact gD _ _ _ _ _ _ rfl ez79 ez89 htl hl hd (if_pos ⟨by omega, hpl⟩).symm
              | exact gD _ _ _ _ _ _ rfl ez79 ez89 htl hl hd (if_neg (fun w => hpl w.2)).symm
              | exact gD _ _ _ _ _ _ rfl ez79 ez89 htl hl hd (if_neg (fun w => absurd w.1 (by omega))).symm
            · refine ⟨_, rfl, ?_⟩
              refine b_if_ne (tgt := 130) rfl rfl (fun z => absurd z (by decide)) (fun _ => ?_)
              refine b_aload_n rfl rfl ?_
              refine b_getR (r := 58) rfl fl12_7 rfl (by decide) rfl rfl ?_
              refine b_iload_n rfl rfl ?_
              refine b_iconst rfl (by decide) ?_
              refine b_isubN rfl (by omega) (by omega) ?_
              refine b_iald rfl rfl (by omega) (by omega) ?_
              try simp only [tn6, tn4, tn2, tn144, tn24, tn_cast, Int.reduceToNat]
              rw [MXc (by decide)]
              rw [ez, hbp (by omega)]
              refine b_callS1i (ν := MX12_isDigit) rfl ml12_244 csX12_isDigit (d' := 0) (by omega) (Nat.le_of_ble_eq_true rfl) ?_
              refine spr_isDigit (fun hpd => ?_) (fun hpd => ?_)
              · refine ⟨_, rfl, ?_⟩
                refine b_if_eq (tgt := 135) rfl rfl (fun z => absurd z (by decide)) (fun _ => ?_)
                refine b_aload_n rfl rfl ?_
                refine b_iload_n rfl rfl ?_
                refine b_putI rfl fl12_48 rfl (by decide) rfl ?_
                rw [MX_u12]
                first
                | (exfalso; omega)
                | exact (nLD hl hd).elim
                | exact absurd hpl (hLL hl (by omega))
                | exact absurd hpd (hDD hd (by omega))
                | exact gS _ _ _ _ _ _ rfl ez79 ez89 htl hl hd rfl
                | exact gL _ _ _ _ _ _ rfl ez79 ez89 htl hl (if_pos ⟨by omega, hpd⟩).symm
                | exact gL _ _ _ _ _ _ rfl ez79 ez89 htl hl (if_neg (fun w => hpd w.2)).symm
                | exact gL _ _ _ _ _ _ rfl ez79 ez89 htl hl (if_neg (fun w => absurd w.1 (by omega))).symm
                | exact gD _ _ _ _ _ _ rfl ez79 ez89 htl hl hd (if_pos ⟨by omega, hpl⟩).symm
                | exact gD _ _ _ _ _ _ rfl ez79 ez89 htl hl hd (if_neg (fun w => hpl w.2)).symm
                | exact gD _ _ _ _ _ _ rfl ez79 ez89 htl hl hd (if_neg (fun w => absurd w.1 (by omega))).symm
              · refine ⟨_, rfl, ?_⟩
                refine b_if_eq (tgt := 135) rfl rfl (fun _ => ?_) (fun z => absurd z (by decide))
                first
                | (exfalso; omega)
                | exact (nLD hl hd).elim
                | exact absurd hpl (hLL hl (by omega))
                | exact absurd hpd (hDD hd (by omega))
                | exact gS _ _ _ _ _ _ rfl ez79 ez89 htl hl hd rfl
                | exact gL _ _ _ _ _ _ rfl ez79 ez89 htl hl (if_pos ⟨by omega, hpd⟩).symm
                | exact gL _ _ _ _ _ _ rfl ez79 ez89 htl hl (if_neg (fun w => hpd w.2)).symm
                | exact gL _ _ _ _ _ _ rfl ez79 ez89 htl hl (if_neg (fun w => absurd w.1 (by omega))).symm
                | exact gD _ _ _ _ _ _ rfl ez79 ez89 htl hl hd (if_pos ⟨by omega, hpl⟩).symm
                | exact gD _ _ _ _ _ _ rfl ez79 ez89 htl hl hd (if_neg (fun w => hpl w.2)).symm
                | exact gD _ _ _ _ _ _ rfl ez79 ez89 htl hl hd (if_neg (fun w => absurd w.1 (by omega))).symm
        · refine b_iload_n rfl rfl ?_
          refine b_if_eq (tgt := 135) rfl rfl (fun c95 => ?_) (fun c95 => ?_)
          · first
            | (exfalso; omega)
            | exact (nLD hl hd).elim
            | exact absurd hpl (hLL hl (by omega))
            | exact absurd hpd (hDD hd (by omega))
            | exact gS _ _ _ _ _ _ rfl ez79 ez89 htl hl hd rfl
            | exact gL _ _ _ _ _ _ rfl ez79 ez89 htl hl (if_pos ⟨by omega, hpd⟩).symm
            | exact gL _ _ _ _ _ _ rfl ez79 ez89 htl hl (if_neg (fun w => hpd w.2)).symm
            | exact gL _ _ _ _ _ _ rfl ez79 ez89 htl hl (if_neg (fun w => absurd w.1 (by omega))).symm
            | exact gD _ _ _ _ _ _ rfl ez79 ez89 htl hl hd (if_pos ⟨by omega, hpl⟩).symm
            | exact gD _ _ _ _ _ _ rfl ez79 ez89 htl hl hd (if_neg (fun w => hpl w.2)).symm
            | exact gD _ _ _ _ _ _ rfl ez79 ez89 htl hl hd (if_neg (fun w => absurd w.1 (by omega))).symm
          · refine b_iload_n rfl rfl ?_
            refine b_if_le (tgt := 135) rfl rfl (fun c99 => ?_) (fun c99 => ?_)
            · first
              | (exfalso; omega)
              | exact (nLD hl hd).elim
              | exact absurd hpl (hLL hl (by omega))
              | exact absurd hpd (hDD hd (by omega))
              | exact gS _ _ _ _ _ _ rfl ez79 ez89 htl hl hd rfl
              | exact gL _ _ _ _ _ _ rfl ez79 ez89 htl hl (if_pos ⟨by omega, hpd⟩).symm
              | exact gL _ _ _ _ _ _ rfl ez79 ez89 htl hl (if_neg (fun w => hpd w.2)).symm
              | exact gL _ _ _ _ _ _ rfl ez79 ez89 htl hl (if_neg (fun w => absurd w.1 (by omega))).symm
              | exact gD _ _ _ _ _ _ rfl ez79 ez89 htl hl hd (if_pos ⟨by omega, hpl⟩).symm
              | exact gD _ _ _ _ _ _ rfl ez79 ez89 htl hl hd (if_neg (fun w => hpl w.2)).symm
              | exact gD _ _ _ _ _ _ rfl ez79 ez89 htl hl hd (if_neg (fun w => absurd w.1 (by omega))).symm
            · refine b_aload_n rfl rfl ?_
              refine b_getR (r := 58) rfl fl12_7 rfl (by decide) rfl rfl ?_
              refine b_iload_n rfl rfl ?_
              refine b_iconst rfl (by decide) ?_
              refine b_isubN rfl (by omega) (by omega) ?_
              refine b_iald rfl rfl (by omega) (by omega) ?_
              try simp only [tn6, tn4, tn2, tn144, tn24, tn_cast, Int.reduceToNat]
              rw [MXc (by decide)]
              rw [ez, hbp (by omega)]
              refine b_callS1i (ν := MX12_isLetter) rfl ml12_240 csX12_isLetter (d' := 0) (by omega) (Nat.le_of_ble_eq_true rfl) ?_
              refine spr_isLetter (fun hpl => ?_) (fun hpl => ?_)
              · refine ⟨_, rfl, ?_⟩
                refine b_if_ne (tgt := 130) rfl rfl (fun _ => ?_) (fun z => absurd z (by decide))
                refine b_aload_n rfl rfl ?_
                refine b_iload_n rfl rfl ?_
                refine b_putI rfl fl12_48 rfl (by decide) rfl ?_
                rw [MX_u12]
                first
                | (exfalso; omega)
                | exact (nLD hl hd).elim
                | exact absurd hpl (hLL hl (by omega))
                | exact absurd hpd (hDD hd (by omega))
                | exact gS _ _ _ _ _ _ rfl ez79 ez89 htl hl hd rfl
                | exact gL _ _ _ _ _ _ rfl ez79 ez89 htl hl (if_pos ⟨by omega, hpd⟩).symm
                | exact gL _ _ _ _ _ _ rfl ez79 ez89 htl hl (if_neg (fun w => hpd w.2)).symm
                | exact gL _ _ _ _ _ _ rfl ez79 ez89 htl hl (if_neg (fun w => absurd w.1 (by omega))).symm
                | exact gD _ _ _ _ _ _ rfl ez79 ez89 htl hl hd (if_pos ⟨by omega, hpl⟩).symm
                | exact gD _ _ _ _ _ _ rfl ez79 ez89 htl hl hd (if_neg (fun w => hpl w.2)).symm
                | exact gD _ _ _ _ _ _ rfl ez79 ez89 htl hl hd (if_neg (fun w => absurd w.1 (by omega))).symm
              · refine ⟨_, rfl, ?_⟩
                refine b_if_ne (tgt := 130) rfl rfl (fun z => absurd z (by decide)) (fun _ => ?_)
                refine b_aload_n rfl rfl ?_
                refine b_getR (r := 58) rfl fl12_7 rfl (by decide) rfl rfl ?_
                refine b_iload_n rfl rfl ?_
                refine b_iconst rfl (by decide) ?_
                refine b_isubN rfl (by omega) (by omega) ?_
                refine b_iald rfl rfl (by omega) (by omega) ?_
                try simp only [tn6, tn4, tn2, tn144, tn24, tn_cast, Int.reduceToNat]
                rw [MXc (by decide)]
                rw [ez, hbp (by omega)]
                refine b_callS1i (ν := MX12_isDigit) rfl ml12_244 csX12_isDigit (d' := 0) (by omega) (Nat.le_of_ble_eq_true rfl) ?_
                refine spr_isDigit (fun hpd => ?_) (fun hpd => ?_)
                · refine ⟨_, rfl, ?_⟩
                  refine b_if_eq (tgt := 135) rfl rfl (fun z => absurd z (by decide)) (fun _ => ?_)
                  refine b_aload_n rfl rfl ?_
                  refine b_iload_n rfl rfl ?_
                  refine b_putI rfl fl12_48 rfl (by decide) rfl ?_
                  rw [MX_u12]
                  first
                  | (exfalso; omega)
                  | exact (nLD hl hd).elim
                  | exact absurd hpl (hLL hl (by omega))
                  | exact absurd hpd (hDD hd (by omega))
                  | exact gS _ _ _ _ _ _ rfl ez79 ez89 htl hl hd rfl
                  | exact gL _ _ _ _ _ _ rfl ez79 ez89 htl hl (if_pos ⟨by omega, hpd⟩).symm
                  | exact gL _ _ _ _ _ _ rfl ez79 ez89 htl hl (if_neg (fun w => hpd w.2)).symm
                  | exact gL _ _ _ _ _ _ rfl ez79 ez89 htl hl (if_neg (fun w => absurd w.1 (by omega))).symm
                  | exact gD _ _ _ _ _ _ rfl ez79 ez89 htl hl hd (if_pos ⟨by omega, hpl⟩).symm
                  | exact gD _ _ _ _ _ _ rfl ez79 ez89 htl hl hd (if_neg (fun w => hpl w.2)).symm
                  | exact gD _ _ _ _ _ _ rfl ez79 ez89 htl hl hd (if_neg (fun w => absurd w.1 (by omega))).symm
                · refine ⟨_, rfl, ?_⟩
                  refine b_if_eq (tgt := 135) rfl rfl (fun _ => ?_) (fun z => absurd z (by decide))
                  first
                  | (exfalso; omega)
                  | exact (nLD hl hd).elim
                  | exact absurd hpl (hLL hl (by omega))
                  | exact absurd hpd (hDD hd (by omega))
                  | exact gS _ _ _ _ _ _ rfl ez79 ez89 htl hl hd rfl
                  | exact gL _ _ _ _ _ _ rfl ez79 ez89 htl hl (if_pos ⟨by omega, hpd⟩).symm
                  | exact gL _ _ _ _ _ _ rfl ez79 ez89 htl hl (if_neg (fun w => hpd w.2)).symm
                  | exact gL _ _ _ _ _ _ rfl ez79 ez89 htl hl (if_neg (fun w => absurd w.1 (by omega))).symm
                  | exact gD _ _ _ _ _ _ rfl ez79 ez89 htl hl hd (if_pos ⟨by omega, hpl⟩).symm
                  | exact gD _ _ _ _ _ _ rfl ez79 ez89 htl hl hd (if_neg (fun w => hpl w.2)).symm
                  | exact gD _ _ _ _ _ _ rfl ez79 ez89 htl hl hd (if_neg (fun w => absurd w.1 (by omega))).symm
    · refine ⟨_, rfl, ?_⟩
      refine b_istoreX_n (F := fun z79 => [some (aR 57), some (aI (t : Int)), some (aI z79), none, none, none]) rfl (by decide) (fun _ => rfl) (fun z79 ez79 => ?_)
      refine b_aload_n rfl rfl ?_
      refine b_getR (r := 58) rfl fl12_7 rfl (by decide) rfl rfl ?_
      refine b_iload_n rfl rfl ?_
      refine b_iald rfl rfl (by omega) (by omega) ?_
      try simp only [tn6, tn4, tn2, tn144, tn24, tn_cast, Int.reduceToNat]
      rw [MXc (by decide)]
      try rw [Int.toNat_natCast]
      rw [hbt]
      refine b_callS1i (ν := MX12_isDigit) rfl ml12_244 csX12_isDigit (d' := 0) (by omega) (Nat.le_of_ble_eq_true rfl) ?_
      refine spr_isDigit (fun hd => ?_) (fun hd => ?_)
      · refine ⟨_, rfl, ?_⟩
        refine b_istoreX_n (F := fun z89 => [some (aR 57), some (aI (t : Int)), some (aI z79), some (aI z89), none, none]) rfl (by decide) (fun _ => rfl) (fun z89 ez89 => ?_)
        refine b_iload_n rfl rfl ?_
        refine b_if_ne (tgt := 98) rfl rfl (fun c91 => ?_) (fun c91 => ?_)
        · refine b_iload_n rfl rfl ?_
          refine b_if_le (tgt := 135) rfl rfl (fun c99 => ?_) (fun c99 => ?_)
          · first
            | (exfalso; omega)
            | exact (nLD hl hd).elim
            | exact absurd hpl (hLL hl (by omega))
            | exact absurd hpd (hDD hd (by omega))
            | exact gS _ _ _ _ _ _ rfl ez79 ez89 htl hl hd rfl
            | exact gL _ _ _ _ _ _ rfl ez79 ez89 htl hl (if_pos ⟨by omega, hpd⟩).symm
            | exact gL _ _ _ _ _ _ rfl ez79 ez89 htl hl (if_neg (fun w => hpd w.2)).symm
            | exact gL _ _ _ _ _ _ rfl ez79 ez89 htl hl (if_neg (fun w => absurd w.1 (by omega))).symm
            | exact gD _ _ _ _ _ _ rfl ez79 ez89 htl hl hd (if_pos ⟨by omega, hpl⟩).symm
            | exact gD _ _ _ _ _ _ rfl ez79 ez89 htl hl hd (if_neg (fun w => hpl w.2)).symm
            | exact gD _ _ _ _ _ _ rfl ez79 ez89 htl hl hd (if_neg (fun w => absurd w.1 (by omega))).symm
          · refine b_aload_n rfl rfl ?_
            refine b_getR (r := 58) rfl fl12_7 rfl (by decide) rfl rfl ?_
            refine b_iload_n rfl rfl ?_
            refine b_iconst rfl (by decide) ?_
            refine b_isubN rfl (by omega) (by omega) ?_
            refine b_iald rfl rfl (by omega) (by omega) ?_
            try simp only [tn6, tn4, tn2, tn144, tn24, tn_cast, Int.reduceToNat]
            rw [MXc (by decide)]
            rw [ez, hbp (by omega)]
            refine b_callS1i (ν := MX12_isLetter) rfl ml12_240 csX12_isLetter (d' := 0) (by omega) (Nat.le_of_ble_eq_true rfl) ?_
            refine spr_isLetter (fun hpl => ?_) (fun hpl => ?_)
            · refine ⟨_, rfl, ?_⟩
              refine b_if_ne (tgt := 130) rfl rfl (fun _ => ?_) (fun z => absurd z (by decide))
              refine b_aload_n rfl rfl ?_
              refine b_iload_n rfl rfl ?_
              refine b_putI rfl fl12_48 rfl (by decide) rfl ?_
              rw [MX_u12]
              first
              | (exfalso; omega)
              | exact (nLD hl hd).elim
              | exact absurd hpl (hLL hl (by omega))
              | exact absurd hpd (hDD hd (by omega))
              | exact gS _ _ _ _ _ _ rfl ez79 ez89 htl hl hd rfl
              | exact gL _ _ _ _ _ _ rfl ez79 ez89 htl hl (if_pos ⟨by omega, hpd⟩).symm
              | exact gL _ _ _ _ _ _ rfl ez79 ez89 htl hl (if_neg (fun w => hpd w.2)).symm
              | exact gL _ _ _ _ _ _ rfl ez79 ez89 htl hl (if_neg (fun w => absurd w.1 (by omega))).symm
              | exact gD _ _ _ _ _ _ rfl ez79 ez89 htl hl hd (if_pos ⟨by omega, hpl⟩).symm
              | exact gD _ _ _ _ _ _ rfl ez79 ez89 htl hl hd (if_neg (fun w => hpl w.2)).symm
              | exact gD _ _ _ _ _ _ rfl ez79 ez89 htl hl hd (if_neg (fun w => absurd w.1 (by omega))).symm
            · refine ⟨_, rfl, ?_⟩
              refine b_if_ne (tgt := 130) rfl rfl (fun z => absurd z (by decide)) (fun _ => ?_)
              refine b_aload_n rfl rfl ?_
              refine b_getR (r := 58) rfl fl12_7 rfl (by decide) rfl rfl ?_
              refine b_iload_n rfl rfl ?_
              refine b_iconst rfl (by decide) ?_
              refine b_isubN rfl (by omega) (by omega) ?_
              refine b_iald rfl rfl (by omega) (by omega) ?_
              try simp only [tn6, tn4, tn2, tn144, tn24, tn_cast, Int.reduceToNat]
              rw [MXc (by decide)]
              rw [ez, hbp (by omega)]
              refine b_callS1i (ν := MX12_isDigit) rfl ml12_244 csX12_isDigit (d' := 0) (by omega) (Nat.le_of_ble_eq_true rfl) ?_
              refine spr_isDigit (fun hpd => ?_) (fun hpd => ?_)
              · refine ⟨_, rfl, ?_⟩
                refine b_if_eq (tgt := 135) rfl rfl (fun z => absurd z (by decide)) (fun _ => ?_)
                refine b_aload_n rfl rfl ?_
                refine b_iload_n rfl rfl ?_
                refine b_putI rfl fl12_48 rfl (by decide) rfl ?_
                rw [MX_u12]
                first
                | (exfalso; omega)
                | exact (nLD hl hd).elim
                | exact absurd hpl (hLL hl (by omega))
                | exact absurd hpd (hDD hd (by omega))
                | exact gS _ _ _ _ _ _ rfl ez79 ez89 htl hl hd rfl
                | exact gL _ _ _ _ _ _ rfl ez79 ez89 htl hl (if_pos ⟨by omega, hpd⟩).symm
                | exact gL _ _ _ _ _ _ rfl ez79 ez89 htl hl (if_neg (fun w => hpd w.2)).symm
                | exact gL _ _ _ _ _ _ rfl ez79 ez89 htl hl (if_neg (fun w => absurd w.1 (by omega))).symm
                | exact gD _ _ _ _ _ _ rfl ez79 ez89 htl hl hd (if_pos ⟨by omega, hpl⟩).symm
                | exact gD _ _ _ _ _ _ rfl ez79 ez89 htl hl hd (if_neg (fun w => hpl w.2)).symm
                | exact gD _ _ _ _ _ _ rfl ez79 ez89 htl hl hd (if_neg (fun w => absurd w.1 (by omega))).symm
              · refine ⟨_, rfl, ?_⟩
                refine b_if_eq (tgt := 135) rfl rfl (fun _ => ?_) (fun z => absurd z (by decide))
                first
                | (exfalso; omega)
                | exact (nLD hl hd).elim
                | exact absurd hpl (hLL hl (by omega))
                | exact absurd hpd (hDD hd (by omega))
                | exact gS _ _ _ _ _ _ rfl ez79 ez89 htl hl hd rfl
                | exact gL _ _ _ _ _ _ rfl ez79 ez89 htl hl (if_pos ⟨by omega, hpd⟩).symm
                | exact gL _ _ _ _ _ _ rfl ez79 ez89 htl hl (if_neg (fun w => hpd w.2)).symm
                | exact gL _ _ _ _ _ _ rfl ez79 ez89 htl hl (if_neg (fun w => absurd w.1 (by omega))).symm
                | exact gD _ _ _ _ _ _ rfl ez79 ez89 htl hl hd (if_pos ⟨by omega, hpl⟩).symm
                | exact gD _ _ _ _ _ _ rfl ez79 ez89 htl hl hd (if_neg (fun w => hpl w.2)).symm
                | exact gD _ _ _ _ _ _ rfl ez79 ez89 htl hl hd (if_neg (fun w => absurd w.1 (by omega))).symm
        · refine b_iload_n rfl rfl ?_
          refine b_if_eq (tgt := 135) rfl rfl (fun c95 => ?_) (fun c95 => ?_)
          · first
            | (exfalso; omega)
            | exact (nLD hl hd).elim
            | exact absurd hpl (hLL hl (by omega))
            | exact absurd hpd (hDD hd (by omega))
            | exact gS _ _ _ _ _ _ rfl ez79 ez89 htl hl hd rfl
            | exact gL _ _ _ _ _ _ rfl ez79 ez89 htl hl (if_pos ⟨by omega, hpd⟩).symm
            | exact gL _ _ _ _ _ _ rfl ez79 ez89 htl hl (if_neg (fun w => hpd w.2)).symm
            | exact gL _ _ _ _ _ _ rfl ez79 ez89 htl hl (if_neg (fun w => absurd w.1 (by omega))).symm
            | exact gD _ _ _ _ _ _ rfl ez79 ez89 htl hl hd (if_pos ⟨by omega, hpl⟩).symm
            | exact gD _ _ _ _ _ _ rfl ez79 ez89 htl hl hd (if_neg (fun w => hpl w.2)).symm
            | exact gD _ _ _ _ _ _ rfl ez79 ez89 htl hl hd (if_neg (fun w => absurd w.1 (by omega))).symm
          · refine b_iload_n rfl rfl ?_
            refine b_if_le (tgt := 135) rfl rfl (fun c99 => ?_) (fun c99 => ?_)
            · first
              | (exfalso; omega)
              | exact (nLD hl hd).elim
              | exact absurd hpl (hLL hl (by omega))
              | exact absurd hpd (hDD hd (by omega))
              | exact gS _ _ _ _ _ _ rfl ez79 ez89 htl hl hd rfl
              | exact gL _ _ _ _ _ _ rfl ez79 ez89 htl hl (if_pos ⟨by omega, hpd⟩).symm
              | exact gL _ _ _ _ _ _ rfl ez79 ez89 htl hl (if_neg (fun w => hpd w.2)).symm
              | exact gL _ _ _ _ _ _ rfl ez79 ez89 htl hl (if_neg (fun w => absurd w.1 (by omega))).symm
              | exact gD _ _ _ _ _ _ rfl ez79 ez89 htl hl hd (if_pos ⟨by omega, hpl⟩).symm
              | exact gD _ _ _ _ _ _ rfl ez79 ez89 htl hl hd (if_neg (fun w => hpl w.2)).symm
              | exact gD _ _ _ _ _ _ rfl ez79 ez89 htl hl hd (if_neg (fun w => absurd w.1 (by omega))).symm
            · refine b_aload_n rfl rfl ?_
              refine b_getR (r := 58) rfl fl12_7 rfl (by decide) rfl rfl ?_
              refine b_iload_n rfl rfl ?_
              refine b_iconst rfl (by decide) ?_
              refine b_isubN rfl (by omega) (by omega) ?_
              refine b_iald rfl rfl (by omega) (by omega) ?_
              try simp only [tn6, tn4, tn2, tn144, tn24, tn_cast, Int.reduceToNat]
              rw [MXc (by decide)]
              rw [ez, hbp (by omega)]
              refine b_callS1i (ν := MX12_isLetter) rfl ml12_240 csX12_isLetter (d' := 0) (by omega) (Nat.le_of_ble_eq_true rfl) ?_
              refine spr_isLetter (fun hpl => ?_) (fun hpl => ?_)
              · refine ⟨_, rfl, ?_⟩
                refine b_if_ne (tgt := 130) rfl rfl (fun _ => ?_) (fun z => absurd z (by decide))
                refine b_aload_n rfl rfl ?_
                refine b_iload_n rfl rfl ?_
                refine b_putI rfl fl12_48 rfl (by decide) rfl ?_
                rw [MX_u12]
                first
                | (exfalso; omega)
                | exact (nLD hl hd).elim
                | exact absurd hpl (hLL hl (by omega))
                | exact absurd hpd (hDD hd (by omega))
                | exact gS _ _ _ _ _ _ rfl ez79 ez89 htl hl hd rfl
                | exact gL _ _ _ _ _ _ rfl ez79 ez89 htl hl (if_pos ⟨by omega, hpd⟩).symm
                | exact gL _ _ _ _ _ _ rfl ez79 ez89 htl hl (if_neg (fun w => hpd w.2)).symm
                | exact gL _ _ _ _ _ _ rfl ez79 ez89 htl hl (if_neg (fun w => absurd w.1 (by omega))).symm
                | exact gD _ _ _ _ _ _ rfl ez79 ez89 htl hl hd (if_pos ⟨by omega, hpl⟩).symm
                | exact gD _ _ _ _ _ _ rfl ez79 ez89 htl hl hd (if_neg (fun w => hpl w.2)).symm
                | exact gD _ _ _ _ _ _ rfl ez79 ez89 htl hl hd (if_neg (fun w => absurd w.1 (by omega))).symm
              · refine ⟨_, rfl, ?_⟩
                refine b_if_ne (tgt := 130) rfl rfl (fun z => absurd z (by decide)) (fun _ => ?_)
                refine b_aload_n rfl rfl ?_
                refine b_getR (r := 58) rfl fl12_7 rfl (by decide) rfl rfl ?_
                refine b_iload_n rfl rfl ?_
                refine b_iconst rfl (by decide) ?_
                refine b_isubN rfl (by omega) (by omega) ?_
                refine b_iald rfl rfl (by omega) (by omega) ?_
                try simp only [tn6, tn4, tn2, tn144, tn24, tn_cast, Int.reduceToNat]
                rw [MXc (by decide)]
                rw [ez, hbp (by omega)]
                refine b_callS1i (ν := MX12_isDigit) rfl ml12_244 csX12_isDigit (d' := 0) (by omega) (Nat.le_of_ble_eq_true rfl) ?_
                refine spr_isDigit (fun hpd => ?_) (fun hpd => ?_)
                · refine ⟨_, rfl, ?_⟩
                  refine b_if_eq (tgt := 135) rfl rfl (fun z => absurd z (by decide)) (fun _ => ?_)
                  refine b_aload_n rfl rfl ?_
                  refine b_iload_n rfl rfl ?_
                  refine b_putI rfl fl12_48 rfl (by decide) rfl ?_
                  rw [MX_u12]
                  first
                  | (exfalso; omega)
                  | exact (nLD hl hd).elim
                  | exact absurd hpl (hLL hl (by omega))
                  | exact absurd hpd (hDD hd (by omega))
                  | exact gS _ _ _ _ _ _ rfl ez79 ez89 htl hl hd rfl
                  | exact gL _ _ _ _ _ _ rfl ez79 ez89 htl hl (if_pos ⟨by omega, hpd⟩).symm
                  | exact gL _ _ _ _ _ _ rfl ez79 ez89 htl hl (if_neg (fun w => hpd w.2)).symm
                  | exact gL _ _ _ _ _ _ rfl ez79 ez89 htl hl (if_neg (fun w => absurd w.1 (by omega))).symm
                  | exact gD _ _ _ _ _ _ rfl ez79 ez89 htl hl hd (if_pos ⟨by omega, hpl⟩).symm
                  | exact gD _ _ _ _ _ _ rfl ez79 ez89 htl hl hd (if_neg (fun w => hpl w.2)).symm
                  | exact gD _ _ _ _ _ _ rfl ez79 ez89 htl hl hd (if_neg (fun w => absurd w.1 (by omega))).symm
                · refine ⟨_, rfl, ?_⟩
                  refine b_if_eq (tgt := 135) rfl rfl (fun _ => ?_) (fun z => absurd z (by decide))
                  first
                  | (exfalso; omega)
                  | exact (nLD hl hd).elim
                  | exact absurd hpl (hLL hl (by omega))
                  | exact absurd hpd (hDD hd (by omega))
                  | exact gS _ _ _ _ _ _ rfl ez79 ez89 htl hl hd rfl
                  | exact gL _ _ _ _ _ _ rfl ez79 ez89 htl hl (if_pos ⟨by omega, hpd⟩).symm
                  | exact gL _ _ _ _ _ _ rfl ez79 ez89 htl hl (if_neg (fun w => hpd w.2)).symm
                  | exact gL _ _ _ _ _ _ rfl ez79 ez89 htl hl (if_neg (fun w => absurd w.1 (by omega))).symm
                  | exact gD _ _ _ _ _ _ rfl ez79 ez89 htl hl hd (if_pos ⟨by omega, hpl⟩).symm
                  | exact gD _ _ _ _ _ _ rfl ez79 ez89 htl hl hd (if_neg (fun w => hpl w.2)).symm
                  | exact gD _ _ _ _ _ _ rfl ez79 ez89 htl hl hd (if_neg (fun w => absurd w.1 (by omega))).symm
      · refine ⟨_, rfl, ?_⟩
        refine b_istoreX_n (F := fun z89 => [some (aR 57), some (aI (t : Int)), some (aI z79), some (aI z89), none, none]) rfl (by decide) (fun _ => rfl) (fun z89 ez89 => ?_)
        refine b_iload_n rfl rfl ?_
        refine b_if_ne (tgt := 98) rfl rfl (fun c91 => ?_) (fun c91 => ?_)
        · refine b_iload_n rfl rfl ?_
          refine b_if_le (tgt := 135) rfl rfl (fun c99 => ?_) (fun c99 => ?_)
          · first
            | (exfalso; omega)
            | exact (nLD hl hd).elim
            | exact absurd hpl (hLL hl (by omega))
            | exact absurd hpd (hDD hd (by omega))
            | exact gS _ _ _ _ _ _ rfl ez79 ez89 htl hl hd rfl
            | exact gL _ _ _ _ _ _ rfl ez79 ez89 htl hl (if_pos ⟨by omega, hpd⟩).symm
            | exact gL _ _ _ _ _ _ rfl ez79 ez89 htl hl (if_neg (fun w => hpd w.2)).symm
            | exact gL _ _ _ _ _ _ rfl ez79 ez89 htl hl (if_neg (fun w => absurd w.1 (by omega))).symm
            | exact gD _ _ _ _ _ _ rfl ez79 ez89 htl hl hd (if_pos ⟨by omega, hpl⟩).symm
            | exact gD _ _ _ _ _ _ rfl ez79 ez89 htl hl hd (if_neg (fun w => hpl w.2)).symm
            | exact gD _ _ _ _ _ _ rfl ez79 ez89 htl hl hd (if_neg (fun w => absurd w.1 (by omega))).symm
          · refine b_aload_n rfl rfl ?_
            refine b_getR (r := 58) rfl fl12_7 rfl (by decide) rfl rfl ?_
            refine b_iload_n rfl rfl ?_
            refine b_iconst rfl (by decide) ?_
            refine b_isubN rfl (by omega) (by omega) ?_
            refine b_iald rfl rfl (by omega) (by omega) ?_
            try simp only [tn6, tn4, tn2, tn144, tn24, tn_cast, Int.reduceToNat]
            rw [MXc (by decide)]
            rw [ez, hbp (by omega)]
            refine b_callS1i (ν := MX12_isLetter) rfl ml12_240 csX12_isLetter (d' := 0) (by omega) (Nat.le_of_ble_eq_true rfl) ?_
            refine spr_isLetter (fun hpl => ?_) (fun hpl => ?_)
            · refine ⟨_, rfl, ?_⟩
              refine b_if_ne (tgt := 130) rfl rfl (fun _ => ?_) (fun z => absurd z (by decide))
              refine b_aload_n rfl rfl ?_
              refine b_iload_n rfl rfl ?_
              refine b_putI rfl fl12_48 rfl (by decide) rfl ?_
              rw [MX_u12]
              first
              | (exfalso; omega)
              | exact (nLD hl hd).elim
              | exact absurd hpl (hLL hl (by omega))
              | exact absurd hpd (hDD hd (by omega))
              | exact gS _ _ _ _ _ _ rfl ez79 ez89 htl hl hd rfl
              | exact gL _ _ _ _ _ _ rfl ez79 ez89 htl hl (if_pos ⟨by omega, hpd⟩).symm
              | exact gL _ _ _ _ _ _ rfl ez79 ez89 htl hl (if_neg (fun w => hpd w.2)).symm
              | exact gL _ _ _ _ _ _ rfl ez79 ez89 htl hl (if_neg (fun w => absurd w.1 (by omega))).symm
              | exact gD _ _ _ _ _ _ rfl ez79 ez89 htl hl hd (if_pos ⟨by omega, hpl⟩).symm
              | exact gD _ _ _ _ _ _ rfl ez79 ez89 htl hl hd (if_neg (fun w => hpl w.2)).symm
              | exact gD _ _ _ _ _ _ rfl ez79 ez89 htl hl hd (if_neg (fun w => absurd w.1 (by omega))).symm
            · refine ⟨_, rfl, ?_⟩
              refine b_if_ne (tgt := 130) rfl rfl (fun z => absurd z (by decide)) (fun _ => ?_)
              refine b_aload_n rfl rfl ?_
              refine b_getR (r := 58) rfl fl12_7 rfl (by decide) rfl rfl ?_
              refine b_iload_n rfl rfl ?_
              refine b_iconst rfl (by decide) ?_
              refine b_isubN rfl (by omega) (by omega) ?_
              refine b_iald rfl rfl (by omega) (by omega) ?_
              try simp only [tn6, tn4, tn2, tn144, tn24, tn_cast, Int.reduceToNat]
              rw [MXc (by decide)]
              rw [ez, hbp (by omega)]
              refine b_callS1i (ν := MX12_isDigit) rfl ml12_244 csX12_isDigit (d' := 0) (by omega) (Nat.le_of_ble_eq_true rfl) ?_
              refine spr_isDigit (fun hpd => ?_) (fun hpd => ?_)
              · refine ⟨_, rfl, ?_⟩
                refine b_if_eq (tgt := 135) rfl rfl (fun z => absurd z (by decide)) (fun _ => ?_)
                refine b_aload_n rfl rfl ?_
                refine b_iload_n rfl rfl ?_
                refine b_putI rfl fl12_48 rfl (by decide) rfl ?_
                rw [MX_u12]
                first
                | (exfalso; omega)
                | exact (nLD hl hd).elim
                | exact absurd hpl (hLL hl (by omega))
                | exact absurd hpd (hDD hd (by omega))
                | exact gS _ _ _ _ _ _ rfl ez79 ez89 htl hl hd rfl
                | exact gL _ _ _ _ _ _ rfl ez79 ez89 htl hl (if_pos ⟨by omega, hpd⟩).symm
                | exact gL _ _ _ _ _ _ rfl ez79 ez89 htl hl (if_neg (fun w => hpd w.2)).symm
                | exact gL _ _ _ _ _ _ rfl ez79 ez89 htl hl (if_neg (fun w => absurd w.1 (by omega))).symm
                | exact gD _ _ _ _ _ _ rfl ez79 ez89 htl hl hd (if_pos ⟨by omega, hpl⟩).symm
                | exact gD _ _ _ _ _ _ rfl ez79 ez89 htl hl hd (if_neg (fun w => hpl w.2)).symm
                | exact gD _ _ _ _ _ _ rfl ez79 ez89 htl hl hd (if_neg (fun w => absurd w.1 (by omega))).symm
              · refine ⟨_, rfl, ?_⟩
                refine b_if_eq (tgt := 135) rfl rfl (fun _ => ?_) (fun z => absurd z (by decide))
                first
                | (exfalso; omega)
                | exact (nLD hl hd).elim
                | exact absurd hpl (hLL hl (by omega))
                | exact absurd hpd (hDD hd (by omega))
                | exact gS _ _ _ _ _ _ rfl ez79 ez89 htl hl hd rfl
                | exact gL _ _ _ _ _ _ rfl ez79 ez89 htl hl (if_pos ⟨by omega, hpd⟩).symm
                | exact gL _ _ _ _ _ _ rfl ez79 ez89 htl hl (if_neg (fun w => hpd w.2)).symm
                | exact gL _ _ _ _ _ _ rfl ez79 ez89 htl hl (if_neg (fun w => absurd w.1 (by omega))).symm
                | exact gD _ _ _ _ _ _ rfl ez79 ez89 htl hl hd (if_pos ⟨by omega, hpl⟩).symm
                | exact gD _ _ _ _ _ _ rfl ez79 ez89 htl hl hd (if_neg (fun w => hpl w.2)).symm
                | exact gD _ _ _ _ _ _ rfl ez79 ez89 htl hl hd (if_neg (fun w => absurd w.1 (by omega))).symm
        · refine b_iload_n rfl rfl ?_
          refine b_if_eq (tgt := 135) rfl rfl (fun c95 => ?_) (fun c95 => ?_)
          · first
            | (exfalso; omega)
            | exact (nLD hl hd).elim
            | exact absurd hpl (hLL hl (by omega))
            | exact absurd hpd (hDD hd (by omega))
            | exact gS _ _ _ _ _ _ rfl ez79 ez89 htl hl hd rfl
            | exact gL _ _ _ _ _ _ rfl ez79 ez89 htl hl (if_pos ⟨by omega, hpd⟩).symm
            | exact gL _ _ _ _ _ _ rfl ez79 ez89 htl hl (if_neg (fun w => hpd w.2)).symm
            | exact gL _ _ _ _ _ _ rfl ez79 ez89 htl hl (if_neg (fun w => absurd w.1 (by omega))).symm
            | exact gD _ _ _ _ _ _ rfl ez79 ez89 htl hl hd (if_pos ⟨by omega, hpl⟩).symm
            | exact gD _ _ _ _ _ _ rfl ez79 ez89 htl hl hd (if_neg (fun w => hpl w.2)).symm
            | exact gD _ _ _ _ _ _ rfl ez79 ez89 htl hl hd (if_neg (fun w => absurd w.1 (by omega))).symm
          · refine b_iload_n rfl rfl ?_
            refine b_if_le (tgt := 135) rfl rfl (fun c99 => ?_) (fun c99 => ?_)
            · first
              | (exfalso; omega)
              | exact (nLD hl hd).elim
              | exact absurd hpl (hLL hl (by omega))
              | exact absurd hpd (hDD hd (by omega))
              | exact gS _ _ _ _ _ _ rfl ez79 ez89 htl hl hd rfl
              | exact gL _ _ _ _ _ _ rfl ez79 ez89 htl hl (if_pos ⟨by omega, hpd⟩).symm
              | exact gL _ _ _ _ _ _ rfl ez79 ez89 htl hl (if_neg (fun w => hpd w.2)).symm
              | exact gL _ _ _ _ _ _ rfl ez79 ez89 htl hl (if_neg (fun w => absurd w.1 (by omega))).symm
              | exact gD _ _ _ _ _ _ rfl ez79 ez89 htl hl hd (if_pos ⟨by omega, hpl⟩).symm
              | exact gD _ _ _ _ _ _ rfl ez79 ez89 htl hl hd (if_neg (fun w => hpl w.2)).symm
              | exact gD _ _ _ _ _ _ rfl ez79 ez89 htl hl hd (if_neg (fun w => absurd w.1 (by omega))).symm
            · refine b_aload_n rfl rfl ?_
              refine b_getR (r := 58) rfl fl12_7 rfl (by decide) rfl rfl ?_
              refine b_iload_n rfl rfl ?_
              refine b_iconst rfl (by decide) ?_
              refine b_isubN rfl (by omega) (by omega) ?_
              refine b_iald rfl rfl (by omega) (by omega) ?_
              try simp only [tn6, tn4, tn2, tn144, tn24, tn_cast, Int.reduceToNat]
              rw [MXc (by decide)]
              rw [ez, hbp (by omega)]
              refine b_callS1i (ν := MX12_isLetter) rfl ml12_240 csX12_isLetter (d' := 0) (by omega) (Nat.le_of_ble_eq_true rfl) ?_
              refine spr_isLetter (fun hpl => ?_) (fun hpl => ?_)
              · refine ⟨_, rfl, ?_⟩
                refine b_if_ne (tgt := 130) rfl rfl (fun _ => ?_) (fun z => absurd z (by decide))
                refine b_aload_n rfl rfl ?_
                refine b_iload_n rfl rfl ?_
                refine b_putI rfl fl12_48 rfl (by decide) rfl ?_
                rw [MX_u12]
                first
                | (exfalso; omega)
                | exact (nLD hl hd).elim
                | exact absurd hpl (hLL hl (by omega))
                | exact absurd hpd (hDD hd (by omega))
                | exact gS _ _ _ _ _ _ rfl ez79 ez89 htl hl hd rfl
                | exact gL _ _ _ _ _ _ rfl ez79 ez89 htl hl (if_pos ⟨by omega, hpd⟩).symm
                | exact gL _ _ _ _ _ _ rfl ez79 ez89 htl hl (if_neg (fun w => hpd w.2)).symm
                | exact gL _ _ _ _ _ _ rfl ez79 ez89 htl hl (if_neg (fun w => absurd w.1 (by omega))).symm
                | exact gD _ _ _ _ _ _ rfl ez79 ez89 htl hl hd (if_pos ⟨by omega, hpl⟩).symm
                | exact gD _ _ _ _ _ _ rfl ez79 ez89 htl hl hd (if_neg (fun w => hpl w.2)).symm
                | exact gD _ _ _ _ _ _ rfl ez79 ez89 htl hl hd (if_neg (fun w => absurd w.1 (by omega))).symm
              · refine ⟨_, rfl, ?_⟩
                refine b_if_ne (tgt := 130) rfl rfl (fun z => absurd z (by decide)) (fun _ => ?_)
                refine b_aload_n rfl rfl ?_
                refine b_getR (r := 58) rfl fl12_7 rfl (by decide) rfl rfl ?_
                refine b_iload_n rfl rfl ?_
                refine b_iconst rfl (by decide) ?_
                refine b_isubN rfl (by omega) (by omega) ?_
                refine b_iald rfl rfl (by omega) (by omega) ?_
                try simp only [tn6, tn4, tn2, tn144, tn24, tn_cast, Int.reduceToNat]
                rw [MXc (by decide)]
                rw [ez, hbp (by omega)]
                refine b_callS1i (ν := MX12_isDigit) rfl ml12_244 csX12_isDigit (d' := 0) (by omega) (Nat.le_of_ble_eq_true rfl) ?_
                refine spr_isDigit (fun hpd => ?_) (fun hpd => ?_)
                · refine ⟨_, rfl, ?_⟩
                  refine b_if_eq (tgt := 135) rfl rfl (fun z => absurd z (by decide)) (fun _ => ?_)
                  refine b_aload_n rfl rfl ?_
                  refine b_iload_n rfl rfl ?_
                  refine b_putI rfl fl12_48 rfl (by decide) rfl ?_
                  rw [MX_u12]
                  first
                  | (exfalso; omega)
                  | exact (nLD hl hd).elim
                  | exact absurd hpl (hLL hl (by omega))
                  | exact absurd hpd (hDD hd (by omega))
                  | exact gS _ _ _ _ _ _ rfl ez79 ez89 htl hl hd rfl
                  | exact gL _ _ _ _ _ _ rfl ez79 ez89 htl hl (if_pos ⟨by omega, hpd⟩).symm
                  | exact gL _ _ _ _ _ _ rfl ez79 ez89 htl hl (if_neg (fun w => hpd w.2)).symm
                  | exact gL _ _ _ _ _ _ rfl ez79 ez89 htl hl (if_neg (fun w => absurd w.1 (by omega))).symm
                  | exact gD _ _ _ _ _ _ rfl ez79 ez89 htl hl hd (if_pos ⟨by omega, hpl⟩).symm
                  | exact gD _ _ _ _ _ _ rfl ez79 ez89 htl hl hd (if_neg (fun w => hpl w.2)).symm
                  | exact gD _ _ _ _ _ _ rfl ez79 ez89 htl hl hd (if_neg (fun w => absurd w.1 (by omega))).symm
                · refine ⟨_, rfl, ?_⟩
                  refine b_if_eq (tgt := 135) rfl rfl (fun _ => ?_) (fun z => absurd z (by decide))
                  first
                  | (exfalso; omega)
                  | exact (nLD hl hd).elim
                  | exact absurd hpl (hLL hl (by omega))
                  | exact absurd hpd (hDD hd (by omega))
                  | exact gS _ _ _ _ _ _ rfl ez79 ez89 htl hl hd rfl
                  | exact gL _ _ _ _ _ _ rfl ez79 ez89 htl hl (if_pos ⟨by omega, hpd⟩).symm
                  | exact gL _ _ _ _ _ _ rfl ez79 ez89 htl hl (if_neg (fun w => hpd w.2)).symm
                  | exact gL _ _ _ _ _ _ rfl ez79 ez89 htl hl (if_neg (fun w => absurd w.1 (by omega))).symm
                  | exact gD _ _ _ _ _ _ rfl ez79 ez89 htl hl hd (if_pos ⟨by omega, hpl⟩).symm
                  | exact gD _ _ _ _ _ _ rfl ez79 ez89 htl hl hd (if_neg (fun w => hpl w.2)).symm
                  | exact gD _ _ _ _ _ _ rfl ez79 ez89 htl hl hd (if_neg (fun w => absurd w.1 (by omega))).symm
  have g41 : ∀ (z1 : Int), z1 = (t : Int) → Bj MX12_ahead 1 41 [some (aR 57), some (aI z1), none, none, none, none] [] (MX K si sa en va wo 0 (-1) lx) Q := by
    intro z1 e1
    subst e1
    refine b_aload_n rfl rfl ?_
    refine b_iload_n rfl rfl ?_
    refine b_putI rfl fl12_23 rfl (by decide) rfl ?_
    rw [MX_u4]
    refine b_aload_n rfl rfl ?_
    refine b_iload_n rfl rfl ?_
    refine b_putI rfl fl12_26 rfl (by decide) rfl ?_
    rw [MX_u5]
    refine b_aload_n rfl rfl ?_
    refine b_iconst rfl (by decide) ?_
    refine b_putI rfl fl12_20 rfl (by decide) rfl ?_
    rw [MX_u3]
    refine b_aload_n rfl rfl ?_
    refine b_iconst rfl (by decide) ?_
    refine b_putI rfl fl12_48 rfl (by decide) rfl ?_
    rw [MX_u12]
    refine b_iload_n rfl rfl ?_
    refine b_aload_n rfl rfl ?_
    refine b_getI rfl fl12_17 rfl (by decide) rfl ?_
    rw [MXo (by decide)]
    rw [hT1]
    refine b_icmp_lt (tgt := 70) rfl rfl (fun c66 => ?_) (fun c66 => ?_)
    · exact g70 _ _ _ rfl (by omega)
    · refine b_vret rfl rfl ?_
      exact kq _ (Mok_0 (tk_0 (by omega)) (by rw [ht]) rfl rfl (by rw [ht]))
  have lp : ∀ (g i : Nat) (z1 : Int), i + g = t → q ≤ i → z1 = (i : Int) → Bj MX12_ahead 1 5 [some (aR 57), some (aI z1), none, none, none, none] [] (MX K si sa en va wo 0 (-1) lx) Q := by
    intro g
    induction g with
    | zero =>
      intro i z1 h1 h2 h3
      have ei : i = t := by omega
      subst ei
      have ez : z1.toNat = i := by omega
      have hc : i < n → K 58 i ≠ 32 ∧ K 58 i ≠ 10 := by
        intro hi
        rw [hT3 i hi]
        have : ¬ isBl (B i) := fun w => hend ⟨hi, w⟩
        unfold isBl at this
        omega
      refine b_iload_n rfl rfl ?_
      refine b_aload_n rfl rfl ?_
      refine b_getI rfl fl12_17 rfl (by decide) rfl ?_
      rw [MXo (by decide)]
      rw [hT1]
      refine b_icmp_ge (tgt := 41) rfl rfl (fun c10 => ?_) (fun c10 => ?_)
      · exact g41 _ h3
      · refine b_aload_n rfl rfl ?_
        refine b_getR (r := 58) rfl fl12_7 rfl (by decide) rfl rfl ?_
        refine b_iload_n rfl rfl ?_
        refine b_iald rfl rfl (by omega) (by omega) ?_
        try simp only [tn6, tn4, tn2, tn144, tn24, tn_cast, Int.reduceToNat]
        rw [MXc (by decide)]
        rw [ez]
        refine b_bipush rfl (by decide) ?_
        refine b_icmp_eq (tgt := 35) rfl rfl (fun c21 => ?_) (fun c21 => ?_)
        · refine b_iincX (F := fun z35 => [some (aR 57), some (aI z35), none, none, none, none]) rfl rfl (by omega) (by omega) (fun _ => rfl) (fun z35 ez35 => ?_)
          refine b_goto (tgt := 5) rfl rfl ?_
          exfalso
          have := hc (by omega)
          omega
        · refine b_aload_n rfl rfl ?_
          refine b_getR (r := 58) rfl fl12_7 rfl (by decide) rfl rfl ?_
          refine b_iload_n rfl rfl ?_
          refine b_iald rfl rfl (by omega) (by omega) ?_
          try simp only [tn6, tn4, tn2, tn144, tn24, tn_cast, Int.reduceToNat]
          rw [MXc (by decide)]
          rw [ez]
          refine b_bipush rfl (by decide) ?_
          refine b_icmp_ne (tgt := 41) rfl rfl (fun c32 => ?_) (fun c32 => ?_)
          · exact g41 _ h3
          · refine b_iincX (F := fun z35 => [some (aR 57), some (aI z35), none, none, none, none]) rfl rfl (by omega) (by omega) (fun _ => rfl) (fun z35 ez35 => ?_)
            refine b_goto (tgt := 5) rfl rfl ?_
            exfalso
            have := hc (by omega)
            omega
    | succ g ih =>
      intro i z1 h1 h2 h3
      have ez : z1.toNat = i := by omega
      have hc := run_in (pr := isBl) (n := n) (B := B) n q (i - q) (by unfold tq at ht; omega)
      rw [show q + (i - q) = i by omega] at hc
      have hb := hT3 i hc.1
      have hc2 : B i = 32 ∨ B i = 10 := hc.2
      refine b_iload_n rfl rfl ?_
      refine b_aload_n rfl rfl ?_
      refine b_getI rfl fl12_17 rfl (by decide) rfl ?_
      rw [MXo (by decide)]
      rw [hT1]
      refine b_icmp_ge (tgt := 41) rfl rfl (fun c10 => ?_) (fun c10 => ?_)
      · exfalso
        omega
      · refine b_aload_n rfl rfl ?_
        refine b_getR (r := 58) rfl fl12_7 rfl (by decide) rfl rfl ?_
        refine b_iload_n rfl rfl ?_
        refine b_iald rfl rfl (by omega) (by omega) ?_
        try simp only [tn6, tn4, tn2, tn144, tn24, tn_cast, Int.reduceToNat]
        rw [MXc (by decide)]
        rw [ez, hb]
        refine b_bipush rfl (by decide) ?_
        refine b_icmp_eq (tgt := 35) rfl rfl (fun c21 => ?_) (fun c21 => ?_)
        · refine b_iincX (F := fun z35 => [some (aR 57), some (aI z35), none, none, none, none]) rfl rfl (by omega) (by omega) (fun _ => rfl) (fun z35 ez35 => ?_)
          refine b_goto (tgt := 5) rfl rfl ?_
          exact ih (i + 1) _ (by omega) (by omega) (by omega)
        · refine b_aload_n rfl rfl ?_
          refine b_getR (r := 58) rfl fl12_7 rfl (by decide) rfl rfl ?_
          refine b_iload_n rfl rfl ?_
          refine b_iald rfl rfl (by omega) (by omega) ?_
          try simp only [tn6, tn4, tn2, tn144, tn24, tn_cast, Int.reduceToNat]
          rw [MXc (by decide)]
          rw [ez, hb]
          refine b_bipush rfl (by decide) ?_
          refine b_icmp_ne (tgt := 41) rfl rfl (fun c32 => ?_) (fun c32 => ?_)
          · exfalso
            omega
          · refine b_iincX (F := fun z35 => [some (aR 57), some (aI z35), none, none, none, none]) rfl rfl (by omega) (by omega) (fun _ => rfl) (fun z35 ez35 => ?_)
            refine b_goto (tgt := 5) rfl rfl ?_
            exact ih (i + 1) _ (by omega) (by omega) (by omega)
  refine b_aload_n rfl rfl ?_
  refine b_getI rfl fl12_26 rfl (by decide) rfl ?_
  rw [MX_5]
  refine b_istoreX_n (F := fun z4 => [some (aR 57), some (aI z4), none, none, none, none]) rfl (by decide) (fun _ => rfl) (fun z4 ez4 => ?_)
  exact lp (t - q) q _ (by omega) (Nat.le_refl _) (by omega)
end AHD
