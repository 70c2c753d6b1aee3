/-! ===== the reference: isSafeSo, order ===== -/
theorem oV_pre {P : Nat → Prop} {m w : Nat} (h : oV P m m w) : ∀ n j, j + n = m → oV P m j (pre m w j) := by
  intro n
  induction n with
  | zero => intro j hj; rw [show j = m by omega, pre_m]; exact h
  | succ n ih =>
    intro j hj
    have h1 := (ih (j + 1) (by omega)).1
    rw [pre_s (by omega)] at h1
    exact h1
theorem oT_pre {m w j : Nat} (hj : j < m) : oT m (j + 1) (pre m w (j + 1)) = oT m j (pre m w j) ||| 2 ^ dg m w j := by
  show oT m j (pre m w (j + 1) / m) ||| 2 ^ (pre m w (j + 1) % m) = _
  rw [pre_s hj]
  rfl
theorem dg_lt {m w j : Nat} (hm : 0 < m) : dg m w j < m := Nat.mod_lt _ hm
theorem oT_full {m w : Nat} (hm : 0 < m) (hm6 : m ≤ 6) (h : oT m m w = 2 ^ m - 1) : ∀ n j, j + n = m → pcn (oT m j (pre m w j)) = j := by
  have h64 := (pw hm6).2.1
  intro n
  induction n with
  | zero => intro j hj; rw [show j = m by omega, pre_m, h]; exact pcn_full hm6
  | succ n ih =>
    intro j hj
    have h1 := ih (j + 1) (by omega)
    rw [oT_pre (by omega)] at h1
    have h2 := oT_lt hm j (pre m w j)
    have h3 := (pcn_or2 (k := dg m w j) (t := oT m j (pre m w j)) (by have := dg_lt (w := w) (j := j) hm; omega) (by omega)).1
    have h4 := oT_pc hm hm6 j (pre m w j)
    omega
theorem oT_bit {m w j : Nat} (hm : 0 < m) (hm6 : m ≤ 6) (h : oT m m w = 2 ^ m - 1) (hj : j < m) : (oT m j (pre m w j)).testBit (dg m w j) = false := by
  have h64 := (pw hm6).2.1
  have h1 := oT_full hm hm6 h (m - j) j (by omega)
  have h2 := oT_full hm hm6 h (m - (j + 1)) (j + 1) (by omega)
  rw [oT_pre hj] at h2
  have h3 := oT_lt hm j (pre m w j)
  exact (pcn_or2 (k := dg m w j) (t := oT m j (pre m w j)) (by have := dg_lt (w := w) (j := j) hm; omega) (by omega)).2 (by omega)
theorem aT_z {tr : Nat → Int} {A : Nat → Nat} {m : Nat} : aT tr A 0 m = tr := by
  funext c
  unfold aT
  have : ∀ m, cnt A 0 m c = 0 := by
    intro m
    induction m with
    | zero => rfl
    | succ m ih =>
      rw [cnt_s, ih]
      have : bt 0 m = 0 := by unfold bt; rw [Nat.zero_testBit]; rfl
      rw [this]
      split <;> rfl
  rw [this, Int.add_zero]
theorem aT_ZF {J : HI} {s t m : Nat} (hz : ZF J (J 32)) (hp : pOK J) (hs : (s : Int) < J 4 1) (hc : acP J (s : Int)) (hm : J 1 1 = 2 * (m : Int)) (n : Nat) (hn : n ≤ m) : ZF J (aT (trO J) (oA J s) t n) := by
  intro a h w ha hh hw hne
  have h1 : trO J (24 * a + 6 * h + w) = 0 := by
    unfold trO
    rw [if_pos (by omega)]
    exact hz a h w ha hh hw hne
  unfold aT
  rw [h1, Int.zero_add]
  induction n with
  | zero => rfl
  | succ n ih =>
    rw [cnt_s, ih (by omega)]
    obtain ⟨a1, a2, a3, a4, a5, a6⟩ := oA_in hp hc hm (k := n) (by omega)
    obtain ⟨q1, q2, q3, q4⟩ := hc.2.2.2 n (by omega)
    have hne2 : oA J s n ≠ 24 * a + 6 * h + w := by
      intro e
      unfold oA at e
      have e1 : a = s := by omega
      have e2 : (h : Int) = tAt J (2 * (n : Int)) := by omega
      have e3 : (w : Int) = tAt J (2 * (n : Int) + 1) := by omega
      refine hne ⟨by omega, ?_, ?_⟩
      · rw [e1]
        have e5 : ((1 * 6 + (s : Int)).toNat) = 6 + s := by omega
        rw [e5] at q3
        unfold nH
        omega
      · rw [e3]
        exact q4.2.2.2
    rw [if_neg hne2]
    rfl
theorem pK_iff {J : HI} {C : Nat → List Int} {s t m u k : Nat} {f : Nat → Int} (hb : u.testBit k = false) (hk : k < m) (hf : f = aT (trO J) (oA J s) u m) (hf20 : ∀ c, f c ≤ 20) : (f (oA J s k) ≠ 20 ∧ SFV J s t (tOf J (ad f (oA J s k) 1) s) (hei C (J 30 5) (wOf J (ad f (oA J s k) 1) s) (lOf J (ad f (oA J s k) 1) s) (tOf J (ad f (oA J s k) 1) s)) ∧ ALV C (J 30 5) (wOf J (ad f (oA J s k) 1) s) (lOf J (ad f (oA J s k) 1) s) (tOf J (ad f (oA J s k) 1) s) (nOf J (ad f (oA J s k) 1) s) (hei C (J 30 5) (wOf J (ad f (oA J s k) 1) s) (lOf J (ad f (oA J s k) 1) s) (tOf J (ad f (oA J s k) 1) s))) ↔ stP (row J 45 (trO J)) C (J 30 5) s t m (u ||| 2 ^ k) := by
  have e1 : aT (trO J) (oA J s) (u ||| 2 ^ k) m = ad f (oA J s k) 1 := by rw [hf]; exact aT_add hb m hk
  have e2 : stP (row J 45 (trO J)) C (J 30 5) s t m (u ||| 2 ^ k) ↔ (∀ j, j < m → aT (trO J) (oA J s) (u ||| 2 ^ k) (j + 1) (oA J s j) ≤ 20) ∧ SFV J s t (tOf J (aT (trO J) (oA J s) (u ||| 2 ^ k) m) s) (hei C (J 30 5) (wOf J (aT (trO J) (oA J s) (u ||| 2 ^ k) m) s) (lOf J (aT (trO J) (oA J s) (u ||| 2 ^ k) m) s) (tOf J (aT (trO J) (oA J s) (u ||| 2 ^ k) m) s)) ∧ ALV C (J 30 5) (wOf J (aT (trO J) (oA J s) (u ||| 2 ^ k) m) s) (lOf J (aT (trO J) (oA J s) (u ||| 2 ^ k) m) s) (tOf J (aT (trO J) (oA J s) (u ||| 2 ^ k) m) s) (nOf J (aT (trO J) (oA J s) (u ||| 2 ^ k) m) s) (hei C (J 30 5) (wOf J (aT (trO J) (oA J s) (u ||| 2 ^ k) m) s) (lOf J (aT (trO J) (oA J s) (u ||| 2 ^ k) m) s) (tOf J (aT (trO J) (oA J s) (u ||| 2 ^ k) m) s)) := Iff.rfl
  rw [e2, room_iff, e1]
  refine and_congr_left (fun _ => ?_)
  constructor
  · intro h j hj
    have := hf20 (oA J s j)
    unfold ad
    by_cases e : oA J s j = oA J s k
    · rw [if_pos e]; rw [e] at this ⊢; omega
    · rw [if_neg e]; omega
  · intro h
    have := h k hk
    unfold ad at this
    rw [if_pos rfl] at this
    omega
theorem spm_isSafeSo {J X : HI} {Q : Option AV → HI → Prop} {C : Nat → List Int} {b s t m w : Nat} (hM : MN J X C b) (hT : RTp J X) (hk4 : 0 ≤ J 30 4 ∧ J 30 4 ≤ 60) (hs : (s : Int) < J 4 1) (hl : J 31 s = (t : Int)) (ht : (t : Int) < J 4 2) (hc : acP J (s : Int)) (hm : J 1 1 = 2 * (m : Int)) (hw : oT m m w = 2 ^ m - 1) (hg : ∀ j, j < m → X 97 j = (dg m w j : Int)) (hc2 : ∀ k, 0 ≤ trO J k ∧ trO J k ≤ 20) (k1 : oV (stP (row J 45 (trO J)) C (J 30 5) s t m) m m w → ∀ X', LF (mcp X 1 0) X' → Q (some (aI 1)) X') (k0 : ¬ oV (stP (row J 45 (trO J)) C (J 30 5) s t m) m m w → ∀ X', LF (mcp X 1 0) X' → Q (some (aI 0)) X') : Rj MX12_isSafeSo 7 [aR 57, aI (s : Int), aI (m : Int)] X Q := by
  have hm6 : m ≤ 6 := by have := hc.2.1; omega
  have hm0 : 0 < m := by have := hc.1; omega
  have hR := hM.1
  have hp := hR.2.2.2.2.2.2.2.2.2
  have hk8 : X 88 0 = J 30 4 := hM.2.2.2.1.2.2.2.1
  have h87 : ∀ c, c < 144 → X 87 (144 * 0 + c) = J 32 c := hM.2.2.2.1.2.2.1
  have as1 : asB (mcp X 1 0) := ((MFr.rf hM.2.1).cp).2.2
  have sr1 : SRn J (mcp X 1 0) := SR_mcp_ne hM.2.2.2.1 (by decide) (by omega) hk4.2
  have hM1 : MN J (mcp X 1 0) C b := ⟨hR.to rfl (fun q hq => by
    funext j
    unfold mcell at hq
    unfold mcp
    rw [if_neg (by omega), if_neg (by omega), if_neg (by omega), if_neg (by omega), if_neg (by omega)]), as1, hM.2.2.1, sr1, hM.2.2.2.2⟩
  have hT1 : ∀ H, LF (mcp X 1 0) H → RTp J H := fun H hH => ⟨hT.1, hT.2.1, fun k hk => by
    rw [hH.1 58 (by decide) (by decide) (by decide) (by decide)]
    exact hT.2.2 k hk⟩
  have h97 : ∀ H, LF (mcp X 1 0) H → ∀ j, j < m → H 97 j = (dg m w j : Int) := fun H hH j hj => by
    rw [hH.1 97 (by decide) (by decide) (by decide) (by decide)]
    exact hg j hj
  have lp : ∀ (n j : Nat) (z : Int) (H : HI) (f : Nat → Int), z = (j : Int) → j + n = m → LF (mcp X 1 0) H → f = aT (trO J) (oA J s) (oT m j (pre m w j)) m → (∀ c, 0 ≤ f c ∧ f c ≤ 20) → (∀ c, c < 144 → H 87 (144 + c) = f c) → oV (stP (row J 45 (trO J)) C (J 30 5) s t m) m j (pre m w j) → Bj MX12_isSafeSo 7 8 [some (aR 57), some (aI (s : Int)), some (aI (m : Int)), some (aI z)] [] H Q := by
    intro n
    induction n with
    | zero =>
      intro j z H f hz hj hH hf hb hc' hV
      have ej : j = m := by omega
      rw [ej, pre_m] at hV
      refine b_iload_n rfl rfl ?_
      refine b_iload_n rfl rfl ?_
      refine b_icmp_ge (tgt := 35) rfl rfl (fun c10 => ?_) (fun c10 => ?_)
      · refine b_iconst rfl (by decide) ?_
        refine b_zret rfl rfl (by first | decide | omega) ?_
        exact k1 hV H hH
      · omega
    | succ n ih =>
      intro j z H f hz hj hH hf hb hc' hV
      subst hz
      have hjm : j < m := by omega
      have hd := dg_lt (w := w) (j := j) hm0
      have hbit := oT_bit hm0 hm6 hw hjm
      have hif := pK_iff (C := C) (t := t) hbit hd hf (fun c => (hb c).2)
      rw [← oT_pre hjm] at hif
      have e97 := h97 H hH j hjm
      have efn : ad f (oA J s (dg m w j)) 1 = aT (trO J) (oA J s) (oT m (j + 1) (pre m w (j + 1))) m := by
        rw [oT_pre hjm, hf]
        exact (aT_add hbit m hd).symm
      have hzf : ZF J f := by rw [hf]; exact aT_ZF hM.2.2.2.2.1 hp hs hc hm m (Nat.le_refl _)
      refine b_iload_n rfl rfl ?_
      refine b_iload_n rfl rfl ?_
      refine b_icmp_ge (tgt := 35) rfl rfl (fun c10 => ?_) (fun c10 => ?_)
      · omega
      · refine b_aload_n rfl rfl ?_
        refine b_iload_n rfl rfl ?_
        refine b_aload_n rfl rfl ?_
        refine b_getR (r := 97) rfl fl12_219 rfl (by decide) rfl rfl ?_
        refine b_iload_n rfl rfl ?_
        refine b_iald rfl rfl (by omega) (by omega) ?_
        try simp only [tn6, tn4, tn2, tn144, tn24, tn_cast, Int.reduceToNat]
        rw [e97]
        refine b_callV2i (ν := MX12_isLadedSo) rfl ml12_519 cvX12_isLadedSo (d' := 6) (by omega) rfl (by decide) rfl (Nat.le_of_ble_eq_true rfl) ?_
        refine spm_isLadedSo (hM1.lf hH) (hT1 H hH) hs hl ht hc hm hd hc' (fun c => ⟨(hb c).1, by have := (hb c).2; omega⟩) hzf (fun hy X' hX' hn => ?_) (fun hy0 X' hX' => ?_)
        · refine ⟨_, rfl, ?_⟩
          refine b_if_ne (tgt := 29) rfl rfl (fun _ => ?_) (fun z => absurd z (by decide))
          refine b_iincX (F := fun z29 => [some (aR 57), some (aI (s : Int)), some (aI (m : Int)), some (aI z29)]) rfl rfl (by omega) (by omega) (fun _ => rfl) (fun z29 ez29 => ?_)
          refine b_goto (tgt := 8) rfl rfl ?_
          refine ih (j + 1) _ X' _ (by omega) (by omega) (hH.tr hX') efn (fun c => ?_) hn ⟨?_, ?_, hif.1 hy⟩
          · have h1 := hb c
            have h2 := hy.1
            unfold ad
            by_cases e : c = oA J s (dg m w j)
            · rw [if_pos e]; rw [e] at h1 ⊢; omega
            · rw [if_neg e]; omega
          · rw [pre_s hjm]; exact hV
          · rw [pre_s hjm]; exact hbit
        · refine ⟨_, rfl, ?_⟩
          refine b_if_ne (tgt := 29) rfl rfl (fun z => absurd z (by decide)) (fun _ => ?_)
          refine b_iconst rfl (by decide) ?_
          refine b_zret rfl rfl (by first | decide | omega) ?_
          refine k0 (fun hv => hy0 (hif.2 ?_)) X' (hH.tr hX')
          exact (oV_pre hv (m - (j + 1)) (j + 1) (by omega)).2.2
  refine rj_of okX12_isSafeSo (Nat.le_of_ble_eq_true rfl) rfl ?_
  refine b_aload_n rfl rfl ?_
  refine b_iconst rfl (by decide) ?_
  refine b_iconst rfl (by decide) ?_
  refine b_callV2v (ν := MX12_copies) rfl ml12_425 cvX12_copies (d' := 0) (by omega) rfl (by decide) rfl (Nat.le_of_ble_eq_true rfl) ?_
  refine spm_copies (t := 1) (f := 0) (by decide) (by decide) (by decide) (by omega) ?_
  refine ⟨rfl, ?_⟩
  refine b_iconst rfl (by decide) ?_
  refine b_istoreX_n (F := fun z7 => [some (aR 57), some (aI (s : Int)), some (aI (m : Int)), some (aI z7)]) rfl (by decide) (fun _ => rfl) (fun z7 ez7 => ?_)
  refine lp m 0 _ _ (trO J) (by omega) (by omega) (LF.rf as1) aT_z.symm hc2 (fun c hc => ?_) trivial
  have := h87 c hc
  unfold mcp trO
  rw [if_neg (by omega), if_neg (by omega), if_pos (by omega), if_pos hc, ← this, show 144 * 0 + (144 + c - 144 * 1) = 144 * 0 + c by omega]
