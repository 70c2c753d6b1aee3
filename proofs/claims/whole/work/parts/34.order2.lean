/-! ===== Rows: ordering, the sets ===== -/
def SFV (I : HI) (s b : Nat) (t g : Int) : Prop := lvl I s t ∧ I 6 (12 + b) ≤ g ∧ g ≤ I 7 (12 + b)
theorem spv_level {I J : HI} {Q : Option AV → HI → Prop} {C : Nat → List Int} {h v3 v4 v5 v6 v7 : Int} {s : Nat} (hP : CP I C) (hL : LkV I J C h v3 v4 v5 v6 v7) (hs : (s : Int) < I 4 1) (ht : -900000 ≤ v5 ∧ v5 ≤ 900000) (k1 : lvl I s v5 → Q (some (aI 1)) J) (k0 : ¬ lvl I s v5 → Q (some (aI 0)) J) : Rj MX5_level 2 [aR 27, aI (s : Int)] J Q := by
  have hS := hL.1.1
  have hP2 := hP.to hS
  have e4 := hS.1 4 (by decide) (by decide)
  have e7 := hS.1 7 (by decide) (by decide)
  have ht5 : J 28 5 = v5 := hL.2.2.2.1
  have f7 := fo_ship (I := J) (f := 7) (s := s) (by rw [e4]; exact hs)
  rw [e7] at f7
  have r7 := hP.1.2.2.1 s hs
  unfold lvl at k1 k0
  refine rj_of okX5_level (Nat.le_of_ble_eq_true rfl) rfl ?_
  refine b_aload_n rfl rfl ?_
  refine b_getR (r := 28) rfl fl5_9 rfl (by decide) rfl rfl ?_
  refine b_iconst rfl (by decide) ?_
  refine b_ialdL (k := 5) rfl rfl rfl (by decide) ?_
  rw [ht5]
  refine b_mabs (z := if 0 ≤ v5 then v5 else -v5) rfl ml5_63 (by omega) (Nat.le_of_ble_eq_true rfl) (by omega) ?_
  refine b_aload_n rfl rfl ?_
  refine b_getR (r := 3) rfl fl5_18 rfl (by decide) rfl rfl ?_
  refine b_iconst rfl (by decide) ?_
  refine b_iload_n rfl rfl ?_
  refine b_callV2i (ν := MX3_secondOf) rfl ml5_50 cvX3_secondOf (d' := 1) (by omega) rfl (by decide) rfl (Nat.le_of_ble_eq_true rfl) ?_
  refine sp_X3_secondOf_3 hP2.1.1 ?_
  rw [f7]
  refine ⟨_, rfl, ?_⟩
  refine b_icmp_gt (tgt := 25) rfl rfl (fun c18 => ?_) (fun c18 => ?_)
  · refine b_iconst rfl (by decide) ?_
    refine b_zret rfl rfl (by first | decide | omega) ?_
    first | exact k1 (by split at c18 <;> omega) | exact k0 (by split at c18 <;> omega)
  · refine b_iconst rfl (by decide) ?_
    refine b_goto (tgt := 26) rfl rfl ?_
    refine b_zret rfl rfl (by first | decide | omega) ?_
    first | exact k1 (by split at c18 <;> omega) | exact k0 (by split at c18 <;> omega)
theorem spv_safe {I J : HI} {Q : Option AV → HI → Prop} {C : Nat → List Int} {h v3 v4 v5 v6 v7 : Int} {s b : Nat} (hP : CP I C) (hL : LkV I J C h v3 v4 v5 v6 v7) (hs : (s : Int) < I 4 1) (hb : (b : Int) < I 4 2) (ht : -900000 ≤ v5 ∧ v5 ≤ 900000) (k1 : SFV I s b v5 v7 → Q (some (aI 1)) J) (k0 : ¬ SFV I s b v5 v7 → Q (some (aI 0)) J) : Rj MX5_safe 3 [aR 27, aI (s : Int), aI (b : Int)] J Q := by
  have hS := hL.1.1
  have hP2 := hP.to hS
  have e4 := hS.1 4 (by decide) (by decide)
  have e6 := hS.1 6 (by decide) (by decide)
  have e7 := hS.1 7 (by decide) (by decide)
  have h7 : J 28 7 = v7 := hL.2.2.2.2.2
  have f6 := fo_berth (I := J) (f := 6) (b := b) (by rw [e4]; exact hb)
  have f7 := fo_berth (I := J) (f := 7) (b := b) (by rw [e4]; exact hb)
  rw [e6] at f6
  rw [e7] at f7
  refine rj_of okX5_safe (Nat.le_of_ble_eq_true rfl) rfl ?_
  refine b_aload_n rfl rfl ?_
  refine b_getR (r := 28) rfl fl5_9 rfl (by decide) rfl rfl ?_
  refine b_bipush rfl (by decide) ?_
  refine b_ialdL (k := 7) rfl rfl rfl (by decide) ?_
  rw [h7]
  refine b_istoreX_n (F := fun z7 => [some (aR 27), some (aI (s : Int)), some (aI (b : Int)), some (aI z7)]) rfl (by decide) (fun _ => rfl) (fun z7 ez7 => ?_)
  refine b_aload_n rfl rfl ?_
  refine b_iload_n rfl rfl ?_
  refine b_callV1i (ν := MX5_level) rfl ml5_68 cvX5_level (d' := 2) (by omega) rfl (by decide) rfl (Nat.le_of_ble_eq_true rfl) ?_
  refine spv_level hP hL hs ht (fun hl => ?_) (fun hl => ?_)
  · refine ⟨_, rfl, ?_⟩
    refine b_if_eq (tgt := 46) rfl rfl (fun z => absurd z (by decide)) (fun _ => ?_)
    refine b_iload_n rfl rfl ?_
    refine b_aload_n rfl rfl ?_
    refine b_getR (r := 3) rfl fl5_18 rfl (by decide) rfl rfl ?_
    refine b_iconst rfl (by decide) ?_
    refine b_iload_n rfl rfl ?_
    refine b_callV2i (ν := MX3_firstOf) rfl ml5_39 cvX3_firstOf (d' := 1) (by omega) rfl (by decide) rfl (Nat.le_of_ble_eq_true rfl) ?_
    refine sp_X3_firstOf_3 hP2.1.1 ?_
    rw [f6]
    refine ⟨_, rfl, ?_⟩
    refine b_icmp_lt (tgt := 46) rfl rfl (fun c26 => ?_) (fun c26 => ?_)
    · refine b_iconst rfl (by decide) ?_
      refine b_zret rfl rfl (by first | decide | omega) ?_
      first | exact k0 (fun z => hl z.1) | exact k0 (fun z => by have := z.2.1; omega) | exact k0 (fun z => by have := z.2.2; omega) | exact k1 ⟨hl, by omega, by omega⟩
    · refine b_iload_n rfl rfl ?_
      refine b_aload_n rfl rfl ?_
      refine b_getR (r := 3) rfl fl5_18 rfl (by decide) rfl rfl ?_
      refine b_iconst rfl (by decide) ?_
      refine b_iload_n rfl rfl ?_
      refine b_callV2i (ν := MX3_secondOf) rfl ml5_50 cvX3_secondOf (d' := 1) (by omega) rfl (by decide) rfl (Nat.le_of_ble_eq_true rfl) ?_
      refine sp_X3_secondOf_3 hP2.1.1 ?_
      rw [f7]
      refine ⟨_, rfl, ?_⟩
      refine b_icmp_gt (tgt := 46) rfl rfl (fun c39 => ?_) (fun c39 => ?_)
      · refine b_iconst rfl (by decide) ?_
        refine b_zret rfl rfl (by first | decide | omega) ?_
        first | exact k0 (fun z => hl z.1) | exact k0 (fun z => by have := z.2.1; omega) | exact k0 (fun z => by have := z.2.2; omega) | exact k1 ⟨hl, by omega, by omega⟩
      · refine b_iconst rfl (by decide) ?_
        refine b_goto (tgt := 47) rfl rfl ?_
        refine b_zret rfl rfl (by first | decide | omega) ?_
        first | exact k0 (fun z => hl z.1) | exact k0 (fun z => by have := z.2.1; omega) | exact k0 (fun z => by have := z.2.2; omega) | exact k1 ⟨hl, by omega, by omega⟩
  · refine ⟨_, rfl, ?_⟩
    refine b_if_eq (tgt := 46) rfl rfl (fun _ => ?_) (fun z => absurd z (by decide))
    refine b_iconst rfl (by decide) ?_
    refine b_zret rfl rfl (by first | decide | omega) ?_
    first | exact k0 (fun z => hl z.1) | exact k0 (fun z => by have := z.2.1; omega) | exact k0 (fun z => by have := z.2.2; omega) | exact k1 ⟨hl, by omega, by omega⟩
def bt (t k : Nat) : Int := if t.testBit k = true then 1 else 0
theorem bt_in (t k : Nat) : bt t k = 0 ∨ bt t k = 1 := by unfold bt; split <;> omega
theorem bt_eq {t b : Nat} (ht : t < 64) (hb : b < 6) : iAnd (iShr (t : Int) (b : Int)) 1 = bt t b := by
  have h := bit_1 ht hb
  unfold bt
  by_cases e : t.testBit b = true
  · rw [if_pos e]; exact h.1.2 e
  · rw [if_neg e]; exact h.2.2 (by simpa using e)
def cnt (A : Nat → Nat) (t n c : Nat) : Int := sumN n (fun k => if A k = c then bt t k else 0)
theorem cnt_in (A : Nat → Nat) (t n c : Nat) : 0 ≤ cnt A t n c ∧ cnt A t n c ≤ n := by
  have h := sumN_le (n := n) (f := fun k => if A k = c then bt t k else 0) (a := 0) (b := 1) (fun k _ => by
    have := bt_in t k
    show 0 ≤ (if A k = c then bt t k else 0) ∧ (if A k = c then bt t k else 0) ≤ 1
    split <;> omega)
  unfold cnt
  omega
theorem cnt_s {A : Nat → Nat} {t n c : Nat} : cnt A t (n + 1) c = cnt A t n c + (if A n = c then bt t n else 0) := rfl
def aT (tr : Nat → Int) (A : Nat → Nat) (t n : Nat) : Nat → Int := fun c => tr c + cnt A t n c
def dT (tr : Nat → Int) (A : Nat → Nat) (t m n : Nat) : Nat → Int := fun c => tr c + cnt A t m c - cnt A t n c
theorem aT_0 {tr : Nat → Int} {A : Nat → Nat} {t : Nat} : aT tr A t 0 = tr := by funext c; show tr c + 0 = tr c; omega
theorem aT_s {tr : Nat → Int} {A : Nat → Nat} {t n : Nat} : ud (aT tr A t n) (A n) (aT tr A t n (A n) + bt t n) = aT tr A t (n + 1) := by
  funext c
  unfold ud aT
  rw [cnt_s]
  by_cases e : c = A n
  · rw [if_pos e, if_pos e.symm, e]; omega
  · rw [if_neg e, if_neg (fun z => e z.symm)]; omega
theorem dT_0 {tr : Nat → Int} {A : Nat → Nat} {t m : Nat} : dT tr A t m 0 = aT tr A t m := by funext c; show tr c + cnt A t m c - 0 = tr c + cnt A t m c; omega
theorem dT_m {tr : Nat → Int} {A : Nat → Nat} {t m : Nat} : dT tr A t m m = tr := by funext c; unfold dT; omega
theorem dT_s {tr : Nat → Int} {A : Nat → Nat} {t m n : Nat} : ud (dT tr A t m n) (A n) (dT tr A t m n (A n) - bt t n) = dT tr A t m (n + 1) := by
  funext c
  unfold ud dT
  rw [cnt_s]
  by_cases e : c = A n
  · rw [if_pos e, if_pos e.symm, e]; omega
  · rw [if_neg e, if_neg (fun z => e z.symm)]; omega
theorem Sc_cell {I K : HI} {p k : Nat} {f : Nat → Int} {v : Int} (h1 : p ≠ 28) (h : Sc (row I p f) K) : Sc (row I p (ud f k v)) (up K p k v) := by
  refine ⟨fun q h2 h3 => ?_, fun j hj => ?_⟩
  · have e := h.1 q h2 h3
    by_cases hq : q = p
    · subst hq
      rw [row_same] at e
      rw [row_same]
      funext j
      rw [up_ap]
      unfold ud
      rw [e]
      by_cases hj : j = k
      · rw [if_pos ⟨rfl, hj⟩, if_pos hj]
      · rw [if_neg (fun z => hj z.2), if_neg hj]
    · rw [row_cell hq] at e
      rw [row_cell hq, up_cell hq, e]
  · rw [up_cell (fun z => h1 z.symm)]; exact h.2 j hj
theorem At_cell {I K : HI} {C : Nat → List Int} {h : Int} {p k : Nat} {f : Nat → Int} {v : Int} (h1 : p ≠ 28) (hA : At (row I p f) K C h) : At (row I p (ud f k v)) (up K p k v) C h := by
  have e : up K p k v 28 = K 28 := up_cell (fun z => h1 z.symm)
  refine ⟨Sc_cell h1 hA.1, ?_, ?_, ?_⟩
  · rw [e]; exact hA.2.1
  · rw [e]; exact hA.2.2.1
  · rw [e]; exact hA.2.2.2
theorem LkV_cell {I K : HI} {C : Nat → List Int} {h v3 v4 v5 v6 v7 : Int} {p k : Nat} {f : Nat → Int} {v : Int} (h1 : p ≠ 28) (hA : LkV (row I p f) K C h v3 v4 v5 v6 v7) : LkV (row I p (ud f k v)) (up K p k v) C h v3 v4 v5 v6 v7 := by
  have e : up K p k v 28 = K 28 := up_cell (fun z => h1 z.symm)
  unfold LkV
  rw [e]
  exact ⟨At_cell h1 hA.1, hA.2⟩
theorem CP_row {I : HI} {C : Nat → List Int} {p : Nat} {f : Nat → Int} (h : CP I C) (h1 : p ≠ 4 ∧ p ≠ 6 ∧ p ≠ 7 ∧ p ≠ 8 ∧ p ≠ 9 ∧ p ≠ 10) : CP (row I p f) C := by
  obtain ⟨a, b, c, d, e, g⟩ := h1
  refine ⟨pOK_to h.1 (row_cell (fun z => a z.symm)) (row_cell (fun z => b z.symm)) (row_cell (fun z => c z.symm)), FM_to h.2.1 (row_cell (fun z => d z.symm)) (row_cell (fun z => e z.symm)) (row_cell (fun z => g z.symm)), h.2.2⟩
def oA (I : HI) (s k : Nat) : Nat := 24 * s + 6 * (tAt I (2 * (k : Int))).toNat + (tAt I (2 * (k : Int) + 1)).toNat
def stP (I : HI) (C : Nat → List Int) (h : Int) (s b m t : Nat) : Prop := (∀ k, k < m → aT (I 45) (oA I s) t (k + 1) (oA I s k) ≤ 20) ∧ SF (row I 45 (aT (I 45) (oA I s) t m)) C h 45 s b ∧ AL (row I 45 (aT (I 45) (oA I s) t m)) C h 45 s
theorem oA_in {I : HI} {s k m : Nat} (hp : pOK I) (hc : acP I (s : Int)) (hT : I 1 1 = 2 * (m : Int)) (hk : k < m) : 0 ≤ tAt I (2 * (k : Int)) ∧ tAt I (2 * (k : Int)) < 4 ∧ 0 ≤ tAt I (2 * (k : Int) + 1) ∧ tAt I (2 * (k : Int) + 1) < 6 ∧ s < 6 ∧ oA I s k < 144 := by
  obtain ⟨h1, h2, h3, h4⟩ := hc.2.2.2 k (by omega)
  have h5 := hp.1 1 (by decide)
  have h6 := hp.1 0 (by decide)
  have h7 : (s : Int) < I 4 1 := h1.2.2.2
  have h8 := hp.2.2.1 s h7
  have h9 : I 6 (1 * 6 + (s : Int)).toNat = I 6 (6 + s) := by rw [show (1 * 6 + (s : Int)).toNat = 6 + s by omega]
  rw [h9] at h3
  have h10 : 0 ≤ tAt I (2 * (k : Int) + 1) := h4.2.2.1
  have h11 : tAt I (2 * (k : Int) + 1) < I 4 0 := h4.2.2.2
  have h12 : s < 6 := by omega
  unfold oA
  refine ⟨h2, by omega, h10, by omega, h12, by omega⟩
def rmP (I : HI) (s t n : Nat) : Prop := ∀ k, k < n → aT (I 45) (oA I s) t (k + 1) (oA I s k) ≤ 20
theorem spa_stands {I J : HI} {Q : Option AV → HI → Prop} {C : Nat → List Int} {h : Int} {s b m t : Nat} (hP : CP I C) (hA : At I J C h) (hT : I 1 1 = 2 * (m : Int)) (hm : m ≤ 6) (hc : acP I (s : Int)) (htr : ∀ k, 0 ≤ I 45 k ∧ I 45 k ≤ 20) (hs : (s : Int) < I 4 1) (hb : (b : Int) < I 4 2) (ht : t < 64) (k1 : stP I C h s b m t → ∀ K, At I K C h → Q (some (aI 1)) K) (k0 : ¬ stP I C h s b m t → ∀ K, At I K C h → Q (some (aI 0)) K) : Rj MX6_stands 5 [aR 44, aI (t : Int), aI (s : Int), aI (b : Int)] J Q := by
  have hab : ∀ n c, n ≤ 6 → 0 ≤ aT (I 45) (oA I s) t n c ∧ aT (I 45) (oA I s) t n c ≤ 26 := by
    intro n c hn
    have h1 := htr c
    have h2 := cnt_in (oA I s) t n c
    unfold aT
    omega
  have hdb : ∀ n c, n ≤ m → 0 ≤ dT (I 45) (oA I s) t m n c + 10 ∧ dT (I 45) (oA I s) t m n c ≤ 26 := by
    intro n c hn
    have h1 := htr c
    have h2 := cnt_in (oA I s) t n c
    have h3 := cnt_in (oA I s) t m c
    unfold dT
    omega
  have two : ∀ v3 v4 v5 v6 v7 : Int, (-900000 ≤ v5 ∧ v5 ≤ 900000) → (SFV I s b v5 v7 ↔ SF (row I 45 (aT (I 45) (oA I s) t m)) C h 45 s b) → (ALV C h v3 v4 v5 v6 v7 ↔ AL (row I 45 (aT (I 45) (oA I s) t m)) C h 45 s) → ∀ (n i : Nat) (y z : Int) (x6 : Option AV) (K : HI), LkV (row I 45 (dT (I 45) (oA I s) t m i)) K C h v3 v4 v5 v6 v7 → ((y = 1 ∧ rmP I s t m) ∨ (y = 0 ∧ ¬ rmP I s t m)) → z = (i : Int) → i + n = m → Bj MX6_stands 5 111 [some (aR 44), some (aI (t : Int)), some (aI (s : Int)), some (aI (b : Int)), some (aI y), some (aI z), x6] [] K Q := by
    intro v3 v4 v5 v6 v7 hv5 hSF hAL n
    induction n with
    | zero =>
      intro i y z x6 K hL hy hz hi
      have ei : i = m := by omega
      subst ei
      rw [dT_m, row_self] at hL
      have q1 : K 1 = I 1 := hL.1.1.1 1 (by decide) (by decide)
      have q11 : K 1 1 = I 1 1 := by rw [q1]
      refine b_iconst rfl (by decide) ?_
      refine b_iload rfl rfl ?_
      refine b_imulN rfl (by omega) (by omega) ?_
      refine b_aload_n rfl rfl ?_
      refine b_getR (r := 1) rfl fl6_42 rfl (by decide) rfl rfl ?_
      refine b_getI rfl fl6_53 rfl (by decide) rfl ?_
      refine b_icmp_ge (tgt := 173) rfl rfl (fun c122 => ?_) (fun c122 => ?_)
      · refine b_iload rfl rfl ?_
        refine b_if_eq (tgt := 204) rfl rfl (fun c175 => ?_) (fun c175 => ?_)
        · refine b_iconst rfl (by decide) ?_
          refine b_zret rfl rfl (by first | decide | omega) ?_
          first
          | exact k1 ⟨(hy.resolve_right (fun w => by omega)).2, hSF.1 hf, hAL.1 ha⟩ _ hL2.1
          | exact k0 (fun w => ha (hAL.2 w.2.2)) _ hL2.1
          | exact k0 (fun w => hf (hSF.2 w.2.1)) _ hL.1
          | exact k0 (fun w => (hy.resolve_left (fun w => by omega)).2 w.1) _ hL.1
        · refine b_aload_n rfl rfl ?_
          refine b_getR (r := 27) rfl fl6_38 rfl (by decide) rfl rfl ?_
          refine b_iload_n rfl rfl ?_
          refine b_iload_n rfl rfl ?_
          refine b_callV2i (ν := MX5_safe) rfl ml6_138 cvX5_safe (d' := 3) (by omega) rfl (by decide) rfl (Nat.le_of_ble_eq_true rfl) ?_
          refine spv_safe hP hL hs hb hv5 (fun hf => ?_) (fun hf => ?_)
          · refine ⟨_, rfl, ?_⟩
            refine b_if_eq (tgt := 204) rfl rfl (fun z => absurd z (by decide)) (fun _ => ?_)
            refine b_aload_n rfl rfl ?_
            refine b_getR (r := 27) rfl fl6_38 rfl (by decide) rfl rfl ?_
            refine b_callV0i (ν := MX5_allows) rfl ml6_141 cvX5_allows (d' := 3) (by omega) rfl (by decide) rfl (Nat.le_of_ble_eq_true rfl) ?_
            refine spv_allows hP hL (fun ha K2 hL2 => ?_) (fun ha K2 hL2 => ?_)
            · refine ⟨_, rfl, ?_⟩
              refine b_if_eq (tgt := 204) rfl rfl (fun z => absurd z (by decide)) (fun _ => ?_)
              refine b_iconst rfl (by decide) ?_
              refine b_goto (tgt := 205) rfl rfl ?_
              refine b_zret rfl rfl (by first | decide | omega) ?_
              first
              | exact k1 ⟨(hy.resolve_right (fun w => by omega)).2, hSF.1 hf, hAL.1 ha⟩ _ hL2.1
              | exact k0 (fun w => ha (hAL.2 w.2.2)) _ hL2.1
              | exact k0 (fun w => hf (hSF.2 w.2.1)) _ hL.1
              | exact k0 (fun w => (hy.resolve_left (fun w => by omega)).2 w.1) _ hL.1
            · refine ⟨_, rfl, ?_⟩
              refine b_if_eq (tgt := 204) rfl rfl (fun _ => ?_) (fun z => absurd z (by decide))
              refine b_iconst rfl (by decide) ?_
              refine b_zret rfl rfl (by first | decide | omega) ?_
              first
              | exact k1 ⟨(hy.resolve_right (fun w => by omega)).2, hSF.1 hf, hAL.1 ha⟩ _ hL2.1
              | exact k0 (fun w => ha (hAL.2 w.2.2)) _ hL2.1
              | exact k0 (fun w => hf (hSF.2 w.2.1)) _ hL.1
              | exact k0 (fun w => (hy.resolve_left (fun w => by omega)).2 w.1) _ hL.1
          · refine ⟨_, rfl, ?_⟩
            refine b_if_eq (tgt := 204) rfl rfl (fun _ => ?_) (fun z => absurd z (by decide))
            refine b_iconst rfl (by decide) ?_
            refine b_zret rfl rfl (by first | decide | omega) ?_
            first
            | exact k1 ⟨(hy.resolve_right (fun w => by omega)).2, hSF.1 hf, hAL.1 ha⟩ _ hL2.1
            | exact k0 (fun w => ha (hAL.2 w.2.2)) _ hL2.1
            | exact k0 (fun w => hf (hSF.2 w.2.1)) _ hL.1
            | exact k0 (fun w => (hy.resolve_left (fun w => by omega)).2 w.1) _ hL.1
      · omega
    | succ n ih =>
      intro i y z x6 K hL hy hz hi
      subst hz
      obtain ⟨a1, a2, a3, a4, a5, a6⟩ := oA_in hP.1 hc hT (k := i) (by omega)
      have q1 : K 1 = I 1 := by rw [hL.1.1.1 1 (by decide) (by decide), row_cell (by decide)]
      have q2 : K 2 = I 2 := by rw [hL.1.1.1 2 (by decide) (by decide), row_cell (by decide)]
      have q11 : K 1 1 = I 1 1 := by rw [q1]
      have q45 : K 45 = dT (I 45) (oA I s) t m i := by rw [hL.1.1.1 45 (by decide) (by decide), row_same]
      have hoe : 24 * s + 6 * (tAt I (2 * (i : Int))).toNat + (tAt I (2 * (i : Int) + 1)).toNat = oA I s i := rfl
      have hd1 := hdb i (oA I s i) (by omega)
      have hbt := bt_in t i
      have hL2 := LkV_cell (by decide) hL (k := oA I s i) (v := dT (I 45) (oA I s) t m i (oA I s i) - bt t i)
      rw [dT_s] at hL2
      generalize hoA : oA I s i = A at *
      refine b_iconst rfl (by decide) ?_
      refine b_iload rfl rfl ?_
      refine b_imulN rfl (by omega) (by omega) ?_
      refine b_aload_n rfl rfl ?_
      refine b_getR (r := 1) rfl fl6_42 rfl (by decide) rfl rfl ?_
      refine b_getI rfl fl6_53 rfl (by decide) rfl ?_
      refine b_icmp_ge (tgt := 173) rfl rfl (fun c122 => ?_) (fun c122 => ?_)
      · omega
      · refine b_aload_n rfl rfl ?_
        refine b_getR (r := 45) rfl fl6_9 rfl (by decide) rfl rfl ?_
        refine b_iload_n rfl rfl ?_
        refine b_aload_n rfl rfl ?_
        refine b_getR (r := 1) rfl fl6_42 rfl (by decide) rfl rfl ?_
        refine b_iconst rfl (by decide) ?_
        refine b_iload rfl rfl ?_
        refine b_imulN rfl (by omega) (by omega) ?_
        refine b_callV1i (ν := MX9_at) rfl ml6_58 cvX9_at (d' := 0) (by omega) rfl (by decide) rfl (Nat.le_of_ble_eq_true rfl) ?_
        refine sp_X9_at (by omega) ?_
        rw [tAt_to q1 q2]
        refine ⟨_, rfl, ?_⟩
        refine b_aload_n rfl rfl ?_
        refine b_getR (r := 1) rfl fl6_42 rfl (by decide) rfl rfl ?_
        refine b_iconst rfl (by decide) ?_
        refine b_iload rfl rfl ?_
        refine b_imulN rfl (by omega) (by omega) ?_
        refine b_iconst rfl (by decide) ?_
        refine b_iaddN rfl (by omega) (by omega) ?_
        refine b_callV1i (ν := MX9_at) rfl ml6_58 cvX9_at (d' := 0) (by omega) rfl (by decide) rfl (Nat.le_of_ble_eq_true rfl) ?_
        refine sp_X9_at (by omega) ?_
        rw [tAt_to q1 q2]
        refine ⟨_, rfl, ?_⟩
        refine b_callSN3i (ν := MX11_cell) rfl ml6_100 csX11_cell (d' := 0) (by omega) (Nat.le_of_ble_eq_true rfl) ?_
        refine sp_X11_cell (by omega) ?_
        refine ⟨_, rfl, ?_⟩
        refine b_dup2 rfl rfl rfl ?_
        refine b_iald rfl rfl (by omega) (by omega) ?_
        rw [show ((s : Int) * 24 + tAt I (2 * (i : Int)) * 6 + tAt I (2 * (i : Int) + 1)).toNat = A by omega, q45]
        refine b_iload_n rfl rfl ?_
        refine b_iload rfl rfl ?_
        refine b_ishr rfl ?_
        refine b_iconst rfl (by decide) ?_
        refine b_iand rfl ?_
        rw [bt_eq ht (by omega)]
        refine b_isubN rfl (by omega) (by omega) ?_
        refine b_iast rfl rfl (by omega) (by omega) ?_
        rw [show ((s : Int) * 24 + tAt I (2 * (i : Int)) * 6 + tAt I (2 * (i : Int) + 1)).toNat = A by omega]
        refine b_iincX (F := fun z167 => [some (aR 44), some (aI (t : Int)), some (aI (s : Int)), some (aI (b : Int)), some (aI y), some (aI z167), x6]) rfl rfl (by omega) (by omega) (fun _ => rfl) (fun z167 ez167 => ?_)
        refine b_goto (tgt := 111) rfl rfl ?_
        exact ih (i + 1) _ _ _ _ hL2 hy (by omega) (by omega)
  have one : ∀ (n i : Nat) (y z : Int) (x6 : Option AV) (K : HI), At (row I 45 (aT (I 45) (oA I s) t i)) K C h → ((y = 1 ∧ rmP I s t i) ∨ (y = 0 ∧ ¬ rmP I s t i)) → z = (i : Int) → i + n = m → Bj MX6_stands 5 6 [some (aR 44), some (aI (t : Int)), some (aI (s : Int)), some (aI (b : Int)), some (aI y), some (aI z), x6] [] K Q := by
    intro n
    induction n with
    | zero =>
      intro i y z x6 K hL hy hz hi
      have ei : i = m := by omega
      subst ei
      have q1 : K 1 = I 1 := by rw [hL.1.1 1 (by decide) (by decide), row_cell (by decide)]
      have q11 : K 1 1 = I 1 1 := by rw [q1]
      have hP2 := CP_row hP (p := 45) (f := aT (I 45) (oA I s) t i) (by decide)
      have hb5 : ∀ k, 0 ≤ row I 45 (aT (I 45) (oA I s) t i) 45 k ∧ row I 45 (aT (I 45) (oA I s) t i) 45 k ≤ 50 := fun k => by
        rw [row_same]
        have := hab i k hm
        omega
      have hs2 : (s : Int) < row I 45 (aT (I 45) (oA I s) t i) 4 1 := by rw [row_cell (by decide)]; exact hs
      have htp := t_in hP2.1 hb5 hs2
      refine b_iconst rfl (by decide) ?_
      refine b_iload rfl rfl ?_
      refine b_imulN rfl (by omega) (by omega) ?_
      refine b_aload_n rfl rfl ?_
      refine b_getR (r := 1) rfl fl6_42 rfl (by decide) rfl rfl ?_
      refine b_getI rfl fl6_53 rfl (by decide) rfl ?_
      refine b_icmp_ge (tgt := 96) rfl rfl (fun c17 => ?_) (fun c17 => ?_)
      · refine b_aload_n rfl rfl ?_
        refine b_getR (r := 27) rfl fl6_38 rfl (by decide) rfl rfl ?_
        refine b_aload_n rfl rfl ?_
        refine b_getR (r := 45) rfl fl6_9 rfl (by decide) rfl rfl ?_
        refine b_iload_n rfl rfl ?_
        refine b_callV2v (ν := MX5_look) rfl ml6_134 cvX5_look (d' := 4) (by omega) rfl (by decide) rfl (Nat.le_of_ble_eq_true rfl) ?_
        refine spa_look_45 hP2 hL hb5 hs2 (fun K2 hL2 => ?_)
        refine ⟨rfl, ?_⟩
        refine b_iconst rfl (by decide) ?_
        refine b_istoreX (F := fun z109 => [some (aR 44), some (aI (t : Int)), some (aI (s : Int)), some (aI (b : Int)), some (aI y), some (aI z109), x6]) rfl (by decide) (fun _ => rfl) (fun z109 ez109 => ?_)
        refine two _ _ _ _ _ ⟨htp.2.2.2.2.1, htp.2.2.2.2.2.1⟩ ?_ ?_ i 0 y _ _ K2 (by rw [dT_0]; exact hL2) hy (by omega) (by omega)
        · unfold SFV SF lvl
          rw [row_cell (by decide), row_cell (by decide)]
        · exact Iff.rfl
      · omega
    | succ n ih =>
      intro i y z x6 K hL hy hz hi
      subst hz
      obtain ⟨a1, a2, a3, a4, a5, a6⟩ := oA_in hP.1 hc hT (k := i) (by omega)
      have q1 : K 1 = I 1 := by rw [hL.1.1 1 (by decide) (by decide), row_cell (by decide)]
      have q2 : K 2 = I 2 := by rw [hL.1.1 2 (by decide) (by decide), row_cell (by decide)]
      have q11 : K 1 1 = I 1 1 := by rw [q1]
      have q45 : K 45 = aT (I 45) (oA I s) t i := by rw [hL.1.1 45 (by decide) (by decide), row_same]
      have hoe : 24 * s + 6 * (tAt I (2 * (i : Int))).toNat + (tAt I (2 * (i : Int) + 1)).toNat = oA I s i := rfl
      have hd1 := hab i (oA I s i) (by omega)
      have hbt := bt_in t i
      have hL2 := At_cell (by decide) hL (k := oA I s i) (v := aT (I 45) (oA I s) t i (oA I s i) + bt t i)
      rw [aT_s] at hL2
      have hup : up K 45 (oA I s i) (aT (I 45) (oA I s) t i (oA I s i) + bt t i) 45 (oA I s i) = aT (I 45) (oA I s) t (i + 1) (oA I s i) := by
        rw [up_s, ← aT_s]
        exact (if_pos rfl).symm
      have hr : rmP I s t (i + 1) ↔ rmP I s t i ∧ aT (I 45) (oA I s) t (i + 1) (oA I s i) ≤ 20 := by
        constructor
        · exact fun w => ⟨fun k hk => w k (by omega), w i (by omega)⟩
        · intro w k hk
          by_cases e : k = i
          · subst e; exact w.2
          · exact w.1 k (by omega)
      generalize hoA : oA I s i = A at *
      refine b_iconst rfl (by decide) ?_
      refine b_iload rfl rfl ?_
      refine b_imulN rfl (by omega) (by omega) ?_
      refine b_aload_n rfl rfl ?_
      refine b_getR (r := 1) rfl fl6_42 rfl (by decide) rfl rfl ?_
      refine b_getI rfl fl6_53 rfl (by decide) rfl ?_
      refine b_icmp_ge (tgt := 96) rfl rfl (fun c17 => ?_) (fun c17 => ?_)
      · omega
      · refine b_iload_n rfl rfl ?_
        refine b_aload_n rfl rfl ?_
        refine b_getR (r := 1) rfl fl6_42 rfl (by decide) rfl rfl ?_
        refine b_iconst rfl (by decide) ?_
        refine b_iload rfl rfl ?_
        refine b_imulN rfl (by omega) (by omega) ?_
        refine b_callV1i (ν := MX9_at) rfl ml6_58 cvX9_at (d' := 0) (by omega) rfl (by decide) rfl (Nat.le_of_ble_eq_true rfl) ?_
        refine sp_X9_at (by omega) ?_
        rw [tAt_to q1 q2]
        refine ⟨_, rfl, ?_⟩
        refine b_aload_n rfl rfl ?_
        refine b_getR (r := 1) rfl fl6_42 rfl (by decide) rfl rfl ?_
        refine b_iconst rfl (by decide) ?_
        refine b_iload rfl rfl ?_
        refine b_imulN rfl (by omega) (by omega) ?_
        refine b_iconst rfl (by decide) ?_
        refine b_iaddN rfl (by omega) (by omega) ?_
        refine b_callV1i (ν := MX9_at) rfl ml6_58 cvX9_at (d' := 0) (by omega) rfl (by decide) rfl (Nat.le_of_ble_eq_true rfl) ?_
        refine sp_X9_at (by omega) ?_
        rw [tAt_to q1 q2]
        refine ⟨_, rfl, ?_⟩
        refine b_callSN3i (ν := MX11_cell) rfl ml6_100 csX11_cell (d' := 0) (by omega) (Nat.le_of_ble_eq_true rfl) ?_
        refine sp_X11_cell (by omega) ?_
        refine ⟨_, rfl, ?_⟩
        refine b_istoreX (F := fun z48 => [some (aR 44), some (aI (t : Int)), some (aI (s : Int)), some (aI (b : Int)), some (aI y), some (aI (i : Int)), some (aI z48)]) rfl (by decide) (fun _ => rfl) (fun z48 ez48 => ?_)
        have es : z48.toNat = A := by omega
        refine b_aload_n rfl rfl ?_
        refine b_getR (r := 45) rfl fl6_9 rfl (by decide) rfl rfl ?_
        refine b_iload rfl rfl ?_
        refine b_dup2 rfl rfl rfl ?_
        refine b_iald rfl rfl (by omega) (by omega) ?_
        rw [es, q45]
        refine b_iload_n rfl rfl ?_
        refine b_iload rfl rfl ?_
        refine b_ishr rfl ?_
        refine b_iconst rfl (by decide) ?_
        refine b_iand rfl ?_
        rw [bt_eq ht (by omega)]
        refine b_iaddN rfl (by omega) (by omega) ?_
        refine b_iast rfl rfl (by omega) (by omega) ?_
        rw [es]
        refine b_iload rfl rfl ?_
        refine b_if_eq (tgt := 87) rfl rfl (fun c68 => ?_) (fun c68 => ?_)
        · refine b_iconst rfl (by decide) ?_
          refine b_istoreX (F := fun z88 => [some (aR 44), some (aI (t : Int)), some (aI (s : Int)), some (aI (b : Int)), some (aI z88), some (aI (i : Int)), some (aI z48)]) rfl (by decide) (fun _ => rfl) (fun z88 ez88 => ?_)
          refine b_iincX (F := fun z90 => [some (aR 44), some (aI (t : Int)), some (aI (s : Int)), some (aI (b : Int)), some (aI z88), some (aI z90), some (aI z48)]) rfl rfl (by omega) (by omega) (fun _ => rfl) (fun z90 ez90 => ?_)
          refine b_goto (tgt := 6) rfl rfl ?_
          first
          | exact ih (i + 1) _ _ _ _ hL2 (Or.inl ⟨by omega, hr.2 ⟨(hy.resolve_right (fun w => by omega)).2, by omega⟩⟩) (by omega) (by omega)
          | exact ih (i + 1) _ _ _ _ hL2 (Or.inr ⟨by omega, fun w => by have := (hr.1 w).2; omega⟩) (by omega) (by omega)
          | exact ih (i + 1) _ _ _ _ hL2 (Or.inr ⟨by omega, fun w => (hy.resolve_left (fun w => by omega)).2 (hr.1 w).1⟩) (by omega) (by omega)
        · refine b_aload_n rfl rfl ?_
          refine b_getR (r := 45) rfl fl6_9 rfl (by decide) rfl rfl ?_
          refine b_iload rfl rfl ?_
          refine b_iald rfl rfl (by omega) (by omega) ?_
          rw [es, hup]
          refine b_bipush rfl (by decide) ?_
          refine b_icmp_gt (tgt := 87) rfl rfl (fun c80 => ?_) (fun c80 => ?_)
          · refine b_iconst rfl (by decide) ?_
            refine b_istoreX (F := fun z88 => [some (aR 44), some (aI (t : Int)), some (aI (s : Int)), some (aI (b : Int)), some (aI z88), some (aI (i : Int)), some (aI z48)]) rfl (by decide) (fun _ => rfl) (fun z88 ez88 => ?_)
            refine b_iincX (F := fun z90 => [some (aR 44), some (aI (t : Int)), some (aI (s : Int)), some (aI (b : Int)), some (aI z88), some (aI z90), some (aI z48)]) rfl rfl (by omega) (by omega) (fun _ => rfl) (fun z90 ez90 => ?_)
            refine b_goto (tgt := 6) rfl rfl ?_
            first
            | exact ih (i + 1) _ _ _ _ hL2 (Or.inl ⟨by omega, hr.2 ⟨(hy.resolve_right (fun w => by omega)).2, by omega⟩⟩) (by omega) (by omega)
            | exact ih (i + 1) _ _ _ _ hL2 (Or.inr ⟨by omega, fun w => by have := (hr.1 w).2; omega⟩) (by omega) (by omega)
            | exact ih (i + 1) _ _ _ _ hL2 (Or.inr ⟨by omega, fun w => (hy.resolve_left (fun w => by omega)).2 (hr.1 w).1⟩) (by omega) (by omega)
          · refine b_iconst rfl (by decide) ?_
            refine b_goto (tgt := 88) rfl rfl ?_
            refine b_istoreX (F := fun z88 => [some (aR 44), some (aI (t : Int)), some (aI (s : Int)), some (aI (b : Int)), some (aI z88), some (aI (i : Int)), some (aI z48)]) rfl (by decide) (fun _ => rfl) (fun z88 ez88 => ?_)
            refine b_iincX (F := fun z90 => [some (aR 44), some (aI (t : Int)), some (aI (s : Int)), some (aI (b : Int)), some (aI z88), some (aI z90), some (aI z48)]) rfl rfl (by omega) (by omega) (fun _ => rfl) (fun z90 ez90 => ?_)
            refine b_goto (tgt := 6) rfl rfl ?_
            first
            | exact ih (i + 1) _ _ _ _ hL2 (Or.inl ⟨by omega, hr.2 ⟨(hy.resolve_right (fun w => by omega)).2, by omega⟩⟩) (by omega) (by omega)
            | exact ih (i + 1) _ _ _ _ hL2 (Or.inr ⟨by omega, fun w => by have := (hr.1 w).2; omega⟩) (by omega) (by omega)
            | exact ih (i + 1) _ _ _ _ hL2 (Or.inr ⟨by omega, fun w => (hy.resolve_left (fun w => by omega)).2 (hr.1 w).1⟩) (by omega) (by omega)
  refine rj_of okX6_stands (Nat.le_of_ble_eq_true rfl) rfl ?_
  refine b_iconst rfl (by decide) ?_
  refine b_istoreX (F := fun z1 => [some (aR 44), some (aI (t : Int)), some (aI (s : Int)), some (aI (b : Int)), some (aI z1), none, none]) rfl (by decide) (fun _ => rfl) (fun z1 ez1 => ?_)
  refine b_iconst rfl (by decide) ?_
  refine b_istoreX (F := fun z4 => [some (aR 44), some (aI (t : Int)), some (aI (s : Int)), some (aI (b : Int)), some (aI z1), some (aI z4), none]) rfl (by decide) (fun _ => rfl) (fun z4 ez4 => ?_)
  exact one m 0 _ _ _ J (by rw [aT_0, row_self]; exact hA) (Or.inl ⟨by omega, fun k hk => absurd hk (by omega)⟩) (by omega) (by omega)
