/-! ===== WrongTide: what looks, and what looks ahead ===== -/
noncomputable def pI (p : Prop) (a b : Int) : Int := @ite _ p (Classical.propDecidable p) a b
theorem pI_1 {p : Prop} {a b : Int} (h : p) : pI p a b = a := by unfold pI; rw [if_pos h]
theorem pI_0 {p : Prop} {a b : Int} (h : ¬ p) : pI p a b = b := by unfold pI; rw [if_neg h]
noncomputable def fP (p : Nat → Prop) : Nat → Nat → Int
  | 0, _ => -1
  | n + 1, i => pI (p i) (i : Int) (fP p n (i + 1))
noncomputable def kP (p : Nat → Prop) (k : Int) : Nat → Nat → Int → Int
  | 0, _, _ => -1
  | f + 1, n, t => pI (p n) (if t = k then (n : Int) else kP p k f (n + 1) (t + 1)) (kP p k f (n + 1) t)
noncomputable def bN (p : Nat → Prop) : Nat → Nat
  | 0 => 0
  | n + 1 => bN p n + @ite _ (p n) (Classical.propDecidable (p n)) (2 ^ n) 0
theorem bN_lt {p : Nat → Prop} (n : Nat) : bN p n < 2 ^ n := by
  induction n with
  | zero => exact Nat.zero_lt_one
  | succ n ih =>
    show bN p n + @ite _ (p n) (Classical.propDecidable (p n)) (2 ^ n) 0 < 2 ^ (n + 1)
    rw [Nat.pow_succ]
    by_cases h : p n
    · rw [if_pos h]; omega
    · rw [if_neg h]; omega
theorem bN_1 {p : Nat → Prop} {n : Nat} (h : p n) : bN p (n + 1) = bN p n + 2 ^ n := by
  show bN p n + @ite _ (p n) (Classical.propDecidable (p n)) (2 ^ n) 0 = _
  rw [if_pos h]
theorem bN_0 {p : Nat → Prop} {n : Nat} (h : ¬ p n) : bN p (n + 1) = bN p n := by
  show bN p n + @ite _ (p n) (Classical.propDecidable (p n)) (2 ^ n) 0 = _
  rw [if_neg h]; rfl
theorem or_new_ : ∀ n : Fin 6, ∀ a : Fin 64, a.val < 2 ^ n.val → iOr (a.val : Int) (iShl 1 (n.val : Int)) = ((a.val + 2 ^ n.val : Nat) : Int) := by decide +kernel
theorem or_new {n a : Nat} (hn : n < 6) (ha : a < 2 ^ n) : iOr (a : Int) (iShl 1 (n : Int)) = ((a + 2 ^ n : Nat) : Int) := by
  have h64 : a < 64 := by
    have : 2 ^ n ≤ 2 ^ 6 := Nat.pow_le_pow_right (by decide) (by omega)
    have e : 2 ^ 6 = 64 := by decide
    omega
  exact or_new_ ⟨n, hn⟩ ⟨a, h64⟩ ha
def WF (I : HI) (C : Nat → List Int) : Prop := CP I C ∧ seB I ∧ (0 ≤ I 30 5 ∧ I 30 5 ≤ 9999) ∧ (∀ k, 0 ≤ I 32 k ∧ I 32 k ≤ 20) ∧ (∀ s : Nat, (s : Int) < I 4 1 → I 31 s = -1 ∨ (0 ≤ I 31 s ∧ I 31 s < I 4 2))
theorem WF.b5 {I : HI} {C : Nat → List Int} (h : WF I C) : ∀ k, 0 ≤ I 32 k ∧ I 32 k ≤ 50 := fun k => by have := h.2.2.2.1 k; omega
theorem Sc_at {I : HI} {C : Nat → List Int} {h : Int} {g : Nat → Int} (hse : seB I) (hh : 0 ≤ h ∧ h ≤ 100000) : Sc I (row (atH I C h) 29 g) := ⟨fun q h1 h2 => by rw [row_cell h2, atH_cell h1], seB_row (seB_at hse hh)⟩
theorem sp_X11_tide {I : HI} {Q : Option AV → HI → Prop} {C : Nat → List Int} {h w : Int} (hW : WF I C) (kq : ∀ K, Sc I K → Q (some (aI (if 0 ≤ h ∧ h ≤ 9999 then (if w = 0 then wat C h else if w = 1 then mon C h else -1) else -1))) K) : Rj MX11_tide 5 [aR 0, aI h, aI w] I Q := by
  refine rj_of okX11_tide (Nat.le_of_ble_eq_true rfl) rfl ?_
  refine b_iload_n rfl rfl ?_
  refine b_if_lt (tgt := 11) rfl rfl (fun c1 => ?_) (fun c1 => ?_)
  · refine b_iconst rfl (by decide) ?_
    refine b_iret rfl rfl ?_
    refine qI (kq _ (Sc.rf hW.2.1)) ?_ rfl
    rw [if_neg (by omega)]
  · refine b_iload_n rfl rfl ?_
    refine b_sipush rfl (by decide) ?_
    refine b_icmp_le (tgt := 13) rfl rfl (fun c8 => ?_) (fun c8 => ?_)
    · refine b_iload_n rfl rfl ?_
      by_cases s14_0 : w = 0
      · refine b_lsw (off := 26) (tgt := 40) rfl (by decide) (by rw [s14_0]; try rfl) rfl ?_
        refine b_aload_n rfl rfl ?_
        refine b_getR (r := 27) rfl fl11_37 rfl (by decide) rfl rfl ?_
        refine b_iload_n rfl rfl ?_
        refine b_callV1i (ν := MX5_waterAt) rfl ml11_156 cvX5_waterAt (d' := 4) (by omega) rfl (by decide) rfl (Nat.le_of_ble_eq_true rfl) ?_
        refine sp_X5_waterAt (by omega) hW.1.2.1 hW.1.2.2 hW.2.1 (fun g => ?_)
        refine ⟨_, rfl, ?_⟩
        refine b_iret rfl rfl ?_
        refine qI (kq _ (Sc_at hW.2.1 (by omega))) ?_ rfl
        rw [if_pos (by omega), if_pos s14_0]
      by_cases s14_1 : w = 1
      · refine b_lsw (off := 35) (tgt := 49) rfl (by decide) (by rw [s14_1]; try rfl) rfl ?_
        refine b_aload_n rfl rfl ?_
        refine b_getR (r := 27) rfl fl11_37 rfl (by decide) rfl rfl ?_
        refine b_iload_n rfl rfl ?_
        refine b_callV1i (ν := MX5_moonAt) rfl ml11_159 cvX5_moonAt (d' := 4) (by omega) rfl (by decide) rfl (Nat.le_of_ble_eq_true rfl) ?_
        refine sp_X5_moonAt (by omega) hW.1.2.1 hW.1.2.2 hW.2.1 (fun g => ?_)
        refine ⟨_, rfl, ?_⟩
        refine b_iret rfl rfl ?_
        refine qI (kq _ (Sc_at hW.2.1 (by omega))) ?_ rfl
        rw [if_pos (by omega), if_neg s14_0, if_pos s14_1]
      refine b_lsw (off := 44) (tgt := 58) rfl (by decide) (by simp only [Op.lookupswitch.offset]; rw [if_neg (by omega), if_neg (by omega)]) rfl ?_
      refine b_iconst rfl (by decide) ?_
      refine b_iret rfl rfl ?_
      refine qI (kq _ (Sc.rf hW.2.1)) ?_ rfl
      rw [if_pos (by omega), if_neg s14_0, if_neg s14_1]
    · refine b_iconst rfl (by decide) ?_
      refine b_iret rfl rfl ?_
      refine qI (kq _ (Sc.rf hW.2.1)) ?_ rfl
      rw [if_neg (by omega)]
def hasV (I : HI) (C : Nat → List Int) (w : Int) : Int := if w = 0 then I 4 0 else if w = 1 then I 4 1 else if w = 2 then I 4 2 else if w = 3 then I 30 5 else if w = 4 then wat C (I 30 5) else if w = 5 then mon C (I 30 5) else if w = 6 then sumN 6 (fun k => if I 31 k = -1 then 0 else 1) else if w = 7 then sumN 144 (I 32) else if w = 8 then I 30 4 else if w = 9 then I 38 2 else if w = 10 then I 0 15 else -1
theorem sp_X11_has {I : HI} {Q : Option AV → HI → Prop} {C : Nat → List Int} {w : Int} (hW : WF I C) (kq : ∀ K, Sc I K → Q (some (aI (hasV I C w))) K) : Rj MX11_has 5 [aR 0, aI w] I Q := by
  have r := hW.2.2.1
  have rr := Sc.rf hW.2.1
  unfold hasV at kq
  refine rj_of okX11_has (Nat.le_of_ble_eq_true rfl) rfl ?_
  refine b_iload_n rfl rfl ?_
  by_cases s1_0 : w = 0
  · refine b_tswIn (tgt := 60) rfl (by omega) (by omega) (by rw [s1_0]; rfl) rfl ?_
    refine b_aload_n rfl rfl ?_
    refine b_getR (r := 3) rfl fl11_19 rfl (by decide) rfl rfl ?_
    refine b_getR (r := 4) rfl fl11_150 rfl (by decide) rfl rfl ?_
    refine b_iconst rfl (by decide) ?_
    refine b_ialdL (k := 0) rfl rfl rfl (by decide) ?_
    refine b_iret rfl rfl ?_
    first | exact qI (kq _ rr) (by simp [*]) rfl | exact qI (kq _ (Sc_at hW.2.1 (by omega))) (by simp [*]) rfl
  by_cases s1_1 : w = 1
  · refine b_tswIn (tgt := 70) rfl (by omega) (by omega) (by rw [s1_1]; rfl) rfl ?_
    refine b_aload_n rfl rfl ?_
    refine b_getR (r := 3) rfl fl11_19 rfl (by decide) rfl rfl ?_
    refine b_getR (r := 4) rfl fl11_150 rfl (by decide) rfl rfl ?_
    refine b_iconst rfl (by decide) ?_
    refine b_ialdL (k := 1) rfl rfl rfl (by decide) ?_
    refine b_iret rfl rfl ?_
    first | exact qI (kq _ rr) (by simp [*]) rfl | exact qI (kq _ (Sc_at hW.2.1 (by omega))) (by simp [*]) rfl
  by_cases s1_2 : w = 2
  · refine b_tswIn (tgt := 80) rfl (by omega) (by omega) (by rw [s1_2]; rfl) rfl ?_
    refine b_aload_n rfl rfl ?_
    refine b_getR (r := 3) rfl fl11_19 rfl (by decide) rfl rfl ?_
    refine b_getR (r := 4) rfl fl11_150 rfl (by decide) rfl rfl ?_
    refine b_iconst rfl (by decide) ?_
    refine b_ialdL (k := 2) rfl rfl rfl (by decide) ?_
    refine b_iret rfl rfl ?_
    first | exact qI (kq _ rr) (by simp [*]) rfl | exact qI (kq _ (Sc_at hW.2.1 (by omega))) (by simp [*]) rfl
  by_cases s1_3 : w = 3
  · refine b_tswIn (tgt := 90) rfl (by omega) (by omega) (by rw [s1_3]; rfl) rfl ?_
    refine b_aload_n rfl rfl ?_
    refine b_getR (r := 30) rfl fl11_44 rfl (by decide) rfl rfl ?_
    refine b_getI rfl fl11_153 rfl (by decide) rfl ?_
    refine b_iret rfl rfl ?_
    first | exact qI (kq _ rr) (by simp [*]) rfl | exact qI (kq _ (Sc_at hW.2.1 (by omega))) (by simp [*]) rfl
  by_cases s1_4 : w = 4
  · refine b_tswIn (tgt := 98) rfl (by omega) (by omega) (by rw [s1_4]; rfl) rfl ?_
    refine b_aload_n rfl rfl ?_
    refine b_getR (r := 27) rfl fl11_37 rfl (by decide) rfl rfl ?_
    refine b_aload_n rfl rfl ?_
    refine b_getR (r := 30) rfl fl11_44 rfl (by decide) rfl rfl ?_
    refine b_getI rfl fl11_153 rfl (by decide) rfl ?_
    refine b_callV1i (ν := MX5_waterAt) rfl ml11_156 cvX5_waterAt (d' := 4) (by omega) rfl (by decide) rfl (Nat.le_of_ble_eq_true rfl) ?_
    refine sp_X5_waterAt (by omega) hW.1.2.1 hW.1.2.2 hW.2.1 (fun g => ?_)
    refine ⟨_, rfl, ?_⟩
    refine b_iret rfl rfl ?_
    first | exact qI (kq _ rr) (by simp [*]) rfl | exact qI (kq _ (Sc_at hW.2.1 (by omega))) (by simp [*]) rfl
  by_cases s1_5 : w = 5
  · refine b_tswIn (tgt := 113) rfl (by omega) (by omega) (by rw [s1_5]; rfl) rfl ?_
    refine b_aload_n rfl rfl ?_
    refine b_getR (r := 27) rfl fl11_37 rfl (by decide) rfl rfl ?_
    refine b_aload_n rfl rfl ?_
    refine b_getR (r := 30) rfl fl11_44 rfl (by decide) rfl rfl ?_
    refine b_getI rfl fl11_153 rfl (by decide) rfl ?_
    refine b_callV1i (ν := MX5_moonAt) rfl ml11_159 cvX5_moonAt (d' := 4) (by omega) rfl (by decide) rfl (Nat.le_of_ble_eq_true rfl) ?_
    refine sp_X5_moonAt (by omega) hW.1.2.1 hW.1.2.2 hW.2.1 (fun g => ?_)
    refine ⟨_, rfl, ?_⟩
    refine b_iret rfl rfl ?_
    first | exact qI (kq _ rr) (by simp [*]) rfl | exact qI (kq _ (Sc_at hW.2.1 (by omega))) (by simp [*]) rfl
  by_cases s1_6 : w = 6
  · refine b_tswIn (tgt := 128) rfl (by omega) (by omega) (by rw [s1_6]; rfl) rfl ?_
    refine b_aload_n rfl rfl ?_
    refine b_getR (r := 30) rfl fl11_44 rfl (by decide) rfl rfl ?_
    refine b_callV0i (ν := MX7_lying) rfl ml11_162 cvX7_lying (d' := 0) (by omega) rfl (by decide) rfl (Nat.le_of_ble_eq_true rfl) ?_
    refine sp_X7_lying_30 ?_
    refine ⟨_, rfl, ?_⟩
    refine b_iret rfl rfl ?_
    first | exact qI (kq _ rr) (by simp [*]) rfl | exact qI (kq _ (Sc_at hW.2.1 (by omega))) (by simp [*]) rfl
  by_cases s1_7 : w = 7
  · refine b_tswIn (tgt := 136) rfl (by omega) (by omega) (by rw [s1_7]; rfl) rfl ?_
    refine b_aload_n rfl rfl ?_
    refine b_getR (r := 30) rfl fl11_44 rfl (by decide) rfl rfl ?_
    refine b_callV0i (ν := MX7_allCrates) rfl ml11_166 cvX7_allCrates (d' := 0) (by omega) rfl (by decide) rfl (Nat.le_of_ble_eq_true rfl) ?_
    refine sp_X7_allCrates_30 (fun k => by have := hW.2.2.2.1 k; omega) ?_
    refine ⟨_, rfl, ?_⟩
    refine b_iret rfl rfl ?_
    first | exact qI (kq _ rr) (by simp [*]) rfl | exact qI (kq _ (Sc_at hW.2.1 (by omega))) (by simp [*]) rfl
  by_cases s1_8 : w = 8
  · refine b_tswIn (tgt := 144) rfl (by omega) (by omega) (by rw [s1_8]; rfl) rfl ?_
    refine b_aload_n rfl rfl ?_
    refine b_getR (r := 30) rfl fl11_44 rfl (by decide) rfl rfl ?_
    refine b_getI rfl fl11_169 rfl (by decide) rfl ?_
    refine b_iret rfl rfl ?_
    first | exact qI (kq _ rr) (by simp [*]) rfl | exact qI (kq _ (Sc_at hW.2.1 (by omega))) (by simp [*]) rfl
  by_cases s1_9 : w = 9
  · refine b_tswIn (tgt := 152) rfl (by omega) (by omega) (by rw [s1_9]; rfl) rfl ?_
    refine b_aload_n rfl rfl ?_
    refine b_getR (r := 38) rfl fl11_54 rfl (by decide) rfl rfl ?_
    refine b_getI rfl fl11_172 rfl (by decide) rfl ?_
    refine b_iret rfl rfl ?_
    first | exact qI (kq _ rr) (by simp [*]) rfl | exact qI (kq _ (Sc_at hW.2.1 (by omega))) (by simp [*]) rfl
  by_cases s1_10 : w = 10
  · refine b_tswIn (tgt := 160) rfl (by omega) (by omega) (by rw [s1_10]; rfl) rfl ?_
    refine b_aload_n rfl rfl ?_
    refine b_getI rfl fl11_94 rfl (by decide) rfl ?_
    refine b_iret rfl rfl ?_
    first | exact qI (kq _ rr) (by simp [*]) rfl | exact qI (kq _ (Sc_at hW.2.1 (by omega))) (by simp [*]) rfl
  refine b_tswOut (tgt := 165) rfl (by omega) rfl ?_
  refine b_iconst rfl (by decide) ?_
  refine b_iret rfl rfl ?_
  first | exact qI (kq _ rr) (by simp [*]) rfl | exact qI (kq _ (Sc_at hW.2.1 (by omega))) (by simp [*]) rfl
theorem sp_X11_rides {I : HI} {Q : Option AV → HI → Prop} {C : Nat → List Int} {a n : Int} (hW : WF I C) (k1 : ∀ s : Nat, a = (s : Int) → (s : Int) < I 4 1 → clk I n → ∀ K, Sc I K → Q (some (aI (hS_ I C (I 30 5 + n) 32 s))) K) (k0 : ¬ (kO I 4 1 a ∧ clk I n) → Q (some (aI (-1))) I) : Rj MX11_rides 5 [aR 0, aI a, aI n] I Q := by
  have r := hW.2.2.1
  refine rj_of okX11_rides (Nat.le_of_ble_eq_true rfl) rfl ?_
  refine b_aload_n rfl rfl ?_
  refine b_getR (r := 3) rfl fl11_19 rfl (by decide) rfl rfl ?_
  refine b_iconst rfl (by decide) ?_
  refine b_iload_n rfl rfl ?_
  refine b_callV2i (ν := MX3_knows) rfl ml11_175 cvX3_knows (d' := 0) (by omega) rfl (by decide) rfl (Nat.le_of_ble_eq_true rfl) ?_
  refine spf_knows (fun hk => ?_) (fun hk => ?_)
  · refine ⟨_, rfl, ?_⟩
    refine b_if_eq (tgt := 20) rfl rfl (fun z => absurd z (by decide)) (fun _ => ?_)
    refine b_aload_n rfl rfl ?_
    refine b_iload_n rfl rfl ?_
    refine b_callV1i (ν := MX11_canLook) rfl ml11_236 cvX11_canLook (d' := 0) (by omega) rfl (by decide) rfl (Nat.le_of_ble_eq_true rfl) ?_
    refine spf_canLook (by omega) (fun hc => ?_) (fun hc => ?_)
    · refine ⟨_, rfl, ?_⟩
      refine b_if_ne (tgt := 22) rfl rfl (fun _ => ?_) (fun z => absurd z (by decide))
      have h2 := hk.2.2
      have hc' := hc
      unfold clk at hc'
      obtain ⟨s, rfl⟩ : ∃ s : Nat, a = (s : Int) := ⟨a.toNat, by omega⟩
      refine b_aload_n rfl rfl ?_
      refine b_getR (r := 27) rfl fl11_37 rfl (by decide) rfl rfl ?_
      refine b_aload_n rfl rfl ?_
      refine b_getR (r := 30) rfl fl11_44 rfl (by decide) rfl rfl ?_
      refine b_getI rfl fl11_153 rfl (by decide) rfl ?_
      refine b_iload_n rfl rfl ?_
      refine b_iaddN rfl (by omega) (by omega) ?_
      refine b_callV1v (ν := MX5_atHour) rfl ml11_195 cvX5_atHour (d' := 3) (by omega) rfl (by decide) rfl (Nat.le_of_ble_eq_true rfl) ?_
      refine spa_atHour hW.1 (Sc.rf hW.2.1) (by omega) (fun K hA => ?_)
      refine ⟨rfl, ?_⟩
      refine b_aload_n rfl rfl ?_
      refine b_getR (r := 27) rfl fl11_37 rfl (by decide) rfl rfl ?_
      refine b_aload_n rfl rfl ?_
      refine b_getR (r := 30) rfl fl11_44 rfl (by decide) rfl rfl ?_
      refine b_getR (r := 32) rfl fl11_198 rfl (by decide) rfl rfl ?_
      refine b_iload_n rfl rfl ?_
      refine b_callV2v (ν := MX5_look) rfl ml11_201 cvX5_look (d' := 4) (by omega) rfl (by decide) rfl (Nat.le_of_ble_eq_true rfl) ?_
      refine spa_look_32 hW.1 hA hW.b5 h2.2 (fun K hL => ?_)
      refine ⟨rfl, ?_⟩
      refine b_aload_n rfl rfl ?_
      refine b_getR (r := 27) rfl fl11_37 rfl (by decide) rfl rfl ?_
      refine b_getR (r := 28) rfl fl11_208 rfl (by decide) rfl rfl ?_
      refine b_bipush rfl (by decide) ?_
      refine b_ialdL (k := 7) rfl rfl rfl (by decide) ?_
      refine b_iret rfl rfl ?_
      exact qI (k1 s rfl h2.2 hc _ hL.1.1) hL.2.2.2.2.2.symm rfl
    · refine ⟨_, rfl, ?_⟩
      refine b_if_ne (tgt := 22) rfl rfl (fun z => absurd z (by decide)) (fun _ => ?_)
      refine b_iconst rfl (by decide) ?_
      refine b_iret rfl rfl ?_
      first | exact k0 (fun z => hk z.1) | exact k0 (fun z => hc z.2)
  · refine ⟨_, rfl, ?_⟩
    refine b_if_eq (tgt := 20) rfl rfl (fun _ => ?_) (fun z => absurd z (by decide))
    refine b_iconst rfl (by decide) ?_
    refine b_iret rfl rfl ?_
    first | exact k0 (fun z => hk z.1) | exact k0 (fun z => hc z.2)
noncomputable def shV (I : HI) (C : Nat → List Int) (s : Nat) (w : Int) : Int := if w = 0 then I 6 (6 + s) else if w = 1 then I 7 (6 + s) else if w = 2 then I 31 s else if w = 3 then tW I 32 s else if w = 4 then tL I 32 s else if w = 5 then tN I 32 s else if w = 6 then hS_ I C (I 30 5) 32 s else if w = 7 then pI (lvl I s (tT I 32 s)) 1 0 else -1
theorem sp_X11_ship {I : HI} {Q : Option AV → HI → Prop} {C : Nat → List Int} {a w : Int} (hW : WF I C) (k1 : ∀ s : Nat, a = (s : Int) → (s : Int) < I 4 1 → ∀ K, Sc I K → Q (some (aI (shV I C s w))) K) (k0 : ¬ kO I 4 1 a → Q (some (aI (-1))) I) : Rj MX11_ship 5 [aR 0, aI a, aI w] I Q := by
  have r := hW.2.2.1
  unfold shV at k1
  refine rj_of okX11_ship (Nat.le_of_ble_eq_true rfl) rfl ?_
  refine b_aload_n rfl rfl ?_
  refine b_getR (r := 3) rfl fl11_19 rfl (by decide) rfl rfl ?_
  refine b_iconst rfl (by decide) ?_
  refine b_iload_n rfl rfl ?_
  refine b_callV2i (ν := MX3_knows) rfl ml11_175 cvX3_knows (d' := 0) (by omega) rfl (by decide) rfl (Nat.le_of_ble_eq_true rfl) ?_
  refine spf_knows (fun hk => ?_) (fun hk => ?_)
  · refine ⟨_, rfl, ?_⟩
    refine b_if_ne (tgt := 14) rfl rfl (fun _ => ?_) (fun z => absurd z (by decide))
    have h2 := hk.2.2
    obtain ⟨s, rfl⟩ : ∃ s : Nat, a = (s : Int) := ⟨a.toNat, by omega⟩
    have hs : (s : Int) < I 4 1 := h2.2
    have hs6 : s < 6 := by have := hW.1.1.1 1 (by decide); omega
    refine b_aload_n rfl rfl ?_
    refine b_getR (r := 27) rfl fl11_37 rfl (by decide) rfl rfl ?_
    refine b_aload_n rfl rfl ?_
    refine b_getR (r := 30) rfl fl11_44 rfl (by decide) rfl rfl ?_
    refine b_getI rfl fl11_153 rfl (by decide) rfl ?_
    refine b_callV1v (ν := MX5_atHour) rfl ml11_195 cvX5_atHour (d' := 3) (by omega) rfl (by decide) rfl (Nat.le_of_ble_eq_true rfl) ?_
    refine spa_atHour hW.1 (Sc.rf hW.2.1) (by omega) (fun K hA => ?_)
    refine ⟨rfl, ?_⟩
    refine b_aload_n rfl rfl ?_
    refine b_getR (r := 27) rfl fl11_37 rfl (by decide) rfl rfl ?_
    refine b_aload_n rfl rfl ?_
    refine b_getR (r := 30) rfl fl11_44 rfl (by decide) rfl rfl ?_
    refine b_getR (r := 32) rfl fl11_198 rfl (by decide) rfl rfl ?_
    refine b_iload_n rfl rfl ?_
    refine b_callV2v (ν := MX5_look) rfl ml11_201 cvX5_look (d' := 4) (by omega) rfl (by decide) rfl (Nat.le_of_ble_eq_true rfl) ?_
    refine spa_look_32 hW.1 hA hW.b5 hs (fun K hL => ?_)
    refine ⟨rfl, ?_⟩
    have hS := hL.1.1
    have hP2 := hW.1.to hS
    have e4 := hS.1 4 (by decide) (by decide)
    have e6 := hS.1 6 (by decide) (by decide)
    have e7 := hS.1 7 (by decide) (by decide)
    have e31 := hS.1 31 (by decide) (by decide)
    have f6 := fo_ship (I := K) (f := 6) (s := s) (by rw [e4]; exact hs)
    have f7 := fo_ship (I := K) (f := 7) (s := s) (by rw [e4]; exact hs)
    rw [e6] at f6
    rw [e7] at f7
    obtain ⟨-, l3, l4, l5, l6, l7⟩ := id hL
    refine b_iload_n rfl rfl ?_
    by_cases s44_0 : w = 0
    · refine b_tswIn (tgt := 92) rfl (by omega) (by omega) (by rw [s44_0]; rfl) rfl ?_
      refine b_aload_n rfl rfl ?_
      refine b_getR (r := 3) rfl fl11_19 rfl (by decide) rfl rfl ?_
      refine b_iconst rfl (by decide) ?_
      refine b_iload_n rfl rfl ?_
      refine b_callV2i (ν := MX3_firstOf) rfl ml11_185 cvX3_firstOf (d' := 1) (by omega) rfl (by decide) rfl (Nat.le_of_ble_eq_true rfl) ?_
      refine sp_X3_firstOf_3 hP2.1.1 ?_
      rw [f6]
      refine ⟨_, rfl, ?_⟩
      refine b_iret rfl rfl ?_
      exact qI (k1 s rfl hs _ hS) (by simp [*]) rfl
    by_cases s44_1 : w = 1
    · refine b_tswIn (tgt := 102) rfl (by omega) (by omega) (by rw [s44_1]; rfl) rfl ?_
      refine b_aload_n rfl rfl ?_
      refine b_getR (r := 3) rfl fl11_19 rfl (by decide) rfl rfl ?_
      refine b_iconst rfl (by decide) ?_
      refine b_iload_n rfl rfl ?_
      refine b_callV2i (ν := MX3_secondOf) rfl ml11_189 cvX3_secondOf (d' := 1) (by omega) rfl (by decide) rfl (Nat.le_of_ble_eq_true rfl) ?_
      refine sp_X3_secondOf_3 hP2.1.1 ?_
      rw [f7]
      refine ⟨_, rfl, ?_⟩
      refine b_iret rfl rfl ?_
      exact qI (k1 s rfl hs _ hS) (by simp [*]) rfl
    by_cases s44_2 : w = 2
    · refine b_tswIn (tgt := 112) rfl (by omega) (by omega) (by rw [s44_2]; rfl) rfl ?_
      refine b_aload_n rfl rfl ?_
      refine b_getR (r := 30) rfl fl11_44 rfl (by decide) rfl rfl ?_
      refine b_getR (r := 31) rfl fl11_205 rfl (by decide) rfl rfl ?_
      refine b_iload_n rfl rfl ?_
      refine b_iald rfl rfl (by omega) (by omega) ?_
      rw [Int.toNat_natCast, e31]
      refine b_iret rfl rfl ?_
      exact qI (k1 s rfl hs _ hS) (by simp [*]) rfl
    by_cases s44_3 : w = 3
    · refine b_tswIn (tgt := 122) rfl (by omega) (by omega) (by rw [s44_3]; rfl) rfl ?_
      refine b_aload_n rfl rfl ?_
      refine b_getR (r := 27) rfl fl11_37 rfl (by decide) rfl rfl ?_
      refine b_getR (r := 28) rfl fl11_208 rfl (by decide) rfl rfl ?_
      refine b_iconst rfl (by decide) ?_
      refine b_ialdL (k := 3) rfl rfl rfl (by decide) ?_
      refine b_iret rfl rfl ?_
      exact qI (k1 s rfl hs _ hS) (by simp [*]) rfl
    by_cases s44_4 : w = 4
    · refine b_tswIn (tgt := 132) rfl (by omega) (by omega) (by rw [s44_4]; rfl) rfl ?_
      refine b_aload_n rfl rfl ?_
      refine b_getR (r := 27) rfl fl11_37 rfl (by decide) rfl rfl ?_
      refine b_getR (r := 28) rfl fl11_208 rfl (by decide) rfl rfl ?_
      refine b_iconst rfl (by decide) ?_
      refine b_ialdL (k := 4) rfl rfl rfl (by decide) ?_
      refine b_iret rfl rfl ?_
      exact qI (k1 s rfl hs _ hS) (by simp [*]) rfl
    by_cases s44_5 : w = 5
    · refine b_tswIn (tgt := 142) rfl (by omega) (by omega) (by rw [s44_5]; rfl) rfl ?_
      refine b_aload_n rfl rfl ?_
      refine b_getR (r := 27) rfl fl11_37 rfl (by decide) rfl rfl ?_
      refine b_getR (r := 28) rfl fl11_208 rfl (by decide) rfl rfl ?_
      refine b_bipush rfl (by decide) ?_
      refine b_ialdL (k := 6) rfl rfl rfl (by decide) ?_
      refine b_iret rfl rfl ?_
      exact qI (k1 s rfl hs _ hS) (by simp [*]) rfl
    by_cases s44_6 : w = 6
    · refine b_tswIn (tgt := 153) rfl (by omega) (by omega) (by rw [s44_6]; rfl) rfl ?_
      refine b_aload_n rfl rfl ?_
      refine b_getR (r := 27) rfl fl11_37 rfl (by decide) rfl rfl ?_
      refine b_getR (r := 28) rfl fl11_208 rfl (by decide) rfl rfl ?_
      refine b_bipush rfl (by decide) ?_
      refine b_ialdL (k := 7) rfl rfl rfl (by decide) ?_
      refine b_iret rfl rfl ?_
      exact qI (k1 s rfl hs _ hS) (by simp [*]) rfl
    by_cases s44_7 : w = 7
    · refine b_tswIn (tgt := 164) rfl (by omega) (by omega) (by rw [s44_7]; rfl) rfl ?_
      refine b_aload_n rfl rfl ?_
      refine b_getR (r := 27) rfl fl11_37 rfl (by decide) rfl rfl ?_
      refine b_iload_n rfl rfl ?_
      refine b_callV1i (ν := MX5_level) rfl ml11_211 cvX5_level (d' := 2) (by omega) rfl (by decide) rfl (Nat.le_of_ble_eq_true rfl) ?_
      refine spa_level hW.1 hL hs (by have := t_in hW.1.1 hW.b5 hs; omega) (fun hl => ?_) (fun hl => ?_)
      · refine ⟨_, rfl, ?_⟩
        refine b_if_eq (tgt := 179) rfl rfl (fun z => absurd z (by decide)) (fun _ => ?_)
        refine b_iconst rfl (by decide) ?_
        refine b_goto (tgt := 180) rfl rfl ?_
        refine b_iret rfl rfl ?_
        first | exact qI (k1 s rfl hs _ hS) (by simp [s44_7]; exact pI_1 hl) rfl | exact qI (k1 s rfl hs _ hS) (by simp [s44_7]; exact pI_0 hl) rfl
      · refine ⟨_, rfl, ?_⟩
        refine b_if_eq (tgt := 179) rfl rfl (fun _ => ?_) (fun z => absurd z (by decide))
        refine b_iconst rfl (by decide) ?_
        refine b_iret rfl rfl ?_
        first | exact qI (k1 s rfl hs _ hS) (by simp [s44_7]; exact pI_1 hl) rfl | exact qI (k1 s rfl hs _ hS) (by simp [s44_7]; exact pI_0 hl) rfl
    refine b_tswOut (tgt := 181) rfl (by omega) rfl ?_
    refine b_iconst rfl (by decide) ?_
    refine b_iret rfl rfl ?_
    exact qI (k1 s rfl hs _ hS) (by simp [*]) rfl
  · refine ⟨_, rfl, ?_⟩
    refine b_if_ne (tgt := 14) rfl rfl (fun z => absurd z (by decide)) (fun _ => ?_)
    refine b_iconst rfl (by decide) ?_
    refine b_iret rfl rfl ?_
    exact k0 hk
def nS (I : HI) : Nat := (I 4 1).toNat
def sfP (I : HI) (C : Nat → List Int) (h : Int) (b : Nat) : Nat → Prop := fun s => SF I C h 32 s b
theorem nS_in {I : HI} (hp : pOK I) : nS I ≤ 6 ∧ (nS I : Int) = I 4 1 := by
  have := hp.1 1 (by decide)
  unfold nS
  omega
theorem sp_X11_safeShips {I : HI} {Q : Option AV → HI → Prop} {C : Nat → List Int} {b : Nat} (hW : WF I C) (hb : (b : Int) < I 4 2) (kq : ∀ K, Sc I K → Q (some (aI ((bN (sfP I C (I 30 5) b) (nS I) : Nat) : Int))) K) : Rj MX11_safeShips 5 [aR 0, aI (b : Int)] I Q := by
  have r := hW.2.2.1
  obtain ⟨n6, n1⟩ := nS_in hW.1.1
  refine rj_of okX11_safeShips (Nat.le_of_ble_eq_true rfl) rfl ?_
  have lp : ∀ (n i : Nat) (J : HI) (y z : Int), At I J C (I 30 5) → z = (i : Int) → i + n = nS I → y = ((bN (sfP I C (I 30 5) b) i : Nat) : Int) → Bj MX11_safeShips 5 18 [some (aR 0), some (aI (b : Int)), some (aI y), some (aI z)] [] J Q := by
    intro n
    induction n with
    | zero =>
      intro i J y z hA hz hi hy
      have e4 : J 4 1 = I 4 1 := by rw [hA.1.1 4 (by decide) (by decide)]
      refine b_iload_n rfl rfl ?_
      refine b_aload_n rfl rfl ?_
      refine b_getR (r := 3) rfl fl11_19 rfl (by decide) rfl rfl ?_
      refine b_getR (r := 4) rfl fl11_150 rfl (by decide) rfl rfl ?_
      refine b_iconst rfl (by decide) ?_
      refine b_ialdL (k := 1) rfl rfl rfl (by decide) ?_
      refine b_icmp_ge (tgt := 70) rfl rfl (fun c28 => ?_) (fun c28 => ?_)
      · refine b_iload_n rfl rfl ?_
        refine b_iret rfl rfl ?_
        exact qI (kq _ hA.1) (by rw [hy]; congr 2; omega) rfl
      · omega
    | succ n ih =>
      intro i J y z hA hz hi hy
      subst hz
      have e4 : J 4 1 = I 4 1 := by rw [hA.1.1 4 (by decide) (by decide)]
      have hs : (i : Int) < I 4 1 := by omega
      refine b_iload_n rfl rfl ?_
      refine b_aload_n rfl rfl ?_
      refine b_getR (r := 3) rfl fl11_19 rfl (by decide) rfl rfl ?_
      refine b_getR (r := 4) rfl fl11_150 rfl (by decide) rfl rfl ?_
      refine b_iconst rfl (by decide) ?_
      refine b_ialdL (k := 1) rfl rfl rfl (by decide) ?_
      refine b_icmp_ge (tgt := 70) rfl rfl (fun c28 => ?_) (fun c28 => ?_)
      · omega
      · refine b_aload_n rfl rfl ?_
        refine b_getR (r := 27) rfl fl11_37 rfl (by decide) rfl rfl ?_
        refine b_aload_n rfl rfl ?_
        refine b_getR (r := 30) rfl fl11_44 rfl (by decide) rfl rfl ?_
        refine b_getR (r := 32) rfl fl11_198 rfl (by decide) rfl rfl ?_
        refine b_iload_n rfl rfl ?_
        refine b_callV2v (ν := MX5_look) rfl ml11_201 cvX5_look (d' := 4) (by omega) rfl (by decide) rfl (Nat.le_of_ble_eq_true rfl) ?_
        refine spa_look_32 hW.1 hA hW.b5 hs (fun K hL => ?_)
        refine ⟨rfl, ?_⟩
        refine b_aload_n rfl rfl ?_
        refine b_getR (r := 27) rfl fl11_37 rfl (by decide) rfl rfl ?_
        refine b_iload_n rfl rfl ?_
        refine b_iload_n rfl rfl ?_
        refine b_callV2i (ν := MX5_safe) rfl ml11_233 cvX5_safe (d' := 3) (by omega) rfl (by decide) rfl (Nat.le_of_ble_eq_true rfl) ?_
        refine spa_safe hW.1 hL hs hb (by have := t_in hW.1.1 hW.b5 hs; omega) (fun hf => ?_) (fun hf => ?_)
        · refine ⟨_, rfl, ?_⟩
          refine b_if_eq (tgt := 64) rfl rfl (fun z => absurd z (by decide)) (fun _ => ?_)
          refine b_iload_n rfl rfl ?_
          refine b_iconst rfl (by decide) ?_
          refine b_iload_n rfl rfl ?_
          refine b_ishl rfl ?_
          refine b_ior rfl ?_
          refine b_istoreX_n (F := fun z63 => [some (aR 0), some (aI (b : Int)), some (aI z63), some (aI (i : Int))]) rfl (by decide) (fun _ => rfl) (fun z63 ez63 => ?_)
          refine b_iincX (F := fun z64 => [some (aR 0), some (aI (b : Int)), some (aI z63), some (aI z64)]) rfl rfl (by omega) (by omega) (fun _ => rfl) (fun z64 ez64 => ?_)
          refine b_goto (tgt := 18) rfl rfl ?_
          first
          | exact ih (i + 1) _ _ _ hL.1 (by omega) (by omega) (by rw [bN_0 (p := sfP I C (I 30 5) b) hf]; exact hy)
          | exact ih (i + 1) _ _ _ hL.1 (by omega) (by omega) (by rw [bN_1 (p := sfP I C (I 30 5) b) hf, ← or_new (by omega) (bN_lt i), ← hy]; assumption)
        · refine ⟨_, rfl, ?_⟩
          refine b_if_eq (tgt := 64) rfl rfl (fun _ => ?_) (fun z => absurd z (by decide))
          refine b_iincX (F := fun z64 => [some (aR 0), some (aI (b : Int)), some (aI y), some (aI z64)]) rfl rfl (by omega) (by omega) (fun _ => rfl) (fun z64 ez64 => ?_)
          refine b_goto (tgt := 18) rfl rfl ?_
          first
          | exact ih (i + 1) _ _ _ hL.1 (by omega) (by omega) (by rw [bN_0 (p := sfP I C (I 30 5) b) hf]; exact hy)
          | exact ih (i + 1) _ _ _ hL.1 (by omega) (by omega) (by rw [bN_1 (p := sfP I C (I 30 5) b) hf, ← or_new (by omega) (bN_lt i), ← hy]; assumption)
  refine b_aload_n rfl rfl ?_
  refine b_getR (r := 27) rfl fl11_37 rfl (by decide) rfl rfl ?_
  refine b_aload_n rfl rfl ?_
  refine b_getR (r := 30) rfl fl11_44 rfl (by decide) rfl rfl ?_
  refine b_getI rfl fl11_153 rfl (by decide) rfl ?_
  refine b_callV1v (ν := MX5_atHour) rfl ml11_195 cvX5_atHour (d' := 3) (by omega) rfl (by decide) rfl (Nat.le_of_ble_eq_true rfl) ?_
  refine spa_atHour hW.1 (Sc.rf hW.2.1) (by omega) (fun K hA => ?_)
  refine ⟨rfl, ?_⟩
  refine b_iconst rfl (by decide) ?_
  refine b_istoreX_n (F := fun z15 => [some (aR 0), some (aI (b : Int)), some (aI z15), none]) rfl (by decide) (fun _ => rfl) (fun z15 ez15 => ?_)
  refine b_iconst rfl (by decide) ?_
  refine b_istoreX_n (F := fun z17 => [some (aR 0), some (aI (b : Int)), some (aI z15), some (aI z17)]) rfl (by decide) (fun _ => rfl) (fun z17 ez17 => ?_)
  exact lp (nS I) 0 _ _ _ hA (by omega) (by omega) (by simp [bN]; omega)
noncomputable def beV (I : HI) (C : Nat → List Int) (b : Nat) (w : Int) : Int := if w = 0 then I 6 (12 + b) else if w = 1 then I 7 (12 + b) else if w = 2 then fi (I 31) (b : Int) 6 0 else if w = 3 then ((bN (sfP I C (I 30 5) b) (nS I) : Nat) : Int) else -1
theorem sp_X11_berth {I : HI} {Q : Option AV → HI → Prop} {C : Nat → List Int} {a w : Int} (hW : WF I C) (k1 : ∀ b : Nat, a = (b : Int) → (b : Int) < I 4 2 → ∀ K, Sc I K → Q (some (aI (beV I C b w))) K) (k0 : ¬ kO I 4 2 a → Q (some (aI (-1))) I) : Rj MX11_berth 6 [aR 0, aI a, aI w] I Q := by
  have rr := Sc.rf hW.2.1
  unfold beV at k1
  refine rj_of okX11_berth (Nat.le_of_ble_eq_true rfl) rfl ?_
  refine b_aload_n rfl rfl ?_
  refine b_getR (r := 3) rfl fl11_19 rfl (by decide) rfl rfl ?_
  refine b_iconst rfl (by decide) ?_
  refine b_iload_n rfl rfl ?_
  refine b_callV2i (ν := MX3_knows) rfl ml11_175 cvX3_knows (d' := 0) (by omega) rfl (by decide) rfl (Nat.le_of_ble_eq_true rfl) ?_
  refine spf_knows (fun hk => ?_) (fun hk => ?_)
  · refine ⟨_, rfl, ?_⟩
    refine b_if_ne (tgt := 14) rfl rfl (fun _ => ?_) (fun z => absurd z (by decide))
    have h2 := hk.2.2
    obtain ⟨b, rfl⟩ : ∃ b : Nat, a = (b : Int) := ⟨a.toNat, by omega⟩
    have hb : (b : Int) < I 4 2 := h2.2
    have f6 := fo_berth (f := 6) hb
    have f7 := fo_berth (f := 7) hb
    refine b_iload_n rfl rfl ?_
    by_cases s15_0 : w = 0
    · refine b_tswIn (tgt := 44) rfl (by omega) (by omega) (by rw [s15_0]; rfl) rfl ?_
      refine b_aload_n rfl rfl ?_
      refine b_getR (r := 3) rfl fl11_19 rfl (by decide) rfl rfl ?_
      refine b_iconst rfl (by decide) ?_
      refine b_iload_n rfl rfl ?_
      refine b_callV2i (ν := MX3_firstOf) rfl ml11_185 cvX3_firstOf (d' := 1) (by omega) rfl (by decide) rfl (Nat.le_of_ble_eq_true rfl) ?_
      refine sp_X3_firstOf_3 hW.1.1.1 ?_
      rw [f6]
      refine ⟨_, rfl, ?_⟩
      refine b_iret rfl rfl ?_
      exact qI (k1 b rfl hb _ rr) (by simp [*]) rfl
    by_cases s15_1 : w = 1
    · refine b_tswIn (tgt := 54) rfl (by omega) (by omega) (by rw [s15_1]; rfl) rfl ?_
      refine b_aload_n rfl rfl ?_
      refine b_getR (r := 3) rfl fl11_19 rfl (by decide) rfl rfl ?_
      refine b_iconst rfl (by decide) ?_
      refine b_iload_n rfl rfl ?_
      refine b_callV2i (ν := MX3_secondOf) rfl ml11_189 cvX3_secondOf (d' := 1) (by omega) rfl (by decide) rfl (Nat.le_of_ble_eq_true rfl) ?_
      refine sp_X3_secondOf_3 hW.1.1.1 ?_
      rw [f7]
      refine ⟨_, rfl, ?_⟩
      refine b_iret rfl rfl ?_
      exact qI (k1 b rfl hb _ rr) (by simp [*]) rfl
    by_cases s15_2 : w = 2
    · refine b_tswIn (tgt := 64) rfl (by omega) (by omega) (by rw [s15_2]; rfl) rfl ?_
      refine b_aload_n rfl rfl ?_
      refine b_getR (r := 30) rfl fl11_44 rfl (by decide) rfl rfl ?_
      refine b_iload_n rfl rfl ?_
      refine b_callV1i (ν := MX7_shipIn) rfl ml11_227 cvX7_shipIn (d' := 0) (by omega) rfl (by decide) rfl (Nat.le_of_ble_eq_true rfl) ?_
      refine sp_X7_shipIn_30 ?_
      refine ⟨_, rfl, ?_⟩
      refine b_iret rfl rfl ?_
      exact qI (k1 b rfl hb _ rr) (by simp [*]) rfl
    by_cases s15_3 : w = 3
    · refine b_tswIn (tgt := 73) rfl (by omega) (by omega) (by rw [s15_3]; rfl) rfl ?_
      refine b_aload_n rfl rfl ?_
      refine b_iload_n rfl rfl ?_
      refine b_callV1i (ν := MX11_safeShips) rfl ml11_230 cvX11_safeShips (d' := 5) (by omega) rfl (by decide) rfl (Nat.le_of_ble_eq_true rfl) ?_
      refine sp_X11_safeShips hW hb (fun K hS => ?_)
      refine ⟨_, rfl, ?_⟩
      refine b_iret rfl rfl ?_
      exact qI (k1 b rfl hb _ hS) (by simp [*]) rfl
    refine b_tswOut (tgt := 79) rfl (by omega) rfl ?_
    refine b_iconst rfl (by decide) ?_
    refine b_iret rfl rfl ?_
    exact qI (k1 b rfl hb _ rr) (by simp [*]) rfl
  · refine ⟨_, rfl, ?_⟩
    refine b_if_ne (tgt := 14) rfl rfl (fun z => absurd z (by decide)) (fun _ => ?_)
    refine b_iconst rfl (by decide) ?_
    refine b_iret rfl rfl ?_
    exact k0 hk
def unP (I : HI) (C : Nat → List Int) (h : Int) : Nat → Prop := fun s => I 31 s ≠ -1 ∧ ¬ SF I C h 32 s (I 31 s).toNat
noncomputable def fU (I : HI) (C : Nat → List Int) (h : Int) : Int := fP (unP I C h) (nS I) 0
theorem sp_X11_firstUnsafe {I J0 : HI} {Q : Option AV → HI → Prop} {C : Nat → List Int} {h : Int} (hW : WF I C) (hS0 : Sc I J0) (hh : 0 ≤ h ∧ h ≤ 100000) (kq : ∀ K, Sc I K → Q (some (aI (fU I C h))) K) : Rj MX11_firstUnsafe 6 [aR 0, aI h] J0 Q := by
  obtain ⟨n6, n1⟩ := nS_in hW.1.1
  refine rj_of okX11_firstUnsafe (Nat.le_of_ble_eq_true rfl) rfl ?_
  have lp : ∀ (n i : Nat) (J : HI) (z : Int), At I J C h → z = (i : Int) → i + n = nS I → (∀ K, Sc I K → Q (some (aI (fP (unP I C h) n i))) K) → Bj MX11_firstUnsafe 6 10 [some (aR 0), some (aI h), some (aI z)] [] J Q := by
    intro n
    induction n with
    | zero =>
      intro i J z hA hz hi hk
      have e4 : J 4 1 = I 4 1 := by rw [hA.1.1 4 (by decide) (by decide)]
      refine b_iload_n rfl rfl ?_
      refine b_aload_n rfl rfl ?_
      refine b_getR (r := 3) rfl fl11_19 rfl (by decide) rfl rfl ?_
      refine b_getR (r := 4) rfl fl11_150 rfl (by decide) rfl rfl ?_
      refine b_iconst rfl (by decide) ?_
      refine b_ialdL (k := 1) rfl rfl rfl (by decide) ?_
      refine b_icmp_ge (tgt := 52) rfl rfl (fun c20 => ?_) (fun c20 => ?_)
      · refine b_iconst rfl (by decide) ?_
        refine b_iret rfl rfl ?_
        exact hk _ hA.1
      · omega
    | succ n ih =>
      intro i J z hA hz hi hk
      subst hz
      have e4 : J 4 1 = I 4 1 := by rw [hA.1.1 4 (by decide) (by decide)]
      have hs : (i : Int) < I 4 1 := by omega
      have hl := hW.2.2.2.2 i hs
      have e31 : J 31 = I 31 := hA.1.1 31 (by decide) (by decide)
      have hk' : ∀ K, Sc I K → Q (some (aI (pI (unP I C h i) (i : Int) (fP (unP I C h) n (i + 1))))) K := hk
      refine b_iload_n rfl rfl ?_
      refine b_aload_n rfl rfl ?_
      refine b_getR (r := 3) rfl fl11_19 rfl (by decide) rfl rfl ?_
      refine b_getR (r := 4) rfl fl11_150 rfl (by decide) rfl rfl ?_
      refine b_iconst rfl (by decide) ?_
      refine b_ialdL (k := 1) rfl rfl rfl (by decide) ?_
      refine b_icmp_ge (tgt := 52) rfl rfl (fun c20 => ?_) (fun c20 => ?_)
      · omega
      · refine b_aload_n rfl rfl ?_
        refine b_getR (r := 30) rfl fl11_44 rfl (by decide) rfl rfl ?_
        refine b_getR (r := 31) rfl fl11_205 rfl (by decide) rfl rfl ?_
        refine b_iload_n rfl rfl ?_
        refine b_iald rfl rfl (by omega) (by omega) ?_
        rw [Int.toNat_natCast, e31]
        refine b_iconst rfl (by decide) ?_
        refine b_icmp_eq (tgt := 46) rfl rfl (fun c33 => ?_) (fun c33 => ?_)
        · refine b_iincX (F := fun z46 => [some (aR 0), some (aI h), some (aI z46)]) rfl rfl (by omega) (by omega) (fun _ => rfl) (fun z46 ez46 => ?_)
          refine b_goto (tgt := 10) rfl rfl ?_
          first
          | exact ih (i + 1) _ _ hA (by omega) (by omega) (fun K hK => qI (hk' _ hK) (pI_0 (fun w => w.1 (by omega))) rfl)
          | exact ih (i + 1) _ _ hB (by omega) (by omega) (fun K hK => qI (hk' _ hK) (pI_0 (fun w => w.2 hf)) rfl)
        · refine b_aload_n rfl rfl ?_
          refine b_iload_n rfl rfl ?_
          refine b_callV1i (ν := MX11_isSafe) rfl ml11_242 cvX11_isSafe (d' := 5) (by omega) rfl (by decide) rfl (Nat.le_of_ble_eq_true rfl) ?_
          refine spa_isSafe (b := (I 31 i).toNat) hW.1 hA hW.2.2.2.1 hs (by omega) (by omega) (fun hf K hB => ?_) (fun hf K hB => ?_)
          · refine ⟨_, rfl, ?_⟩
            refine b_if_ne (tgt := 46) rfl rfl (fun _ => ?_) (fun z => absurd z (by decide))
            refine b_iincX (F := fun z46 => [some (aR 0), some (aI h), some (aI z46)]) rfl rfl (by omega) (by omega) (fun _ => rfl) (fun z46 ez46 => ?_)
            refine b_goto (tgt := 10) rfl rfl ?_
            first
            | exact ih (i + 1) _ _ hA (by omega) (by omega) (fun K hK => qI (hk' _ hK) (pI_0 (fun w => w.1 (by omega))) rfl)
            | exact ih (i + 1) _ _ hB (by omega) (by omega) (fun K hK => qI (hk' _ hK) (pI_0 (fun w => w.2 hf)) rfl)
          · refine ⟨_, rfl, ?_⟩
            refine b_if_ne (tgt := 46) rfl rfl (fun z => absurd z (by decide)) (fun _ => ?_)
            refine b_iload_n rfl rfl ?_
            refine b_iret rfl rfl ?_
            exact qI (hk' _ hB.1) (pI_1 ⟨by omega, hf⟩) rfl
  refine b_aload_n rfl rfl ?_
  refine b_getR (r := 27) rfl fl11_37 rfl (by decide) rfl rfl ?_
  refine b_iload_n rfl rfl ?_
  refine b_callV1v (ν := MX5_atHour) rfl ml11_195 cvX5_atHour (d' := 3) (by omega) rfl (by decide) rfl (Nat.le_of_ble_eq_true rfl) ?_
  refine spa_atHour hW.1 hS0 hh (fun K hA => ?_)
  refine ⟨rfl, ?_⟩
  refine b_iconst rfl (by decide) ?_
  refine b_istoreX_n (F := fun z9 => [some (aR 0), some (aI h), some (aI z9)]) rfl (by decide) (fun _ => rfl) (fun z9 ez9 => ?_)
  exact lp (nS I) 0 _ _ hA (by omega) (by omega) kq
