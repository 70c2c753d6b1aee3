/-! ===== WrongTide: adrift, alike, and the acts upon crates and berths ===== -/
def lm (I : HI) : Nat := (min 200 (9999 - I 30 5)).toNat
noncomputable def adN (I : HI) (C : Nat → List Int) (f n : Nat) : Int := fP (fun n => fU I C (I 30 5 + n) ≠ -1) f n
noncomputable def adV (I : HI) (C : Nat → List Int) (w : Int) (f n : Nat) : Int := if adN I C f n = -1 then -1 else if w = 0 then adN I C f n else fU I C (I 30 5 + adN I C f n)
theorem adV_1 {I : HI} {C : Nat → List Int} {w : Int} {f n : Nat} (h : fU I C (I 30 5 + n) ≠ -1) : adV I C w (f + 1) n = if w = 0 then (n : Int) else fU I C (I 30 5 + n) := by
  have e : adN I C (f + 1) n = (n : Int) := pI_1 h
  unfold adV
  rw [e, if_neg (by omega)]
theorem adV_0 {I : HI} {C : Nat → List Int} {w : Int} {f n : Nat} (h : fU I C (I 30 5 + n) = -1) : adV I C w (f + 1) n = adV I C w f (n + 1) := by
  have e : adN I C (f + 1) n = adN I C f (n + 1) := pI_0 (fun g => g h)
  unfold adV
  rw [e]
theorem sp_X11_adrift {I : HI} {Q : Option AV → HI → Prop} {C : Nat → List Int} {w : Int} (hW : WF I C) (kq : ∀ K, Sc I K → Q (some (aI (if w = 0 ∨ w = 1 then adV I C w (lm I) 1 else -1))) K) : Rj MX11_adrift 7 [aR 0, aI w] I Q := by
  have r := hW.2.2.1
  have rr := Sc.rf hW.2.1
  have e5 : (lm I : Int) = min 200 (9999 - I 30 5) := by unfold lm; omega
  refine rj_of okX11_adrift (Nat.le_of_ble_eq_true rfl) rfl ?_
  have lp : ∀ (f n : Nat) (J : HI) (z : Int) (x : Option AV), (w = 0 ∨ w = 1) → Sc I J → z = (n : Int) → n + f = lm I + 1 → (∀ K, Sc I K → Q (some (aI (adV I C w f n))) K) → Bj MX11_adrift 7 13 [some (aR 0), some (aI w), some (aI z), x] [] J Q := by
    intro f
    induction f with
    | zero =>
      intro n J z x hw hA hz hi hk
      have e30 : J 30 5 = I 30 5 := by rw [hA.1 30 (by decide) (by decide)]
      refine b_iload_n rfl rfl ?_
      refine b_sipush rfl (by decide) ?_
      refine b_icmp_gt (tgt := 70) rfl rfl (fun c17 => ?_) (fun c17 => ?_)
      · refine b_iconst rfl (by decide) ?_
        refine b_iret rfl rfl ?_
        exact hk _ hA
      · refine b_aload_n rfl rfl ?_
        refine b_getR (r := 30) rfl fl11_44 rfl (by decide) rfl rfl ?_
        refine b_getI rfl fl11_153 rfl (by decide) rfl ?_
        refine b_iload_n rfl rfl ?_
        refine b_iaddN rfl (by omega) (by omega) ?_
        refine b_sipush rfl (by decide) ?_
        refine b_icmp_gt (tgt := 70) rfl rfl (fun c32 => ?_) (fun c32 => ?_)
        · refine b_iconst rfl (by decide) ?_
          refine b_iret rfl rfl ?_
          exact hk _ hA
        · omega
    | succ f ih =>
      intro n J z x hw hA hz hi hk
      subst hz
      have e30 : J 30 5 = I 30 5 := by rw [hA.1 30 (by decide) (by decide)]
      refine b_iload_n rfl rfl ?_
      refine b_sipush rfl (by decide) ?_
      refine b_icmp_gt (tgt := 70) rfl rfl (fun c17 => ?_) (fun c17 => ?_)
      · omega
      · refine b_aload_n rfl rfl ?_
        refine b_getR (r := 30) rfl fl11_44 rfl (by decide) rfl rfl ?_
        refine b_getI rfl fl11_153 rfl (by decide) rfl ?_
        refine b_iload_n rfl rfl ?_
        refine b_iaddN rfl (by omega) (by omega) ?_
        refine b_sipush rfl (by decide) ?_
        refine b_icmp_gt (tgt := 70) rfl rfl (fun c32 => ?_) (fun c32 => ?_)
        · omega
        · refine b_aload_n rfl rfl ?_
          refine b_aload_n rfl rfl ?_
          refine b_getR (r := 30) rfl fl11_44 rfl (by decide) rfl rfl ?_
          refine b_getI rfl fl11_153 rfl (by decide) rfl ?_
          rw [e30]
          refine b_iload_n rfl rfl ?_
          refine b_iaddN rfl (by omega) (by omega) ?_
          refine b_callV1i (ν := MX11_firstUnsafe) rfl ml11_239 cvX11_firstUnsafe (d' := 6) (by omega) rfl (by decide) rfl (Nat.le_of_ble_eq_true rfl) ?_
          refine sp_X11_firstUnsafe hW hA (by omega) (fun K hS => ?_)
          refine ⟨_, rfl, ?_⟩
          refine b_istoreX_n (F := fun z48 => [some (aR 0), some (aI w), some (aI (n : Int)), some (aI z48)]) rfl (by decide) (fun _ => rfl) (fun z48 ez48 => ?_)
          have es : z48 = fU I C (I 30 5 + n) := ez48
          refine b_iload_n rfl rfl ?_
          refine b_iconst rfl (by decide) ?_
          refine b_icmp_eq (tgt := 64) rfl rfl (fun c51 => ?_) (fun c51 => ?_)
          · refine b_iincX (F := fun z64 => [some (aR 0), some (aI w), some (aI z64), some (aI z48)]) rfl rfl (by omega) (by omega) (fun _ => rfl) (fun z64 ez64 => ?_)
            refine b_goto (tgt := 13) rfl rfl ?_
            exact ih (n + 1) _ _ _ hw hS (by omega) (by omega) (fun K hK => qI (hk _ hK) (adV_0 (by rw [← es]; omega)) rfl)
          · refine b_iload_n rfl rfl ?_
            refine b_if_ne (tgt := 62) rfl rfl (fun c55 => ?_) (fun c55 => ?_)
            · refine b_iload_n rfl rfl ?_
              refine b_iret rfl rfl ?_
              first
              | exact qI (hk _ hS) (by rw [adV_1 (by rw [← es]; omega), if_pos (by omega)]) rfl
              | exact qI (hk _ hS) (by rw [adV_1 (by rw [← es]; omega), if_neg (by omega), es]) rfl
            · refine b_iload_n rfl rfl ?_
              refine b_goto (tgt := 63) rfl rfl ?_
              refine b_iret rfl rfl ?_
              first
              | exact qI (hk _ hS) (by rw [adV_1 (by rw [← es]; omega), if_pos (by omega)]) rfl
              | exact qI (hk _ hS) (by rw [adV_1 (by rw [← es]; omega), if_neg (by omega), es]) rfl
  refine b_iload_n rfl rfl ?_
  refine b_if_eq (tgt := 11) rfl rfl (fun c1 => ?_) (fun c1 => ?_)
  · refine b_iconst rfl (by decide) ?_
    refine b_istoreX_n (F := fun z12 => [some (aR 0), some (aI w), some (aI z12), none]) rfl (by decide) (fun _ => rfl) (fun z12 ez12 => ?_)
    exact lp (lm I) 1 _ _ _ (by omega) rr (by omega) (by omega) (fun K hK => qI (kq _ hK) (if_pos (by omega)) rfl)
  · refine b_iload_n rfl rfl ?_
    refine b_iconst rfl (by decide) ?_
    refine b_icmp_eq (tgt := 11) rfl rfl (fun c6 => ?_) (fun c6 => ?_)
    · refine b_iconst rfl (by decide) ?_
      refine b_istoreX_n (F := fun z12 => [some (aR 0), some (aI w), some (aI z12), none]) rfl (by decide) (fun _ => rfl) (fun z12 ez12 => ?_)
      exact lp (lm I) 1 _ _ _ (by omega) rr (by omega) (by omega) (fun K hK => qI (kq _ hK) (if_pos (by omega)) rfl)
    · refine b_iconst rfl (by decide) ?_
      refine b_iret rfl rfl ?_
      exact qI (kq _ rr) (if_neg (by omega)) rfl
def akP (I : HI) (C : Nat → List Int) (s t : Nat) : Nat → Prop := fun n => hS_ I C (I 30 5 + n) 32 t = hS_ I C (I 30 5 + n) 32 s
theorem kP_s {p : Nat → Prop} {k t : Int} {f n : Nat} : kP p k (f + 1) n t = pI (p n) (if t = k then (n : Int) else kP p k f (n + 1) (t + 1)) (kP p k f (n + 1) t) := rfl
theorem sp_X11_alike {I : HI} {Q : Option AV → HI → Prop} {C : Nat → List Int} {a b k : Int} (hW : WF I C) (k1 : ∀ s t : Nat, a = (s : Int) → b = (t : Int) → (s : Int) < I 4 1 → (t : Int) < I 4 1 → a ≠ b → 0 ≤ k → ∀ K, Sc I K → Q (some (aI (kP (akP I C s t) k (lm I + 1) 0 0))) K) (k0 : ¬ (kO I 4 1 a ∧ kO I 4 1 b ∧ a ≠ b ∧ 0 ≤ k) → Q (some (aI (-1))) I) : Rj MX11_alike 5 [aR 0, aI a, aI b, aI k] I Q := by
  have r := hW.2.2.1
  have rr := Sc.rf hW.2.1
  have e5 : (lm I : Int) = min 200 (9999 - I 30 5) := by unfold lm; omega
  refine rj_of okX11_alike (Nat.le_of_ble_eq_true rfl) rfl ?_
  have lp : ∀ (s t f n : Nat) (J : HI) (y z : Int) (x : Option AV), (s : Int) < I 4 1 → (t : Int) < I 4 1 → Sc I J → z = (n : Int) → n + f = lm I + 1 → 0 ≤ y ∧ y ≤ n → (∀ K, Sc I K → Q (some (aI (kP (akP I C s t) k f n y))) K) → Bj MX11_alike 5 41 [some (aR 0), some (aI (s : Int)), some (aI (t : Int)), some (aI k), some (aI y), some (aI z), x] [] J Q := by
    intro s t f
    induction f with
    | zero =>
      intro n J y z x hs ht hA hz hi hy hk
      have e30 : J 30 5 = I 30 5 := by rw [hA.1 30 (by decide) (by decide)]
      refine b_iload rfl rfl ?_
      refine b_sipush rfl (by decide) ?_
      refine b_icmp_gt (tgt := 157) rfl rfl (fun c46 => ?_) (fun c46 => ?_)
      · refine b_iconst rfl (by decide) ?_
        refine b_iret rfl rfl ?_
        exact hk _ hA
      · refine b_aload_n rfl rfl ?_
        refine b_getR (r := 30) rfl fl11_44 rfl (by decide) rfl rfl ?_
        refine b_getI rfl fl11_153 rfl (by decide) rfl ?_
        refine b_iload rfl rfl ?_
        refine b_iaddN rfl (by omega) (by omega) ?_
        refine b_sipush rfl (by decide) ?_
        refine b_icmp_gt (tgt := 157) rfl rfl (fun c62 => ?_) (fun c62 => ?_)
        · refine b_iconst rfl (by decide) ?_
          refine b_iret rfl rfl ?_
          exact hk _ hA
        · omega
    | succ f ih =>
      intro n J y z x hs ht hA hz hi hy hk
      subst hz
      have e30 : J 30 5 = I 30 5 := by rw [hA.1 30 (by decide) (by decide)]
      have hk' : ∀ K, Sc I K → Q (some (aI (pI (akP I C s t n) (if y = k then (n : Int) else kP (akP I C s t) k f (n + 1) (y + 1)) (kP (akP I C s t) k f (n + 1) y)))) K := hk
      refine b_iload rfl rfl ?_
      refine b_sipush rfl (by decide) ?_
      refine b_icmp_gt (tgt := 157) rfl rfl (fun c46 => ?_) (fun c46 => ?_)
      · omega
      · refine b_aload_n rfl rfl ?_
        refine b_getR (r := 30) rfl fl11_44 rfl (by decide) rfl rfl ?_
        refine b_getI rfl fl11_153 rfl (by decide) rfl ?_
        refine b_iload rfl rfl ?_
        refine b_iaddN rfl (by omega) (by omega) ?_
        refine b_sipush rfl (by decide) ?_
        refine b_icmp_gt (tgt := 157) rfl rfl (fun c62 => ?_) (fun c62 => ?_)
        · omega
        · refine b_aload_n rfl rfl ?_
          refine b_getR (r := 27) rfl fl11_37 rfl (by decide) rfl rfl ?_
          refine b_aload_n rfl rfl ?_
          refine b_getR (r := 30) rfl fl11_44 rfl (by decide) rfl rfl ?_
          refine b_getI rfl fl11_153 rfl (by decide) rfl ?_
          rw [e30]
          refine b_iload rfl rfl ?_
          refine b_iaddN rfl (by omega) (by omega) ?_
          refine b_callV1v (ν := MX5_atHour) rfl ml11_195 cvX5_atHour (d' := 3) (by omega) rfl (by decide) rfl (Nat.le_of_ble_eq_true rfl) ?_
          refine spa_atHour hW.1 hA (by omega) (fun K hB => ?_)
          refine ⟨rfl, ?_⟩
          refine b_aload_n rfl rfl ?_
          refine b_getR (r := 27) rfl fl11_37 rfl (by decide) rfl rfl ?_
          refine b_aload_n rfl rfl ?_
          refine b_getR (r := 30) rfl fl11_44 rfl (by decide) rfl rfl ?_
          refine b_getR (r := 32) rfl fl11_198 rfl (by decide) rfl rfl ?_
          refine b_iload_n rfl rfl ?_
          refine b_callV2v (ν := MX5_look) rfl ml11_201 cvX5_look (d' := 4) (by omega) rfl (by decide) rfl (Nat.le_of_ble_eq_true rfl) ?_
          refine spa_look_32 hW.1 hB hW.b5 hs (fun K hL => ?_)
          refine ⟨rfl, ?_⟩
          refine b_aload_n rfl rfl ?_
          refine b_getR (r := 27) rfl fl11_37 rfl (by decide) rfl rfl ?_
          refine b_getR (r := 28) rfl fl11_208 rfl (by decide) rfl rfl ?_
          refine b_bipush rfl (by decide) ?_
          refine b_ialdL (k := 7) rfl rfl rfl (by decide) ?_
          refine b_istoreX (F := fun z107 => [some (aR 0), some (aI (s : Int)), some (aI (t : Int)), some (aI k), some (aI y), some (aI (n : Int)), some (aI z107)]) rfl (by decide) (fun _ => rfl) (fun z107 ez107 => ?_)
          have es : z107 = hS_ I C (I 30 5 + n) 32 s := by rw [ez107]; exact hL.2.2.2.2.2
          refine b_aload_n rfl rfl ?_
          refine b_getR (r := 27) rfl fl11_37 rfl (by decide) rfl rfl ?_
          refine b_aload_n rfl rfl ?_
          refine b_getR (r := 30) rfl fl11_44 rfl (by decide) rfl rfl ?_
          refine b_getR (r := 32) rfl fl11_198 rfl (by decide) rfl rfl ?_
          refine b_iload_n rfl rfl ?_
          refine b_callV2v (ν := MX5_look) rfl ml11_201 cvX5_look (d' := 4) (by omega) rfl (by decide) rfl (Nat.le_of_ble_eq_true rfl) ?_
          refine spa_look_32 hW.1 hL.1 hW.b5 ht (fun K hM => ?_)
          refine ⟨rfl, ?_⟩
          refine b_aload_n rfl rfl ?_
          refine b_getR (r := 27) rfl fl11_37 rfl (by decide) rfl rfl ?_
          refine b_getR (r := 28) rfl fl11_208 rfl (by decide) rfl rfl ?_
          refine b_bipush rfl (by decide) ?_
          refine b_ialdL (k := 7) rfl rfl rfl (by decide) ?_
          have e2 : _ = hS_ I C (I 30 5 + n) 32 t := hM.2.2.2.2.2
          rw [e2]
          refine b_iload rfl rfl ?_
          refine b_icmp_ne (tgt := 151) rfl rfl (fun c136 => ?_) (fun c136 => ?_)
          · refine b_iincX (F := fun z151 => [some (aR 0), some (aI (s : Int)), some (aI (t : Int)), some (aI k), some (aI y), some (aI z151), some (aI z107)]) rfl rfl (by omega) (by omega) (fun _ => rfl) (fun z151 ez151 => ?_)
            refine b_goto (tgt := 41) rfl rfl ?_
            first
            | exact ih (n + 1) _ _ _ _ hs ht hM.1.1 (by omega) (by omega) (by omega) (fun K hK => qI (hk' _ hK) (by rw [pI_1 (show akP I C s t n from by show _ = _; omega), if_neg (by omega)]; congr 1; omega) rfl)
            | exact ih (n + 1) _ _ _ _ hs ht hM.1.1 (by omega) (by omega) (by omega) (fun K hK => qI (hk' _ hK) (pI_0 (show ¬ akP I C s t n from by show ¬ (_ = _); omega)) rfl)
          · refine b_iload rfl rfl ?_
            refine b_iload_n rfl rfl ?_
            refine b_icmp_ne (tgt := 148) rfl rfl (fun c142 => ?_) (fun c142 => ?_)
            · refine b_iincX (F := fun z148 => [some (aR 0), some (aI (s : Int)), some (aI (t : Int)), some (aI k), some (aI z148), some (aI (n : Int)), some (aI z107)]) rfl rfl (by omega) (by omega) (fun _ => rfl) (fun z148 ez148 => ?_)
              refine b_iincX (F := fun z151 => [some (aR 0), some (aI (s : Int)), some (aI (t : Int)), some (aI k), some (aI z148), some (aI z151), some (aI z107)]) rfl rfl (by omega) (by omega) (fun _ => rfl) (fun z151 ez151 => ?_)
              refine b_goto (tgt := 41) rfl rfl ?_
              first
              | exact ih (n + 1) _ _ _ _ hs ht hM.1.1 (by omega) (by omega) (by omega) (fun K hK => qI (hk' _ hK) (by rw [pI_1 (show akP I C s t n from by show _ = _; omega), if_neg (by omega)]; congr 1; omega) rfl)
              | exact ih (n + 1) _ _ _ _ hs ht hM.1.1 (by omega) (by omega) (by omega) (fun K hK => qI (hk' _ hK) (pI_0 (show ¬ akP I C s t n from by show ¬ (_ = _); omega)) rfl)
            · refine b_iload rfl rfl ?_
              refine b_iret rfl rfl ?_
              exact qI (hk' _ hM.1.1) (by rw [pI_1 (show akP I C s t n from by show _ = _; omega), if_pos (by omega)]) rfl
  refine b_aload_n rfl rfl ?_
  refine b_getR (r := 3) rfl fl11_19 rfl (by decide) rfl rfl ?_
  refine b_iconst rfl (by decide) ?_
  refine b_iload_n rfl rfl ?_
  refine b_callV2i (ν := MX3_knows) rfl ml11_175 cvX3_knows (d' := 0) (by omega) rfl (by decide) rfl (Nat.le_of_ble_eq_true rfl) ?_
  refine spf_knows (fun hk => ?_) (fun hk => ?_)
  · refine ⟨_, rfl, ?_⟩
    refine b_if_eq (tgt := 33) rfl rfl (fun z => absurd z (by decide)) (fun _ => ?_)
    refine b_aload_n rfl rfl ?_
    refine b_getR (r := 3) rfl fl11_19 rfl (by decide) rfl rfl ?_
    refine b_iconst rfl (by decide) ?_
    refine b_iload_n rfl rfl ?_
    refine b_callV2i (ν := MX3_knows) rfl ml11_175 cvX3_knows (d' := 0) (by omega) rfl (by decide) rfl (Nat.le_of_ble_eq_true rfl) ?_
    refine spf_knows (fun hj => ?_) (fun hj => ?_)
    · refine ⟨_, rfl, ?_⟩
      refine b_if_eq (tgt := 33) rfl rfl (fun z => absurd z (by decide)) (fun _ => ?_)
      refine b_iload_n rfl rfl ?_
      refine b_iload_n rfl rfl ?_
      refine b_icmp_eq (tgt := 33) rfl rfl (fun c26 => ?_) (fun c26 => ?_)
      · refine b_iconst rfl (by decide) ?_
        refine b_iret rfl rfl ?_
        first | exact k0 (fun z => hk z.1) | exact k0 (fun z => hj z.2.1) | exact k0 (fun z => by have := z.2.2; omega)
      · refine b_iload_n rfl rfl ?_
        refine b_if_ge (tgt := 35) rfl rfl (fun c30 => ?_) (fun c30 => ?_)
        · refine b_iconst rfl (by decide) ?_
          refine b_istoreX (F := fun z36 => [some (aR 0), some (aI a), some (aI b), some (aI k), some (aI z36), none, none]) rfl (by decide) (fun _ => rfl) (fun z36 ez36 => ?_)
          refine b_iconst rfl (by decide) ?_
          refine b_istoreX (F := fun z39 => [some (aR 0), some (aI a), some (aI b), some (aI k), some (aI z36), some (aI z39), none]) rfl (by decide) (fun _ => rfl) (fun z39 ez39 => ?_)
          have h2 := hk.2.2
          have h3 := hj.2.2
          obtain ⟨s, rfl⟩ : ∃ s : Nat, a = (s : Int) := ⟨a.toNat, by omega⟩
          obtain ⟨t, rfl⟩ : ∃ t : Nat, b = (t : Int) := ⟨b.toNat, by omega⟩
          refine lp s t (lm I + 1) 0 _ _ _ _ h2.2 h3.2 rr (by omega) (by omega) (by omega) (fun K hK => qI (k1 s t rfl rfl h2.2 h3.2 (by omega) (by omega) K hK) (by congr 1; omega) rfl)
        · refine b_iconst rfl (by decide) ?_
          refine b_iret rfl rfl ?_
          first | exact k0 (fun z => hk z.1) | exact k0 (fun z => hj z.2.1) | exact k0 (fun z => by have := z.2.2; omega)
    · refine ⟨_, rfl, ?_⟩
      refine b_if_eq (tgt := 33) rfl rfl (fun _ => ?_) (fun z => absurd z (by decide))
      refine b_iconst rfl (by decide) ?_
      refine b_iret rfl rfl ?_
      first | exact k0 (fun z => hk z.1) | exact k0 (fun z => hj z.2.1) | exact k0 (fun z => by have := z.2.2; omega)
  · refine ⟨_, rfl, ?_⟩
    refine b_if_eq (tgt := 33) rfl rfl (fun _ => ?_) (fun z => absurd z (by decide))
    refine b_iconst rfl (by decide) ?_
    refine b_iret rfl rfl ?_
    first | exact k0 (fun z => hk z.1) | exact k0 (fun z => hj z.2.1) | exact k0 (fun z => by have := z.2.2; omega)
def WK (I : HI) : Prop := (0 ≤ I 30 3 ∧ I 30 3 < 60 ∧ 0 ≤ I 30 4 ∧ I 30 4 ≤ 60) ∧ (0 ≤ I 38 1 ∧ I 38 1 < 20 ∧ 0 ≤ I 38 2 ∧ I 38 2 ≤ 20)
theorem rem_cell {I : HI} {q : Nat} (h1 : q ≠ 38) (h2 : q ≠ 39) : rem_ I q = I q := by
  funext k
  unfold rem_ wrt
  split <;> simp [up_ap, cpy_ap, h1, h2]
theorem Sc.ap {I J : HI} (h : Sc I J) {q k : Nat} (h1 : q ≠ 28) (h2 : q ≠ 29) : J q k = I q k := by rw [h.1 q h1 h2]
def mAL (I : HI) (C : Nat → List Int) (s a : Nat) (m : Int) : Prop := AL (up I 32 a m) C (I 30 5) 32 s
theorem sp_X11_mayWith {I : HI} {Q : Option AV → HI → Prop} {C : Nat → List Int} {s a : Nat} {m : Int} (hW : WF I C) (hs : (s : Int) < I 4 1) (ha : a < 144) (hm : 0 ≤ m ∧ m ≤ 20) (k1 : mAL I C s a m → ∀ K, Sc I K → Q (some (aI 1)) K) (k0 : ¬ mAL I C s a m → ∀ K, Sc I K → Q (some (aI 0)) K) : Rj MX11_mayWith 5 [aR 0, aI (s : Int), aI (a : Int), aI m] I Q := by
  have r := hW.2.2.1
  have hP1 : CP (up I 32 a m) C := ⟨pOK_to hW.1.1 (up_cell (by decide)) (up_cell (by decide)) (up_cell (by decide)), FM_to hW.1.2.1 (up_cell (by decide)) (up_cell (by decide)) (up_cell (by decide)), hW.1.2.2⟩
  have hse : seB (up I 32 a m) := by
    have := hW.2.1
    unfold seB at *
    rw [up_cell (by decide)]
    exact this
  have hb5 : ∀ k, 0 ≤ up I 32 a m 32 k ∧ up I 32 a m 32 k ≤ 50 := by
    intro k
    have := hW.b5 k
    rw [up_ap]
    split <;> omega
  refine rj_of okX11_mayWith (Nat.le_of_ble_eq_true rfl) rfl ?_
  refine b_aload_n rfl rfl ?_
  refine b_getR (r := 30) rfl fl11_44 rfl (by decide) rfl rfl ?_
  refine b_getR (r := 32) rfl fl11_198 rfl (by decide) rfl rfl ?_
  refine b_iload_n rfl rfl ?_
  refine b_iald rfl rfl (by omega) (by omega) ?_
  rw [Int.toNat_natCast]
  refine b_istoreX (F := fun z9 => [some (aR 0), some (aI (s : Int)), some (aI (a : Int)), some (aI m), some (aI z9)]) rfl (by decide) (fun _ => rfl) (fun z9 ez9 => ?_)
  refine b_aload_n rfl rfl ?_
  refine b_getR (r := 30) rfl fl11_44 rfl (by decide) rfl rfl ?_
  refine b_getR (r := 32) rfl fl11_198 rfl (by decide) rfl rfl ?_
  refine b_iload_n rfl rfl ?_
  refine b_iload_n rfl rfl ?_
  refine b_iast rfl rfl (by omega) (by omega) ?_
  rw [Int.toNat_natCast]
  refine b_aload_n rfl rfl ?_
  refine b_getR (r := 27) rfl fl11_37 rfl (by decide) rfl rfl ?_
  refine b_aload_n rfl rfl ?_
  refine b_getR (r := 30) rfl fl11_44 rfl (by decide) rfl rfl ?_
  refine b_getI rfl fl11_153 rfl (by decide) rfl ?_
  try simp only [up_ap, cpy_ap, fil_ap, row_ap, Nat.reduceEqDiff, Nat.reduceLT, Nat.reduceLeDiff, Int.toNat_natCast, Int.reduceToNat, reduceCtorEq, false_and, and_false, true_and, and_true, and_self, reduceIte]
  refine b_callV1v (ν := MX5_atHour) rfl ml11_195 cvX5_atHour (d' := 3) (by omega) rfl (by decide) rfl (Nat.le_of_ble_eq_true rfl) ?_
  refine spa_atHour hP1 (Sc.rf hse) (by omega) (fun K hA => ?_)
  refine ⟨rfl, ?_⟩
  refine b_aload_n rfl rfl ?_
  refine b_getR (r := 27) rfl fl11_37 rfl (by decide) rfl rfl ?_
  refine b_aload_n rfl rfl ?_
  refine b_getR (r := 30) rfl fl11_44 rfl (by decide) rfl rfl ?_
  refine b_getR (r := 32) rfl fl11_198 rfl (by decide) rfl rfl ?_
  refine b_iload_n rfl rfl ?_
  refine b_callV2v (ν := MX5_look) rfl ml11_201 cvX5_look (d' := 4) (by omega) rfl (by decide) rfl (Nat.le_of_ble_eq_true rfl) ?_
  refine spa_look_32 hP1 hA hb5 (by rw [up_cell (by decide)]; exact hs) (fun K hL => ?_)
  refine ⟨rfl, ?_⟩
  refine b_aload_n rfl rfl ?_
  refine b_getR (r := 30) rfl fl11_44 rfl (by decide) rfl rfl ?_
  refine b_getR (r := 32) rfl fl11_198 rfl (by decide) rfl rfl ?_
  refine b_iload_n rfl rfl ?_
  refine b_iload rfl rfl ?_
  refine b_iast rfl rfl (by omega) (by omega) ?_
  rw [Int.toNat_natCast]
  have hV : LkV I (up K 32 a z9) C (I 30 5) (tW (up I 32 a m) 32 s) (tL (up I 32 a m) 32 s) (tT (up I 32 a m) 32 s) (tN (up I 32 a m) 32 s) (hS_ (up I 32 a m) C (I 30 5) 32 s) := by
    obtain ⟨⟨q1, q2, q3, q4⟩, l3, l4, l5, l6, l7⟩ := hL
    refine ⟨⟨⟨fun q h1 h2 => ?_, ?_⟩, q2, q3, q4⟩, l3, l4, l5, l6, l7⟩
    · funext k
      have := q1.ap (k := k) h1 h2
      rw [up_ap] at *
      rw [ez9]
      split
      · rename_i e; rw [e.1, e.2]
      · rename_i e; rw [if_neg e] at this; exact this
    · have := q1.2
      unfold seB at *
      rw [up_cell (by decide)]
      exact this
  refine b_aload_n rfl rfl ?_
  refine b_getR (r := 27) rfl fl11_37 rfl (by decide) rfl rfl ?_
  refine b_callV0i (ν := MX5_allows) rfl ml11_300 cvX5_allows (d' := 3) (by omega) rfl (by decide) rfl (Nat.le_of_ble_eq_true rfl) ?_
  refine spv_allows hW.1 hV (fun hf K hM => ?_) (fun hf K hM => ?_)
  · refine ⟨_, rfl, ?_⟩
    refine b_zret rfl rfl (by first | decide | omega) ?_
    first | exact k1 hf _ hM.1.1 | exact k0 hf _ hM.1.1
  · refine ⟨_, rfl, ?_⟩
    refine b_zret rfl rfl (by first | decide | omega) ?_
    first | exact k1 hf _ hM.1.1 | exact k0 hf _ hM.1.1
