def aft (I : HI) (w : Int) (a : Nat) : Int := if w = 1 then I 32 a + 1 else I 32 a - 1
def cA (a b c : Int) : Nat := (a * 24 + b * 6 + c).toNat
def wkP (I : HI) (C : Nat → List Int) (a b c w : Int) : Prop := kc_3 I a b c ∧ I 31 a.toNat ≠ -1 ∧ (0 ≤ aft I w (cA a b c) ∧ aft I w (cA a b c) ≤ 20) ∧ mAL I C a.toNat (cA a b c) (aft I w (cA a b c))
def wkS (I : HI) (a b c w : Int) : HI := keepS (up (rem_ I) 32 (cA a b c) (aft I w (cA a b c))) a ((cA a b c % 24 : Nat) : Int) w
theorem kc_b {I : HI} {a b c : Int} (hp : pOK I) (h : kc_3 I a b c) : (0 ≤ a ∧ a < 6 ∧ a < I 4 1) ∧ (0 ≤ b ∧ b < 4 ∧ b < I 6 (6 + a.toNat)) ∧ (0 ≤ c ∧ c < 6 ∧ c < I 4 0) := by
  have hb1 := kO_b hp.1 h.1
  have hb2 := kO_b hp.1 h.2.2.2
  have hh1 := h.2.1
  have hh2 := h.2.2.1
  have h3 : a < I 4 1 := h.1.2.2.2
  have h4 : c < I 4 0 := h.2.2.2.2.2.2
  have hh3 := hp.2.2.1 a.toNat (by omega)
  rw [show (1 * 6 + a).toNat = 6 + a.toNat by omega] at hh2
  omega
theorem sp_X11_work {I : HI} {Q : Option AV → HI → Prop} {C : Nat → List Int} {a b c w : Int} (hW : WF I C) (hK : WK I) (hw : w = 0 ∨ w = 1) (k1 : wkP I C a b c w → ∀ K, Sc I K → Q (some (aI (aft I w (cA a b c)))) (wkS K a b c w)) (k0 : ¬ wkP I C a b c w → ∀ K, Sc I K → Q (some (aI (-1))) (rfs K 2)) : Rj MX11_work 6 [aR 0, aI a, aI b, aI c, aI w] I Q := by
  have r := hW.2.2.1
  have rr := Sc.rf hW.2.1
  refine rj_of okX11_work (Nat.le_of_ble_eq_true rfl) rfl ?_
  have fin : ∀ (s : Nat) (z5 z6 z7 : Int), a = (s : Int) → kc_3 I a b c → I 31 s ≠ -1 → z5 = (cA a b c : Int) → z7 = aft I w (cA a b c) → Bj MX11_work 6 71 [some (aR 0), some (aI (s : Int)), some (aI b), some (aI c), some (aI w), some (aI z5), some (aI z6), some (aI z7)] [] I Q := by
    intro s z5 z6 z7 hs hk hl h5 h7
    have hb := kc_b hW.1.1 hk
    have hc : cA a b c < 144 := by unfold cA; omega
    have ht : a.toNat = s := by omega
    generalize hcA : cA a b c = A at *
    subst h5
    refine b_iload rfl rfl ?_
    refine b_if_lt (tgt := 95) rfl rfl (fun c73 => ?_) (fun c73 => ?_)
    · refine b_aload_n rfl rfl ?_
      refine b_iconst rfl (by decide) ?_
      refine b_callV1i (ν := MX11_refuse) rfl ml11_100 cvX11_refuse (d' := 0) (by omega) rfl (by decide) rfl (Nat.le_of_ble_eq_true rfl) ?_
      refine sp_X11_refuse (k := 2) (by decide) ?_
      refine ⟨_, rfl, ?_⟩
      refine b_iret rfl rfl ?_
      first
      | exact k0 (fun z => by have := z.2.2.1; rw [hcA] at this; omega) _ rr
      | exact k0 (fun z => hf (by have := z.2.2.2; rw [hcA, ht, ← h7] at this; exact this)) _ hS
    · refine b_iload rfl rfl ?_
      refine b_bipush rfl (by decide) ?_
      refine b_icmp_gt (tgt := 95) rfl rfl (fun c80 => ?_) (fun c80 => ?_)
      · refine b_aload_n rfl rfl ?_
        refine b_iconst rfl (by decide) ?_
        refine b_callV1i (ν := MX11_refuse) rfl ml11_100 cvX11_refuse (d' := 0) (by omega) rfl (by decide) rfl (Nat.le_of_ble_eq_true rfl) ?_
        refine sp_X11_refuse (k := 2) (by decide) ?_
        refine ⟨_, rfl, ?_⟩
        refine b_iret rfl rfl ?_
        first
        | exact k0 (fun z => by have := z.2.2.1; rw [hcA] at this; omega) _ rr
        | exact k0 (fun z => hf (by have := z.2.2.2; rw [hcA, ht, ← h7] at this; exact this)) _ hS
      · refine b_aload_n rfl rfl ?_
        refine b_iload_n rfl rfl ?_
        refine b_iload rfl rfl ?_
        refine b_iload rfl rfl ?_
        refine b_callV3i (ν := MX11_mayWith) rfl ml11_290 cvX11_mayWith (d' := 5) (by omega) rfl (by decide) rfl (Nat.le_of_ble_eq_true rfl) ?_
        refine sp_X11_mayWith hW (by omega) hc (by omega) (fun hf K hS => ?_) (fun hf K hS => ?_)
        · refine ⟨_, rfl, ?_⟩
          refine b_if_ne (tgt := 101) rfl rfl (fun _ => ?_) (fun z => absurd z (by decide))
          refine b_aload_n rfl rfl ?_
          refine b_getR (r := 38) rfl fl11_54 rfl (by decide) rfl rfl ?_
          refine b_aload_n rfl rfl ?_
          refine b_getR (r := 30) rfl fl11_44 rfl (by decide) rfl rfl ?_
          refine b_callV1v (ν := MX2_remember) rfl ml11_293 cvX2_remember (d' := 2) (by omega) rfl (by decide) rfl (Nat.le_of_ble_eq_true rfl) ?_
          refine sp_X2_remember (by have := hK.2; rw [hS.ap (by decide) (by decide), hS.ap (by decide) (by decide)]; exact this) ?_
          refine ⟨rfl, ?_⟩
          refine b_aload_n rfl rfl ?_
          refine b_getR (r := 30) rfl fl11_44 rfl (by decide) rfl rfl ?_
          refine b_getR (r := 32) rfl fl11_198 rfl (by decide) rfl rfl ?_
          refine b_iload rfl rfl ?_
          refine b_iload rfl rfl ?_
          refine b_iast rfl rfl (by omega) (by omega) ?_
          rw [Int.toNat_natCast]
          refine b_aload_n rfl rfl ?_
          refine b_getR (r := 30) rfl fl11_44 rfl (by decide) rfl rfl ?_
          refine b_iload_n rfl rfl ?_
          refine b_iload rfl rfl ?_
          refine b_bipush rfl (by decide) ?_
          refine b_iremP rfl (by omega) (by omega) ?_
          refine b_iload rfl rfl ?_
          refine b_callV3v (ν := MX7_keep) rfl ml11_296 cvX7_keep (d' := 0) (by omega) rfl (by decide) rfl (Nat.le_of_ble_eq_true rfl) ?_
          refine sp_X7_keep_30 (by
          have := hK.1
          rw [up_cell (by decide), rem_cell (by decide) (by decide), hS.1 30 (by decide) (by decide)]
          omega) (by omega) ?_
          refine ⟨rfl, ?_⟩
          refine b_iload rfl rfl ?_
          refine b_iret rfl rfl ?_
          refine qI (k1 ⟨hk, by rw [ht]; exact hl, by rw [hcA]; omega, by rw [hcA, ht, ← h7]; exact hf⟩ _ hS) h7.symm ?_
          unfold wkS
          have e1 : aft K w A = z7 := by rw [h7]; unfold aft; rw [hS.ap (by decide) (by decide)]
          rw [hcA, e1, hs]
          congr 1 <;> omega
        · refine ⟨_, rfl, ?_⟩
          refine b_if_ne (tgt := 101) rfl rfl (fun z => absurd z (by decide)) (fun _ => ?_)
          refine b_aload_n rfl rfl ?_
          refine b_iconst rfl (by decide) ?_
          refine b_callV1i (ν := MX11_refuse) rfl ml11_100 cvX11_refuse (d' := 0) (by omega) rfl (by decide) rfl (Nat.le_of_ble_eq_true rfl) ?_
          refine sp_X11_refuse (k := 2) (by decide) ?_
          refine ⟨_, rfl, ?_⟩
          refine b_iret rfl rfl ?_
          first
          | exact k0 (fun z => by have := z.2.2.1; rw [hcA] at this; omega) _ rr
          | exact k0 (fun z => hf (by have := z.2.2.2; rw [hcA, ht, ← h7] at this; exact this)) _ hS
  refine b_aload_n rfl rfl ?_
  refine b_getR (r := 3) rfl fl11_19 rfl (by decide) rfl rfl ?_
  refine b_iload_n rfl rfl ?_
  refine b_iload_n rfl rfl ?_
  refine b_iload_n rfl rfl ?_
  refine b_callV3i (ν := MX3_knowsCell) rfl ml11_219 cvX3_knowsCell (d' := 2) (by omega) rfl (by decide) rfl (Nat.le_of_ble_eq_true rfl) ?_
  refine sp_X3_knowsCell_3 hW.1.1.1 (fun hk => ?_) (fun hk => ?_)
  · refine ⟨_, rfl, ?_⟩
    refine b_if_eq (tgt := 26) rfl rfl (fun z => absurd z (by decide)) (fun _ => ?_)
    have hb := kc_b hW.1.1 hk
    obtain ⟨s, hsa⟩ : ∃ s : Nat, a = (s : Int) := ⟨a.toNat, by omega⟩
    refine b_aload_n rfl rfl ?_
    refine b_getR (r := 30) rfl fl11_44 rfl (by decide) rfl rfl ?_
    refine b_getR (r := 31) rfl fl11_205 rfl (by decide) rfl rfl ?_
    refine b_iload_n rfl rfl ?_
    refine b_iald rfl rfl (by omega) (by omega) ?_
    rw [show a.toNat = s by omega]
    refine b_iconst rfl (by decide) ?_
    refine b_icmp_ne (tgt := 32) rfl rfl (fun c23 => ?_) (fun c23 => ?_)
    · refine b_iload_n rfl rfl ?_
      refine b_iload_n rfl rfl ?_
      refine b_iload_n rfl rfl ?_
      refine b_callS3i (ν := MX11_cell) rfl ml11_223 csX11_cell (d' := 0) (by omega) (Nat.le_of_ble_eq_true rfl) ?_
      refine sp_X11_cell (by omega) ?_
      refine ⟨_, rfl, ?_⟩
      refine b_istoreX (F := fun z38 => [some (aR 0), some (aI a), some (aI b), some (aI c), some (aI w), some (aI z38), none, none]) rfl (by decide) (fun _ => rfl) (fun z38 ez38 => ?_)
      have e5 : z38 = (cA a b c : Int) := by rw [ez38]; unfold cA; omega
      have hc144 : cA a b c < 144 := by unfold cA; omega
      have hcr := hW.2.2.2.1 (cA a b c)
      refine b_aload_n rfl rfl ?_
      refine b_getR (r := 30) rfl fl11_44 rfl (by decide) rfl rfl ?_
      refine b_getR (r := 32) rfl fl11_198 rfl (by decide) rfl rfl ?_
      refine b_iload rfl rfl ?_
      refine b_iald rfl rfl (by omega) (by omega) ?_
      rw [show z38.toNat = cA a b c by omega]
      refine b_istoreX (F := fun z50 => [some (aR 0), some (aI a), some (aI b), some (aI c), some (aI w), some (aI z38), some (aI z50), none]) rfl (by decide) (fun _ => rfl) (fun z50 ez50 => ?_)
      refine b_iload rfl rfl ?_
      refine b_iconst rfl (by decide) ?_
      refine b_icmp_ne (tgt := 65) rfl rfl (fun c55 => ?_) (fun c55 => ?_)
      · refine b_iload rfl rfl ?_
        refine b_iconst rfl (by decide) ?_
        refine b_isubN rfl (by omega) (by omega) ?_
        refine b_istoreX (F := fun z69 => [some (aR 0), some (aI a), some (aI b), some (aI c), some (aI w), some (aI z38), some (aI z50), some (aI z69)]) rfl (by decide) (fun _ => rfl) (fun z69 ez69 => ?_)
        subst hsa
        refine fin s _ _ _ rfl hk (by omega) e5 ?_
        unfold aft
        split <;> omega
      · refine b_iload rfl rfl ?_
        refine b_iconst rfl (by decide) ?_
        refine b_iaddN rfl (by omega) (by omega) ?_
        refine b_goto (tgt := 69) rfl rfl ?_
        refine b_istoreX (F := fun z69 => [some (aR 0), some (aI a), some (aI b), some (aI c), some (aI w), some (aI z38), some (aI z50), some (aI z69)]) rfl (by decide) (fun _ => rfl) (fun z69 ez69 => ?_)
        subst hsa
        refine fin s _ _ _ rfl hk (by omega) e5 ?_
        unfold aft
        split <;> omega
    · refine b_aload_n rfl rfl ?_
      refine b_iconst rfl (by decide) ?_
      refine b_callV1i (ν := MX11_refuse) rfl ml11_100 cvX11_refuse (d' := 0) (by omega) rfl (by decide) rfl (Nat.le_of_ble_eq_true rfl) ?_
      refine sp_X11_refuse (k := 2) (by decide) ?_
      refine ⟨_, rfl, ?_⟩
      refine b_iret rfl rfl ?_
      first
      | exact k0 (fun z => hk z.1) _ rr
      | exact k0 (fun z => z.2.1 (by rw [show a.toNat = s by omega]; omega)) _ rr
  · refine ⟨_, rfl, ?_⟩
    refine b_if_eq (tgt := 26) rfl rfl (fun _ => ?_) (fun z => absurd z (by decide))
    refine b_aload_n rfl rfl ?_
    refine b_iconst rfl (by decide) ?_
    refine b_callV1i (ν := MX11_refuse) rfl ml11_100 cvX11_refuse (d' := 0) (by omega) rfl (by decide) rfl (Nat.le_of_ble_eq_true rfl) ?_
    refine sp_X11_refuse (k := 2) (by decide) ?_
    refine ⟨_, rfl, ?_⟩
    refine b_iret rfl rfl ?_
    first
    | exact k0 (fun z => hk z.1) _ rr
    | exact k0 (fun z => z.2.1 (by rw [show a.toNat = s by omega]; omega)) _ rr
theorem sp_X11_lade {I : HI} {Q : Option AV → HI → Prop} {C : Nat → List Int} {a b c : Int} (hW : WF I C) (hK : WK I) (k1 : wkP I C a b c 1 → ∀ K, Sc I K → Q (some (aI (aft I 1 (cA a b c)))) (wkS K a b c 1)) (k0 : ¬ wkP I C a b c 1 → ∀ K, Sc I K → Q (some (aI (-1))) (rfs K 2)) : Rj MX11_lade 7 [aR 0, aI a, aI b, aI c] I Q := by
  refine rj_of okX11_lade (Nat.le_of_ble_eq_true rfl) rfl ?_
  refine b_aload_n rfl rfl ?_
  refine b_iload_n rfl rfl ?_
  refine b_iload_n rfl rfl ?_
  refine b_iload_n rfl rfl ?_
  refine b_iconst rfl (by decide) ?_
  refine b_callV4i (ν := MX11_work) rfl ml11_286 cvX11_work (d' := 6) (by omega) rfl (by decide) rfl (Nat.le_of_ble_eq_true rfl) ?_
  refine sp_X11_work hW hK (Or.inr rfl) (fun h K hS => ?_) (fun h K hS => ?_)
  · refine ⟨_, rfl, ?_⟩
    refine b_iret rfl rfl ?_
    first | exact k1 h K hS | exact k0 h K hS
  · refine ⟨_, rfl, ?_⟩
    refine b_iret rfl rfl ?_
    first | exact k1 h K hS | exact k0 h K hS
theorem sp_X11_discharge {I : HI} {Q : Option AV → HI → Prop} {C : Nat → List Int} {a b c : Int} (hW : WF I C) (hK : WK I) (k1 : wkP I C a b c 0 → ∀ K, Sc I K → Q (some (aI (aft I 0 (cA a b c)))) (wkS K a b c 0)) (k0 : ¬ wkP I C a b c 0 → ∀ K, Sc I K → Q (some (aI (-1))) (rfs K 2)) : Rj MX11_discharge 7 [aR 0, aI a, aI b, aI c] I Q := by
  refine rj_of okX11_discharge (Nat.le_of_ble_eq_true rfl) rfl ?_
  refine b_aload_n rfl rfl ?_
  refine b_iload_n rfl rfl ?_
  refine b_iload_n rfl rfl ?_
  refine b_iload_n rfl rfl ?_
  refine b_iconst rfl (by decide) ?_
  refine b_callV4i (ν := MX11_work) rfl ml11_286 cvX11_work (d' := 6) (by omega) rfl (by decide) rfl (Nat.le_of_ble_eq_true rfl) ?_
  refine sp_X11_work hW hK (Or.inl rfl) (fun h K hS => ?_) (fun h K hS => ?_)
  · refine ⟨_, rfl, ?_⟩
    refine b_iret rfl rfl ?_
    first | exact k1 h K hS | exact k0 h K hS
  · refine ⟨_, rfl, ?_⟩
    refine b_iret rfl rfl ?_
    first | exact k1 h K hS | exact k0 h K hS
def shP (I : HI) (a b c d : Int) : Prop := kc_3 I a b c ∧ kc_3 I a d c ∧ b ≠ d ∧ 1 ≤ I 32 (cA a b c) ∧ I 32 (cA a d c) < 20
def shS (I : HI) (a b c d : Int) : HI := up (up (rem_ I) 32 (cA a b c) (I 32 (cA a b c) - 1)) 32 (cA a d c) (I 32 (cA a d c) + 1)
theorem sp_X11_shift {I : HI} {Q : Option AV → HI → Prop} {C : Nat → List Int} {a b c d : Int} (hW : WF I C) (hK : WK I) (k1 : shP I a b c d → Q (some (aI 1)) (shS I a b c d)) (k0 : ¬ shP I a b c d → Q (some (aI 0)) (rfs I 2)) : Rj MX11_shift 3 [aR 0, aI a, aI b, aI c, aI d] I Q := by
  refine rj_of okX11_shift (Nat.le_of_ble_eq_true rfl) rfl ?_
  refine b_aload_n rfl rfl ?_
  refine b_getR (r := 3) rfl fl11_19 rfl (by decide) rfl rfl ?_
  refine b_iload_n rfl rfl ?_
  refine b_iload_n rfl rfl ?_
  refine b_iload_n rfl rfl ?_
  refine b_callV3i (ν := MX3_knowsCell) rfl ml11_219 cvX3_knowsCell (d' := 2) (by omega) rfl (by decide) rfl (Nat.le_of_ble_eq_true rfl) ?_
  refine sp_X3_knowsCell_3 hW.1.1.1 (fun hk => ?_) (fun hk => ?_)
  · refine ⟨_, rfl, ?_⟩
    refine b_if_eq (tgt := 33) rfl rfl (fun z => absurd z (by decide)) (fun _ => ?_)
    refine b_aload_n rfl rfl ?_
    refine b_getR (r := 3) rfl fl11_19 rfl (by decide) rfl rfl ?_
    refine b_iload_n rfl rfl ?_
    refine b_iload rfl rfl ?_
    refine b_iload_n rfl rfl ?_
    refine b_callV3i (ν := MX3_knowsCell) rfl ml11_219 cvX3_knowsCell (d' := 2) (by omega) rfl (by decide) rfl (Nat.le_of_ble_eq_true rfl) ?_
    refine sp_X3_knowsCell_3 hW.1.1.1 (fun hj => ?_) (fun hj => ?_)
    · refine ⟨_, rfl, ?_⟩
      refine b_if_eq (tgt := 33) rfl rfl (fun z => absurd z (by decide)) (fun _ => ?_)
      refine b_iload_n rfl rfl ?_
      refine b_iload rfl rfl ?_
      refine b_icmp_ne (tgt := 39) rfl rfl (fun c30 => ?_) (fun c30 => ?_)
      · have hb := kc_b hW.1.1 hk
        have hd := kc_b hW.1.1 hj
        refine b_iload_n rfl rfl ?_
        refine b_iload_n rfl rfl ?_
        refine b_iload_n rfl rfl ?_
        refine b_callS3i (ν := MX11_cell) rfl ml11_223 csX11_cell (d' := 0) (by omega) (Nat.le_of_ble_eq_true rfl) ?_
        refine sp_X11_cell (by omega) ?_
        refine ⟨_, rfl, ?_⟩
        refine b_istoreX (F := fun z45 => [some (aR 0), some (aI a), some (aI b), some (aI c), some (aI d), some (aI z45), none]) rfl (by decide) (fun _ => rfl) (fun z45 ez45 => ?_)
        refine b_iload_n rfl rfl ?_
        refine b_iload rfl rfl ?_
        refine b_iload_n rfl rfl ?_
        refine b_callS3i (ν := MX11_cell) rfl ml11_223 csX11_cell (d' := 0) (by omega) (Nat.le_of_ble_eq_true rfl) ?_
        refine sp_X11_cell (by omega) ?_
        refine ⟨_, rfl, ?_⟩
        refine b_istoreX (F := fun z54 => [some (aR 0), some (aI a), some (aI b), some (aI c), some (aI d), some (aI z45), some (aI z54)]) rfl (by decide) (fun _ => rfl) (fun z54 ez54 => ?_)
        have e5 : z45 = (cA a b c : Int) := by rw [ez45]; unfold cA; omega
        have e6 : z54 = (cA a d c : Int) := by rw [ez54]; unfold cA; omega
        have hne : cA a b c ≠ cA a d c := by unfold cA; omega
        have h144 : cA a b c < 144 ∧ cA a d c < 144 := by unfold cA; omega
        clear ez45 ez54
        subst e5
        subst e6
        have hc1 := hW.2.2.2.1 (cA a b c)
        have hc2 := hW.2.2.2.1 (cA a d c)
        refine b_aload_n rfl rfl ?_
        refine b_getR (r := 30) rfl fl11_44 rfl (by decide) rfl rfl ?_
        refine b_getR (r := 32) rfl fl11_198 rfl (by decide) rfl rfl ?_
        refine b_iload rfl rfl ?_
        refine b_iald rfl rfl (by omega) (by omega) ?_
        rw [Int.toNat_natCast]
        refine b_iconst rfl (by decide) ?_
        refine b_icmp_lt (tgt := 85) rfl rfl (fun c67 => ?_) (fun c67 => ?_)
        · refine b_aload_n rfl rfl ?_
          refine b_iconst rfl (by decide) ?_
          refine b_callV1i (ν := MX11_refuses) rfl ml11_108 cvX11_refuses (d' := 1) (by omega) rfl (by decide) rfl (Nat.le_of_ble_eq_true rfl) ?_
          refine sp_X11_refuses (k := 2) (by decide) ?_
          refine ⟨_, rfl, ?_⟩
          refine b_zret rfl rfl (by first | decide | omega) ?_
          first | exact k0 (fun z => by have := z.2.2.2; omega)
        · refine b_aload_n rfl rfl ?_
          refine b_getR (r := 30) rfl fl11_44 rfl (by decide) rfl rfl ?_
          refine b_getR (r := 32) rfl fl11_198 rfl (by decide) rfl rfl ?_
          refine b_iload rfl rfl ?_
          refine b_iald rfl rfl (by omega) (by omega) ?_
          rw [Int.toNat_natCast]
          refine b_bipush rfl (by decide) ?_
          refine b_icmp_lt (tgt := 91) rfl rfl (fun c82 => ?_) (fun c82 => ?_)
          · refine b_aload_n rfl rfl ?_
            refine b_getR (r := 38) rfl fl11_54 rfl (by decide) rfl rfl ?_
            refine b_aload_n rfl rfl ?_
            refine b_getR (r := 30) rfl fl11_44 rfl (by decide) rfl rfl ?_
            refine b_callV1v (ν := MX2_remember) rfl ml11_293 cvX2_remember (d' := 2) (by omega) rfl (by decide) rfl (Nat.le_of_ble_eq_true rfl) ?_
            refine sp_X2_remember hK.2 ?_
            refine ⟨rfl, ?_⟩
            refine b_aload_n rfl rfl ?_
            refine b_getR (r := 30) rfl fl11_44 rfl (by decide) rfl rfl ?_
            refine b_getR (r := 32) rfl fl11_198 rfl (by decide) rfl rfl ?_
            refine b_iload rfl rfl ?_
            refine b_dup2 rfl rfl rfl ?_
            refine b_iald rfl rfl (by omega) (by omega) ?_
            rw [Int.toNat_natCast, rem_cell (by decide) (by decide)]
            refine b_iconst rfl (by decide) ?_
            refine b_isubN rfl (by omega) (by omega) ?_
            refine b_iast rfl rfl (by omega) (by omega) ?_
            rw [Int.toNat_natCast]
            refine b_aload_n rfl rfl ?_
            refine b_getR (r := 30) rfl fl11_44 rfl (by decide) rfl rfl ?_
            refine b_getR (r := 32) rfl fl11_198 rfl (by decide) rfl rfl ?_
            refine b_iload rfl rfl ?_
            refine b_dup2 rfl rfl rfl ?_
            refine b_iald rfl rfl (by omega) (by omega) ?_
            try simp only [up_ap, cpy_ap, fil_ap, row_ap, Nat.reduceEqDiff, Nat.reduceLT, Nat.reduceLeDiff, Int.toNat_natCast, Int.reduceToNat, reduceCtorEq, false_and, and_false, true_and, and_true, and_self, reduceIte]
            rw [if_neg (by omega), rem_cell (by decide) (by decide)]
            refine b_iconst rfl (by decide) ?_
            refine b_iaddN rfl (by omega) (by omega) ?_
            refine b_iast rfl rfl (by omega) (by omega) ?_
            refine b_iconst rfl (by decide) ?_
            refine b_zret rfl rfl (by first | decide | omega) ?_
            exact qI (k1 ⟨hk, hj, by omega, by omega, by omega⟩) rfl (by rw [Int.toNat_natCast]; rfl)
          · refine b_aload_n rfl rfl ?_
            refine b_iconst rfl (by decide) ?_
            refine b_callV1i (ν := MX11_refuses) rfl ml11_108 cvX11_refuses (d' := 1) (by omega) rfl (by decide) rfl (Nat.le_of_ble_eq_true rfl) ?_
            refine sp_X11_refuses (k := 2) (by decide) ?_
            refine ⟨_, rfl, ?_⟩
            refine b_zret rfl rfl (by first | decide | omega) ?_
            first | exact k0 (fun z => by have := z.2.2.2; omega)
      · refine b_aload_n rfl rfl ?_
        refine b_iconst rfl (by decide) ?_
        refine b_callV1i (ν := MX11_refuses) rfl ml11_108 cvX11_refuses (d' := 1) (by omega) rfl (by decide) rfl (Nat.le_of_ble_eq_true rfl) ?_
        refine sp_X11_refuses (k := 2) (by decide) ?_
        refine ⟨_, rfl, ?_⟩
        refine b_zret rfl rfl (by first | decide | omega) ?_
        first | exact k0 (fun z => hk z.1) | exact k0 (fun z => hj z.2.1) | exact k0 (fun z => z.2.2.1 (by omega))
    · refine ⟨_, rfl, ?_⟩
      refine b_if_eq (tgt := 33) rfl rfl (fun _ => ?_) (fun z => absurd z (by decide))
      refine b_aload_n rfl rfl ?_
      refine b_iconst rfl (by decide) ?_
      refine b_callV1i (ν := MX11_refuses) rfl ml11_108 cvX11_refuses (d' := 1) (by omega) rfl (by decide) rfl (Nat.le_of_ble_eq_true rfl) ?_
      refine sp_X11_refuses (k := 2) (by decide) ?_
      refine ⟨_, rfl, ?_⟩
      refine b_zret rfl rfl (by first | decide | omega) ?_
      first | exact k0 (fun z => hk z.1) | exact k0 (fun z => hj z.2.1) | exact k0 (fun z => z.2.2.1 (by omega))
  · refine ⟨_, rfl, ?_⟩
    refine b_if_eq (tgt := 33) rfl rfl (fun _ => ?_) (fun z => absurd z (by decide))
    refine b_aload_n rfl rfl ?_
    refine b_iconst rfl (by decide) ?_
    refine b_callV1i (ν := MX11_refuses) rfl ml11_108 cvX11_refuses (d' := 1) (by omega) rfl (by decide) rfl (Nat.le_of_ble_eq_true rfl) ?_
    refine sp_X11_refuses (k := 2) (by decide) ?_
    refine ⟨_, rfl, ?_⟩
    refine b_zret rfl rfl (by first | decide | omega) ?_
    first | exact k0 (fun z => hk z.1) | exact k0 (fun z => hj z.2.1) | exact k0 (fun z => z.2.2.1 (by omega))
def tkP (I : HI) (C : Nat → List Int) (s : Nat) (b : Int) : Prop := kO I 4 2 b ∧ fi (I 31) b 6 0 = -1 ∧ SF I C (I 30 5) 32 s b.toNat
theorem sp_X11_canTake {I : HI} {Q : Option AV → HI → Prop} {C : Nat → List Int} {s : Nat} {b : Int} (hW : WF I C) (hs : (s : Int) < I 4 1) (k1 : tkP I C s b → ∀ K, Sc I K → Q (some (aI 1)) K) (k0 : ¬ tkP I C s b → ∀ K, Sc I K → Q (some (aI 0)) K) : Rj MX11_canTake 5 [aR 0, aI (s : Int), aI b] I Q := by
  have r := hW.2.2.1
  have rr := Sc.rf hW.2.1
  refine rj_of okX11_canTake (Nat.le_of_ble_eq_true rfl) rfl ?_
  refine b_aload_n rfl rfl ?_
  refine b_getR (r := 3) rfl fl11_19 rfl (by decide) rfl rfl ?_
  refine b_iconst rfl (by decide) ?_
  refine b_iload_n rfl rfl ?_
  refine b_callV2i (ν := MX3_knows) rfl ml11_175 cvX3_knows (d' := 0) (by omega) rfl (by decide) rfl (Nat.le_of_ble_eq_true rfl) ?_
  refine spf_knows (fun hk => ?_) (fun hk => ?_)
  · refine ⟨_, rfl, ?_⟩
    refine b_if_eq (tgt := 24) rfl rfl (fun z => absurd z (by decide)) (fun _ => ?_)
    refine b_aload_n rfl rfl ?_
    refine b_getR (r := 30) rfl fl11_44 rfl (by decide) rfl rfl ?_
    refine b_iload_n rfl rfl ?_
    refine b_callV1i (ν := MX7_shipIn) rfl ml11_227 cvX7_shipIn (d' := 0) (by omega) rfl (by decide) rfl (Nat.le_of_ble_eq_true rfl) ?_
    refine sp_X7_shipIn_30 ?_
    refine ⟨_, rfl, ?_⟩
    refine b_iconst rfl (by decide) ?_
    refine b_icmp_eq (tgt := 26) rfl rfl (fun c21 => ?_) (fun c21 => ?_)
    · refine b_aload_n rfl rfl ?_
      refine b_getR (r := 27) rfl fl11_37 rfl (by decide) rfl rfl ?_
      refine b_aload_n rfl rfl ?_
      refine b_getR (r := 30) rfl fl11_44 rfl (by decide) rfl rfl ?_
      refine b_getI rfl fl11_153 rfl (by decide) rfl ?_
      refine b_callV1v (ν := MX5_atHour) rfl ml11_195 cvX5_atHour (d' := 3) (by omega) rfl (by decide) rfl (Nat.le_of_ble_eq_true rfl) ?_
      refine spa_atHour hW.1 rr (by omega) (fun K hA => ?_)
      refine ⟨rfl, ?_⟩
      refine b_aload_n rfl rfl ?_
      refine b_getR (r := 27) rfl fl11_37 rfl (by decide) rfl rfl ?_
      refine b_aload_n rfl rfl ?_
      refine b_getR (r := 30) rfl fl11_44 rfl (by decide) rfl rfl ?_
      refine b_getR (r := 32) rfl fl11_198 rfl (by decide) rfl rfl ?_
      refine b_iload_n rfl rfl ?_
      refine b_callV2v (ν := MX5_look) rfl ml11_201 cvX5_look (d' := 4) (by omega) rfl (by decide) rfl (Nat.le_of_ble_eq_true rfl) ?_
      refine spa_look_32 hW.1 hA hW.b5 hs (fun K hL => ?_)
      refine ⟨rfl, ?_⟩
      have h2 := hk.2.2
      obtain ⟨b, rfl⟩ : ∃ c : Nat, b = (c : Int) := ⟨b.toNat, by omega⟩
      refine b_aload_n rfl rfl ?_
      refine b_getR (r := 27) rfl fl11_37 rfl (by decide) rfl rfl ?_
      refine b_iload_n rfl rfl ?_
      refine b_iload_n rfl rfl ?_
      refine b_callV2i (ν := MX5_safe) rfl ml11_233 cvX5_safe (d' := 3) (by omega) rfl (by decide) rfl (Nat.le_of_ble_eq_true rfl) ?_
      refine spa_safe hW.1 hL hs h2.2 (by have := t_in hW.1.1 hW.b5 hs; omega) (fun hf => ?_) (fun hf => ?_)
      · refine ⟨_, rfl, ?_⟩
        refine b_zret rfl rfl (by first | decide | omega) ?_
        first | exact k1 ⟨hk, by omega, hf⟩ _ hL.1.1 | exact k0 (fun z => hf z.2.2) _ hL.1.1
      · refine ⟨_, rfl, ?_⟩
        refine b_zret rfl rfl (by first | decide | omega) ?_
        first | exact k1 ⟨hk, by omega, hf⟩ _ hL.1.1 | exact k0 (fun z => hf z.2.2) _ hL.1.1
    · refine b_iconst rfl (by decide) ?_
      refine b_zret rfl rfl (by first | decide | omega) ?_
      first | exact k0 (fun z => hk z.1) _ rr | exact k0 (fun z => by have := z.2.1; omega) _ rr
  · refine ⟨_, rfl, ?_⟩
    refine b_if_eq (tgt := 24) rfl rfl (fun _ => ?_) (fun z => absurd z (by decide))
    refine b_iconst rfl (by decide) ?_
    refine b_zret rfl rfl (by first | decide | omega) ?_
    first | exact k0 (fun z => hk z.1) _ rr | exact k0 (fun z => by have := z.2.1; omega) _ rr
theorem sp_X11_canTake' {I : HI} {Q : Option AV → HI → Prop} {C : Nat → List Int} {s : Nat} {a b : Int} (ha : a = (s : Int)) (hW : WF I C) (hs : (s : Int) < I 4 1) (k1 : tkP I C s b → ∀ K, Sc I K → Q (some (aI 1)) K) (k0 : ¬ tkP I C s b → ∀ K, Sc I K → Q (some (aI 0)) K) : Rj MX11_canTake 5 [aR 0, aI a, aI b] I Q := by
  subst ha
  exact sp_X11_canTake hW hs k1 k0
def moP (I : HI) (C : Nat → List Int) (a b : Int) : Prop := kO I 4 1 a ∧ ((b = -1 ∧ I 31 a.toNat ≠ -1) ∨ (b ≠ -1 ∧ tkP I C a.toNat b))
theorem sp_X11_moor {I : HI} {Q : Option AV → HI → Prop} {C : Nat → List Int} {a b : Int} (hW : WF I C) (hK : WK I) (k1 : moP I C a b → ∀ K, Sc I K → Q (some (aI 1)) (up (rem_ K) 31 a.toNat b)) (k0 : ¬ moP I C a b → ∀ K, Sc I K → Q (some (aI 0)) (rfs K 3)) : Rj MX11_moor 6 [aR 0, aI a, aI b] I Q := by
  have rr := Sc.rf hW.2.1
  refine rj_of okX11_moor (Nat.le_of_ble_eq_true rfl) rfl ?_
  have fin : ∀ (s : Nat) (K : HI) (z : Int), kO I 4 1 (s : Int) → a = (s : Int) → s < 6 → Sc I K → (z = 0 ∧ ¬ moP I C a b ∨ z = 1 ∧ moP I C a b) → Bj MX11_moor 6 51 [some (aR 0), some (aI (s : Int)), some (aI b), some (aI z)] [] K Q := by
    intro s K z hk ha hs6 hS hz
    subst ha
    refine b_iload_n rfl rfl ?_
    refine b_if_ne (tgt := 61) rfl rfl (fun c52 => ?_) (fun c52 => ?_)
    · refine b_aload_n rfl rfl ?_
      refine b_getR (r := 38) rfl fl11_54 rfl (by decide) rfl rfl ?_
      refine b_aload_n rfl rfl ?_
      refine b_getR (r := 30) rfl fl11_44 rfl (by decide) rfl rfl ?_
      refine b_callV1v (ν := MX2_remember) rfl ml11_293 cvX2_remember (d' := 2) (by omega) rfl (by decide) rfl (Nat.le_of_ble_eq_true rfl) ?_
      refine sp_X2_remember (by have := hK.2; rw [hS.ap (by decide) (by decide), hS.ap (by decide) (by decide)]; exact this) ?_
      refine ⟨rfl, ?_⟩
      refine b_aload_n rfl rfl ?_
      refine b_getR (r := 30) rfl fl11_44 rfl (by decide) rfl rfl ?_
      refine b_getR (r := 31) rfl fl11_205 rfl (by decide) rfl rfl ?_
      refine b_iload_n rfl rfl ?_
      refine b_iload_n rfl rfl ?_
      refine b_iast rfl rfl (by omega) (by omega) ?_
      refine b_iconst rfl (by decide) ?_
      refine b_zret rfl rfl (by first | decide | omega) ?_
      exact k1 (hz.elim (fun w => by omega) (fun w => w.2)) _ hS
    · refine b_aload_n rfl rfl ?_
      refine b_iconst rfl (by decide) ?_
      refine b_callV1i (ν := MX11_refuses) rfl ml11_108 cvX11_refuses (d' := 1) (by omega) rfl (by decide) rfl (Nat.le_of_ble_eq_true rfl) ?_
      refine sp_X11_refuses (k := 3) (by decide) ?_
      refine ⟨_, rfl, ?_⟩
      refine b_zret rfl rfl (by first | decide | omega) ?_
      exact k0 (hz.elim (fun w => w.2) (fun w => by omega)) _ hS
  refine b_aload_n rfl rfl ?_
  refine b_getR (r := 3) rfl fl11_19 rfl (by decide) rfl rfl ?_
  refine b_iconst rfl (by decide) ?_
  refine b_iload_n rfl rfl ?_
  refine b_callV2i (ν := MX3_knows) rfl ml11_175 cvX3_knows (d' := 0) (by omega) rfl (by decide) rfl (Nat.le_of_ble_eq_true rfl) ?_
  refine spf_knows (fun hk => ?_) (fun hk => ?_)
  · refine ⟨_, rfl, ?_⟩
    refine b_if_ne (tgt := 18) rfl rfl (fun _ => ?_) (fun z => absurd z (by decide))
    have h2 := hk.2.2
    have hbb := kO_b hW.1.1.1 hk
    obtain ⟨s, hsa⟩ : ∃ s : Nat, a = (s : Int) := ⟨a.toNat, by omega⟩
    have hs : (s : Int) < I 4 1 := by have : a < I 4 1 := h2.2; omega
    have hs6 : s < 6 := by omega
    have hts : a.toNat = s := by omega
    refine b_iload_n rfl rfl ?_
    refine b_iconst rfl (by decide) ?_
    refine b_icmp_ne (tgt := 44) rfl rfl (fun c20 => ?_) (fun c20 => ?_)
    · refine b_aload_n rfl rfl ?_
      refine b_iload_n rfl rfl ?_
      refine b_iload_n rfl rfl ?_
      refine b_callV2i (ν := MX11_canTake) rfl ml11_303 cvX11_canTake (d' := 5) (by omega) rfl (by decide) rfl (Nat.le_of_ble_eq_true rfl) ?_
      refine sp_X11_canTake' hsa hW hs (fun hf K hS => ?_) (fun hf K hS => ?_)
      · refine ⟨_, rfl, ?_⟩
        refine b_istoreX_n (F := fun z50 => [some (aR 0), some (aI a), some (aI b), some (aI z50)]) rfl (by decide) (fun _ => rfl) (fun z50 ez50 => ?_)
        subst hsa
        first
          | exact fin s _ _ hk rfl hs6 rr (Or.inr ⟨by omega, hk, Or.inl ⟨by omega, by rw [hts]; omega⟩⟩)
          | exact fin s _ _ hk rfl hs6 rr (Or.inl ⟨by omega, fun z => z.2.elim (fun w => by have := w.2; rw [hts] at this; omega) (fun w => by omega)⟩)
          | exact fin s _ _ hk rfl hs6 hS (Or.inr ⟨by omega, hk, Or.inr ⟨by omega, by rw [hts]; exact hf⟩⟩)
          | exact fin s _ _ hk rfl hs6 hS (Or.inl ⟨by omega, fun z => z.2.elim (fun w => by omega) (fun w => hf (by have := w.2; rw [hts] at this; exact this))⟩)
      · refine ⟨_, rfl, ?_⟩
        refine b_istoreX_n (F := fun z50 => [some (aR 0), some (aI a), some (aI b), some (aI z50)]) rfl (by decide) (fun _ => rfl) (fun z50 ez50 => ?_)
        subst hsa
        first
          | exact fin s _ _ hk rfl hs6 rr (Or.inr ⟨by omega, hk, Or.inl ⟨by omega, by rw [hts]; omega⟩⟩)
          | exact fin s _ _ hk rfl hs6 rr (Or.inl ⟨by omega, fun z => z.2.elim (fun w => by have := w.2; rw [hts] at this; omega) (fun w => by omega)⟩)
          | exact fin s _ _ hk rfl hs6 hS (Or.inr ⟨by omega, hk, Or.inr ⟨by omega, by rw [hts]; exact hf⟩⟩)
          | exact fin s _ _ hk rfl hs6 hS (Or.inl ⟨by omega, fun z => z.2.elim (fun w => by omega) (fun w => hf (by have := w.2; rw [hts] at this; exact this))⟩)
    · refine b_aload_n rfl rfl ?_
      refine b_getR (r := 30) rfl fl11_44 rfl (by decide) rfl rfl ?_
      refine b_getR (r := 31) rfl fl11_205 rfl (by decide) rfl rfl ?_
      refine b_iload_n rfl rfl ?_
      refine b_iald rfl rfl (by omega) (by omega) ?_
      rw [hts]
      refine b_iconst rfl (by decide) ?_
      refine b_icmp_eq (tgt := 40) rfl rfl (fun c33 => ?_) (fun c33 => ?_)
      · refine b_iconst rfl (by decide) ?_
        refine b_goto (tgt := 50) rfl rfl ?_
        refine b_istoreX_n (F := fun z50 => [some (aR 0), some (aI a), some (aI b), some (aI z50)]) rfl (by decide) (fun _ => rfl) (fun z50 ez50 => ?_)
        subst hsa
        first
          | exact fin s _ _ hk rfl hs6 rr (Or.inr ⟨by omega, hk, Or.inl ⟨by omega, by rw [hts]; omega⟩⟩)
          | exact fin s _ _ hk rfl hs6 rr (Or.inl ⟨by omega, fun z => z.2.elim (fun w => by have := w.2; rw [hts] at this; omega) (fun w => by omega)⟩)
          | exact fin s _ _ hk rfl hs6 hS (Or.inr ⟨by omega, hk, Or.inr ⟨by omega, by rw [hts]; exact hf⟩⟩)
          | exact fin s _ _ hk rfl hs6 hS (Or.inl ⟨by omega, fun z => z.2.elim (fun w => by omega) (fun w => hf (by have := w.2; rw [hts] at this; exact this))⟩)
      · refine b_iconst rfl (by decide) ?_
        refine b_goto (tgt := 50) rfl rfl ?_
        refine b_istoreX_n (F := fun z50 => [some (aR 0), some (aI a), some (aI b), some (aI z50)]) rfl (by decide) (fun _ => rfl) (fun z50 ez50 => ?_)
        subst hsa
        first
          | exact fin s _ _ hk rfl hs6 rr (Or.inr ⟨by omega, hk, Or.inl ⟨by omega, by rw [hts]; omega⟩⟩)
          | exact fin s _ _ hk rfl hs6 rr (Or.inl ⟨by omega, fun z => z.2.elim (fun w => by have := w.2; rw [hts] at this; omega) (fun w => by omega)⟩)
          | exact fin s _ _ hk rfl hs6 hS (Or.inr ⟨by omega, hk, Or.inr ⟨by omega, by rw [hts]; exact hf⟩⟩)
          | exact fin s _ _ hk rfl hs6 hS (Or.inl ⟨by omega, fun z => z.2.elim (fun w => by omega) (fun w => hf (by have := w.2; rw [hts] at this; exact this))⟩)
  · refine ⟨_, rfl, ?_⟩
    refine b_if_ne (tgt := 18) rfl rfl (fun z => absurd z (by decide)) (fun _ => ?_)
    refine b_aload_n rfl rfl ?_
    refine b_iconst rfl (by decide) ?_
    refine b_callV1i (ν := MX11_refuses) rfl ml11_108 cvX11_refuses (d' := 1) (by omega) rfl (by decide) rfl (Nat.le_of_ble_eq_true rfl) ?_
    refine sp_X11_refuses (k := 3) (by decide) ?_
    refine ⟨_, rfl, ?_⟩
    refine b_zret rfl rfl (by first | decide | omega) ?_
    exact k0 (fun z => hk z.1) _ rr
