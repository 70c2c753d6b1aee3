/-! ===== the reference: swaps ===== -/
def sw4 (g : Nat → Int) (ca oa cb ob : Nat) : Nat → Int := ad (ad (ad (ad g ca (-1)) cb (-1)) oa 1) ob 1
theorem sw4_back {g : Nat → Int} {ca oa cb ob : Nat} : ad (ad (ad (ad (sw4 g ca oa cb ob) oa (-1)) ob (-1)) ca 1) cb 1 = g := by
  funext x
  unfold sw4 ad
  split <;> split <;> split <;> split <;> omega
theorem ad_b {F : Nat → Int} {n : Int} (h : ∀ c, 144 ≤ c → c < 288 → -n ≤ F c ∧ F c ≤ n) (c : Nat) (v : Int) (hv : v = 1 ∨ v = -1) : ∀ x, 144 ≤ x → x < 288 → -(n + 1) ≤ ad F c v x ∧ ad F c v x ≤ n + 1 := by
  intro x hx1 hx2
  have := h x hx1 hx2
  unfold ad
  split <;> omega
theorem row_adm {H : HI} {g : Nat → Int} {c : Nat} : up (row H 87 g) 87 c (g c - 1) = row H 87 (ad g c (-1)) := by rw [row_ud, ud_adm]
theorem row_ad {H : HI} {g : Nat → Int} {c : Nat} : up (row H 87 g) 87 c (g c + 1) = row H 87 (ad g c 1) := by rw [row_ud, ud_ad]
theorem spm_swapsBack {H : HI} {Q : Option AV → HI → Prop} {g : Nat → Int} {ca wa cb wb : Nat} (hg : ∀ c, 144 ≤ c → c < 288 → -100 ≤ g c ∧ g c ≤ 100) (h1 : wa ≤ ca ∧ wb ≤ cb ∧ wa < 6 ∧ wb < 6 ∧ ca < 288 ∧ cb < 288 ∧ 144 ≤ ca - wa ∧ 144 ≤ cb - wb ∧ ca - wa + 5 < 288 ∧ cb - wb + 5 < 288) (kq : Q none (row H 87 (ad (ad (ad (ad g (ca - wa + wb) (-1)) (cb - wb + wa) (-1)) ca 1) cb 1))) : Rj MX12_swapsBack 0 [aR 57, aI (ca : Int), aI (wa : Int), aI (cb : Int), aI (wb : Int)] (row H 87 g) Q := by
  have b1 := ad_b hg (ca - wa + wb) (-1) (Or.inr rfl)
  have b2 := ad_b b1 (cb - wb + wa) (-1) (Or.inr rfl)
  have b3 := ad_b b2 ca 1 (Or.inl rfl)
  have v0 := hg (ca - wa + wb) (by omega) (by omega)
  have v1 := b1 (cb - wb + wa) (by omega) (by omega)
  have v2 := b2 ca (by omega) (by omega)
  have v3 := b3 cb (by omega) (by omega)
  have e1 : ((ca : Int) - wa + wb).toNat = ca - wa + wb := by omega
  have e2 : ((cb : Int) - wb + wa).toNat = cb - wb + wa := by omega
  refine rj_of okX12_swapsBack (Nat.le_of_ble_eq_true rfl) rfl ?_
  refine b_aload_n rfl rfl ?_
  refine b_getR (r := 87) rfl fl12_162 rfl (by decide) rfl rfl ?_
  refine b_iload_n rfl rfl ?_
  refine b_iload_n rfl rfl ?_
  refine b_isubN rfl (by omega) (by omega) ?_
  refine b_iload rfl rfl ?_
  refine b_iaddN rfl (by omega) (by omega) ?_
  refine b_dup2 rfl rfl rfl ?_
  refine b_iald rfl rfl (by omega) (by omega) ?_
  try simp only [tn6, tn4, tn2, tn144, tn24, tn_cast, Int.reduceToNat]
  rw [e1, row_same]
  refine b_iconst rfl (by decide) ?_
  refine b_isubN rfl (by omega) (by omega) ?_
  refine b_iast rfl rfl (by omega) (by omega) ?_
  try simp only [tn6, tn4, tn2, tn144, tn24, tn_cast, Int.reduceToNat]
  rw [e1, row_adm]
  refine b_aload_n rfl rfl ?_
  refine b_getR (r := 87) rfl fl12_162 rfl (by decide) rfl rfl ?_
  refine b_iload_n rfl rfl ?_
  refine b_iload rfl rfl ?_
  refine b_isubN rfl (by omega) (by omega) ?_
  refine b_iload_n rfl rfl ?_
  refine b_iaddN rfl (by omega) (by omega) ?_
  refine b_dup2 rfl rfl rfl ?_
  refine b_iald rfl rfl (by omega) (by omega) ?_
  try simp only [tn6, tn4, tn2, tn144, tn24, tn_cast, Int.reduceToNat]
  rw [e2, row_same]
  refine b_iconst rfl (by decide) ?_
  refine b_isubN rfl (by omega) (by omega) ?_
  refine b_iast rfl rfl (by omega) (by omega) ?_
  try simp only [tn6, tn4, tn2, tn144, tn24, tn_cast, Int.reduceToNat]
  rw [e2, row_adm]
  refine b_aload_n rfl rfl ?_
  refine b_getR (r := 87) rfl fl12_162 rfl (by decide) rfl rfl ?_
  refine b_iload_n rfl rfl ?_
  refine b_dup2 rfl rfl rfl ?_
  refine b_iald rfl rfl (by omega) (by omega) ?_
  try simp only [tn6, tn4, tn2, tn144, tn24, tn_cast, Int.reduceToNat]
  rw [row_same]
  refine b_iconst rfl (by decide) ?_
  refine b_iaddN rfl (by omega) (by omega) ?_
  refine b_iast rfl rfl (by omega) (by omega) ?_
  try simp only [tn6, tn4, tn2, tn144, tn24, tn_cast, Int.reduceToNat]
  rw [row_ad]
  refine b_aload_n rfl rfl ?_
  refine b_getR (r := 87) rfl fl12_162 rfl (by decide) rfl rfl ?_
  refine b_iload_n rfl rfl ?_
  refine b_dup2 rfl rfl rfl ?_
  refine b_iald rfl rfl (by omega) (by omega) ?_
  try simp only [tn6, tn4, tn2, tn144, tn24, tn_cast, Int.reduceToNat]
  rw [row_same]
  refine b_iconst rfl (by decide) ?_
  refine b_iaddN rfl (by omega) (by omega) ?_
  refine b_iast rfl rfl (by omega) (by omega) ?_
  try simp only [tn6, tn4, tn2, tn144, tn24, tn_cast, Int.reduceToNat]
  refine b_vret rfl rfl ?_
  rw [row_ad]
  exact kq
def swOK (g : Nat → Int) (ca oa cb ob : Nat) : Prop := g ca ≠ 0 ∧ g cb ≠ 0 ∧ sw4 g ca oa cb ob oa ≤ 20 ∧ sw4 g ca oa cb ob ob ≤ 20
theorem spm_swapped {H : HI} {Q : Option AV → HI → Prop} {g : Nat → Int} {ca wa cb wb : Nat} (hg : ∀ c, 144 ≤ c → c < 288 → -50 ≤ g c ∧ g c ≤ 50) (h1 : wa ≤ ca ∧ wb ≤ cb ∧ wa < 6 ∧ wb < 6 ∧ ca < 288 ∧ cb < 288 ∧ 144 ≤ ca - wa ∧ 144 ≤ cb - wb ∧ ca - wa + 5 < 288 ∧ cb - wb + 5 < 288) (k1 : swOK g ca (ca - wa + wb) cb (cb - wb + wa) → Q (some (aI 1)) (row H 87 (sw4 g ca (ca - wa + wb) cb (cb - wb + wa)))) (k0 : ¬ swOK g ca (ca - wa + wb) cb (cb - wb + wa) → Q (some (aI 0)) (row H 87 g)) : Rj MX12_swapped 1 [aR 57, aI (ca : Int), aI (wa : Int), aI (cb : Int), aI (wb : Int)] (row H 87 g) Q := by
  have b1 := ad_b hg ca (-1) (Or.inr rfl)
  have b2 := ad_b b1 cb (-1) (Or.inr rfl)
  have b3 := ad_b b2 (ca - wa + wb) 1 (Or.inl rfl)
  have b4 := ad_b b3 (cb - wb + wa) 1 (Or.inl rfl)
  have v0 := hg ca (by omega) (by omega)
  have v1 := b1 cb (by omega) (by omega)
  have v2 := b2 (ca - wa + wb) (by omega) (by omega)
  have v3 := b3 (cb - wb + wa) (by omega) (by omega)
  have e1 : ((ca : Int) - wa + wb).toNat = ca - wa + wb := by omega
  have e2 : ((cb : Int) - wb + wa).toNat = cb - wb + wa := by omega
  have es : ad (ad (ad (ad g ca (-1)) cb (-1)) (ca - wa + wb) 1) (cb - wb + wa) 1 = sw4 g ca (ca - wa + wb) cb (cb - wb + wa) := rfl
  have b5 : ∀ c, 144 ≤ c → c < 288 → -100 ≤ sw4 g ca (ca - wa + wb) cb (cb - wb + wa) c ∧ sw4 g ca (ca - wa + wb) cb (cb - wb + wa) c ≤ 100 := fun c hc1 hc2 => by have := b4 c hc1 hc2; rw [es] at this; omega
  unfold swOK at k1 k0
  refine rj_of okX12_swapped (Nat.le_of_ble_eq_true rfl) rfl ?_
  refine b_aload_n rfl rfl ?_
  refine b_getR (r := 87) rfl fl12_162 rfl (by decide) rfl rfl ?_
  refine b_iload_n rfl rfl ?_
  refine b_iald rfl rfl (by omega) (by omega) ?_
  try simp only [tn6, tn4, tn2, tn144, tn24, tn_cast, Int.reduceToNat]
  rw [row_same]
  refine b_if_eq (tgt := 18) rfl rfl (fun c6 => ?_) (fun c6 => ?_)
  · refine b_iconst rfl (by decide) ?_
    refine b_zret rfl rfl (by first | decide | omega) ?_
    first
    | exact k1 ⟨by assumption, by assumption, by omega, by omega⟩
    | exact k0 (fun w => by have := w.2.2.2; omega)
    | exact k0 (fun w => by have := w.2.2.1; omega)
    | exact k0 (fun w => w.2.1 (by assumption))
    | exact k0 (fun w => w.1 (by assumption))
  · refine b_aload_n rfl rfl ?_
    refine b_getR (r := 87) rfl fl12_162 rfl (by decide) rfl rfl ?_
    refine b_iload_n rfl rfl ?_
    refine b_iald rfl rfl (by omega) (by omega) ?_
    try simp only [tn6, tn4, tn2, tn144, tn24, tn_cast, Int.reduceToNat]
    rw [row_same]
    refine b_if_ne (tgt := 20) rfl rfl (fun c15 => ?_) (fun c15 => ?_)
    · refine b_aload_n rfl rfl ?_
      refine b_getR (r := 87) rfl fl12_162 rfl (by decide) rfl rfl ?_
      refine b_iload_n rfl rfl ?_
      refine b_dup2 rfl rfl rfl ?_
      refine b_iald rfl rfl (by omega) (by omega) ?_
      try simp only [tn6, tn4, tn2, tn144, tn24, tn_cast, Int.reduceToNat]
      rw [row_same]
      refine b_iconst rfl (by decide) ?_
      refine b_isubN rfl (by omega) (by omega) ?_
      refine b_iast rfl rfl (by omega) (by omega) ?_
      try simp only [tn6, tn4, tn2, tn144, tn24, tn_cast, Int.reduceToNat]
      rw [row_adm]
      refine b_aload_n rfl rfl ?_
      refine b_getR (r := 87) rfl fl12_162 rfl (by decide) rfl rfl ?_
      refine b_iload_n rfl rfl ?_
      refine b_dup2 rfl rfl rfl ?_
      refine b_iald rfl rfl (by omega) (by omega) ?_
      try simp only [tn6, tn4, tn2, tn144, tn24, tn_cast, Int.reduceToNat]
      rw [row_same]
      refine b_iconst rfl (by decide) ?_
      refine b_isubN rfl (by omega) (by omega) ?_
      refine b_iast rfl rfl (by omega) (by omega) ?_
      try simp only [tn6, tn4, tn2, tn144, tn24, tn_cast, Int.reduceToNat]
      rw [row_adm]
      refine b_aload_n rfl rfl ?_
      refine b_getR (r := 87) rfl fl12_162 rfl (by decide) rfl rfl ?_
      refine b_iload_n rfl rfl ?_
      refine b_iload_n rfl rfl ?_
      refine b_isubN rfl (by omega) (by omega) ?_
      refine b_iload rfl rfl ?_
      refine b_iaddN rfl (by omega) (by omega) ?_
      refine b_dup2 rfl rfl rfl ?_
      refine b_iald rfl rfl (by omega) (by omega) ?_
      try simp only [tn6, tn4, tn2, tn144, tn24, tn_cast, Int.reduceToNat]
      rw [e1, row_same]
      refine b_iconst rfl (by decide) ?_
      refine b_iaddN rfl (by omega) (by omega) ?_
      refine b_iast rfl rfl (by omega) (by omega) ?_
      try simp only [tn6, tn4, tn2, tn144, tn24, tn_cast, Int.reduceToNat]
      rw [e1, row_ad]
      refine b_aload_n rfl rfl ?_
      refine b_getR (r := 87) rfl fl12_162 rfl (by decide) rfl rfl ?_
      refine b_iload_n rfl rfl ?_
      refine b_iload rfl rfl ?_
      refine b_isubN rfl (by omega) (by omega) ?_
      refine b_iload_n rfl rfl ?_
      refine b_iaddN rfl (by omega) (by omega) ?_
      refine b_dup2 rfl rfl rfl ?_
      refine b_iald rfl rfl (by omega) (by omega) ?_
      try simp only [tn6, tn4, tn2, tn144, tn24, tn_cast, Int.reduceToNat]
      rw [e2, row_same]
      refine b_iconst rfl (by decide) ?_
      refine b_iaddN rfl (by omega) (by omega) ?_
      refine b_iast rfl rfl (by omega) (by omega) ?_
      try simp only [tn6, tn4, tn2, tn144, tn24, tn_cast, Int.reduceToNat]
      rw [e2, row_ad, es]
      refine b_aload_n rfl rfl ?_
      refine b_getR (r := 87) rfl fl12_162 rfl (by decide) rfl rfl ?_
      refine b_iload_n rfl rfl ?_
      refine b_iload_n rfl rfl ?_
      refine b_isubN rfl (by omega) (by omega) ?_
      refine b_iload rfl rfl ?_
      refine b_iaddN rfl (by omega) (by omega) ?_
      refine b_iald rfl rfl (by omega) (by omega) ?_
      try simp only [tn6, tn4, tn2, tn144, tn24, tn_cast, Int.reduceToNat]
      rw [e1, row_same]
      refine b_bipush rfl (by decide) ?_
      refine b_icmp_gt (tgt := 104) rfl rfl (fun c83 => ?_) (fun c83 => ?_)
      · refine b_aload_n rfl rfl ?_
        refine b_iload_n rfl rfl ?_
        refine b_iload_n rfl rfl ?_
        refine b_iload_n rfl rfl ?_
        refine b_iload rfl rfl ?_
        refine b_callV4v (ν := MX12_swapsBack) rfl ml12_528 cvX12_swapsBack (d' := 0) (by omega) rfl (by decide) rfl (Nat.le_of_ble_eq_true rfl) ?_
        refine spm_swapsBack b5 h1 ?_
        rw [sw4_back]
        refine ⟨rfl, ?_⟩
        refine b_iconst rfl (by decide) ?_
        refine b_zret rfl rfl (by first | decide | omega) ?_
        first
        | exact k1 ⟨by assumption, by assumption, by omega, by omega⟩
        | exact k0 (fun w => by have := w.2.2.2; omega)
        | exact k0 (fun w => by have := w.2.2.1; omega)
        | exact k0 (fun w => w.2.1 (by assumption))
        | exact k0 (fun w => w.1 (by assumption))
      · refine b_aload_n rfl rfl ?_
        refine b_getR (r := 87) rfl fl12_162 rfl (by decide) rfl rfl ?_
        refine b_iload_n rfl rfl ?_
        refine b_iload rfl rfl ?_
        refine b_isubN rfl (by omega) (by omega) ?_
        refine b_iload_n rfl rfl ?_
        refine b_iaddN rfl (by omega) (by omega) ?_
        refine b_iald rfl rfl (by omega) (by omega) ?_
        try simp only [tn6, tn4, tn2, tn144, tn24, tn_cast, Int.reduceToNat]
        rw [e2, row_same]
        refine b_bipush rfl (by decide) ?_
        refine b_icmp_gt (tgt := 104) rfl rfl (fun c99 => ?_) (fun c99 => ?_)
        · refine b_aload_n rfl rfl ?_
          refine b_iload_n rfl rfl ?_
          refine b_iload_n rfl rfl ?_
          refine b_iload_n rfl rfl ?_
          refine b_iload rfl rfl ?_
          refine b_callV4v (ν := MX12_swapsBack) rfl ml12_528 cvX12_swapsBack (d' := 0) (by omega) rfl (by decide) rfl (Nat.le_of_ble_eq_true rfl) ?_
          refine spm_swapsBack b5 h1 ?_
          rw [sw4_back]
          refine ⟨rfl, ?_⟩
          refine b_iconst rfl (by decide) ?_
          refine b_zret rfl rfl (by first | decide | omega) ?_
          first
          | exact k1 ⟨by assumption, by assumption, by omega, by omega⟩
          | exact k0 (fun w => by have := w.2.2.2; omega)
          | exact k0 (fun w => by have := w.2.2.1; omega)
          | exact k0 (fun w => w.2.1 (by assumption))
          | exact k0 (fun w => w.1 (by assumption))
        · refine b_iconst rfl (by decide) ?_
          refine b_zret rfl rfl (by first | decide | omega) ?_
          first
          | exact k1 ⟨by assumption, by assumption, by omega, by omega⟩
          | exact k0 (fun w => by have := w.2.2.2; omega)
          | exact k0 (fun w => by have := w.2.2.1; omega)
          | exact k0 (fun w => w.2.1 (by assumption))
          | exact k0 (fun w => w.1 (by assumption))
    · refine b_iconst rfl (by decide) ?_
      refine b_zret rfl rfl (by first | decide | omega) ?_
      first
      | exact k1 ⟨by assumption, by assumption, by omega, by omega⟩
      | exact k0 (fun w => by have := w.2.2.2; omega)
      | exact k0 (fun w => by have := w.2.2.1; omega)
      | exact k0 (fun w => w.2.1 (by assumption))
      | exact k0 (fun w => w.1 (by assumption))
theorem spm_swapped' {H : HI} {Q : Option AV → HI → Prop} {g : Nat → Int} {ca wa cb wb : Nat} {y z : Int} (hy : y = (ca : Int)) (hz : z = (cb : Int)) (hg : ∀ c, 144 ≤ c → c < 288 → -50 ≤ g c ∧ g c ≤ 50) (h1 : wa ≤ ca ∧ wb ≤ cb ∧ wa < 6 ∧ wb < 6 ∧ ca < 288 ∧ cb < 288 ∧ 144 ≤ ca - wa ∧ 144 ≤ cb - wb ∧ ca - wa + 5 < 288 ∧ cb - wb + 5 < 288) (k1 : swOK g ca (ca - wa + wb) cb (cb - wb + wa) → Q (some (aI 1)) (row H 87 (sw4 g ca (ca - wa + wb) cb (cb - wb + wa)))) (k0 : ¬ swOK g ca (ca - wa + wb) cb (cb - wb + wa) → Q (some (aI 0)) (row H 87 g)) : Rj MX12_swapped 1 [aR 57, aI y, aI (wa : Int), aI z, aI (wb : Int)] (row H 87 g) Q := by
  subst hy
  subst hz
  exact spm_swapped hg h1 k1 k0
theorem spm_swapsBack' {H : HI} {Q : Option AV → HI → Prop} {g : Nat → Int} {ca wa cb wb : Nat} {y z : Int} (hy : y = (ca : Int)) (hz : z = (cb : Int)) (hg : ∀ c, 144 ≤ c → c < 288 → -100 ≤ g c ∧ g c ≤ 100) (h1 : wa ≤ ca ∧ wb ≤ cb ∧ wa < 6 ∧ wb < 6 ∧ ca < 288 ∧ cb < 288 ∧ 144 ≤ ca - wa ∧ 144 ≤ cb - wb ∧ ca - wa + 5 < 288 ∧ cb - wb + 5 < 288) (kq : Q none (row H 87 (ad (ad (ad (ad g (ca - wa + wb) (-1)) (cb - wb + wa) (-1)) ca 1) cb 1))) : Rj MX12_swapsBack 0 [aR 57, aI y, aI (wa : Int), aI z, aI (wb : Int)] (row H 87 g) Q := by
  subst hy
  subst hz
  exact spm_swapsBack hg h1 kq
theorem spm_heavy {J K : HI} {Q : Option AV → HI → Prop} {C : Nat → List Int} {b w : Nat} (hR : RP J K C b) (hw : (w : Int) < J 4 0) (kq : Q (some (aI (J 6 w - J 7 w))) K) : Rj MX12_heavy 0 [aR 57, aI (w : Int)] K Q := by
  have hb := hR.1
  have hb2 := hR.2.1
  have hp := hR.2.2.2.2.2.2.2.2.2
  have hw6 : w < 6 := by have := hp.1 0 (by decide); omega
  have r := hp.2.1 w hw6
  have q := hR.2.2.2.2.2.1 w hw
  have q1 := q.1
  have q2 := q.2
  refine rj_of okX12_heavy (Nat.le_of_ble_eq_true rfl) rfl ?_
  refine b_aload_n rfl rfl ?_
  refine b_getR (r := 60) rfl fl12_57 rfl (by decide) rfl rfl ?_
  refine b_bipush rfl (by decide) ?_
  refine b_aload_n rfl rfl ?_
  refine b_getI rfl fl12_51 rfl (by decide) rfl ?_
  rw [hb]
  refine b_imulN rfl (by omega) (by omega) ?_
  refine b_iload_n rfl rfl ?_
  refine b_iaddN rfl (by omega) (by omega) ?_
  refine b_iald rfl rfl (by omega) (by omega) ?_
  try simp only [tn6, tn4, tn2, tn144, tn24, tn_cast, Int.reduceToNat]
  rw [q1]
  refine b_aload_n rfl rfl ?_
  refine b_getR (r := 61) rfl fl12_60 rfl (by decide) rfl rfl ?_
  refine b_bipush rfl (by decide) ?_
  refine b_aload_n rfl rfl ?_
  refine b_getI rfl fl12_51 rfl (by decide) rfl ?_
  rw [hb]
  refine b_imulN rfl (by omega) (by omega) ?_
  refine b_iload_n rfl rfl ?_
  refine b_iaddN rfl (by omega) (by omega) ?_
  refine b_iald rfl rfl (by omega) (by omega) ?_
  try simp only [tn6, tn4, tn2, tn144, tn24, tn_cast, Int.reduceToNat]
  rw [q2]
  refine b_isubN rfl (by omega) (by omega) ?_
  refine b_iret rfl rfl ?_
  exact kq
theorem spm_isWithin {J K : HI} {Q : Option AV → HI → Prop} {C : Nat → List Int} {b s : Nat} {t : Int} (hR : RP J K C b) (hs : (s : Int) < J 4 1) (k1 : ab1 t (J 7 (6 + s)) → Q (some (aI 1)) K) (k0 : ¬ ab1 t (J 7 (6 + s)) → Q (some (aI 0)) K) : Rj MX12_isWithin 1 [aR 57, aI (s : Int), aI t] K Q := by
  have hb := hR.1
  have hb2 := hR.2.1
  have hp := hR.2.2.2.2.2.2.2.2.2
  have hs6 : s < 6 := by have := hp.1 1 (by decide); omega
  have r := hp.2.2.1 s hs
  have q2 := (hR.2.2.2.2.2.2.1 s hs).2
  unfold ab1 at k1 k0
  refine rj_of okX12_isWithin (Nat.le_of_ble_eq_true rfl) rfl ?_
  refine b_iload_n rfl rfl ?_
  refine b_aload_n rfl rfl ?_
  refine b_getR (r := 64) rfl fl12_69 rfl (by decide) rfl rfl ?_
  refine b_bipush rfl (by decide) ?_
  refine b_aload_n rfl rfl ?_
  refine b_getI rfl fl12_51 rfl (by decide) rfl ?_
  rw [hb]
  refine b_imulN rfl (by omega) (by omega) ?_
  refine b_iload_n rfl rfl ?_
  refine b_iaddN rfl (by omega) (by omega) ?_
  refine b_iald rfl rfl (by omega) (by omega) ?_
  try simp only [tn6, tn4, tn2, tn144, tn24, tn_cast, Int.reduceToNat]
  rw [q2]
  refine b_inegN rfl (by omega) (by omega) ?_
  refine b_aload_n rfl rfl ?_
  refine b_getR (r := 64) rfl fl12_69 rfl (by decide) rfl rfl ?_
  refine b_bipush rfl (by decide) ?_
  refine b_aload_n rfl rfl ?_
  refine b_getI rfl fl12_51 rfl (by decide) rfl ?_
  rw [hb]
  refine b_imulN rfl (by omega) (by omega) ?_
  refine b_iload_n rfl rfl ?_
  refine b_iaddN rfl (by omega) (by omega) ?_
  refine b_iald rfl rfl (by omega) (by omega) ?_
  try simp only [tn6, tn4, tn2, tn144, tn24, tn_cast, Int.reduceToNat]
  rw [q2]
  refine b_callS3i (ν := MX12_is) rfl ml12_322 csX12_is (d' := 0) (by omega) (Nat.le_of_ble_eq_true rfl) ?_
  refine spm_is (fun hy => ?_) (fun hn => ?_)
  · refine ⟨_, rfl, ?_⟩
    refine b_zret rfl rfl (by first | decide | omega) ?_
    first | exact k1 hy | exact k0 hn
  · refine ⟨_, rfl, ?_⟩
    refine b_zret rfl rfl (by first | decide | omega) ?_
    first | exact k1 hy | exact k0 hn
/-- the crates that are tried -/
def tryF (g : Nat → Int) : Nat → Int := fun c => if c < 144 then g (144 + c) else 0
def ntJ (J : HI) : Nat → Int := fun w => J 6 w - J 7 w
def swC (g : Nat → Int) (a b x y : Nat) : Prop := swOK g (144 + 24 * a + x) (144 + 24 * a + x - x % 6 + y % 6) (144 + 24 * b + y) (144 + 24 * b + y - y % 6 + x % 6)
def byJ (J : HI) (x y : Nat) : Int := ntJ J (y % 6) - ntJ J (x % 6)
def l1P (J : HI) (g : Nat → Int) (a b : Nat) (tA tB : Int) (x y : Nat) : Prop := swC g a b x y ∧ ab1 (tA + sd ((x / 6 : Nat) : Int) * byJ J x y) (J 7 (6 + a)) ∧ ab1 (tB - sd ((y / 6 : Nat) : Int) * byJ J x y) (J 7 (6 + b))
def l1Q (J : HI) (g : Nat → Int) (a b : Nat) : Prop := ∃ x y, x < 24 ∧ y < 24 ∧ l1P J g a b (tOf J (tryF g) a) (tOf J (tryF g) b) x y
theorem mS_row {H : HI} {g : Nat → Int} {W L T N : Int} : mS (row H 87 g) W L T N = row (mS H W L T N) 87 g := by
  funext q j; simp only [mS, up_ap, row_ap]; grind
/-- what a try of swaps stands on -/
def TW (J H : HI) (C : Nat → List Int) (bk : Nat) (g : Nat → Int) (a b : Nat) : Prop := RP J (row H 87 g) C bk ∧ (∀ c, 144 ≤ c → c < 288 → -50 ≤ g c ∧ g c ≤ 50) ∧ (∀ c, 0 ≤ tryF g c ∧ tryF g c ≤ 20) ∧ ZF J (tryF g) ∧ (a : Int) < J 4 1 ∧ (b : Int) < J 4 1 ∧ a ≠ b
theorem try_ware {J : HI} {g : Nat → Int} {s x : Nat} (hp : pOK J) (hz : ZF J (tryF g)) (hs : (s : Int) < J 4 1) (hx : x < 24) (h : g (144 + 24 * s + x) ≠ 0) : ((x % 6 : Nat) : Int) < J 4 0 ∧ x / 6 < nH J s := by
  have hs6 : s < 6 := by have := hp.1 1 (by decide); omega
  refine Classical.byContradiction (fun w => h ?_)
  have := hz s (x / 6) (x % 6) hs6 (by omega) (by omega) (fun z => w ⟨z.2.2, z.2.1⟩)
  rw [show 24 * s + 6 * (x / 6) + x % 6 = 24 * s + x by omega] at this
  unfold tryF at this
  rw [if_pos (by omega), show 144 + (24 * s + x) = 144 + 24 * s + x by omega] at this
  exact this
theorem spm_levelsByOne {J H : HI} {Q : Option AV → HI → Prop} {C : Nat → List Int} {bk a b : Nat} {g : Nat → Int} (hT : TW J H C bk g a b) (k1 : l1Q J g a b → ∀ W L T N, Q (some (aI 1)) (row (mS H W L T N) 87 g)) (k0 : ¬ l1Q J g a b → ∀ W L T N, Q (some (aI 0)) (row (mS H W L T N) 87 g)) : Rj MX12_levelsByOne 2 [aR 57, aI (a : Int), aI (b : Int)] (row H 87 g) Q := by
  obtain ⟨hR, hg, hf, hz, ha, hb, hab⟩ := hT
  have hp := hR.2.2.2.2.2.2.2.2.2
  have h41 := hp.1 1 (by decide)
  have hRm : ∀ W L T N, RP J (row (mS H W L T N) 87 g) C bk := fun W L T N => by rw [← mS_row]; exact hR.mS
  have hcA := car_b hp (f := tryF g) (fun k => by have := hf k; omega) ha
  have hcB := car_b hp (f := tryF g) (fun k => by have := hf k; omega) hb
  have hcr : ∀ W L T N c, c < 144 → row (mS H W L T N) 87 g 87 (144 * 1 + c) = tryF g c := fun W L T N c hc => by
    rw [row_same]
    unfold tryF
    rw [if_pos hc, Nat.mul_one]
  have car : ∀ {Q : Option AV → HI → Prop} (W L T N : Int) (s : Nat), (s : Int) < J 4 1 → Q none (row (mS H (wOf J (tryF g) s) (lOf J (tryF g) s) (tOf J (tryF g) s) (nOf J (tryF g) s)) 87 g) → Rj MX12_carries 1 [aR 57, aI 1, aI (s : Int)] (row (mS H W L T N) 87 g) Q := by
    intro Q W L T N s hs kq
    refine spm_carries (v := 1) (hRm W L T N) (by decide) hs (hcr W L T N) (fun k => by have := hf k; omega) hz ?_
    unfold mCar
    rw [mS_row, mS_mS]
    exact kq
  unfold bd9 at hcA hcB
  generalize htA : tOf J (tryF g) a = tA at *
  generalize htB : tOf J (tryF g) b = tB at *
  unfold l1Q at k1 k0
  rw [htA, htB] at k1 k0
  have wB := wOf J (tryF g) b
  have outer : ∀ (W L T N : Int) (n x : Nat) (z : Int) (x7 x8 x9 x10 : Option AV), z = (x : Int) → x + n = 24 → (∀ x' y, x' < x → y < 24 → ¬ l1P J g a b tA tB x' y) → Bj MX12_levelsByOne 2 31 [some (aR 57), some (aI (a : Int)), some (aI (b : Int)), some (aI 144), some (aI tA), some (aI tB), some (aI z), x7, x8, x9, x10] [] (row (mS H W L T N) 87 g) Q := by
    intro W L T N n
    induction n with
    | zero =>
      intro x z x7 x8 x9 x10 hz hx hno
      refine b_iload rfl rfl ?_
      refine b_bipush rfl (by decide) ?_
      refine b_icmp_ge (tgt := 215) rfl rfl (fun c35 => ?_) (fun c35 => ?_)
      · refine b_iconst rfl (by decide) ?_
        refine b_zret rfl rfl (by first | decide | omega) ?_
        refine k0 (fun w => ?_) _ _ _ _
        obtain ⟨x', y, h1, h2, h3⟩ := w
        exact hno x' y (by omega) h2 h3
      · omega
    | succ n ih =>
      intro x z x7 x8 x9 x10 hz hx hno
      subst hz
      have gA := hg (144 + 24 * a + x) (by omega) (by omega)
      have fA := hf (24 * a + x)
      have fA2 : tryF g (24 * a + x) = g (144 + 24 * a + x) := by unfold tryF; rw [if_pos (by omega), show 144 + (24 * a + x) = 144 + 24 * a + x by omega]
      have next : (∀ y, y < 24 → ¬ l1P J g a b tA tB x y) → ∀ (z : Int) (x7 x8 x9 x10 : Option AV), z = (x : Int) + 1 → Bj MX12_levelsByOne 2 31 [some (aR 57), some (aI (a : Int)), some (aI (b : Int)), some (aI 144), some (aI tA), some (aI tB), some (aI z), x7, x8, x9, x10] [] (row (mS H W L T N) 87 g) Q := by
        intro hn z x7 x8 x9 x10 hz
        refine ih (x + 1) z _ _ _ _ (by omega) (by omega) (fun x' y h1 h2 => ?_)
        by_cases e : x' = x
        · subst e; exact hn y h2
        · exact hno x' y (by omega) h2
      have inner : ∀ (n y : Nat) (z : Int) (x9 x10 : Option AV), z = (y : Int) → y + n = 24 → (∀ y', y' < y → ¬ l1P J g a b tA tB x y') → Bj MX12_levelsByOne 2 52 [some (aR 57), some (aI (a : Int)), some (aI (b : Int)), some (aI 144), some (aI tA), some (aI tB), some (aI (x : Int)), some (aI ((144 + 24 * a + x : Nat) : Int)), some (aI z), x9, x10] [] (row (mS H W L T N) 87 g) Q := by
        intro n
        induction n with
        | zero =>
          intro y z x9 x10 hz hy hn2
          refine b_iload rfl rfl ?_
          refine b_bipush rfl (by decide) ?_
          refine b_icmp_ge (tgt := 209) rfl rfl (fun c56 => ?_) (fun c56 => ?_)
          · refine b_iincX (F := fun z209 => [some (aR 57), some (aI (a : Int)), some (aI (b : Int)), some (aI (144 : Int)), some (aI tA), some (aI tB), some (aI z209), some (aI ((144 + 24 * a + x : Nat) : Int)), some (aI z), x9, x10]) rfl rfl (by omega) (by omega) (fun _ => rfl) (fun z209 ez209 => ?_)
            refine b_goto (tgt := 31) rfl rfl ?_
            exact next (fun y' h => hn2 y' (by omega)) _ _ _ _ _ (by omega)
          · omega
        | succ n ihn =>
          intro y z x9 x10 hz hy hn2
          subst hz
          have id1 : (x : Int) % 6 = ((x % 6 : Nat) : Int) := by omega
          have id2 : (y : Int) % 6 = ((y % 6 : Nat) : Int) := by omega
          have cB : (144 : Int) + 24 * (b : Int) + (y : Int) = ((144 + 24 * b + y : Nat) : Int) := by omega
          have sdx : sd ((x / 6 : Nat) : Int) = if x / 6 % 2 = 0 then 1 else -1 := by
            unfold sd
            by_cases e : x / 6 % 2 = 0
            · rw [if_pos (by omega), if_pos e]
            · rw [if_neg (by omega), if_neg e]
          have sdy : sd ((y / 6 : Nat) : Int) = if y / 6 % 2 = 0 then 1 else -1 := by
            unfold sd
            by_cases e : y / 6 % 2 = 0
            · rw [if_pos (by omega), if_pos e]
            · rw [if_neg (by omega), if_neg e]
          have skip : ¬ l1P J g a b tA tB x y → ∀ (z : Int) (x9 x10 : Option AV), z = (y : Int) + 1 → Bj MX12_levelsByOne 2 52 [some (aR 57), some (aI (a : Int)), some (aI (b : Int)), some (aI 144), some (aI tA), some (aI tB), some (aI (x : Int)), some (aI ((144 + 24 * a + x : Nat) : Int)), some (aI z), x9, x10] [] (row (mS H W L T N) 87 g) Q := by
            intro hn z x9 x10 hz
            refine ihn (y + 1) z _ _ (by omega) (by omega) (fun y' h => ?_)
            by_cases e : y' = y
            · subst e; exact hn
            · exact hn2 y' (by omega)
          have swb : ∀ c, 144 ≤ c → c < 288 → -100 ≤ sw4 g (144 + 24 * a + x) (144 + 24 * a + x - x % 6 + y % 6) (144 + 24 * b + y) (144 + 24 * b + y - y % 6 + x % 6) c ∧ sw4 g (144 + 24 * a + x) (144 + 24 * a + x - x % 6 + y % 6) (144 + 24 * b + y) (144 + 24 * b + y - y % 6 + x % 6) c ≤ 100 := fun c hc1 hc2 => by
            have := ad_b (ad_b (ad_b (ad_b hg (144 + 24 * a + x) (-1) (Or.inr rfl)) (144 + 24 * b + y) (-1) (Or.inr rfl)) (144 + 24 * a + x - x % 6 + y % 6) 1 (Or.inl rfl)) (144 + 24 * b + y - y % 6 + x % 6) 1 (Or.inl rfl) c hc1 hc2
            unfold sw4
            omega
          have good : swC g a b x y → ∀ (z10 : Int), z10 = byJ J x y → Bj MX12_levelsByOne 2 143 [some (aR 57), some (aI (a : Int)), some (aI (b : Int)), some (aI 144), some (aI tA), some (aI tB), some (aI (x : Int)), some (aI ((144 + 24 * a + x : Nat) : Int)), some (aI (y : Int)), some (aI ((144 + 24 * b + y : Nat) : Int)), some (aI z10)] [] (row (mS H W L T N) 87 g) Q := by
            intro hsw z10 hz10
            obtain ⟨wx, _⟩ := try_ware hp hz ha (by omega) hsw.1
            obtain ⟨wy, _⟩ := try_ware hp hz hb (by omega) hsw.2.1
            have r1 := hp.2.1 (x % 6) (by omega)
            have r2 := hp.2.1 (y % 6) (by omega)
            have hby : -198 ≤ byJ J x y ∧ byJ J x y ≤ 198 := by unfold byJ ntJ; omega
            have kk : ab1 (tA + sd ((x / 6 : Nat) : Int) * byJ J x y) (J 7 (6 + a)) → ab1 (tB - sd ((y / 6 : Nat) : Int) * byJ J x y) (J 7 (6 + b)) → Q (some (aI 1)) (row (mS H W L T N) 87 g) := fun h1 h2 => k1 ⟨x, y, by omega, by omega, hsw, h1, h2⟩ _ _ _ _
            unfold l1P at skip
            rw [sdx, sdy] at kk skip
            generalize byJ J x y = by_ at *
            subst hz10
            refine b_aload_n rfl rfl ?_
            refine b_iload_n rfl rfl ?_
            refine b_iload rfl rfl ?_
            refine b_iload rfl rfl ?_
            refine b_bipush rfl (by decide) ?_
            refine b_idivP rfl (by omega) (by omega) ?_
            refine b_iconst rfl (by decide) ?_
            refine b_iremP rfl (by omega) (by omega) ?_
            refine b_if_ne (tgt := 162) rfl rfl (fun c154 => ?_) (fun c154 => ?_)
            · refine b_iload rfl rfl ?_
              refine b_inegN rfl (by omega) (by omega) ?_
              refine b_iaddN rfl (by omega) (by omega) ?_
              refine b_callV2i (ν := MX12_isWithin) rfl ml12_539 cvX12_isWithin (d' := 1) (by omega) rfl (by decide) rfl (Nat.le_of_ble_eq_true rfl) ?_
              refine spm_isWithin (hRm W L T N) ha (fun hA1 => ?_) (fun hA0 => ?_)
              · refine ⟨_, rfl, ?_⟩
                refine b_if_eq (tgt := 203) rfl rfl (fun z => absurd z (by decide)) (fun _ => ?_)
                refine b_aload_n rfl rfl ?_
                refine b_iload_n rfl rfl ?_
                refine b_iload rfl rfl ?_
                refine b_iload rfl rfl ?_
                refine b_bipush rfl (by decide) ?_
                refine b_idivP rfl (by omega) (by omega) ?_
                refine b_iconst rfl (by decide) ?_
                refine b_iremP rfl (by omega) (by omega) ?_
                refine b_if_ne (tgt := 192) rfl rfl (fun c183 => ?_) (fun c183 => ?_)
                · refine b_iload rfl rfl ?_
                  refine b_iaddN rfl (by omega) (by omega) ?_
                  refine b_callV2i (ν := MX12_isWithin) rfl ml12_539 cvX12_isWithin (d' := 1) (by omega) rfl (by decide) rfl (Nat.le_of_ble_eq_true rfl) ?_
                  refine spm_isWithin (hRm W L T N) hb (fun hB1 => ?_) (fun hB0 => ?_)
                  · refine ⟨_, rfl, ?_⟩
                    refine b_if_eq (tgt := 203) rfl rfl (fun z => absurd z (by decide)) (fun _ => ?_)
                    refine b_iconst rfl (by decide) ?_
                    refine b_zret rfl rfl (by first | decide | omega) ?_
                    first
                    | (rw [if_pos (by omega), if_pos (by omega)] at kk; exact kk (by rw [Int.one_mul]; exact hA1) (by rw [Int.one_mul]; exact hB1))
                    | (rw [if_pos (by omega), if_neg (by omega)] at kk; exact kk (by rw [Int.one_mul]; exact hA1) (by rw [Int.neg_mul, Int.one_mul, Int.sub_neg]; exact hB1))
                    | (rw [if_neg (by omega), if_pos (by omega)] at kk; exact kk (by rw [Int.neg_mul, Int.one_mul]; exact hA1) (by rw [Int.one_mul]; exact hB1))
                    | (rw [if_neg (by omega), if_neg (by omega)] at kk; exact kk (by rw [Int.neg_mul, Int.one_mul]; exact hA1) (by rw [Int.neg_mul, Int.one_mul, Int.sub_neg]; exact hB1))
                  · refine ⟨_, rfl, ?_⟩
                    refine b_if_eq (tgt := 203) rfl rfl (fun _ => ?_) (fun z => absurd z (by decide))
                    refine b_iincX (F := fun z203 => [some (aR 57), some (aI (a : Int)), some (aI (b : Int)), some (aI (144 : Int)), some (aI tA), some (aI tB), some (aI (x : Int)), some (aI ((144 + 24 * a + x : Nat) : Int)), some (aI z203), some (aI ((144 + 24 * b + y : Nat) : Int)), some (aI z10)]) rfl rfl (by omega) (by omega) (fun _ => rfl) (fun z203 ez203 => ?_)
                    refine b_goto (tgt := 52) rfl rfl ?_
                    refine skip (fun w => ?_) _ _ _ (by omega)
                    obtain ⟨-, q1, q2⟩ := w
                    by_cases ex : x / 6 % 2 = 0 <;> by_cases ey : y / 6 % 2 = 0
                    · rw [if_pos ex, Int.one_mul] at q1
                      rw [if_pos ey, Int.one_mul] at q2
                      first | exact hB0 q2 | exact hA0 q1 | (exfalso; omega)
                    · rw [if_pos ex, Int.one_mul] at q1
                      rw [if_neg ey, Int.neg_mul, Int.one_mul, Int.sub_neg] at q2
                      first | exact hB0 q2 | exact hA0 q1 | (exfalso; omega)
                    · rw [if_neg ex, Int.neg_mul, Int.one_mul] at q1
                      rw [if_pos ey, Int.one_mul] at q2
                      first | exact hB0 q2 | exact hA0 q1 | (exfalso; omega)
                    · rw [if_neg ex, Int.neg_mul, Int.one_mul] at q1
                      rw [if_neg ey, Int.neg_mul, Int.one_mul, Int.sub_neg] at q2
                      first | exact hB0 q2 | exact hA0 q1 | (exfalso; omega)
                · refine b_iload rfl rfl ?_
                  refine b_inegN rfl (by omega) (by omega) ?_
                  refine b_goto (tgt := 194) rfl rfl ?_
                  refine b_iaddN rfl (by omega) (by omega) ?_
                  refine b_callV2i (ν := MX12_isWithin) rfl ml12_539 cvX12_isWithin (d' := 1) (by omega) rfl (by decide) rfl (Nat.le_of_ble_eq_true rfl) ?_
                  refine spm_isWithin (hRm W L T N) hb (fun hB1 => ?_) (fun hB0 => ?_)
                  · refine ⟨_, rfl, ?_⟩
                    refine b_if_eq (tgt := 203) rfl rfl (fun z => absurd z (by decide)) (fun _ => ?_)
                    refine b_iconst rfl (by decide) ?_
                    refine b_zret rfl rfl (by first | decide | omega) ?_
                    first
                    | (rw [if_pos (by omega), if_pos (by omega)] at kk; exact kk (by rw [Int.one_mul]; exact hA1) (by rw [Int.one_mul]; exact hB1))
                    | (rw [if_pos (by omega), if_neg (by omega)] at kk; exact kk (by rw [Int.one_mul]; exact hA1) (by rw [Int.neg_mul, Int.one_mul, Int.sub_neg]; exact hB1))
                    | (rw [if_neg (by omega), if_pos (by omega)] at kk; exact kk (by rw [Int.neg_mul, Int.one_mul]; exact hA1) (by rw [Int.one_mul]; exact hB1))
                    | (rw [if_neg (by omega), if_neg (by omega)] at kk; exact kk (by rw [Int.neg_mul, Int.one_mul]; exact hA1) (by rw [Int.neg_mul, Int.one_mul, Int.sub_neg]; exact hB1))
                  · refine ⟨_, rfl, ?_⟩
                    refine b_if_eq (tgt := 203) rfl rfl (fun _ => ?_) (fun z => absurd z (by decide))
                    refine b_iincX (F := fun z203 => [some (aR 57), some (aI (a : Int)), some (aI (b : Int)), some (aI (144 : Int)), some (aI tA), some (aI tB), some (aI (x : Int)), some (aI ((144 + 24 * a + x : Nat) : Int)), some (aI z203), some (aI ((144 + 24 * b + y : Nat) : Int)), some (aI z10)]) rfl rfl (by omega) (by omega) (fun _ => rfl) (fun z203 ez203 => ?_)
                    refine b_goto (tgt := 52) rfl rfl ?_
                    refine skip (fun w => ?_) _ _ _ (by omega)
                    obtain ⟨-, q1, q2⟩ := w
                    by_cases ex : x / 6 % 2 = 0 <;> by_cases ey : y / 6 % 2 = 0
                    · rw [if_pos ex, Int.one_mul] at q1
                      rw [if_pos ey, Int.one_mul] at q2
                      first | exact hB0 q2 | exact hA0 q1 | (exfalso; omega)
                    · rw [if_pos ex, Int.one_mul] at q1
                      rw [if_neg ey, Int.neg_mul, Int.one_mul, Int.sub_neg] at q2
                      first | exact hB0 q2 | exact hA0 q1 | (exfalso; omega)
                    · rw [if_neg ex, Int.neg_mul, Int.one_mul] at q1
                      rw [if_pos ey, Int.one_mul] at q2
                      first | exact hB0 q2 | exact hA0 q1 | (exfalso; omega)
                    · rw [if_neg ex, Int.neg_mul, Int.one_mul] at q1
                      rw [if_neg ey, Int.neg_mul, Int.one_mul, Int.sub_neg] at q2
                      first | exact hB0 q2 | exact hA0 q1 | (exfalso; omega)
              · refine ⟨_, rfl, ?_⟩
                refine b_if_eq (tgt := 203) rfl rfl (fun _ => ?_) (fun z => absurd z (by decide))
                refine b_iincX (F := fun z203 => [some (aR 57), some (aI (a : Int)), some (aI (b : Int)), some (aI (144 : Int)), some (aI tA), some (aI tB), some (aI (x : Int)), some (aI ((144 + 24 * a + x : Nat) : Int)), some (aI z203), some (aI ((144 + 24 * b + y : Nat) : Int)), some (aI z10)]) rfl rfl (by omega) (by omega) (fun _ => rfl) (fun z203 ez203 => ?_)
                refine b_goto (tgt := 52) rfl rfl ?_
                refine skip (fun w => ?_) _ _ _ (by omega)
                obtain ⟨-, q1, q2⟩ := w
                by_cases ex : x / 6 % 2 = 0 <;> by_cases ey : y / 6 % 2 = 0
                · rw [if_pos ex, Int.one_mul] at q1
                  rw [if_pos ey, Int.one_mul] at q2
                  first | exact hB0 q2 | exact hA0 q1 | (exfalso; omega)
                · rw [if_pos ex, Int.one_mul] at q1
                  rw [if_neg ey, Int.neg_mul, Int.one_mul, Int.sub_neg] at q2
                  first | exact hB0 q2 | exact hA0 q1 | (exfalso; omega)
                · rw [if_neg ex, Int.neg_mul, Int.one_mul] at q1
                  rw [if_pos ey, Int.one_mul] at q2
                  first | exact hB0 q2 | exact hA0 q1 | (exfalso; omega)
                · rw [if_neg ex, Int.neg_mul, Int.one_mul] at q1
                  rw [if_neg ey, Int.neg_mul, Int.one_mul, Int.sub_neg] at q2
                  first | exact hB0 q2 | exact hA0 q1 | (exfalso; omega)
            · refine b_iload rfl rfl ?_
              refine b_goto (tgt := 165) rfl rfl ?_
              refine b_iaddN rfl (by omega) (by omega) ?_
              refine b_callV2i (ν := MX12_isWithin) rfl ml12_539 cvX12_isWithin (d' := 1) (by omega) rfl (by decide) rfl (Nat.le_of_ble_eq_true rfl) ?_
              refine spm_isWithin (hRm W L T N) ha (fun hA1 => ?_) (fun hA0 => ?_)
              · refine ⟨_, rfl, ?_⟩
                refine b_if_eq (tgt := 203) rfl rfl (fun z => absurd z (by decide)) (fun _ => ?_)
                refine b_aload_n rfl rfl ?_
                refine b_iload_n rfl rfl ?_
                refine b_iload rfl rfl ?_
                refine b_iload rfl rfl ?_
                refine b_bipush rfl (by decide) ?_
                refine b_idivP rfl (by omega) (by omega) ?_
                refine b_iconst rfl (by decide) ?_
                refine b_iremP rfl (by omega) (by omega) ?_
                refine b_if_ne (tgt := 192) rfl rfl (fun c183 => ?_) (fun c183 => ?_)
                · refine b_iload rfl rfl ?_
                  refine b_iaddN rfl (by omega) (by omega) ?_
                  refine b_callV2i (ν := MX12_isWithin) rfl ml12_539 cvX12_isWithin (d' := 1) (by omega) rfl (by decide) rfl (Nat.le_of_ble_eq_true rfl) ?_
                  refine spm_isWithin (hRm W L T N) hb (fun hB1 => ?_) (fun hB0 => ?_)
                  · refine ⟨_, rfl, ?_⟩
                    refine b_if_eq (tgt := 203) rfl rfl (fun z => absurd z (by decide)) (fun _ => ?_)
                    refine b_iconst rfl (by decide) ?_
                    refine b_zret rfl rfl (by first | decide | omega) ?_
                    first
                    | (rw [if_pos (by omega), if_pos (by omega)] at kk; exact kk (by rw [Int.one_mul]; exact hA1) (by rw [Int.one_mul]; exact hB1))
                    | (rw [if_pos (by omega), if_neg (by omega)] at kk; exact kk (by rw [Int.one_mul]; exact hA1) (by rw [Int.neg_mul, Int.one_mul, Int.sub_neg]; exact hB1))
                    | (rw [if_neg (by omega), if_pos (by omega)] at kk; exact kk (by rw [Int.neg_mul, Int.one_mul]; exact hA1) (by rw [Int.one_mul]; exact hB1))
                    | (rw [if_neg (by omega), if_neg (by omega)] at kk; exact kk (by rw [Int.neg_mul, Int.one_mul]; exact hA1) (by rw [Int.neg_mul, Int.one_mul, Int.sub_neg]; exact hB1))
                  · refine ⟨_, rfl, ?_⟩
                    refine b_if_eq (tgt := 203) rfl rfl (fun _ => ?_) (fun z => absurd z (by decide))
                    refine b_iincX (F := fun z203 => [some (aR 57), some (aI (a : Int)), some (aI (b : Int)), some (aI (144 : Int)), some (aI tA), some (aI tB), some (aI (x : Int)), some (aI ((144 + 24 * a + x : Nat) : Int)), some (aI z203), some (aI ((144 + 24 * b + y : Nat) : Int)), some (aI z10)]) rfl rfl (by omega) (by omega) (fun _ => rfl) (fun z203 ez203 => ?_)
                    refine b_goto (tgt := 52) rfl rfl ?_
                    refine skip (fun w => ?_) _ _ _ (by omega)
                    obtain ⟨-, q1, q2⟩ := w
                    by_cases ex : x / 6 % 2 = 0 <;> by_cases ey : y / 6 % 2 = 0
                    · rw [if_pos ex, Int.one_mul] at q1
                      rw [if_pos ey, Int.one_mul] at q2
                      first | exact hB0 q2 | exact hA0 q1 | (exfalso; omega)
                    · rw [if_pos ex, Int.one_mul] at q1
                      rw [if_neg ey, Int.neg_mul, Int.one_mul, Int.sub_neg] at q2
                      first | exact hB0 q2 | exact hA0 q1 | (exfalso; omega)
                    · rw [if_neg ex, Int.neg_mul, Int.one_mul] at q1
                      rw [if_pos ey, Int.one_mul] at q2
                      first | exact hB0 q2 | exact hA0 q1 | (exfalso; omega)
                    · rw [if_neg ex, Int.neg_mul, Int.one_mul] at q1
                      rw [if_neg ey, Int.neg_mul, Int.one_mul, Int.sub_neg] at q2
                      first | exact hB0 q2 | exact hA0 q1 | (exfalso; omega)
                · refine b_iload rfl rfl ?_
                  refine b_inegN rfl (by omega) (by omega) ?_
                  refine b_goto (tgt := 194) rfl rfl ?_
                  refine b_iaddN rfl (by omega) (by omega) ?_
                  refine b_callV2i (ν := MX12_isWithin) rfl ml12_539 cvX12_isWithin (d' := 1) (by omega) rfl (by decide) rfl (Nat.le_of_ble_eq_true rfl) ?_
                  refine spm_isWithin (hRm W L T N) hb (fun hB1 => ?_) (fun hB0 => ?_)
                  · refine ⟨_, rfl, ?_⟩
                    refine b_if_eq (tgt := 203) rfl rfl (fun z => absurd z (by decide)) (fun _ => ?_)
                    refine b_iconst rfl (by decide) ?_
                    refine b_zret rfl rfl (by first | decide | omega) ?_
                    first
                    | (rw [if_pos (by omega), if_pos (by omega)] at kk; exact kk (by rw [Int.one_mul]; exact hA1) (by rw [Int.one_mul]; exact hB1))
                    | (rw [if_pos (by omega), if_neg (by omega)] at kk; exact kk (by rw [Int.one_mul]; exact hA1) (by rw [Int.neg_mul, Int.one_mul, Int.sub_neg]; exact hB1))
                    | (rw [if_neg (by omega), if_pos (by omega)] at kk; exact kk (by rw [Int.neg_mul, Int.one_mul]; exact hA1) (by rw [Int.one_mul]; exact hB1))
                    | (rw [if_neg (by omega), if_neg (by omega)] at kk; exact kk (by rw [Int.neg_mul, Int.one_mul]; exact hA1) (by rw [Int.neg_mul, Int.one_mul, Int.sub_neg]; exact hB1))
                  · refine ⟨_, rfl, ?_⟩
                    refine b_if_eq (tgt := 203) rfl rfl (fun _ => ?_) (fun z => absurd z (by decide))
                    refine b_iincX (F := fun z203 => [some (aR 57), some (aI (a : Int)), some (aI (b : Int)), some (aI (144 : Int)), some (aI tA), some (aI tB), some (aI (x : Int)), some (aI ((144 + 24 * a + x : Nat) : Int)), some (aI z203), some (aI ((144 + 24 * b + y : Nat) : Int)), some (aI z10)]) rfl rfl (by omega) (by omega) (fun _ => rfl) (fun z203 ez203 => ?_)
                    refine b_goto (tgt := 52) rfl rfl ?_
                    refine skip (fun w => ?_) _ _ _ (by omega)
                    obtain ⟨-, q1, q2⟩ := w
                    by_cases ex : x / 6 % 2 = 0 <;> by_cases ey : y / 6 % 2 = 0
                    · rw [if_pos ex, Int.one_mul] at q1
                      rw [if_pos ey, Int.one_mul] at q2
                      first | exact hB0 q2 | exact hA0 q1 | (exfalso; omega)
                    · rw [if_pos ex, Int.one_mul] at q1
                      rw [if_neg ey, Int.neg_mul, Int.one_mul, Int.sub_neg] at q2
                      first | exact hB0 q2 | exact hA0 q1 | (exfalso; omega)
                    · rw [if_neg ex, Int.neg_mul, Int.one_mul] at q1
                      rw [if_pos ey, Int.one_mul] at q2
                      first | exact hB0 q2 | exact hA0 q1 | (exfalso; omega)
                    · rw [if_neg ex, Int.neg_mul, Int.one_mul] at q1
                      rw [if_neg ey, Int.neg_mul, Int.one_mul, Int.sub_neg] at q2
                      first | exact hB0 q2 | exact hA0 q1 | (exfalso; omega)
              · refine ⟨_, rfl, ?_⟩
                refine b_if_eq (tgt := 203) rfl rfl (fun _ => ?_) (fun z => absurd z (by decide))
                refine b_iincX (F := fun z203 => [some (aR 57), some (aI (a : Int)), some (aI (b : Int)), some (aI (144 : Int)), some (aI tA), some (aI tB), some (aI (x : Int)), some (aI ((144 + 24 * a + x : Nat) : Int)), some (aI z203), some (aI ((144 + 24 * b + y : Nat) : Int)), some (aI z10)]) rfl rfl (by omega) (by omega) (fun _ => rfl) (fun z203 ez203 => ?_)
                refine b_goto (tgt := 52) rfl rfl ?_
                refine skip (fun w => ?_) _ _ _ (by omega)
                obtain ⟨-, q1, q2⟩ := w
                by_cases ex : x / 6 % 2 = 0 <;> by_cases ey : y / 6 % 2 = 0
                · rw [if_pos ex, Int.one_mul] at q1
                  rw [if_pos ey, Int.one_mul] at q2
                  first | exact hB0 q2 | exact hA0 q1 | (exfalso; omega)
                · rw [if_pos ex, Int.one_mul] at q1
                  rw [if_neg ey, Int.neg_mul, Int.one_mul, Int.sub_neg] at q2
                  first | exact hB0 q2 | exact hA0 q1 | (exfalso; omega)
                · rw [if_neg ex, Int.neg_mul, Int.one_mul] at q1
                  rw [if_pos ey, Int.one_mul] at q2
                  first | exact hB0 q2 | exact hA0 q1 | (exfalso; omega)
                · rw [if_neg ex, Int.neg_mul, Int.one_mul] at q1
                  rw [if_neg ey, Int.neg_mul, Int.one_mul, Int.sub_neg] at q2
                  first | exact hB0 q2 | exact hA0 q1 | (exfalso; omega)
          have r87 : ∀ c, row (mS H W L T N) 87 g 87 c = g c := fun c => by rw [row_same]
          refine b_iload rfl rfl ?_
          refine b_bipush rfl (by decide) ?_
          refine b_icmp_ge (tgt := 209) rfl rfl (fun c56 => ?_) (fun c56 => ?_)
          · omega
          · refine b_aload_n rfl rfl ?_
            refine b_getR (r := 87) rfl fl12_162 rfl (by decide) rfl rfl ?_
            refine b_iload rfl rfl ?_
            refine b_iald rfl rfl (by omega) (by omega) ?_
            try simp only [tn6, tn4, tn2, tn144, tn24, tn_cast, Int.reduceToNat]
            rw [r87]
            refine b_if_le (tgt := 209) rfl rfl (fun c66 => ?_) (fun c66 => ?_)
            · refine b_iincX (F := fun z209 => [some (aR 57), some (aI (a : Int)), some (aI (b : Int)), some (aI (144 : Int)), some (aI tA), some (aI tB), some (aI z209), some (aI ((144 + 24 * a + x : Nat) : Int)), some (aI (y : Int)), x9, x10]) rfl rfl (by omega) (by omega) (fun _ => rfl) (fun z209 ez209 => ?_)
              refine b_goto (tgt := 31) rfl rfl ?_
              exact next (fun y' h w => by have w1 := w.1.1; omega) _ _ _ _ _ (by omega)
            · refine b_iload_n rfl rfl ?_
              refine b_bipush rfl (by decide) ?_
              refine b_iload_n rfl rfl ?_
              refine b_imulN rfl (by omega) (by omega) ?_
              refine b_iaddN rfl (by omega) (by omega) ?_
              refine b_iload rfl rfl ?_
              refine b_iaddN rfl (by omega) (by omega) ?_
              refine b_istoreX (F := fun z78 => [some (aR 57), some (aI (a : Int)), some (aI (b : Int)), some (aI (144 : Int)), some (aI tA), some (aI tB), some (aI (x : Int)), some (aI ((144 + 24 * a + x : Nat) : Int)), some (aI (y : Int)), some (aI z78), x10]) rfl (by decide) (fun _ => rfl) (fun z78 ez78 => ?_)
              have e78 : z78 = ((144 + 24 * b + y : Nat) : Int) := by omega
              refine b_aload_n rfl rfl ?_
              refine b_iload rfl rfl ?_
              refine b_iload rfl rfl ?_
              refine b_bipush rfl (by decide) ?_
              refine b_iremP rfl (by omega) (by omega) ?_
              refine b_iload rfl rfl ?_
              refine b_iload rfl rfl ?_
              refine b_bipush rfl (by decide) ?_
              refine b_iremP rfl (by omega) (by omega) ?_
              rw [id1, id2]
              refine b_callV4i (ν := MX12_swapped) rfl ml12_532 cvX12_swapped (d' := 1) (by omega) rfl (by decide) rfl (Nat.le_of_ble_eq_true rfl) ?_
              refine spm_swapped' (ca := 144 + 24 * a + x) (cb := 144 + 24 * b + y) rfl e78 hg (by omega) (fun hsw => ?_) (fun hsw => ?_)
              · refine ⟨_, rfl, ?_⟩
                refine b_if_ne (tgt := 104) rfl rfl (fun _ => ?_) (fun z => absurd z (by decide))
                refine b_aload_n rfl rfl ?_
                refine b_iload rfl rfl ?_
                refine b_iload rfl rfl ?_
                refine b_bipush rfl (by decide) ?_
                refine b_iremP rfl (by omega) (by omega) ?_
                refine b_iload rfl rfl ?_
                refine b_iload rfl rfl ?_
                refine b_bipush rfl (by decide) ?_
                refine b_iremP rfl (by omega) (by omega) ?_
                rw [id1, id2]
                refine b_callV4v (ν := MX12_swapsBack) rfl ml12_528 cvX12_swapsBack (d' := 0) (by omega) rfl (by decide) rfl (Nat.le_of_ble_eq_true rfl) ?_
                refine spm_swapsBack' (ca := 144 + 24 * a + x) (cb := 144 + 24 * b + y) rfl e78 swb (by omega) ?_
                rw [sw4_back]
                have hwx := try_ware hp hz ha (by omega) hsw.1
                have hwy := try_ware hp hz hb (by omega) hsw.2.1
                have r1 := hp.2.1 (x % 6) (by omega)
                have r2 := hp.2.1 (y % 6) (by omega)
                refine ⟨rfl, ?_⟩
                refine b_aload_n rfl rfl ?_
                refine b_iload rfl rfl ?_
                refine b_bipush rfl (by decide) ?_
                refine b_iremP rfl (by omega) (by omega) ?_
                rw [id2]
                refine b_callV1i (ν := MX12_heavy) rfl ml12_536 cvX12_heavy (d' := 0) (by omega) rfl (by decide) rfl (Nat.le_of_ble_eq_true rfl) ?_
                refine spm_heavy (hRm W L T N) hwy.1 ?_
                refine ⟨_, rfl, ?_⟩
                refine b_aload_n rfl rfl ?_
                refine b_iload rfl rfl ?_
                refine b_bipush rfl (by decide) ?_
                refine b_iremP rfl (by omega) (by omega) ?_
                rw [id1]
                refine b_callV1i (ν := MX12_heavy) rfl ml12_536 cvX12_heavy (d' := 0) (by omega) rfl (by decide) rfl (Nat.le_of_ble_eq_true rfl) ?_
                refine spm_heavy (hRm W L T N) hwx.1 ?_
                refine ⟨_, rfl, ?_⟩
                refine b_isubN rfl (by omega) (by omega) ?_
                refine b_istoreX (F := fun z141 => [some (aR 57), some (aI (a : Int)), some (aI (b : Int)), some (aI (144 : Int)), some (aI tA), some (aI tB), some (aI (x : Int)), some (aI ((144 + 24 * a + x : Nat) : Int)), some (aI (y : Int)), some (aI z78), some (aI z141)]) rfl (by decide) (fun _ => rfl) (fun z141 ez141 => ?_)
                subst e78
                exact good hsw _ (by rw [ez141]; rfl)
              · refine ⟨_, rfl, ?_⟩
                refine b_if_ne (tgt := 104) rfl rfl (fun z => absurd z (by decide)) (fun _ => ?_)
                refine b_goto (tgt := 203) rfl rfl ?_
                refine b_iincX (F := fun z203 => [some (aR 57), some (aI (a : Int)), some (aI (b : Int)), some (aI (144 : Int)), some (aI tA), some (aI tB), some (aI (x : Int)), some (aI ((144 + 24 * a + x : Nat) : Int)), some (aI z203), some (aI z78), x10]) rfl rfl (by omega) (by omega) (fun _ => rfl) (fun z203 ez203 => ?_)
                refine b_goto (tgt := 52) rfl rfl ?_
                exact skip (fun w => hsw w.1) _ _ _ (by omega)
      refine b_iload rfl rfl ?_
      refine b_bipush rfl (by decide) ?_
      refine b_icmp_ge (tgt := 215) rfl rfl (fun c35 => ?_) (fun c35 => ?_)
      · omega
      · refine b_iload_n rfl rfl ?_
        refine b_bipush rfl (by decide) ?_
        refine b_iload_n rfl rfl ?_
        refine b_imulN rfl (by omega) (by omega) ?_
        refine b_iaddN rfl (by omega) (by omega) ?_
        refine b_iload rfl rfl ?_
        refine b_iaddN rfl (by omega) (by omega) ?_
        refine b_istoreX (F := fun z47 => [some (aR 57), some (aI (a : Int)), some (aI (b : Int)), some (aI (144 : Int)), some (aI tA), some (aI tB), some (aI (x : Int)), some (aI z47), x8, x9, x10]) rfl (by decide) (fun _ => rfl) (fun z47 ez47 => ?_)
        refine b_iconst rfl (by decide) ?_
        refine b_istoreX (F := fun z50 => [some (aR 57), some (aI (a : Int)), some (aI (b : Int)), some (aI (144 : Int)), some (aI tA), some (aI tB), some (aI (x : Int)), some (aI z47), some (aI z50), x9, x10]) rfl (by decide) (fun _ => rfl) (fun z50 ez50 => ?_)
        have e47 : z47 = ((144 + 24 * a + x : Nat) : Int) := by omega
        subst e47
        exact inner 24 0 _ _ _ (by omega) (by omega) (fun y' h => absurd h (by omega))
  have start : ∀ {Q' : Option AV → HI → Prop}, Q' = Q → row H 87 g = row (mS H (H 57 57) (H 57 58) (H 57 59) (H 57 60)) 87 g := fun _ => by rw [mS_self]
  rw [start rfl]
  refine rj_of okX12_levelsByOne (Nat.le_of_ble_eq_true rfl) rfl ?_
  refine b_sipush rfl (by decide) ?_
  refine b_istoreX_n (F := fun z3 => [some (aR 57), some (aI (a : Int)), some (aI (b : Int)), some (aI z3), none, none, none, none, none, none, none]) rfl (by decide) (fun _ => rfl) (fun z3 ez3 => ?_)
  refine b_aload_n rfl rfl ?_
  refine b_iconst rfl (by decide) ?_
  refine b_iload_n rfl rfl ?_
  refine b_callV2v (ν := MX12_carries) rfl ml12_493 cvX12_carries (d' := 1) (by omega) rfl (by decide) rfl (Nat.le_of_ble_eq_true rfl) ?_
  refine car _ _ _ _ a ha ?_
  refine ⟨rfl, ?_⟩
  refine b_aload_n rfl rfl ?_
  refine b_getI rfl fl12_192 rfl (by decide) rfl ?_
  rw [show row (mS H (wOf J (tryF g) a) (lOf J (tryF g) a) (tOf J (tryF g) a) (nOf J (tryF g) a)) 87 g 57 59 = tA from htA]
  refine b_istoreX (F := fun z14 => [some (aR 57), some (aI (a : Int)), some (aI (b : Int)), some (aI z3), some (aI z14), none, none, none, none, none, none]) rfl (by decide) (fun _ => rfl) (fun z14 ez14 => ?_)
  refine b_aload_n rfl rfl ?_
  refine b_iconst rfl (by decide) ?_
  refine b_iload_n rfl rfl ?_
  refine b_callV2v (ν := MX12_carries) rfl ml12_493 cvX12_carries (d' := 1) (by omega) rfl (by decide) rfl (Nat.le_of_ble_eq_true rfl) ?_
  refine car _ _ _ _ b hb ?_
  refine ⟨rfl, ?_⟩
  refine b_aload_n rfl rfl ?_
  refine b_getI rfl fl12_192 rfl (by decide) rfl ?_
  rw [show row (mS H (wOf J (tryF g) b) (lOf J (tryF g) b) (tOf J (tryF g) b) (nOf J (tryF g) b)) 87 g 57 59 = tB from htB]
  refine b_istoreX (F := fun z26 => [some (aR 57), some (aI (a : Int)), some (aI (b : Int)), some (aI z3), some (aI z14), some (aI z26), none, none, none, none, none]) rfl (by decide) (fun _ => rfl) (fun z26 ez26 => ?_)
  refine b_iconst rfl (by decide) ?_
  refine b_istoreX (F := fun z29 => [some (aR 57), some (aI (a : Int)), some (aI (b : Int)), some (aI z3), some (aI z14), some (aI z26), some (aI z29), none, none, none, none]) rfl (by decide) (fun _ => rfl) (fun z29 ez29 => ?_)
  subst ez3
  subst ez14
  subst ez26
  exact outer _ _ _ _ 24 0 _ _ _ _ _ (by omega) (by omega) (fun x' y h => absurd h (by omega))
