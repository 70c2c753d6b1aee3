/-! ===== the reference: on, three ===== -/
def TS (J I H : HI) (i : Nat) : Prop := (∀ q, q ≠ 86 → q ≠ 87 → H q = I q) ∧ (∀ j, j < 6 ∨ 12 ≤ j → H 86 j = I 86 j) ∧ (∀ s, s < 6 → 0 < J 4 1 → H 86 (6 + s) = if s < i then bT J s else J 31 s) ∧ (∀ s h w, s < 6 → h < 4 → w < 6 → H 87 (144 + (24 * s + 6 * h + w)) = if s < i ∧ w < nW J ∧ h * nW J + w < cO J s then tAt J ((iLn J s + (h * nW J + w) : Nat) : Int) else J 32 (24 * s + 6 * h + w)) ∧ (∀ j, j < 144 ∨ 288 ≤ j → H 87 j = I 87 j)
theorem TS_s {J I H H' : HI} {i : Nat} (h : TS J I H i) (h2 : SHI J H H' i (cO J i)) (hi : i < 6) : TS J I H' (i + 1) := by
  obtain ⟨a1, a2, a3, a4, a5⟩ := h
  obtain ⟨b1, b2, b3, b4⟩ := h2
  refine ⟨fun q x y => (b1 q x y).trans (a1 q x y), fun j hj => ?_, fun s hs h0 => ?_, fun s h w hs hh hw => ?_, fun j hj => (b4 j hj).trans (a5 j hj)⟩
  · rw [b2, if_neg (by omega)]; exact a2 j hj
  · rw [b2]
    by_cases e : s = i
    · rw [if_pos (by omega), if_pos (by omega), e]
    · rw [if_neg (by omega), a3 s hs h0]
      by_cases q : s < i
      · rw [if_pos q, if_pos (by omega)]
      · rw [if_neg q, if_neg (by omega)]
  · rw [b3 s h w hs hh hw]
    by_cases e : s = i
    · subst e
      by_cases q : w < nW J ∧ h * nW J + w < cO J s
      · rw [if_pos ⟨rfl, q⟩, if_pos ⟨by omega, q⟩]
      · rw [if_neg (fun z => q z.2), if_neg (fun z => q z.2), a4 s h w hs hh hw, if_neg (fun z => q z.2)]
    · rw [if_neg (fun z => e z.1), a4 s h w hs hh hw]
      by_cases q : s < i ∧ w < nW J ∧ h * nW J + w < cO J s
      · rw [if_pos q, if_pos ⟨by omega, q.2⟩]
      · rw [if_neg q, if_neg (fun z => q ⟨by omega, z.2⟩)]
theorem TS_SR {J I H : HI} (hp : pOK J) (hz : ZF J (J 32)) (hl : ∀ s : Nat, s < 6 → ¬ (s : Int) < J 4 1 → J 31 s = -1) (h : TS J I H (nS J)) (h85 : I 85 1 = pr J 0) (h88 : I 88 1 = 0) (rg : Nat → Int) (hsh : shp H = J 4 1) : SR (pr J 0) 0 0 (tO J (nS J) 35) (tO J (nS J) 36) rg H 1 := by
  obtain ⟨n6, n1⟩ := nS_in hp
  obtain ⟨w6, w1⟩ := nW_in hp
  obtain ⟨a1, a2, a3, a4, a5⟩ := h
  refine ⟨by rw [a1 85 (by decide) (by decide)]; exact h85, fun s hs hn => ?_, fun c hc => ?_, by rw [a1 88 (by decide) (by decide)]; exact h88, fun k w hk _ => absurd hk (by omega)⟩
  · rw [hsh] at hn
    rw [show 6 * 1 + s = 6 + s by omega, a3 s hs (by omega), tO_35 (nS J) n6 s hs]
    by_cases q : s < nS J
    · rw [if_pos q, if_pos q]
    · rw [if_neg q, if_neg q]; exact hl s hs (by omega)
  · have e : 24 * (c / 24) + 6 * (c % 24 / 6) + c % 6 = c := by omega
    have := a4 (c / 24) (c % 24 / 6) (c % 6) (by omega) (by omega) (by omega)
    rw [e] at this
    rw [show 144 * 1 + c = 144 + c by omega, this]
    have t6 := tO_36 hp (nS J) (by omega) (c / 24) (c % 24 / 6) (c % 6) (by omega) (by omega) (by omega)
    rw [e] at t6
    rw [t6]
    split
    · rfl
    · next q =>
      have := hz (c / 24) (c % 24 / 6) (c % 6) (by omega) (by omega) (by omega) (fun z => q ⟨by omega, by omega, ?_⟩)
      · rw [e] at this; exact this
      · show _ < nH J (c / 24) * nW J
        have h1 : (c % 24 / 6 + 1) * nW J ≤ nH J (c / 24) * nW J := Nat.mul_le_mul_right _ (by have := z.2.1; omega)
        rw [Nat.add_mul, Nat.one_mul] at h1
        have := z.2.2
        omega
theorem spq_comesOn {J I : HI} {Q : Option AV → HI → Prop} {C : Nat → List Int} {b : Nat} (hM : MN J I C b) (hT : RTp J I) (hk4 : 0 ≤ J 30 4 ∧ J 30 4 ≤ 60) (k1 : onP J → ∀ H, MFr I H → H 57 52 = I 57 52 → H 57 53 = I 57 53 → SR (pr J 0) 0 0 (tO J (nS J) 35) (tO J (nS J) 36) (J 33) H 1 → Q (some (aI 1)) H) (k0 : ¬ onP J → ∀ H, MFr I H → SRn J H → (RUn J I → RUn J H) → Q (some (aI 0)) H) : Rj MX12_comesOn 2 [aR 57, aI (J 1 1)] I Q := by
  have hR := hM.1
  have hp := hR.2.2.2.2.2.2.2.2.2
  have hb := hR.1
  have hb2 := hR.2.1
  have q59 := hR.2.2.1
  have q62 := hR.2.2.2.1
  have hT' := hT
  obtain ⟨t1, t2, t3⟩ := hT'
  obtain ⟨n6, n1⟩ := nS_in hp
  obtain ⟨w6, w1⟩ := nW_in hp
  have hk8 : I 88 0 = J 30 4 := hM.2.2.2.1.2.2.2.1
  have hLn := fun n h => iLn_in hp n h
  have bad : ¬ onP J → Q (some (aI 0)) I := fun h => k0 h I (MFr.rf hM.2.1) hM.2.2.2.1 (fun u => u)
  unfold onP at k1 k0 bad
  generalize hI3 : up (up (mcp I 1 0) 85 1 (pr J 0)) 88 1 0 = I3 at *
  have fr3 : MFr I I3 := by rw [← hI3]; exact ((MFr.rf hM.2.1).cp.ux (by omega)).ux (by omega)
  have c57 : ∀ j, I3 57 j = I 57 j := fun j => by rw [← hI3, up_cell (by decide), up_cell (by decide)]; rfl
  have ships : (J 1 1 = (iLn J (nS J) : Int) ∧ pr J 0 ≤ 9999 ∧ sfO J) → ∀ (n i : Nat) (y z : Int) (x3 : Int) (H : HI), TS J I3 H i → (∀ s, s < i → shOn J s) → y = ((iLn J i - 1 : Nat) : Int) → z = (i : Int) → i + n = nS J → Bj MX12_comesOn 2 151 [some (aR 57), some (aI (J 1 1)), some (aI (J 1 1)), some (aI x3), some (aI y), some (aI z)] [] H Q := by
    intro hon n
    have frH : ∀ i H, TS J I3 H i → MFr I H ∧ (∀ j, H 57 j = I 57 j) ∧ H 58 = I 58 := fun i H h => by
      obtain ⟨a1, a2, a3, a4, a5⟩ := h
      refine ⟨fr3.tr ⟨fun q x y => a1 q (by omega) (by omega), fun j _ _ _ => by rw [a1 57 (by decide) (by decide)], fun k => by rw [a1 91 (by decide) (by decide)]; exact fr3.2.2 k⟩, fun j => by rw [a1 57 (by decide) (by decide)]; exact c57 j, by rw [a1 58 (by decide) (by decide), fr3.1 58 (by decide) (by omega)]⟩
    have old : ∀ i H, TS J I3 H i → SRn J H ∧ (RUn J I → RUn J H) := fun i H h => by
      have hf := frH i H h
      obtain ⟨a1, a2, a3, a4, a5⟩ := h
      have gen : ∀ (hr kf kc : Int) (li cr rg : Nat → Int) (v : Nat), v ≠ 1 → kc ≤ 60 → SR hr kf kc li cr rg I v → SR hr kf kc li cr rg H v := by
        intro hr kf kc li cr rg v hv hkc hs
        have h3 : SR hr kf kc li cr rg I3 v := by
          rw [← hI3]
          have g1 := SR_mcp_ne (t := 1) (f := 0) hs hv (by omega) hkc
          obtain ⟨e1, e2, e3, e4, e5⟩ := g1
          refine ⟨?_, fun s hs hn => ?_, fun c hc => ?_, ?_, fun k w hk hw => ?_⟩
          · rw [up_cell (by decide), up_n (by omega)]; exact e1
          · rw [up_cell (by decide), up_cell (by decide)]; exact e2 s hs hn
          · rw [up_cell (by decide), up_cell (by decide)]; exact e3 c hc
          · rw [up_n (by omega), up_cell (by decide)]; exact e4
          · rw [up_cell (by decide), up_cell (by decide)]; exact e5 k w hk hw
        obtain ⟨e1, e2, e3, e4, e5⟩ := h3
        refine ⟨by rw [a1 85 (by decide) (by decide)]; exact e1, fun s hs hn => ?_, fun c hc => ?_, by rw [a1 88 (by decide) (by decide)]; exact e4, fun k w hk hw => by rw [a1 89 (by decide) (by decide)]; exact e5 k w hk hw⟩
        · rw [a2 _ (by omega)]; exact e2 s hs (by rw [shp_of (a1 62 (by decide) (by decide)) (by rw [a1 57 (by decide) (by decide)])] at hn; exact hn)
        · rw [a5 _ (by omega)]; exact e3 c hc
      refine ⟨gen _ _ _ _ _ _ 0 (by decide) hk4.2 hM.2.2.2.1, fun u => RUn_to u rfl rfl (hf.2.1 53) (hf.2.1 52) (fun q _ hs hk => gen _ _ _ _ _ _ (2 + q) (by omega) hk hs)⟩
    induction n with
    | zero =>
      intro i y z x3 H hS hok hy hz hi
      have ei : i = nS J := by omega
      subst ei
      obtain ⟨f1, f2, f3⟩ := frH _ H hS
      have hRH := hR.fr f1
      have hbH := hRH.1
      have q62H := hRH.2.2.2.1
      refine b_iload rfl rfl ?_
      refine b_aload_n rfl rfl ?_
      refine b_getR (r := 62) rfl fl12_63 rfl (by decide) rfl rfl ?_
      refine b_aload_n rfl rfl ?_
      refine b_getI rfl fl12_51 rfl (by decide) rfl ?_
      rw [hbH]
      refine b_iald rfl rfl (by omega) (by omega) ?_
      try simp only [tn6, tn4, tn2, tn144, tn24, tn_cast, Int.reduceToNat]
      rw [q62H]
      refine b_icmp_ge (tgt := 216) rfl rfl (fun c162 => ?_) (fun c162 => ?_)
      · refine b_iconst rfl (by decide) ?_
        refine b_zret rfl rfl (by first | decide | omega) ?_
        refine k1 ⟨hon.1, hon.2.1, hon.2.2, hok⟩ H f1 (f2 52) (f2 53) (TS_SR hp hM.2.2.2.2.1 hM.2.2.2.2.2 hS ?_ ?_ _ (shp_RP hRH))
        · rw [← hI3, up_cell (by decide), up_s]
        · rw [← hI3, up_s]
      · omega
    | succ n ih =>
      intro i y z x3 H hS hok hy hz hi
      subst hz
      subst hy
      have hs : (i : Int) < J 4 1 := by omega
      obtain ⟨f1, f2, f3⟩ := frH _ H hS
      have hRH := hR.fr f1
      have hbH := hRH.1
      have q62H := hRH.2.2.2.1
      have hl := hLn i (by omega)
      have hl2 := iLn_mono (J := J) (i + 1) (nS J) (by omega)
      have nxL : iLn J (i + 1) = iLn J i + (1 + cO J i) := rfl
      have hco := cO_in hp hs
      have hon1 := hon.1
      refine b_iload rfl rfl ?_
      refine b_aload_n rfl rfl ?_
      refine b_getR (r := 62) rfl fl12_63 rfl (by decide) rfl rfl ?_
      refine b_aload_n rfl rfl ?_
      refine b_getI rfl fl12_51 rfl (by decide) rfl ?_
      first | rw [hbH] | rw [hb3]
      refine b_iald rfl rfl (by omega) (by omega) ?_
      try simp only [tn6, tn4, tn2, tn144, tn24, tn_cast, Int.reduceToNat]
      rw [q62H]
      refine b_icmp_ge (tgt := 216) rfl rfl (fun c162 => ?_) (fun c162 => ?_)
      · omega
      · refine b_aload_n rfl rfl ?_
        refine b_iload rfl rfl ?_
        refine b_iload rfl rfl ?_
        refine b_callV2i (ν := MX12_shipOn) rfl ml12_591 cvX12_shipOn (d' := 1) (by omega) rfl (by decide) rfl (Nat.le_of_ble_eq_true rfl) ?_
        refine spm_shipOn hRH ⟨t1, t2, fun k hk => by rw [f3]; exact t3 k hk⟩ hs (by omega) (fun o ho => by rw [hS.2.2.1 o (by omega) (by omega), if_pos ho]) (fun hsh H2 hS2 => ?_) (fun hsh H2 hS2 => ?_)
        all_goals have hS3 := TS_s hS hS2 (by omega)
        all_goals have fH2 := frH _ H2 hS3
        all_goals have hR3 := hR.fr fH2.1
        all_goals have hb3 := hR3.1
        all_goals have q63 := (hR3.2.2.2.2.2.2.1 i hs).1
        all_goals have q593 := hR3.2.2.1
        · refine ⟨_, rfl, ?_⟩
          refine b_if_ne (tgt := 178) rfl rfl (fun _ => ?_) (fun z => absurd z (by decide))
          refine b_iload rfl rfl ?_
          refine b_iconst rfl (by decide) ?_
          refine b_aload_n rfl rfl ?_
          refine b_getR (r := 63) rfl fl12_66 rfl (by decide) rfl rfl ?_
          refine b_bipush rfl (by decide) ?_
          refine b_aload_n rfl rfl ?_
          refine b_getI rfl fl12_51 rfl (by decide) rfl ?_
          first | rw [hbH] | rw [hb3]
          refine b_imulN rfl (by omega) (by omega) ?_
          refine b_iload rfl rfl ?_
          refine b_iaddN rfl (by omega) (by omega) ?_
          refine b_iald rfl rfl (by omega) (by omega) ?_
          try simp only [tn6, tn4, tn2, tn144, tn24, tn_cast, Int.reduceToNat]
          rw [q63]
          refine b_aload_n rfl rfl ?_
          refine b_getR (r := 59) rfl fl12_54 rfl (by decide) rfl rfl ?_
          refine b_aload_n rfl rfl ?_
          refine b_getI rfl fl12_51 rfl (by decide) rfl ?_
          first | rw [hbH] | rw [hb3]
          refine b_iald rfl rfl (by omega) (by omega) ?_
          try simp only [tn6, tn4, tn2, tn144, tn24, tn_cast, Int.reduceToNat]
          rw [q593]
          refine b_imulN rfl (by rw [← hco.2]; omega) (by rw [← hco.2]; omega) ?_
          rw [← hco.2]
          refine b_iaddN rfl (by omega) (by omega) ?_
          refine b_iaddN rfl (by omega) (by omega) ?_
          refine b_istoreX (F := fun z208 => [some (aR 57), some (aI (J 1 1)), some (aI (J 1 1)), some (aI x3), some (aI z208), some (aI (i : Int))]) rfl (by decide) (fun _ => rfl) (fun z208 ez208 => ?_)
          refine b_iincX (F := fun z210 => [some (aR 57), some (aI (J 1 1)), some (aI (J 1 1)), some (aI x3), some (aI z208), some (aI z210)]) rfl rfl (by omega) (by omega) (fun _ => rfl) (fun z210 ez210 => ?_)
          refine b_goto (tgt := 151) rfl rfl ?_
          refine ih (i + 1) _ _ _ H2 hS3 (fun s hs => ?_) (by omega) (by omega) (by omega)
          by_cases e : s = i
          · subst e; exact hsh
          · exact hok s (by omega)
        · refine ⟨_, rfl, ?_⟩
          refine b_if_ne (tgt := 178) rfl rfl (fun z => absurd z (by decide)) (fun _ => ?_)
          refine b_iconst rfl (by decide) ?_
          refine b_zret rfl rfl (by first | decide | omega) ?_
          exact k0 (fun w => hsh (w.2.2.2 i (by omega))) H2 fH2.1 (old _ H2 hS3).1 (old _ H2 hS3).2
  have mid : (J 1 1 = (iLn J (nS J) : Int) ∧ pr J 0 ≤ 9999) → ∀ (n i : Nat) (y z : Int) (x5 : Option AV), y = imS (fun k => tAt J (k : Int)) i → z = (i : Int) → (i : Int) + n = J 1 1 - 1 → Bj MX12_comesOn 2 77 [some (aR 57), some (aI (J 1 1)), some (aI (J 1 1)), some (aI y), some (aI z), x5] [] I Q := by
    intro hon n
    have hl := hLn (nS J) (by omega)
    have hon1 := hon.1
    induction n with
    | zero =>
      intro i y z x5 hy hz hi
      have ei : i = (J 1 1 - 1).toNat := by omega
      have ql := t3 (J 1 1 - 1).toNat (by omega)
      rw [show (((J 1 1 - 1).toNat : Nat) : Int) = J 1 1 - 1 by omega] at ql
      have hsf : sfO J ↔ tAt J (J 1 1 - 1) = y := by unfold sfO; rw [hy, ei]
      refine b_iload rfl rfl ?_
      refine b_iload_n rfl rfl ?_
      refine b_iconst rfl (by decide) ?_
      refine b_isubN rfl (by omega) (by omega) ?_
      refine b_icmp_ge (tgt := 107) rfl rfl (fun c82 => ?_) (fun c82 => ?_)
      · refine b_aload_n rfl rfl ?_
        refine b_getR (r := 58) rfl fl12_7 rfl (by decide) rfl rfl ?_
        refine b_iload_n rfl rfl ?_
        refine b_iconst rfl (by decide) ?_
        refine b_isubN rfl (by omega) (by omega) ?_
        refine b_iald rfl rfl (by omega) (by omega) ?_
        try simp only [tn6, tn4, tn2, tn144, tn24, tn_cast, Int.reduceToNat]
        rw [ql]
        refine b_iload_n rfl rfl ?_
        refine b_icmp_eq (tgt := 121) rfl rfl (fun c116 => ?_) (fun c116 => ?_)
        · refine b_aload_n rfl rfl ?_
          refine b_iconst rfl (by decide) ?_
          refine b_iconst rfl (by decide) ?_
          refine b_callV2v (ν := MX12_copies) rfl ml12_425 cvX12_copies (d' := 0) (by omega) rfl (by decide) rfl (Nat.le_of_ble_eq_true rfl) ?_
          refine spm_copies (t := 1) (f := 0) (by decide) (by decide) (by decide) (by omega) ?_
          refine ⟨rfl, ?_⟩
          refine b_aload_n rfl rfl ?_
          refine b_getR (r := 85) rfl fl12_156 rfl (by decide) rfl rfl ?_
          refine b_iconst rfl (by decide) ?_
          refine b_aload_n rfl rfl ?_
          refine b_iconst rfl (by decide) ?_
          refine b_callV1i (ν := MX12_twoBytes) rfl ml12_548 cvX12_twoBytes (d' := 0) (by omega) rfl (by decide) rfl (Nat.le_of_ble_eq_true rfl) ?_
          refine spm_twoBytes (J := J) (k := 0) ⟨t1, t2, fun k hk => t3 k hk⟩ (by omega) ?_
          refine ⟨_, rfl, ?_⟩
          refine b_iastL (k := 1) rfl rfl rfl (by decide) ?_
          try simp only [tn6, tn4, tn2, tn144, tn24, tn_cast, Int.reduceToNat]
          refine b_aload_n rfl rfl ?_
          refine b_getR (r := 88) rfl fl12_165 rfl (by decide) rfl rfl ?_
          refine b_iconst rfl (by decide) ?_
          refine b_iconst rfl (by decide) ?_
          refine b_iastL (k := 1) rfl rfl rfl (by decide) ?_
          try simp only [tn6, tn4, tn2, tn144, tn24, tn_cast, Int.reduceToNat]
          rw [show up (up (mcp I 1 0) 85 1 (pr J ((0 : Nat) : Int))) 88 1 0 = I3 from hI3]
          refine b_iconst rfl (by decide) ?_
          refine b_istoreX (F := fun z146 => [some (aR 57), some (aI (J 1 1)), some (aI (J 1 1)), some (aI y), some (aI z146), x5]) rfl (by decide) (fun _ => rfl) (fun z146 ez146 => ?_)
          refine b_iconst rfl (by decide) ?_
          refine b_istoreX (F := fun z149 => [some (aR 57), some (aI (J 1 1)), some (aI (J 1 1)), some (aI y), some (aI z146), some (aI z149)]) rfl (by decide) (fun _ => rfl) (fun z149 ez149 => ?_)
          refine ships ⟨hon.1, hon.2, hsf.2 c116⟩ (nS J) 0 _ _ _ I3 ⟨fun _ _ _ => rfl, fun _ _ => rfl, fun s hs h0 => ?_, fun s h w hs hh hw => ?_, fun _ _ => rfl⟩ (fun s hs => absurd hs (by omega)) (by rw [ez146]; rfl) (by omega) (by omega)
          · rw [if_neg (by omega), ← hI3, up_cell (by decide), up_cell (by decide)]
            have := (SR_mcp_to (t := 1) hM.2.2.2.1).2.1 s hs (by rw [mcp_shp, shp_RP hM.1]; omega)
            exact this
          · rw [if_neg (by omega), ← hI3, up_cell (by decide), up_cell (by decide)]
            have := (SR_mcp_to (t := 1) hM.2.2.2.1).2.2.1 (24 * s + 6 * h + w) (by omega)
            exact this
        · refine b_iconst rfl (by decide) ?_
          refine b_zret rfl rfl (by first | decide | omega) ?_
          exact bad (fun w => c116 (hsf.1 w.2.2.1))
      · omega
    | succ n ih =>
      intro i y z x5 hy hz hi
      subst hz
      have qi := t3 i (by omega)
      have qb := tAt_b (k := i) t2 (by omega)
      have hs := imS_in (f := fun k => tAt J (k : Int)) i
      refine b_iload rfl rfl ?_
      refine b_iload_n rfl rfl ?_
      refine b_iconst rfl (by decide) ?_
      refine b_isubN rfl (by omega) (by omega) ?_
      refine b_icmp_ge (tgt := 107) rfl rfl (fun c82 => ?_) (fun c82 => ?_)
      · omega
      · refine b_iconst rfl (by decide) ?_
        refine b_iload_n rfl rfl ?_
        refine b_imulN rfl (by omega) (by omega) ?_
        refine b_aload_n rfl rfl ?_
        refine b_getR (r := 58) rfl fl12_7 rfl (by decide) rfl rfl ?_
        refine b_iload rfl rfl ?_
        refine b_iald rfl rfl (by omega) (by omega) ?_
        try simp only [tn6, tn4, tn2, tn144, tn24, tn_cast, Int.reduceToNat]
        rw [qi]
        refine b_iaddN rfl (by omega) (by omega) ?_
        refine b_sipush rfl (by decide) ?_
        refine b_iremP rfl (by omega) (by omega) ?_
        refine b_istoreX_n (F := fun z100 => [some (aR 57), some (aI (J 1 1)), some (aI (J 1 1)), some (aI z100), some (aI (i : Int)), x5]) rfl (by decide) (fun _ => rfl) (fun z100 ez100 => ?_)
        refine b_iincX (F := fun z101 => [some (aR 57), some (aI (J 1 1)), some (aI (J 1 1)), some (aI z100), some (aI z101), x5]) rfl rfl (by omega) (by omega) (fun _ => rfl) (fun z101 ez101 => ?_)
        refine b_goto (tgt := 77) rfl rfl ?_
        refine ih (i + 1) _ _ _ ?_ (by omega) (by omega)
        rw [ez100, hy]
        rfl
  have due : ∀ (n i : Nat) (y z : Int) (x4 x5 : Option AV), y = (iLn J i : Int) → z = (i : Int) → i + n = nS J → Bj MX12_comesOn 2 4 [some (aR 57), some (aI (J 1 1)), some (aI y), some (aI z), x4, x5] [] I Q := by
    intro n
    induction n with
    | zero =>
      intro i y z x4 x5 hy hz hi
      have ei : i = nS J := by omega
      subst ei
      have hl := hLn (nS J) (by omega)
      have fin : y = J 1 1 → ∀ (x3 x4 x5 : Option AV), Bj MX12_comesOn 2 57 [some (aR 57), some (aI (J 1 1)), some (aI (J 1 1)), x3, x4, x5] [] I Q := by
        intro hyn x3 x4 x5
        refine b_aload_n rfl rfl ?_
        refine b_iconst rfl (by decide) ?_
        refine b_callV1i (ν := MX12_twoBytes) rfl ml12_548 cvX12_twoBytes (d' := 0) (by omega) rfl (by decide) rfl (Nat.le_of_ble_eq_true rfl) ?_
        refine spm_twoBytes (J := J) (k := 0) hT (by omega) ?_
        refine ⟨_, rfl, ?_⟩
        refine b_sipush rfl (by decide) ?_
        refine b_icmp_le (tgt := 70) rfl rfl (fun c65 => ?_) (fun c65 => ?_)
        · refine b_sipush rfl (by decide) ?_
          refine b_istoreX_n (F := fun z73 => [some (aR 57), some (aI (J 1 1)), some (aI (J 1 1)), some (aI z73), x4, x5]) rfl (by decide) (fun _ => rfl) (fun z73 ez73 => ?_)
          refine b_iconst rfl (by decide) ?_
          refine b_istoreX (F := fun z75 => [some (aR 57), some (aI (J 1 1)), some (aI (J 1 1)), some (aI z73), some (aI z75), x5]) rfl (by decide) (fun _ => rfl) (fun z75 ez75 => ?_)
          exact mid ⟨by omega, c65⟩ (J 1 1 - 1).toNat 0 _ _ _ (by rw [ez73]; rfl) (by omega) (by omega)
        · refine b_iconst rfl (by decide) ?_
          refine b_zret rfl rfl (by first | decide | omega) ?_
          exact bad (fun w => by have w2 : pr J ((0 : Nat) : Int) ≤ 9999 := w.2.1; omega)
      refine b_iload_n rfl rfl ?_
      refine b_aload_n rfl rfl ?_
      refine b_getR (r := 62) rfl fl12_63 rfl (by decide) rfl rfl ?_
      refine b_aload_n rfl rfl ?_
      refine b_getI rfl fl12_51 rfl (by decide) rfl ?_
      rw [hb]
      refine b_iald rfl rfl (by omega) (by omega) ?_
      try simp only [tn6, tn4, tn2, tn144, tn24, tn_cast, Int.reduceToNat]
      rw [q62]
      refine b_icmp_ge (tgt := 52) rfl rfl (fun c14 => ?_) (fun c14 => ?_)
      · refine b_iload_n rfl rfl ?_
        refine b_iload_n rfl rfl ?_
        refine b_icmp_ne (tgt := 68) rfl rfl (fun c54 => ?_) (fun c54 => ?_)
        · refine b_iconst rfl (by decide) ?_
          refine b_zret rfl rfl (by first | decide | omega) ?_
          exact bad (fun w => by have := w.1; omega)
        · have ey : y = J 1 1 := by omega
          subst ey
          exact fin rfl _ _ _
      · omega
    | succ n ih =>
      intro i y z x4 x5 hy hz hi
      subst hz
      have hs : (i : Int) < J 4 1 := by omega
      have q63 := (hR.2.2.2.2.2.2.1 i hs).1
      have hl := hLn i (by omega)
      have hco := cO_in hp hs
      have nxL : iLn J (i + 1) = iLn J i + (1 + cO J i) := rfl
      refine b_iload_n rfl rfl ?_
      refine b_aload_n rfl rfl ?_
      refine b_getR (r := 62) rfl fl12_63 rfl (by decide) rfl rfl ?_
      refine b_aload_n rfl rfl ?_
      refine b_getI rfl fl12_51 rfl (by decide) rfl ?_
      rw [hb]
      refine b_iald rfl rfl (by omega) (by omega) ?_
      try simp only [tn6, tn4, tn2, tn144, tn24, tn_cast, Int.reduceToNat]
      rw [q62]
      refine b_icmp_ge (tgt := 52) rfl rfl (fun c14 => ?_) (fun c14 => ?_)
      · omega
      · refine b_iload_n rfl rfl ?_
        refine b_iconst rfl (by decide) ?_
        refine b_aload_n rfl rfl ?_
        refine b_getR (r := 63) rfl fl12_66 rfl (by decide) rfl rfl ?_
        refine b_bipush rfl (by decide) ?_
        refine b_aload_n rfl rfl ?_
        refine b_getI rfl fl12_51 rfl (by decide) rfl ?_
        rw [hb]
        refine b_imulN rfl (by omega) (by omega) ?_
        refine b_iload_n rfl rfl ?_
        refine b_iaddN rfl (by omega) (by omega) ?_
        refine b_iald rfl rfl (by omega) (by omega) ?_
        try simp only [tn6, tn4, tn2, tn144, tn24, tn_cast, Int.reduceToNat]
        rw [q63]
        refine b_aload_n rfl rfl ?_
        refine b_getR (r := 59) rfl fl12_54 rfl (by decide) rfl rfl ?_
        refine b_aload_n rfl rfl ?_
        refine b_getI rfl fl12_51 rfl (by decide) rfl ?_
        rw [hb]
        refine b_iald rfl rfl (by omega) (by omega) ?_
        try simp only [tn6, tn4, tn2, tn144, tn24, tn_cast, Int.reduceToNat]
        rw [q59]
        refine b_imulN rfl (by rw [← hco.2]; omega) (by rw [← hco.2]; omega) ?_
        rw [← hco.2]
        refine b_iaddN rfl (by omega) (by omega) ?_
        refine b_iaddN rfl (by omega) (by omega) ?_
        refine b_istoreX_n (F := fun z45 => [some (aR 57), some (aI (J 1 1)), some (aI z45), some (aI (i : Int)), x4, x5]) rfl (by decide) (fun _ => rfl) (fun z45 ez45 => ?_)
        refine b_iincX (F := fun z46 => [some (aR 57), some (aI (J 1 1)), some (aI z45), some (aI z46), x4, x5]) rfl rfl (by omega) (by omega) (fun _ => rfl) (fun z46 ez46 => ?_)
        refine b_goto (tgt := 4) rfl rfl ?_
        exact ih (i + 1) _ _ _ _ (by omega) (by omega) (by omega)
  refine rj_of okX12_comesOn (Nat.le_of_ble_eq_true rfl) rfl ?_
  refine b_iconst rfl (by decide) ?_
  refine b_istoreX_n (F := fun z1 => [some (aR 57), some (aI (J 1 1)), some (aI z1), none, none, none]) rfl (by decide) (fun _ => rfl) (fun z1 ez1 => ?_)
  refine b_iconst rfl (by decide) ?_
  refine b_istoreX_n (F := fun z3 => [some (aR 57), some (aI (J 1 1)), some (aI z1), some (aI z3), none, none]) rfl (by decide) (fun _ => rfl) (fun z3 ez3 => ?_)
  exact due (nS J) 0 _ _ _ _ (by rw [ez1]; rfl) (by omega) (by omega)
theorem spq_on {J K : HI} {Q : Option AV → HI → Prop} {C : Nat → List Int} {b : Nat} (hM : MN J K C b) (hT : RTp J K) (h1 : K 57 1 = J 1 1) (hU : RUn J K) (hk4 : 0 ≤ J 30 4 ∧ J 30 4 ≤ 60) (hB : ∀ j, 0 ≤ J 2 j ∧ J 2 j < 256) (k1 : isI J → ∀ K', MFr (up K 57 1 0) K' → SRn (up (cpS_34 (up (tO J (nS J)) 1 1 0)) 38 2 0) K' → RUn (up (cpS_34 (up (tO J (nS J)) 1 1 0)) 38 2 0) K' → Q (some (aI 1)) K') (k0 : ¬ isI J → ∀ K', MFr (up K 57 1 0) K' → SRn J K' → RUn J K' → Q (some (aI 0)) (mrf K' 5)) : Rj MX12_on 3 [aR 57] K Q := by
  have hp := hM.1.2.2.2.2.2.2.2.2.2
  rw [isI_iff hp hB] at k1 k0
  have hM1 : MN J (up K 57 1 0) C b := ⟨hM.1.to (up_n (by omega)) (fun q hq => up_cell (by unfold mcell at hq; omega)), fun k => by rw [up_cell (by decide)]; exact hM.2.1 k, hM.2.2.1, SR_57 hM.2.2.2.1, hM.2.2.2.2⟩
  have hT1 : RTp J (up K 57 1 0) := ⟨hT.1, hT.2.1, fun k hk => by rw [up_cell (by decide)]; exact hT.2.2 k hk⟩
  have hU1 : RUn J (up K 57 1 0) := RUn_to hU rfl rfl (up_n (by omega)) (up_n (by omega)) (fun q _ hs _ => SR_57 hs)
  have e0 : ∀ q j, q < 30 ∨ 33 < q → cpS_34 (up (tO J (nS J)) 1 1 0) q j = up (tO J (nS J)) 1 1 0 q j := fun q j hq => by
    unfold cpS_34
    rw [cpy_ap, if_neg (by omega), cpy_ap, if_neg (by omega), up_cell (by omega), up_cell (by omega), up_cell (by omega)]
  refine rj_of okX12_on (Nat.le_of_ble_eq_true rfl) rfl ?_
  refine b_aload_n rfl rfl ?_
  refine b_getI rfl fl12_13 rfl (by decide) rfl ?_
  rw [h1]
  refine b_istoreX_n (F := fun z4 => [some (aR 57), some (aI z4)]) rfl (by decide) (fun _ => rfl) (fun z4 ez4 => ?_)
  refine b_aload_n rfl rfl ?_
  refine b_iconst rfl (by decide) ?_
  refine b_putI rfl fl12_13 rfl (by decide) rfl ?_
  refine b_aload_n rfl rfl ?_
  refine b_iload_n rfl rfl ?_
  rw [ez4]
  refine b_callV1i (ν := MX12_comesOn) rfl ml12_594 cvX12_comesOn (d' := 2) (by omega) rfl (by decide) rfl (Nat.le_of_ble_eq_true rfl) ?_
  refine spq_comesOn hM1 hT1 hk4 (fun ho H f1 f52 f53 g1 => ?_) (fun ho H f1 g1 u1 => ?_)
  · refine ⟨_, rfl, ?_⟩
    refine b_if_ne (tgt := 32) rfl rfl (fun _ => ?_) (fun z => absurd z (by decide))
    refine b_aload_n rfl rfl ?_
    refine b_iconst rfl (by decide) ?_
    refine b_iconst rfl (by decide) ?_
    refine b_callV2v (ν := MX12_copies) rfl ml12_425 cvX12_copies (d' := 0) (by omega) rfl (by decide) rfl (Nat.le_of_ble_eq_true rfl) ?_
    refine spm_copies (t := 0) (f := 1) (by decide) (by decide) (by decide) (by rw [g1.2.2.2.1]; decide) ?_
    refine ⟨rfl, ?_⟩
    refine b_aload_n rfl rfl ?_
    refine b_iconst rfl (by decide) ?_
    refine b_putI rfl fl12_174 rfl (by decide) rfl ?_
    refine b_iconst rfl (by decide) ?_
    refine b_zret rfl rfl (by first | decide | omega) ?_
    first
    | exact k0 ho H f1 g1 (u1 hU1)
    | (refine k1 ho _ (f1.cp.u57 (Or.inr rfl)) ?_ ⟨?_, ?_, fun j hj => ?_⟩
       · have g2 := SR_57 (j := 53) (x := 0) (SR_mcp_to (t := 0) g1)
         refine SR_cg g2 ?_ ?_ ?_ (fun s hs => ?_) (fun c hc => ?_) (fun r _ => ?_)
         · rw [up_cell (by decide)]
           unfold cpS_34
           simp only [cpy_ap, up_ap]
           exact (tO_5 (nS J)).symm
         · rfl
         · rfl
         · rw [up_cell (by decide)]
           unfold cpS_34
           simp only [cpy_ap, up_ap]
           grind
         · rw [up_cell (by decide)]
           unfold cpS_34
           simp only [cpy_ap, up_ap]
           grind
         · rw [up_cell (by decide)]
           unfold cpS_34
           simp only [cpy_ap, up_ap]
           have := tO_cell (I := J) (s := nS J) (q := 33) (by decide) (by decide) (by decide)
           rw [this]
           grind
       · rw [up_s]; exact up_s.symm
       · rw [up_n (by omega), up_n (by omega), e0 38 1 (by omega), up_cell (by decide), tO_cell (by decide) (by decide) (by decide)]
         show H 57 52 = _
         rw [f52, up_n (by omega)]
         exact hU.2.1
       · rw [up_s] at hj
         omega)
  · refine ⟨_, rfl, ?_⟩
    refine b_if_ne (tgt := 32) rfl rfl (fun z => absurd z (by decide)) (fun _ => ?_)
    refine b_aload_n rfl rfl ?_
    refine b_iconst rfl (by decide) ?_
    refine b_callV1i (ν := MX12_refuses) rfl ml12_228 cvX12_refuses (d' := 0) (by omega) rfl (by decide) rfl (Nat.le_of_ble_eq_true rfl) ?_
    refine spm_refuses (k := 5) (by decide) ?_
    refine ⟨_, rfl, ?_⟩
    refine b_if_lt (tgt := 30) rfl rfl (fun c23 => ?_) (fun c23 => ?_)
    · refine b_iconst rfl (by decide) ?_
      refine b_zret rfl rfl (by first | decide | omega) ?_
      first
      | exact k0 ho H f1 g1 (u1 hU1)
      | (refine k1 ho _ (f1.cp.u57 (Or.inr rfl)) ?_ ⟨?_, ?_, fun j hj => ?_⟩
         · have g2 := SR_57 (j := 53) (x := 0) (SR_mcp_to (t := 0) g1)
           refine SR_cg g2 ?_ ?_ ?_ (fun s hs => ?_) (fun c hc => ?_) (fun r _ => ?_)
           · rw [up_cell (by decide)]
             unfold cpS_34
             simp only [cpy_ap, up_ap]
             exact (tO_5 (nS J)).symm
           · rfl
           · rfl
           · rw [up_cell (by decide)]
             unfold cpS_34
             simp only [cpy_ap, up_ap]
             grind
           · rw [up_cell (by decide)]
             unfold cpS_34
             simp only [cpy_ap, up_ap]
             grind
           · rw [up_cell (by decide)]
             unfold cpS_34
             simp only [cpy_ap, up_ap]
             have := tO_cell (I := J) (s := nS J) (q := 33) (by decide) (by decide) (by decide)
             rw [this]
             grind
         · rw [up_s]; exact up_s.symm
         · rw [up_n (by omega), up_n (by omega), e0 38 1 (by omega), up_cell (by decide), tO_cell (by decide) (by decide) (by decide)]
           show H 57 52 = _
           rw [f52, up_n (by omega)]
           exact hU.2.1
         · rw [up_s] at hj
           omega)
    · omega
