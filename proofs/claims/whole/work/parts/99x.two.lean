/-! ===== a call of the class, then the same call of the reference ===== -/
def T2 (μ ν : MR) (d d' : Nat) (args : List AV) (I : HI) : Prop := Rj μ d (aR 0 :: args) I (fun r I' => ∃ x, r = some (aI x) ∧ Rj ν d' (aR 57 :: args) I' (fun r' I'' => r' = some (aI x) ∧ Iv I''))
theorem iv_of {I' J' K : HI} {C : Nat → List Int} {b : Nat} (hK : KI I' C) (r : RM J' K C b) (e : ∀ q, q < 57 → K q = I' q) (eJ : ∀ q, rmC q → I' q = J' q) : Iv K := ⟨C, b, KI_to hK e, RM_J r (fun q hq => (e q (by unfold rmC at hq; omega)).trans (eJ q hq))⟩
/-- the class only looked, and so did the reference -/
theorem iv_sb {I I' K : HI} {C : Nat → List Int} {b : Nat} (hK : KI I C) (hR : RM I I C b) (hs : Sc I I') (hk : SB I' K) : Iv K := by
  have r : RM I K C b := RM_sb (RM_to hR (fun q hq => hs.1 q (by omega) (by omega))) hk
  exact iv_of (KI_sc hK hs) r (fun q hq => hk.1 q (by omega) (by omega)) (fun q hq => hs.1 q (by unfold rmC at hq; omega) (by unfold rmC at hq; omega))
theorem iv_sc {I I' K : HI} {C : Nat → List Int} {b : Nat} (hK : KI I C) (hR : RM I I C b) (hs : Sc I I') (hk : ScM I' K) : Iv K := iv_sb hK hR hs (SB_sc hk)
theorem kO1 {I : HI} {a : Int} {s : Nat} (e : a = (s : Int)) (h : (s : Int) < I 4 1) : kO I 4 1 a := ⟨by decide, by decide, by omega, by subst e; exact h⟩
theorem kO2 {I : HI} {a : Int} {s : Nat} (e : a = (s : Int)) (h : (s : Int) < I 4 2) : kO I 4 2 a := ⟨by decide, by decide, by omega, by subst e; exact h⟩
theorem NR_in {v5 v8 : Int} (h : NR v5 v8) : 0 ≤ v5 ∧ v5 < 1073741824 := by
  obtain ⟨n, l, h1, h2, h3, h4, e, _⟩ := h
  have hl : ∀ i, l i ≤ 26 := fun i => by
    by_cases g : i < n
    · exact (h3 i g).2
    · rw [h4 i (by omega)]
      omega
  have h6 := e5_lt (l := l) (fun i => by have := hl i; omega) 6
  have e6 : 32 ^ 6 = 1073741824 := by decide
  rw [e6] at h6
  rw [e]
  omega
theorem spl_X11_letter {I : HI} {Q : Option AV → HI → Prop} {a b k : Int} (hC : cOK I 4) (hn : kO I 4 a b → 0 ≤ I 5 (a * 6 + b).toNat ∧ I 5 (a * 6 + b).toNat < 1073741824) (k1 : kO I 4 a b ∧ 0 ≤ k ∧ k < 6 → Q (some (aI (I 5 (a * 6 + b).toNat / 2 ^ (5 * (5 - k)).toNat % 32))) I) (k0 : ¬ (kO I 4 a b ∧ 0 ≤ k ∧ k < 6) → Q (some (aI (-1))) I) : Rj MX11_letter 1 [aR 0, aI a, aI b, aI k] I Q := by
  refine rj_of okX11_letter (Nat.le_of_ble_eq_true rfl) rfl ?_
  refine b_aload_n rfl rfl ?_
  refine b_getR (r := 3) rfl fl11_19 rfl (by decide) rfl rfl ?_
  refine b_iload_n rfl rfl ?_
  refine b_iload_n rfl rfl ?_
  refine b_callV2i (ν := MX3_knows) rfl ml11_175 cvX3_knows (d' := 0) (by omega) rfl (by decide) rfl (Nat.le_of_ble_eq_true rfl) ?_
  refine spf_knows (fun hk => ?_) (fun hk => ?_)
  · refine ⟨_, rfl, ?_⟩
    refine b_if_eq (tgt := 22) rfl rfl (fun z => absurd z (by decide)) (fun _ => ?_)
    refine b_iload_n rfl rfl ?_
    refine b_if_lt (tgt := 22) rfl rfl (fun c13 => ?_) (fun c13 => ?_)
    · refine b_iconst rfl (by decide) ?_
      refine b_iret rfl rfl ?_
      first | exact k0 (fun z => hk z.1) | exact k0 (fun z => by have := z.2; omega)
    · refine b_iload_n rfl rfl ?_
      refine b_bipush rfl (by decide) ?_
      refine b_icmp_lt (tgt := 24) rfl rfl (fun c19 => ?_) (fun c19 => ?_)
      · have hbb := kO_b hC hk
        have hnn := hn hk
        refine b_aload_n rfl rfl ?_
        refine b_getR (r := 3) rfl fl11_19 rfl (by decide) rfl rfl ?_
        refine b_getR (r := 5) rfl fl11_179 rfl (by decide) rfl rfl ?_
        refine b_iload_n rfl rfl ?_
        refine b_bipush rfl (by decide) ?_
        refine b_imulN rfl (by omega) (by omega) ?_
        refine b_iload_n rfl rfl ?_
        refine b_iaddN rfl (by omega) (by omega) ?_
        refine b_iald rfl rfl (by omega) (by omega) ?_
        refine b_iload_n rfl rfl ?_
        refine b_callS1i (ν := MX11_letterShift) rfl ml11_182 csX11_letterShift (d' := 0) (by omega) (Nat.le_of_ble_eq_true rfl) ?_
        refine sp_X11_letterShift (by omega) ?_
        refine ⟨_, rfl, ?_⟩
        refine b_ishr rfl ?_
        refine b_bipush rfl (by decide) ?_
        refine b_iand rfl ?_
        rw [show (5 * (5 - k)) = (((5 * (5 - k)).toNat : Nat) : Int) by omega, iShr_p _ (by unfold in32; omega) (by omega), iAnd_31]
        refine b_iret rfl rfl ?_
        exact k1 ⟨hk, by omega, by omega⟩
      · refine b_iconst rfl (by decide) ?_
        refine b_iret rfl rfl ?_
        first | exact k0 (fun z => hk z.1) | exact k0 (fun z => by have := z.2; omega)
  · refine ⟨_, rfl, ?_⟩
    refine b_if_eq (tgt := 22) rfl rfl (fun _ => ?_) (fun z => absurd z (by decide))
    refine b_iconst rfl (by decide) ?_
    refine b_iret rfl rfl ?_
    first | exact k0 (fun z => hk z.1) | exact k0 (fun z => by have := z.2; omega)
section TWO
variable {I : HI}
theorem tw_fault (h : Iv I) {n : Int} : T2 MX11_fault MX12_fault 0 0 [aI n] I := by
  obtain ⟨C, b, hK, hR⟩ := h
  refine sp_X11_fault ⟨_, rfl, spm_fault ⟨?_, C, b, hK, hR⟩⟩
  rw [hR.2.2.2.1, hR.2.2.2.2.1]
theorem tw_has (h : Iv I) {w : Int} : T2 MX11_has MX12_has 5 4 [aI w] I := by
  obtain ⟨C, b, hK, hR⟩ := h
  refine sp_X11_has hK.wf (fun K hS => ⟨_, rfl, ?_⟩)
  have r : RM I K C b := RM_to hR (fun q hq => hS.1 q (by omega) (by omega))
  exact spq_has (mn_of hK r) r.1.2.2.2.1 r.2.2.2.2.2.1 hK.bx.2.2.2.2.2.2.2 (fun K' hk => ⟨rfl, iv_sc hK hR hS hk⟩)
theorem tw_letter (h : Iv I) {x y k : Int} : T2 MX11_letter MX12_letter 1 1 [aI x, aI y, aI k] I := by
  obtain ⟨C, b, hK, hR⟩ := h
  have hn : kO I 4 x y → 0 ≤ I 5 (x * 6 + y).toNat ∧ I 5 (x * 6 + y).toNat < 1073741824 := fun hk => by
    have hbb := kO_b hK.po.1 hk
    have h4 := hk.2.2.2
    have nr := NR_in (hR.2.2.2.2.2.2.2 x.toNat y.toNat (by omega) (by omega))
    rw [show 6 * x.toNat + y.toNat = (x * 6 + y).toNat by omega] at nr
    exact nr
  refine spl_X11_letter hK.po.1 hn (fun hk => ⟨_, rfl, ?_⟩) (fun hk => ⟨_, rfl, ?_⟩)
  · exact spq_letter hR.1.1 hR.2.2.2.2.2.2.2 (fun _ => ⟨rfl, C, b, hK, hR⟩) (fun n => absurd hk n)
  · exact spq_letter hR.1.1 hR.2.2.2.2.2.2.2 (fun n => absurd n hk) (fun _ => ⟨rfl, C, b, hK, hR⟩)
theorem tw_ware (h : Iv I) {x w : Int} : T2 MX11_ware MX12_ware 2 2 [aI x, aI w] I := by
  obtain ⟨C, b, hK, hR⟩ := h
  refine sp_X11_ware hK.po.1 (fun k => by have := hK.bx.1 k; omega) (fun hk => ⟨_, rfl, ?_⟩) (fun hk => ⟨_, rfl, ?_⟩)
  · exact spq_ware (mn_of hK hR) (fun _ => ⟨rfl, C, b, hK, hR⟩) (fun n => absurd hk n)
  · exact spq_ware (mn_of hK hR) (fun n => absurd n hk) (fun _ => ⟨rfl, C, b, hK, hR⟩)
theorem tw_ship (h : Iv I) {x w : Int} : T2 MX11_ship MX12_ship 5 5 [aI x, aI w] I := by
  obtain ⟨C, b, hK, hR⟩ := h
  refine sp_X11_ship hK.wf (fun s e1 e2 K hS => ⟨_, rfl, ?_⟩) (fun hn => ⟨_, rfl, ?_⟩)
  · have r : RM I K C b := RM_to hR (fun q hq => hS.1 q (by omega) (by omega))
    refine spq_ship (mn_of hK r) (fun t e3 e4 K' hk => ⟨?_, iv_sc hK hR hS hk⟩) (fun n => absurd (kO1 e1 e2) n)
    have : s = t := by omega
    subst this
    rfl
  · exact spq_ship (mn_of hK hR) (fun t e3 e4 K' hk => absurd (kO1 e3 e4) hn) (fun n => ⟨rfl, C, b, hK, hR⟩)
theorem tw_tips (h : Iv I) {x : Int} : T2 MX11_tips MX12_tips 4 2 [aI x] I := by
  obtain ⟨C, b, hK, hR⟩ := h
  refine sp_X11_tips hK.po (fun k => by have := hK.bx.1 k; omega) (fun s e1 e2 => ⟨_, rfl, ?_⟩) (fun hn => ⟨_, rfl, ?_⟩)
  · refine spq_tips (mn_of hK hR) (fun t e3 e4 K' hk => ⟨?_, iv_sc hK hR (Sc.rf hK.2.1) hk⟩) (fun n => absurd (kO1 e1 e2) n)
    have : s = t := by omega
    subst this
    rfl
  · exact spq_tips (mn_of hK hR) (fun t e3 e4 K' hk => absurd (kO1 e3 e4) hn) (fun n => ⟨rfl, C, b, hK, hR⟩)
theorem tw_crates (h : Iv I) {x y z : Int} : T2 MX11_crates MX12_crates 3 2 [aI x, aI y, aI z] I := by
  obtain ⟨C, b, hK, hR⟩ := h
  refine sp_X11_crates hK.po (fun hk => ⟨_, rfl, ?_⟩) (fun hk => ⟨_, rfl, ?_⟩)
  · exact spq_crates (mn_of hK hR) (fun _ => ⟨rfl, C, b, hK, hR⟩) (fun n => absurd hk n)
  · exact spq_crates (mn_of hK hR) (fun n => absurd n hk) (fun _ => ⟨rfl, C, b, hK, hR⟩)
theorem tw_berth (h : Iv I) {x w : Int} : T2 MX11_berth MX12_berth 6 6 [aI x, aI w] I := by
  obtain ⟨C, b, hK, hR⟩ := h
  refine sp_X11_berth hK.wf (fun s e1 e2 K hS => ⟨_, rfl, ?_⟩) (fun hn => ⟨_, rfl, ?_⟩)
  · have r : RM I K C b := RM_to hR (fun q hq => hS.1 q (by omega) (by omega))
    refine spq_berth (mn_of hK r) (fun t e3 e4 K' hk => ⟨?_, iv_sc hK hR hS hk⟩) (fun n => absurd (kO2 e1 e2) n)
    have : s = t := by omega
    subst this
    rfl
  · exact spq_berth (mn_of hK hR) (fun t e3 e4 K' hk => absurd (kO2 e3 e4) hn) (fun n => ⟨rfl, C, b, hK, hR⟩)
theorem tw_tide (h : Iv I) {x w : Int} : T2 MX11_tide MX12_tide 5 4 [aI x, aI w] I := by
  obtain ⟨C, b, hK, hR⟩ := h
  refine sp_X11_tide hK.wf (fun K hS => ⟨_, rfl, ?_⟩)
  have r : RM I K C b := RM_to hR (fun q hq => hS.1 q (by omega) (by omega))
  exact spq_tide (mn_of hK r) (fun K' hk => ⟨rfl, iv_sc hK hR hS hk⟩)
theorem tw_rides (h : Iv I) {x n : Int} : T2 MX11_rides MX12_rides 5 5 [aI x, aI n] I := by
  obtain ⟨C, b, hK, hR⟩ := h
  refine sp_X11_rides hK.wf (fun s e1 e2 e0 K hS => ⟨_, rfl, ?_⟩) (fun hn => ⟨_, rfl, ?_⟩)
  · have r : RM I K C b := RM_to hR (fun q hq => hS.1 q (by omega) (by omega))
    refine spq_rides (mn_of hK r) (fun t e3 e4 e5 K' hk => ⟨?_, iv_sc hK hR hS hk⟩) (fun n => absurd ⟨kO1 e1 e2, e0⟩ n)
    have : s = t := by omega
    subst this
    rfl
  · exact spq_rides (mn_of hK hR) (fun t e3 e4 e5 K' hk => absurd ⟨kO1 e3 e4, e5⟩ hn) (fun n => ⟨rfl, C, b, hK, hR⟩)
theorem tw_adrift (h : Iv I) {w : Int} : T2 MX11_adrift MX12_adrift 7 6 [aI w] I := by
  obtain ⟨C, b, hK, hR⟩ := h
  refine sp_X11_adrift hK.wf (fun K hS => ⟨_, rfl, ?_⟩)
  have r : RM I K C b := RM_to hR (fun q hq => hS.1 q (by omega) (by omega))
  exact spq_adrift (mn_of hK r) (fun K' hk => ⟨rfl, iv_sc hK hR hS hk⟩)
theorem tw_alike (h : Iv I) {x y k : Int} : T2 MX11_alike MX12_alike 5 5 [aI x, aI y, aI k] I := by
  obtain ⟨C, b, hK, hR⟩ := h
  refine sp_X11_alike hK.wf (fun s t e1 e2 e3 e4 e5 e6 K hS => ⟨_, rfl, ?_⟩) (fun hn => ⟨_, rfl, ?_⟩)
  · have r : RM I K C b := RM_to hR (fun q hq => hS.1 q (by omega) (by omega))
    refine spq_alike (mn_of hK r) (fun s' t' g1 g2 g3 g4 g5 g6 K' hk => ⟨?_, iv_sc hK hR hS hk⟩) (fun n => absurd ⟨kO1 e1 e3, kO1 e2 e4, e5, e6⟩ n)
    have q1 : s = s' := by omega
    have q2 : t = t' := by omega
    subst q1 q2
    rfl
  · exact spq_alike (mn_of hK hR) (fun s' t' g1 g2 g3 g4 g5 g6 K' hk => absurd ⟨kO1 g1 g3, kO1 g2 g4, g5, g6⟩ hn) (fun n => ⟨rfl, C, b, hK, hR⟩)
theorem tw_stowed (h : Iv I) {k : Int} : T2 MX11_stowed MX12_stowed 0 1 [aI k] I := by
  obtain ⟨C, b, hK, hR⟩ := h
  exact sp_X11_stowed hR.2.1.1.1.2.2.1 ⟨_, rfl, spm_stowed hR.2.1.1 ⟨rfl, C, b, hK, hR⟩⟩
theorem tw_ordered (h : Iv I) {k : Int} : T2 MX11_ordered MX12_ordered 0 1 [aI k] I := by
  obtain ⟨C, b, hK, hR⟩ := h
  exact sp_X11_ordered hR.2.1.1.2.2.2.1 ⟨_, rfl, spm_ordered hR.2.1.1 ⟨rfl, C, b, hK, hR⟩⟩
theorem tw_kept (h : Iv I) {k w : Int} : T2 MX11_kept MX12_kept 1 1 [aI k, aI w] I := by
  obtain ⟨C, b, hK, hR⟩ := h
  have g := hK.2.2.1.2.1
  exact sp_X11_kept ⟨g.1, g.2.1, g.2.2.2⟩ hK.bx.2.1 ⟨_, rfl, spm_kept hR.1.2.2.1 g.2.2 ⟨rfl, C, b, hK, hR⟩⟩
theorem tw_octet (h : Iv I) {k : Int} : T2 MX11_octet MX12_octet 0 1 [aI k] I := by
  obtain ⟨C, b, hK, hR⟩ := h
  exact sp_X11_octet hR.2.1.2.2.1.2.2.1 ⟨_, rfl, spm_octet hR.2.1.2.2.1 ⟨rfl, C, b, hK, hR⟩⟩
theorem tw_status (h : Iv I) {k : Int} : T2 MX11_status MX12_status 0 1 [aI k] I := by
  obtain ⟨C, b, hK, hR⟩ := h
  exact sp_X11_status ⟨_, rfl, spm_status hR.2.1.2.1 ⟨rfl, C, b, hK, hR⟩⟩
end TWO
