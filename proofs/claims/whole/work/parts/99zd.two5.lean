/-! ===== on ===== -/
section TWO5
variable {I X K : HI} {C : Nat → List Int} {b : Nat}
theorem cp34_31 {s : Nat} (h : s < 6) : cpS_34 X 31 s = X 35 s := by
  unfold cpS_34
  rw [cpy_ap, if_neg (by omega), cpy_ap, if_pos (by omega), up_cell (by decide), up_cell (by decide), up_cell (by decide), show 0 + (s - 0) = s by omega]
theorem cp34_32 {c : Nat} (h : c < 144) : cpS_34 X 32 c = X 36 c := by
  unfold cpS_34
  rw [cpy_ap, if_pos (by omega), show 0 + (c - 0) = c by omega, cpy_ap, if_neg (by omega), up_cell (by decide), up_cell (by decide), up_cell (by decide)]
theorem cp34_b {c : Nat} (h : 144 ≤ c) : cpS_34 X 32 c = X 32 c := by
  unfold cpS_34
  rw [cpy_ap, if_neg (by omega), cpy_ap, if_neg (by omega), up_cell (by decide), up_cell (by decide), up_cell (by decide)]
theorem cp34_o {q : Nat} (h : q < 30 ∨ 32 < q) : cpS_34 X q = X q := by
  funext k
  unfold cpS_34
  rw [cpy_ap, if_neg (by omega), cpy_ap, if_neg (by omega), up_cell (by omega), up_cell (by omega), up_cell (by omega)]
theorem cp34_30 : cpS_34 X 30 5 = X 34 5 ∧ cpS_34 X 30 3 = 0 ∧ cpS_34 X 30 4 = 0 := ⟨rfl, rfl, rfl⟩
def onS (I : HI) : HI := up (cpS_34 (up (tO I (nS I)) 1 1 0)) 38 2 0
theorem onS_o {q : Nat} (h : q < 30 ∨ 36 < q ∨ q = 33) (h1 : q ≠ 1) (h8 : q ≠ 38) : onS I q = I q := by
  unfold onS
  rw [up_cell h8, cp34_o (by omega), up_cell h1, tO_cell (by omega) (by omega) (by omega)]
theorem onS_1 : onS I 1 = up I 1 1 0 1 := by
  funext j
  unfold onS
  rw [up_cell (by decide), cp34_o (by omega), up_ap, up_ap, tO_cell (by decide) (by decide) (by decide)]
theorem onS_30 : onS I 30 5 = pr I 0 ∧ onS I 30 3 = 0 ∧ onS I 30 4 = 0 := by
  unfold onS
  rw [up_cell (by decide)]
  refine ⟨?_, cp34_30.2.1, cp34_30.2.2⟩
  rw [cp34_30.1, up_cell (by decide), tO_5]
theorem onS_31 {s : Nat} (h : s < 6) : onS I 31 s = tO I (nS I) 35 s := by
  unfold onS
  rw [up_cell (by decide), cp34_31 h, up_cell (by decide)]
theorem onS_32 {c : Nat} (h : c < 144) : onS I 32 c = tO I (nS I) 36 c := by
  unfold onS
  rw [up_cell (by decide), cp34_32 h, up_cell (by decide)]
theorem onS_32b {c : Nat} (h : 144 ≤ c) : onS I 32 c = I 32 c := by
  unfold onS
  rw [up_cell (by decide), cp34_b h, up_cell (by decide), tO_cell (by decide) (by decide) (by decide)]
theorem onS_36 : onS I 36 = tO I (nS I) 36 := by
  unfold onS
  rw [up_cell (by decide), cp34_o (by omega), up_cell (by decide)]
theorem onS_38 : onS I 38 1 = I 38 1 ∧ onS I 38 2 = 0 := by
  unfold onS
  refine ⟨?_, up_s⟩
  rw [up_n (by omega), cp34_o (by omega), up_cell (by decide), tO_cell (by decide) (by decide) (by decide)]
theorem tO_36in (hp : pOK I) (hB : ∀ j, 0 ≤ I 2 j ∧ I 2 j < 256) (hi : isI I) {s h w : Nat} (hs : s < 6) (hh : h < 4) (hw : w < 6) : (0 ≤ tO I (nS I) 36 (24 * s + 6 * h + w) ∧ tO I (nS I) 36 (24 * s + 6 * h + w) ≤ 20) ∧ (¬ ((s : Int) < I 4 1 ∧ h < nH I s ∧ (w : Int) < I 4 0) → tO I (nS I) 36 (24 * s + 6 * h + w) = 0) := by
  obtain ⟨n6, n1⟩ := nS_in hp
  obtain ⟨o1, o2, o3, o4⟩ := (isI_iff hp hB).1 hi
  rw [tO_36 hp (nS I) (by omega) s h w hs hh hw]
  by_cases e : s < nS I ∧ w < nW I ∧ h * nW I + w < cO I s
  · rw [if_pos e]
    have h20 := (o4 s e.1).2.2 _ e.2.2
    have hm := iLn_mono (J := I) (s + 1) (nS I) (by omega)
    have hx : iLn I (s + 1) = iLn I s + (1 + cO I s) := rfl
    have h0 := tAt_1 hB (k := ((iLn I s + (h * nW I + w) : Nat) : Int)) (by omega)
    refine ⟨⟨h0.1, h20⟩, fun n => absurd ⟨by omega, ?_, ?_⟩ n⟩
    · have h3 := e.2.2
      unfold cO at h3
      exact Nat.lt_of_mul_lt_mul_right (a := nW I) (by omega)
    · have h2 := e.2.1
      unfold nW at h2
      omega
  · rw [if_neg e]
    exact ⟨⟨by decide, by decide⟩, fun _ => rfl⟩
theorem KI_on (hk : KI I C) (hB : ∀ j, 0 ≤ I 2 j ∧ I 2 j < 256) (hi : isI I) : KI (onS I) C := by
  have hp := hk.po
  obtain ⟨n6, n1⟩ := nS_in hp
  obtain ⟨o1, o2, o3, o4⟩ := (isI_iff hp hB).1 hi
  have hb := hk.bx
  have hl := iLn_in hp (nS I) (by omega)
  have t0 := tAt_1 hB (k := 0) (by omega)
  have t1 := tAt_1 hB (k := 0 + 1) (by omega)
  have p0 : 0 ≤ pr I 0 := by
    unfold pr
    omega
  have o : ∀ q, (q < 30 ∨ 36 < q ∨ q = 33) → q ≠ 1 → q ≠ 38 → onS I q = I q := fun q a c d => onS_o a c d
  have c4 := o 4 (by omega) (by omega) (by omega)
  have c6 := o 6 (by omega) (by omega) (by omega)
  have h36 : ∀ c, c < 144 → 0 ≤ onS I 32 c ∧ onS I 32 c ≤ 20 := fun c hc => by
    have := (tO_36in hp hB hi (s := c / 24) (h := c % 24 / 6) (w := c % 24 % 6) (by omega) (by omega) (by omega)).1
    rw [show 24 * (c / 24) + 6 * (c % 24 / 6) + c % 24 % 6 = c by omega] at this
    rw [onS_32 hc]
    exact this
  obtain ⟨q1, q2, q3, q4⟩ := hk.2.2.2.1
  refine KI_s hk (fun q hq => o q (by omega) (by omega) (by omega)) (seB_to hk.2.1 (o 28 (by omega) (by omega) (by omega))) ?_ ?_ ?_ ?_
  · unfold GDn
    rw [onS_30.1, onS_30.2.1, onS_30.2.2]
    refine GD_J (J := I) ⟨⟨p0, o2⟩, by decide, fun s hs => ?_, h36, fun s h w hs hh hw hn => ?_, ?_⟩ c4 c6
    · rw [onS_31 hs, tO_35 (nS I) n6 s hs]
      by_cases e : s < nS I
      · rw [if_pos e]
        refine ⟨fun _ => ?_, fun n => absurd (by omega) n⟩
        rcases hi.2.2.1 s e with h | h
        · exact Or.inl h
        · have l1 : 0 ≤ bT I s := h.1.2.2.1
          have l2 : bT I s < I 4 2 := h.1.2.2.2
          exact Or.inr ⟨l1, l2⟩
      · rw [if_neg e]
        exact ⟨fun _ => Or.inl rfl, fun _ => rfl⟩
    · rw [onS_32 (by omega)]
      exact (tO_36in hp hB hi hs hh hw).2 hn
    · rw [o 33 (by omega) (by omega) (by omega)]
      exact fun k _ => hb.2.1 k
  · unfold PS
    rw [onS_38.1, onS_38.2]
    omega
  · intro j hj
    rw [onS_38.2] at hj
    omega
  · have hT := tO_B hB hb.2.2.2.2.2.2.1 (nS I)
    refine ⟨fun k => ?_, ?_, ?_, ?_, ?_, ?_, ?_, ?_⟩
    · by_cases e : k < 144
      · exact h36 k e
      · rw [onS_32b (by omega)]
        exact hb.1 k
    · rw [o 33 (by omega) (by omega) (by omega)]; exact hb.2.1
    · rw [o 45 (by omega) (by omega) (by omega)]; exact hb.2.2.1
    · rw [o 53 (by omega) (by omega) (by omega)]; exact hb.2.2.2.1
    · rw [o 54 (by omega) (by omega) (by omega)]; exact hb.2.2.2.2.1
    · intro k
      rw [o 56 (by omega) (by omega) (by omega)]
      exact hb.2.2.2.2.2.1 k
    · intro k
      rw [onS_36]
      exact hT k
    · rw [o 0 (by omega) (by omega) (by omega)]; exact hb.2.2.2.2.2.2.2
theorem tw_on (h : Iv I) : T2 MX11_on MX12_on 5 3 [] I := by
  obtain ⟨C, b, hK, hR⟩ := h
  have hb := hK.bx
  have t := hR.2.1.2.2.2
  have g := hK.2.2.1.2.1
  refine spb_X11_on hK.po t.1 t.2.1 hb.2.2.2.2.2.2.1 (fun hi => ⟨_, rfl, ?_⟩) (fun hi K hS hB => ⟨_, rfl, ?_⟩)
  · have e57 : ∀ q, 57 ≤ q → onS I q = I q := fun q hq => onS_o (by omega) (by omega) (by omega)
    have r : RM I (onS I) C b := RM_to hR e57
    refine spq_on (mn_of hK r) r.2.1.2.2.2 r.2.2.1 r.1.2.2.2 g.2.2 t.2.1 (fun _ K' f s u => ⟨rfl, ?_⟩) (fun w => absurd hi w)
    have r0 : RM (up I 1 1 0) (up (onS I) 57 1 0) C b := RM_e r ⟨by decide, t.1.1⟩
    have r1 : RM (onS I) K' C b := RM_F r0 f (fun q hq => by
      by_cases e : q = 1
      · rw [e]; exact onS_1
      · rw [up_cell e]; exact onS_o (by omega) e (by omega)) s u
    exact iv_of (KI_on hK t.2.1 hi) r1 (fun q hq => by rw [f.1 q (by omega) (by omega), up_cell (by omega)]; rfl) (fun q _ => rfl)
  · have e57 : ∀ q, 57 ≤ q → rfs (up K 1 1 0) 5 q = I q := fun q hq => by
      rw [show rfs (up K 1 1 0) 5 q = up K 1 1 0 q from up_cell (by omega), up_cell (by omega)]
      exact hS q (by omega) (by omega) (by omega)
    have r : RM I (rfs (up K 1 1 0) 5) C b := RM_to hR e57
    have k1 : KI K C := KI_q hK (fun q hq => by unfold kiC at hq; exact hS q (by omega) (by omega) (by omega)) (seB_to hK.2.1 (hS 28 (by decide) (by decide) (by decide))) (by
      refine ⟨?_, ?_, ?_, ?_, ?_, ?_, hB, ?_⟩
      · rw [hS 32 (by decide) (by decide) (by decide)]; exact hb.1
      · rw [hS 33 (by decide) (by decide) (by decide)]; exact hb.2.1
      · rw [hS 45 (by decide) (by decide) (by decide)]; exact hb.2.2.1
      · rw [hS 53 (by decide) (by decide) (by decide)]; exact hb.2.2.2.1
      · rw [hS 54 (by decide) (by decide) (by decide)]; exact hb.2.2.2.2.1
      · intro k
        rw [hS 56 (by decide) (by decide) (by decide)]
        exact hb.2.2.2.2.2.1 k
      · rw [hS 0 (by decide) (by decide) (by decide)]; exact hb.2.2.2.2.2.2.2)
    have k2 : KI (rfs (up K 1 1 0) 5) C := KI_rf (KI_u k1 (by omega))
    refine spq_on (mn_of hK r) r.2.1.2.2.2 r.2.2.1 r.1.2.2.2 g.2.2 t.2.1 (fun w => absurd w hi) (fun _ K' f s u => ⟨rfl, ?_⟩)
    have r0 : RM (up I 1 1 0) (up (rfs (up K 1 1 0) 5) 57 1 0) C b := RM_e r ⟨by decide, t.1.1⟩
    have r1 : RM (up I 1 1 0) K' C b := RM_F r0 f (fun q _ => rfl) (SRn_J s (fun q hq => up_cell (by omega))) (RUn_J u (up_cell (by omega)) (up_cell (by omega)))
    refine iv_of k2 (RM_rf (k := 5) r1) (fun q hq => by unfold mrf; rw [up_cell (by omega), f.1 q (by omega) (by omega), up_cell (by omega)]) (fun q hq => ?_)
    unfold rmC at hq
    have e1 : up K 1 1 0 q = up I 1 1 0 q := by
      funext i
      rw [up_ap, up_ap, hS q (by omega) (by omega) (by omega)]
    have e5 : up K 1 1 0 55 = up I 1 1 0 55 := by
      funext i
      rw [up_ap, up_ap, hS 55 (by decide) (by decide) (by decide)]
    funext j
    unfold rfs
    rw [up_ap, e1, e5]
    rfl
end TWO5
