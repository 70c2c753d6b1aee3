/-! ===== what the class keeps over an act ===== -/
section KACT
variable {I J J' K K' : HI} {C : Nat → List Int} {b : Nat}
theorem GD_cg {hr hr' kf kf' kc kc' : Int} {li cr rg li' cr' rg' : Nat → Int} (h : GD J hr kf kc li cr rg) (e1 : hr' = hr) (e2 : kf' = kf) (e3 : kc' = kc) (e4 : ∀ s, s < 6 → li' s = li s) (e5 : ∀ c, c < 144 → cr' c = cr c) (e6 : ∀ r, r < 60 → rg' r = rg r) : GD J hr' kf' kc' li' cr' rg' := by
  obtain ⟨a, b, c, d, e, f⟩ := h
  refine ⟨by rw [e1]; exact a, by rw [e2, e3]; exact b, fun s hs => ?_, fun k hk => ?_, fun s h w hs hh hw hn => ?_, fun k hk => ?_⟩
  · rw [e4 s hs]; exact c s hs
  · rw [e5 k hk]; exact d k hk
  · rw [e5 _ (by omega)]; exact e s h w hs hh hw hn
  · rw [e6 k hk]; exact f k hk
theorem GDs_new {q : Nat} (h : GDn J) (e4 : J' 4 = J 4) (e6 : J' 6 = J 6) (hJ : J' 39 = wrt J ((213 * q : Nat) : Int) 39) : GDs J' q := by
  obtain ⟨w1, w2, w3, w4, w5, w6⟩ := wrt_at (J := J) (q := q)
  unfold GDs
  rw [hJ]
  exact GD_J (J := J) (GD_cg h w1 w2 w3 w4 w5 w6) e4 e6
theorem GDs_old {q p : Nat} (h : GDs J p) (hp : p ≠ q) (e4 : J' 4 = J 4) (e6 : J' 6 = J 6) (hJ : J' 39 = wrt J ((213 * q : Nat) : Int) 39) : GDs J' p := by
  unfold GDs at *
  rw [hJ]
  have e0 : wrt J ((213 * q : Nat) : Int) 39 (213 * p) = J 39 (213 * p) := wrt_ne (i := 0) hp (by decide)
  refine GD_J (J := J) (GD_cg h e0 (wrt_ne hp (by decide)) (wrt_ne hp (by decide)) (fun s hs => ?_) (fun c hc => ?_) (fun r hr => ?_)) e4 e6
  · have := wrt_ne (J := J) hp (i := 3 + s) (by omega)
    rw [← Nat.add_assoc] at this
    exact this
  · have := wrt_ne (J := J) hp (i := 9 + c) (by omega)
    rw [← Nat.add_assoc] at this
    exact this
  · have := wrt_ne (J := J) hp (i := 153 + r) (by omega)
    rw [← Nat.add_assoc] at this
    exact this
theorem rem_full {f : Nat} (hf : J 38 1 = (f : Int)) (hf2 : f < 20) (hu : J 38 2 = 20) : rem_ J 38 1 = (J 38 1 + 1) % 20 ∧ rem_ J 38 2 = 20 ∧ rem_ J 39 = wrt J ((213 * f : Nat) : Int) 39 := by
  unfold rem_
  rw [if_neg (by omega), show (J 38 1 + J 38 2) % 20 * 213 = ((213 * f : Nat) : Int) by omega]
  exact ⟨up_s, by rw [up_n (by omega), wrt_38]; exact hu, up_cell (by decide)⟩
theorem rem_more {f u : Nat} (hf : J 38 1 = (f : Int)) (hf2 : f < 20) (hu : J 38 2 = (u : Int)) (hu2 : u < 20) : rem_ J 38 1 = J 38 1 ∧ rem_ J 38 2 = J 38 2 + 1 ∧ rem_ J 39 = wrt J ((213 * ((f + u) % 20) : Nat) : Int) 39 := by
  unfold rem_
  rw [if_pos (by omega), show (J 38 1 + J 38 2) % 20 * 213 = ((213 * ((f + u) % 20) : Nat) : Int) by omega]
  exact ⟨by rw [up_n (by omega), wrt_38], up_s, up_cell (by decide)⟩
theorem KI_rem (h : KI J C) : KI (rem_ J) C := by
  have hc : ∀ q, q ≠ 38 → q ≠ 39 → rem_ J q = J q := fun q a b => rem_cell a b
  obtain ⟨p1, p2, p3, p4⟩ := h.2.2.2.1
  have hg := h.2.2.1
  have hG := h.2.2.2.2.1
  have c4 := hc 4 (by decide) (by decide)
  have c6 := hc 6 (by decide) (by decide)
  obtain ⟨f, hf⟩ : ∃ f : Nat, J 38 1 = (f : Int) := ⟨(J 38 1).toNat, by omega⟩
  obtain ⟨u, hu⟩ : ∃ u : Nat, J 38 2 = (u : Int) := ⟨(J 38 2).toNat, by omega⟩
  refine KI_s h (fun q hq => hc q (by omega) (by omega)) (seB_to h.2.1 (hc 28 (by decide) (by decide))) (GDn_to hg c4 c6 (fun q hq => hc q (by omega) (by omega))) ?_ ?_ (BX_to h.bx (fun q hq => hc q (by omega) (by omega)) (by rw [hc 0 (by decide) (by decide)]))
  · unfold PS
    by_cases h20 : u = 20
    · obtain ⟨r1, r2, r3⟩ := rem_full hf (by omega) (by omega)
      rw [r1, r2]
      omega
    · obtain ⟨r1, r2, r3⟩ := rem_more hf (by omega) hu (by omega)
      rw [r1, r2]
      omega
  · intro j hj
    by_cases h20 : u = 20
    · obtain ⟨r1, r2, r3⟩ := rem_full hf (by omega) (by omega)
      rw [r2] at hj
      rw [r1]
      by_cases h19 : j = 19
      · rw [show (((J 38 1 + 1) % 20 + (j : Int)) % 20).toNat = f by omega]
        exact GDs_new hg c4 c6 r3
      · rw [show (((J 38 1 + 1) % 20 + (j : Int)) % 20).toNat = ((J 38 1 + ((j + 1 : Nat) : Int)) % 20).toNat by omega]
        exact GDs_old (hG (j + 1) (by omega)) (by omega) c4 c6 r3
    · obtain ⟨r1, r2, r3⟩ := rem_more hf (by omega) hu (by omega)
      rw [r2] at hj
      rw [r1]
      by_cases hju : j = u
      · rw [show ((J 38 1 + (j : Int)) % 20).toNat = (f + u) % 20 by omega]
        exact GDs_new hg c4 c6 r3
      · exact GDs_old (hG j (by omega)) (by omega) c4 c6 r3
theorem KI_now (h : KI J C) (e : ∀ q, q ≠ 30 → q ≠ 31 → q ≠ 32 → q ≠ 33 → J' q = J q) (hg : GDn J') (h32 : ∀ k, 0 ≤ J' 32 k ∧ J' 32 k ≤ 20) (h33 : ∀ k, 0 ≤ J' 33 k ∧ J' 33 k < 2000000000) : KI J' C := by
  have e' : ∀ q, (q < 30 ∨ 33 < q) → J' q = J q := fun q hq => e q (by omega) (by omega) (by omega) (by omega)
  have hb := h.bx
  refine KI_s h (fun q hq => e' q (by omega)) (seB_to h.2.1 (e' 28 (by omega))) hg (PS_to h.2.2.2.1 (e' 38 (by omega))) (PG_to h.2.2.2.2.1 (e' 4 (by omega)) (e' 6 (by omega)) (e' 38 (by omega)) (e' 39 (by omega))) ?_
  unfold BX oB tB at *
  rw [e' 45 (by omega), e' 53 (by omega), e' 54 (by omega), e' 56 (by omega), e' 36 (by omega), e' 0 (by omega)]
  exact ⟨h32, h33, hb.2.2⟩
theorem KI_32 {s h w : Nat} {x : Int} (hk : KI J C) (hs : (s : Int) < J 4 1) (hh : h < nH J s) (hw : (w : Int) < J 4 0) (hh4 : h < 4) (hw6 : w < 6) (hx : 0 ≤ x ∧ x ≤ 20) : KI (up J 32 (24 * s + 6 * h + w) x) C := by
  have g := hk.2.2.1
  have hb := hk.bx
  have j : ∀ q, q ≠ 32 → up J 32 (24 * s + 6 * h + w) x q = J q := fun q hq => up_cell hq
  have b32 : ∀ k, 0 ≤ up J 32 (24 * s + 6 * h + w) x 32 k ∧ up J 32 (24 * s + 6 * h + w) x 32 k ≤ 20 := fun k => by
    have := hb.1 k
    rw [up_ap]
    split
    · exact hx
    · exact this
  refine KI_now hk (fun q _ _ a _ => j q a) ?_ b32 (by rw [j 33 (by decide)]; exact hb.2.1)
  unfold GDn
  rw [j 30 (by decide), j 31 (by decide), j 33 (by decide)]
  refine GD_J (J := J) ⟨g.1, g.2.1, g.2.2.1, fun k _ => b32 k, fun s' h' w' a1 a2 a3 a4 => ?_, g.2.2.2.2.2⟩ (j 4 (by decide)) (j 6 (by decide))
  have hne : 24 * s' + 6 * h' + w' ≠ 24 * s + 6 * h + w := fun e => by
    have e1 : s' = s := by omega
    have e2 : h' = h := by omega
    have e3 : w' = w := by omega
    rw [e1, e2, e3] at a4
    exact a4 ⟨hs, hh, hw⟩
  rw [up_ap, if_neg (fun e => hne e.2)]
  exact g.2.2.2.2.1 s' h' w' a1 a2 a3 a4
theorem KI_31 {s : Nat} {x : Int} (hk : KI J C) (hs : (s : Int) < J 4 1) (hx : x = -1 ∨ (0 ≤ x ∧ x < J 4 2)) : KI (up J 31 s x) C := by
  have g := hk.2.2.1
  have hb := hk.bx
  have j : ∀ q, q ≠ 31 → up J 31 s x q = J q := fun q hq => up_cell hq
  refine KI_now hk (fun q _ a _ _ => j q a) ?_ (by rw [j 32 (by decide)]; exact hb.1) (by rw [j 33 (by decide)]; exact hb.2.1)
  unfold GDn
  rw [j 30 (by decide), j 32 (by decide), j 33 (by decide)]
  refine GD_J (J := J) ⟨g.1, g.2.1, fun t ht => ?_, g.2.2.2.1, g.2.2.2.2.1, g.2.2.2.2.2⟩ (j 4 (by decide)) (j 6 (by decide))
  rw [up_ap]
  by_cases e : t = s
  · rw [if_pos ⟨rfl, e⟩]
    exact ⟨fun _ => hx, fun n => absurd (by rw [e]; exact hs) n⟩
  · rw [if_neg (fun z => e z.2)]
    exact g.2.2.1 t ht
theorem pk_inB {h s c w : Int} (hh : 0 ≤ h ∧ h ≤ 9999) (hs : 0 ≤ s ∧ s < 6) (hc : 0 ≤ c ∧ c < 24) (hw : 0 ≤ w ∧ w < 3) : 0 ≤ pk h s c w ∧ pk h s c w < 2000000000 := by
  unfold pk
  omega
theorem keepS_33 {s c w : Int} (h : ∀ k, 0 ≤ J 33 k ∧ J 33 k < 2000000000) (hp : 0 ≤ pk (J 30 5) s c w ∧ pk (J 30 5) s c w < 2000000000) : ∀ k, 0 ≤ keepS J s c w 33 k ∧ keepS J s c w 33 k < 2000000000 := by
  intro k
  have := h k
  unfold keepS
  split
  · rw [up_cell (by decide), up_ap]
    split
    · exact hp
    · exact this
  · rw [up_cell (by decide), up_ap]
    split
    · exact hp
    · exact this
theorem KI_keep {s c w : Int} (hk : KI J C) (hs : 0 ≤ s ∧ s < 6) (hc : 0 ≤ c ∧ c < 24) (hw : 0 ≤ w ∧ w < 3) : KI (keepS J s c w) C := by
  have g := hk.2.2.1
  have hb := hk.bx
  have j : ∀ q, q ≠ 30 → q ≠ 33 → keepS J s c w q = J q := fun q a d => keepS_cell a d
  have b33 := keepS_33 hb.2.1 (pk_inB g.1 hs hc hw)
  refine KI_now hk (fun q a _ _ d => j q a d) ?_ (by rw [j 32 (by decide) (by decide)]; exact hb.1) b33
  unfold GDn
  rw [keepS_5, j 31 (by decide) (by decide), j 32 (by decide) (by decide)]
  exact GD_J (J := J) ⟨g.1, keepS_34 g.2.1, g.2.2.1, g.2.2.2.1, g.2.2.2.2.1, fun k _ => b33 k⟩ (j 4 (by decide) (by decide)) (j 6 (by decide) (by decide))
theorem Sc_cpy (h : Sc I K) {q0 q1 a d n : Nat} (h0 : q0 ≠ 28) (h0' : q0 ≠ 29) (h1 : q1 ≠ 28) (h2 : q1 ≠ 29) : Sc (cpy I q0 q1 a d n) (cpy K q0 q1 a d n) := by
  refine ⟨fun p e1 e2 => ?_, ?_⟩
  · funext j
    rw [cpy_ap, cpy_ap, h.ap e1 e2, h.ap h0 h0']
  · have := h.2
    unfold seB at *
    intro k hk
    rw [cpy_ap, if_neg (fun z => h1 z.1.symm)]
    exact this k hk
theorem Sc_wrt (h : Sc I K) {a : Int} : Sc (wrt I a) (wrt K a) := by
  unfold wrt
  rw [h.ap (q := 30) (k := 5) (by decide) (by decide), h.ap (q := 30) (k := 3) (by decide) (by decide), h.ap (q := 30) (k := 4) (by decide) (by decide)]
  exact Sc_cpy (Sc_cpy (Sc_cpy (((h.up (by decide) (by decide)).up (by decide) (by decide)).up (by decide) (by decide)) (by decide) (by decide) (by decide) (by decide)) (by decide) (by decide) (by decide) (by decide)) (by decide) (by decide) (by decide) (by decide)
theorem Sc_rem (h : Sc I K) : Sc (rem_ I) (rem_ K) := by
  unfold rem_
  rw [h.ap (q := 38) (k := 2) (by decide) (by decide), h.ap (q := 38) (k := 1) (by decide) (by decide)]
  split
  · exact (Sc_wrt h).up (by decide) (by decide)
  · exact (Sc_wrt h).up (by decide) (by decide)
theorem Sc_wk (h : Sc I K) {x y z w : Int} : Sc (wkS I x y z w) (wkS K x y z w) := by
  unfold wkS
  rw [show aft K w (cA x y z) = aft I w (cA x y z) by unfold aft; rw [h.ap (by decide) (by decide)]]
  exact ((Sc_rem h).up (by decide) (by decide)).keep
theorem KI_wk {x y z w : Int} (hk : KI J C) (hp : wkP J C x y z w) (hw : w = 0 ∨ w = 1) : KI (wkS J x y z w) C := by
  obtain ⟨s, i, j, e1, e2, e3, l1, l2, l3, s6, i4, j6, eA⟩ := kc_nat hk.po hp.1
  have hr := KI_rem hk
  have c4 : rem_ J 4 = J 4 := rem_cell (by decide) (by decide)
  have c6 : rem_ J 6 = J 6 := rem_cell (by decide) (by decide)
  have ha := hp.2.2.1
  unfold wkS
  rw [eA] at ha ⊢
  unfold nW at l3
  refine KI_keep (KI_32 hr (by rw [c4]; exact l1) (by unfold nH; rw [c6]; exact l2) (by rw [c4]; omega) i4 j6 ha) ⟨by omega, by omega⟩ ⟨by omega, by omega⟩ (by omega)
theorem KI_sh {x y z w : Int} (hk : KI J C) (hp : shP J x y z w) : KI (shS J x y z w) C := by
  obtain ⟨s, i, j, e1, e2, e3, l1, l2, l3, s6, i4, j6, eA⟩ := kc_nat hk.po hp.1
  obtain ⟨s', i', j', g1, g2, g3, m1, m2, m3, s6', i4', j6', eB⟩ := kc_nat hk.po hp.2.1
  have hr := KI_rem hk
  have c4 : rem_ J 4 = J 4 := rem_cell (by decide) (by decide)
  have c6 : rem_ J 6 = J 6 := rem_cell (by decide) (by decide)
  obtain ⟨h1, h2⟩ := hp.2.2.2
  have b1 := hk.bx.1 (cA x y z)
  have b2 := hk.bx.1 (cA x w z)
  unfold shS
  rw [eA] at h1 b1 ⊢
  rw [eB] at h2 b2 ⊢
  unfold nW at l3 m3
  have k1 := KI_32 (x := J 32 (24 * s + 6 * i + j) - 1) hr (by rw [c4]; exact l1) (by unfold nH; rw [c6]; exact l2) (by rw [c4]; omega) i4 j6 (by omega)
  have c4' : up (rem_ J) 32 (24 * s + 6 * i + j) (J 32 (24 * s + 6 * i + j) - 1) 4 = J 4 := by rw [up_cell (by decide)]; exact c4
  have c6' : up (rem_ J) 32 (24 * s + 6 * i + j) (J 32 (24 * s + 6 * i + j) - 1) 6 = J 6 := by rw [up_cell (by decide)]; exact c6
  exact KI_32 k1 (by rw [c4']; exact m1) (by unfold nH; rw [c6']; exact m2) (by rw [c4']; omega) i4' j6' (by omega)
theorem KI_mo {x y : Int} (hk : KI J C) (hp : moP J C x y) : KI (up (rem_ J) 31 x.toNat y) C := by
  have c4 : rem_ J 4 = J 4 := rem_cell (by decide) (by decide)
  have k1 : 0 ≤ x := hp.1.2.2.1
  have k2 : x < J 4 1 := hp.1.2.2.2
  refine KI_31 (KI_rem hk) (by rw [c4]; omega) ?_
  rw [c4]
  rcases hp.2 with h | h
  · exact Or.inl h.1
  · have l1 : 0 ≤ y := h.2.1.2.2.1
    have l2 : y < J 4 2 := h.2.1.2.2.2
    exact Or.inr ⟨l1, l2⟩
theorem KI_hr (hk : KI J C) (hh : J 30 5 + 1 ≤ 9999) : KI (hrS J C) C := by
  have g := hk.2.2.1
  have hb := hk.bx
  have hn := (nS_in hk.po).2
  unfold hrS
  have j : ∀ q, q ≠ 30 → q ≠ 31 → hrB J C (J 30 5 + 1) (nS J) q = J q := fun q a d => hrB_cell a d
  refine KI_now hk (fun q a d _ _ => j q a d) ?_ (by rw [j 32 (by decide) (by decide)]; exact hb.1) (by rw [j 33 (by decide) (by decide)]; exact hb.2.1)
  have e5 : hrB J C (J 30 5 + 1) (nS J) 30 5 = J 30 5 + 1 := rfl
  have e3 : hrB J C (J 30 5 + 1) (nS J) 30 3 = J 30 3 := rfl
  have e4 : hrB J C (J 30 5 + 1) (nS J) 30 4 = J 30 4 := rfl
  unfold GDn
  rw [e5, e3, e4, j 32 (by decide) (by decide), j 33 (by decide) (by decide)]
  have g1 := g.1
  refine GD_J (J := J) ⟨by omega, g.2.1, fun t ht => ?_, g.2.2.2.1, g.2.2.2.2.1, g.2.2.2.2.2⟩ (j 4 (by decide) (by decide)) (j 6 (by decide) (by decide))
  have gt := g.2.2.1 t ht
  rw [hrB_31]
  by_cases hl : t < nS J
  · rw [if_pos hl]
    unfold nwl
    refine ⟨fun a => ?_, fun a => absurd (by omega) a⟩
    by_cases u : unP J C (J 30 5 + 1) t
    · rw [pI_1 u]; exact Or.inl rfl
    · rw [pI_0 u]; exact gt.1 a
  · rw [if_neg hl]
    exact gt
theorem KI_hrN (hk : KI J C) : ∀ n : Nat, J 30 5 + n ≤ 9999 → KI (hrN J C n) C := by
  intro n
  induction n with
  | zero => exact fun _ => hk
  | succ n ih => exact fun hn => KI_hr (ih (by omega)) (by rw [hrN_5]; omega)
theorem KI_15 {x : Int} (hk : KI J C) (hx : 0 ≤ x ∧ x < 2147483648) : KI (up J 0 15 x) C := by
  have j : ∀ q, q ≠ 0 → up J 0 15 x q = J q := fun q hq => up_cell hq
  have hb := hk.bx
  refine KI_q hk (fun q hq => j q (by unfold kiC at hq; omega)) (seB_to hk.2.1 (j 28 (by decide))) ?_
  unfold BX oB tB at *
  rw [j 32 (by decide), j 33 (by decide), j 45 (by decide), j 53 (by decide), j 54 (by decide), j 56 (by decide), j 36 (by decide), up_s]
  exact ⟨hb.1, hb.2.1, hb.2.2.1, hb.2.2.2.1, hb.2.2.2.2.1, hb.2.2.2.2.2.1, hb.2.2.2.2.2.2.1, hx⟩
theorem KI_bl1 {s : Nat} (hk : KI J C) (hs : (s : Int) < J 4 1) : KI (bl1 J s).1 C := by
  have hd : KI (up J 0 15 (nxt (J 0 15))) C := KI_15 hk (by unfold nxt; omega)
  have hc := hk.po.1 1 (by decide)
  unfold bl1
  split
  · split
    · cases hf : fc (fun j => J 32 (24 * s + j)) 24 0 with
      | none => exact hd
      | some j =>
        obtain ⟨f1, f2, f3⟩ := fc_some hf
        have f1' : 0 < J 32 (24 * s + j) := f1
        have hkn : (s : Int) < J 4 1 ∧ j / 6 < nH J s ∧ ((j % 6 : Nat) : Int) < J 4 0 := by
          refine Classical.byContradiction (fun hn => ?_)
          have z := hk.zf s (j / 6) (j % 6) (by omega) (by omega) (by omega) hn
          rw [show 24 * s + 6 * (j / 6) + j % 6 = 24 * s + j by omega] at z
          omega
        have e32 : up J 0 15 (nxt (J 0 15)) 32 = J 32 := up_cell (by decide)
        have e4 : up J 0 15 (nxt (J 0 15)) 4 = J 4 := up_cell (by decide)
        have e6 : up J 0 15 (nxt (J 0 15)) 6 = J 6 := up_cell (by decide)
        have hb := hk.bx.1 (24 * s + j)
        have k1 := KI_32 (x := J 32 (24 * s + j) - 1) hd (by rw [e4]; exact hkn.1) (by unfold nH; rw [e6]; exact hkn.2.1) (by rw [e4]; exact hkn.2.2) (by omega) (by omega) (by omega)
        rw [show 24 * s + 6 * (j / 6) + j % 6 = 24 * s + j by omega] at k1
        show KI (keepS (up (up J 0 15 (nxt (J 0 15))) 32 (24 * s + j) (up J 0 15 (nxt (J 0 15)) 32 (24 * s + j) - 1)) (s : Int) (j : Int) 2) C
        rw [e32]
        exact KI_keep k1 (by omega) (by omega) (by omega)
    · exact hd
  · exact hk
theorem KI_blN (hk : KI J C) : ∀ n : Nat, (n : Int) ≤ J 4 1 → KI (blN J n).1 C := by
  intro n
  induction n with
  | zero => exact fun _ => hk
  | succ n ih => exact fun hn => KI_bl1 (ih (by omega)) (by rw [blN_cell n (by decide) (by decide) (by decide) (by decide)]; omega)
theorem gaB_q {q : Nat} (n : Nat) (h0 : q ≠ 0) (h1 : q < 30 ∨ 33 < q) : (gaB J C n).1 q = J q := by
  induction n with
  | zero => rfl
  | succ n ih =>
    show hrB _ C _ _ q = _
    rw [hrB_cell (by omega) (by omega), blN_cell _ h0 (by omega) (by omega) (by omega)]
    exact ih
theorem KI_ga (hk : KI J C) : ∀ n : Nat, J 30 5 + n ≤ 9999 → KI (gaB J C n).1 C := by
  intro n
  induction n with
  | zero => exact fun _ => hk
  | succ n ih =>
    intro hn
    have i1 := ih (by omega)
    obtain ⟨a, b, c, d⟩ := gaB_I hk.wf hk.bw n (by omega)
    have e5 := blN_5 (I := (gaB J C n).1) (nS (gaB J C n).1)
    have n1 := (nS_in i1.po).2
    exact KI_hr (KI_blN i1 _ (by omega)) (by rw [e5, c]; omega)
theorem bl1_o {s j : Nat} (h : j ≠ 15) : (bl1 J s).1 0 j = J 0 j := by
  unfold bl1
  split
  · split
    · cases fc (fun j => J 32 (24 * s + j)) 24 0 with
      | none => exact up_n (by omega)
      | some i => show keepS _ _ _ _ 0 j = _; rw [keepS_cell (by decide) (by decide), up_cell (by decide), up_n (by omega)]
    · exact up_n (by omega)
  · rfl
theorem blN_o {j : Nat} (n : Nat) (h : j ≠ 15) : (blN J n).1 0 j = J 0 j := by
  induction n with
  | zero => rfl
  | succ n ih =>
    show (bl1 (blN J n).1 n).1 0 j = _
    rw [bl1_o h, ih]
theorem gaB_o {j : Nat} (n : Nat) (h : j ≠ 15) : (gaB J C n).1 0 j = J 0 j := by
  induction n with
  | zero => rfl
  | succ n ih =>
    show hrS (blN (gaB J C n).1 (nS (gaB J C n).1)).1 C 0 j = _
    unfold hrS
    rw [hrB_cell (by decide) (by decide), blN_o _ h, ih]
theorem hrN_q {q : Nat} (n : Nat) (h0 : q ≠ 30) (h1 : q ≠ 31) : hrN J C n q = J q := by
  induction n with
  | zero => rfl
  | succ n ih =>
    show hrB _ C _ _ q = _
    rw [hrB_cell h0 h1]
    exact ih
/-- what an undo brings back -/
theorem rdf_at {q : Nat} : rdf J ((213 * q : Nat) : Int) 30 5 = J 39 (213 * q) ∧ rdf J ((213 * q : Nat) : Int) 30 3 = J 39 (213 * q + 1) ∧ rdf J ((213 * q : Nat) : Int) 30 4 = J 39 (213 * q + 2) ∧ (∀ s, s < 6 → rdf J ((213 * q : Nat) : Int) 31 s = J 39 (213 * q + 3 + s)) ∧ (∀ c, c < 144 → rdf J ((213 * q : Nat) : Int) 32 c = J 39 (213 * q + 9 + c)) ∧ (∀ r, r < 60 → rdf J ((213 * q : Nat) : Int) 33 r = J 39 (213 * q + 153 + r)) := by
  have e0 : ((213 * q : Nat) : Int).toNat = 213 * q := Int.toNat_natCast _
  have e1 : (((213 * q : Nat) : Int) + 1).toNat = 213 * q + 1 := by omega
  have e2 : (((213 * q : Nat) : Int) + 2).toNat = 213 * q + 2 := by omega
  have e3 : (((213 * q : Nat) : Int) + 3).toNat = 213 * q + 3 := by omega
  have e9 : (((213 * q : Nat) : Int) + 3 + 6).toNat = 213 * q + 9 := by omega
  have e15 : (((213 * q : Nat) : Int) + 3 + 6 + 144).toNat = 213 * q + 153 := by omega
  unfold rdf
  rw [e0, e1, e2, e3, e9, e15]
  generalize 213 * q = a
  simp only [cpy_ap, up_ap]
  refine ⟨?_, ?_, ?_, fun s hs => ?_, fun c hc => ?_, fun r hr => ?_⟩
  · grind
  · grind
  · grind
  · grind (splits := 30)
  · grind (splits := 30)
  · grind (splits := 30)
theorem rdf_o {a : Int} {q : Nat} (h : q < 30 ∨ 33 < q) : rdf J a q = J q := by
  funext k
  unfold rdf
  rw [cpy_ap, if_neg (by omega), cpy_ap, if_neg (by omega), cpy_ap, if_neg (by omega), up_n (by omega), up_n (by omega), up_n (by omega)]
theorem rdf_3 {a : Int} {k : Nat} : (144 ≤ k → rdf J a 32 k = J 32 k) ∧ (60 ≤ k → rdf J a 33 k = J 33 k) := by
  constructor
  · intro h
    unfold rdf
    rw [cpy_ap, if_neg (by omega), cpy_ap, if_neg (by omega), cpy_ap, if_neg (by omega), up_n (by omega), up_n (by omega), up_n (by omega)]
  · intro h
    unfold rdf
    rw [cpy_ap, if_neg (by omega), cpy_ap, if_neg (by omega), cpy_ap, if_neg (by omega), up_n (by omega), up_n (by omega), up_n (by omega)]
theorem KI_un (hk : KI J C) (h : 0 < J 38 2) : KI (rdf (up J 38 2 (J 38 2 - 1)) ((J 38 1 + (J 38 2 - 1)) % 20 * 213)) C := by
  obtain ⟨p1, p2, p3, p4⟩ := hk.2.2.2.1
  have hG := hk.2.2.2.2.1
  have hb := hk.bx
  obtain ⟨f, hf⟩ : ∃ f : Nat, J 38 1 = (f : Int) := ⟨(J 38 1).toNat, by omega⟩
  obtain ⟨u, hu⟩ : ∃ u : Nat, J 38 2 = (u : Int) := ⟨(J 38 2).toNat, by omega⟩
  rw [show (J 38 1 + (J 38 2 - 1)) % 20 * 213 = ((213 * ((f + (u - 1)) % 20) : Nat) : Int) by omega]
  have gs := hG (u - 1) (by omega)
  rw [show ((J 38 1 + ((u - 1 : Nat) : Int)) % 20).toNat = (f + (u - 1)) % 20 by omega] at gs
  have eJ : ∀ q, q ≠ 38 → up J 38 2 (J 38 2 - 1) q = J q := fun q hq => up_cell hq
  have o : ∀ q, (q < 30 ∨ 33 < q) → q ≠ 38 → rdf (up J 38 2 (J 38 2 - 1)) ((213 * ((f + (u - 1)) % 20) : Nat) : Int) q = J q := fun q a c => (rdf_o a).trans (eJ q c)
  have o38 : rdf (up J 38 2 (J 38 2 - 1)) ((213 * ((f + (u - 1)) % 20) : Nat) : Int) 38 = up J 38 2 (J 38 2 - 1) 38 := rdf_o (by omega)
  obtain ⟨r1, r2, r3, r4, r5, r6⟩ := rdf_at (J := up J 38 2 (J 38 2 - 1)) (q := (f + (u - 1)) % 20)
  rw [eJ 39 (by decide)] at r1 r2 r3 r4 r5 r6
  have gn : GDn (rdf (up J 38 2 (J 38 2 - 1)) ((213 * ((f + (u - 1)) % 20) : Nat) : Int)) := GD_J (J := J) (GD_cg gs r1 r2 r3 r4 r5 r6) (o 4 (by omega) (by omega)) (o 6 (by omega) (by omega))
  have e32 : ∀ k, 0 ≤ rdf (up J 38 2 (J 38 2 - 1)) ((213 * ((f + (u - 1)) % 20) : Nat) : Int) 32 k ∧ rdf (up J 38 2 (J 38 2 - 1)) ((213 * ((f + (u - 1)) % 20) : Nat) : Int) 32 k ≤ 20 := fun k => by
    by_cases hl : k < 144
    · exact gn.2.2.2.1 k hl
    · rw [rdf_3.1 (by omega), eJ 32 (by decide)]
      exact hb.1 k
  have e33 : ∀ k, 0 ≤ rdf (up J 38 2 (J 38 2 - 1)) ((213 * ((f + (u - 1)) % 20) : Nat) : Int) 33 k ∧ rdf (up J 38 2 (J 38 2 - 1)) ((213 * ((f + (u - 1)) % 20) : Nat) : Int) 33 k < 2000000000 := fun k => by
    by_cases hl : k < 60
    · exact gn.2.2.2.2.2 k hl
    · rw [rdf_3.2 (by omega), eJ 33 (by decide)]
      exact hb.2.1 k
  refine KI_s hk (fun q hq => o q (by omega) (by omega)) (seB_to hk.2.1 (o 28 (by omega) (by omega))) gn ?_ ?_ ?_
  · unfold PS
    rw [o38, up_s, up_n (by omega)]
    omega
  · intro j hj
    rw [o38, up_s] at hj
    rw [o38, up_n (by omega)]
    have gj := hG j (by omega)
    unfold GDs at *
    rw [o 39 (by omega) (by omega)]
    exact GD_J gj (o 4 (by omega) (by omega)) (o 6 (by omega) (by omega))
  · unfold BX oB tB at *
    rw [o 45 (by omega) (by omega), o 53 (by omega) (by omega), o 54 (by omega) (by omega), o 56 (by omega) (by omega), o 36 (by omega) (by omega), o 0 (by omega) (by omega)]
    exact ⟨e32, e33, hb.2.2⟩
end KACT
