/-! ===== slots of the reference against the rings of the class ===== -/
theorem mcp_shp {K : HI} {t f : Nat} : shp (mcp K t f) = shp K := by
  have e : ∀ q j, q < 85 → mcp K t f q j = K q j := fun q j hq => by
    unfold mcp
    rw [if_neg (by omega), if_neg (by omega), if_neg (by omega), if_neg (by omega), if_neg (by omega)]
  unfold shp
  rw [e 57 13 (by decide), e 62 _ (by decide)]
theorem SR_mcp_to {hr kf kc : Int} {li cr rg : Nat → Int} {K : HI} {t f : Nat} (h : SR hr kf kc li cr rg K f) : SR hr kf kc li cr rg (mcp K t f) t := by
  obtain ⟨h1, h2, h3, h4, h5⟩ := h
  have hm : shp (mcp K t f) = shp K := mcp_shp
  refine ⟨?_, fun s hs hn => ?_, fun c hc => ?_, ?_, fun k w hk hw => ?_⟩
  · unfold mcp; rw [if_pos ⟨rfl, rfl⟩, h1]
  · rw [hm] at hn; unfold mcp; rw [if_neg (by omega), if_pos (by omega), show 6 * t + s - 6 * t = s by omega, h2 s hs hn]
  · unfold mcp; rw [if_neg (by omega), if_neg (by omega), if_pos (by omega), show 144 * t + c - 144 * t = c by omega, h3 c hc]
  · unfold mcp; rw [if_neg (by omega), if_neg (by omega), if_neg (by omega), if_pos (by omega), h4]
  · unfold mcp; rw [if_neg (by omega), if_neg (by omega), if_neg (by omega), if_neg (by omega), if_pos (by omega), show 300 * f + (300 * t + 5 * k + w - 300 * t) = 300 * f + 5 * k + w by omega, h5 k w hk hw]
theorem SR_mcp_ne {hr kf kc : Int} {li cr rg : Nat → Int} {K : HI} {t f v : Nat} (h : SR hr kf kc li cr rg K v) (hv : v ≠ t) (hk8 : K 88 f ≤ 60) (hkc : kc ≤ 60) : SR hr kf kc li cr rg (mcp K t f) v := by
  obtain ⟨h1, h2, h3, h4, h5⟩ := h
  have hm : shp (mcp K t f) = shp K := mcp_shp
  refine ⟨?_, fun s hs hn => ?_, fun c hc => ?_, ?_, fun k w hk hw => ?_⟩
  · unfold mcp; rw [if_neg (by omega), if_neg (by omega), if_neg (by omega), if_neg (by omega), if_neg (by omega), h1]
  · rw [hm] at hn; unfold mcp; rw [if_neg (by omega), if_neg (by omega), if_neg (by omega), if_neg (by omega), if_neg (by omega), h2 s hs hn]
  · unfold mcp; rw [if_neg (by omega), if_neg (by omega), if_neg (by omega), if_neg (by omega), if_neg (by omega), h3 c hc]
  · unfold mcp; rw [if_neg (by omega), if_neg (by omega), if_neg (by omega), if_neg (by omega), if_neg (by omega), h4]
  · unfold mcp; rw [if_neg (by omega), if_neg (by omega), if_neg (by omega), if_neg (by omega), if_neg (by omega), h5 k w hk hw]
theorem SR_57 {hr kf kc : Int} {li cr rg : Nat → Int} {K : HI} {v j : Nat} {x : Int} (h : SR hr kf kc li cr rg K v) (hj : j ≠ 13 := by decide) : SR hr kf kc li cr rg (up K 57 j x) v := SR_to h (up_cell (by decide)) (up_cell (by decide)) (up_cell (by decide)) (up_cell (by decide)) (up_cell (by decide)) (shp_of (up_cell (by decide)) (up_n (by omega)))
theorem SR_cg {hr hr' kf kf' kc kc' : Int} {li cr rg li' cr' rg' : Nat → Int} {K : HI} {v : Nat} (h : SR hr kf kc li cr rg K v) (e1 : hr = hr') (e2 : kf = kf') (e3 : kc = kc') (e4 : ∀ s, s < 6 → li s = li' s) (e5 : ∀ c, c < 144 → cr c = cr' c) (e6 : ∀ r, r < 60 → rg r = rg' r) : SR hr' kf' kc' li' cr' rg' K v := by
  subst e1; subst e2; subst e3
  obtain ⟨h1, h2, h3, h4, h5⟩ := h
  refine ⟨h1, fun s hs hn => by rw [h2 s hs hn, e4 s hs], fun c hc => by rw [h3 c hc, e5 c hc], h4, fun k w hk hw => ?_⟩
  rw [h5 k w hk hw, e6 _ (by omega)]
def SRs (J K : HI) (q : Nat) : Prop := SR (J 39 (213 * q)) (J 39 (213 * q + 1)) (J 39 (213 * q + 2)) (fun s => J 39 (213 * q + 3 + s)) (fun c => J 39 (213 * q + 9 + c)) (fun r => J 39 (213 * q + 153 + r)) K (2 + q)
def RUn (J K : HI) : Prop := K 57 53 = J 38 2 ∧ K 57 52 = J 38 1 ∧ ∀ j : Nat, (j : Int) < J 38 2 → SRs J K ((J 38 1 + j) % 20).toNat ∧ 0 ≤ J 39 (213 * ((J 38 1 + j) % 20).toNat + 2) ∧ J 39 (213 * ((J 38 1 + j) % 20).toNat + 2) ≤ 60
theorem wrt_at {J : HI} {q : Nat} : wrt J ((213 * q : Nat) : Int) 39 (213 * q) = J 30 5 ∧ wrt J ((213 * q : Nat) : Int) 39 (213 * q + 1) = J 30 3 ∧ wrt J ((213 * q : Nat) : Int) 39 (213 * q + 2) = J 30 4 ∧ (∀ s, s < 6 → wrt J ((213 * q : Nat) : Int) 39 (213 * q + 3 + s) = J 31 s) ∧ (∀ c, c < 144 → wrt J ((213 * q : Nat) : Int) 39 (213 * q + 9 + c) = J 32 c) ∧ (∀ r, r < 60 → wrt J ((213 * q : Nat) : Int) 39 (213 * q + 153 + r) = J 33 r) := by
  have e0 : ((213 * q : Nat) : Int).toNat = 213 * q := Int.toNat_natCast _
  have e1 : (((213 * q : Nat) : Int) + 1).toNat = 213 * q + 1 := by omega
  have e2 : (((213 * q : Nat) : Int) + 2).toNat = 213 * q + 2 := by omega
  have e3 : (((213 * q : Nat) : Int) + 3).toNat = 213 * q + 3 := by omega
  have e9 : (((213 * q : Nat) : Int) + 3 + 6).toNat = 213 * q + 9 := by omega
  have e15 : (((213 * q : Nat) : Int) + 3 + 6 + 144).toNat = 213 * q + 153 := by omega
  unfold wrt
  rw [e0, e1, e2, e3, e9, e15]
  generalize 213 * q = a
  simp only [cpy_ap, up_ap]
  refine ⟨?_, ?_, ?_, fun s hs => ?_, fun c hc => ?_, fun r hr => ?_⟩
  · grind
  · grind
  · grind
  · have e : 0 + (a + 3 + s - (a + 3)) = s := by omega
    rw [e]; grind (splits := 30)
  · have e : 0 + (a + 9 + c - (a + 9)) = c := by omega
    rw [e]; grind (splits := 30)
  · have e : 0 + (a + 153 + r - (a + 153)) = r := by omega
    rw [e]; grind (splits := 30)
theorem wrt_ne {J : HI} {q p i : Nat} (h : p ≠ q) (hi : i < 213) : wrt J ((213 * q : Nat) : Int) 39 (213 * p + i) = J 39 (213 * p + i) := by
  have e0 : ((213 * q : Nat) : Int).toNat = 213 * q := Int.toNat_natCast _
  have e1 : (((213 * q : Nat) : Int) + 1).toNat = 213 * q + 1 := by omega
  have e2 : (((213 * q : Nat) : Int) + 2).toNat = 213 * q + 2 := by omega
  have e3 : (((213 * q : Nat) : Int) + 3).toNat = 213 * q + 3 := by omega
  have e9 : (((213 * q : Nat) : Int) + 3 + 6).toNat = 213 * q + 9 := by omega
  have e15 : (((213 * q : Nat) : Int) + 3 + 6 + 144).toNat = 213 * q + 153 := by omega
  unfold wrt
  rw [e0, e1, e2, e3, e9, e15]
  simp only [cpy_ap, up_ap]
  rw [if_neg (by omega), if_neg (by omega), if_neg (by omega), if_neg (by omega), if_neg (by omega), if_neg (by omega)]
theorem SRs_new {J J' K : HI} {q : Nat} (hS : SRn J K) (hk8 : J 30 4 ≤ 60) (hJ : J' 39 = wrt J ((213 * q : Nat) : Int) 39) : SRs J' (mcp K (2 + q) 0) q := by
  obtain ⟨w1, w2, w3, w4, w5, w6⟩ := wrt_at (J := J) (q := q)
  unfold SRs
  rw [hJ]
  exact SR_cg (SR_mcp_to hS) w1.symm w2.symm w3.symm (fun s hs => (w4 s hs).symm) (fun c hc => (w5 c hc).symm) (fun r hr => (w6 r hr).symm)
theorem SRs_old {J J' K : HI} {q p : Nat} (hS : SRs J K p) (hp : p ≠ q) (hk8 : K 88 0 ≤ 60) (hkc : J 39 (213 * p + 2) ≤ 60) (hJ : J' 39 = wrt J ((213 * q : Nat) : Int) 39) : SRs J' (mcp K (2 + q) 0) p := by
  unfold SRs at *
  rw [hJ]
  have e0 : wrt J ((213 * q : Nat) : Int) 39 (213 * p) = J 39 (213 * p) := wrt_ne (i := 0) hp (by decide)
  refine SR_cg (SR_mcp_ne hS (by omega) hk8 hkc) e0.symm (wrt_ne hp (by decide)).symm (wrt_ne hp (by decide)).symm (fun s hs => ?_) (fun c hc => ?_) (fun r hr => ?_)
  · have := wrt_ne (J := J) hp (i := 3 + s) (by omega)
    rw [← Nat.add_assoc] at this
    exact this.symm
  · have := wrt_ne (J := J) hp (i := 9 + c) (by omega)
    rw [← Nat.add_assoc] at this
    exact this.symm
  · have := wrt_ne (J := J) hp (i := 153 + r) (by omega)
    rw [← Nat.add_assoc] at this
    exact this.symm
theorem rel_keeps {J K : HI} {f u : Nat} (hS : SRn J K) (hU : RUn J K) (hf : J 38 1 = (f : Int)) (hf2 : f < 20) (hu : J 38 2 = (u : Int)) (hu2 : u ≤ 20) (hk : 0 ≤ J 30 4 ∧ J 30 4 ≤ 60) : SRn (rem_ J) (mkp K f u) ∧ RUn (rem_ J) (mkp K f u) := by
  have hc : ∀ q, q ≠ 38 → q ≠ 39 → rem_ J q = J q := fun q a b => rem_cell a b
  have k8 : K 88 0 = J 30 4 := hS.2.2.2.1
  have k88 : K 88 0 ≤ 60 := by omega
  constructor
  · unfold SRn
    rw [hc 30 (by decide) (by decide), hc 31 (by decide) (by decide), hc 32 (by decide) (by decide), hc 33 (by decide) (by decide)]
    unfold mkp
    split
    · exact SR_57 (SR_mcp_ne (SR_57 (SR_57 hS)) (by omega) k88 (by omega))
    · exact SR_57 (SR_mcp_ne hS (by omega) k88 (by omega))
  · obtain ⟨u1, u2, u3⟩ := hU
    unfold rem_
    by_cases h20 : u = 20
    · have hi : ¬ J 38 2 < 20 := by omega
      rw [if_neg hi]
      have ea : (J 38 1 + J 38 2) % 20 * 213 = ((213 * f : Nat) : Int) := by omega
      rw [ea]
      unfold mkp
      rw [if_pos h20]
      have e38 : ∀ x, up (wrt J ((213 * f : Nat) : Int)) 38 1 x 38 2 = 20 := fun x => by rw [up_n (by omega), wrt_38]; omega
      have e39 : ∀ x, up (wrt J ((213 * f : Nat) : Int)) 38 1 x 39 = wrt J ((213 * f : Nat) : Int) 39 := fun x => up_cell (by decide)
      refine ⟨by rw [e38, up_s], ?_, fun j hj => ?_⟩
      · rw [up_s, up_n (by omega)]
        show (((f + 1) % 20 : Nat) : Int) = _
        omega
      · rw [e38] at hj
        rw [up_s, e39]
        by_cases h19 : j = 19
        · have eq : (((J 38 1 + 1) % 20 + (j : Int)) % 20).toNat = f := by omega
          rw [eq]
          refine ⟨SR_57 (SRs_new (J := J) (K := up (up K 57 52 (((f + 1) % 20 : Nat) : Int)) 57 53 19) (SR_57 (SR_57 hS)) (by omega) (e39 _)), ?_⟩
          rw [wrt_at.2.2.1]
          exact hk
        · obtain ⟨v1, v2, v3⟩ := u3 (j + 1) (by omega)
          have eq : (((J 38 1 + 1) % 20 + (j : Int)) % 20).toNat = ((J 38 1 + ((j + 1 : Nat) : Int)) % 20).toNat := by omega
          rw [eq]
          have hne : ((J 38 1 + ((j + 1 : Nat) : Int)) % 20).toNat ≠ f := by omega
          refine ⟨SR_57 (SRs_old (J := J) (K := up (up K 57 52 (((f + 1) % 20 : Nat) : Int)) 57 53 19) (SR_57 (SR_57 v1)) hne k88 v3 (e39 _)), ?_⟩
          rw [wrt_ne hne (by decide)]
          exact ⟨v2, v3⟩
    · have hi : J 38 2 < 20 := by omega
      rw [if_pos hi]
      have ea : (J 38 1 + J 38 2) % 20 * 213 = ((213 * ((f + u) % 20) : Nat) : Int) := by omega
      rw [ea]
      unfold mkp
      rw [if_neg h20]
      have e38 : ∀ x, up (wrt J ((213 * ((f + u) % 20) : Nat) : Int)) 38 2 x 38 1 = (f : Int) := fun x => by rw [up_n (by omega), wrt_38]; exact hf
      have e39 : ∀ x, up (wrt J ((213 * ((f + u) % 20) : Nat) : Int)) 38 2 x 39 = wrt J ((213 * ((f + u) % 20) : Nat) : Int) 39 := fun x => up_cell (by decide)
      refine ⟨by rw [up_s, up_s]; omega, ?_, fun j hj => ?_⟩
      · rw [e38, up_n (by omega)]
        show K 57 52 = _
        omega
      · rw [up_s] at hj
        rw [e38, e39]
        by_cases hju : j = u
        · have eq : (((f : Int) + (j : Int)) % 20).toNat = (f + u) % 20 := by omega
          rw [eq]
          refine ⟨SR_57 (SRs_new (J := J) hS (by omega) (e39 _)), ?_⟩
          rw [wrt_at.2.2.1]
          exact hk
        · obtain ⟨v1, v2, v3⟩ := u3 j (by omega)
          rw [hf] at v1 v2 v3
          have hne : (((f : Int) + (j : Int)) % 20).toNat ≠ (f + u) % 20 := by omega
          refine ⟨SR_57 (SRs_old (J := J) v1 hne k88 v3 (e39 _)), ?_⟩
          rw [wrt_ne hne (by decide)]
          exact ⟨v2, v3⟩
theorem unp_pk {h s c x : Int} (hh : 0 ≤ h) (hs : 0 ≤ s ∧ s < 6) (hc : 0 ≤ c ∧ c < 24) (hx : 0 ≤ x ∧ x < 3) : unp (pk h s c x) 0 = h ∧ unp (pk h s c x) 1 = s ∧ unp (pk h s c x) 2 = c / 6 ∧ unp (pk h s c x) 3 = c % 6 ∧ unp (pk h s c x) 4 = x := by
  unfold unp pk
  simp only [reduceIte, Nat.reduceEqDiff]
  omega
theorem rel_wd {J K : HI} {m : Nat} {s h w x : Int} (hS : SRn J K) (hk : 0 ≤ J 30 3 ∧ J 30 3 < 60 ∧ 0 ≤ J 30 4 ∧ J 30 4 ≤ 60 ∧ 0 ≤ J 30 5) (hm : (K 88 0 = 60 ∧ m = 59) ∨ (K 88 0 = (m : Int) ∧ m < 60)) (hs : 0 ≤ s ∧ s < 6) (hh : 0 ≤ h ∧ h < 4) (hw : 0 ≤ w ∧ w < 6) (hx : 0 ≤ x ∧ x < 3) : SRn (keepS J s (6 * h + w) x) (mwd K m s h w x) := by
  obtain ⟨h1, h2, h3, h4, h5⟩ := hS
  obtain ⟨p0, p1, p2, p3, p4⟩ := unp_pk (h := J 30 5) (s := s) (c := 6 * h + w) (x := x) hk.2.2.2.2 hs (by omega) hx
  have c85 : mwd K m s h w x 85 = K 85 := by funext j; unfold mwd; rw [if_neg (by omega), if_neg (by omega), if_neg (by omega)]
  have c86 : mwd K m s h w x 86 = K 86 := by funext j; unfold mwd; rw [if_neg (by omega), if_neg (by omega), if_neg (by omega)]
  have c87 : mwd K m s h w x 87 = K 87 := by funext j; unfold mwd; rw [if_neg (by omega), if_neg (by omega), if_neg (by omega)]
  have hsh : shp (mwd K m s h w x) = shp K := by
    have e : ∀ q j, q < 85 → mwd K m s h w x q j = K q j := fun q j hq => by unfold mwd; rw [if_neg (by omega), if_neg (by omega), if_neg (by omega)]
    unfold shp
    rw [e 57 13 (by decide), e 62 _ (by decide)]
  have c88 : mwd K m s h w x 88 0 = (m : Int) + 1 := by unfold mwd; rw [if_neg (by omega), if_neg (by omega), if_pos (by omega)]
  have new : ∀ i, i < 5 → nv5 (K 85 0) s h w x i = unp (pk (J 30 5) s (6 * h + w) x) i := by
    intro i hi
    have h9 : i = 0 ∨ i = 1 ∨ i = 2 ∨ i = 3 ∨ i = 4 := by omega
    rcases h9 with e | e | e | e | e <;> subst e
    · rw [p0]; exact h1
    · rw [p1]; rfl
    · rw [p2, show (6 * h + w) / 6 = h by omega]; rfl
    · rw [p3, show (6 * h + w) % 6 = w by omega]; rfl
    · rw [p4]; rfl
  unfold SRn keepS
  by_cases hfull : K 88 0 = 60
  · have hm59 : m = 59 := by omega
    rw [if_neg (by omega)]
    have a31 : ∀ y z, up (up J 33 y (pk (J 30 5) s (6 * h + w) x)) 30 3 z 31 = J 31 := fun y z => by rw [up_cell (by decide), up_cell (by decide)]
    have a32 : ∀ y z, up (up J 33 y (pk (J 30 5) s (6 * h + w) x)) 30 3 z 32 = J 32 := fun y z => by rw [up_cell (by decide), up_cell (by decide)]
    have a304 : ∀ y z, up (up J 33 y (pk (J 30 5) s (6 * h + w) x)) 30 3 z 30 4 = J 30 4 := fun y z => by rw [up_n (by omega), up_cell (by decide)]
    have a305 : ∀ y z, up (up J 33 y (pk (J 30 5) s (6 * h + w) x)) 30 3 z 30 5 = J 30 5 := fun y z => by rw [up_n (by omega), up_cell (by decide)]
    rw [a31, a32, a304, a305, up_s, up_cell (by decide : 33 ≠ 30)]
    unfold SR
    rw [c85, c86, c87, c88, hsh]
    refine ⟨h1, h2, h3, by omega, fun k v hkk hv => ?_⟩
    rw [up_ap]
    by_cases ek : k = 59
    · rw [if_pos ⟨rfl, by omega⟩]
      unfold mwd
      rw [if_pos (by omega), show 300 * 0 + 5 * k + v - 5 * m = v by omega]
      exact new v hv
    · rw [if_neg (by omega)]
      have := h5 (k + 1) v (by omega) hv
      unfold mwd
      rw [if_neg (by omega), if_pos (by omega), show 300 * 0 + 5 * k + v + 5 = 300 * 0 + 5 * (k + 1) + v by omega, this]
      congr 2
      omega
  · rw [if_pos (by omega)]
    have a31 : ∀ y z, up (up J 33 y (pk (J 30 5) s (6 * h + w) x)) 30 4 z 31 = J 31 := fun y z => by rw [up_cell (by decide), up_cell (by decide)]
    have a32 : ∀ y z, up (up J 33 y (pk (J 30 5) s (6 * h + w) x)) 30 4 z 32 = J 32 := fun y z => by rw [up_cell (by decide), up_cell (by decide)]
    have a303 : ∀ y z, up (up J 33 y (pk (J 30 5) s (6 * h + w) x)) 30 4 z 30 3 = J 30 3 := fun y z => by rw [up_n (by omega), up_cell (by decide)]
    have a305 : ∀ y z, up (up J 33 y (pk (J 30 5) s (6 * h + w) x)) 30 4 z 30 5 = J 30 5 := fun y z => by rw [up_n (by omega), up_cell (by decide)]
    rw [a31, a32, a303, a305, up_s, up_cell (by decide : 33 ≠ 30)]
    unfold SR
    rw [c85, c86, c87, c88, hsh]
    refine ⟨h1, h2, h3, by omega, fun k v hkk hv => ?_⟩
    rw [up_ap]
    by_cases ek : k = m
    · rw [if_pos ⟨rfl, by omega⟩]
      unfold mwd
      rw [if_pos (by omega), show 300 * 0 + 5 * k + v - 5 * m = v by omega]
      exact new v hv
    · rw [if_neg (by omega)]
      have := h5 k v (by omega) hv
      unfold mwd
      rw [if_neg (by omega), if_neg (by omega), if_neg (by omega), this]
