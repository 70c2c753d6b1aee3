/-! ===== stowing: a search and a count alike ===== -/
section STW
variable (W : Nat → Nat) (nt : Nat → Int) (nh s : Nat)
def clS (k h : Nat) : Nat := 24 * s + 6 * h + W k
def pT (b : Nat → Int) : Nat → Nat → Nat → Int
  | 0, _ => b
  | k + 1, q => ud (pT b k (q / nh)) (clS W s k (q % nh)) (pT b k (q / nh) (clS W s k (q % nh)) + 1)
def pG (b : Nat → Int) : Nat → Nat → Prop
  | 0, _ => True
  | k + 1, q => pG b k (q / nh) ∧ pT W nh s b k (q / nh) (clS W s k (q % nh)) < 20
def pV (t : Int) : Nat → Nat → Int
  | 0, _ => t
  | k + 1, q => pV t k (q / nh) + sd ((q % nh : Nat) : Int) * nt (W k)
def pD : Nat → Nat → Nat → Int
  | 0, _, _ => 0
  | k + 1, q, j => if j = k then ((q % nh : Nat) : Int) else pD k (q / nh) j
end STW
theorem pT_ad {W : Nat → Nat} {nh s c : Nat} {b : Nat → Int} : ∀ k q, pT W nh s (ad b c 1) k q = ad (pT W nh s b k q) c 1 := by
  intro k
  induction k with
  | zero => intro q; rfl
  | succ k ih =>
    intro q
    show ud (pT W nh s (ad b c 1) k (q / nh)) _ _ = ad (ud (pT W nh s b k (q / nh)) _ _) c 1
    rw [ih]
    funext x
    simp only [ud, ad]
    by_cases e1 : x = clS W s k (q % nh)
    · rw [if_pos e1, if_pos e1, e1]; omega
    · rw [if_neg e1, if_neg e1]
theorem pG_swap {W : Nat → Nat} {nh s c : Nat} {b : Nat → Int} : ∀ k q, (pG W nh s b k q ∧ pT W nh s b k q c < 20) ↔ (b c < 20 ∧ pG W nh s (ad b c 1) k q) := by
  intro k
  induction k with
  | zero => intro q; exact ⟨fun w => ⟨w.2, trivial⟩, fun w => ⟨trivial, w.1⟩⟩
  | succ k ih =>
    intro q
    have hi := ih (q / nh)
    show ((pG W nh s b k (q / nh) ∧ pT W nh s b k (q / nh) (clS W s k (q % nh)) < 20) ∧ ud (pT W nh s b k (q / nh)) (clS W s k (q % nh)) (pT W nh s b k (q / nh) (clS W s k (q % nh)) + 1) c < 20) ↔ (b c < 20 ∧ pG W nh s (ad b c 1) k (q / nh) ∧ pT W nh s (ad b c 1) k (q / nh) (clS W s k (q % nh)) < 20)
    rw [pT_ad]
    unfold ud ad at *
    by_cases e : c = clS W s k (q % nh)
    · rw [if_pos e, if_pos e.symm]
      rw [← e]
      constructor
      · intro w
        have := hi.1 ⟨w.1.1, by omega⟩
        exact ⟨this.1, this.2, by omega⟩
      · intro w
        have := hi.2 ⟨w.1, w.2.1⟩
        exact ⟨⟨this.1, this.2⟩, by omega⟩
    · rw [if_neg e, if_neg (fun z => e z.symm), Int.add_zero]
      constructor
      · intro w
        have := hi.1 ⟨w.1.1, w.2⟩
        exact ⟨this.1, this.2, w.1.2⟩
      · intro w
        have := hi.2 ⟨w.1, w.2.1⟩
        exact ⟨⟨this.1, w.2.2⟩, this.2⟩
/-- as the reference tries: from the last crate on -/
def gI (W : Nat → Nat) (nh s : Nat) : Nat → Nat → (Nat → Int) → Prop
  | 0, _, _ => True
  | k + 1, q, b => b (clS W s k (q % nh)) < 20 ∧ gI W nh s k (q / nh) (ad b (clS W s k (q % nh)) 1)
theorem gI_pG {W : Nat → Nat} {nh s : Nat} : ∀ k q b, gI W nh s k q b ↔ pG W nh s b k q := by
  intro k
  induction k with
  | zero => intro q b; exact Iff.rfl
  | succ k ih =>
    intro q b
    show (b (clS W s k (q % nh)) < 20 ∧ gI W nh s k (q / nh) (ad b (clS W s k (q % nh)) 1)) ↔ (pG W nh s b k (q / nh) ∧ pT W nh s b k (q / nh) (clS W s k (q % nh)) < 20)
    rw [ih]
    exact (pG_swap k (q / nh)).symm
noncomputable def rsS (ok : Nat → Prop) (tp : Nat → Int) (g : Int × Int) (way : Nat) : Int × Int := @ite _ (ok way ∧ tp way < g.2) (Classical.propDecidable _) ((way : Int), tp way) g
noncomputable def rsR (ok : Nat → Prop) (tp : Nat → Int) (g : Int × Int) (a : Nat) : Nat → Int × Int
  | 0 => g
  | m + 1 => rsS ok tp (rsR ok tp g a m) (a + m)
theorem rsR_add {ok : Nat → Prop} {tp : Nat → Int} {g : Int × Int} {a m : Nat} : ∀ k, rsR ok tp g a (m + k) = rsR ok tp (rsR ok tp g a m) (a + m) k := by
  intro k
  induction k with
  | zero => rfl
  | succ k ih =>
    show rsS ok tp (rsR ok tp g a (m + k)) (a + (m + k)) = rsS ok tp (rsR ok tp (rsR ok tp g a m) (a + m) k) (a + m + k)
    rw [ih, Nat.add_assoc]
theorem rsR_no {ok : Nat → Prop} {tp : Nat → Int} {g : Int × Int} {a : Nat} : ∀ m, (∀ w, a ≤ w → w < a + m → ¬ ok w) → rsR ok tp g a m = g := by
  intro m
  induction m with
  | zero => intro _; rfl
  | succ m ih =>
    intro h
    show rsS ok tp (rsR ok tp g a m) (a + m) = g
    rw [ih (fun w h1 h2 => h w h1 (by omega))]
    unfold rsS
    exact if_neg (fun z => h (a + m) (by omega) (by omega) z.1)
/-- class and reference agree on the best so far -/
def RlS (nh n : Nat) (st : SW) (g : Int × Int) : Prop := (st.1 = -1 ∧ g.1 = -1 ∧ g.2 = 100000000) ∨ (0 ≤ st.1 ∧ st.1 = g.2 ∧ ∃ w : Nat, g.1 = (w : Int) ∧ ∀ j, j < n → st.2.1 j = pD nh n w j)
theorem pG_le {W : Nat → Nat} {nh s : Nat} {b : Nat → Int} (hn : 0 < nh) : ∀ f k q, pG W nh s b (k + f) q → pG W nh s b k (q / nh ^ f) := by
  intro f
  induction f with
  | zero => intro k q h; rw [Nat.pow_zero, Nat.div_one]; exact h
  | succ f ih =>
    intro k q h
    have h1 : pG W nh s b (k + f) (q / nh) := h.1
    have := ih k (q / nh) h1
    rw [Nat.div_div_eq_div_mul, Nat.mul_comm, ← Nat.pow_succ] at this
    exact this
theorem keepL_22 {st : SW} {t : Int} : (keepL st t).2.2 = st.2.2 := by
  unfold keepL
  split <;> rfl
theorem keep_rs {nh n p : Nat} {ok : Nat → Prop} {tpf : Nat → Int} {st : SW} {g : Int × Int} {tp : Int} (h1 : ok p) (h2 : tpf p = tp) (htb : 0 ≤ tp ∧ tp ≤ 90000000) (hn6 : n ≤ 6) (hd : ∀ j, j < n → st.2.2 j = pD nh n p j) (hR : RlS nh n st g) : RlS nh n (keepL st tp) (rsS ok tpf g p) := by
  unfold keepL rsS
  rw [h2]
  rcases hR with ⟨r1, r2, r3⟩ | ⟨r0, r1, w, r2, r3⟩
  · rw [if_pos (Or.inl r1), if_pos ⟨h1, by omega⟩]
    refine Or.inr ⟨htb.1, rfl, p, rfl, fun j hj => ?_⟩
    show (if j < 6 then st.2.2 j else st.2.1 j) = _
    rw [if_pos (by omega)]
    exact hd j hj
  · by_cases e : tp < st.1
    · rw [if_pos (Or.inr e), if_pos ⟨h1, by omega⟩]
      refine Or.inr ⟨htb.1, rfl, p, rfl, fun j hj => ?_⟩
      show (if j < 6 then st.2.2 j else st.2.1 j) = _
      rw [if_pos (by omega)]
      exact hd j hj
    · rw [if_neg (by omega), if_neg (fun z => by have := z.2; omega)]
      exact Or.inr ⟨r0, r1, w, r2, r3⟩
theorem dfs_rs {W : Nat → Nat} {nt : Nat → Int} {nh s n : Nat} {b : Nat → Int} {t0 : Int} (hn : 0 < nh) (hn6 : n ≤ 6) (hb : ∀ q, -(90000000 : Int) ≤ pV W nt nh t0 n q ∧ pV W nt nh t0 n q ≤ 90000000) : ∀ f k p (st : SW) (g : Int × Int), k + f = n → pG W nh s b k p → (∀ j, j < k → st.2.2 j = pD nh k p j) → RlS nh n st g → RlS nh n (dfH W nt nh s f k (pV W nt nh t0 k p) (pT W nh s b k p) st) (rsR (pG W nh s b n) (fun q => if 0 ≤ pV W nt nh t0 n q then pV W nt nh t0 n q else -pV W nt nh t0 n q) g (p * nh ^ f) (nh ^ f)) ∧ ∀ j, j < k → (dfH W nt nh s f k (pV W nt nh t0 k p) (pT W nh s b k p) st).2.2 j = st.2.2 j := by
  intro f
  induction f with
  | zero =>
    intro k p st g hk hG hd hR
    have ek : k = n := by omega
    subst ek
    rw [Nat.pow_zero, Nat.mul_one]
    have hbp := hb p
    refine ⟨?_, fun j hj => ?_⟩
    · show RlS nh k (keepL st _) (rsS _ _ (rsR _ _ g p 0) (p + 0))
      rw [Nat.add_zero]
      show RlS nh k (keepL st _) (rsS _ _ g p)
      exact keep_rs hG rfl (by show 0 ≤ (if 0 ≤ pV W nt nh t0 k p then pV W nt nh t0 k p else -pV W nt nh t0 k p) ∧ (if 0 ≤ pV W nt nh t0 k p then pV W nt nh t0 k p else -pV W nt nh t0 k p) ≤ 90000000; split <;> omega) hn6 hd hR
    · exact congrFun keepL_22 j
  | succ f ih =>
    intro k p st g hk hG hd hR
    have hdiv : ∀ h, h < nh → (p * nh + h) / nh = p ∧ (p * nh + h) % nh = h := fun h hh => by
      constructor
      · rw [Nat.add_comm, Nat.add_mul_div_right _ _ hn, Nat.div_eq_of_lt hh, Nat.zero_add]
      · rw [Nat.add_comm, Nat.add_mul_mod_self_right, Nat.mod_eq_of_lt hh]
    have step : ∀ (i : Nat), i ≤ nh → ∀ st', st' = foldH (fun hd st => if pT W nh s b k p (24 * s + 6 * hd + W k) < 20 then dfH W nt nh s f (k + 1) (pV W nt nh t0 k p + sd (hd : Int) * nt (W k)) (ud (pT W nh s b k p) (24 * s + 6 * hd + W k) (pT W nh s b k p (24 * s + 6 * hd + W k) + 1)) (st.1, st.2.1, ud st.2.2 k (hd : Int)) else st) i st → RlS nh n st' (rsR (pG W nh s b n) (fun q => if 0 ≤ pV W nt nh t0 n q then pV W nt nh t0 n q else -pV W nt nh t0 n q) g (p * nh ^ (f + 1)) (i * nh ^ f)) ∧ ∀ j, j < k → st'.2.2 j = st.2.2 j := by
      intro i
      induction i with
      | zero =>
        intro _ st' hst
        subst hst
        rw [Nat.zero_mul]
        exact ⟨hR, fun j _ => rfl⟩
      | succ i ihi =>
        intro hi st' hst
        obtain ⟨q1, q2⟩ := ihi (by omega) _ rfl
        have hst2 : st' = (fun hd (st : SW) => if pT W nh s b k p (24 * s + 6 * hd + W k) < 20 then dfH W nt nh s f (k + 1) (pV W nt nh t0 k p + sd (hd : Int) * nt (W k)) (ud (pT W nh s b k p) (24 * s + 6 * hd + W k) (pT W nh s b k p (24 * s + 6 * hd + W k) + 1)) (st.1, st.2.1, ud st.2.2 k (hd : Int)) else st) i (foldH (fun hd st => if pT W nh s b k p (24 * s + 6 * hd + W k) < 20 then dfH W nt nh s f (k + 1) (pV W nt nh t0 k p + sd (hd : Int) * nt (W k)) (ud (pT W nh s b k p) (24 * s + 6 * hd + W k) (pT W nh s b k p (24 * s + 6 * hd + W k) + 1)) (st.1, st.2.1, ud st.2.2 k (hd : Int)) else st) i st) := hst
        generalize foldH (fun hd st => if pT W nh s b k p (24 * s + 6 * hd + W k) < 20 then dfH W nt nh s f (k + 1) (pV W nt nh t0 k p + sd (hd : Int) * nt (W k)) (ud (pT W nh s b k p) (24 * s + 6 * hd + W k) (pT W nh s b k p (24 * s + 6 * hd + W k) + 1)) (st.1, st.2.1, ud st.2.2 k (hd : Int)) else st) i st = si at *
        obtain ⟨d1, d2⟩ := hdiv i (by omega)
        have eblk : p * nh ^ (f + 1) + i * nh ^ f = (p * nh + i) * nh ^ f := by
          rw [Nat.pow_succ, Nat.add_mul, Nat.mul_assoc p nh, Nat.mul_comm nh (nh ^ f)]
        rw [show (i + 1) * nh ^ f = i * nh ^ f + nh ^ f by rw [Nat.add_mul, Nat.one_mul], rsR_add, eblk]
        have eV : pV W nt nh t0 (k + 1) (p * nh + i) = pV W nt nh t0 k p + sd (i : Int) * nt (W k) := by
          show pV W nt nh t0 k ((p * nh + i) / nh) + sd (((p * nh + i) % nh : Nat) : Int) * nt (W k) = _
          rw [d1, d2]
        have eT : pT W nh s b (k + 1) (p * nh + i) = ud (pT W nh s b k p) (24 * s + 6 * i + W k) (pT W nh s b k p (24 * s + 6 * i + W k) + 1) := by
          show ud (pT W nh s b k ((p * nh + i) / nh)) (clS W s k ((p * nh + i) % nh)) (pT W nh s b k ((p * nh + i) / nh) (clS W s k ((p * nh + i) % nh)) + 1) = _
          rw [d1, d2]
          rfl
        by_cases hc : pT W nh s b k p (24 * s + 6 * i + W k) < 20
        · have hst3 : st' = dfH W nt nh s f (k + 1) (pV W nt nh t0 (k + 1) (p * nh + i)) (pT W nh s b (k + 1) (p * nh + i)) (si.1, si.2.1, ud si.2.2 k (i : Int)) := by
            rw [hst2, eV, eT]
            exact if_pos hc
          have hG2 : pG W nh s b (k + 1) (p * nh + i) := by
            show pG W nh s b k ((p * nh + i) / nh) ∧ pT W nh s b k ((p * nh + i) / nh) (clS W s k ((p * nh + i) % nh)) < 20
            rw [d1, d2]
            exact ⟨hG, hc⟩
          have hd2 : ∀ j, j < k + 1 → ud si.2.2 k (i : Int) j = pD nh (k + 1) (p * nh + i) j := fun j hj => by
            show _ = if j = k then (((p * nh + i) % nh : Nat) : Int) else pD nh k ((p * nh + i) / nh) j
            unfold ud
            rw [d1, d2]
            by_cases e : j = k
            · rw [if_pos e, if_pos e]
            · rw [if_neg e, if_neg e, q2 j (by omega)]; exact hd j (by omega)
          have hR2 : RlS nh n (si.1, si.2.1, ud si.2.2 k (i : Int)) (rsR (pG W nh s b n) (fun q => if 0 ≤ pV W nt nh t0 n q then pV W nt nh t0 n q else -pV W nt nh t0 n q) g (p * nh ^ (f + 1)) (i * nh ^ f)) := q1
          obtain ⟨r1, r2⟩ := ih (k + 1) (p * nh + i) _ _ (by omega) hG2 hd2 hR2
          rw [hst3]
          refine ⟨r1, fun j hj => ?_⟩
          rw [r2 j (by omega)]
          show ud si.2.2 k (i : Int) j = _
          unfold ud
          rw [if_neg (by omega)]
          exact q2 j hj
        · have hst3 : st' = si := by rw [hst2]; exact if_neg hc
          rw [hst3, rsR_no]
          · exact ⟨q1, q2⟩
          · intro w w1 w2 hw
            have hpos : 0 < nh ^ f := Nat.pow_pos hn
            have hwd : w / nh ^ f = p * nh + i := by
              refine Nat.div_eq_of_lt_le ?_ ?_
              · exact w1
              · rw [Nat.add_mul, Nat.one_mul]; exact w2
            have := pG_le (W := W) (s := s) (b := b) hn f (k + 1) w (by rw [show k + 1 + f = n by omega]; exact hw)
            rw [hwd] at this
            have h9 : pT W nh s b k ((p * nh + i) / nh) (clS W s k ((p * nh + i) % nh)) < 20 := this.2
            rw [d1, d2] at h9
            exact hc h9
    have := step nh (Nat.le_refl _) _ rfl
    rw [show nh * nh ^ f = nh ^ (f + 1) by rw [Nat.pow_succ, Nat.mul_comm]] at this
    exact this
