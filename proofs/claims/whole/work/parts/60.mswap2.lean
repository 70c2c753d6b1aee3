/-! ===== swaps: both sides alike ===== -/
def swX (f : Nat → Int) (a b x y : Nat) : Prop := 0 < f (24 * a + x) ∧ 0 < f (24 * b + y) ∧ (x % 6 ≠ y % 6 → f (24 * a + (x - x % 6 + y % 6)) < 20 ∧ f (24 * b + (y - y % 6 + x % 6)) < 20)
theorem tryF_at {g : Nat → Int} {c : Nat} (h : c < 144) : tryF g c = g (144 + c) := if_pos h
theorem swC_iff {g : Nat → Int} {a b x y : Nat} (ha : a < 6) (hb : b < 6) (hab : a ≠ b) (hx : x < 24) (hy : y < 24) (hf : ∀ c, 0 ≤ tryF g c ∧ tryF g c ≤ 20) : swC g a b x y ↔ swX (tryF g) a b x y := by
  have e1 : tryF g (24 * a + x) = g (144 + 24 * a + x) := by rw [tryF_at (by omega), show 144 + (24 * a + x) = 144 + 24 * a + x by omega]
  have e2 : tryF g (24 * b + y) = g (144 + 24 * b + y) := by rw [tryF_at (by omega), show 144 + (24 * b + y) = 144 + 24 * b + y by omega]
  have e3 : tryF g (24 * a + (x - x % 6 + y % 6)) = g (144 + 24 * a + x - x % 6 + y % 6) := by rw [tryF_at (by omega), show 144 + (24 * a + (x - x % 6 + y % 6)) = 144 + 24 * a + x - x % 6 + y % 6 by omega]
  have e4 : tryF g (24 * b + (y - y % 6 + x % 6)) = g (144 + 24 * b + y - y % 6 + x % 6) := by rw [tryF_at (by omega), show 144 + (24 * b + (y - y % 6 + x % 6)) = 144 + 24 * b + y - y % 6 + x % 6 by omega]
  have f1 := hf (24 * a + x)
  have f2 := hf (24 * b + y)
  have f3 := hf (24 * a + (x - x % 6 + y % 6))
  have f4 := hf (24 * b + (y - y % 6 + x % 6))
  unfold swX swC swOK
  rw [e1, e2, e3, e4]
  rw [e1] at f1
  rw [e2] at f2
  rw [e3] at f3
  rw [e4] at f4
  have v3 : sw4 g (144 + 24 * a + x) (144 + 24 * a + x - x % 6 + y % 6) (144 + 24 * b + y) (144 + 24 * b + y - y % 6 + x % 6) (144 + 24 * a + x - x % 6 + y % 6) = g (144 + 24 * a + x - x % 6 + y % 6) + (if x % 6 = y % 6 then 0 else 1) := by
    unfold sw4 ad
    have h4 : ¬ 144 + 24 * a + x - x % 6 + y % 6 = 144 + 24 * b + y - y % 6 + x % 6 := by omega
    have h2 : ¬ 144 + 24 * a + x - x % 6 + y % 6 = 144 + 24 * b + y := by omega
    rw [if_neg h4, if_pos rfl, if_neg h2]
    by_cases e : x % 6 = y % 6
    · rw [if_pos (by omega), if_pos e]; omega
    · rw [if_neg (by omega), if_neg e]; omega
  have v4 : sw4 g (144 + 24 * a + x) (144 + 24 * a + x - x % 6 + y % 6) (144 + 24 * b + y) (144 + 24 * b + y - y % 6 + x % 6) (144 + 24 * b + y - y % 6 + x % 6) = g (144 + 24 * b + y - y % 6 + x % 6) + (if x % 6 = y % 6 then 0 else 1) := by
    unfold sw4 ad
    have h4 : ¬ 144 + 24 * b + y - y % 6 + x % 6 = 144 + 24 * a + x - x % 6 + y % 6 := by omega
    have h2 : ¬ 144 + 24 * b + y - y % 6 + x % 6 = 144 + 24 * a + x := by omega
    rw [if_pos rfl, if_neg h4, if_neg h2]
    by_cases e : x % 6 = y % 6
    · rw [if_pos (by omega), if_pos e]; omega
    · rw [if_neg (by omega), if_neg e]; omega
  rw [v3, v4]
  by_cases e : x % 6 = y % 6
  · rw [if_pos e]
    have c3 : 144 + 24 * a + x - x % 6 + y % 6 = 144 + 24 * a + x := by omega
    have c4 : 144 + 24 * b + y - y % 6 + x % 6 = 144 + 24 * b + y := by omega
    rw [c3, c4] at *
    constructor
    · intro w; exact ⟨by omega, by omega, fun z => absurd e z⟩
    · intro w; have w1 := w.1; have w2 := w.2.1; exact ⟨by omega, by omega, by omega, by omega⟩
  · rw [if_neg e]
    constructor
    · intro w; exact ⟨by omega, by omega, fun _ => ⟨by omega, by omega⟩⟩
    · intro w; have w1 := w.1; have w2 := w.2.1; have w3 := w.2.2 e; exact ⟨by omega, by omega, by omega, by omega⟩
theorem try_sw {g : Nat → Int} {a b x y : Nat} (ha : a < 6) (hb : b < 6) (hx : x < 24) (hy : y < 24) : tryF (sw4 g (144 + 24 * a + x) (144 + 24 * a + x - x % 6 + y % 6) (144 + 24 * b + y) (144 + 24 * b + y - y % 6 + x % 6)) = swF (tryF g) a b x y := by
  funext c
  have d1 : (144 + c = 144 + 24 * a + x) ↔ c = 24 * a + x := by omega
  have d2 : (144 + c = 144 + 24 * a + x - x % 6 + y % 6) ↔ c = 24 * a + (x - x % 6 + y % 6) := by omega
  have d3 : (144 + c = 144 + 24 * b + y) ↔ c = 24 * b + y := by omega
  have d4 : (144 + c = 144 + 24 * b + y - y % 6 + x % 6) ↔ c = 24 * b + (y - y % 6 + x % 6) := by omega
  unfold tryF sw4 swF ad
  simp only [d1, d2, d3, d4]
  by_cases hc : c < 144
  · simp only [hc, if_true]
    split <;> split <;> split <;> split <;> omega
  · simp only [hc, if_false]
    rw [if_neg (by omega), if_neg (by omega), if_neg (by omega), if_neg (by omega)]
    omega
theorem tOf_cg {J : HI} {f f' : Nat → Int} {s : Nat} (hp : pOK J) (hs : (s : Int) < J 4 1) (h : ∀ c, 24 * s ≤ c → c < 24 * s + 24 → f c = f' c) : tOf J f s = tOf J f' s := by
  obtain ⟨w1, w2⟩ := nW_in hp
  obtain ⟨g1, g2, g3⟩ := nH_in hp hs
  show S2 (nH J s) (nW J) (fun i j => sd (i : Int) * f (24 * s + 6 * i + j) * (J 6 j - J 7 j)) = S2 (nH J s) (nW J) (fun i j => sd (i : Int) * f' (24 * s + 6 * i + j) * (J 6 j - J 7 j))
  refine S2_congr (fun i j hi hj => ?_)
  rw [h _ (by omega) (by omega)]
theorem tOf_ad {J : HI} {f : Nat → Int} {s c : Nat} {v : Int} (hp : pOK J) (hs : (s : Int) < J 4 1) (h : c < 24 * s ∨ 24 * s + 24 ≤ c) : tOf J (ad f c v) s = tOf J f s := by
  refine tOf_cg hp hs (fun d h1 h2 => ?_)
  unfold ad
  rw [if_neg (by omega), Int.add_zero]
theorem tOf_in {J : HI} {f : Nat → Int} {s x : Nat} {v : Int} (hp : pOK J) (hs : (s : Int) < J 4 1) (hx : x / 6 < nH J s) (hw : x % 6 < nW J) : tOf J (ad f (24 * s + x) v) s = tOf J f s + sd ((x / 6 : Nat) : Int) * v * ntJ J (x % 6) := by
  have := (tot_ud (f := f) (d := v) hp hs hx hw).2.2.1
  rw [ud_ad, show 24 * s + 6 * (x / 6) + x % 6 = 24 * s + x by omega] at this
  exact this
theorem tOf_sw {J : HI} {f : Nat → Int} {a b x y : Nat} (hp : pOK J) (ha : (a : Int) < J 4 1) (hb : (b : Int) < J 4 1) (hab : a ≠ b) (hx : x < 24) (hy : y < 24) (h1 : x / 6 < nH J a) (h2 : x % 6 < nW J) (h3 : y / 6 < nH J b) (h4 : y % 6 < nW J) : tOf J (swF f a b x y) a = tOf J f a + sd ((x / 6 : Nat) : Int) * byJ J x y ∧ tOf J (swF f a b x y) b = tOf J f b - sd ((y / 6 : Nat) : Int) * byJ J x y := by
  have w6 := (nW_in hp).1
  have q1 : (x - x % 6 + y % 6) / 6 = x / 6 := by omega
  have q2 : (x - x % 6 + y % 6) % 6 = y % 6 := by omega
  have q3 : (y - y % 6 + x % 6) / 6 = y / 6 := by omega
  have q4 : (y - y % 6 + x % 6) % 6 = x % 6 := by omega
  unfold swF byJ
  constructor
  · rw [tOf_ad hp ha (by omega), tOf_ad hp ha (by omega), tOf_in hp ha (by omega) (by omega), tOf_in hp ha h1 h2, q1, q2, Int.mul_one, Int.mul_sub, Int.mul_neg, Int.mul_one, Int.neg_mul]
    omega
  · rw [tOf_in hp hb (by omega) (by omega), tOf_in hp hb h3 h4, tOf_ad hp hb (by omega), tOf_ad hp hb (by omega), q3, q4, Int.mul_one, Int.mul_sub, Int.mul_neg, Int.mul_one, Int.neg_mul]
    omega
def l1X (J : HI) (f : Nat → Int) (a b : Nat) (tA tB : Int) (x y : Nat) : Prop := swX f a b x y ∧ ab1 (tA + sd ((x / 6 : Nat) : Int) * byJ J x y) (J 7 (6 + a)) ∧ ab1 (tB - sd ((y / 6 : Nat) : Int) * byJ J x y) (J 7 (6 + b))
/-- crates that are there have wares and holds -/
def ZX (J : HI) (f : Nat → Int) : Prop := ∀ s x : Nat, (s : Int) < J 4 1 → x < 24 → 0 < f (24 * s + x) → x % 6 < nW J ∧ x / 6 < nH J s
theorem csP_of {f : Nat → Int} {s x : Nat} {w : Nat} (hx : x < 24) (h1 : 0 < f (24 * s + x)) (h2 : f (24 * s + (x - x % 6 + w)) < 20) : csP f s (sd ((x / 6 : Nat) : Int)) (x % 6) w := by
  have c : cz f s (x / 6) (x % 6) w := ⟨by rw [show 24 * s + 6 * (x / 6) + x % 6 = 24 * s + x by omega]; exact h1, by rw [show 24 * s + 6 * (x / 6) + w = 24 * s + (x - x % 6 + w) by omega]; exact h2⟩
  unfold csP sd
  have h9 : x / 6 = 0 ∨ x / 6 = 1 ∨ x / 6 = 2 ∨ x / 6 = 3 := by omega
  rcases h9 with e | e | e | e <;> rw [e] at c ⊢
  · exact ⟨fun _ => Or.inl c, fun z => absurd z (by decide)⟩
  · exact ⟨fun z => absurd z (by decide), fun _ => Or.inl c⟩
  · exact ⟨fun _ => Or.inr c, fun z => absurd z (by decide)⟩
  · exact ⟨fun z => absurd z (by decide), fun _ => Or.inr c⟩
theorem csP_to {f : Nat → Int} {s g w : Nat} {e : Int} (he : e = -1 ∨ e = 1) (hg : g < 6) (hw : w < 6) (h : csP f s e g w) : ∃ x, x < 24 ∧ x % 6 = g ∧ sd ((x / 6 : Nat) : Int) = e ∧ 0 < f (24 * s + x) ∧ f (24 * s + (x - x % 6 + w)) < 20 := by
  have mk : ∀ k : Nat, k < 4 → sd (k : Int) = e → cz f s k g w → ∃ x, x < 24 ∧ x % 6 = g ∧ sd ((x / 6 : Nat) : Int) = e ∧ 0 < f (24 * s + x) ∧ f (24 * s + (x - x % 6 + w)) < 20 := by
    intro k hk hs c
    refine ⟨6 * k + g, by omega, by omega, by rw [show (6 * k + g) / 6 = k by omega]; exact hs, ?_, ?_⟩
    · rw [show 24 * s + (6 * k + g) = 24 * s + 6 * k + g by omega]; exact c.1
    · rw [show 24 * s + (6 * k + g - (6 * k + g) % 6 + w) = 24 * s + 6 * k + w by omega]; exact c.2
  rcases he with rfl | rfl
  · rcases h.2 (by decide) with c | c
    · exact mk 1 (by decide) rfl c
    · exact mk 3 (by decide) rfl c
  · rcases h.1 (by decide) with c | c
    · exact mk 0 (by decide) rfl c
    · exact mk 2 (by decide) rfl c
theorem l1_os {J : HI} {f nt : Nat → Int} {a b : Nat} {tA tB : Int} (hp : pOK J) (hz : ZX J f) (ha : (a : Int) < J 4 1) (hb : (b : Int) < J 4 1) (hnt : ∀ w, w < nW J → nt w = ntJ J w) (hn : ¬ (ab1 tA (J 7 (6 + a)) ∧ ab1 tB (J 7 (6 + b)))) : (∃ x y, x < 24 ∧ y < 24 ∧ l1X J f a b tA tB x y) ↔ osQ f nt (nW J) a b (J 7 (6 + a)) (J 7 (6 + b)) tA tB := by
  have w6 := (nW_in hp).1
  constructor
  · intro ⟨x, y, hx, hy, ⟨s1, s2, s3⟩, q1, q2⟩
    have zx := hz a x ha hx s1
    have zy := hz b y hb hy s2
    have hne : x % 6 ≠ y % 6 := fun e => hn (by
      unfold byJ at q1 q2
      rw [e, Int.sub_self, Int.mul_zero] at q1 q2
      rw [Int.add_zero] at q1
      rw [Int.sub_zero] at q2
      exact ⟨q1, q2⟩)
    obtain ⟨r1, r2⟩ := s3 hne
    refine ⟨x % 6, y % 6, zx.1, zy.1, hne, sd ((x / 6 : Nat) : Int), (sd_in _).symm, ?_, csP_of hx s1 r1, sd ((y / 6 : Nat) : Int), (sd_in _).symm, ?_, csP_of hy s2 r2⟩
    · rw [hnt _ zx.1, hnt _ zy.1]; exact q1
    · rw [hnt _ zx.1, hnt _ zy.1]; exact q2
  · intro ⟨g, w, hg, hw, hne, e, he, q1, c1, e2, he2, q2, c2⟩
    obtain ⟨x, x1, x2, x3, x4, x5⟩ := csP_to he (by omega) (by omega) c1
    obtain ⟨y, y1, y2, y3, y4, y5⟩ := csP_to he2 (by omega) (by omega) c2
    refine ⟨x, y, x1, y1, ⟨x4, y4, fun _ => ⟨by rw [y2]; exact x5, by rw [x2]; exact y5⟩⟩, ?_, ?_⟩
    · unfold byJ; rw [x2, y2, x3, ← hnt g hg, ← hnt w hw]; exact q1
    · unfold byJ; rw [x2, y2, y3, ← hnt g hg, ← hnt w hw]; exact q2
noncomputable def rvS (J : HI) (f : Nat → Int) (a b : Nat) : Int := pI (ab1 (tOf J f a) (J 7 (6 + a)) ∧ ab1 (tOf J f b) (J 7 (6 + b))) 0 (pI (∃ x y, x < 24 ∧ y < 24 ∧ l1X J f a b (tOf J f a) (tOf J f b) x y) 1 (pI (∃ x y, x < 24 ∧ y < 24 ∧ swX f a b x y ∧ ∃ x' y', x' < 24 ∧ y' < 24 ∧ l1X J (swF f a b x y) a b (tOf J (swF f a b x y) a) (tOf J (swF f a b x y) b) x' y') 2 (-1)))
theorem swF_same {f : Nat → Int} {a b x y : Nat} (h : x % 6 = y % 6) (hx : x % 6 ≤ x) : swF f a b x y = f := by
  funext c
  unfold swF ad
  rw [show x - x % 6 + y % 6 = x by omega, show y - y % 6 + x % 6 = y by omega]
  split <;> split <;> omega
theorem swF_z {J : HI} {f : Nat → Int} {a b x y : Nat} (hz : ZX J f) (ha : (a : Int) < J 4 1) (hb : (b : Int) < J 4 1) (hx : x < 24) (hy : y < 24) (s1 : 0 < f (24 * a + x)) (s2 : 0 < f (24 * b + y)) : ZX J (swF f a b x y) := by
  have zx := hz a x ha hx s1
  have zy := hz b y hb hy s2
  intro s k hs hk h
  by_cases e : 0 < f (24 * s + k)
  · exact hz s k hs hk e
  · unfold swF ad at h
    by_cases c1 : 24 * s + k = 24 * a + (x - x % 6 + y % 6)
    · have : s = a := by omega
      subst this
      have q1 : k % 6 = y % 6 ∧ k / 6 = x / 6 := by omega
      rw [q1.1, q1.2]
      exact ⟨zy.1, zx.2⟩
    · by_cases c2 : 24 * s + k = 24 * b + (y - y % 6 + x % 6)
      · have : s = b := by omega
        subst this
        have q1 : k % 6 = x % 6 ∧ k / 6 = y / 6 := by omega
        rw [q1.1, q1.2]
        exact ⟨zx.1, zy.2⟩
      · rw [if_neg c1, if_neg c2] at h
        exfalso
        split at h <;> split at h <;> omega
theorem rv_sw {J : HI} {f nt : Nat → Int} {a b : Nat} (hp : pOK J) (hz : ZX J f) (ha : (a : Int) < J 4 1) (hb : (b : Int) < J 4 1) (hab : a ≠ b) (hnt : ∀ w, w < nW J → nt w = ntJ J w) : rvS J f a b = swV f nt (nW J) a b (J 7 (6 + a)) (J 7 (6 + b)) (tOf J f a) (tOf J f b) := by
  unfold rvS swV
  by_cases hl : ab1 (tOf J f a) (J 7 (6 + a)) ∧ ab1 (tOf J f b) (J 7 (6 + b))
  · rw [pI_1 hl, pI_1 hl]
  · rw [pI_0 hl, pI_0 hl]
    have h1 := l1_os (f := f) (nt := nt) (tA := tOf J f a) (tB := tOf J f b) hp hz ha hb hnt hl
    by_cases ho : osQ f nt (nW J) a b (J 7 (6 + a)) (J 7 (6 + b)) (tOf J f a) (tOf J f b)
    · rw [pI_1 (h1.2 ho), pI_1 ho]
    · rw [pI_0 (fun z => ho (h1.1 z)), pI_0 ho]
      have key : (∃ x y, x < 24 ∧ y < 24 ∧ swX f a b x y ∧ ∃ x' y', x' < 24 ∧ y' < 24 ∧ l1X J (swF f a b x y) a b (tOf J (swF f a b x y) a) (tOf J (swF f a b x y) b) x' y') ↔ tsQ f nt (nW J) a b (J 7 (6 + a)) (J 7 (6 + b)) (tOf J f a) (tOf J f b) := by
        have two : ∀ x y, x < 24 → y < 24 → swX f a b x y → x % 6 ≠ y % 6 → ((∃ x' y', x' < 24 ∧ y' < 24 ∧ l1X J (swF f a b x y) a b (tOf J (swF f a b x y) a) (tOf J (swF f a b x y) b) x' y') ↔ osQ (swF f a b x y) nt (nW J) a b (J 7 (6 + a)) (J 7 (6 + b)) (tOf J f a + sd ((x / 6 : Nat) : Int) * (nt (y % 6) - nt (x % 6))) (tOf J f b - sd ((y / 6 : Nat) : Int) * (nt (y % 6) - nt (x % 6)))) := by
          intro x y hx hy hs hne
          have zx := hz a x ha hx hs.1
          have zy := hz b y hb hy hs.2.1
          obtain ⟨t1, t2⟩ := tOf_sw (f := f) hp ha hb hab hx hy zx.2 zx.1 zy.2 zy.1
          have eby : byJ J x y = nt (y % 6) - nt (x % 6) := by unfold byJ; rw [hnt _ zx.1, hnt _ zy.1]
          have hnl : ¬ (ab1 (tOf J (swF f a b x y) a) (J 7 (6 + a)) ∧ ab1 (tOf J (swF f a b x y) b) (J 7 (6 + b))) := fun w => by
            rw [t1, t2] at w
            exact ho (h1.1 ⟨x, y, hx, hy, hs, w.1, w.2⟩)
          have := l1_os (f := swF f a b x y) (nt := nt) (tA := tOf J (swF f a b x y) a) (tB := tOf J (swF f a b x y) b) hp (swF_z hz ha hb hx hy hs.1 hs.2.1) ha hb hnt hnl
          rw [this, t1, t2, eby]
        constructor
        · intro ⟨x, y, hx, hy, hs, h2⟩
          by_cases hne : x % 6 = y % 6
          · rw [swF_same hne (by omega)] at h2
            exact absurd (h1.1 h2) ho
          · have q := hs.2.2 hne
            exact ⟨x, y, hx, hy, hs.1, hs.2.1, hne, q.1, q.2, (two x y hx hy hs hne).1 h2⟩
        · intro ⟨x, y, hx, hy, s1, s2, hne, q1, q2, h2⟩
          have hs : swX f a b x y := ⟨s1, s2, fun _ => ⟨q1, q2⟩⟩
          exact ⟨x, y, hx, hy, hs, (two x y hx hy hs hne).2 h2⟩
      by_cases ht : tsQ f nt (nW J) a b (J 7 (6 + a)) (J 7 (6 + b)) (tOf J f a) (tOf J f b)
      · rw [pI_1 (key.2 ht), pI_1 ht]
      · rw [pI_0 (fun z => ht (key.1 z)), pI_0 ht]
