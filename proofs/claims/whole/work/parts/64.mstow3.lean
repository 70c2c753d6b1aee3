/-! ===== the reference: stow, the method ===== -/
def GF (I H : HI) : Prop := (∀ q, q ≠ 57 → q ≠ 94 → q ≠ 95 → H q = I q) ∧ (∀ j, ¬ (57 ≤ j ∧ j ≤ 60) → j ≠ 63 → H 57 j = I 57 j) ∧ asB H
theorem MN.gf {J K H : HI} {C : Nat → List Int} {b : Nat} (h : MN J K C b) (h2 : GF K H) : MN J H C b :=
  ⟨h.1.to (h2.2.1 13 (by omega) (by omega)) (fun q hq => h2.1 q (by unfold mcell at hq; omega) (by unfold mcell at hq; omega) (by unfold mcell at hq; omega)), h2.2.2, h.2.2.1, SR_to h.2.2.2.1 (h2.1 85 (by decide) (by decide) (by decide)) (h2.1 86 (by decide) (by decide) (by decide)) (h2.1 87 (by decide) (by decide) (by decide)) (h2.1 88 (by decide) (by decide) (by decide)) (h2.1 89 (by decide) (by decide) (by decide)) (shp_of (h2.1 62 (by decide) (by decide) (by decide)) (h2.2.1 13 (by omega) (by omega))), h.2.2.2.2⟩
theorem GF.go {I H : HI} {W L T N : Int} {M : Nat → Int} (h : GF I H) : GF I (mS (row H 95 M) W L T N) := by
  refine ⟨fun q a b c => by rw [mS_cell a, row_cell c]; exact h.1 q a b c, fun j a b => ?_, fun k => by rw [mS_cell (by decide), row_cell (by decide)]; exact h.2.2 k⟩
  unfold mS
  rw [up_n (by omega), up_n (by omega), up_n (by omega), up_n (by omega), row_cell (by decide)]
  exact h.2.1 j a b
theorem pT_cg {W : Nat → Nat} {nh s : Nat} {b b' : Nat → Int} (h : ∀ c, c < 144 → b c = b' c) : ∀ k q c, c < 144 → pT W nh s b k q c = pT W nh s b' k q c := by
  intro k
  induction k with
  | zero => intro q c hc; exact h c hc
  | succ k ih =>
    intro q c hc
    show ud (pT W nh s b k (q / nh)) _ _ c = ud (pT W nh s b' k (q / nh)) _ _ c
    unfold ud
    by_cases e : c = clS W s k (q % nh)
    · rw [if_pos e, if_pos e, ← e, ih (q / nh) c hc]
    · rw [if_neg e, if_neg e]; exact ih (q / nh) c hc
theorem pG_cg {W : Nat → Nat} {nh s n : Nat} {b b' : Nat → Int} (h : ∀ c, c < 144 → b c = b' c) (hs : s < 6) (hn : 0 < nh ∧ nh ≤ 4) (hW : ∀ k, k < n → W k < 6) : ∀ k q, k ≤ n → (pG W nh s b k q ↔ pG W nh s b' k q) := by
  intro k
  induction k with
  | zero => intro q _; exact Iff.rfl
  | succ k ih =>
    intro q hk
    have hm := Nat.mod_lt q hn.1
    have hw := hW k (by omega)
    show (pG W nh s b k (q / nh) ∧ pT W nh s b k (q / nh) (clS W s k (q % nh)) < 20) ↔ (pG W nh s b' k (q / nh) ∧ pT W nh s b' k (q / nh) (clS W s k (q % nh)) < 20)
    rw [ih (q / nh) (by omega), pT_cg h k (q / nh) _ (by unfold clS; omega)]
theorem pV_b {W : Nat → Nat} {nt : Nat → Int} {nh n : Nat} {t : Int} (hnt : ∀ k, k < n → -99 ≤ nt (W k) ∧ nt (W k) ≤ 99) : ∀ k q, k ≤ n → t - 99 * k ≤ pV W nt nh t k q ∧ pV W nt nh t k q ≤ t + 99 * k := by
  intro k
  induction k with
  | zero => intro q _; show t - 99 * (0 : Nat) ≤ t ∧ t ≤ t + 99 * (0 : Nat); omega
  | succ k ih =>
    intro q hk
    have h1 := ih (q / nh) (by omega)
    have h2 := hnt k (by omega)
    show t - 99 * ((k + 1 : Nat) : Int) ≤ pV W nt nh t k (q / nh) + sd ((q % nh : Nat) : Int) * nt (W k) ∧ pV W nt nh t k (q / nh) + sd ((q % nh : Nat) : Int) * nt (W k) ≤ _
    rcases sd_in ((q % nh : Nat) : Int) with e | e <;> rw [e] <;> omega
noncomputable def stB (J : HI) (s n : Nat) (m : Nat) : Int × Int := rsR (pG (fun k => (tAt J (k : Int)).toNat) (nH J s) s (J 32) n) (fun q => if 0 ≤ pV (fun k => (tAt J (k : Int)).toNat) (ntJ J) (nH J s) (tOf J (J 32) s) n q then pV (fun k => (tAt J (k : Int)).toNat) (ntJ J) (nH J s) (tOf J (J 32) s) n q else -pV (fun k => (tAt J (k : Int)).toNat) (ntJ J) (nH J s) (tOf J (J 32) s) n q) (-1, 100000000) 0 m
theorem rsS_b {ok : Nat → Prop} {tp : Nat → Int} {g : Int × Int} {w m : Nat} (hg : (g.1 = -1 ∧ g.2 = 100000000) ∨ (0 ≤ g.1 ∧ g.1 < m ∧ 0 ≤ g.2 ∧ g.2 ≤ 90000000)) (hw : w < m) (ht : 0 ≤ tp w ∧ tp w ≤ 90000000) : (rsS ok tp g w).1 = -1 ∧ (rsS ok tp g w).2 = 100000000 ∨ (0 ≤ (rsS ok tp g w).1 ∧ (rsS ok tp g w).1 < m ∧ 0 ≤ (rsS ok tp g w).2 ∧ (rsS ok tp g w).2 ≤ 90000000) := by
  unfold rsS
  by_cases e : ok w ∧ tp w < g.2
  · rw [if_pos e]; exact Or.inr ⟨by show 0 ≤ (w : Int); omega, by show (w : Int) < m; omega, ht.1, ht.2⟩
  · rw [if_neg e]; exact hg
theorem spq_stow {J K : HI} {Q : Option AV → HI → Prop} {C : Nat → List Int} {b : Nat} {a : Int} (hM : MN J K C b) (hT : RTp J K) (h1 : K 57 1 = J 1 1) (k1 : ∀ s n : Nat, a = (s : Int) → (n : Int) = J 1 1 → (s : Int) < J 4 1 → awP J → ∀ st : SW, st = paS J (fun k => (tAt J (k : Int)).toNat) (fun w => J 6 w - J 7 w) s n (tT (hSW J (trO J) (stO J)) 45 s) → ∀ K', GF (up K 57 1 0) K' → K' 57 63 = (if st.1 = -1 then 0 else J 1 1) → (∀ k, k < n → st.1 ≠ -1 → K' 94 k = st.2.1 k) → Q (some (aI st.1)) K') (k0 : ¬ (kO J 4 1 a ∧ awP J) → Q (some (aI (-1))) (mrf (up K 57 1 0) 5)) : Rj MX12_stow 3 [aR 57, aI a] K Q := by
  have hp := hM.1.2.2.2.2.2.2.2.2.2
  have hb2 := hM.1.2.1
  obtain ⟨w6, w1⟩ := nW_in hp
  have hM1 : MN J (up K 57 1 0) C b := ⟨hM.1.to (up_n (by omega)) (fun q hq => up_cell (by unfold mcell at hq; omega)), fun k => by rw [up_cell (by decide)]; exact hM.2.1 k, hM.2.2.1, SR_57 hM.2.2.2.1, hM.2.2.2.2⟩
  have hT1 : RTp J (up K 57 1 0) := ⟨hT.1, hT.2.1, fun k hk => by rw [up_cell (by decide)]; exact hT.2.2 k hk⟩
  generalize hI : up K 57 1 0 = I at *
  have t0 := hT.1
  have bad : ∀ (z3 z4 : Int) (x5 x6 x7 x8 x9 : Option AV), z3 = 0 → ¬ (kO J 4 1 a ∧ awP J) → Bj MX12_stow 3 37 [some (aR 57), some (aI a), some (aI (J 1 1)), some (aI z3), some (aI z4), x5, x6, x7, x8, x9] [] I Q := by
    intro z3 z4 x5 x6 x7 x8 x9 hz hn
    refine b_iload rfl rfl ?_
    refine b_iload_n rfl rfl ?_
    refine b_icmp_ge (tgt := 65) rfl rfl (fun c40 => ?_) (fun c40 => ?_)
    · refine b_iload_n rfl rfl ?_
      refine b_if_ne (tgt := 75) rfl rfl (fun c66 => ?_) (fun c66 => ?_)
      · omega
      · refine b_aload_n rfl rfl ?_
        refine b_iconst rfl (by decide) ?_
        refine b_callV1i (ν := MX12_refuses) rfl ml12_228 cvX12_refuses (d' := 0) (by omega) rfl (by decide) rfl (Nat.le_of_ble_eq_true rfl) ?_
        refine spm_refuses (k := 5) (by decide) ?_
        refine ⟨_, rfl, ?_⟩
        refine b_iret rfl rfl ?_
        exact k0 hn
    · refine b_iload_n rfl rfl ?_
      refine b_if_eq (tgt := 65) rfl rfl (fun c44 => ?_) (fun c44 => ?_)
      · refine b_iload_n rfl rfl ?_
        refine b_if_ne (tgt := 75) rfl rfl (fun c66 => ?_) (fun c66 => ?_)
        · omega
        · refine b_aload_n rfl rfl ?_
          refine b_iconst rfl (by decide) ?_
          refine b_callV1i (ν := MX12_refuses) rfl ml12_228 cvX12_refuses (d' := 0) (by omega) rfl (by decide) rfl (Nat.le_of_ble_eq_true rfl) ?_
          refine spm_refuses (k := 5) (by decide) ?_
          refine ⟨_, rfl, ?_⟩
          refine b_iret rfl rfl ?_
          exact k0 hn
      · omega
  have good : ∀ s n : Nat, a = (s : Int) → (n : Int) = J 1 1 → (s : Int) < J 4 1 → awP J → ∀ (z3 : Int) (x4 x5 x6 x7 x8 x9 : Option AV), Bj MX12_stow 3 75 [some (aR 57), some (aI (s : Int)), some (aI (n : Int)), some (aI z3), x4, x5, x6, x7, x8, x9] [] I Q := by
    intro s n has hn hs hA z3 x4 x5 x6 x7 x8 x9
    have kk := k1 s n has hn hs hA
    obtain ⟨g1, g2, g3⟩ := nH_in hp hs
    have hs6 : s < 6 := by have := hp.1 1 (by decide); omega
    have n6 : n ≤ 6 := by have := hA.2.1; omega
    have n1 : 1 ≤ n := by have := hA.1; omega
    generalize hW : (fun k : Nat => (tAt J (k : Int)).toNat) = W at *
    have hWk : ∀ k, k < n → I 58 k = (W k : Int) ∧ (W k : Int) < J 4 0 := fun k hk => by
      have h9 := hA.2.2 k (by omega)
      have h10 : 0 ≤ tAt J (k : Int) := h9.2.2.1
      have h11 : tAt J (k : Int) < J 4 0 := h9.2.2.2
      have e : (W k : Int) = tAt J (k : Int) := by rw [← hW]; show (((tAt J (k : Int)).toNat : Nat) : Int) = _; omega
      rw [e]
      exact ⟨hT1.2.2 k (by omega), h11⟩
    have hntb : ∀ k, k < n → -99 ≤ ntJ J (W k) ∧ ntJ J (W k) ≤ 99 := fun k hk => by
      have := hp.2.1 (W k) (by have := hWk k hk; omega)
      unfold ntJ
      omega
    obtain ⟨ct1, ct2, ct3, ct4⟩ := car_t hp hM.2.2.1.2.2.2.1 hs
    have hpw : ∀ m, m ≤ n → 1 ≤ nH J s ^ m ∧ nH J s ^ m ≤ 4096 := fun m hm => by
      refine ⟨Nat.pow_pos (by omega), ?_⟩
      have h1 : nH J s ^ m ≤ 4 ^ m := Nat.pow_le_pow_left (by omega) m
      have h2 : 4 ^ m ≤ 4 ^ 6 := Nat.pow_le_pow_right (by decide) (by omega)
      have h3 : (4 : Nat) ^ 6 = 4096 := by decide
      omega
    have tpb : ∀ q, -60000 ≤ pV W (ntJ J) (nH J s) (tOf J (J 32) s) n q ∧ pV W (ntJ J) (nH J s) (tOf J (J 32) s) n q ≤ 60000 := fun q => by
      have := pV_b (nt := ntJ J) (nh := nH J s) (t := tOf J (J 32) s) hntb n q (Nat.le_refl _)
      omega
    have hst : paS J W (fun w => J 6 w - J 7 w) s n (tT (hSW J (trO J) (stO J)) 45 s) = dfH W (ntJ J) (nH J s) s n 0 (tOf J (J 32) s) (trO J) (stO J) := by
      unfold paS
      have e : tT (hSW J (trO J) (stO J)) 45 s = tOf J (J 32) s := by
        have h2 : tT (hSW J (trO J) (stO J)) 45 s = tOf J (trO J) s := rfl
        rw [h2]
        exact tOf_cg hp hs (fun c c1 c2 => by unfold trO; rw [if_pos (by omega)])
      rw [e]
      rfl
    have htr : ∀ c, c < 144 → trO J c = J 32 c := fun c hc => by unfold trO; rw [if_pos hc]
    have hrl : RlS (nH J s) n (dfH W (ntJ J) (nH J s) s n 0 (tOf J (J 32) s) (trO J) (stO J)) (stB J s n (nH J s ^ n)) := by
      have := (dfs_rs (W := W) (nt := ntJ J) (s := s) (b := trO J) (t0 := tOf J (J 32) s) (show 0 < nH J s by omega) n6 (fun q => by have := tpb q; omega) n 0 0 (stO J) (-1, 100000000) (by omega) trivial (fun j hj => absurd hj (by omega)) (Or.inl ⟨rfl, rfl, rfl⟩)).1
      rw [Nat.zero_mul] at this
      unfold stB
      rw [hW]
      rw [show pG W (nH J s) s (J 32) n = pG W (nH J s) s (trO J) n from funext (fun q => propext (pG_cg (fun c hc => (htr c hc).symm) hs6 (by omega) (fun k hk => by have := hWk k hk; omega) n q (Nat.le_refl _)))]
      exact this
    rw [hst] at kk
    have kk2 := kk _ rfl
    generalize dfH W (ntJ J) (nH J s) s n 0 (tOf J (J 32) s) (trO J) (stO J) = st at *
    have stp : ∀ m, stB J s n (m + 1) = rsS (pG W (nH J s) s (J 32) n) (fun q => if 0 ≤ pV W (ntJ J) (nH J s) (tOf J (J 32) s) n q then pV W (ntJ J) (nH J s) (tOf J (J 32) s) n q else -pV W (ntJ J) (nH J s) (tOf J (J 32) s) n q) (stB J s n m) m := fun m => by
      unfold stB
      rw [hW]
      show rsS _ _ _ (0 + m) = _
      rw [Nat.zero_add]
    have stb : ∀ m, ((stB J s n m).1 = -1 ∧ (stB J s n m).2 = 100000000) ∨ (0 ≤ (stB J s n m).1 ∧ (stB J s n m).1 < m ∧ 0 ≤ (stB J s n m).2 ∧ (stB J s n m).2 ≤ 90000000) := by
      intro m
      induction m with
      | zero => exact Or.inl ⟨rfl, rfl⟩
      | succ m ih =>
        rw [stp]
        refine rsS_b ?_ (Nat.lt_succ_self m) ?_
        · rcases ih with h | h
          · exact Or.inl h
          · exact Or.inr ⟨h.1, by have := h.2.1; omega, h.2.2⟩
        · have := tpb m
          show 0 ≤ (if 0 ≤ pV W (ntJ J) (nH J s) (tOf J (J 32) s) n m then pV W (ntJ J) (nH J s) (tOf J (J 32) s) n m else -pV W (ntJ J) (nH J s) (tOf J (J 32) s) n m) ∧ (if 0 ≤ pV W (ntJ J) (nH J s) (tOf J (J 32) s) n m then pV W (ntJ J) (nH J s) (tOf J (J 32) s) n m else -pV W (ntJ J) (nH J s) (tOf J (J 32) s) n m) ≤ 90000000
          split <;> omega
    have rows : ∀ (w : Nat), st.1 ≠ -1 → st.1 = (stB J s n (nH J s ^ n)).2 → (∀ j, j < n → st.2.1 j = pD (nH J s) n w j) → w < 5000 → ∀ (k q : Nat) (x5 : Option AV) (z7 z8 z9 : Int) (H : HI), z7 = st.1 → z8 = (q : Int) → z9 = (k : Int) - 1 → k ≤ n → q < 5000 → GF I H → H 57 63 = (n : Int) → (∀ j, k ≤ j → j < n → H 94 j = st.2.1 j) → (∀ j, j < k → pD (nH J s) n w j = pD (nH J s) k q j) → Bj MX12_stow 3 217 [some (aR 57), some (aI (s : Int)), some (aI (n : Int)), some (aI z3), some (aI (nH J s : Int)), x5, some (aI (w : Int)), some (aI z7), some (aI z8), some (aI z9)] [] H Q := by
      intro w hne h2 hrow hw k
      induction k with
      | zero =>
        intro q x5 z7 z8 z9 H h7 h8 h9 hk hq f h63 h94 hpd
        refine b_iload rfl rfl ?_
        refine b_if_lt (tgt := 253) rfl rfl (fun c219 => ?_) (fun c219 => ?_)
        · refine b_iload rfl rfl ?_
          refine b_iconst rfl (by decide) ?_
          refine b_icmp_ne (tgt := 263) rfl rfl (fun c256 => ?_) (fun c256 => ?_)
          · refine b_iload rfl rfl ?_
            refine b_iret rfl rfl ?_
            exact qI (kk2 H f (by rw [if_neg hne, h63, hn]) (fun k hk _ => h94 k (by omega) hk)) h7.symm rfl
          · omega
        · omega
      | succ k ih =>
        intro q x5 z7 z8 z9 H h7 h8 h9 hk hq f h63 h94 hpd
        have e9 : z9 = (k : Int) := by omega
        subst e9
        subst h8
        have id1 : (q : Int) % (nH J s : Int) = ((q % nH J s : Nat) : Int) := by push_cast; rfl
        have id2 : (q : Int) / (nH J s : Int) = ((q / nH J s : Nat) : Int) := by push_cast; rfl
        have hdl : q / nH J s ≤ q := Nat.div_le_self _ _
        have hk0 : pD (nH J s) n w k = ((q % nH J s : Nat) : Int) := by
          rw [hpd k (by omega)]
          show (if k = k then ((q % nH J s : Nat) : Int) else _) = _
          rw [if_pos rfl]
        refine b_iload rfl rfl ?_
        refine b_if_lt (tgt := 253) rfl rfl (fun c219 => ?_) (fun c219 => ?_)
        · omega
        · refine b_iload rfl rfl ?_
          refine b_iconst rfl (by decide) ?_
          refine b_icmp_eq (tgt := 253) rfl rfl (fun c225 => ?_) (fun c225 => ?_)
          · omega
          · refine b_aload_n rfl rfl ?_
            refine b_getR (r := 94) rfl fl12_207 rfl (by decide) rfl rfl ?_
            refine b_iload rfl rfl ?_
            refine b_iload rfl rfl ?_
            refine b_iload rfl rfl ?_
            refine b_iremP rfl (by omega) (by omega) ?_
            rw [id1]
            refine b_iast rfl rfl (by omega) (by omega) ?_
            try simp only [tn6, tn4, tn2, tn144, tn24, tn_cast, Int.reduceToNat]
            refine b_iload rfl rfl ?_
            refine b_iload rfl rfl ?_
            refine b_idivP rfl (by omega) (by omega) ?_
            rw [id2]
            refine b_istoreX (F := fun z245 => [some (aR 57), some (aI (s : Int)), some (aI (n : Int)), some (aI z3), some (aI (nH J s : Int)), x5, some (aI (w : Int)), some (aI z7), some (aI z245), some (aI (k : Int))]) rfl (by decide) (fun _ => rfl) (fun z245 ez245 => ?_)
            refine b_iincX (F := fun z247 => [some (aR 57), some (aI (s : Int)), some (aI (n : Int)), some (aI z3), some (aI (nH J s : Int)), x5, some (aI (w : Int)), some (aI z7), some (aI z245), some (aI z247)]) rfl rfl (by omega) (by omega) (fun _ => rfl) (fun z247 ez247 => ?_)
            refine b_goto (tgt := 217) rfl rfl ?_
            refine ih (q / nH J s) _ _ _ _ _ h7 (by assumption) (by omega) (by omega) (by omega) ⟨fun q a b c => by rw [up_cell b]; exact f.1 q a b c, fun j a b => by rw [up_cell (by decide)]; exact f.2.1 j a b, fun k => by rw [up_cell (by decide)]; exact f.2.2 k⟩ (by rw [up_cell (by decide)]; exact h63) (fun j j1 j2 => ?_) (fun j hj => ?_)
            · rw [up_ap]
              by_cases e : j = k
              · rw [if_pos ⟨rfl, e⟩, hrow j j2, e, hk0]
              · rw [if_neg (by omega)]; exact h94 j (by omega) j2
            · rw [hpd j (by omega)]
              show (if j = k then _ else pD (nH J s) k (q / nH J s) j) = _
              rw [if_neg (by omega)]
    have last : ∀ (x5 : Option AV) (z6 z7 z8 : Int) (x9 : Option AV) (H : HI), z6 = (stB J s n (nH J s ^ n)).1 → z7 = (stB J s n (nH J s ^ n)).2 → GF I H → Bj MX12_stow 3 193 [some (aR 57), some (aI (s : Int)), some (aI (n : Int)), some (aI z3), some (aI (nH J s : Int)), x5, some (aI z6), some (aI z7), some (aI z8), x9] [] H Q := by
      intro x5 z6 z7 z8 x9 H h6 h7 f
      have hsb := stb (nH J s ^ n)
      have hpwn := hpw n (Nat.le_refl _)
      have f63 : ∀ v, GF I (up H 57 63 v) := fun v => ⟨fun q a b c => by rw [up_cell a]; exact f.1 q a b c, fun j a b => by rw [up_n (by omega)]; exact f.2.1 j a b, fun k => by rw [up_cell (by decide)]; exact f.2.2 k⟩
      rcases hrl with ⟨r1, r2, r3⟩ | ⟨r0, r1, w, r2, r3⟩
      · have e6 : z6 = -1 := by omega
        subst e6
        refine b_aload_n rfl rfl ?_
        refine b_iload rfl rfl ?_
        refine b_iconst rfl (by decide) ?_
        refine b_icmp_ne (tgt := 204) rfl rfl (fun c197 => ?_) (fun c197 => ?_)
        · omega
        · refine b_iconst rfl (by decide) ?_
          refine b_goto (tgt := 205) rfl rfl ?_
          refine b_putI rfl fl12_204 rfl (by decide) rfl ?_
          refine b_iload rfl rfl ?_
          refine b_istoreX (F := fun z210 => [some (aR 57), some (aI (s : Int)), some (aI (n : Int)), some (aI z3), some (aI (nH J s : Int)), x5, some (aI (-1 : Int)), some (aI z7), some (aI z210), x9]) rfl (by decide) (fun _ => rfl) (fun z210 ez210 => ?_)
          refine b_iload_n rfl rfl ?_
          refine b_iconst rfl (by decide) ?_
          refine b_isubN rfl (by omega) (by omega) ?_
          refine b_istoreX (F := fun z215 => [some (aR 57), some (aI (s : Int)), some (aI (n : Int)), some (aI z3), some (aI (nH J s : Int)), x5, some (aI (-1 : Int)), some (aI z7), some (aI z210), some (aI z215)]) rfl (by decide) (fun _ => rfl) (fun z215 ez215 => ?_)
          refine b_iload rfl rfl ?_
          refine b_if_lt (tgt := 253) rfl rfl (fun c219 => ?_) (fun c219 => ?_)
          · refine b_iload rfl rfl ?_
            refine b_iconst rfl (by decide) ?_
            refine b_icmp_ne (tgt := 263) rfl rfl (fun c256 => ?_) (fun c256 => ?_)
            · omega
            · refine b_iconst rfl (by decide) ?_
              refine b_goto (tgt := 265) rfl rfl ?_
              refine b_iret rfl rfl ?_
              exact qI (kk2 _ (f63 0) (by rw [if_pos r1, up_s]) (fun k _ h => absurd r1 h)) r1 rfl
          · refine b_iload rfl rfl ?_
            refine b_iconst rfl (by decide) ?_
            refine b_icmp_eq (tgt := 253) rfl rfl (fun c225 => ?_) (fun c225 => ?_)
            · refine b_iload rfl rfl ?_
              refine b_iconst rfl (by decide) ?_
              refine b_icmp_ne (tgt := 263) rfl rfl (fun c256 => ?_) (fun c256 => ?_)
              · omega
              · refine b_iconst rfl (by decide) ?_
                refine b_goto (tgt := 265) rfl rfl ?_
                refine b_iret rfl rfl ?_
                exact qI (kk2 _ (f63 0) (by rw [if_pos r1, up_s]) (fun k _ h => absurd r1 h)) r1 rfl
            · omega
      · have e6 : z6 = (w : Int) := by omega
        subst e6
        refine b_aload_n rfl rfl ?_
        refine b_iload rfl rfl ?_
        refine b_iconst rfl (by decide) ?_
        refine b_icmp_ne (tgt := 204) rfl rfl (fun c197 => ?_) (fun c197 => ?_)
        · refine b_iload_n rfl rfl ?_
          refine b_putI rfl fl12_204 rfl (by decide) rfl ?_
          refine b_iload rfl rfl ?_
          refine b_istoreX (F := fun z210 => [some (aR 57), some (aI (s : Int)), some (aI (n : Int)), some (aI z3), some (aI (nH J s : Int)), x5, some (aI (w : Int)), some (aI z7), some (aI z210), x9]) rfl (by decide) (fun _ => rfl) (fun z210 ez210 => ?_)
          refine b_iload_n rfl rfl ?_
          refine b_iconst rfl (by decide) ?_
          refine b_isubN rfl (by omega) (by omega) ?_
          refine b_istoreX (F := fun z215 => [some (aR 57), some (aI (s : Int)), some (aI (n : Int)), some (aI z3), some (aI (nH J s : Int)), x5, some (aI (w : Int)), some (aI z7), some (aI z210), some (aI z215)]) rfl (by decide) (fun _ => rfl) (fun z215 ez215 => ?_)
          exact rows w (by omega) (by omega) r3 (by omega) n w _ _ _ _ _ (by omega) (by omega) (by omega) (Nat.le_refl _) (by omega) (f63 _) up_s (fun j a b => absurd b (by omega)) (fun j _ => rfl)
        · omega
    have ways : ∀ (m w : Nat) (z6 z7 z8 : Int) (x9 : Option AV) (H : HI), w + m = nH J s ^ n → z8 = (w : Int) → z6 = (stB J s n w).1 → z7 = (stB J s n w).2 → GF I H → Bj MX12_stow 3 127 [some (aR 57), some (aI (s : Int)), some (aI (n : Int)), some (aI z3), some (aI (nH J s : Int)), some (aI ((nH J s ^ n : Nat) : Int)), some (aI z6), some (aI z7), some (aI z8), x9] [] H Q := by
      intro m
      have hpwn := hpw n (Nat.le_refl _)
      induction m with
      | zero =>
        intro w z6 z7 z8 x9 H hw h8 h6 h7 f
        have ew : w = nH J s ^ n := by omega
        rw [ew] at h6 h7
        refine b_iload rfl rfl ?_
        refine b_iload rfl rfl ?_
        refine b_icmp_ge (tgt := 193) rfl rfl (fun c131 => ?_) (fun c131 => ?_)
        · exact last _ _ _ _ _ H h6 h7 f
        · omega
      | succ m ih =>
        intro w z6 z7 z8 x9 H hw h8 h6 h7 f
        subst h8
        have hMH := hM1.gf f
        have hWH : ∀ k, k < n → H 58 k = (W k : Int) ∧ (W k : Int) < J 4 0 := fun k hk => by rw [f.1 58 (by decide) (by decide) (by decide)]; exact hWk k hk
        have hsp : stB J s n (w + 1) = @ite _ (pG W (nH J s) s (J 32) n w ∧ (if 0 ≤ pV W (ntJ J) (nH J s) (tOf J (J 32) s) n w then pV W (ntJ J) (nH J s) (tOf J (J 32) s) n w else -pV W (ntJ J) (nH J s) (tOf J (J 32) s) n w) < (stB J s n w).2) (Classical.propDecidable _) ((w : Int), if 0 ≤ pV W (ntJ J) (nH J s) (tOf J (J 32) s) n w then pV W (ntJ J) (nH J s) (tOf J (J 32) s) n w else -pV W (ntJ J) (nH J s) (tOf J (J 32) s) n w) (stB J s n w) := stp w
        have tpw := tpb w
        have nx : ∀ (z6 z7 z8 : Int) (x9 : Option AV) (H' : HI), GF I H' → z6 = (stB J s n (w + 1)).1 → z7 = (stB J s n (w + 1)).2 → z8 = (w : Int) + 1 → Bj MX12_stow 3 127 [some (aR 57), some (aI (s : Int)), some (aI (n : Int)), some (aI z3), some (aI (nH J s : Int)), some (aI ((nH J s ^ n : Nat) : Int)), some (aI z6), some (aI z7), some (aI z8), x9] [] H' Q := fun z6 z7 z8 x9 H' f' h6' h7' h8' => ih (w + 1) z6 z7 z8 x9 H' (by omega) (by omega) h6' h7' f'
        have d59 : ∀ W' L' N' M, mS (row H 95 M) W' L' (pV W (ntJ J) (nH J s) (tOf J (J 32) s) n w) N' 57 59 = pV W (ntJ J) (nH J s) (tOf J (J 32) s) n w := fun _ _ _ _ => rfl
        generalize hPV : pV W (ntJ J) (nH J s) (tOf J (J 32) s) n w = pv at *
        refine b_iload rfl rfl ?_
        refine b_iload rfl rfl ?_
        refine b_icmp_ge (tgt := 193) rfl rfl (fun c131 => ?_) (fun c131 => ?_)
        · omega
        · refine b_aload_n rfl rfl ?_
          refine b_iload_n rfl rfl ?_
          refine b_iload_n rfl rfl ?_
          refine b_iload rfl rfl ?_
          refine b_callV3i (ν := MX12_goesIn) rfl ml12_513 cvX12_goesIn (d' := 2) (by omega) rfl (by decide) rfl (Nat.le_of_ble_eq_true rfl) ?_
          refine spm_goesIn hMH hs n6 (by omega) hWH (fun hy W' L' N' M => ?_) (fun hn0 W' L' T' N' M => ?_)
          all_goals try rw [hPV]
          · refine ⟨_, rfl, ?_⟩
            refine b_if_ne (tgt := 148) rfl rfl (fun _ => ?_) (fun z => absurd z (by decide))
            refine b_aload_n rfl rfl ?_
            refine b_getI rfl fl12_192 rfl (by decide) rfl ?_
            rw [d59]
            refine b_if_ge (tgt := 163) rfl rfl (fun c152 => ?_) (fun c152 => ?_)
            · refine b_aload_n rfl rfl ?_
              refine b_getI rfl fl12_192 rfl (by decide) rfl ?_
              rw [d59]
              refine b_istoreX (F := fun z167 => [some (aR 57), some (aI (s : Int)), some (aI (n : Int)), some (aI z3), some (aI (nH J s : Int)), some (aI ((nH J s ^ n : Nat) : Int)), some (aI z6), some (aI z7), some (aI (w : Int)), some (aI z167)]) rfl (by decide) (fun _ => rfl) (fun z167 ez167 => ?_)
              refine b_iload rfl rfl ?_
              refine b_iload rfl rfl ?_
              refine b_icmp_lt (tgt := 179) rfl rfl (fun c173 => ?_) (fun c173 => ?_)
              · refine b_iload rfl rfl ?_
                refine b_istoreX (F := fun z181 => [some (aR 57), some (aI (s : Int)), some (aI (n : Int)), some (aI z3), some (aI (nH J s : Int)), some (aI ((nH J s ^ n : Nat) : Int)), some (aI z6), some (aI z181), some (aI (w : Int)), some (aI z167)]) rfl (by decide) (fun _ => rfl) (fun z181 ez181 => ?_)
                refine b_iload rfl rfl ?_
                refine b_istoreX (F := fun z185 => [some (aR 57), some (aI (s : Int)), some (aI (n : Int)), some (aI z3), some (aI (nH J s : Int)), some (aI ((nH J s ^ n : Nat) : Int)), some (aI z185), some (aI z181), some (aI (w : Int)), some (aI z167)]) rfl (by decide) (fun _ => rfl) (fun z185 ez185 => ?_)
                refine b_iincX (F := fun z187 => [some (aR 57), some (aI (s : Int)), some (aI (n : Int)), some (aI z3), some (aI (nH J s : Int)), some (aI ((nH J s ^ n : Nat) : Int)), some (aI z185), some (aI z181), some (aI z187), some (aI z167)]) rfl rfl (by omega) (by omega) (fun _ => rfl) (fun z187 ez187 => ?_)
                refine b_goto (tgt := 127) rfl rfl ?_
                first
                | (have hy2 := hy
                   have habs : (0 ≤ pv ∧ (if 0 ≤ pv then pv else -pv) = pv) ∨ (pv < 0 ∧ (if 0 ≤ pv then pv else -pv) = -pv) := by
                     by_cases e : 0 ≤ pv
                     · exact Or.inl ⟨e, if_pos e⟩
                     · exact Or.inr ⟨by omega, if_neg e⟩
                   generalize (if 0 ≤ pv then pv else -pv) = ab at *
                   by_cases hlt : ab < (stB J s n w).2
                   · rw [if_pos ⟨hy2, hlt⟩] at hsp
                     refine nx _ _ _ _ _ f.go ?_ ?_ (by omega)
                     · rw [hsp]; show _ = (w : Int); omega
                     · rw [hsp]; show _ = ab; omega
                   · rw [if_neg (fun z => hlt z.2)] at hsp
                     exact nx _ _ _ _ _ f.go (by rw [hsp]; omega) (by rw [hsp]; omega) (by omega))
                | (rw [if_neg (fun z => hn0 z.1)] at hsp
                   exact nx _ _ _ _ _ f.go (by rw [hsp]; exact h6) (by rw [hsp]; exact h7) (by omega))
              · refine b_goto (tgt := 187) rfl rfl ?_
                refine b_iincX (F := fun z187 => [some (aR 57), some (aI (s : Int)), some (aI (n : Int)), some (aI z3), some (aI (nH J s : Int)), some (aI ((nH J s ^ n : Nat) : Int)), some (aI z6), some (aI z7), some (aI z187), some (aI z167)]) rfl rfl (by omega) (by omega) (fun _ => rfl) (fun z187 ez187 => ?_)
                refine b_goto (tgt := 127) rfl rfl ?_
                first
                | (have hy2 := hy
                   have habs : (0 ≤ pv ∧ (if 0 ≤ pv then pv else -pv) = pv) ∨ (pv < 0 ∧ (if 0 ≤ pv then pv else -pv) = -pv) := by
                     by_cases e : 0 ≤ pv
                     · exact Or.inl ⟨e, if_pos e⟩
                     · exact Or.inr ⟨by omega, if_neg e⟩
                   generalize (if 0 ≤ pv then pv else -pv) = ab at *
                   by_cases hlt : ab < (stB J s n w).2
                   · rw [if_pos ⟨hy2, hlt⟩] at hsp
                     refine nx _ _ _ _ _ f.go ?_ ?_ (by omega)
                     · rw [hsp]; show _ = (w : Int); omega
                     · rw [hsp]; show _ = ab; omega
                   · rw [if_neg (fun z => hlt z.2)] at hsp
                     exact nx _ _ _ _ _ f.go (by rw [hsp]; omega) (by rw [hsp]; omega) (by omega))
                | (rw [if_neg (fun z => hn0 z.1)] at hsp
                   exact nx _ _ _ _ _ f.go (by rw [hsp]; exact h6) (by rw [hsp]; exact h7) (by omega))
            · refine b_aload_n rfl rfl ?_
              refine b_getI rfl fl12_192 rfl (by decide) rfl ?_
              rw [d59]
              refine b_inegN rfl (by omega) (by omega) ?_
              refine b_goto (tgt := 167) rfl rfl ?_
              refine b_istoreX (F := fun z167 => [some (aR 57), some (aI (s : Int)), some (aI (n : Int)), some (aI z3), some (aI (nH J s : Int)), some (aI ((nH J s ^ n : Nat) : Int)), some (aI z6), some (aI z7), some (aI (w : Int)), some (aI z167)]) rfl (by decide) (fun _ => rfl) (fun z167 ez167 => ?_)
              refine b_iload rfl rfl ?_
              refine b_iload rfl rfl ?_
              refine b_icmp_lt (tgt := 179) rfl rfl (fun c173 => ?_) (fun c173 => ?_)
              · refine b_iload rfl rfl ?_
                refine b_istoreX (F := fun z181 => [some (aR 57), some (aI (s : Int)), some (aI (n : Int)), some (aI z3), some (aI (nH J s : Int)), some (aI ((nH J s ^ n : Nat) : Int)), some (aI z6), some (aI z181), some (aI (w : Int)), some (aI z167)]) rfl (by decide) (fun _ => rfl) (fun z181 ez181 => ?_)
                refine b_iload rfl rfl ?_
                refine b_istoreX (F := fun z185 => [some (aR 57), some (aI (s : Int)), some (aI (n : Int)), some (aI z3), some (aI (nH J s : Int)), some (aI ((nH J s ^ n : Nat) : Int)), some (aI z185), some (aI z181), some (aI (w : Int)), some (aI z167)]) rfl (by decide) (fun _ => rfl) (fun z185 ez185 => ?_)
                refine b_iincX (F := fun z187 => [some (aR 57), some (aI (s : Int)), some (aI (n : Int)), some (aI z3), some (aI (nH J s : Int)), some (aI ((nH J s ^ n : Nat) : Int)), some (aI z185), some (aI z181), some (aI z187), some (aI z167)]) rfl rfl (by omega) (by omega) (fun _ => rfl) (fun z187 ez187 => ?_)
                refine b_goto (tgt := 127) rfl rfl ?_
                first
                | (have hy2 := hy
                   have habs : (0 ≤ pv ∧ (if 0 ≤ pv then pv else -pv) = pv) ∨ (pv < 0 ∧ (if 0 ≤ pv then pv else -pv) = -pv) := by
                     by_cases e : 0 ≤ pv
                     · exact Or.inl ⟨e, if_pos e⟩
                     · exact Or.inr ⟨by omega, if_neg e⟩
                   generalize (if 0 ≤ pv then pv else -pv) = ab at *
                   by_cases hlt : ab < (stB J s n w).2
                   · rw [if_pos ⟨hy2, hlt⟩] at hsp
                     refine nx _ _ _ _ _ f.go ?_ ?_ (by omega)
                     · rw [hsp]; show _ = (w : Int); omega
                     · rw [hsp]; show _ = ab; omega
                   · rw [if_neg (fun z => hlt z.2)] at hsp
                     exact nx _ _ _ _ _ f.go (by rw [hsp]; omega) (by rw [hsp]; omega) (by omega))
                | (rw [if_neg (fun z => hn0 z.1)] at hsp
                   exact nx _ _ _ _ _ f.go (by rw [hsp]; exact h6) (by rw [hsp]; exact h7) (by omega))
              · refine b_goto (tgt := 187) rfl rfl ?_
                refine b_iincX (F := fun z187 => [some (aR 57), some (aI (s : Int)), some (aI (n : Int)), some (aI z3), some (aI (nH J s : Int)), some (aI ((nH J s ^ n : Nat) : Int)), some (aI z6), some (aI z7), some (aI z187), some (aI z167)]) rfl rfl (by omega) (by omega) (fun _ => rfl) (fun z187 ez187 => ?_)
                refine b_goto (tgt := 127) rfl rfl ?_
                first
                | (have hy2 := hy
                   have habs : (0 ≤ pv ∧ (if 0 ≤ pv then pv else -pv) = pv) ∨ (pv < 0 ∧ (if 0 ≤ pv then pv else -pv) = -pv) := by
                     by_cases e : 0 ≤ pv
                     · exact Or.inl ⟨e, if_pos e⟩
                     · exact Or.inr ⟨by omega, if_neg e⟩
                   generalize (if 0 ≤ pv then pv else -pv) = ab at *
                   by_cases hlt : ab < (stB J s n w).2
                   · rw [if_pos ⟨hy2, hlt⟩] at hsp
                     refine nx _ _ _ _ _ f.go ?_ ?_ (by omega)
                     · rw [hsp]; show _ = (w : Int); omega
                     · rw [hsp]; show _ = ab; omega
                   · rw [if_neg (fun z => hlt z.2)] at hsp
                     exact nx _ _ _ _ _ f.go (by rw [hsp]; omega) (by rw [hsp]; omega) (by omega))
                | (rw [if_neg (fun z => hn0 z.1)] at hsp
                   exact nx _ _ _ _ _ f.go (by rw [hsp]; exact h6) (by rw [hsp]; exact h7) (by omega))
          · refine ⟨_, rfl, ?_⟩
            refine b_if_ne (tgt := 148) rfl rfl (fun z => absurd z (by decide)) (fun _ => ?_)
            refine b_goto (tgt := 187) rfl rfl ?_
            refine b_iincX (F := fun z187 => [some (aR 57), some (aI (s : Int)), some (aI (n : Int)), some (aI z3), some (aI (nH J s : Int)), some (aI ((nH J s ^ n : Nat) : Int)), some (aI z6), some (aI z7), some (aI z187), x9]) rfl rfl (by omega) (by omega) (fun _ => rfl) (fun z187 ez187 => ?_)
            refine b_goto (tgt := 127) rfl rfl ?_
            first
            | (have hy2 := hy
               have habs : (0 ≤ pv ∧ (if 0 ≤ pv then pv else -pv) = pv) ∨ (pv < 0 ∧ (if 0 ≤ pv then pv else -pv) = -pv) := by
                 by_cases e : 0 ≤ pv
                 · exact Or.inl ⟨e, if_pos e⟩
                 · exact Or.inr ⟨by omega, if_neg e⟩
               generalize (if 0 ≤ pv then pv else -pv) = ab at *
               by_cases hlt : ab < (stB J s n w).2
               · rw [if_pos ⟨hy2, hlt⟩] at hsp
                 refine nx _ _ _ _ _ f.go ?_ ?_ (by omega)
                 · rw [hsp]; show _ = (w : Int); omega
                 · rw [hsp]; show _ = ab; omega
               · rw [if_neg (fun z => hlt z.2)] at hsp
                 exact nx _ _ _ _ _ f.go (by rw [hsp]; omega) (by rw [hsp]; omega) (by omega))
            | (rw [if_neg (fun z => hn0 z.1)] at hsp
               exact nx _ _ _ _ _ f.go (by rw [hsp]; exact h6) (by rw [hsp]; exact h7) (by omega))
    have pows : ∀ (m i : Nat) (z5 z6 : Int) (x7 x8 x9 : Option AV), i + m = n → z6 = (i : Int) → z5 = ((nH J s ^ i : Nat) : Int) → Bj MX12_stow 3 97 [some (aR 57), some (aI (s : Int)), some (aI (n : Int)), some (aI z3), some (aI (nH J s : Int)), some (aI z5), some (aI z6), x7, x8, x9] [] I Q := by
      intro m
      induction m with
      | zero =>
        intro i z5 z6 x7 x8 x9 hi h6 h5
        have ei : i = n := by omega
        subst ei
        subst h5
        refine b_iload rfl rfl ?_
        refine b_iload_n rfl rfl ?_
        refine b_icmp_ge (tgt := 116) rfl rfl (fun c100 => ?_) (fun c100 => ?_)
        · refine b_iconst rfl (by decide) ?_
          refine b_istoreX (F := fun z117 => [some (aR 57), some (aI (s : Int)), some (aI (i : Int)), some (aI z3), some (aI (nH J s : Int)), some (aI ((nH J s ^ i : Nat) : Int)), some (aI z117), x7, x8, x9]) rfl (by decide) (fun _ => rfl) (fun z117 ez117 => ?_)
          refine b_ldcw (z := 100000000) rfl kc12_512 (by decide) ?_
          refine b_istoreX (F := fun z122 => [some (aR 57), some (aI (s : Int)), some (aI (i : Int)), some (aI z3), some (aI (nH J s : Int)), some (aI ((nH J s ^ i : Nat) : Int)), some (aI z117), some (aI z122), x8, x9]) rfl (by decide) (fun _ => rfl) (fun z122 ez122 => ?_)
          refine b_iconst rfl (by decide) ?_
          refine b_istoreX (F := fun z125 => [some (aR 57), some (aI (s : Int)), some (aI (i : Int)), some (aI z3), some (aI (nH J s : Int)), some (aI ((nH J s ^ i : Nat) : Int)), some (aI z117), some (aI z122), some (aI z125), x9]) rfl (by decide) (fun _ => rfl) (fun z125 ez125 => ?_)
          exact ways (nH J s ^ i) 0 _ _ _ _ I (by omega) (by omega) (by rw [ez117]; rfl) (by rw [ez122]; rfl) ⟨fun _ _ _ _ => rfl, fun _ _ _ => rfl, hM1.2.1⟩
        · omega
      | succ m ih =>
        intro i z5 z6 x7 x8 x9 hi h6 h5
        subst h6
        have hpi := hpw i (by omega)
        have hpi2 := hpw (i + 1) (by omega)
        have emul : z5 * (nH J s : Int) = ((nH J s ^ (i + 1) : Nat) : Int) := by rw [h5, Nat.pow_succ]; push_cast; rfl
        refine b_iload rfl rfl ?_
        refine b_iload_n rfl rfl ?_
        refine b_icmp_ge (tgt := 116) rfl rfl (fun c100 => ?_) (fun c100 => ?_)
        · omega
        · refine b_iload rfl rfl ?_
          refine b_iload rfl rfl ?_
          refine b_imulN rfl (by rw [emul]; omega) (by rw [emul]; omega) ?_
          rw [emul]
          refine b_istoreX (F := fun z108 => [some (aR 57), some (aI (s : Int)), some (aI (n : Int)), some (aI z3), some (aI (nH J s : Int)), some (aI z108), some (aI (i : Int)), x7, x8, x9]) rfl (by decide) (fun _ => rfl) (fun z108 ez108 => ?_)
          refine b_iincX (F := fun z110 => [some (aR 57), some (aI (s : Int)), some (aI (n : Int)), some (aI z3), some (aI (nH J s : Int)), some (aI z108), some (aI z110), x7, x8, x9]) rfl rfl (by omega) (by omega) (fun _ => rfl) (fun z110 ez110 => ?_)
          refine b_goto (tgt := 97) rfl rfl ?_
          exact ih (i + 1) _ _ _ _ _ (by omega) (by omega) ez108
    have hb := hM1.1.1
    have q63 := (hM1.1.2.2.2.2.2.2.1 s hs).1
    refine b_aload_n rfl rfl ?_
    refine b_getR (r := 63) rfl fl12_66 rfl (by decide) rfl rfl ?_
    refine b_bipush rfl (by decide) ?_
    refine b_aload_n rfl rfl ?_
    refine b_getI rfl fl12_51 rfl (by decide) rfl ?_
    rw [hb]
    refine b_imulN rfl (by omega) (by omega) ?_
    refine b_iload_n rfl rfl ?_
    refine b_iaddN rfl (by omega) (by omega) ?_
    refine b_iald rfl rfl (by omega) (by omega) ?_
    try simp only [tn6, tn4, tn2, tn144, tn24, tn_cast, Int.reduceToNat]
    rw [q63]
    refine b_istoreX (F := fun z89 => [some (aR 57), some (aI (s : Int)), some (aI (n : Int)), some (aI z3), some (aI z89), x5, x6, x7, x8, x9]) rfl (by decide) (fun _ => rfl) (fun z89 ez89 => ?_)
    refine b_iconst rfl (by decide) ?_
    refine b_istoreX (F := fun z92 => [some (aR 57), some (aI (s : Int)), some (aI (n : Int)), some (aI z3), some (aI z89), some (aI z92), x6, x7, x8, x9]) rfl (by decide) (fun _ => rfl) (fun z92 ez92 => ?_)
    refine b_iconst rfl (by decide) ?_
    refine b_istoreX (F := fun z95 => [some (aR 57), some (aI (s : Int)), some (aI (n : Int)), some (aI z3), some (aI z89), some (aI z92), some (aI z95), x7, x8, x9]) rfl (by decide) (fun _ => rfl) (fun z95 ez95 => ?_)
    have e89 : z89 = (nH J s : Int) := by omega
    subst e89
    exact pows n 0 _ _ _ _ _ (by omega) (by omega) (by rw [ez92]; rfl)
  have chk : kO J 4 1 a → (1 ≤ J 1 1 ∧ J 1 1 ≤ 6) → ∀ (n i : Nat) (z3 z4 : Int) (x5 x6 x7 x8 x9 : Option AV), (z3 = 1 ∧ ∀ k : Nat, k < i → kO J 4 0 (tAt J (k : Int))) → z4 = (i : Int) → (i : Int) + n = J 1 1 → Bj MX12_stow 3 37 [some (aR 57), some (aI a), some (aI (J 1 1)), some (aI z3), some (aI z4), x5, x6, x7, x8, x9] [] I Q := by
    intro hk hl n
    induction n with
    | zero =>
      intro i z3 z4 x5 x6 x7 x8 x9 h3 hz hi
      have h31 := h3.1
      refine b_iload rfl rfl ?_
      refine b_iload_n rfl rfl ?_
      refine b_icmp_ge (tgt := 65) rfl rfl (fun c40 => ?_) (fun c40 => ?_)
      · refine b_iload_n rfl rfl ?_
        refine b_if_ne (tgt := 75) rfl rfl (fun c66 => ?_) (fun c66 => ?_)
        · obtain ⟨s, hsa, hs⟩ := kO_nat (i := 1) hk
          have g := good s (J 1 1).toNat hsa (by omega) hs ⟨hl.1, hl.2, fun k hkk => h3.2 k (by omega)⟩ z3 (some (aI z4)) x5 x6 x7 x8 x9
          rw [show (((J 1 1).toNat : Nat) : Int) = J 1 1 by omega, ← hsa] at g
          exact g
        · omega
      · omega
    | succ n ih =>
      intro i z3 z4 x5 x6 x7 x8 x9 h3 hz hi
      have h31 := h3.1
      subst hz
      have q58 := hT1.2.2 i (by omega)
      refine b_iload rfl rfl ?_
      refine b_iload_n rfl rfl ?_
      refine b_icmp_ge (tgt := 65) rfl rfl (fun c40 => ?_) (fun c40 => ?_)
      · omega
      · refine b_iload_n rfl rfl ?_
        refine b_if_eq (tgt := 65) rfl rfl (fun c44 => ?_) (fun c44 => ?_)
        · omega
        · refine b_aload_n rfl rfl ?_
          refine b_aload_n rfl rfl ?_
          refine b_getR (r := 58) rfl fl12_7 rfl (by decide) rfl rfl ?_
          refine b_iload rfl rfl ?_
          refine b_iald rfl rfl (by omega) (by omega) ?_
          try simp only [tn6, tn4, tn2, tn144, tn24, tn_cast, Int.reduceToNat]
          rw [q58]
          refine b_callV1i (ν := MX12_isWare) rfl ml12_490 cvX12_isWare (d' := 0) (by omega) rfl (by decide) rfl (Nat.le_of_ble_eq_true rfl) ?_
          refine spm_isWare hM1.1 (fun hw => ?_) (fun hw => ?_)
          · refine ⟨_, rfl, ?_⟩
            refine b_istoreX_n (F := fun z58 => [some (aR 57), some (aI a), some (aI (J 1 1)), some (aI z58), some (aI (i : Int)), x5, x6, x7, x8, x9]) rfl (by decide) (fun _ => rfl) (fun z58 ez58 => ?_)
            refine b_iincX (F := fun z59 => [some (aR 57), some (aI a), some (aI (J 1 1)), some (aI z58), some (aI z59), x5, x6, x7, x8, x9]) rfl rfl (by omega) (by omega) (fun _ => rfl) (fun z59 ez59 => ?_)
            refine b_goto (tgt := 37) rfl rfl ?_
            first
            | (refine ih (i + 1) _ _ _ _ _ _ _ ⟨by assumption, fun k hk => ?_⟩ (by omega) (by omega)
               by_cases e : k = i
               · subst e; exact hw
               · exact h3.2 k (by omega))
            | exact bad _ _ _ _ _ _ _ (by assumption) (fun w => hw (w.2.2.2 i (by omega)))
          · refine ⟨_, rfl, ?_⟩
            refine b_istoreX_n (F := fun z58 => [some (aR 57), some (aI a), some (aI (J 1 1)), some (aI z58), some (aI (i : Int)), x5, x6, x7, x8, x9]) rfl (by decide) (fun _ => rfl) (fun z58 ez58 => ?_)
            refine b_iincX (F := fun z59 => [some (aR 57), some (aI a), some (aI (J 1 1)), some (aI z58), some (aI z59), x5, x6, x7, x8, x9]) rfl rfl (by omega) (by omega) (fun _ => rfl) (fun z59 ez59 => ?_)
            refine b_goto (tgt := 37) rfl rfl ?_
            first
            | (refine ih (i + 1) _ _ _ _ _ _ _ ⟨by assumption, fun k hk => ?_⟩ (by omega) (by omega)
               by_cases e : k = i
               · subst e; exact hw
               · exact h3.2 k (by omega))
            | exact bad _ _ _ _ _ _ _ (by assumption) (fun w => hw (w.2.2.2 i (by omega)))
  refine rj_of okX12_stow (Nat.le_of_ble_eq_true rfl) rfl ?_
  refine b_aload_n rfl rfl ?_
  refine b_getI rfl fl12_13 rfl (by decide) rfl ?_
  rw [h1]
  refine b_istoreX_n (F := fun z4 => [some (aR 57), some (aI a), some (aI z4), none, none, none, none, none, none, none]) rfl (by decide) (fun _ => rfl) (fun z4 ez4 => ?_)
  refine b_aload_n rfl rfl ?_
  refine b_iconst rfl (by decide) ?_
  refine b_putI rfl fl12_13 rfl (by decide) rfl ?_
  rw [hI]
  refine b_aload_n rfl rfl ?_
  refine b_iload_n rfl rfl ?_
  refine b_callV1i (ν := MX12_isShip) rfl ml12_479 cvX12_isShip (d' := 0) (by omega) rfl (by decide) rfl (Nat.le_of_ble_eq_true rfl) ?_
  refine spm_isShip hM1.1 (fun hk => ?_) (fun hk => ?_)
  · refine ⟨_, rfl, ?_⟩
    refine b_if_eq (tgt := 32) rfl rfl (fun z => absurd z (by decide)) (fun _ => ?_)
    refine b_iload_n rfl rfl ?_
    refine b_iconst rfl (by decide) ?_
    refine b_bipush rfl (by decide) ?_
    refine b_callS3i (ν := MX12_is) rfl ml12_322 csX12_is (d' := 0) (by omega) (Nat.le_of_ble_eq_true rfl) ?_
    refine spm_is (fun hy => ?_) (fun hn => ?_)
    · refine ⟨_, rfl, ?_⟩
      refine b_if_eq (tgt := 32) rfl rfl (fun z => absurd z (by decide)) (fun _ => ?_)
      refine b_iconst rfl (by decide) ?_
      refine b_goto (tgt := 33) rfl rfl ?_
      refine b_istoreX_n (F := fun z33 => [some (aR 57), some (aI a), some (aI z4), some (aI z33), none, none, none, none, none, none]) rfl (by decide) (fun _ => rfl) (fun z33 ez33 => ?_)
      refine b_iconst rfl (by decide) ?_
      refine b_istoreX (F := fun z35 => [some (aR 57), some (aI a), some (aI z4), some (aI z33), some (aI z35), none, none, none, none, none]) rfl (by decide) (fun _ => rfl) (fun z35 ez35 => ?_)
      subst ez4
      first
        | exact chk hk hy (J 1 1).toNat 0 _ _ _ _ _ _ _ ⟨by assumption, fun k hk => absurd hk (by omega)⟩ (by omega) (by omega)
        | exact bad _ _ _ _ _ _ _ (by assumption) (fun w => hn ⟨w.2.1, w.2.2.1⟩)
        | exact bad _ _ _ _ _ _ _ (by assumption) (fun w => hk w.1)
    · refine ⟨_, rfl, ?_⟩
      refine b_if_eq (tgt := 32) rfl rfl (fun _ => ?_) (fun z => absurd z (by decide))
      refine b_iconst rfl (by decide) ?_
      refine b_istoreX_n (F := fun z33 => [some (aR 57), some (aI a), some (aI z4), some (aI z33), none, none, none, none, none, none]) rfl (by decide) (fun _ => rfl) (fun z33 ez33 => ?_)
      refine b_iconst rfl (by decide) ?_
      refine b_istoreX (F := fun z35 => [some (aR 57), some (aI a), some (aI z4), some (aI z33), some (aI z35), none, none, none, none, none]) rfl (by decide) (fun _ => rfl) (fun z35 ez35 => ?_)
      subst ez4
      first
        | exact chk hk hy (J 1 1).toNat 0 _ _ _ _ _ _ _ ⟨by assumption, fun k hk => absurd hk (by omega)⟩ (by omega) (by omega)
        | exact bad _ _ _ _ _ _ _ (by assumption) (fun w => hn ⟨w.2.1, w.2.2.1⟩)
        | exact bad _ _ _ _ _ _ _ (by assumption) (fun w => hk w.1)
  · refine ⟨_, rfl, ?_⟩
    refine b_if_eq (tgt := 32) rfl rfl (fun _ => ?_) (fun z => absurd z (by decide))
    refine b_iconst rfl (by decide) ?_
    refine b_istoreX_n (F := fun z33 => [some (aR 57), some (aI a), some (aI z4), some (aI z33), none, none, none, none, none, none]) rfl (by decide) (fun _ => rfl) (fun z33 ez33 => ?_)
    refine b_iconst rfl (by decide) ?_
    refine b_istoreX (F := fun z35 => [some (aR 57), some (aI a), some (aI z4), some (aI z33), some (aI z35), none, none, none, none, none]) rfl (by decide) (fun _ => rfl) (fun z35 ez35 => ?_)
    subst ez4
    first
      | exact chk hk hy (J 1 1).toNat 0 _ _ _ _ _ _ _ ⟨by assumption, fun k hk => absurd hk (by omega)⟩ (by omega) (by omega)
      | exact bad _ _ _ _ _ _ _ (by assumption) (fun w => hn ⟨w.2.1, w.2.2.1⟩)
      | exact bad _ _ _ _ _ _ _ (by assumption) (fun w => hk w.1)
