/-! ===== the reference: order ===== -/
def OX (K H : HI) : Prop := (∀ q, q ≠ 57 → (q < 85 ∨ 91 < q) → q ≠ 97 → H q = K q) ∧ (∀ j, ¬ (57 ≤ j ∧ j ≤ 60) → H 57 j = K 57 j) ∧ (∀ v, v ≠ 1 → H 85 v = K 85 v) ∧ (∀ j, j < 6 ∨ 12 ≤ j → H 86 j = K 86 j) ∧ (∀ j, j < 144 ∨ 288 ≤ j → H 87 j = K 87 j) ∧ (∀ v, v ≠ 1 → H 88 v = K 88 v) ∧ (∀ j, j < 300 ∨ 600 ≤ j → H 89 j = K 89 j) ∧ asB H
theorem OX.rf {K : HI} (h : asB K) : OX K K := ⟨fun _ _ _ _ => rfl, fun _ _ => rfl, fun _ _ => rfl, fun _ _ => rfl, fun _ _ => rfl, fun _ _ => rfl, fun _ _ => rfl, h⟩
theorem OX.tr {K H I : HI} (h : OX K H) (h2 : OX H I) : OX K I := by
  obtain ⟨a1, a2, a3, a4, a5, a6, a7, _⟩ := h
  obtain ⟨b1, b2, b3, b4, b5, b6, b7, b8⟩ := h2
  exact ⟨fun q x y z => (b1 q x y z).trans (a1 q x y z), fun j x => (b2 j x).trans (a2 j x), fun j x => (b3 j x).trans (a3 j x), fun j x => (b4 j x).trans (a4 j x), fun j x => (b5 j x).trans (a5 j x), fun j x => (b6 j x).trans (a6 j x), fun j x => (b7 j x).trans (a7 j x), b8⟩
theorem OX.lf {X H : HI} (hk : X 88 0 ≤ 60) (h : LF (mcp X 1 0) H) : OX X H := by
  have c57 : ∀ q j, q ≠ 85 → q ≠ 86 → q ≠ 87 → q ≠ 88 → q ≠ 89 → mcp X 1 0 q j = X q j := fun q j a b c d e => by
    unfold mcp
    rw [if_neg (by omega), if_neg (by omega), if_neg (by omega), if_neg (by omega), if_neg (by omega)]
  refine ⟨fun q a b c => ?_, fun j a => ?_, fun v hv => ?_, fun j hj => ?_, fun j hj => ?_, fun v hv => ?_, fun j hj => ?_, h.2.2.2⟩
  · rw [h.1 q a (by omega) (by omega) (by omega)]
    funext j
    exact c57 q j (by omega) (by omega) (by omega) (by omega) (by omega)
  · rw [h.2.1 j a]
    exact c57 57 j (by decide) (by decide) (by decide) (by decide) (by decide)
  · rw [h.1 85 (by decide) (by decide) (by decide) (by decide)]
    unfold mcp
    rw [if_neg (by omega), if_neg (by omega), if_neg (by omega), if_neg (by omega), if_neg (by omega)]
  · rw [h.1 86 (by decide) (by decide) (by decide) (by decide)]
    unfold mcp
    rw [if_neg (by omega), if_neg (by omega), if_neg (by omega), if_neg (by omega), if_neg (by omega)]
  · rw [h.2.2.1 j hj]
    unfold mcp
    rw [if_neg (by omega), if_neg (by omega), if_neg (by omega), if_neg (by omega), if_neg (by omega)]
  · rw [h.1 88 (by decide) (by decide) (by decide) (by decide)]
    unfold mcp
    rw [if_neg (by omega), if_neg (by omega), if_neg (by omega), if_neg (by omega), if_neg (by omega)]
  · rw [h.1 89 (by decide) (by decide) (by decide) (by decide)]
    unfold mcp
    rw [if_neg (by omega), if_neg (by omega), if_neg (by omega), if_neg (by omega), if_neg (by omega)]
theorem OX.r97 {X H : HI} {g : Nat → Int} (h : OX X H) : OX X (row H 97 g) := by
  obtain ⟨a1, a2, a3, a4, a5, a6, a7, a8⟩ := h
  refine ⟨fun q x y z => by rw [row_cell z]; exact a1 q x y z, fun j x => by rw [row_cell (by decide)]; exact a2 j x, fun j x => by rw [row_cell (by decide)]; exact a3 j x, fun j x => by rw [row_cell (by decide)]; exact a4 j x, fun j x => by rw [row_cell (by decide)]; exact a5 j x, fun j x => by rw [row_cell (by decide)]; exact a6 j x, fun j x => by rw [row_cell (by decide)]; exact a7 j x, fun j => ?_⟩
  rw [row_cell (by decide)]; exact a8 j
theorem OX.sr {hr kf kc : Int} {li cr rg : Nat → Int} {X Y : HI} {v : Nat} (h : OX X Y) (hs : SR hr kf kc li cr rg X v) (hv : v ≠ 1) (hk : kc ≤ 60) : SR hr kf kc li cr rg Y v := by
  obtain ⟨e1, e2, e3, e4, e5⟩ := hs
  obtain ⟨a1, a2, a3, a4, a5, a6, a7, a8⟩ := h
  exact ⟨by rw [a3 v hv]; exact e1, fun s hs hn => by rw [a4 _ (by omega)]; exact e2 s hs (by rw [shp_of (a1 62 (by decide) (by decide) (by decide)) (a2 13 (by omega))] at hn; exact hn), fun c hc => by rw [a5 _ (by omega)]; exact e3 c hc, by rw [a6 v hv]; exact e4, fun k w hk hw => by rw [a7 _ (by omega)]; exact e5 k w hk hw⟩
theorem MN.ox {J X Y : HI} {C : Nat → List Int} {b : Nat} (h : MN J X C b) (h2 : OX X Y) (hk : J 30 4 ≤ 60) : MN J Y C b :=
  ⟨h.1.to (h2.2.1 13 (by omega)) (fun q hq => h2.1 q (by unfold mcell at hq; omega) (by unfold mcell at hq; omega) (by unfold mcell at hq; omega)), h2.2.2.2.2.2.2.2, h.2.2.1, h2.sr h.2.2.2.1 (by decide) hk, h.2.2.2.2⟩
theorem RUn.ox {J X Y : HI} (h : RUn J X) (h2 : OX X Y) : RUn J Y := RUn_to h rfl rfl (h2.2.1 53 (by omega)) (h2.2.1 52 (by omega)) (fun _ _ h1 h3 => h2.sr h1 (by omega) h3)
theorem pow_b {m i : Nat} (hm : m ≤ 6) (hi : i ≤ m) : m ^ i ≤ 46656 := by
  have h1 : m ^ i ≤ 6 ^ i := Nat.pow_le_pow_left hm i
  have h2 : 6 ^ i ≤ 6 ^ 6 := Nat.pow_le_pow_right (by decide) (by omega)
  have h3 : (6 : Nat) ^ 6 = 46656 := by decide
  omega
theorem dg_pD {m : Nat} : ∀ k q j, j < k → pD m k q j = ((q / m ^ (k - (j + 1)) % m : Nat) : Int) := by
  intro k
  induction k with
  | zero => intro q j hj; omega
  | succ k ih =>
    intro q j hj
    show (if j = k then ((q % m : Nat) : Int) else pD m k (q / m) j) = _
    by_cases e : j = k
    · rw [if_pos e, e, Nat.sub_self, Nat.pow_zero, Nat.div_one]
    · rw [if_neg e, ih _ _ (by omega), Nat.div_div_eq_div_mul, ← Nat.pow_succ', show k + 1 - (j + 1) = (k - (j + 1)).succ by omega]
/-- what the reference's order leaves -/
def oRes (J K K' : HI) (m : Nat) (L : Nat → Int) : Prop := (∀ q, q ≠ 57 → (q < 85 ∨ 91 < q) → q ≠ 96 → q ≠ 97 → K' q = K q) ∧ (∀ j, j ≠ 1 → j ≠ 66 → ¬ (57 ≤ j ∧ j ≤ 60) → K' 57 j = K 57 j) ∧ asB K' ∧ K' 57 1 = 0 ∧ K' 57 66 = (if L 0 = 0 then 0 else (m : Int)) ∧ (L 0 ≠ 0 → ∀ i, i < m → K' 96 i = fP (glP L (gS L m i)) m 0) ∧ SRn J K' ∧ RUn J K'
theorem oRes_of {J K H : HI} {C : Nat → List Int} {b m : Nat} {L g : Nat → Int} {x : Int} (hM : MN J K C b) (hU : RUn J K) (hk4 : J 30 4 ≤ 60) (hH : OX (up (up K 57 1 0) 57 66 0) H) (hx : x = (if L 0 = 0 then 0 else (m : Int))) (hg : L 0 ≠ 0 → ∀ i, i < m → g i = fP (glP L (gS L m i)) m 0) : oRes J K (row (up H 57 66 x) 96 g) m L := by
  have hb : OX (up (up K 57 1 0) 57 66 0) H := hH
  have sr : ∀ {hr kf kc : Int} {li cr rg : Nat → Int} {v : Nat}, SR hr kf kc li cr rg K v → v ≠ 1 → kc ≤ 60 → SR hr kf kc li cr rg (row (up H 57 66 x) 96 g) v := by
    intro hr kf kc li cr rg v h1 h2 h3
    have h4 : SR hr kf kc li cr rg (up (up K 57 1 0) 57 66 0) v := h1
    exact SR_to (hH.sr h4 h2 h3) rfl rfl rfl rfl rfl (shp_of rfl rfl)
  obtain ⟨a1, a2, a3, a4, a5, a6, a7, a8⟩ := hH
  refine ⟨fun q h1 h2 h3 h4 => ?_, fun j h1 h2 h3 => ?_, fun j => ?_, ?_, ?_, fun h i hi => ?_, sr hM.2.2.2.1 (by decide) hk4, ?_⟩
  · rw [row_cell h3, up_cell h1, a1 q h1 h2 h4, up_cell h1, up_cell h1]
  · rw [row_cell (by decide), up_n (by omega), a2 j h3, up_n (by omega), up_n (by omega)]
  · rw [row_cell (by decide), up_cell (by decide)]; exact a8 j
  · rw [row_cell (by decide), up_n (by omega), a2 1 (by omega), up_n (by omega)]; exact up_s
  · rw [row_cell (by decide)]; exact up_s.trans hx
  · rw [row_same]; exact hg h i hi
  · refine RUn_to hU rfl rfl ?_ ?_ (fun _ _ h1 h3 => sr h1 (by omega) h3)
    · rw [row_cell (by decide), up_n (by omega), a2 53 (by omega), up_n (by omega), up_n (by omega)]
    · rw [row_cell (by decide), up_n (by omega), a2 52 (by omega), up_n (by omega), up_n (by omega)]
theorem spm_liesIn' {I : HI} {Q : Option AV → HI → Prop} {v s : Nat} {a x : Int} (ha : a = (s : Int)) (hv : v < 22) (hs : s < 6) (hx : I 86 (6 * v + s) = x) (kq : Q (some (aI x)) I) : Rj MX12_liesIn 0 [aR 57, aI (v : Int), aI a] I Q := by
  subst ha
  exact spm_liesIn hv hs (by rw [hx]; exact kq)
theorem oV_full {P : Nat → Prop} {m q : Nat} (hm : 0 < m) (hm6 : m ≤ 6) (hv : oV P m m q) : oT m m q = 2 ^ m - 1 := by
  have h64 := (pw hm6).2.1
  have hlt := oT_lt hm m q
  exact pcn_full2_ ⟨m, by omega⟩ ⟨oT m m q, by omega⟩ hlt (oV_pc hm hm6 m q hv)
set_option maxRecDepth 16000 in
set_option maxHeartbeats 2000000 in
theorem spq_order {J K : HI} {Q : Option AV → HI → Prop} {C : Nat → List Int} {b : Nat} {a : Int} {L : Nat → Int} (hM : MN J K C b) (hT : RTp J K) (h1 : K 57 1 = J 1 1) (hU : RUn J K) (hk4 : 0 ≤ J 30 4 ∧ J 30 4 ≤ 60) (hc2 : ∀ k, 0 ≤ trO J k ∧ trO J k ≤ 20) (hE : ∀ s t m : Nat, a = (s : Int) → (s : Int) < J 4 1 → J 31 s = (t : Int) → (t : Int) < J 4 2 → acP J (s : Int) → J 1 1 = 2 * (m : Int) → ∀ u, u < 2 ^ m → ldE (stP (row J 45 (trO J)) C (J 30 5) s t m) m L u) (k1 : ∀ s t m : Nat, a = (s : Int) → (s : Int) < J 4 1 → J 31 s = (t : Int) → (t : Int) < J 4 2 → acP J (s : Int) → J 1 1 = 2 * (m : Int) → ∀ K', oRes J K K' m L → Q (some (aI (if L 0 = 0 then 0 else 1))) K') (k0 : ¬ (kO J 4 1 a ∧ J 31 a.toNat ≠ -1 ∧ acP J a) → Q (some (aI (-1))) (mrf (up K 57 1 0) 5)) : Rj MX12_order 8 [aR 57, aI a] K Q := by
  have hR := hM.1
  have hp := hR.2.2.2.2.2.2.2.2.2
  have h41 := hp.1 1 (by decide)
  have hk8 : K 88 0 = J 30 4 := hM.2.2.2.1.2.2.2.1
  have hJ1 := hT.1
  have hR1 : RP J (up K 57 1 0) C b := hR.to (up_n (by omega)) (fun q hq => up_cell (by unfold mcell at hq; omega))
  have bad : ∀ (z3 z4 : Int), z3 = 0 → ¬ (kO J 4 1 a ∧ J 31 a.toNat ≠ -1 ∧ acP J a) → Bj MX12_order 8 63 [some (aR 57), some (aI a), some (aI (J 1 1)), some (aI z3), some (aI z4), none, none, none] [] (up K 57 1 0) Q := by
    intro z3 z4 hz hn
    refine b_iload rfl rfl ?_
    refine b_iload_n rfl rfl ?_
    refine b_icmp_ge (tgt := 116) rfl rfl (fun c66 => ?_) (fun c66 => ?_)
    · refine b_iload_n rfl rfl ?_
      refine b_if_ne (tgt := 126) rfl rfl (fun c117 => ?_) (fun c117 => ?_)
      · omega
      · refine b_aload_n rfl rfl ?_
        refine b_iconst rfl (by decide) ?_
        refine b_callV1i (ν := MX12_refuses) rfl ml12_228 cvX12_refuses (d' := 0) (by omega) rfl (by decide) rfl (Nat.le_of_ble_eq_true rfl) ?_
        refine spm_refuses (k := 5) (by decide) ?_
        refine ⟨_, rfl, ?_⟩
        refine b_iret rfl rfl ?_
        exact k0 hn
    · refine b_iload_n rfl rfl ?_
      refine b_if_eq (tgt := 116) rfl rfl (fun c70 => ?_) (fun c70 => ?_)
      · refine b_iload_n rfl rfl ?_
        refine b_if_ne (tgt := 126) rfl rfl (fun c117 => ?_) (fun c117 => ?_)
        · omega
        · refine b_aload_n rfl rfl ?_
          refine b_iconst rfl (by decide) ?_
          refine b_callV1i (ν := MX12_refuses) rfl ml12_228 cvX12_refuses (d' := 0) (by omega) rfl (by decide) rfl (Nat.le_of_ble_eq_true rfl) ?_
          refine spm_refuses (k := 5) (by decide) ?_
          refine ⟨_, rfl, ?_⟩
          refine b_iret rfl rfl ?_
          exact k0 hn
      · omega
  have main : ∀ (s t m : Nat) (z3 z4 : Int), a = (s : Int) → (s : Int) < J 4 1 → J 31 s = (t : Int) → (t : Int) < J 4 2 → acP J (s : Int) → J 1 1 = 2 * (m : Int) → Bj MX12_order 8 126 [some (aR 57), some (aI (s : Int)), some (aI (J 1 1)), some (aI z3), some (aI z4), none, none, none] [] (up K 57 1 0) Q := by
    intro s t m z3 z4 ha hs hl ht hc hm
    have kk := k1 s t m ha hs hl ht hc hm
    have hm6 : m ≤ 6 := by have := hc.2.1; omega
    have hm0 : 0 < m := by have := hc.1; omega
    have hL := hE s t m ha hs hl ht hc hm
    obtain ⟨o1, o2⟩ := order_first hm0 hm6 hL
    have hmm := pow_b hm6 (Nat.le_refl m)
    have hM2 : MN J (up (up K 57 1 0) 57 66 0) C b := ⟨hR1.to (up_n (by omega)) (fun q hq => up_cell (by unfold mcell at hq; omega)), fun j => by rw [up_cell (by decide), up_cell (by decide)]; exact hM.2.1 j, hM.2.2.1, hM.2.2.2.1, hM.2.2.2.2⟩
    have hT2 : ∀ H, OX (up (up K 57 1 0) 57 66 0) H → RTp J H := fun H hH => ⟨hT.1, hT.2.1, fun k hk => by
      rw [hH.1 58 (by decide) (by decide) (by decide)]
      exact hT.2.2 k hk⟩
    have h66 : ∀ H, OX (up (up K 57 1 0) 57 66 0) H → H 57 66 = 0 := fun H hH => by rw [hH.2.1 66 (by omega)]; exact up_s
    have e88 : ∀ H, OX (up (up K 57 1 0) 57 66 0) H → H 88 0 = J 30 4 := fun H hH => by rw [hH.2.2.2.2.2.1 0 (by decide)]; exact hk8
    have none_ : (∀ p, p < m ^ m → ¬ oV (stP (row J 45 (trO J)) C (J 30 5) s t m) m m p) → L 0 = 0 := fun h => Classical.byContradiction (fun z => h _ (o2 z).2.1 (o2 z).1)
    have end0 : ∀ (x4 x5 x6 x7 : Option AV) (H : HI), OX (up (up K 57 1 0) 57 66 0) H → L 0 = 0 → Bj MX12_order 8 245 [some (aR 57), some (aI (s : Int)), some (aI (J 1 1)), some (aI z3), x4, x5, x6, x7] [] H Q := by
      intro x4 x5 x6 x7 H hH h0
      have e66 := h66 H hH
      have res : oRes J K H m L := by
        have := oRes_of (m := m) (L := L) (g := H 96) (x := 0) hM hU hk4.2 hH (by rw [if_pos h0]) (fun z => absurd h0 z)
        have e : row (up H 57 66 0) 96 (H 96) = H := by
          funext q j
          unfold row up
          by_cases e : q = 96
          · rw [if_pos e, e]
          · rw [if_neg e]
            by_cases e2 : q = 57 ∧ j = 66
            · rw [if_pos e2, e2.1, e2.2, e66]
            · rw [if_neg e2]
        rw [e] at this
        exact this
      have kr := kk H res
      rw [if_pos h0] at kr
      refine b_aload_n rfl rfl ?_
      refine b_getI rfl fl12_213 rfl (by decide) rfl ?_
      refine b_if_ne (tgt := 256) rfl rfl (fun c249 => ?_) (fun c249 => ?_)
      · omega
      · refine b_iconst rfl (by decide) ?_
        refine b_goto (tgt := 257) rfl rfl ?_
        refine b_iret rfl rfl ?_
        exact kr
    have end1 : ∀ (x4 x5 x6 x7 : Option AV) (H : HI) (g : Nat → Int), OX (up (up K 57 1 0) 57 66 0) H → L 0 ≠ 0 → (∀ i, i < m → g i = fP (glP L (gS L m i)) m 0) → Bj MX12_order 8 245 [some (aR 57), some (aI (s : Int)), some (aI (J 1 1)), some (aI z3), x4, x5, x6, x7] [] (row (up H 57 66 (m : Int)) 96 g) Q := by
      intro x4 x5 x6 x7 H g hH h0 hg
      have kr := kk _ (oRes_of (m := m) (L := L) (g := g) (x := (m : Int)) hM hU hk4.2 hH (by rw [if_neg h0]) (fun _ => hg))
      rw [if_neg h0] at kr
      have e66 : (row (up H 57 66 (m : Int)) 96 g) 57 66 = (m : Int) := by rw [row_cell (by decide)]; exact up_s
      refine b_aload_n rfl rfl ?_
      refine b_getI rfl fl12_213 rfl (by decide) rfl ?_
      refine b_if_ne (tgt := 256) rfl rfl (fun c249 => ?_) (fun c249 => ?_)
      · refine b_iconst rfl (by decide) ?_
        refine b_iret rfl rfl ?_
        exact kr
      · omega
    have lpw : ∀ (n q : Nat) (z : Int) (x7 : Option AV) (H : HI), z = (q : Int) → q + n = m ^ m → OX (up (up K 57 1 0) 57 66 0) H → (∀ p, p < q → ¬ oV (stP (row J 45 (trO J)) C (J 30 5) s t m) m m p) → Bj MX12_order 8 165 [some (aR 57), some (aI (s : Int)), some (aI (J 1 1)), some (aI z3), some (aI (m : Int)), some (aI ((m ^ m : Nat) : Int)), some (aI z), x7] [] H Q := by
      intro n
      induction n with
      | zero =>
        intro q z x7 H hz hq hH hno
        rw [show q = m ^ m by omega] at hno
        refine b_iload rfl rfl ?_
        refine b_iload rfl rfl ?_
        refine b_icmp_ge (tgt := 245) rfl rfl (fun c169 => ?_) (fun c169 => ?_)
        · exact end0 _ _ _ _ _ hH (none_ hno)
        · omega
      | succ n ih =>
        intro q z x7 H hz hq hH hno
        subst hz
        have e66 := h66 H hH
        have hMH := hM2.ox hH hk4.2
        have next : ¬ oV (stP (row J 45 (trO J)) C (J 30 5) s t m) m m q → ∀ (z : Int) (x7 : Option AV) (H : HI), z = (q : Int) + 1 → OX (up (up K 57 1 0) 57 66 0) H → Bj MX12_order 8 165 [some (aR 57), some (aI (s : Int)), some (aI (J 1 1)), some (aI z3), some (aI (m : Int)), some (aI ((m ^ m : Nat) : Int)), some (aI z), x7] [] H Q := fun hn z x7 H hz hH => ih (q + 1) z x7 H (by omega) (by omega) hH (fun p hp => by
          by_cases e : p = q
          · rw [e]; exact hn
          · exact hno p (by omega))
        have found : oV (stP (row J 45 (trO J)) C (J 30 5) s t m) m m q → ∀ (n i : Nat) (z : Int) (H : HI) (g : Nat → Int), z = (i : Int) → i + n = m → OX (up (up K 57 1 0) 57 66 0) H → (∀ j, j < m → H 97 j = (dg m q j : Int)) → (∀ j, j < i → g j = (dg m q j : Int)) → Bj MX12_order 8 212 [some (aR 57), some (aI (s : Int)), some (aI (J 1 1)), some (aI z3), some (aI (m : Int)), some (aI ((m ^ m : Nat) : Int)), some (aI (q : Int)), some (aI z)] [] (row (up H 57 66 (m : Int)) 96 g) Q := by
          intro hv
          have h0 : L 0 ≠ 0 := fun z => o1 z q hv
          obtain ⟨v1, v2, v3⟩ := o2 h0
          have eq : q = gQ L m m := by
            have a1 : ¬ q < gQ L m m := fun z => v3 q z hv
            have a2 : ¬ gQ L m m < q := fun z => hno _ z v1
            omega
          have ed : ∀ j, j < m → (dg m q j : Int) = fP (glP L (gS L m j)) m 0 := fun j hj => by
            rw [← gQ_dig hm0 hm6 hL h0 m (Nat.le_refl _) j hj, ← eq, dg_pD m q j hj]
            rfl
          intro n
          induction n with
          | zero =>
            intro i z H g hz hi hH h97 hg
            have e66b : (row (up H 57 66 (m : Int)) 96 g) 57 66 = (m : Int) := by rw [row_cell (by decide)]; exact up_s
            have fin : ∀ (x4 x5 x6 x7 : Option AV), Bj MX12_order 8 245 [some (aR 57), some (aI (s : Int)), some (aI (J 1 1)), some (aI z3), x4, x5, x6, x7] [] (row (up H 57 66 (m : Int)) 96 g) Q := fun x4 x5 x6 x7 => end1 x4 x5 x6 x7 H g hH h0 (fun j hj => by rw [hg j (by omega), ed j hj])
            refine b_iload rfl rfl ?_
            refine b_iload rfl rfl ?_
            refine b_icmp_ge (tgt := 239) rfl rfl (fun c216 => ?_) (fun c216 => ?_)
            · refine b_iincX (F := fun z239 => [some (aR 57), some (aI (s : Int)), some (aI (J 1 1)), some (aI z3), some (aI (m : Int)), some (aI ((m ^ m : Nat) : Int)), some (aI z239), some (aI z)]) rfl rfl (by omega) (by omega) (fun _ => rfl) (fun z239 ez239 => ?_)
              refine b_goto (tgt := 165) rfl rfl ?_
              refine b_iload rfl rfl ?_
              refine b_iload rfl rfl ?_
              refine b_icmp_ge (tgt := 245) rfl rfl (fun c169 => ?_) (fun c169 => ?_)
              · exact fin _ _ _ _
              · refine b_aload_n rfl rfl ?_
                refine b_getI rfl fl12_213 rfl (by decide) rfl ?_
                refine b_if_ne (tgt := 245) rfl rfl (fun c176 => ?_) (fun c176 => ?_)
                · exact fin _ _ _ _
                · omega
            · omega
          | succ n ihn =>
            intro i z H g hz hi hH h97 hg
            subst hz
            have e97 : (row (up H 57 66 (m : Int)) 96 g) 97 i = (dg m q i : Int) := by rw [row_cell (by decide), up_cell (by decide)]; exact h97 i (by omega)
            refine b_iload rfl rfl ?_
            refine b_iload rfl rfl ?_
            refine b_icmp_ge (tgt := 239) rfl rfl (fun c216 => ?_) (fun c216 => ?_)
            · omega
            · refine b_aload_n rfl rfl ?_
              refine b_getR (r := 96) rfl fl12_216 rfl (by decide) rfl rfl ?_
              refine b_iload rfl rfl ?_
              refine b_aload_n rfl rfl ?_
              refine b_getR (r := 97) rfl fl12_219 rfl (by decide) rfl rfl ?_
              refine b_iload rfl rfl ?_
              refine b_iald rfl rfl (by omega) (by omega) ?_
              try simp only [tn6, tn4, tn2, tn144, tn24, tn_cast, Int.reduceToNat]
              rw [e97]
              refine b_iast rfl rfl (by omega) (by omega) ?_
              try simp only [tn6, tn4, tn2, tn144, tn24, tn_cast, Int.reduceToNat]
              rw [row_ud]
              refine b_iincX (F := fun z233 => [some (aR 57), some (aI (s : Int)), some (aI (J 1 1)), some (aI z3), some (aI (m : Int)), some (aI ((m ^ m : Nat) : Int)), some (aI (q : Int)), some (aI z233)]) rfl rfl (by omega) (by omega) (fun _ => rfl) (fun z233 ez233 => ?_)
              refine b_goto (tgt := 212) rfl rfl ?_
              refine ihn (i + 1) _ H _ (by omega) (by omega) hH h97 (fun j hj => ?_)
              unfold ud
              by_cases e : j = i
              · rw [if_pos e, e]
              · rw [if_neg e]; exact hg j (by omega)
        refine b_iload rfl rfl ?_
        refine b_iload rfl rfl ?_
        refine b_icmp_ge (tgt := 245) rfl rfl (fun c169 => ?_) (fun c169 => ?_)
        · omega
        · refine b_aload_n rfl rfl ?_
          refine b_getI rfl fl12_213 rfl (by decide) rfl ?_
          refine b_if_ne (tgt := 245) rfl rfl (fun c176 => ?_) (fun c176 => ?_)
          · omega
          · refine b_aload_n rfl rfl ?_
            refine b_iload rfl rfl ?_
            refine b_iload rfl rfl ?_
            refine b_callV2i (ν := MX12_isOrder) rfl ml12_522 cvX12_isOrder (d' := 0) (by omega) rfl (by decide) rfl (Nat.le_of_ble_eq_true rfl) ?_
            refine spm_isOrder hm0 hm6 (by omega) (fun hf g hg => ?_) (fun hf g => ?_)
            · refine ⟨_, rfl, ?_⟩
              refine b_if_eq (tgt := 239) rfl rfl (fun z => absurd z (by decide)) (fun _ => ?_)
              refine b_aload_n rfl rfl ?_
              refine b_iload_n rfl rfl ?_
              refine b_iload rfl rfl ?_
              refine b_callV2i (ν := MX12_isSafeSo) rfl ml12_525 cvX12_isSafeSo (d' := 7) (by omega) rfl (by decide) rfl (Nat.le_of_ble_eq_true rfl) ?_
              refine spm_isSafeSo (hMH.ox (OX.rf hMH.2.1).r97 hk4.2) (hT2 _ hH.r97) hk4 hs hl ht hc hm hf (fun j hj => by rw [row_same]; exact hg j hj) hc2 (fun hv X' hX' => ?_) (fun hnv X' hX' => ?_)
              · refine ⟨_, rfl, ?_⟩
                refine b_if_ne (tgt := 203) rfl rfl (fun _ => ?_) (fun z => absurd z (by decide))
                refine b_aload_n rfl rfl ?_
                refine b_iload rfl rfl ?_
                refine b_putI rfl fl12_213 rfl (by decide) rfl ?_
                refine b_iconst rfl (by decide) ?_
                refine b_istoreX (F := fun z210 => [some (aR 57), some (aI (s : Int)), some (aI (J 1 1)), some (aI z3), some (aI (m : Int)), some (aI ((m ^ m : Nat) : Int)), some (aI (q : Int)), some (aI z210)]) rfl (by decide) (fun _ => rfl) (fun z210 ez210 => ?_)
                have hX2 := hH.r97.tr (OX.lf (by rw [e88 _ hH.r97]; exact hk4.2) hX')
                refine b_cg ?_ (found hv m 0 _ X' (up X' 57 66 (m : Int) 96) (by omega) (by omega) hX2 (fun j hj => ?_) (fun j hj => absurd hj (by omega)))
                · first
                    | exact row_self
                    | exact row_self.symm
                · rw [hX'.1 97 (by decide) (by decide) (by decide) (by decide)]
                  exact hg j hj
              · refine ⟨_, rfl, ?_⟩
                refine b_if_ne (tgt := 203) rfl rfl (fun z => absurd z (by decide)) (fun _ => ?_)
                refine b_goto (tgt := 239) rfl rfl ?_
                refine b_iincX (F := fun z239 => [some (aR 57), some (aI (s : Int)), some (aI (J 1 1)), some (aI z3), some (aI (m : Int)), some (aI ((m ^ m : Nat) : Int)), some (aI z239), x7]) rfl rfl (by omega) (by omega) (fun _ => rfl) (fun z239 ez239 => ?_)
                refine b_goto (tgt := 165) rfl rfl ?_
                first
                | exact next hnv _ _ _ (by omega) (hH.r97.tr (OX.lf (by rw [e88 _ hH.r97]; exact hk4.2) hX'))
                | exact next (fun w => hf (oV_full hm0 hm6 w)) _ _ _ (by omega) hH.r97
            · refine ⟨_, rfl, ?_⟩
              refine b_if_eq (tgt := 239) rfl rfl (fun _ => ?_) (fun z => absurd z (by decide))
              refine b_iincX (F := fun z239 => [some (aR 57), some (aI (s : Int)), some (aI (J 1 1)), some (aI z3), some (aI (m : Int)), some (aI ((m ^ m : Nat) : Int)), some (aI z239), x7]) rfl rfl (by omega) (by omega) (fun _ => rfl) (fun z239 ez239 => ?_)
              refine b_goto (tgt := 165) rfl rfl ?_
              first
              | exact next hnv _ _ _ (by omega) (hH.r97.tr (OX.lf (by rw [e88 _ hH.r97]; exact hk4.2) hX'))
              | exact next (fun w => hf (oV_full hm0 hm6 w)) _ _ _ (by omega) hH.r97
    have lpp : ∀ (n i : Nat) (z4 z5 z6 : Int), z4 = (m : Int) → z5 = ((m ^ i : Nat) : Int) → z6 = (i : Int) → i + n = m → Bj MX12_order 8 137 [some (aR 57), some (aI (s : Int)), some (aI (J 1 1)), some (aI z3), some (aI z4), some (aI z5), some (aI z6), none] [] (up K 57 1 0) Q := by
      intro n
      induction n with
      | zero =>
        intro i z4 z5 z6 h4 h5 h6 hi
        have ei : i = m := by omega
        subst h4
        subst ei
        subst h5
        refine b_iload rfl rfl ?_
        refine b_iload rfl rfl ?_
        refine b_icmp_ge (tgt := 157) rfl rfl (fun c141 => ?_) (fun c141 => ?_)
        · refine b_aload_n rfl rfl ?_
          refine b_iconst rfl (by decide) ?_
          refine b_putI rfl fl12_213 rfl (by decide) rfl ?_
          refine b_iconst rfl (by decide) ?_
          refine b_istoreX (F := fun z163 => [some (aR 57), some (aI (s : Int)), some (aI (J 1 1)), some (aI z3), some (aI (i : Int)), some (aI ((i ^ i : Nat) : Int)), some (aI z163), none]) rfl (by decide) (fun _ => rfl) (fun z163 ez163 => ?_)
          exact lpw _ 0 _ _ _ (by omega) (Nat.zero_add _) (OX.rf hM2.2.1) (fun p hp => absurd hp (by omega))
        · omega
      | succ n ih =>
        intro i z4 z5 z6 h4 h5 h6 hi
        subst h4
        subst h5
        subst h6
        have hpm : ((m ^ i : Nat) : Int) * (m : Int) = ((m ^ (i + 1) : Nat) : Int) := by rw [Nat.pow_succ, Int.natCast_mul]
        have hpb := pow_b hm6 (show i + 1 ≤ m by omega)
        refine b_iload rfl rfl ?_
        refine b_iload rfl rfl ?_
        refine b_icmp_ge (tgt := 157) rfl rfl (fun c141 => ?_) (fun c141 => ?_)
        · omega
        · refine b_iload rfl rfl ?_
          refine b_iload rfl rfl ?_
          refine b_imulN rfl (by rw [hpm]; omega) (by rw [hpm]; omega) ?_
          refine b_istoreX (F := fun z149 => [some (aR 57), some (aI (s : Int)), some (aI (J 1 1)), some (aI z3), some (aI (m : Int)), some (aI z149), some (aI (i : Int)), none]) rfl (by decide) (fun _ => rfl) (fun z149 ez149 => ?_)
          refine b_iincX (F := fun z151 => [some (aR 57), some (aI (s : Int)), some (aI (J 1 1)), some (aI z3), some (aI (m : Int)), some (aI z149), some (aI z151), none]) rfl rfl (by omega) (by omega) (fun _ => rfl) (fun z151 ez151 => ?_)
          refine b_goto (tgt := 137) rfl rfl ?_
          exact ih (i + 1) _ _ _ rfl (by rw [ez149, hpm]) (by omega) (by omega)
    refine b_iload_n rfl rfl ?_
    refine b_iconst rfl (by decide) ?_
    refine b_idivP rfl (by omega) (by omega) ?_
    refine b_istoreX (F := fun z129 => [some (aR 57), some (aI (s : Int)), some (aI (J 1 1)), some (aI z3), some (aI z129), none, none, none]) rfl (by decide) (fun _ => rfl) (fun z129 ez129 => ?_)
    refine b_iconst rfl (by decide) ?_
    refine b_istoreX (F := fun z132 => [some (aR 57), some (aI (s : Int)), some (aI (J 1 1)), some (aI z3), some (aI z129), some (aI z132), none, none]) rfl (by decide) (fun _ => rfl) (fun z132 ez132 => ?_)
    refine b_iconst rfl (by decide) ?_
    refine b_istoreX (F := fun z135 => [some (aR 57), some (aI (s : Int)), some (aI (J 1 1)), some (aI z3), some (aI z129), some (aI z132), some (aI z135), none]) rfl (by decide) (fun _ => rfl) (fun z135 ez135 => ?_)
    exact lpp m 0 _ _ _ (by omega) (by rw [Nat.pow_zero]; omega) (by omega) (by omega)
  have chk : ∀ (s t m : Nat), a = (s : Int) → (s : Int) < J 4 1 → J 31 s = (t : Int) → (t : Int) < J 4 2 → 2 ≤ J 1 1 → J 1 1 ≤ 12 → J 1 1 = 2 * (m : Int) → ∀ (n i : Nat) (z3 z4 : Int), z3 = 1 → z4 = 2 * (i : Int) → i + n = m → (∀ k : Nat, k < i → kc_3 J (s : Int) (tAt J (2 * (k : Int))) (tAt J (2 * (k : Int) + 1))) → Bj MX12_order 8 63 [some (aR 57), some (aI (s : Int)), some (aI (J 1 1)), some (aI z3), some (aI z4), none, none, none] [] (up K 57 1 0) Q := by
    intro s t m ha hs hl ht hj2 hj12 hm n
    have hko : kO J 4 1 (s : Int) := ⟨by omega, by omega, by omega, hs⟩
    induction n with
    | zero =>
      intro i z3 z4 h3 h4 hi hk
      have hac : acP J (s : Int) := ⟨hj2, hj12, by omega, fun k hkk => hk k (by omega)⟩
      refine b_iload rfl rfl ?_
      refine b_iload_n rfl rfl ?_
      refine b_icmp_ge (tgt := 116) rfl rfl (fun c66 => ?_) (fun c66 => ?_)
      · refine b_iload_n rfl rfl ?_
        refine b_if_ne (tgt := 126) rfl rfl (fun c117 => ?_) (fun c117 => ?_)
        · exact main s t m _ _ ha hs hl ht hac hm
        · omega
      · omega
    | succ n ih =>
      intro i z3 z4 h3 h4 hi hk
      subst h4
      have q1 := hT.2.2 (2 * i) (by omega)
      have q2 := hT.2.2 (2 * i + 1) (by omega)
      rw [show ((2 * i : Nat) : Int) = 2 * (i : Int) by omega] at q1
      rw [show ((2 * i + 1 : Nat) : Int) = 2 * (i : Int) + 1 by omega] at q2
      subst ha
      refine b_iload rfl rfl ?_
      refine b_iload_n rfl rfl ?_
      refine b_icmp_ge (tgt := 116) rfl rfl (fun c66 => ?_) (fun c66 => ?_)
      · omega
      · refine b_iload_n rfl rfl ?_
        refine b_if_eq (tgt := 116) rfl rfl (fun c70 => ?_) (fun c70 => ?_)
        · omega
        · refine b_aload_n rfl rfl ?_
          refine b_iload_n rfl rfl ?_
          refine b_aload_n rfl rfl ?_
          refine b_getR (r := 58) rfl fl12_7 rfl (by decide) rfl rfl ?_
          refine b_iload rfl rfl ?_
          refine b_iald rfl rfl (by omega) (by omega) ?_
          try simp only [tn6, tn4, tn2, tn144, tn24, tn_cast, Int.reduceToNat]
          rw [show (2 * (i : Int)).toNat = 2 * i by omega, show up K 57 1 0 58 (2 * i) = K 58 (2 * i) from up_row (by decide) _, q1]
          refine b_callV2i (ν := MX12_isHold) rfl ml12_497 cvX12_isHold (d' := 1) (by omega) rfl (by decide) rfl (Nat.le_of_ble_eq_true rfl) ?_
          refine spm_isHold hR1 (fun hh => ?_) (fun hh => ?_)
          · refine ⟨_, rfl, ?_⟩
            refine b_if_eq (tgt := 108) rfl rfl (fun z => absurd z (by decide)) (fun _ => ?_)
            refine b_aload_n rfl rfl ?_
            refine b_aload_n rfl rfl ?_
            refine b_getR (r := 58) rfl fl12_7 rfl (by decide) rfl rfl ?_
            refine b_iload rfl rfl ?_
            refine b_iconst rfl (by decide) ?_
            refine b_iaddN rfl (by omega) (by omega) ?_
            refine b_iald rfl rfl (by omega) (by omega) ?_
            try simp only [tn6, tn4, tn2, tn144, tn24, tn_cast, Int.reduceToNat]
            rw [show (2 * (i : Int) + 1).toNat = 2 * i + 1 by omega, show up K 57 1 0 58 (2 * i + 1) = K 58 (2 * i + 1) from up_row (by decide) _, q2]
            refine b_callV1i (ν := MX12_isWare) rfl ml12_490 cvX12_isWare (d' := 0) (by omega) rfl (by decide) rfl (Nat.le_of_ble_eq_true rfl) ?_
            refine spm_isWare hR1 (fun hw => ?_) (fun hw => ?_)
            · refine ⟨_, rfl, ?_⟩
              refine b_if_eq (tgt := 108) rfl rfl (fun z => absurd z (by decide)) (fun _ => ?_)
              refine b_iconst rfl (by decide) ?_
              refine b_goto (tgt := 109) rfl rfl ?_
              refine b_istoreX_n (F := fun z109 => [some (aR 57), some (aI (s : Int)), some (aI (J 1 1)), some (aI z109), some (aI (2 * (i : Int))), none, none, none]) rfl (by decide) (fun _ => rfl) (fun z109 ez109 => ?_)
              refine b_iincX (F := fun z110 => [some (aR 57), some (aI (s : Int)), some (aI (J 1 1)), some (aI z109), some (aI z110), none, none, none]) rfl rfl (by omega) (by omega) (fun _ => rfl) (fun z110 ez110 => ?_)
              refine b_goto (tgt := 63) rfl rfl ?_
              first
              | (refine ih (i + 1) _ _ (by omega) (by omega) (by omega) (fun k hk2 => ?_)
                 by_cases e : k = i
                 · rw [e]; exact ⟨hh.1, hh.2.1, hh.2.2, hw⟩
                 · exact hk k (by omega))
              | (refine bad _ _ (by omega) (fun w => hw (w.2.2.2.2.2 i (by omega)).2.2.2))
              | (refine bad _ _ (by omega) (fun w => hh ?_)
                 obtain ⟨y1, y2, y3, y4⟩ := w.2.2.2.2.2 i (by omega)
                 exact ⟨y1, y2, y3⟩)
            · refine ⟨_, rfl, ?_⟩
              refine b_if_eq (tgt := 108) rfl rfl (fun _ => ?_) (fun z => absurd z (by decide))
              refine b_iconst rfl (by decide) ?_
              refine b_istoreX_n (F := fun z109 => [some (aR 57), some (aI (s : Int)), some (aI (J 1 1)), some (aI z109), some (aI (2 * (i : Int))), none, none, none]) rfl (by decide) (fun _ => rfl) (fun z109 ez109 => ?_)
              refine b_iincX (F := fun z110 => [some (aR 57), some (aI (s : Int)), some (aI (J 1 1)), some (aI z109), some (aI z110), none, none, none]) rfl rfl (by omega) (by omega) (fun _ => rfl) (fun z110 ez110 => ?_)
              refine b_goto (tgt := 63) rfl rfl ?_
              first
              | (refine ih (i + 1) _ _ (by omega) (by omega) (by omega) (fun k hk2 => ?_)
                 by_cases e : k = i
                 · rw [e]; exact ⟨hh.1, hh.2.1, hh.2.2, hw⟩
                 · exact hk k (by omega))
              | (refine bad _ _ (by omega) (fun w => hw (w.2.2.2.2.2 i (by omega)).2.2.2))
              | (refine bad _ _ (by omega) (fun w => hh ?_)
                 obtain ⟨y1, y2, y3, y4⟩ := w.2.2.2.2.2 i (by omega)
                 exact ⟨y1, y2, y3⟩)
          · refine ⟨_, rfl, ?_⟩
            refine b_if_eq (tgt := 108) rfl rfl (fun _ => ?_) (fun z => absurd z (by decide))
            refine b_iconst rfl (by decide) ?_
            refine b_istoreX_n (F := fun z109 => [some (aR 57), some (aI (s : Int)), some (aI (J 1 1)), some (aI z109), some (aI (2 * (i : Int))), none, none, none]) rfl (by decide) (fun _ => rfl) (fun z109 ez109 => ?_)
            refine b_iincX (F := fun z110 => [some (aR 57), some (aI (s : Int)), some (aI (J 1 1)), some (aI z109), some (aI z110), none, none, none]) rfl rfl (by omega) (by omega) (fun _ => rfl) (fun z110 ez110 => ?_)
            refine b_goto (tgt := 63) rfl rfl ?_
            first
            | (refine ih (i + 1) _ _ (by omega) (by omega) (by omega) (fun k hk2 => ?_)
               by_cases e : k = i
               · rw [e]; exact ⟨hh.1, hh.2.1, hh.2.2, hw⟩
               · exact hk k (by omega))
            | (refine bad _ _ (by omega) (fun w => hw (w.2.2.2.2.2 i (by omega)).2.2.2))
            | (refine bad _ _ (by omega) (fun w => hh ?_)
               obtain ⟨y1, y2, y3, y4⟩ := w.2.2.2.2.2 i (by omega)
               exact ⟨y1, y2, y3⟩)
  have bad40 : ∀ (z3 : Int), z3 = 0 → ¬ (kO J 4 1 a ∧ J 31 a.toNat ≠ -1 ∧ acP J a) → Bj MX12_order 8 40 [some (aR 57), some (aI a), some (aI (J 1 1)), some (aI z3), none, none, none, none] [] (up K 57 1 0) Q := by
    intro z3 hz hn
    refine b_iload_n rfl rfl ?_
    refine b_if_eq (tgt := 58) rfl rfl (fun c41 => ?_) (fun c41 => ?_)
    · refine b_iconst rfl (by decide) ?_
      refine b_istoreX_n (F := fun z59 => [some (aR 57), some (aI a), some (aI (J 1 1)), some (aI z59), none, none, none, none]) rfl (by decide) (fun _ => rfl) (fun z59 ez59 => ?_)
      refine b_iconst rfl (by decide) ?_
      refine b_istoreX (F := fun z61 => [some (aR 57), some (aI a), some (aI (J 1 1)), some (aI z59), some (aI z61), none, none, none]) rfl (by decide) (fun _ => rfl) (fun z61 ez61 => ?_)
      exact bad _ _ (by omega) hn
    · omega
  have good40 : ∀ (s m : Nat) (z3 : Int), z3 = 1 → a = (s : Int) → (s : Int) < J 4 1 → 2 ≤ J 1 1 → J 1 1 ≤ 12 → J 1 1 = 2 * (m : Int) → Bj MX12_order 8 40 [some (aR 57), some (aI (s : Int)), some (aI (J 1 1)), some (aI z3), none, none, none, none] [] (up K 57 1 0) Q := by
    intro s m z3 hz ha hs hj2 hj12 hm
    have h3 := hM.2.2.1.2.2.2.2 s hs
    refine b_iload_n rfl rfl ?_
    refine b_if_eq (tgt := 58) rfl rfl (fun c41 => ?_) (fun c41 => ?_)
    · omega
    · refine b_aload_n rfl rfl ?_
      refine b_iconst rfl (by decide) ?_
      refine b_iload_n rfl rfl ?_
      refine b_callV2i (ν := MX12_liesIn) rfl ml12_482 cvX12_liesIn (d' := 0) (by omega) rfl (by decide) rfl (Nat.le_of_ble_eq_true rfl) ?_
      refine spm_liesIn' (v := 0) (s := s) (x := J 31 s) rfl (by decide) (by omega) (hM.2.2.2.1.2.1 s (by omega) (shp_s hM (by omega))) ?_
      refine ⟨_, rfl, ?_⟩
      refine b_iconst rfl (by decide) ?_
      refine b_icmp_eq (tgt := 58) rfl rfl (fun c51 => ?_) (fun c51 => ?_)
      · refine b_iconst rfl (by decide) ?_
        refine b_istoreX_n (F := fun z59 => [some (aR 57), some (aI (s : Int)), some (aI (J 1 1)), some (aI z59), none, none, none, none]) rfl (by decide) (fun _ => rfl) (fun z59 ez59 => ?_)
        refine b_iconst rfl (by decide) ?_
        refine b_istoreX (F := fun z61 => [some (aR 57), some (aI (s : Int)), some (aI (J 1 1)), some (aI z59), some (aI z61), none, none, none]) rfl (by decide) (fun _ => rfl) (fun z61 ez61 => ?_)
        first
        | exact chk s (J 31 s).toNat m ha hs (by omega) (by omega) hj2 hj12 hm m 0 _ _ (by omega) (by omega) (by omega) (fun k hk => absurd hk (by omega))
        | (subst ha
           refine bad _ _ (by omega) (fun w => w.2.1 ?_)
           rw [Int.toNat_natCast]
           omega)
      · refine b_iconst rfl (by decide) ?_
        refine b_goto (tgt := 59) rfl rfl ?_
        refine b_istoreX_n (F := fun z59 => [some (aR 57), some (aI (s : Int)), some (aI (J 1 1)), some (aI z59), none, none, none, none]) rfl (by decide) (fun _ => rfl) (fun z59 ez59 => ?_)
        refine b_iconst rfl (by decide) ?_
        refine b_istoreX (F := fun z61 => [some (aR 57), some (aI (s : Int)), some (aI (J 1 1)), some (aI z59), some (aI z61), none, none, none]) rfl (by decide) (fun _ => rfl) (fun z61 ez61 => ?_)
        first
        | exact chk s (J 31 s).toNat m ha hs (by omega) (by omega) hj2 hj12 hm m 0 _ _ (by omega) (by omega) (by omega) (fun k hk => absurd hk (by omega))
        | (subst ha
           refine bad _ _ (by omega) (fun w => w.2.1 ?_)
           rw [Int.toNat_natCast]
           omega)
  refine rj_of okX12_order (Nat.le_of_ble_eq_true rfl) rfl ?_
  refine b_aload_n rfl rfl ?_
  refine b_getI rfl fl12_13 rfl (by decide) rfl ?_
  rw [h1]
  refine b_istoreX_n (F := fun z4 => [some (aR 57), some (aI a), some (aI z4), none, none, none, none, none]) rfl (by decide) (fun _ => rfl) (fun z4 ez4 => ?_)
  refine b_aload_n rfl rfl ?_
  refine b_iconst rfl (by decide) ?_
  refine b_putI rfl fl12_13 rfl (by decide) rfl ?_
  refine b_aload_n rfl rfl ?_
  refine b_iload_n rfl rfl ?_
  refine b_callV1i (ν := MX12_isShip) rfl ml12_479 cvX12_isShip (d' := 0) (by omega) rfl (by decide) rfl (Nat.le_of_ble_eq_true rfl) ?_
  refine spm_isShip hR1 (fun hs1 => ?_) (fun hs0 => ?_)
  · refine ⟨_, rfl, ?_⟩
    refine b_if_eq (tgt := 38) rfl rfl (fun z => absurd z (by decide)) (fun _ => ?_)
    refine b_iload_n rfl rfl ?_
    refine b_iconst rfl (by decide) ?_
    refine b_iremP rfl (by omega) (by omega) ?_
    refine b_if_ne (tgt := 38) rfl rfl (fun c21 => ?_) (fun c21 => ?_)
    · refine b_iconst rfl (by decide) ?_
      refine b_istoreX_n (F := fun z39 => [some (aR 57), some (aI a), some (aI z4), some (aI z39), none, none, none, none]) rfl (by decide) (fun _ => rfl) (fun z39 ez39 => ?_)
      subst ez4
      first
        | exact bad40 _ (by omega) (fun w => hs0 w.1)
        | exact bad40 _ (by omega) (fun w => hi0 ⟨w.2.2.1, w.2.2.2.1⟩)
        | (obtain ⟨s, hsa, hs⟩ := kO_nat (i := 1) hs1
           subst hsa
           exact good40 s (J 1 1 / 2).toNat _ (by omega) rfl hs hi1.1 hi1.2 (by omega))
        | (refine bad40 _ (by omega) (fun w => ?_)
           have := w.2.2.2.2.1
           omega)
    · refine b_iload_n rfl rfl ?_
      refine b_iconst rfl (by decide) ?_
      refine b_bipush rfl (by decide) ?_
      refine b_callS3i (ν := MX12_is) rfl ml12_322 csX12_is (d' := 0) (by omega) (Nat.le_of_ble_eq_true rfl) ?_
      refine spm_is (fun hi1 => ?_) (fun hi0 => ?_)
      · refine ⟨_, rfl, ?_⟩
        refine b_if_eq (tgt := 38) rfl rfl (fun z => absurd z (by decide)) (fun _ => ?_)
        refine b_iconst rfl (by decide) ?_
        refine b_goto (tgt := 39) rfl rfl ?_
        refine b_istoreX_n (F := fun z39 => [some (aR 57), some (aI a), some (aI z4), some (aI z39), none, none, none, none]) rfl (by decide) (fun _ => rfl) (fun z39 ez39 => ?_)
        subst ez4
        first
          | exact bad40 _ (by omega) (fun w => hs0 w.1)
          | exact bad40 _ (by omega) (fun w => hi0 ⟨w.2.2.1, w.2.2.2.1⟩)
          | (obtain ⟨s, hsa, hs⟩ := kO_nat (i := 1) hs1
             subst hsa
             exact good40 s (J 1 1 / 2).toNat _ (by omega) rfl hs hi1.1 hi1.2 (by omega))
          | (refine bad40 _ (by omega) (fun w => ?_)
             have := w.2.2.2.2.1
             omega)
      · refine ⟨_, rfl, ?_⟩
        refine b_if_eq (tgt := 38) rfl rfl (fun _ => ?_) (fun z => absurd z (by decide))
        refine b_iconst rfl (by decide) ?_
        refine b_istoreX_n (F := fun z39 => [some (aR 57), some (aI a), some (aI z4), some (aI z39), none, none, none, none]) rfl (by decide) (fun _ => rfl) (fun z39 ez39 => ?_)
        subst ez4
        first
          | exact bad40 _ (by omega) (fun w => hs0 w.1)
          | exact bad40 _ (by omega) (fun w => hi0 ⟨w.2.2.1, w.2.2.2.1⟩)
          | (obtain ⟨s, hsa, hs⟩ := kO_nat (i := 1) hs1
             subst hsa
             exact good40 s (J 1 1 / 2).toNat _ (by omega) rfl hs hi1.1 hi1.2 (by omega))
          | (refine bad40 _ (by omega) (fun w => ?_)
             have := w.2.2.2.2.1
             omega)
  · refine ⟨_, rfl, ?_⟩
    refine b_if_eq (tgt := 38) rfl rfl (fun _ => ?_) (fun z => absurd z (by decide))
    refine b_iconst rfl (by decide) ?_
    refine b_istoreX_n (F := fun z39 => [some (aR 57), some (aI a), some (aI z4), some (aI z39), none, none, none, none]) rfl (by decide) (fun _ => rfl) (fun z39 ez39 => ?_)
    subst ez4
    first
      | exact bad40 _ (by omega) (fun w => hs0 w.1)
      | exact bad40 _ (by omega) (fun w => hi0 ⟨w.2.2.1, w.2.2.2.1⟩)
      | (obtain ⟨s, hsa, hs⟩ := kO_nat (i := 1) hs1
         subst hsa
         exact good40 s (J 1 1 / 2).toNat _ (by omega) rfl hs hi1.1 hi1.2 (by omega))
      | (refine bad40 _ (by omega) (fun w => ?_)
         have := w.2.2.2.2.1
         omega)
