/-! ===== the reference: gales, undo ===== -/
theorem fc_pos {f : Nat → Int} : ∀ n k j, fc f n k = some j → 0 < f j := by
  intro n
  induction n with
  | zero => intro k j h; cases h
  | succ n ih =>
    intro k j h
    by_cases e : 0 < f k
    · have h2 : (if 0 < f k then some k else fc f n (k + 1)) = some j := h
      rw [if_pos e] at h2
      cases h2
      exact e
    · have h2 : (if 0 < f k then some k else fc f n (k + 1)) = some j := h
      rw [if_neg e] at h2
      exact ih (k + 1) j h2
theorem bl1_z {I : HI} {s c : Nat} (h : I 32 c = 0) : (bl1 I s).1 32 c = 0 := by
  unfold bl1
  split
  · split
    · cases hf : fc (fun j => I 32 (24 * s + j)) 24 0 with
      | none => exact h
      | some j =>
        have hp := fc_pos _ _ _ hf
        have hp2 : 0 < I 32 (24 * s + j) := hp
        show keepS (up (up I 0 15 (nxt (I 0 15))) 32 (24 * s + j) _) (s : Int) (j : Int) 2 32 c = 0
        rw [keepS_cell (by decide) (by decide), up_n (fun w => by rw [w.2] at h; omega)]
        exact h
    · exact h
  · exact h
theorem spq_loses1 {J K : HI} {Q : Option AV → HI → Prop} {C : Nat → List Int} {b s : Nat} (hM : MN J K C b) (hU : RUn J K) (hK : 0 ≤ J 30 3 ∧ J 30 3 < 60 ∧ 0 ≤ J 30 4 ∧ J 30 4 ≤ 60) (hs : s < 6) (k1 : ∀ j, j < 24 → fc (fun j => J 32 (24 * s + j)) 24 0 = some j → ∀ K', MFr K K' → SRn (keepS (up J 32 (24 * s + j) (J 32 (24 * s + j) - 1)) (s : Int) (j : Int) 2) K' → RUn (keepS (up J 32 (24 * s + j) (J 32 (24 * s + j) - 1)) (s : Int) (j : Int) 2) K' → Q (some (aI 1)) K') (k0 : fc (fun j => J 32 (24 * s + j)) 24 0 = none → Q (some (aI 0)) K) : Rj MX12_loses 1 [aR 57, aI (s : Int)] K Q := spq_loses hM hU hK hs k0 k1
def MFg (K K' : HI) : Prop := (∀ q, q ≠ 57 → (q < 85 ∨ 91 < q) → K' q = K q) ∧ (∀ j, j ≠ 52 → j ≠ 53 → j ≠ 54 → ¬ (57 ≤ j ∧ j ≤ 60) → K' 57 j = K 57 j) ∧ asB K'
theorem MFg.of {K K' : HI} (h : MFr K K') : MFg K K' := ⟨h.1, fun j a b _ c => h.2.1 j a b c, h.2.2⟩
theorem MFg.tr {K K' K'' : HI} (h : MFg K K') (h2 : MFg K' K'') : MFg K K'' := ⟨fun q a b => (h2.1 q a b).trans (h.1 q a b), fun j a b d c => (h2.2.1 j a b d c).trans (h.2.1 j a b d c), h2.2.2⟩
theorem MFg.u54 {K K' : HI} {v : Int} (h : MFg K K') : MFg K (up K' 57 54 v) := ⟨fun p a b => by rw [up_cell a]; exact h.1 p a b, fun k a b d c => by rw [up_n (by omega)]; exact h.2.1 k a b d c, fun k => by rw [up_cell (by decide)]; exact h.2.2 k⟩
theorem RP.fg {J K K' : HI} {C : Nat → List Int} {b : Nat} (h : RP J K C b) (h2 : MFg K K') : RP J K' C b := h.to (h2.2.1 13 (by omega) (by omega) (by omega) (by omega)) (fun q hq => h2.1 q (by unfold mcell at hq; omega) (by unfold mcell at hq; omega))
theorem spq_gales {J K : HI} {Q : Option AV → HI → Prop} {C : Nat → List Int} {b : Nat} {m : Int} (hM : MN J K C b) (hU : RUn J K) (hK : WK J) (hB : BW J) (hsd : K 57 54 = J 0 15) (hga : K 70 b = J 3 8) (k1 : 1 ≤ m ∧ clk J m → ∀ K', MFg K K' → MN (gaB (rem_ J) C m.toNat).1 K' C b → RUn (gaB (rem_ J) C m.toNat).1 K' → K' 57 54 = (gaB (rem_ J) C m.toNat).1 0 15 → Q (some (aI (gaB (rem_ J) C m.toNat).2)) K') (k0 : ¬ (1 ≤ m ∧ clk J m) → Q (some (aI (-1))) (mrf K 3)) : Rj MX12_gales 7 [aR 57, aI m] K Q := by
  have r := hM.2.2.1.2.2.1
  have hR := hM.1
  have hb2 := hR.2.1
  have hp := hR.2.2.2.2.2.2.2.2.2
  obtain ⟨n6, n1⟩ := nS_in hp
  unfold clk at k1 k0
  have hWr : WF (rem_ J) C := hM.2.2.1.rem
  have hBr : BW (rem_ J) := hB.rem
  have hc : ∀ q, q ≠ 38 → q ≠ 39 → rem_ J q = J q := fun q a b => rem_cell a b
  have r305 : rem_ J 30 5 = J 30 5 := by rw [hc 30 (by decide) (by decide)]
  have inner : ∀ (G : HI) (gl : Int) (k : Nat), (1 ≤ m ∧ m ≤ 200) → (k : Int) < m → WF G C → BW G → G 4 = J 4 → G 6 = J 6 → G 7 = J 7 → G 3 8 = J 3 8 → ZF J (G 32) → (∀ s : Nat, s < 6 → ¬ (s : Int) < J 4 1 → G 31 s = -1) → (0 ≤ gl ∧ gl ≤ 6 * k) → G 30 5 + 1 ≤ 9999 → (∀ (I : HI) (x : Option AV) (y z : Int), MFg K I → MN (hrS (blN G (nS G)).1 C) I C b → RUn (hrS (blN G (nS G)).1 C) I → I 57 54 = (blN G (nS G)).1 0 15 → y = gl + (blN G (nS G)).2 → z = (k : Int) + 1 → Bj MX12_gales 7 23 [some (aR 57), some (aI m), some (aI y), some (aI z), x] [] I Q) → ∀ (n i : Nat) (I : HI) (y z : Int), MFg K I → SRn (blN G i).1 I → RUn (blN G i).1 I → I 57 54 = (blN G i).1 0 15 → z = (i : Int) → i + n = nS J → y = gl + (blN G i).2 → Bj MX12_gales 7 31 [some (aR 57), some (aI m), some (aI y), some (aI (k : Int)), some (aI z)] [] I Q := by
    intro G gl k hmm hkm hWG hBG g4 g6 g7 g38 gz gl31 hgl hG5 hk n
    have hnS : nS G = nS J := by unfold nS; rw [g4]
    have hWi : ∀ i, WF (blN G i).1 C := fun i => hWG.bl hBG i
    have hBi : ∀ i, BW (blN G i).1 := fun i => blN_W hBG i
    have cel : ∀ i q, q ≠ 0 → q ≠ 30 → q ≠ 32 → q ≠ 33 → (blN G i).1 q = G q := fun i q a b c d => blN_cell i a b c d
    have zz : ∀ i c, G 32 c = 0 → (blN G i).1 32 c = 0 := by
      intro i
      induction i with
      | zero => exact fun c h => h
      | succ i ih => exact fun c h => bl1_z (ih c h)
    have mkz : ∀ i, ZF J ((blN G i).1 32) := fun i s h w a1 a2 a3 a4 => zz i _ (gz s h w a1 a2 a3 a4)
    have mk : ∀ (i : Nat) (I : HI), MFg K I → SRn (blN G i).1 I → MN (blN G i).1 I C b := fun i I f g =>
      hM.mk ((cel i 4 (by decide) (by decide) (by decide) (by decide)).trans g4) ((cel i 6 (by decide) (by decide) (by decide) (by decide)).trans g6) ((cel i 7 (by decide) (by decide) (by decide) (by decide)).trans g7) (hWi i) (hR.fg f) f.2.2 g (mkz i) (by rw [cel i 31 (by decide) (by decide) (by decide) (by decide)]; exact gl31)
    induction n with
    | zero =>
      intro i I y z f g u sd_ hz hi hy
      have hMI := mk i I f g
      have hbI := hMI.1.1
      have q62 := hMI.1.2.2.2.1
      rw [cel i 4 (by decide) (by decide) (by decide) (by decide), g4] at q62
      have ei : i = nS G := by omega
      subst ei
      have h5 : (blN G (nS G)).1 30 5 = G 30 5 := blN_5 (nS G)
      refine b_iload rfl rfl ?_
      refine b_aload_n rfl rfl ?_
      refine b_getR (r := 62) rfl fl12_63 rfl (by decide) rfl rfl ?_
      refine b_aload_n rfl rfl ?_
      refine b_getI rfl fl12_51 rfl (by decide) rfl ?_
      rw [hbI]
      refine b_iald rfl rfl (by omega) (by omega) ?_
      try simp only [tn6, tn4, tn2, tn144, tn24, tn_cast, Int.reduceToNat]
      rw [q62]
      refine b_icmp_ge (tgt := 100) rfl rfl (fun c42 => ?_) (fun c42 => ?_)
      · refine b_aload_n rfl rfl ?_
        refine b_callV0i (ν := MX12_passes) rfl ml12_570 cvX12_passes (d' := 6) (by omega) rfl (by decide) rfl (Nat.le_of_ble_eq_true rfl) ?_
        refine spq_passes hMI u (by omega) (fun K2 f2 g2 u2 => ?_)
        refine ⟨_, rfl, ?_⟩
        refine b_pop rfl rfl ?_
        refine b_iincX (F := fun z105 => [some (aR 57), some (aI m), some (aI y), some (aI z105), some (aI z)]) rfl rfl (by omega) (by omega) (fun _ => rfl) (fun z105 ez105 => ?_)
        refine b_goto (tgt := 23) rfl rfl ?_
        exact hk K2 _ _ _ (f.tr (MFg.of f2)) g2 u2 (by rw [f2.2.1 54 (by omega) (by omega) (by omega)]; exact sd_) hy (by omega)
      · omega
    | succ n ih =>
      intro i I y z f g u sd_ hz hi hy
      subst hz
      have hMI := mk i I f g
      have hbI := hMI.1.1
      have q62 := hMI.1.2.2.2.1
      rw [cel i 4 (by decide) (by decide) (by decide) (by decide), g4] at q62
      have q41 : (blN G i).1 4 1 = J 4 1 := by rw [cel i 4 (by decide) (by decide) (by decide) (by decide), g4]
      have q70 : I 70 b = J 3 8 := by rw [f.1 70 (by decide) (by omega)]; exact hga
      have hs6 : i < 6 := by omega
      have hBI := hBi i
      obtain ⟨bb1, bb2, bb3⟩ := hBI
      have hbl := blN_in (I := G) i
      have e3 : (blN G i).1 3 8 = J 3 8 := by rw [cel i 3 (by decide) (by decide) (by decide) (by decide)]; exact g38
      have nx1 : (blN G (i + 1)).1 = (bl1 (blN G i).1 i).1 := rfl
      have nx2 : (blN G (i + 1)).2 = (blN G i).2 + (bl1 (blN G i).1 i).2 := rfl
      have ihn := fun I' y' z' => ih (i + 1) I' y' z'
      rw [nx1, nx2] at ihn
      generalize hD : (blN G i).1 = D at *
      have mkD : ∀ l : Int, MN (up D 0 15 l) (up I 57 54 l) C b := fun l => by
        have hd : ∀ q, q ≠ 0 → up D 0 15 l q = D q := fun q hq => up_cell hq
        have hW2 := hMI.2.2.1
        refine hMI.mk (hd 4 (by decide)) (hd 6 (by decide)) (hd 7 (by decide)) ⟨⟨pOK_to hW2.1.1 (hd 4 (by decide)) (hd 6 (by decide)) (hd 7 (by decide)), FM_to hW2.1.2.1 (hd 8 (by decide)) (hd 9 (by decide)) (hd 10 (by decide)), hW2.1.2.2⟩, ?_, ?_, ?_, ?_⟩ (hMI.1.to (up_n (by omega)) (fun q hq => up_cell (by unfold mcell at hq; omega))) ?_ ?_ ?_ ?_
        · unfold seB; rw [hd 28 (by decide)]; exact hW2.2.1
        · rw [hd 30 (by decide)]; exact hW2.2.2.1
        · rw [hd 32 (by decide)]; exact hW2.2.2.2.1
        · rw [hd 4 (by decide), hd 31 (by decide)]; exact hW2.2.2.2.2
        · intro k; rw [up_cell (by decide)]; exact hMI.2.1 k
        · unfold SRn; rw [hd 30 (by decide), hd 31 (by decide), hd 32 (by decide), hd 33 (by decide)]; exact SR_57 hMI.2.2.2.1
        · rw [hd 32 (by decide)]; exact hMI.2.2.2.2.1
        · rw [hd 31 (by decide)]; exact hMI.2.2.2.2.2
      have uD : ∀ l : Int, RUn (up D 0 15 l) (up I 57 54 l) := fun l => RUn_to u (up_cell (by decide)) (up_cell (by decide)) (up_n (by omega)) (up_n (by omega)) (fun q _ hs _ => SR_57 hs)
      have b1lie : D 31 i ≠ -1 → bl1 D i = (D, 0) := fun h => by unfold bl1; rw [if_neg h]
      have b1no : D 31 i = -1 → ¬ nxt (D 0 15) / 64 % 100 < D 3 8 → bl1 D i = (up D 0 15 (nxt (D 0 15)), 0) := fun h h2 => by unfold bl1; rw [if_pos h, if_neg h2]
      have b1ye : D 31 i = -1 → nxt (D 0 15) / 64 % 100 < D 3 8 → bl1 D i = lse (up D 0 15 (nxt (D 0 15))) i (fc (fun j => D 32 (24 * i + j)) 24 0) := fun h h2 => by unfold bl1; rw [if_pos h, if_pos h2]
      have gom : ∀ l : Int, MFr (up I 57 54 l) (up I 57 54 l) := fun l => MFr.rf (fun k => by rw [up_cell (by decide)]; exact f.2.2 k)
      generalize hL : nxt (D 0 15) = l at *
      have fin0 : bl1 D i = (up D 0 15 l, 0) → ∀ (y' z' : Int), z' = (i : Int) + 1 → y' = gl + (blN G i).2 → Bj MX12_gales 7 31 [some (aR 57), some (aI m), some (aI y'), some (aI (k : Int)), some (aI z')] [] (up I 57 54 l) Q := by
        intro e y' z' hz' hy'
        rw [e] at ihn
        refine ihn _ _ _ f.u54 (mkD l).2.2.2.1 (uD l) ?_ (by omega) (by omega) ?_
        · rw [up_s]
          show l = up D 0 15 l 0 15
          rw [up_s]
        · show y' = gl + ((blN G i).2 + 0)
          omega
      refine b_iload rfl rfl ?_
      refine b_aload_n rfl rfl ?_
      refine b_getR (r := 62) rfl fl12_63 rfl (by decide) rfl rfl ?_
      refine b_aload_n rfl rfl ?_
      refine b_getI rfl fl12_51 rfl (by decide) rfl ?_
      try simp only [up_ap, cpy_ap, fil_ap, row_ap, Nat.reduceEqDiff, Nat.reduceLT, Nat.reduceLeDiff, Int.toNat_natCast, Int.reduceToNat, reduceCtorEq, false_and, and_false, true_and, and_true, and_self, reduceIte]
      rw [hbI]
      refine b_iald rfl rfl (by omega) (by omega) ?_
      try simp only [tn6, tn4, tn2, tn144, tn24, tn_cast, Int.reduceToNat]
      try simp only [up_ap, cpy_ap, fil_ap, row_ap, Nat.reduceEqDiff, Nat.reduceLT, Nat.reduceLeDiff, Int.toNat_natCast, Int.reduceToNat, reduceCtorEq, false_and, and_false, true_and, and_true, and_self, reduceIte]
      rw [q62]
      refine b_icmp_ge (tgt := 100) rfl rfl (fun c42 => ?_) (fun c42 => ?_)
      · omega
      · refine b_aload_n rfl rfl ?_
        refine b_iconst rfl (by decide) ?_
        refine b_iload rfl rfl ?_
        refine b_callV2i (ν := MX12_liesIn) rfl ml12_482 cvX12_liesIn (d' := 0) (by omega) rfl (by decide) rfl (Nat.le_of_ble_eq_true rfl) ?_
        refine spq_liesIn hMI hs6 ?_
        refine ⟨_, rfl, ?_⟩
        refine b_iconst rfl (by decide) ?_
        refine b_icmp_ne (tgt := 94) rfl rfl (fun c53 => ?_) (fun c53 => ?_)
        · refine b_iincX (F := fun z94 => [some (aR 57), some (aI m), some (aI y), some (aI (k : Int)), some (aI z94)]) rfl rfl (by omega) (by omega) (fun _ => rfl) (fun z94 ez94 => ?_)
          refine b_goto (tgt := 31) rfl rfl ?_
          first
          | (have e := b1ye c53 (by omega)
             rw [show fc (fun j => D 32 (24 * i + j)) 24 0 = some j from hfj] at e
             rw [e] at ihn
             exact ihn K2 _ _ ((f.u54).tr (MFg.of f2)) g2 u2 (by rw [f2.2.1 54 (by omega) (by omega) (by omega), up_s]; show l = keepS (up (up D 0 15 l) 32 _ _) _ _ _ 0 15; rw [keepS_cell (by decide) (by decide), up_cell (by decide), up_s]) (by omega) (by omega) (by show _ = _ + (_ + 1); omega))
          | (have e := b1ye c53 (by omega)
             rw [show fc (fun j => D 32 (24 * i + j)) 24 0 = none from hf0] at e
             exact fin0 e _ _ (by omega) (by omega))
          | exact fin0 (b1no c53 (by omega)) _ _ (by omega) (by omega)
          | (have e := b1lie c53
             rw [e] at ihn
             exact ihn _ _ _ f g u sd_ (by omega) (by omega) (by show _ = _ + (_ + 0); omega))
        · refine b_aload_n rfl rfl ?_
          refine b_bipush rfl (by decide) ?_
          refine b_callV1i (ν := MX12_draw) rfl ml12_582 cvX12_draw (d' := 0) (by omega) rfl (by decide) rfl (Nat.le_of_ble_eq_true rfl) ?_
          refine spm_draw sd_ bb3 ?_
          rw [hL]
          refine ⟨_, rfl, ?_⟩
          refine b_aload_n rfl rfl ?_
          refine b_getR (r := 70) rfl fl12_87 rfl (by decide) rfl rfl ?_
          refine b_aload_n rfl rfl ?_
          refine b_getI rfl fl12_51 rfl (by decide) rfl ?_
          try simp only [up_ap, cpy_ap, fil_ap, row_ap, Nat.reduceEqDiff, Nat.reduceLT, Nat.reduceLeDiff, Int.toNat_natCast, Int.reduceToNat, reduceCtorEq, false_and, and_false, true_and, and_true, and_self, reduceIte]
          rw [hbI]
          refine b_iald rfl rfl (by omega) (by omega) ?_
          try simp only [tn6, tn4, tn2, tn144, tn24, tn_cast, Int.reduceToNat]
          try simp only [up_ap, cpy_ap, fil_ap, row_ap, Nat.reduceEqDiff, Nat.reduceLT, Nat.reduceLeDiff, Int.toNat_natCast, Int.reduceToNat, reduceCtorEq, false_and, and_false, true_and, and_true, and_self, reduceIte]
          rw [q70]
          refine b_icmp_lt (tgt := 77) rfl rfl (fun c71 => ?_) (fun c71 => ?_)
          · refine b_iload_n rfl rfl ?_
            refine b_aload_n rfl rfl ?_
            refine b_iload rfl rfl ?_
            refine b_callV1i (ν := MX12_loses) rfl ml12_585 cvX12_loses (d' := 1) (by omega) rfl (by decide) rfl (Nat.le_of_ble_eq_true rfl) ?_
            refine spq_loses1 (mkD l) (uD l) (show 0 ≤ D 30 3 ∧ D 30 3 < 60 ∧ 0 ≤ D 30 4 ∧ D 30 4 ≤ 60 by omega) hs6 (fun j hj hfj K2 f2 g2 u2 => ?_) (fun hf0 => ?_)
            · refine ⟨_, rfl, ?_⟩
              refine b_if_eq (tgt := 91) rfl rfl (fun z => absurd z (by decide)) (fun _ => ?_)
              refine b_iconst rfl (by decide) ?_
              refine b_goto (tgt := 92) rfl rfl ?_
              refine b_iaddN rfl (by omega) (by omega) ?_
              refine b_istoreX_n (F := fun z93 => [some (aR 57), some (aI m), some (aI z93), some (aI (k : Int)), some (aI (i : Int))]) rfl (by decide) (fun _ => rfl) (fun z93 ez93 => ?_)
              refine b_iincX (F := fun z94 => [some (aR 57), some (aI m), some (aI z93), some (aI (k : Int)), some (aI z94)]) rfl rfl (by omega) (by omega) (fun _ => rfl) (fun z94 ez94 => ?_)
              refine b_goto (tgt := 31) rfl rfl ?_
              first
              | (have e := b1ye c53 (by omega)
                 rw [show fc (fun j => D 32 (24 * i + j)) 24 0 = some j from hfj] at e
                 rw [e] at ihn
                 exact ihn K2 _ _ ((f.u54).tr (MFg.of f2)) g2 u2 (by rw [f2.2.1 54 (by omega) (by omega) (by omega), up_s]; show l = keepS (up (up D 0 15 l) 32 _ _) _ _ _ 0 15; rw [keepS_cell (by decide) (by decide), up_cell (by decide), up_s]) (by omega) (by omega) (by show _ = _ + (_ + 1); omega))
              | (have e := b1ye c53 (by omega)
                 rw [show fc (fun j => D 32 (24 * i + j)) 24 0 = none from hf0] at e
                 exact fin0 e _ _ (by omega) (by omega))
              | exact fin0 (b1no c53 (by omega)) _ _ (by omega) (by omega)
              | (have e := b1lie c53
                 rw [e] at ihn
                 exact ihn _ _ _ f g u sd_ (by omega) (by omega) (by show _ = _ + (_ + 0); omega))
            · refine ⟨_, rfl, ?_⟩
              refine b_if_eq (tgt := 91) rfl rfl (fun _ => ?_) (fun z => absurd z (by decide))
              refine b_iconst rfl (by decide) ?_
              refine b_iaddN rfl (by omega) (by omega) ?_
              refine b_istoreX_n (F := fun z93 => [some (aR 57), some (aI m), some (aI z93), some (aI (k : Int)), some (aI (i : Int))]) rfl (by decide) (fun _ => rfl) (fun z93 ez93 => ?_)
              refine b_iincX (F := fun z94 => [some (aR 57), some (aI m), some (aI z93), some (aI (k : Int)), some (aI z94)]) rfl rfl (by omega) (by omega) (fun _ => rfl) (fun z94 ez94 => ?_)
              refine b_goto (tgt := 31) rfl rfl ?_
              first
              | (have e := b1ye c53 (by omega)
                 rw [show fc (fun j => D 32 (24 * i + j)) 24 0 = some j from hfj] at e
                 rw [e] at ihn
                 exact ihn K2 _ _ ((f.u54).tr (MFg.of f2)) g2 u2 (by rw [f2.2.1 54 (by omega) (by omega) (by omega), up_s]; show l = keepS (up (up D 0 15 l) 32 _ _) _ _ _ 0 15; rw [keepS_cell (by decide) (by decide), up_cell (by decide), up_s]) (by omega) (by omega) (by show _ = _ + (_ + 1); omega))
              | (have e := b1ye c53 (by omega)
                 rw [show fc (fun j => D 32 (24 * i + j)) 24 0 = none from hf0] at e
                 exact fin0 e _ _ (by omega) (by omega))
              | exact fin0 (b1no c53 (by omega)) _ _ (by omega) (by omega)
              | (have e := b1lie c53
                 rw [e] at ihn
                 exact ihn _ _ _ f g u sd_ (by omega) (by omega) (by show _ = _ + (_ + 0); omega))
          · refine b_goto (tgt := 94) rfl rfl ?_
            refine b_iincX (F := fun z94 => [some (aR 57), some (aI m), some (aI y), some (aI (k : Int)), some (aI z94)]) rfl rfl (by omega) (by omega) (fun _ => rfl) (fun z94 ez94 => ?_)
            refine b_goto (tgt := 31) rfl rfl ?_
            first
            | (have e := b1ye c53 (by omega)
               rw [show fc (fun j => D 32 (24 * i + j)) 24 0 = some j from hfj] at e
               rw [e] at ihn
               exact ihn K2 _ _ ((f.u54).tr (MFg.of f2)) g2 u2 (by rw [f2.2.1 54 (by omega) (by omega) (by omega), up_s]; show l = keepS (up (up D 0 15 l) 32 _ _) _ _ _ 0 15; rw [keepS_cell (by decide) (by decide), up_cell (by decide), up_s]) (by omega) (by omega) (by show _ = _ + (_ + 1); omega))
            | (have e := b1ye c53 (by omega)
               rw [show fc (fun j => D 32 (24 * i + j)) 24 0 = none from hf0] at e
               exact fin0 e _ _ (by omega) (by omega))
            | exact fin0 (b1no c53 (by omega)) _ _ (by omega) (by omega)
            | (have e := b1lie c53
               rw [e] at ihn
               exact ihn _ _ _ f g u sd_ (by omega) (by omega) (by show _ = _ + (_ + 0); omega))
  have lp : 1 ≤ m ∧ 0 ≤ m ∧ m ≤ 200 ∧ J 30 5 + m ≤ 9999 → ∀ (n k : Nat) (I : HI) (y z : Int) (x : Option AV), MFg K I → MN (gaB (rem_ J) C k).1 I C b → RUn (gaB (rem_ J) C k).1 I → I 57 54 = (gaB (rem_ J) C k).1 0 15 → (gaB (rem_ J) C k).1 4 = J 4 ∧ (gaB (rem_ J) C k).1 6 = J 6 ∧ (gaB (rem_ J) C k).1 7 = J 7 ∧ (gaB (rem_ J) C k).1 3 8 = J 3 8 → z = (k : Int) → k + n = m.toNat → y = (gaB (rem_ J) C k).2 → Bj MX12_gales 7 23 [some (aR 57), some (aI m), some (aI y), some (aI z), x] [] I Q := by
    intro hm n
    induction n with
    | zero =>
      intro k I y z x f g u sd_ hg hz hi hy
      have ei : k = m.toNat := by omega
      subst ei
      refine b_iload_n rfl rfl ?_
      refine b_iload_n rfl rfl ?_
      refine b_icmp_ge (tgt := 111) rfl rfl (fun c25 => ?_) (fun c25 => ?_)
      · refine b_iload_n rfl rfl ?_
        refine b_iret rfl rfl ?_
        exact qI (k1 hm I f g u sd_) hy.symm rfl
      · omega
    | succ n ih =>
      intro k I y z x f g u sd_ hg hz hi hy
      subst hz
      obtain ⟨g4, g6, g7, g38⟩ := hg
      obtain ⟨i1, i2, i3, i4⟩ := gaB_I hWr hBr k (by omega)
      have nx1 : (gaB (rem_ J) C (k + 1)).1 = hrS (blN (gaB (rem_ J) C k).1 (nS (gaB (rem_ J) C k).1)).1 C := rfl
      have nx2 : (gaB (rem_ J) C (k + 1)).2 = (gaB (rem_ J) C k).2 + (blN (gaB (rem_ J) C k).1 (nS (gaB (rem_ J) C k).1)).2 := rfl
      have ihn := fun I' y' z' x' => ih (k + 1) I' y' z' x'
      rw [nx1, nx2] at ihn
      have hz2 : ZF J ((gaB (rem_ J) C k).1 32) := ZF_J g.2.2.2.2.1 g4.symm g6.symm
      have hl2 : ∀ s : Nat, s < 6 → ¬ (s : Int) < J 4 1 → (gaB (rem_ J) C k).1 31 s = -1 := by
        have := g.2.2.2.2.2
        rw [g4] at this
        exact this
      generalize (gaB (rem_ J) C k).1 = G at *
      generalize (gaB (rem_ J) C k).2 = gl at *
      have cel : ∀ q, q ≠ 0 → q ≠ 30 → q ≠ 31 → q ≠ 32 → q ≠ 33 → hrS (blN G (nS G)).1 C q = G q := fun q a b c d e => by
        unfold hrS
        rw [hrB_cell b c, blN_cell _ a b d e]
      refine b_iload_n rfl rfl ?_
      refine b_iload_n rfl rfl ?_
      refine b_icmp_ge (tgt := 111) rfl rfl (fun c25 => ?_) (fun c25 => ?_)
      · omega
      · refine b_iconst rfl (by decide) ?_
        refine b_istoreX (F := fun z29 => [some (aR 57), some (aI m), some (aI y), some (aI (k : Int)), some (aI z29)]) rfl (by decide) (fun _ => rfl) (fun z29 ez29 => ?_)
        refine inner G gl k (by omega) (by omega) i1 i2 g4 g6 g7 g38 hz2 hl2 i4 (by omega) (fun I' x' y' z' f' g' u' s' hy' hz' => ?_) (nS J) 0 I _ _ f g.2.2.2.1 u sd_ (by omega) (by omega) (by rw [hy]; show _ = _ + 0; omega)
        refine ihn I' y' z' x' f' g' u' ?_ ⟨(cel 4 (by decide) (by decide) (by decide) (by decide) (by decide)).trans g4, (cel 6 (by decide) (by decide) (by decide) (by decide) (by decide)).trans g6, (cel 7 (by decide) (by decide) (by decide) (by decide) (by decide)).trans g7, by rw [cel 3 (by decide) (by decide) (by decide) (by decide) (by decide)]; exact g38⟩ (by omega) (by omega) hy'
        rw [s']
        unfold hrS
        rw [hrB_cell (by decide) (by decide)]
  refine rj_of okX12_gales (Nat.le_of_ble_eq_true rfl) rfl ?_
  refine b_aload_n rfl rfl ?_
  refine b_iload_n rfl rfl ?_
  refine b_iconst rfl (by decide) ?_
  refine b_callV2i (ν := MX12_isAhead) rfl ml12_509 cvX12_isAhead (d' := 1) (by omega) rfl (by decide) rfl (Nat.le_of_ble_eq_true rfl) ?_
  refine spq_isAhead hM (fun hy => ?_) (fun hn => ?_) (by decide)
  · refine ⟨_, rfl, ?_⟩
    refine b_if_ne (tgt := 15) rfl rfl (fun _ => ?_) (fun z => absurd z (by decide))
    refine b_aload_n rfl rfl ?_
    refine b_callV0v (ν := MX12_keeps) rfl ml12_557 cvX12_keeps (d' := 1) (by omega) rfl (by decide) rfl (Nat.le_of_ble_eq_true rfl) ?_
    refine spq_keeps hM.2.2.2.1 hU hK hM.2.1 (fun K2 f2 g2 u2 => ?_)
    refine ⟨rfl, ?_⟩
    refine b_iconst rfl (by decide) ?_
    refine b_istoreX_n (F := fun z20 => [some (aR 57), some (aI m), some (aI z20), none, none]) rfl (by decide) (fun _ => rfl) (fun z20 ez20 => ?_)
    refine b_iconst rfl (by decide) ?_
    refine b_istoreX_n (F := fun z22 => [some (aR 57), some (aI m), some (aI z20), some (aI z22), none]) rfl (by decide) (fun _ => rfl) (fun z22 ez22 => ?_)
    refine lp (by omega) m.toNat 0 K2 _ _ _ (MFg.of f2) ?_ u2 ?_ ⟨hc 4 (by decide) (by decide), hc 6 (by decide) (by decide), hc 7 (by decide) (by decide), by show rem_ J 3 8 = _; rw [hc 3 (by decide) (by decide)]⟩ (by omega) (by omega) (by rw [ez20]; rfl)
    · show MN (rem_ J) K2 C b
      exact hM.mk (hc 4 (by decide) (by decide)) (hc 6 (by decide) (by decide)) (hc 7 (by decide) (by decide)) hWr (hM.1.fr f2) f2.2.2 g2 (by rw [hc 32 (by decide) (by decide)]; exact hM.2.2.2.2.1) (by rw [hc 31 (by decide) (by decide)]; exact hM.2.2.2.2.2)
    · show K2 57 54 = rem_ J 0 15
      rw [f2.2.1 54 (by omega) (by omega) (by omega), hc 0 (by decide) (by decide)]
      exact hsd
  · refine ⟨_, rfl, ?_⟩
    refine b_if_ne (tgt := 15) rfl rfl (fun z => absurd z (by decide)) (fun _ => ?_)
    refine b_aload_n rfl rfl ?_
    refine b_iconst rfl (by decide) ?_
    refine b_callV1i (ν := MX12_refuses) rfl ml12_228 cvX12_refuses (d' := 0) (by omega) rfl (by decide) rfl (Nat.le_of_ble_eq_true rfl) ?_
    refine spm_refuses (k := 3) (by decide) ?_
    refine ⟨_, rfl, ?_⟩
    refine b_iret rfl rfl ?_
    exact k0 (by omega)
theorem SRs_at {J K : HI} {q : Nat} (h : SRs J K q) : SR (rdf J ((213 * q : Nat) : Int) 30 5) (rdf J ((213 * q : Nat) : Int) 30 3) (rdf J ((213 * q : Nat) : Int) 30 4) (rdf J ((213 * q : Nat) : Int) 31) (rdf J ((213 * q : Nat) : Int) 32) (rdf J ((213 * q : Nat) : Int) 33) K (2 + q) := by
  have e0 : ((213 * q : Nat) : Int).toNat = 213 * q := Int.toNat_natCast _
  have e1 : (((213 * q : Nat) : Int) + 1).toNat = 213 * q + 1 := by omega
  have e2 : (((213 * q : Nat) : Int) + 2).toNat = 213 * q + 2 := by omega
  have e3 : (((213 * q : Nat) : Int) + 3).toNat = 213 * q + 3 := by omega
  have e9 : (((213 * q : Nat) : Int) + 3 + 6).toNat = 213 * q + 9 := by omega
  have e15 : (((213 * q : Nat) : Int) + 3 + 6 + 144).toNat = 213 * q + 153 := by omega
  unfold SRs at h
  unfold rdf
  rw [e0, e1, e2, e3, e9, e15]
  generalize 213 * q = a at *
  refine SR_cg h ?_ ?_ ?_ (fun s hs => ?_) (fun c hc => ?_) (fun r hr => ?_) <;> simp only [cpy_ap, up_ap]
  · grind
  · grind
  · grind
  · grind (splits := 30)
  · grind (splits := 30)
  · grind (splits := 30)
theorem spq_undo {J K : HI} {Q : Option AV → HI → Prop} (hU : RUn J K) (hK : WK J) (has : asB K) (k1 : 0 < J 38 2 → ∀ K', MFr K K' → SRn (rdf (up J 38 2 (J 38 2 - 1)) ((J 38 1 + (J 38 2 - 1)) % 20 * 213)) K' → RUn (rdf (up J 38 2 (J 38 2 - 1)) ((J 38 1 + (J 38 2 - 1)) % 20 * 213)) K' → Q (some (aI 1)) K') (k0 : J 38 2 = 0 → Q (some (aI 0)) (mrf K 4)) : Rj MX12_undo 1 [aR 57] K Q := by
  obtain ⟨⟨a1, a2, a3, a4⟩, b1, b2, b3, b4⟩ := hK
  obtain ⟨u1, u2, u3⟩ := hU
  obtain ⟨f, ef⟩ : ∃ f : Nat, J 38 1 = (f : Int) := ⟨(J 38 1).toNat, by omega⟩
  obtain ⟨u, eu⟩ : ∃ u : Nat, J 38 2 = (u : Int) := ⟨(J 38 2).toNat, by omega⟩
  have hlast : 0 < u → ((J 38 1 + ((u - 1 : Nat) : Int)) % 20).toNat = (f + (u - 1)) % 20 := fun h => by omega
  refine spm_undo (f := f) (u := u) (by rw [u2, ef]) (by omega) (by rw [u1, eu]) (by omega) (fun h => ?_) (fun h => ?_) (fun h => k0 (by omega))
  · obtain ⟨v1, v2, v3⟩ := u3 (u - 1) (by omega)
    rw [hlast h] at v1 v2 v3
    have := v1.2.2.2.1
    rw [this]
    exact ⟨v2, v3⟩
  · obtain ⟨v1, v2, v3⟩ := u3 (u - 1) (by omega)
    rw [hlast h] at v1 v2 v3
    have ea : (J 38 1 + (J 38 2 - 1)) % 20 * 213 = ((213 * ((f + (u - 1)) % 20) : Nat) : Int) := by omega
    rw [ea] at k1
    have k8 : K 88 (2 + (f + (u - 1)) % 20) ≤ 60 := by rw [v1.2.2.2.1]; exact v3
    have eJ : ∀ q, q ≠ 38 → up J 38 2 (J 38 2 - 1) q = J q := fun q hq => up_cell hq
    have c38 : rdf (up J 38 2 (J 38 2 - 1)) ((213 * ((f + (u - 1)) % 20) : Nat) : Int) 38 = up J 38 2 (J 38 2 - 1) 38 := by
      funext k; unfold rdf; simp only [cpy_ap, up_ap]; grind
    have c39 : rdf (up J 38 2 (J 38 2 - 1)) ((213 * ((f + (u - 1)) % 20) : Nat) : Int) 39 = J 39 := by
      funext k; unfold rdf; simp only [cpy_ap, up_ap]; grind
    have hs : ∀ q, SRs J K q → SRs (up J 38 2 (J 38 2 - 1)) (up K 57 53 ((u : Int) - 1)) q := fun q h => by
      unfold SRs at *
      rw [eJ 39 (by decide)]
      exact SR_57 h
    refine k1 (by omega) _ (((MFr.rf has).u57 (Or.inr rfl)).cp) (SR_mcp_to (SRs_at (hs _ v1))) ⟨?_, ?_, fun j hj => ?_⟩
    · rw [c38, up_s]
      show (u : Int) - 1 = _
      omega
    · rw [c38, up_n (by omega)]
      exact u2
    · rw [c38, up_s] at hj
      rw [c38, up_n (by omega), c39]
      obtain ⟨x1, x2, x3⟩ := u3 j (by omega)
      refine ⟨?_, x2, x3⟩
      unfold SRs at *
      rw [c39]
      exact SR_mcp_ne (SR_57 x1) (by omega) (by rw [up_cell (by decide)]; exact k8) x3
