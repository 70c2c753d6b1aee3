/-! ===== the reference: a statement, its end ===== -/
section MSA
variable {Kb K H I : HI} {m n p : Nat} {B : Nat → Int} {Q : Option AV → HI → Prop}
theorem DX_L (hC : cOK I 13) (hX : DX I) : DL I := ⟨hX.1, fun s hs => by
  have h2 := hC 2 (by decide)
  rcases hX.2.1 s hs with e | e
  · exact Or.inl e
  · exact Or.inr ⟨e.1, by omega⟩⟩
theorem DX_Z (hX : DX I) : (∀ s : Nat, s < 6 → ¬ (s : Int) < I 13 1 → I 21 s = -1) ∧ ∀ s j : Nat, s < 6 → ¬ (s : Int) < I 13 1 → j < 24 → I 22 (24 * s + j) = 0 := ⟨hX.1, fun s j hs hn hj => by
  have := hX.2.2.2.1 s (j / 6) (j % 6) hs (by omega) (by omega) (fun w => hn w.1)
  rw [show 24 * s + 6 * (j / 6) + j % 6 = 24 * s + j by omega] at this
  exact this⟩
theorem mr_statement (hT : MTx Kb n (I 2)) (hF : FrB Kb m K) (hR : RDr I K m) (hI : DI I p) (hX : DX I) (hp : p ≤ n) (hM : Mok K n (I 2) p H) (kq : ∀ H', MSO n m Kb I (St n I p) H' → Q none H') : Rj MX12_statement 6 [aR 57] H Q := by
  refine rj_of okX12_statement (Nat.le_of_ble_eq_true rfl) rfl ?_
  have hf := Mok_f hM
  have h1 : ∀ w : Int, 0 ≤ w → tw n (I 2) p = w → tk n (I 2) p = 1 := fun w h0 h => tw_1 h h0
  have bd : ∀ H1, tk n (I 2) p = 4 → Mbad K 1 (tsp n (I 2) p : Int) H1 → Bj MX12_statement 6 4 [some (aR 57)] [] H1 Q := by
    intro H1 k4 hb
    have hf := Mbad_f hb
    have hw : tw n (I 2) p = -1 := tw_q (by omega)
    refine b_aload_n rfl rfl ?_
    refine b_getI rfl fl12_36 rfl (by decide) rfl ?_
    refine b_if_le (tgt := 12) rfl rfl (fun c8 => ?_) (fun c8 => ?_)
    · omega
    · refine b_vret rfl rfl ?_
      refine kq _ (MSO_l (k := 1) (pl := (tsp n (I 2) p : Int)) ?_ hF hb)
      unfold St
      repeat (first | rw [if_pos (by omega)] | rw [if_neg (by omega)])
  have g4 : tk n (I 2) p ≠ 4 → Bj MX12_statement 6 4 [some (aR 57)] [] H Q := by
    intro k4
    refine b_aload_n rfl rfl ?_
    refine b_getI rfl fl12_36 rfl (by decide) rfl ?_
    rw [hf.1]
    refine b_if_le (tgt := 12) rfl rfl (fun c8 => ?_) (fun c8 => ?_)
    · refine b_aload_n rfl rfl ?_
      refine b_ldc2 (z := 2002874981) rfl kl12_256 (by decide) ?_
      refine b_callV1i (ν := MX12_isWord) rfl ml12_338 cvX12_isWord (d' := 0) (by omega) rfl (by decide) rfl (Nat.le_of_ble_eq_true rfl) ?_
      refine mk_isWord (k := 0) (by decide) (by decide) k4 hM (fun w0 => ?_) (fun w0 => ?_)
      · refine ⟨_, rfl, ?_⟩
        refine b_if_eq (tgt := 29) rfl rfl (fun z => absurd z (by decide)) (fun _ => ?_)
        refine b_aload_n rfl rfl ?_
        refine b_callV0v (ν := MX12_waring) rfl ml12_390 cvX12_waring (d' := 3) (by omega) rfl (by decide) rfl (Nat.le_of_ble_eq_true rfl) ?_
        refine mr_waring hT hF hR hI (h1 _ (by decide) w0) hM (fun H2 s2 => ?_)
        refine ⟨rfl, ?_⟩
        refine b_goto (tgt := 195) rfl rfl ?_
        refine b_vret rfl rfl ?_
        first
        | (have q := hb
           refine kq _ (MSO_l (k := 1) (pl := (tsp n (I 2) p : Int)) ?_ hF hb)
           unfold St
           repeat (first | rw [if_pos (by omega)] | rw [if_neg (by omega)]))
        | (refine kq _ (MSO_e ?_ s2)
           unfold St
           repeat (first | rw [if_pos (by omega)] | rw [if_neg (by omega)]))
      · refine ⟨_, rfl, ?_⟩
        refine b_if_eq (tgt := 29) rfl rfl (fun _ => ?_) (fun z => absurd z (by decide))
        refine b_aload_n rfl rfl ?_
        refine b_ldc2 (z := 1936222576) rfl kl12_262 (by decide) ?_
        refine b_callV1i (ν := MX12_isWord) rfl ml12_338 cvX12_isWord (d' := 0) (by omega) rfl (by decide) rfl (Nat.le_of_ble_eq_true rfl) ?_
        refine mk_isWord (k := 3) (by decide) (by decide) k4 hM (fun w3 => ?_) (fun w3 => ?_)
        · refine ⟨_, rfl, ?_⟩
          refine b_if_eq (tgt := 46) rfl rfl (fun z => absurd z (by decide)) (fun _ => ?_)
          refine b_aload_n rfl rfl ?_
          refine b_callV0v (ν := MX12_shipping) rfl ml12_393 cvX12_shipping (d' := 3) (by omega) rfl (by decide) rfl (Nat.le_of_ble_eq_true rfl) ?_
          refine mr_shipping (DX_Z hX) hT hF hR hI (h1 _ (by decide) w3) hM (fun H2 s2 => ?_)
          refine ⟨rfl, ?_⟩
          refine b_goto (tgt := 195) rfl rfl ?_
          refine b_vret rfl rfl ?_
          first
          | (have q := hb
             refine kq _ (MSO_l (k := 1) (pl := (tsp n (I 2) p : Int)) ?_ hF hb)
             unfold St
             repeat (first | rw [if_pos (by omega)] | rw [if_neg (by omega)]))
          | (refine kq _ (MSO_e ?_ s2)
             unfold St
             repeat (first | rw [if_pos (by omega)] | rw [if_neg (by omega)]))
        · refine ⟨_, rfl, ?_⟩
          refine b_if_eq (tgt := 46) rfl rfl (fun _ => ?_) (fun z => absurd z (by decide))
          refine b_aload_n rfl rfl ?_
          refine b_ldc2 (z := 465725121651) rfl kl12_268 (by decide) ?_
          refine b_callV1i (ν := MX12_isWord) rfl ml12_338 cvX12_isWord (d' := 0) (by omega) rfl (by decide) rfl (Nat.le_of_ble_eq_true rfl) ?_
          refine mk_isWord (k := 6) (by decide) (by decide) k4 hM (fun w6 => ?_) (fun w6 => ?_)
          · refine ⟨_, rfl, ?_⟩
            refine b_if_eq (tgt := 63) rfl rfl (fun z => absurd z (by decide)) (fun _ => ?_)
            refine b_aload_n rfl rfl ?_
            refine b_callV0v (ν := MX12_loading) rfl ml12_396 cvX12_loading (d' := 3) (by omega) rfl (by decide) rfl (Nat.le_of_ble_eq_true rfl) ?_
            refine mr_loading hT hF hR hI hp (h1 _ (by decide) w6) hM (fun H2 s2 => ?_)
            refine ⟨rfl, ?_⟩
            refine b_goto (tgt := 195) rfl rfl ?_
            refine b_vret rfl rfl ?_
            first
            | (have q := hb
               refine kq _ (MSO_l (k := 1) (pl := (tsp n (I 2) p : Int)) ?_ hF hb)
               unfold St
               repeat (first | rw [if_pos (by omega)] | rw [if_neg (by omega)]))
            | (refine kq _ (MSO_e ?_ s2)
               unfold St
               repeat (first | rw [if_pos (by omega)] | rw [if_neg (by omega)]))
          · refine ⟨_, rfl, ?_⟩
            refine b_if_eq (tgt := 63) rfl rfl (fun _ => ?_) (fun z => absurd z (by decide))
            refine b_aload_n rfl rfl ?_
            refine b_ldc2 (z := 422608794728) rfl kl12_270 (by decide) ?_
            refine b_callV1i (ν := MX12_isWord) rfl ml12_338 cvX12_isWord (d' := 0) (by omega) rfl (by decide) rfl (Nat.le_of_ble_eq_true rfl) ?_
            refine mk_isWord (k := 7) (by decide) (by decide) k4 hM (fun w7 => ?_) (fun w7 => ?_)
            · refine ⟨_, rfl, ?_⟩
              refine b_if_eq (tgt := 80) rfl rfl (fun z => absurd z (by decide)) (fun _ => ?_)
              refine b_aload_n rfl rfl ?_
              refine b_callV0v (ν := MX12_berthing) rfl ml12_399 cvX12_berthing (d' := 3) (by omega) rfl (by decide) rfl (Nat.le_of_ble_eq_true rfl) ?_
              refine mr_berthing hT hF hR hI (h1 _ (by decide) w7) hM (fun H2 s2 => ?_)
              refine ⟨rfl, ?_⟩
              refine b_goto (tgt := 195) rfl rfl ?_
              refine b_vret rfl rfl ?_
              first
              | (have q := hb
                 refine kq _ (MSO_l (k := 1) (pl := (tsp n (I 2) p : Int)) ?_ hF hb)
                 unfold St
                 repeat (first | rw [if_pos (by omega)] | rw [if_neg (by omega)]))
              | (refine kq _ (MSO_e ?_ s2)
                 unfold St
                 repeat (first | rw [if_pos (by omega)] | rw [if_neg (by omega)]))
            · refine ⟨_, rfl, ?_⟩
              refine b_if_eq (tgt := 80) rfl rfl (fun _ => ?_) (fun z => absurd z (by decide))
              refine b_aload_n rfl rfl ?_
              refine b_ldc2 (z := 1818846579) rfl kl12_276 (by decide) ?_
              refine b_callV1i (ν := MX12_isWord) rfl ml12_338 cvX12_isWord (d' := 0) (by omega) rfl (by decide) rfl (Nat.le_of_ble_eq_true rfl) ?_
              refine mk_isWord (k := 10) (by decide) (by decide) k4 hM (fun w10 => ?_) (fun w10 => ?_)
              · refine ⟨_, rfl, ?_⟩
                refine b_if_eq (tgt := 97) rfl rfl (fun z => absurd z (by decide)) (fun _ => ?_)
                refine b_aload_n rfl rfl ?_
                refine b_callV0v (ν := MX12_lying) rfl ml12_402 cvX12_lying (d' := 3) (by omega) rfl (by decide) rfl (Nat.le_of_ble_eq_true rfl) ?_
                refine mr_lying hT hF hR hI (DX_L hI.1 hX) (h1 _ (by decide) w10) hM (fun H2 s2 => ?_)
                refine ⟨rfl, ?_⟩
                refine b_goto (tgt := 195) rfl rfl ?_
                refine b_vret rfl rfl ?_
                first
                | (have q := hb
                   refine kq _ (MSO_l (k := 1) (pl := (tsp n (I 2) p : Int)) ?_ hF hb)
                   unfold St
                   repeat (first | rw [if_pos (by omega)] | rw [if_neg (by omega)]))
                | (refine kq _ (MSO_e ?_ s2)
                   unfold St
                   repeat (first | rw [if_pos (by omega)] | rw [if_neg (by omega)]))
              · refine ⟨_, rfl, ?_⟩
                refine b_if_eq (tgt := 97) rfl rfl (fun _ => ?_) (fun z => absurd z (by decide))
                refine b_aload_n rfl rfl ?_
                refine b_ldc2 (z := 512736126322) rfl kl12_278 (by decide) ?_
                refine b_callV1i (ν := MX12_isWord) rfl ml12_338 cvX12_isWord (d' := 0) (by omega) rfl (by decide) rfl (Nat.le_of_ble_eq_true rfl) ?_
                refine mk_isWord (k := 11) (by decide) (by decide) k4 hM (fun w11 => ?_) (fun w11 => ?_)
                · refine ⟨_, rfl, ?_⟩
                  refine b_if_eq (tgt := 115) rfl rfl (fun z => absurd z (by decide)) (fun _ => ?_)
                  refine b_aload_n rfl rfl ?_
                  refine b_iconst rfl (by decide) ?_
                  refine b_callV1v (ν := MX12_reading) rfl ml12_405 cvX12_reading (d' := 5) (by omega) rfl (by decide) rfl (Nat.le_of_ble_eq_true rfl) ?_
                  refine mr_reading (f := 0) hT hF hR hI hp (by decide) (h1 _ (by decide) w11) hM (fun H2 s2 => ?_)
                  refine ⟨rfl, ?_⟩
                  refine b_goto (tgt := 195) rfl rfl ?_
                  refine b_vret rfl rfl ?_
                  first
                  | (have q := hb
                     refine kq _ (MSO_l (k := 1) (pl := (tsp n (I 2) p : Int)) ?_ hF hb)
                     unfold St
                     repeat (first | rw [if_pos (by omega)] | rw [if_neg (by omega)]))
                  | (refine kq _ (MSO_e ?_ s2)
                     unfold St
                     repeat (first | rw [if_pos (by omega)] | rw [if_neg (by omega)]))
                · refine ⟨_, rfl, ?_⟩
                  refine b_if_eq (tgt := 115) rfl rfl (fun _ => ?_) (fun z => absurd z (by decide))
                  refine b_aload_n rfl rfl ?_
                  refine b_ldc2 (z := 1836019566) rfl kl12_280 (by decide) ?_
                  refine b_callV1i (ν := MX12_isWord) rfl ml12_338 cvX12_isWord (d' := 0) (by omega) rfl (by decide) rfl (Nat.le_of_ble_eq_true rfl) ?_
                  refine mk_isWord (k := 12) (by decide) (by decide) k4 hM (fun w12 => ?_) (fun w12 => ?_)
                  · refine ⟨_, rfl, ?_⟩
                    refine b_if_eq (tgt := 133) rfl rfl (fun z => absurd z (by decide)) (fun _ => ?_)
                    refine b_aload_n rfl rfl ?_
                    refine b_iconst rfl (by decide) ?_
                    refine b_callV1v (ν := MX12_reading) rfl ml12_405 cvX12_reading (d' := 5) (by omega) rfl (by decide) rfl (Nat.le_of_ble_eq_true rfl) ?_
                    refine mr_reading (f := 1) hT hF hR hI hp (by decide) (h1 _ (by decide) w12) hM (fun H2 s2 => ?_)
                    refine ⟨rfl, ?_⟩
                    refine b_goto (tgt := 195) rfl rfl ?_
                    refine b_vret rfl rfl ?_
                    first
                    | (have q := hb
                       refine kq _ (MSO_l (k := 1) (pl := (tsp n (I 2) p : Int)) ?_ hF hb)
                       unfold St
                       repeat (first | rw [if_pos (by omega)] | rw [if_neg (by omega)]))
                    | (refine kq _ (MSO_e ?_ s2)
                       unfold St
                       repeat (first | rw [if_pos (by omega)] | rw [if_neg (by omega)]))
                  · refine ⟨_, rfl, ?_⟩
                    refine b_if_eq (tgt := 133) rfl rfl (fun _ => ?_) (fun z => absurd z (by decide))
                    refine b_aload_n rfl rfl ?_
                    refine b_ldc2 (z := 491394458995) rfl kl12_282 (by decide) ?_
                    refine b_callV1i (ν := MX12_isWord) rfl ml12_338 cvX12_isWord (d' := 0) (by omega) rfl (by decide) rfl (Nat.le_of_ble_eq_true rfl) ?_
                    refine mk_isWord (k := 13) (by decide) (by decide) k4 hM (fun w13 => ?_) (fun w13 => ?_)
                    · refine ⟨_, rfl, ?_⟩
                      refine b_if_eq (tgt := 151) rfl rfl (fun z => absurd z (by decide)) (fun _ => ?_)
                      refine b_aload_n rfl rfl ?_
                      refine b_iconst rfl (by decide) ?_
                      refine b_callV1v (ν := MX12_reading) rfl ml12_405 cvX12_reading (d' := 5) (by omega) rfl (by decide) rfl (Nat.le_of_ble_eq_true rfl) ?_
                      refine mr_reading (f := 2) hT hF hR hI hp (by decide) (h1 _ (by decide) w13) hM (fun H2 s2 => ?_)
                      refine ⟨rfl, ?_⟩
                      refine b_goto (tgt := 195) rfl rfl ?_
                      refine b_vret rfl rfl ?_
                      first
                      | (have q := hb
                         refine kq _ (MSO_l (k := 1) (pl := (tsp n (I 2) p : Int)) ?_ hF hb)
                         unfold St
                         repeat (first | rw [if_pos (by omega)] | rw [if_neg (by omega)]))
                      | (refine kq _ (MSO_e ?_ s2)
                         unfold St
                         repeat (first | rw [if_pos (by omega)] | rw [if_neg (by omega)]))
                    · refine ⟨_, rfl, ?_⟩
                      refine b_if_eq (tgt := 151) rfl rfl (fun _ => ?_) (fun z => absurd z (by decide))
                      refine b_aload_n rfl rfl ?_
                      refine b_ldc2 (z := 7168377) rfl kl12_284 (by decide) ?_
                      refine b_callV1i (ν := MX12_isWord) rfl ml12_338 cvX12_isWord (d' := 0) (by omega) rfl (by decide) rfl (Nat.le_of_ble_eq_true rfl) ?_
                      refine mk_isWord (k := 14) (by decide) (by decide) k4 hM (fun w14 => ?_) (fun w14 => ?_)
                      · refine ⟨_, rfl, ?_⟩
                        refine b_if_eq (tgt := 169) rfl rfl (fun z => absurd z (by decide)) (fun _ => ?_)
                        refine b_aload_n rfl rfl ?_
                        refine b_iconst rfl (by decide) ?_
                        refine b_callV1v (ν := MX12_reading) rfl ml12_405 cvX12_reading (d' := 5) (by omega) rfl (by decide) rfl (Nat.le_of_ble_eq_true rfl) ?_
                        refine mr_reading (f := 3) hT hF hR hI hp (by decide) (h1 _ (by decide) w14) hM (fun H2 s2 => ?_)
                        refine ⟨rfl, ?_⟩
                        refine b_goto (tgt := 195) rfl rfl ?_
                        refine b_vret rfl rfl ?_
                        first
                        | (have q := hb
                           refine kq _ (MSO_l (k := 1) (pl := (tsp n (I 2) p : Int)) ?_ hF hb)
                           unfold St
                           repeat (first | rw [if_pos (by omega)] | rw [if_neg (by omega)]))
                        | (refine kq _ (MSO_e ?_ s2)
                           unfold St
                           repeat (first | rw [if_pos (by omega)] | rw [if_neg (by omega)]))
                      · refine ⟨_, rfl, ?_⟩
                        refine b_if_eq (tgt := 169) rfl rfl (fun _ => ?_) (fun z => absurd z (by decide))
                        refine b_aload_n rfl rfl ?_
                        refine b_ldc2 (z := 1734437989) rfl kl12_286 (by decide) ?_
                        refine b_callV1i (ν := MX12_isWord) rfl ml12_338 cvX12_isWord (d' := 0) (by omega) rfl (by decide) rfl (Nat.le_of_ble_eq_true rfl) ?_
                        refine mk_isWord (k := 15) (by decide) (by decide) k4 hM (fun w15 => ?_) (fun w15 => ?_)
                        · refine ⟨_, rfl, ?_⟩
                          refine b_if_eq (tgt := 186) rfl rfl (fun z => absurd z (by decide)) (fun _ => ?_)
                          refine b_aload_n rfl rfl ?_
                          refine b_callV0v (ν := MX12_galeing) rfl ml12_408 cvX12_galeing (d' := 3) (by omega) rfl (by decide) rfl (Nat.le_of_ble_eq_true rfl) ?_
                          refine mr_galeing hT hF hR (h1 _ (by decide) w15) hM (fun H2 s2 => ?_)
                          refine ⟨rfl, ?_⟩
                          refine b_goto (tgt := 195) rfl rfl ?_
                          refine b_vret rfl rfl ?_
                          first
                          | (have q := hb
                             refine kq _ (MSO_l (k := 1) (pl := (tsp n (I 2) p : Int)) ?_ hF hb)
                             unfold St
                             repeat (first | rw [if_pos (by omega)] | rw [if_neg (by omega)]))
                          | (refine kq _ (MSO_e ?_ s2)
                             unfold St
                             repeat (first | rw [if_pos (by omega)] | rw [if_neg (by omega)]))
                        · refine ⟨_, rfl, ?_⟩
                          refine b_if_eq (tgt := 186) rfl rfl (fun _ => ?_) (fun z => absurd z (by decide))
                          refine b_aload_n rfl rfl ?_
                          refine b_iconst rfl (by decide) ?_
                          refine b_aload_n rfl rfl ?_
                          refine b_getI rfl fl12_23 rfl (by decide) rfl ?_
                          rw [hf.2, ← tsp_q k4]
                          refine b_callV2v (ν := MX12_blame) rfl ml12_236 cvX12_blame (d' := 0) (by omega) rfl (by decide) rfl (Nat.le_of_ble_eq_true rfl) ?_
                          refine mk_blame (by decide) hM (fun H2 hb => ?_)
                          refine ⟨rfl, ?_⟩
                          refine b_vret rfl rfl ?_
                          first
                          | (have q := hb
                             refine kq _ (MSO_l (k := 1) (pl := (tsp n (I 2) p : Int)) ?_ hF hb)
                             unfold St
                             repeat (first | rw [if_pos (by omega)] | rw [if_neg (by omega)]))
                          | (refine kq _ (MSO_e ?_ s2)
                             unfold St
                             repeat (first | rw [if_pos (by omega)] | rw [if_neg (by omega)]))
    · omega
  refine b_aload_n rfl rfl ?_
  refine b_callV0v (ν := MX12_lex) rfl ml12_247 cvX12_lex (d' := 1) (by omega) rfl (by decide) rfl (Nat.le_of_ble_eq_true rfl) ?_
  refine mk_lex hM (fun k4 => ?_) (fun k4 H1 hb => ?_)
  · refine ⟨rfl, ?_⟩
    first
    | exact bd _ k4 hb
    | exact g4 k4
  · refine ⟨rfl, ?_⟩
    first
    | exact bd _ k4 hb
    | exact g4 k4
theorem Mok_en (hM : Mok K n B p H) (h4 : tk n B p ≠ 4) : H 57 5 = (te n B p : Int) := by
  obtain ⟨si, sa, en, va, wo, lx, e, h1, h3, h4', h5, h6⟩ := hM
  subst e
  exact h5 h4
/-- the end of a statement, which is the N-th -/
theorem mr_finishes {N : Int} (hT : MTx K n B) (hp : p ≤ n) (hM : Mok K n B p H) (k1 : sg n B p 59 → ¬ (N = 80 ∧ tk n B (te n B p) ≠ 0) → ∀ H', Mok K n B (te n B p) H' → Q none H') (k6 : sg n B p 59 → N = 80 → tk n B (te n B p) ≠ 0 → ∀ H', Mbad K 6 (tq n B (te n B p) : Int) H' → Q none H') (k0 : ¬ sg n B p 59 → ∀ H', Mbad K 1 (tsp n B p : Int) H' → Q none H') : Rj MX12_finishes 3 [aR 57, aI N] H Q := by
  refine rj_of okX12_finishes (Nat.le_of_ble_eq_true rfl) rfl ?_
  have hf := Mok_f hM
  have hn := hT.2.1
  have h2 : H 57 2 = (n : Int) := by rw [Mok_g hM (by decide)]; exact hT.1
  have h58 : ∀ k, k < n → H 58 k = B k := fun k hk => by rw [Mok_q hM (by decide)]; exact hT.2.2.1 k hk
  have b4 : ∀ H1, tk n B p = 4 → Mbad K 1 (tsp n B p : Int) H1 → Bj MX12_finishes 3 4 [some (aR 57), some (aI N), none] [] H1 Q := by
    intro H1 k4 hb
    have hf := Mbad_f hb
    refine b_aload_n rfl rfl ?_
    refine b_getI rfl fl12_36 rfl (by decide) rfl ?_
    refine b_if_le (tgt := 12) rfl rfl (fun c8 => ?_) (fun c8 => ?_)
    · omega
    · refine b_vret rfl rfl ?_
      exact k0 (sg_4 k4) _ hb
  have g83 : ∀ (z2 : Int), (sg n B p 59 → ¬ (N = 80 ∧ tk n B (te n B p) ≠ 0)) → Bj MX12_finishes 3 83 [some (aR 57), some (aI N), some (aI z2)] [] H Q := by
    intro z2 hc
    refine b_aload_n rfl rfl ?_
    refine b_bipush rfl (by decide) ?_
    refine b_callV1v (ν := MX12_must) rfl ml12_411 cvX12_must (d' := 2) (by omega) rfl (by decide) rfl (Nat.le_of_ble_eq_true rfl) ?_
    refine mk_must hT hM (fun hs H1 hM1 => ?_) (fun hs H1 hb => ?_)
    · refine ⟨rfl, ?_⟩
      refine b_vret rfl rfl ?_
      first
      | exact k0 hs _ hb
      | exact k1 hs (hc hs) _ hM1
    · refine ⟨rfl, ?_⟩
      refine b_vret rfl rfl ?_
      first
      | exact k0 hs _ hb
      | exact k1 hs (hc hs) _ hM1
  have b83 : ∀ (z2 : Int) (H1 : HI), sg n B p 59 → N = 80 → tk n B (te n B p) ≠ 0 → Mbad K 6 (tq n B (te n B p) : Int) H1 → Bj MX12_finishes 3 83 [some (aR 57), some (aI N), some (aI z2)] [] H1 Q := by
    intro z2 H1 hs hN ht hb
    refine b_aload_n rfl rfl ?_
    refine b_bipush rfl (by decide) ?_
    refine b_callV1v (ν := MX12_must) rfl ml12_411 cvX12_must (d' := 2) (by omega) rfl (by decide) rfl (Nat.le_of_ble_eq_true rfl) ?_
    refine mk_mustB hb ?_
    refine ⟨rfl, ?_⟩
    refine b_vret rfl rfl ?_
    exact k6 hs hN ht _ hb
  have g53 : ∀ (z2 : Int), tk n B p ≠ 4 → z2 = (tq n B (te n B p) : Int) → Bj MX12_finishes 3 53 [some (aR 57), some (aI N), some (aI z2)] [] H Q := by
    intro z2 k4 hz
    have tk0 : tk n B (te n B p) = 0 ↔ n ≤ tq n B (te n B p) := by
      constructor
      · intro h
        unfold tk at h
        by_cases e : n ≤ tq n B (te n B p)
        · exact e
        · rw [if_neg e] at h
          repeat' split at h
          all_goals omega
      · intro h
        exact tk_0 h
    refine b_aload_n rfl rfl ?_
    refine b_bipush rfl (by decide) ?_
    refine b_callV1i (ν := MX12_isSign) rfl ml12_250 cvX12_isSign (d' := 0) (by omega) rfl (by decide) rfl (Nat.le_of_ble_eq_true rfl) ?_
    refine mk_isSign k4 hM (fun hs => ?_) (fun hs => ?_)
    · refine ⟨_, rfl, ?_⟩
      refine b_if_eq (tgt := 83) rfl rfl (fun z => absurd z (by decide)) (fun _ => ?_)
      refine b_iload_n rfl rfl ?_
      refine b_bipush rfl (by decide) ?_
      refine b_icmp_ne (tgt := 83) rfl rfl (fun c65 => ?_) (fun c65 => ?_)
      · first
        | (have q := hb
           exact b83 _ _ hs (by omega) (fun w => by have := tk0.1 w; omega) hb)
        | (have e : ¬ N = 80 := by omega
           exact g83 _ (fun _ w => e w.1))
        | (have e : n ≤ tq n B (te n B p) := by omega
           exact g83 _ (fun _ w => w.2 (tk0.2 e)))
        | exact g83 _ (fun w => absurd w hs)
      · refine b_iload_n rfl rfl ?_
        refine b_aload_n rfl rfl ?_
        refine b_getI rfl fl12_17 rfl (by decide) rfl ?_
        rw [h2]
        refine b_icmp_ge (tgt := 83) rfl rfl (fun c73 => ?_) (fun c73 => ?_)
        · first
          | (have q := hb
             exact b83 _ _ hs (by omega) (fun w => by have := tk0.1 w; omega) hb)
          | (have e : ¬ N = 80 := by omega
             exact g83 _ (fun _ w => e w.1))
          | (have e : n ≤ tq n B (te n B p) := by omega
             exact g83 _ (fun _ w => w.2 (tk0.2 e)))
          | exact g83 _ (fun w => absurd w hs)
        · refine b_aload_n rfl rfl ?_
          refine b_bipush rfl (by decide) ?_
          refine b_iload_n rfl rfl ?_
          refine b_callV2v (ν := MX12_blame) rfl ml12_236 cvX12_blame (d' := 0) (by omega) rfl (by decide) rfl (Nat.le_of_ble_eq_true rfl) ?_
          rw [hz]
          refine mk_blame (by decide) hM (fun H1 hb => ?_)
          refine ⟨rfl, ?_⟩
          first
          | (have q := hb
             exact b83 _ _ hs (by omega) (fun w => by have := tk0.1 w; omega) hb)
          | (have e : ¬ N = 80 := by omega
             exact g83 _ (fun _ w => e w.1))
          | (have e : n ≤ tq n B (te n B p) := by omega
             exact g83 _ (fun _ w => w.2 (tk0.2 e)))
          | exact g83 _ (fun w => absurd w hs)
    · refine ⟨_, rfl, ?_⟩
      refine b_if_eq (tgt := 83) rfl rfl (fun _ => ?_) (fun z => absurd z (by decide))
      first
      | (have q := hb
         exact b83 _ _ hs (by omega) (fun w => by have := tk0.1 w; omega) hb)
      | (have e : ¬ N = 80 := by omega
         exact g83 _ (fun _ w => e w.1))
      | (have e : n ≤ tq n B (te n B p) := by omega
         exact g83 _ (fun _ w => w.2 (tk0.2 e)))
      | exact g83 _ (fun w => absurd w hs)
  have g17 : tk n B p ≠ 4 → ∀ (g i : Nat) (z2 : Int), i + g = tq n B (te n B p) → te n B p ≤ i → z2 = (i : Int) → Bj MX12_finishes 3 17 [some (aR 57), some (aI N), some (aI z2)] [] H Q := by
    intro k4 g
    have hten : te n B p ≤ n := by
      by_cases e : tk n B p = 1 ∨ tk n B p = 2 ∨ tk n B p = 3
      · exact (te_gp e).2
      · have h0 : tk n B p = 0 := by have := tk_le (n := n) (B := B) (p := p); omega
        unfold te
        rw [if_neg (by omega), if_neg (by omega), if_neg (by omega)]
        exact tq_le hp
    have htn := tq_le (B := B) hten
    have hend := tq_end (n := n) (B := B) (p := te n B p)
    induction g with
    | zero =>
      intro i z2 h1 h2' h3
      have ei : i = tq n B (te n B p) := by omega
      have ez : z2.toNat = i := by omega
      have hc : i < n → H 58 i ≠ 32 ∧ H 58 i ≠ 10 := by
        intro hi
        rw [h58 i hi, ei]
        have : ¬ isBl (B (tq n B (te n B p))) := fun w => hend ⟨by omega, w⟩
        unfold isBl at this
        omega
      refine b_iload_n rfl rfl ?_
      refine b_aload_n rfl rfl ?_
      refine b_getI rfl fl12_17 rfl (by decide) rfl ?_
      rw [h2]
      refine b_icmp_ge (tgt := 53) rfl rfl (fun c22 => ?_) (fun c22 => ?_)
      · exact g53 _ k4 (by omega)
      · refine b_aload_n rfl rfl ?_
        refine b_getR (r := 58) rfl fl12_7 rfl (by decide) rfl rfl ?_
        refine b_iload_n rfl rfl ?_
        refine b_iald rfl rfl (by omega) (by omega) ?_
        try simp only [tn6, tn4, tn2, tn144, tn24, tn_cast, Int.reduceToNat]
        rw [ez]
        refine b_bipush rfl (by decide) ?_
        refine b_icmp_eq (tgt := 47) rfl rfl (fun c33 => ?_) (fun c33 => ?_)
        · refine b_iincX (F := fun z47 => [some (aR 57), some (aI N), some (aI z47)]) rfl rfl (by omega) (by omega) (fun _ => rfl) (fun z47 ez47 => ?_)
          refine b_goto (tgt := 17) rfl rfl ?_
          exfalso
          have := hc (by omega)
          omega
        · refine b_aload_n rfl rfl ?_
          refine b_getR (r := 58) rfl fl12_7 rfl (by decide) rfl rfl ?_
          refine b_iload_n rfl rfl ?_
          refine b_iald rfl rfl (by omega) (by omega) ?_
          try simp only [tn6, tn4, tn2, tn144, tn24, tn_cast, Int.reduceToNat]
          rw [ez]
          refine b_bipush rfl (by decide) ?_
          refine b_icmp_ne (tgt := 53) rfl rfl (fun c44 => ?_) (fun c44 => ?_)
          · exact g53 _ k4 (by omega)
          · refine b_iincX (F := fun z47 => [some (aR 57), some (aI N), some (aI z47)]) rfl rfl (by omega) (by omega) (fun _ => rfl) (fun z47 ez47 => ?_)
            refine b_goto (tgt := 17) rfl rfl ?_
            exfalso
            have := hc (by omega)
            omega
    | succ g ih =>
      intro i z2 h1 h2' h3
      have ez : z2.toNat = i := by omega
      have hc := run_in (pr := isBl) (n := n) (B := B) n (te n B p) (i - te n B p) (by unfold tq at h1; omega)
      rw [show te n B p + (i - te n B p) = i by omega] at hc
      have hb := h58 i hc.1
      have hin := hc.1
      have hc2 : B i = 32 ∨ B i = 10 := hc.2
      refine b_iload_n rfl rfl ?_
      refine b_aload_n rfl rfl ?_
      refine b_getI rfl fl12_17 rfl (by decide) rfl ?_
      rw [h2]
      refine b_icmp_ge (tgt := 53) rfl rfl (fun c22 => ?_) (fun c22 => ?_)
      · exfalso
        omega
      · refine b_aload_n rfl rfl ?_
        refine b_getR (r := 58) rfl fl12_7 rfl (by decide) rfl rfl ?_
        refine b_iload_n rfl rfl ?_
        refine b_iald rfl rfl (by omega) (by omega) ?_
        try simp only [tn6, tn4, tn2, tn144, tn24, tn_cast, Int.reduceToNat]
        rw [ez, hb]
        refine b_bipush rfl (by decide) ?_
        refine b_icmp_eq (tgt := 47) rfl rfl (fun c33 => ?_) (fun c33 => ?_)
        · refine b_iincX (F := fun z47 => [some (aR 57), some (aI N), some (aI z47)]) rfl rfl (by omega) (by omega) (fun _ => rfl) (fun z47 ez47 => ?_)
          refine b_goto (tgt := 17) rfl rfl ?_
          exact ih (i + 1) _ (by omega) (by omega) (by omega)
        · refine b_aload_n rfl rfl ?_
          refine b_getR (r := 58) rfl fl12_7 rfl (by decide) rfl rfl ?_
          refine b_iload_n rfl rfl ?_
          refine b_iald rfl rfl (by omega) (by omega) ?_
          try simp only [tn6, tn4, tn2, tn144, tn24, tn_cast, Int.reduceToNat]
          rw [ez, hb]
          refine b_bipush rfl (by decide) ?_
          refine b_icmp_ne (tgt := 53) rfl rfl (fun c44 => ?_) (fun c44 => ?_)
          · exfalso
            omega
          · refine b_iincX (F := fun z47 => [some (aR 57), some (aI N), some (aI z47)]) rfl rfl (by omega) (by omega) (fun _ => rfl) (fun z47 ez47 => ?_)
            refine b_goto (tgt := 17) rfl rfl ?_
            exact ih (i + 1) _ (by omega) (by omega) (by omega)
  have g4 : tk n B p ≠ 4 → Bj MX12_finishes 3 4 [some (aR 57), some (aI N), none] [] H Q := by
    intro k4
    have hen := Mok_en hM k4
    have hge := tq_ge (n := n) (B := B) (p := te n B p)
    refine b_aload_n rfl rfl ?_
    refine b_getI rfl fl12_36 rfl (by decide) rfl ?_
    rw [hf.1]
    refine b_if_le (tgt := 12) rfl rfl (fun c8 => ?_) (fun c8 => ?_)
    · refine b_aload_n rfl rfl ?_
      refine b_getI rfl fl12_26 rfl (by decide) rfl ?_
      rw [hen]
      refine b_istoreX_n (F := fun z16 => [some (aR 57), some (aI N), some (aI z16)]) rfl (by decide) (fun _ => rfl) (fun z16 ez16 => ?_)
      exact g17 k4 (tq n B (te n B p) - te n B p) (te n B p) _ (by omega) (Nat.le_refl _) (by omega)
    · omega
  refine b_aload_n rfl rfl ?_
  refine b_callV0v (ν := MX12_lex) rfl ml12_247 cvX12_lex (d' := 1) (by omega) rfl (by decide) rfl (Nat.le_of_ble_eq_true rfl) ?_
  refine mk_lex hM (fun k4 => ?_) (fun k4 H1 hb => ?_)
  · refine ⟨rfl, ?_⟩
    first
    | exact b4 _ k4 hb
    | exact g4 k4
  · refine ⟨rfl, ?_⟩
    first
    | exact b4 _ k4 hb
    | exact g4 k4
theorem mr_finishesB {N k pl : Int} (hM : Mbad K k pl H) (kq : Q none H) : Rj MX12_finishes 3 [aR 57, aI N] H Q := by
  refine rj_of okX12_finishes (Nat.le_of_ble_eq_true rfl) rfl ?_
  have hf := Mbad_f hM
  refine b_aload_n rfl rfl ?_
  refine b_callV0v (ν := MX12_lex) rfl ml12_247 cvX12_lex (d' := 1) (by omega) rfl (by decide) rfl (Nat.le_of_ble_eq_true rfl) ?_
  refine mk_lexB hM ?_
  refine ⟨rfl, ?_⟩
  refine b_aload_n rfl rfl ?_
  refine b_getI rfl fl12_36 rfl (by decide) rfl ?_
  refine b_if_le (tgt := 12) rfl rfl (fun c8 => ?_) (fun c8 => ?_)
  · omega
  · refine b_vret rfl rfl ?_
    exact kq
end MSA
