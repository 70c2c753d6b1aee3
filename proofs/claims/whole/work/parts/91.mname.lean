/-! ===== the reference: names ===== -/
def cnC (k : Nat) : Nat := [59, 62, 67].getD k 0
/-- the names and counts of the reference's other bank are the draft's -/
def RDn (I K : HI) (m : Nat) : Prop := K 57 34 = (m : Int) ∧ m < 2 ∧ (∀ k, k < 3 → K (cnC k) m = I 13 k) ∧ ∀ k, k < 3 → ∀ w : Nat, (w : Int) < I 13 k → NR (I 14 (6 * k + w)) (K (75 + k) (6 * m + w))
theorem own_mem {w : Int} : w ∈ own8L ↔ ∃ k, k < 29 ∧ w = own8 k := by
  constructor
  · intro h
    obtain ⟨i, hi, e⟩ := List.mem_iff_getElem.1 h
    refine ⟨i, hi, ?_⟩
    unfold own8
    rw [List.getD_eq_getElem?_getD, List.getElem?_eq_getElem hi, ← e]
    rfl
  · rintro ⟨k, hk, e⟩
    have hl : k < own8L.length := hk
    rw [e]
    unfold own8
    rw [List.getD_eq_getElem?_getD, List.getElem?_eq_getElem hl]
    exact List.getElem_mem hl
theorem tw_own {n : Nat} {B : Nat → Int} {p : Nat} (h : tk n B p = 1) : tw n B p = -1 ↔ ¬ t8 n B p ∈ own8L := by
  constructor
  · intro e hm
    obtain ⟨k, hk, e2⟩ := own_mem.1 hm
    have := (tw_8 h hk).2 e2
    omega
  · intro hm
    rcases tw_no (n := n) (B := B) (p := p) with e | ⟨_, k, hk, e⟩
    · exact e
    · exact absurd (own_mem.2 ⟨k, hk, (tw_8 h hk).1 e⟩) hm
theorem fi_iff {f g : Nat → Int} {a b : Int} : ∀ n k, (∀ j, k ≤ j → j < k + n → (f j = a ↔ g j = b)) → fi f a n k = fi g b n k := by
  intro n
  induction n with
  | zero => intro k _; rfl
  | succ n ih =>
    intro k h
    have h1 := h k (Nat.le_refl _) (by omega)
    have h2 := ih (k + 1) (fun j hj1 hj2 => h j (by omega) (by omega))
    by_cases e : f k = a
    · rw [show fi f a (n + 1) k = (k : Int) from if_pos e, show fi g b (n + 1) k = (k : Int) from if_pos (h1.1 e)]
    · rw [show fi f a (n + 1) k = fi f a n (k + 1) from if_neg e, show fi g b (n + 1) k = fi g b n (k + 1) from if_neg (fun z => e (h1.2 z)), h2]
section MNA
variable {I K H : HI} {Q : Option AV → HI → Prop} {n p m : Nat} {B : Nat → Int}
theorem spr_isOwn {w : Int} (k1 : w ∈ own8L → Q (some (aI 1)) H) (k0 : ¬ w ∈ own8L → Q (some (aI 0)) H) : Rj MX12_isOwn 0 [aR 57, aJ w] H Q := by
  refine rj_of okX12_isOwn (Nat.le_of_ble_eq_true rfl) rfl ?_
  have hm : w ∈ own8L ↔ (w = 2002874981 ∨ w = 131277443786867 ∨ w = 465624790131 ∨ w = 1936222576 ∨ w = 448545973363 ∨ w = 500135718259 ∨ w = 465725121651 ∨ w = 422608794728 ∨ w = 1718775661 ∨ w = 29807 ∨ w = 1818846579 ∨ w = 512736126322 ∨ w = 1836019566 ∨ w = 491394458995 ∨ w = 7168377 ∨ w = 1734437989 ∨ w = 1752135026 ∨ w = 131277443786868 ∨ w = 1818846836 ∨ w = 7629168 ∨ w = 427071729268 ∨ w = 114784769370228 ∨ w = 26982 ∨ w = 28530 ∨ w = 6385252 ∨ w = 7237492 ∨ w = 6384748 ∨ w = 7170414 ∨ w = 7168376) := by
    unfold own8L
    simp only [List.mem_cons, List.not_mem_nil, or_false]
  refine b_lload_n rfl rfl ?_
  refine b_ldc2 (z := 2002874981) rfl kl12_256 (by decide) ?_
  refine b_lcmpX rfl (fun lc4 hlc4 => ?_)
  refine b_if_eq (tgt := 40) rfl rfl (fun c5 => ?_) (fun c5 => ?_)
  · refine b_iconst rfl (by decide) ?_
    refine b_zret rfl rfl (by first | decide | omega) ?_
    first
    | exact k1 (hm.2 (by omega))
    | exact k0 (fun z => by have := hm.1 z; omega)
  · refine b_lload_n rfl rfl ?_
    refine b_ldc2 (z := 131277443786867) rfl kl12_258 (by decide) ?_
    refine b_lcmpX rfl (fun lc12 hlc12 => ?_)
    refine b_if_eq (tgt := 40) rfl rfl (fun c13 => ?_) (fun c13 => ?_)
    · refine b_iconst rfl (by decide) ?_
      refine b_zret rfl rfl (by first | decide | omega) ?_
      first
      | exact k1 (hm.2 (by omega))
      | exact k0 (fun z => by have := hm.1 z; omega)
    · refine b_lload_n rfl rfl ?_
      refine b_ldc2 (z := 465624790131) rfl kl12_260 (by decide) ?_
      refine b_lcmpX rfl (fun lc20 hlc20 => ?_)
      refine b_if_eq (tgt := 40) rfl rfl (fun c21 => ?_) (fun c21 => ?_)
      · refine b_iconst rfl (by decide) ?_
        refine b_zret rfl rfl (by first | decide | omega) ?_
        first
        | exact k1 (hm.2 (by omega))
        | exact k0 (fun z => by have := hm.1 z; omega)
      · refine b_lload_n rfl rfl ?_
        refine b_ldc2 (z := 1936222576) rfl kl12_262 (by decide) ?_
        refine b_lcmpX rfl (fun lc28 hlc28 => ?_)
        refine b_if_eq (tgt := 40) rfl rfl (fun c29 => ?_) (fun c29 => ?_)
        · refine b_iconst rfl (by decide) ?_
          refine b_zret rfl rfl (by first | decide | omega) ?_
          first
          | exact k1 (hm.2 (by omega))
          | exact k0 (fun z => by have := hm.1 z; omega)
        · refine b_lload_n rfl rfl ?_
          refine b_ldc2 (z := 448545973363) rfl kl12_264 (by decide) ?_
          refine b_lcmpX rfl (fun lc36 hlc36 => ?_)
          refine b_if_ne (tgt := 42) rfl rfl (fun c37 => ?_) (fun c37 => ?_)
          · refine b_lload_n rfl rfl ?_
            refine b_ldc2 (z := 500135718259) rfl kl12_266 (by decide) ?_
            refine b_lcmpX rfl (fun lc46 hlc46 => ?_)
            refine b_if_eq (tgt := 82) rfl rfl (fun c47 => ?_) (fun c47 => ?_)
            · refine b_iconst rfl (by decide) ?_
              refine b_zret rfl rfl (by first | decide | omega) ?_
              first
              | exact k1 (hm.2 (by omega))
              | exact k0 (fun z => by have := hm.1 z; omega)
            · refine b_lload_n rfl rfl ?_
              refine b_ldc2 (z := 465725121651) rfl kl12_268 (by decide) ?_
              refine b_lcmpX rfl (fun lc54 hlc54 => ?_)
              refine b_if_eq (tgt := 82) rfl rfl (fun c55 => ?_) (fun c55 => ?_)
              · refine b_iconst rfl (by decide) ?_
                refine b_zret rfl rfl (by first | decide | omega) ?_
                first
                | exact k1 (hm.2 (by omega))
                | exact k0 (fun z => by have := hm.1 z; omega)
              · refine b_lload_n rfl rfl ?_
                refine b_ldc2 (z := 422608794728) rfl kl12_270 (by decide) ?_
                refine b_lcmpX rfl (fun lc62 hlc62 => ?_)
                refine b_if_eq (tgt := 82) rfl rfl (fun c63 => ?_) (fun c63 => ?_)
                · refine b_iconst rfl (by decide) ?_
                  refine b_zret rfl rfl (by first | decide | omega) ?_
                  first
                  | exact k1 (hm.2 (by omega))
                  | exact k0 (fun z => by have := hm.1 z; omega)
                · refine b_lload_n rfl rfl ?_
                  refine b_ldc2 (z := 1718775661) rfl kl12_272 (by decide) ?_
                  refine b_lcmpX rfl (fun lc70 hlc70 => ?_)
                  refine b_if_eq (tgt := 82) rfl rfl (fun c71 => ?_) (fun c71 => ?_)
                  · refine b_iconst rfl (by decide) ?_
                    refine b_zret rfl rfl (by first | decide | omega) ?_
                    first
                    | exact k1 (hm.2 (by omega))
                    | exact k0 (fun z => by have := hm.1 z; omega)
                  · refine b_lload_n rfl rfl ?_
                    refine b_ldc2 (z := 29807) rfl kl12_274 (by decide) ?_
                    refine b_lcmpX rfl (fun lc78 hlc78 => ?_)
                    refine b_if_ne (tgt := 84) rfl rfl (fun c79 => ?_) (fun c79 => ?_)
                    · refine b_lload_n rfl rfl ?_
                      refine b_ldc2 (z := 1818846579) rfl kl12_276 (by decide) ?_
                      refine b_lcmpX rfl (fun lc88 hlc88 => ?_)
                      refine b_if_eq (tgt := 124) rfl rfl (fun c89 => ?_) (fun c89 => ?_)
                      · refine b_iconst rfl (by decide) ?_
                        refine b_zret rfl rfl (by first | decide | omega) ?_
                        first
                        | exact k1 (hm.2 (by omega))
                        | exact k0 (fun z => by have := hm.1 z; omega)
                      · refine b_lload_n rfl rfl ?_
                        refine b_ldc2 (z := 512736126322) rfl kl12_278 (by decide) ?_
                        refine b_lcmpX rfl (fun lc96 hlc96 => ?_)
                        refine b_if_eq (tgt := 124) rfl rfl (fun c97 => ?_) (fun c97 => ?_)
                        · refine b_iconst rfl (by decide) ?_
                          refine b_zret rfl rfl (by first | decide | omega) ?_
                          first
                          | exact k1 (hm.2 (by omega))
                          | exact k0 (fun z => by have := hm.1 z; omega)
                        · refine b_lload_n rfl rfl ?_
                          refine b_ldc2 (z := 1836019566) rfl kl12_280 (by decide) ?_
                          refine b_lcmpX rfl (fun lc104 hlc104 => ?_)
                          refine b_if_eq (tgt := 124) rfl rfl (fun c105 => ?_) (fun c105 => ?_)
                          · refine b_iconst rfl (by decide) ?_
                            refine b_zret rfl rfl (by first | decide | omega) ?_
                            first
                            | exact k1 (hm.2 (by omega))
                            | exact k0 (fun z => by have := hm.1 z; omega)
                          · refine b_lload_n rfl rfl ?_
                            refine b_ldc2 (z := 491394458995) rfl kl12_282 (by decide) ?_
                            refine b_lcmpX rfl (fun lc112 hlc112 => ?_)
                            refine b_if_eq (tgt := 124) rfl rfl (fun c113 => ?_) (fun c113 => ?_)
                            · refine b_iconst rfl (by decide) ?_
                              refine b_zret rfl rfl (by first | decide | omega) ?_
                              first
                              | exact k1 (hm.2 (by omega))
                              | exact k0 (fun z => by have := hm.1 z; omega)
                            · refine b_lload_n rfl rfl ?_
                              refine b_ldc2 (z := 7168377) rfl kl12_284 (by decide) ?_
                              refine b_lcmpX rfl (fun lc120 hlc120 => ?_)
                              refine b_if_ne (tgt := 126) rfl rfl (fun c121 => ?_) (fun c121 => ?_)
                              · refine b_lload_n rfl rfl ?_
                                refine b_ldc2 (z := 1734437989) rfl kl12_286 (by decide) ?_
                                refine b_lcmpX rfl (fun lc130 hlc130 => ?_)
                                refine b_if_eq (tgt := 166) rfl rfl (fun c131 => ?_) (fun c131 => ?_)
                                · refine b_iconst rfl (by decide) ?_
                                  refine b_zret rfl rfl (by first | decide | omega) ?_
                                  first
                                  | exact k1 (hm.2 (by omega))
                                  | exact k0 (fun z => by have := hm.1 z; omega)
                                · refine b_lload_n rfl rfl ?_
                                  refine b_ldc2 (z := 1752135026) rfl kl12_288 (by decide) ?_
                                  refine b_lcmpX rfl (fun lc138 hlc138 => ?_)
                                  refine b_if_eq (tgt := 166) rfl rfl (fun c139 => ?_) (fun c139 => ?_)
                                  · refine b_iconst rfl (by decide) ?_
                                    refine b_zret rfl rfl (by first | decide | omega) ?_
                                    first
                                    | exact k1 (hm.2 (by omega))
                                    | exact k0 (fun z => by have := hm.1 z; omega)
                                  · refine b_lload_n rfl rfl ?_
                                    refine b_ldc2 (z := 131277443786868) rfl kl12_290 (by decide) ?_
                                    refine b_lcmpX rfl (fun lc146 hlc146 => ?_)
                                    refine b_if_eq (tgt := 166) rfl rfl (fun c147 => ?_) (fun c147 => ?_)
                                    · refine b_iconst rfl (by decide) ?_
                                      refine b_zret rfl rfl (by first | decide | omega) ?_
                                      first
                                      | exact k1 (hm.2 (by omega))
                                      | exact k0 (fun z => by have := hm.1 z; omega)
                                    · refine b_lload_n rfl rfl ?_
                                      refine b_ldc2 (z := 1818846836) rfl kl12_292 (by decide) ?_
                                      refine b_lcmpX rfl (fun lc154 hlc154 => ?_)
                                      refine b_if_eq (tgt := 166) rfl rfl (fun c155 => ?_) (fun c155 => ?_)
                                      · refine b_iconst rfl (by decide) ?_
                                        refine b_zret rfl rfl (by first | decide | omega) ?_
                                        first
                                        | exact k1 (hm.2 (by omega))
                                        | exact k0 (fun z => by have := hm.1 z; omega)
                                      · refine b_lload_n rfl rfl ?_
                                        refine b_ldc2 (z := 7629168) rfl kl12_294 (by decide) ?_
                                        refine b_lcmpX rfl (fun lc162 hlc162 => ?_)
                                        refine b_if_ne (tgt := 168) rfl rfl (fun c163 => ?_) (fun c163 => ?_)
                                        · refine b_lload_n rfl rfl ?_
                                          refine b_ldc2 (z := 427071729268) rfl kl12_296 (by decide) ?_
                                          refine b_lcmpX rfl (fun lc172 hlc172 => ?_)
                                          refine b_if_eq (tgt := 208) rfl rfl (fun c173 => ?_) (fun c173 => ?_)
                                          · refine b_iconst rfl (by decide) ?_
                                            refine b_zret rfl rfl (by first | decide | omega) ?_
                                            first
                                            | exact k1 (hm.2 (by omega))
                                            | exact k0 (fun z => by have := hm.1 z; omega)
                                          · refine b_lload_n rfl rfl ?_
                                            refine b_ldc2 (z := 114784769370228) rfl kl12_298 (by decide) ?_
                                            refine b_lcmpX rfl (fun lc180 hlc180 => ?_)
                                            refine b_if_eq (tgt := 208) rfl rfl (fun c181 => ?_) (fun c181 => ?_)
                                            · refine b_iconst rfl (by decide) ?_
                                              refine b_zret rfl rfl (by first | decide | omega) ?_
                                              first
                                              | exact k1 (hm.2 (by omega))
                                              | exact k0 (fun z => by have := hm.1 z; omega)
                                            · refine b_lload_n rfl rfl ?_
                                              refine b_ldc2 (z := 26982) rfl kl12_300 (by decide) ?_
                                              refine b_lcmpX rfl (fun lc188 hlc188 => ?_)
                                              refine b_if_eq (tgt := 208) rfl rfl (fun c189 => ?_) (fun c189 => ?_)
                                              · refine b_iconst rfl (by decide) ?_
                                                refine b_zret rfl rfl (by first | decide | omega) ?_
                                                first
                                                | exact k1 (hm.2 (by omega))
                                                | exact k0 (fun z => by have := hm.1 z; omega)
                                              · refine b_lload_n rfl rfl ?_
                                                refine b_ldc2 (z := 28530) rfl kl12_302 (by decide) ?_
                                                refine b_lcmpX rfl (fun lc196 hlc196 => ?_)
                                                refine b_if_eq (tgt := 208) rfl rfl (fun c197 => ?_) (fun c197 => ?_)
                                                · refine b_iconst rfl (by decide) ?_
                                                  refine b_zret rfl rfl (by first | decide | omega) ?_
                                                  first
                                                  | exact k1 (hm.2 (by omega))
                                                  | exact k0 (fun z => by have := hm.1 z; omega)
                                                · refine b_lload_n rfl rfl ?_
                                                  refine b_ldc2 (z := 6385252) rfl kl12_304 (by decide) ?_
                                                  refine b_lcmpX rfl (fun lc204 hlc204 => ?_)
                                                  refine b_if_ne (tgt := 210) rfl rfl (fun c205 => ?_) (fun c205 => ?_)
                                                  · refine b_lload_n rfl rfl ?_
                                                    refine b_ldc2 (z := 7237492) rfl kl12_306 (by decide) ?_
                                                    refine b_lcmpX rfl (fun lc214 hlc214 => ?_)
                                                    refine b_if_eq (tgt := 242) rfl rfl (fun c215 => ?_) (fun c215 => ?_)
                                                    · refine b_iconst rfl (by decide) ?_
                                                      refine b_zret rfl rfl (by first | decide | omega) ?_
                                                      first
                                                      | exact k1 (hm.2 (by omega))
                                                      | exact k0 (fun z => by have := hm.1 z; omega)
                                                    · refine b_lload_n rfl rfl ?_
                                                      refine b_ldc2 (z := 6384748) rfl kl12_308 (by decide) ?_
                                                      refine b_lcmpX rfl (fun lc222 hlc222 => ?_)
                                                      refine b_if_eq (tgt := 242) rfl rfl (fun c223 => ?_) (fun c223 => ?_)
                                                      · refine b_iconst rfl (by decide) ?_
                                                        refine b_zret rfl rfl (by first | decide | omega) ?_
                                                        first
                                                        | exact k1 (hm.2 (by omega))
                                                        | exact k0 (fun z => by have := hm.1 z; omega)
                                                      · refine b_lload_n rfl rfl ?_
                                                        refine b_ldc2 (z := 7170414) rfl kl12_310 (by decide) ?_
                                                        refine b_lcmpX rfl (fun lc230 hlc230 => ?_)
                                                        refine b_if_eq (tgt := 242) rfl rfl (fun c231 => ?_) (fun c231 => ?_)
                                                        · refine b_iconst rfl (by decide) ?_
                                                          refine b_zret rfl rfl (by first | decide | omega) ?_
                                                          first
                                                          | exact k1 (hm.2 (by omega))
                                                          | exact k0 (fun z => by have := hm.1 z; omega)
                                                        · refine b_lload_n rfl rfl ?_
                                                          refine b_ldc2 (z := 7168376) rfl kl12_312 (by decide) ?_
                                                          refine b_lcmpX rfl (fun lc238 hlc238 => ?_)
                                                          refine b_if_ne (tgt := 244) rfl rfl (fun c239 => ?_) (fun c239 => ?_)
                                                          · refine b_iconst rfl (by decide) ?_
                                                            refine b_zret rfl rfl (by first | decide | omega) ?_
                                                            first
                                                            | exact k1 (hm.2 (by omega))
                                                            | exact k0 (fun z => by have := hm.1 z; omega)
                                                          · refine b_iconst rfl (by decide) ?_
                                                            refine b_zret rfl rfl (by first | decide | omega) ?_
                                                            first
                                                            | exact k1 (hm.2 (by omega))
                                                            | exact k0 (fun z => by have := hm.1 z; omega)
                                                  · refine b_iconst rfl (by decide) ?_
                                                    refine b_zret rfl rfl (by first | decide | omega) ?_
                                                    first
                                                    | exact k1 (hm.2 (by omega))
                                                    | exact k0 (fun z => by have := hm.1 z; omega)
                                        · refine b_iconst rfl (by decide) ?_
                                          refine b_zret rfl rfl (by first | decide | omega) ?_
                                          first
                                          | exact k1 (hm.2 (by omega))
                                          | exact k0 (fun z => by have := hm.1 z; omega)
                              · refine b_iconst rfl (by decide) ?_
                                refine b_zret rfl rfl (by first | decide | omega) ?_
                                first
                                | exact k1 (hm.2 (by omega))
                                | exact k0 (fun z => by have := hm.1 z; omega)
                    · refine b_iconst rfl (by decide) ?_
                      refine b_zret rfl rfl (by first | decide | omega) ?_
                      first
                      | exact k1 (hm.2 (by omega))
                      | exact k0 (fun z => by have := hm.1 z; omega)
          · refine b_iconst rfl (by decide) ?_
            refine b_zret rfl rfl (by first | decide | omega) ?_
            first
            | exact k1 (hm.2 (by omega))
            | exact k0 (fun z => by have := hm.1 z; omega)
theorem spr_manyOf {k : Nat} (hk : k < 3) (hm : m < 2) (kq : Q (some (aI (H (cnC k) m))) H) : Rj MX12_manyOf 0 [aR 57, aI (m : Int), aI (k : Int)] H Q := by
  refine rj_of okX12_manyOf (Nat.le_of_ble_eq_true rfl) rfl ?_
  match k, hk with
  | 0, _ =>
    refine b_iload_n rfl rfl ?_
    refine b_if_ne (tgt := 13) rfl rfl (fun c1 => ?_) (fun c1 => ?_)
    · omega
    · refine b_aload_n rfl rfl ?_
      refine b_getR (r := 59) rfl fl12_54 rfl (by decide) rfl rfl ?_
      refine b_iload_n rfl rfl ?_
      refine b_iald rfl rfl (by omega) (by omega) ?_
      try simp only [tn6, tn4, tn2, tn144, tn24, tn_cast, Int.reduceToNat]
      refine b_goto (tgt := 33) rfl rfl ?_
      refine b_iret rfl rfl ?_
      exact kq
  | 1, _ =>
    refine b_iload_n rfl rfl ?_
    refine b_if_ne (tgt := 13) rfl rfl (fun c1 => ?_) (fun c1 => ?_)
    · refine b_iload_n rfl rfl ?_
      refine b_iconst rfl (by decide) ?_
      refine b_icmp_ne (tgt := 27) rfl rfl (fun c15 => ?_) (fun c15 => ?_)
      · omega
      · refine b_aload_n rfl rfl ?_
        refine b_getR (r := 62) rfl fl12_63 rfl (by decide) rfl rfl ?_
        refine b_iload_n rfl rfl ?_
        refine b_iald rfl rfl (by omega) (by omega) ?_
        try simp only [tn6, tn4, tn2, tn144, tn24, tn_cast, Int.reduceToNat]
        refine b_goto (tgt := 33) rfl rfl ?_
        refine b_iret rfl rfl ?_
        exact kq
    · omega
  | 2, _ =>
    refine b_iload_n rfl rfl ?_
    refine b_if_ne (tgt := 13) rfl rfl (fun c1 => ?_) (fun c1 => ?_)
    · refine b_iload_n rfl rfl ?_
      refine b_iconst rfl (by decide) ?_
      refine b_icmp_ne (tgt := 27) rfl rfl (fun c15 => ?_) (fun c15 => ?_)
      · refine b_aload_n rfl rfl ?_
        refine b_getR (r := 67) rfl fl12_78 rfl (by decide) rfl rfl ?_
        refine b_iload_n rfl rfl ?_
        refine b_iald rfl rfl (by omega) (by omega) ?_
        try simp only [tn6, tn4, tn2, tn144, tn24, tn_cast, Int.reduceToNat]
        refine b_iret rfl rfl ?_
        exact kq
      · omega
    · omega
theorem spr_nameOf {k w : Nat} (hk : k < 3) (hm : m < 2) (hw : w < 6) (kq : Q (some (aJ (H (75 + k) (6 * m + w)))) H) : Rj MX12_nameOf 0 [aR 57, aI (m : Int), aI (k : Int), aI (w : Int)] H Q := by
  refine rj_of okX12_nameOf (Nat.le_of_ble_eq_true rfl) rfl ?_
  have ez : (6 * (m : Int) + (w : Int)).toNat = 6 * m + w := by omega
  match k, hk with
  | 0, _ =>
    refine b_iload_n rfl rfl ?_
    refine b_if_ne (tgt := 18) rfl rfl (fun c1 => ?_) (fun c1 => ?_)
    · omega
    · refine b_aload_n rfl rfl ?_
      refine b_getR (r := 75) rfl fl12_102 rfl (by decide) rfl rfl ?_
      refine b_bipush rfl (by decide) ?_
      refine b_iload_n rfl rfl ?_
      refine b_imulN rfl (by omega) (by omega) ?_
      refine b_iload_n rfl rfl ?_
      refine b_iaddN rfl (by omega) (by omega) ?_
      refine b_lald rfl rfl (by omega) (by omega) ?_
      try simp only [tn6, tn4, tn2, tn144, tn24, tn_cast, Int.reduceToNat]
      try rw [ez]
      refine b_goto (tgt := 48) rfl rfl ?_
      refine b_lret rfl rfl ?_
      exact kq
  | 1, _ =>
    refine b_iload_n rfl rfl ?_
    refine b_if_ne (tgt := 18) rfl rfl (fun c1 => ?_) (fun c1 => ?_)
    · refine b_iload_n rfl rfl ?_
      refine b_iconst rfl (by decide) ?_
      refine b_icmp_ne (tgt := 37) rfl rfl (fun c20 => ?_) (fun c20 => ?_)
      · omega
      · refine b_aload_n rfl rfl ?_
        refine b_getR (r := 76) rfl fl12_106 rfl (by decide) rfl rfl ?_
        refine b_bipush rfl (by decide) ?_
        refine b_iload_n rfl rfl ?_
        refine b_imulN rfl (by omega) (by omega) ?_
        refine b_iload_n rfl rfl ?_
        refine b_iaddN rfl (by omega) (by omega) ?_
        refine b_lald rfl rfl (by omega) (by omega) ?_
        try simp only [tn6, tn4, tn2, tn144, tn24, tn_cast, Int.reduceToNat]
        try rw [ez]
        refine b_goto (tgt := 48) rfl rfl ?_
        refine b_lret rfl rfl ?_
        exact kq
    · omega
  | 2, _ =>
    refine b_iload_n rfl rfl ?_
    refine b_if_ne (tgt := 18) rfl rfl (fun c1 => ?_) (fun c1 => ?_)
    · refine b_iload_n rfl rfl ?_
      refine b_iconst rfl (by decide) ?_
      refine b_icmp_ne (tgt := 37) rfl rfl (fun c20 => ?_) (fun c20 => ?_)
      · refine b_aload_n rfl rfl ?_
        refine b_getR (r := 77) rfl fl12_109 rfl (by decide) rfl rfl ?_
        refine b_bipush rfl (by decide) ?_
        refine b_iload_n rfl rfl ?_
        refine b_imulN rfl (by omega) (by omega) ?_
        refine b_iload_n rfl rfl ?_
        refine b_iaddN rfl (by omega) (by omega) ?_
        refine b_lald rfl rfl (by omega) (by omega) ?_
        try simp only [tn6, tn4, tn2, tn144, tn24, tn_cast, Int.reduceToNat]
        try rw [ez]
        refine b_lret rfl rfl ?_
        exact kq
      · omega
    · omega
theorem spr_named {k : Nat} {v w : Int} (hk : k < 3) (hC : cOK I 13) (hR : RDn I H m) (hv : NR v w) (kq : Q (some (aI (finN I k v))) H) : Rj MX12_named 1 [aR 57, aI (k : Int), aJ w] H Q := by
  obtain ⟨h1, h2, h3, h4⟩ := hR
  have hc := hC k hk
  have hcn := h3 k hk
  have ef : finN I k v = fi (fun j => H (75 + k) (6 * m + j)) w (I 13 k).toNat 0 := by
    unfold finN
    refine fi_iff _ _ (fun j _ hj => ?_)
    exact NR_inj (h4 k hk j (by omega)) hv
  refine rj_of okX12_named (Nat.le_of_ble_eq_true rfl) rfl ?_
  have lp : ∀ (g j : Nat) (z : Int), z = (j : Int) → j + g = (I 13 k).toNat → fi (fun j => H (75 + k) (6 * m + j)) w g j = finN I k v → Bj MX12_named 1 3 [some (aR 57), some (aI (k : Int)), some (aJ w), none, some (aI z)] [] H Q := by
    intro g
    induction g with
    | zero =>
      intro j z hz hg he
      subst hz
      refine b_iload rfl rfl ?_
      refine b_aload_n rfl rfl ?_
      refine b_aload_n rfl rfl ?_
      refine b_getI rfl fl12_115 rfl (by decide) rfl ?_
      rw [h1]
      refine b_iload_n rfl rfl ?_
      refine b_callV2i (ν := MX12_manyOf) rfl ml12_314 cvX12_manyOf (d' := 0) (by omega) rfl (by decide) rfl (Nat.le_of_ble_eq_true rfl) ?_
      refine spr_manyOf hk h2 ?_
      rw [hcn]
      refine ⟨_, rfl, ?_⟩
      refine b_icmp_ge (tgt := 42) rfl rfl (fun c14 => ?_) (fun c14 => ?_)
      · refine b_iconst rfl (by decide) ?_
        refine b_iret rfl rfl ?_
        exact qI kq (by rw [← he]; rfl) rfl
      · omega
    | succ g ih =>
      intro j z hz hg he
      subst hz
      refine b_iload rfl rfl ?_
      refine b_aload_n rfl rfl ?_
      refine b_aload_n rfl rfl ?_
      refine b_getI rfl fl12_115 rfl (by decide) rfl ?_
      rw [h1]
      refine b_iload_n rfl rfl ?_
      refine b_callV2i (ν := MX12_manyOf) rfl ml12_314 cvX12_manyOf (d' := 0) (by omega) rfl (by decide) rfl (Nat.le_of_ble_eq_true rfl) ?_
      refine spr_manyOf hk h2 ?_
      rw [hcn]
      refine ⟨_, rfl, ?_⟩
      refine b_icmp_ge (tgt := 42) rfl rfl (fun c14 => ?_) (fun c14 => ?_)
      · omega
      · refine b_aload_n rfl rfl ?_
        refine b_aload_n rfl rfl ?_
        refine b_getI rfl fl12_115 rfl (by decide) rfl ?_
        rw [h1]
        refine b_iload_n rfl rfl ?_
        refine b_iload rfl rfl ?_
        refine b_callV3j (ν := MX12_nameOf) rfl ml12_318 cvX12_nameOf (d' := 0) (by omega) rfl (by decide) rfl (Nat.le_of_ble_eq_true rfl) ?_
        refine spr_nameOf hk h2 (by omega) ?_
        refine ⟨_, rfl, ?_⟩
        refine b_lload_n rfl rfl ?_
        refine b_lcmpX rfl (fun lc29 hlc29 => ?_)
        refine b_if_ne (tgt := 36) rfl rfl (fun c30 => ?_) (fun c30 => ?_)
        · refine b_iincX (F := fun z36 => [some (aR 57), some (aI (k : Int)), some (aJ w), none, some (aI z36)]) rfl rfl (by omega) (by omega) (fun _ => rfl) (fun z36 ez36 => ?_)
          refine b_goto (tgt := 3) rfl rfl ?_
          exact ih (j + 1) _ (by omega) (by omega) (by rw [← he]; exact (if_neg (show ¬ H (75 + k) (6 * m + j) = w by omega)).symm)
        · refine b_iload rfl rfl ?_
          refine b_iret rfl rfl ?_
          exact qI kq (by rw [← he, show fi (fun j => H (75 + k) (6 * m + j)) w (g + 1) j = (j : Int) from if_pos (show H (75 + k) (6 * m + j) = w by omega)]) rfl
  refine b_iconst rfl (by decide) ?_
  refine b_istoreX (F := fun z1 => [some (aR 57), some (aI (k : Int)), some (aJ w), none, some (aI z1)]) rfl (by decide) (fun _ => rfl) (fun z1 ez1 => ?_)
  exact lp _ 0 _ (by omega) (Nat.zero_add _) ef.symm
end MNA
