/-! ===== the law: its loop, its start, the claim ===== -/
def cLh : MC := [(0, .new 7, 3), (3, .dup, 1), (4, .invokespecial 9, 3), (7, .astore_n 1, 1), (8, .new 10, 3), (11, .dup, 1), (12, .invokespecial 12, 3), (15, .astore_n 2, 1), (16, .iconst 0, 1), (17, .istore_n 3, 1), (18, .iload_n 3, 1), (19, .aload_n 0, 1), (20, .arraylength, 1), (21, .bipush 6, 2), (23, .isub, 1), (24, .if_icmp .gt 1195, 3), (27, .aload_n 0, 1), (28, .iload_n 3, 1), (29, .iaload, 1), (30, .bipush 63, 2), (32, .iand, 1), (33, .tableswitch 1180 0 34 #[155, 218, 241, 254, 277, 300, 343, 376, 409, 432, 475, 508, 541, 574, 597, 640, 673, 696, 719, 742, 765, 798, 821, 864, 907, 960, 993, 1016, 1039, 1052, 1075, 1108, 1121, 1144, 1157], 155), (1213, .iinc 3 6, 3), (1216, .goto (-1198), 3), (1219, .iconst 1, 1), (1220, .ireturn, 1)]
theorem dLh : ∀ q ∈ cLh, decode code q.1 = .ok q.2 := by decide +kernel
theorem lk_9 : Cond.methodLink R_law 9 (mrY MX11_init) ∈ Wg := in_W1 22 (by decide +kernel) rfl
theorem lk_12 : Cond.methodLink R_law 12 (mrY MX12_init) ∈ Wg := in_W5 228 (by decide +kernel) rfl
theorem lk_7 : Cond.classLink R_law 7 (clT 11).1 ∈ Wg := in_W1 20 (by decide +kernel) rfl
theorem lk_10 : Cond.classLink R_law 10 (clT 12).1 ∈ Wg := in_W5 226 (by decide +kernel) rfl
theorem nj11 : Cond.initialized (clT 11).1 ∈ Wg := in_W1 1 (by decide +kernel) rfl
theorem nj12 : Cond.initialized (clT 12).1 ∈ Wg := in_W1 17 (by decide +kernel) rfl
theorem nt11 : ∀ k, k < 16 → fty 11 k = .int ∨ fty 11 k = .boolean ∨ fty 11 k = .long ∨ refKind (fty 11 k) = true := by decide +kernel
theorem nt12 : ∀ k, k < 71 → fty 12 k = .int ∨ fty 12 k = .boolean ∨ fty 12 k = .long ∨ refKind (fty 12 k) = true := by decide +kernel
theorem law_case {n i : Nat} {xs : Nat → Int32} {I : HI} (hn : n ≤ 3072) (hi : i + 6 ≤ n) (hI : Iv I) (k : ∀ I', Iv I' → Lw n xs 0 0 1213 (lwL i) [] (Hp I')) : ∀ u : Nat, u < 64 → Lw n xs 0 0 33 (lwL i) [aI (u : Int)] (Hp I) := by
  intro u hu
  match u, hu with
  | 0, _ => exact lq_tswIn (off := 155) (tgt := 188) (dcd dLh rfl) (by decide) (by decide) (by decide +kernel) rfl (lc_feed hn hi hI k)
  | 1, _ => exact lq_tswIn (off := 218) (tgt := 251) (dcd dLh rfl) (by decide) (by decide) (by decide +kernel) rfl (lc_end hn hi hI k)
  | 2, _ => exact lq_tswIn (off := 241) (tgt := 274) (dcd dLh rfl) (by decide) (by decide) (by decide +kernel) rfl (lc_harbour hn hi hI k)
  | 3, _ => exact lq_tswIn (off := 254) (tgt := 287) (dcd dLh rfl) (by decide) (by decide) (by decide +kernel) rfl (lc_fault hn hi hI k)
  | 4, _ => exact lq_tswIn (off := 277) (tgt := 310) (dcd dLh rfl) (by decide) (by decide) (by decide +kernel) rfl (lc_has hn hi hI k)
  | 5, _ => exact lq_tswIn (off := 300) (tgt := 333) (dcd dLh rfl) (by decide) (by decide) (by decide +kernel) rfl (lc_letter hn hi hI k)
  | 6, _ => exact lq_tswIn (off := 343) (tgt := 376) (dcd dLh rfl) (by decide) (by decide) (by decide +kernel) rfl (lc_ware hn hi hI k)
  | 7, _ => exact lq_tswIn (off := 376) (tgt := 409) (dcd dLh rfl) (by decide) (by decide) (by decide +kernel) rfl (lc_ship hn hi hI k)
  | 8, _ => exact lq_tswIn (off := 409) (tgt := 442) (dcd dLh rfl) (by decide) (by decide) (by decide +kernel) rfl (lc_tips hn hi hI k)
  | 9, _ => exact lq_tswIn (off := 432) (tgt := 465) (dcd dLh rfl) (by decide) (by decide) (by decide +kernel) rfl (lc_crates hn hi hI k)
  | 10, _ => exact lq_tswIn (off := 475) (tgt := 508) (dcd dLh rfl) (by decide) (by decide) (by decide +kernel) rfl (lc_berth hn hi hI k)
  | 11, _ => exact lq_tswIn (off := 508) (tgt := 541) (dcd dLh rfl) (by decide) (by decide) (by decide +kernel) rfl (lc_tide hn hi hI k)
  | 12, _ => exact lq_tswIn (off := 541) (tgt := 574) (dcd dLh rfl) (by decide) (by decide) (by decide +kernel) rfl (lc_rides hn hi hI k)
  | 13, _ => exact lq_tswIn (off := 574) (tgt := 607) (dcd dLh rfl) (by decide) (by decide) (by decide +kernel) rfl (lc_adrift hn hi hI k)
  | 14, _ => exact lq_tswIn (off := 597) (tgt := 630) (dcd dLh rfl) (by decide) (by decide) (by decide +kernel) rfl (lc_alike hn hi hI k)
  | 15, _ => exact lq_tswIn (off := 640) (tgt := 673) (dcd dLh rfl) (by decide) (by decide) (by decide +kernel) rfl (lc_berthed hn hi hI k)
  | 16, _ => exact lq_tswIn (off := 673) (tgt := 706) (dcd dLh rfl) (by decide) (by decide) (by decide +kernel) rfl (lc_stow hn hi hI k)
  | 17, _ => exact lq_tswIn (off := 696) (tgt := 729) (dcd dLh rfl) (by decide) (by decide) (by decide +kernel) rfl (lc_stowed hn hi hI k)
  | 18, _ => exact lq_tswIn (off := 719) (tgt := 752) (dcd dLh rfl) (by decide) (by decide) (by decide +kernel) rfl (lc_order hn hi hI k)
  | 19, _ => exact lq_tswIn (off := 742) (tgt := 775) (dcd dLh rfl) (by decide) (by decide) (by decide +kernel) rfl (lc_ordered hn hi hI k)
  | 20, _ => exact lq_tswIn (off := 765) (tgt := 798) (dcd dLh rfl) (by decide) (by decide) (by decide +kernel) rfl (lc_swaps hn hi hI k)
  | 21, _ => exact lq_tswIn (off := 798) (tgt := 831) (dcd dLh rfl) (by decide) (by decide) (by decide +kernel) rfl (lc_rode hn hi hI k)
  | 22, _ => exact lq_tswIn (off := 821) (tgt := 854) (dcd dLh rfl) (by decide) (by decide) (by decide +kernel) rfl (lc_lade hn hi hI k)
  | 23, _ => exact lq_tswIn (off := 864) (tgt := 897) (dcd dLh rfl) (by decide) (by decide) (by decide +kernel) rfl (lc_discharge hn hi hI k)
  | 24, _ => exact lq_tswIn (off := 907) (tgt := 940) (dcd dLh rfl) (by decide) (by decide) (by decide +kernel) rfl (lc_shift hn hi hI k)
  | 25, _ => exact lq_tswIn (off := 960) (tgt := 993) (dcd dLh rfl) (by decide) (by decide) (by decide +kernel) rfl (lc_moor hn hi hI k)
  | 26, _ => exact lq_tswIn (off := 993) (tgt := 1026) (dcd dLh rfl) (by decide) (by decide) (by decide +kernel) rfl (lc_hours hn hi hI k)
  | 27, _ => exact lq_tswIn (off := 1016) (tgt := 1049) (dcd dLh rfl) (by decide) (by decide) (by decide +kernel) rfl (lc_gales hn hi hI k)
  | 28, _ => exact lq_tswIn (off := 1039) (tgt := 1072) (dcd dLh rfl) (by decide) (by decide) (by decide +kernel) rfl (lc_undo hn hi hI k)
  | 29, _ => exact lq_tswIn (off := 1052) (tgt := 1085) (dcd dLh rfl) (by decide) (by decide) (by decide +kernel) rfl (lc_seed hn hi hI k)
  | 30, _ => exact lq_tswIn (off := 1075) (tgt := 1108) (dcd dLh rfl) (by decide) (by decide) (by decide +kernel) rfl (lc_kept hn hi hI k)
  | 31, _ => exact lq_tswIn (off := 1108) (tgt := 1141) (dcd dLh rfl) (by decide) (by decide) (by decide +kernel) rfl (lc_image hn hi hI k)
  | 32, _ => exact lq_tswIn (off := 1121) (tgt := 1154) (dcd dLh rfl) (by decide) (by decide) (by decide +kernel) rfl (lc_octet hn hi hI k)
  | 33, _ => exact lq_tswIn (off := 1144) (tgt := 1177) (dcd dLh rfl) (by decide) (by decide) (by decide +kernel) rfl (lc_on hn hi hI k)
  | 34, _ => exact lq_tswIn (off := 1157) (tgt := 1190) (dcd dLh rfl) (by decide) (by decide) (by decide +kernel) rfl (lc_status hn hi hI k)
  | u + 35, _ => exact lq_tswOut (tgt := 1213) (dcd dLh rfl) (Or.inr (by omega)) rfl (k I hI)
theorem law_loop {n : Nat} {xs : Nat → Int32} (hn : n ≤ 3072) : ∀ (f i : Nat), n < i + 6 * f + 6 → i ≤ n → ∀ I : HI, Iv I → Lw n xs 0 0 18 (lwL i) [] (Hp I) := by
  intro f
  induction f with
  | zero =>
    intro i hf hi I hI
    refine lq_iload_n (dcd dLh rfl) rfl ?_
    refine lq_sload_n (dcd dLh rfl) rfl ?_
    refine lq_slen (dcd dLh rfl) hn ?_
    refine lq_bipush (dcd dLh rfl) (by decide) ?_
    refine lq_isub (dcd dLh rfl) ?_
    rw [w32_id (by omega) (by omega)]
    refine lq_icmp_gt (tgt := 1219) (dcd dLh rfl) rfl (fun c => ?_) (fun c => ?_)
    · exact lq_iconst (dcd dLh rfl) (by decide) (lq_ret (dcd dLh rfl))
    · exact absurd c (by omega)
  | succ f ih =>
    intro i hf hi I hI
    refine lq_iload_n (dcd dLh rfl) rfl ?_
    refine lq_sload_n (dcd dLh rfl) rfl ?_
    refine lq_slen (dcd dLh rfl) hn ?_
    refine lq_bipush (dcd dLh rfl) (by decide) ?_
    refine lq_isub (dcd dLh rfl) ?_
    rw [w32_id (by omega) (by omega)]
    refine lq_icmp_gt (tgt := 1219) (dcd dLh rfl) rfl (fun c => ?_) (fun c => ?_)
    · exact lq_iconst (dcd dLh rfl) (by decide) (lq_ret (dcd dLh rfl))
    · have h6 : i + 6 ≤ n := by omega
      have kk : ∀ I', Iv I' → Lw n xs 0 0 1213 (lwL i) [] (Hp I') := by
        intro I' hI'
        have e6 : lset1 (lwL i) 3 (aI ((i : Int) + 6)) = lwL (i + 6) := by
          have e : ((i + 6 : Nat) : Int) = (i : Int) + 6 := by omega
          unfold lwL
          rw [e]
          rfl
        refine lq_iinc (L' := lwL (i + 6)) (dcd dLh rfl) rfl (by omega) (by omega) e6 ?_
        exact lq_goto (tgt := 18) (dcd dLh rfl) rfl (ih (i + 6) (by omega) (by omega) I' hI')
      refine lq_sload_n (dcd dLh rfl) rfl ?_
      refine lq_iload_n (dcd dLh rfl) rfl ?_
      refine lq_sld (dcd dLh rfl) (by omega) (by omega) ?_
      refine lq_bipush (dcd dLh rfl) (by decide) ?_
      refine lq_iand (dcd dLh rfl) ?_
      rw [iAnd_63]
      obtain ⟨u, hu⟩ : ∃ u : Nat, (xs (i : Int).toNat).toInt % 64 = (u : Int) := ⟨((xs (i : Int).toNat).toInt % 64).toNat, by omega⟩
      rw [hu]
      exact law_case hn h6 hI kk u (by omega)
/-- the same cells, the same references where there are fields -/
theorem lw_heq {n kc ks pc : Nat} {xs : Nat → Int32} {L : ML} {st : List AV} {S : List (Nat × Nat)} {R R' : Nat → Nat → Option Nat} {I : HI} (e : R = R') (k : Lw n xs kc ks pc L st (S, R', I)) : Lw n xs kc ks pc L st (S, R, I) := by
  subst e
  exact k
def R00 : Nat → Nat → Option Nat := fun _ _ => none
theorem r0_lo : ∀ p, p < 99 → ∀ k, k < 71 → R12 (R11 R00) p k = RFn p k := by decide +kernel
theorem rf_len : ∀ p, p < 99 → (RFt.getD p []).length ≤ 71 := by decide +kernel
theorem ito {p : Prop} [Decidable p] {x y : Option Nat} (h : ¬ p) (e : y = none) : (if p then x else y) = none := by
  rw [if_neg h]
  exact e
theorem r0_hi {p k : Nat} (h : 99 ≤ p ∨ 71 ≤ k) : R12 (R11 R00) p k = none := by
  simp only [R12, R11, upr]
  repeat (refine ito (fun z => by omega) ?_)
  rfl
theorem rf_hi {p k : Nat} (h : 99 ≤ p ∨ 71 ≤ k) : RFn p k = none := by
  unfold RFn
  by_cases hp : p < 99
  · have := rf_len p hp
    rw [List.getD_eq_getElem?_getD, List.getElem?_eq_none (by omega)]
    rfl
  · rw [List.getD_eq_getElem?_getD (l := RFt), List.getElem?_eq_none (by rw [show RFt.length = 99 from rfl]; omega)]
    rfl
theorem r0_eq : R12 (R11 R00) = RFn := by
  funext p k
  by_cases h : 99 ≤ p ∨ 71 ≤ k
  · rw [r0_hi h, rf_hi h]
  · exact r0_lo p (by omega) k (by omega)
theorem law_start {n : Nat} {xs : Nat → Int32} (hn : n ≤ 3072) : Lw n xs 99 31465 0 [some (aS 10), none, none, none] [] (HS 0 R00 (fun _ _ => 0)) := by
  have z0 : Zr 0 R00 (fun _ _ => 0) := fun _ _ _ => ⟨rfl, rfl⟩
  refine lq_new (t := 11) (nn := 16) (dcd dLh rfl) (by decide) rfl lk_7 nw11 nj11 nt11 (by decide) (by decide) ?_
  rw [mkc_HS z0 rfl, HS_len (by decide)]
  refine lq_dup (dcd dLh rfl) rfl ?_
  refine lq_callI (ν := MX11_init) (as := []) (rest := [aR 0]) (dcd dLh rfl) lk_9 ciX11_init (ct_X11_0 (z0.mono (by decide))) (by decide) (by decide) (by decide) rfl rfl (by decide) (fun r h' hq => ?_)
  obtain ⟨e1, e2, z1⟩ := hq
  subst e1 e2
  refine lq_astore_n (x := 0) (L' := [some (aS 10), some (aR 0), none, none]) (dcd dLh rfl) rfl ?_
  refine lq_new (t := 12) (nn := 71) (dcd dLh rfl) (by decide) rfl lk_10 nw12 nj12 nt12 (by decide) (by decide) ?_
  rw [mkc_HS z1 rfl, HS_len (by decide)]
  refine lq_dup (dcd dLh rfl) rfl ?_
  refine lq_callI (ν := MX12_init) (as := []) (rest := [aR 57]) (dcd dLh rfl) lk_12 ciX12_init (ct_X12_57 (z1.mono (by decide))) (by decide) (by decide) (by decide) rfl rfl (by decide) (fun r h' hq => ?_)
  obtain ⟨e1, e2, z2⟩ := hq
  subst e1 e2
  refine lq_astore_n (x := 57) (L' := [some (aS 10), some (aR 0), some (aR 57), none]) (dcd dLh rfl) rfl ?_
  refine lq_iconst (dcd dLh rfl) (by decide) ?_
  refine lq_istore_n (L' := lwL 0) (dcd dLh rfl) rfl ?_
  exact lw_heq r0_eq (law_loop hn 512 0 (by omega) (by omega) I0 iv0)
/-- THE LAW, from its entry -/
theorem whole_start {p : Program} {e : Env} {s : State} {m : MethodId} {below : List Frame} {meth : Method} {c : Code} (l : Launch) {b L : Nat} {xs : Nat → Int32} (hL : L ≤ 3072) (C0 : lw_At p s m meth c b L xs) : W p l e room_1 s m #[Value.ref b] below meth c s.heap [] 0 0 (lw_Z below #[Value.ref b] s) (entryFrame m ([Value.ref b] : List Value).toArray 4) := by
  obtain ⟨D, tc, sa, hK, h10⟩ := kw_start C0
  obtain ⟨hx, hb, hr, hml, hown, hts, hX, hbl, hlocks, hgv⟩ := C0
  have hl := lv_entry ([.ref b]) (n := 4) (Nat.le_of_ble_eq_true rfl)
  rw [lg_entry_eq]
  generalize (lg_sl ([.ref b]) ++ List.replicate (4 - (lg_sl ([.ref b])).length) Slot.unset).toArray = ls at hl ⊢
  have hl : lv_has ls 4 [(0, .ref b)] := hl
  have el : lvOf (fun _ => 0) sa [some (aS 10), none, none, none] = [(0, Value.ref b)] := by
    show [(0, va_rf (sa 10))] = _
    rw [h10]
    rfl
  refine law_start (n := L) (xs := xs) hL p l e s m below meth c b D tc sa (fun _ => 0) s.heap [] ls 0 0 ⟨hx, hb, hr, hml, hown, fun w hw => hts w (List.mem_filter.mp hw).1, hX, hbl, hlocks, hK, h10⟩ ⟨fun k q h => ?_, ⟨fun i j u v h => ?_, fun k q h => ?_⟩, va_S.rf, fun u x h => ?_⟩ (by rw [el]; exact hl) ⟨trivial, fun i v hi => ?_⟩ ⟨by decide, by decide⟩
  · rw [show cw (fun _ => 0) tc (HS 0 R00 (fun _ _ => 0)) = [] from rfl] at h
    simp at h
  · rw [show cw (fun _ => 0) tc (HS 0 R00 (fun _ _ => 0)) = [] from rfl] at h
    simp at h
  · rw [show cw (fun _ => 0) tc (HS 0 R00 (fun _ _ => 0)) = [] from rfl] at h
    simp at h
  · have h' : ([] : List (Nat × Nat))[u]? = some x := h
    simp at h'
  · match i, hi with
    | 0, hi => cases hi; trivial
    | 1, hi => cases hi
    | 2, hi => cases hi
    | 3, hi => cases hi
    | i + 4, hi => cases hi
