def CT (t : Nat) : Prop := vwCl[t]? = some (clT t) ∧ (∀ w ∈ u_ws (clT t).1 (clT t).2.1 (clT t).2.2, w ∈ Wg) ∧ (∀ k, k < (clT t).2.2 → parseFieldDescriptor ((clT t).2.1 k).2.2.1 = some (fty t k)) ∧ (∀ a, a < (clT t).2.2 → ∀ b, b < (clT t).2.2 → a ≠ b → ((clT t).2.1 a).2.1 ≠ ((clT t).2.1 b).2.1)
theorem ct_in {C : String} {T : u_T} {N : Nat} (hs : List Nat) (h : (List.range N).all (fun k => decide (lw_tbl[hs.getD k 0]? = some (u_lay C T k)) && goodWord (u_lay C T k)) = true) : ∀ w ∈ u_ws C T N, w ∈ Wg := by
  intro w hw
  unfold u_ws at hw
  obtain ⟨k, hk, rfl⟩ := List.mem_map.mp hw
  have h1 := List.all_eq_true.mp h k hk
  rw [Bool.and_eq_true, decide_eq_true_eq] at h1
  exact in_Wg _ h1.1 h1.2
theorem ct_w0 : ∀ w ∈ u_ws RX0 TX0 3, w ∈ Wg := ct_in [398, 400, 402] (by decide +kernel)
theorem ct_w1 : ∀ w ∈ u_ws RX1 TX1 12, w ∈ Wg := ct_in [363, 365, 367, 369, 371, 373, 375, 377, 379, 381, 383, 385] (by decide +kernel)
theorem ct_w2 : ∀ w ∈ u_ws RX2 TX2 3, w ∈ Wg := ct_in [451, 453, 455] (by decide +kernel)
theorem ct_w3 : ∀ w ∈ u_ws RX3 TX3 10, w ∈ Wg := ct_in [212, 214, 216, 218, 220, 222, 224, 226, 228, 230] (by decide +kernel)
theorem ct_w4 : ∀ w ∈ u_ws RX4 TX4 5, w ∈ Wg := ct_in [470, 472, 474, 476, 478] (by decide +kernel)
theorem ct_w5 : ∀ w ∈ u_ws RX5 TX5 3, w ∈ Wg := ct_in [432, 434, 436] (by decide +kernel)
theorem ct_w6 : ∀ w ∈ u_ws RX6 TX6 13, w ∈ Wg := ct_in [504, 506, 508, 510, 512, 514, 516, 518, 520, 522, 524, 526, 528] (by decide +kernel)
theorem ct_w7 : ∀ w ∈ u_ws RX7 TX7 6, w ∈ Wg := ct_in [266, 268, 270, 272, 274, 276] (by decide +kernel)
theorem ct_w8 : ∀ w ∈ u_ws RX8 TX8 9, w ∈ Wg := ct_in [547, 549, 551, 553, 555, 557, 559, 561, 563] (by decide +kernel)
theorem ct_w9 : ∀ w ∈ u_ws RX9 TX9 2, w ∈ Wg := ct_in [173, 175] (by decide +kernel)
theorem ct_w10 : ∀ w ∈ u_ws RX10 TX10 4, w ∈ Wg := ct_in [412, 414, 416, 418] (by decide +kernel)
theorem ct_w11 : ∀ w ∈ u_ws RX11 TX11 16, w ∈ Wg := ct_in [582, 584, 586, 588, 590, 592, 594, 596, 598, 600, 602, 604, 606, 608, 610, 612] (by decide +kernel)
theorem ct_w12 : ∀ w ∈ u_ws RX12 TX12 71, w ∈ Wg := ct_in [1396, 1398, 1400, 1402, 1404, 1406, 1408, 1410, 1412, 1414, 1416, 1418, 1420, 1422, 1424, 1426, 1428, 1430, 1432, 1434, 1436, 1438, 1440, 1442, 1444, 1446, 1448, 1450, 1452, 1454, 1456, 1458, 1460, 1462, 1464, 1466, 1468, 1470, 1472, 1474, 1476, 1478, 1480, 1482, 1484, 1486, 1488, 1490, 1492, 1494, 1496, 1498, 1500, 1502, 1504, 1506, 1508, 1510, 1512, 1514, 1516, 1518, 1520, 1522, 1524, 1526, 1528, 1530, 1532, 1534, 1536] (by decide +kernel)
theorem ctok : ∀ t, t < 13 → CT t := by
  intro t ht
  match t, ht with
  | 0, _ => exact ⟨rfl, ct_w0, tyX0_ok, nmX0⟩
  | 1, _ => exact ⟨rfl, ct_w1, tyX1_ok, nmX1⟩
  | 2, _ => exact ⟨rfl, ct_w2, tyX2_ok, nmX2⟩
  | 3, _ => exact ⟨rfl, ct_w3, tyX3_ok, nmX3⟩
  | 4, _ => exact ⟨rfl, ct_w4, tyX4_ok, nmX4⟩
  | 5, _ => exact ⟨rfl, ct_w5, tyX5_ok, nmX5⟩
  | 6, _ => exact ⟨rfl, ct_w6, tyX6_ok, nmX6⟩
  | 7, _ => exact ⟨rfl, ct_w7, tyX7_ok, nmX7⟩
  | 8, _ => exact ⟨rfl, ct_w8, tyX8_ok, nmX8⟩
  | 9, _ => exact ⟨rfl, ct_w9, tyX9_ok, nmX9⟩
  | 10, _ => exact ⟨rfl, ct_w10, tyX10_ok, nmX10⟩
  | 11, _ => exact ⟨rfl, ct_w11, tyX11_ok, nmX11⟩
  | 12, _ => exact ⟨rfl, ct_w12, tyX12_ok, nmX12⟩
  | t + 13, h => exact absurd h (by omega)
def FL (oc idx t k : Nat) (fin : Bool) : Prop := t < 13 ∧ k < (clT t).2.2 ∧ Cond.fieldLink (rx oc) idx ((clT t).2.1 k).1 ((clT t).2.1 k).2.1 ((clT t).2.1 k).2.2.1 ∈ Wg ∧ ((clT t).2.1 k).2.2.2 = fin
theorem Fr.kW {μ : MR} {p : Program} {s : State} {m : MethodId} {args : Array Value} {meth : Method} {c : Code} {A : Nat → Prop} {D : va_G} {tc : Nat → ClassId} {sa : Nat → Option Nat} (F : Fr μ p s m args meth c A D tc sa) : kW D tc sa A s := F.2.2.2.2.2.2.2.2.2.1
theorem fl_at {ad : Nat → Nat} {h : AH} {p t n k : Nat} (hk : k < n) : (fl ad h p t n)[k]? = some (sv ad (h.2.1 p k) (h.2.2 p k) (kd t k)) := by
  unfold fl
  rw [List.getElem?_map, List.getElem?_range hk]
  rfl
theorem fl_len {ad : Nat → Nat} {h : AH} {p t n : Nat} : (fl ad h p t n).length = n := by unfold fl; simp
theorem cw_obj {ad : Nat → Nat} {tc : Nat → ClassId} {h : AH} {p t n : Nat} (hx : h.1[p]? = some (t, n)) (ht : t < 100) : (cw ad tc h)[p]? = some (ad p, .inr (t, fl ad h p t n)) := by
  rw [cw_at hx]
  unfold ce
  rw [if_pos ht]
theorem ce_100 {ad : Nat → Nat} {tc : Nat → ClassId} {h : AH} {p n : Nat} : ce ad tc h p (100, n) = .inl (tc 100, n, .inl (fun j => Int32.ofInt (h.2.2 p j))) := rfl
theorem ce_101 {ad : Nat → Nat} {tc : Nat → ClassId} {h : AH} {p n : Nat} : ce ad tc h p (101, n) = .inl (tc 101, n, .inr (.inl (fun j => Int64.ofInt (h.2.2 p j)))) := rfl
theorem ce_102 {ad : Nat → Nat} {tc : Nat → ClassId} {h : AH} {p n : Nat} : ce ad tc h p (102, n) = .inl (tc 102, n, .inl (fun j => Int32.ofInt (h.2.2 p j))) := rfl
theorem cw_ia {ad : Nat → Nat} {tc : Nat → ClassId} {h : AH} {p n : Nat} (hx : h.1[p]? = some (100, n)) : (cw ad tc h)[p]? = some (ad p, .inl (tc 100, n, .inl (fun j => Int32.ofInt (h.2.2 p j)))) := by
  rw [cw_at hx, ce_100]
theorem cw_za {ad : Nat → Nat} {tc : Nat → ClassId} {h : AH} {p n : Nat} (hx : h.1[p]? = some (102, n)) : (cw ad tc h)[p]? = some (ad p, .inl (tc 102, n, .inl (fun j => Int32.ofInt (h.2.2 p j)))) := by
  rw [cw_at hx, ce_102]
theorem cw_la {ad : Nat → Nat} {tc : Nat → ClassId} {h : AH} {p n : Nat} (hx : h.1[p]? = some (101, n)) : (cw ad tc h)[p]? = some (ad p, .inl (tc 101, n, .inr (.inl (fun j => Int64.ofInt (h.2.2 p j))))) := by
  rw [cw_at hx, ce_101]
/-- the world behind a change of one row of numbers -/
theorem cw_row {ad : Nat → Nat} {tc : Nat → ClassId} {h : AH} {p : Nat} {x : Nat × Nat} {I : Nat → Nat → Int} {E : va_E} (hx : h.1[p]? = some x) (ho : ∀ q, q ≠ p → ∀ j, I q j = h.2.2 q j) (hE : E = ce ad tc (h.1, h.2.1, I) p x) : (cw ad tc h).set p (ad p, E) = cw ad tc (h.1, h.2.1, I) := by
  have hlt : p < h.1.length := (List.getElem?_eq_some_iff.mp hx).1
  apply List.ext_getElem?
  intro j
  by_cases e : j = p
  · subst e
    rw [List.getElem?_set_self (by rw [cw_len]; exact hlt), cw_at (h := (h.1, h.2.1, I)) hx, hE]
  · rw [List.getElem?_set_ne (Ne.symm e)]
    unfold cw
    rw [List.getElem?_mapIdx, List.getElem?_mapIdx]
    cases hy : h.1[j]? with
    | none => rfl
    | some y =>
      dsimp only [Option.map]
      congr 2
      unfold ce fl
      simp only [ho j e]
theorem up_row {I : Nat → Nat → Int} {p k q : Nat} {v : Int} (h : q ≠ p) (j : Nat) : up I p k v q j = I q j := up_n (fun z => h z.1)
theorem up_ia {I : Nat → Nat → Int} {p k : Nat} {v : Int} : (fun j => Int32.ofInt (up I p k v p j)) = upd (fun j => Int32.ofInt (I p j)) k (Int32.ofInt v) := by
  funext j
  unfold up upd
  by_cases e : j = k
  · subst e; simp
  · simp [e]
theorem up_la {I : Nat → Nat → Int} {p k : Nat} {v : Int} : (fun j => Int64.ofInt (up I p k v p j)) = vp_updL (fun j => Int64.ofInt (I p j)) k (Int64.ofInt v) := by
  funext j
  unfold up vp_updL
  by_cases e : j = k
  · subst e; simp
  · simp [e]
theorem nar_z {x : Int} (h : x = 0 ∨ x = 1) : vp_nar .boolean (Int32.ofInt x) = Int32.ofInt x := by rcases h with e | e <;> subst e <;> rfl
def upr (rf : Nat → Nat → Option Nat) (p k : Nat) (v : Nat) : Nat → Nat → Option Nat := fun q j => if q = p ∧ j = k then some v else rf q j
theorem upr_s {I : Nat → Nat → Option Nat} {p k : Nat} {v : Nat} : upr I p k v p k = some v := by simp [upr]
theorem upr_n {I : Nat → Nat → Option Nat} {p k q j : Nat} {v : Nat} (h : ¬ (q = p ∧ j = k)) : upr I p k v q j = I q j := by simp [upr, h]
theorem cw_putR {ad : Nat → Nat} {tc : Nat → ClassId} {h : AH} {p k t n r : Nat} (hx : h.1[p]? = some (t, n)) (ht : t < 100) (hk : k < n) (hkd : kd t k = 2) : (cw ad tc h).set p (ad p, .inr (t, (fl ad h p t n).set k (.ref (ad r)))) = cw ad tc (h.1, upr h.2.1 p k r, h.2.2) := by
  have hlt : p < h.1.length := (List.getElem?_eq_some_iff.mp hx).1
  apply List.ext_getElem?
  intro j
  by_cases e : j = p
  · subst e
    rw [List.getElem?_set_self (by rw [cw_len]; exact hlt), cw_at (h := (h.1, upr h.2.1 j k r, h.2.2)) hx]
    congr 2
    unfold ce
    rw [if_pos ht]
    congr 2
    apply List.ext_getElem?
    intro i
    by_cases ei : i = k
    · subst ei
      rw [List.getElem?_set_self (by rw [fl_len]; exact hk), fl_at hk]
      dsimp only
      rw [upr_s, hkd]
      rfl
    · rw [List.getElem?_set_ne (Ne.symm ei)]
      by_cases hi : i < n
      · rw [fl_at hi, fl_at hi]
        dsimp only
        rw [upr_n (fun q => ei q.2)]
      · rw [List.getElem?_eq_none (by rw [fl_len]; omega), List.getElem?_eq_none (by rw [fl_len]; omega)]
  · rw [List.getElem?_set_ne (Ne.symm e)]
    unfold cw
    rw [List.getElem?_mapIdx, List.getElem?_mapIdx]
    cases hy : h.1[j]? with
    | none => rfl
    | some y =>
      dsimp only [Option.map]
      congr 2
      unfold ce fl
      have e2 : ∀ k', upr h.2.1 p k r j k' = h.2.1 j k' := fun k' => upr_n (fun q => e q.1)
      simp only [e2]
theorem okH_putR {h : AH} (hk : okH h) {p k r : Nat} (hr : r < h.1.length) : okH (h.1, upr h.2.1 p k r, h.2.2) := by
  intro q y hy j hj
  have hh := hk q y hy j hj
  refine ⟨hh.1, hh.2.1, fun z hz => ?_⟩
  dsimp only at hz
  by_cases e : q = p ∧ j = k
  · obtain ⟨e1, e2⟩ := e
    subst e1; subst e2
    rw [upr_s] at hz
    cases hz
    exact hr
  · rw [upr_n e] at hz
    exact hh.2.2 z hz
theorem wg_native : Cond.native arraycopyName ∈ Wg := in_Wg 841 (by decide +kernel) rfl
theorem wg_copyst : Cond.static arraycopyName ∈ Wg := in_Wg 840 (by decide +kernel) rfl
theorem wg_sysini : Cond.initialized "java/lang/System" ∈ Wg := in_Wg 151 (by decide +kernel) rfl
section ABH
variable {μ : MR} {d kc ks pc : Nat} {L : ML} {st : List AV} {h : AH} {Q : Option AV → AH → Prop}
theorem ab_getf {i q t n k : Nat} {fin : Bool} {v : AV} (hf : fnd (mrC μ) pc = some (.getfield i, 3)) (hfl : FL (mrO μ) i t k fin) (hq : h.1[q]? = some (t, n)) (hk : k < n) (hv : ∀ (ad : Nat → Nat) (sa : Nat → Option Nat), sv ad (h.2.1 q k) (h.2.2 q k) (kd t k) = cv ad sa v) (hov : okH h → okv h.1.length v) (kk : Ab μ d kc ks (pc + 3) L (v :: st) h Q) : Ab μ d kc ks pc L (aR q :: st) h Q := by
  intro p l e s m args below meth c A D tc sa ad ad0 n0 H locs ls cells slots mc ms F X hn hl hok hc
  have ht : t < 100 := by have := hfl.1; omega
  have hct := ctok t hfl.1
  refine va_get (C := (clT t).1) (T := (clT t).2.1) (N := (clT t).2.2) (v := cv ad sa v) F.1 F.2.1 F.hts hct.2.1 F.own F.kW.1 X.1 q (cw_obj hq ht) hct.1 k hfl.2.1 (F.hts _ hfl.2.2.1) (fun _ z => z) (by rw [fl_at hk, hv ad sa]) (Fr.dec F hf) ?_
  exact kk p l e s m args below meth c A D tc sa ad ad0 n0 H locs ls cells slots mc ms F X hn hl ⟨⟨hov X.2.2.2, hok.1.2⟩, hok.2⟩ hc
theorem ab_getI {i q t n k : Nat} {fin : Bool} (hf : fnd (mrC μ) pc = some (.getfield i, 3)) (hfl : FL (mrO μ) i t k fin) (hq : h.1[q]? = some (t, n)) (hk : k < n) (hkd : kd t k = 0) (kk : Ab μ d kc ks (pc + 3) L (aI (h.2.2 q k) :: st) h Q) : Ab μ d kc ks pc L (aR q :: st) h Q :=
  ab_getf (v := aI (h.2.2 q k)) hf hfl hq hk (fun _ _ => by rw [hkd]; rfl) (fun hh => (hh q _ hq k hk).1 hkd) kk
theorem ab_getJ {i q t n k : Nat} {fin : Bool} (hf : fnd (mrC μ) pc = some (.getfield i, 3)) (hfl : FL (mrO μ) i t k fin) (hq : h.1[q]? = some (t, n)) (hk : k < n) (hkd : kd t k = 1) (kk : Ab μ d kc ks (pc + 3) L (aJ (h.2.2 q k) :: st) h Q) : Ab μ d kc ks pc L (aR q :: st) h Q :=
  ab_getf (v := aJ (h.2.2 q k)) hf hfl hq hk (fun _ _ => by rw [hkd]; rfl) (fun hh => (hh q _ hq k hk).2.1 hkd) kk
theorem ab_getR {i q t n k r : Nat} {fin : Bool} (hf : fnd (mrC μ) pc = some (.getfield i, 3)) (hfl : FL (mrO μ) i t k fin) (hq : h.1[q]? = some (t, n)) (hk : k < n) (hkd : kd t k = 2) (hr : h.2.1 q k = some r) (kk : Ab μ d kc ks (pc + 3) L (aR r :: st) h Q) : Ab μ d kc ks pc L (aR q :: st) h Q :=
  ab_getf (v := aR r) hf hfl hq hk (fun _ _ => by rw [hkd, hr]; rfl) (fun hh => (hh q _ hq k hk).2.2 r hr) kk
theorem ab_putI {i q t n k : Nat} {x : Int} (hf : fnd (mrC μ) pc = some (.putfield i, 3)) (hfl : FL (mrO μ) i t k false) (hq : h.1[q]? = some (t, n)) (hk : k < n) (hty : fty t k = .int) (kk : Ab μ d kc ks (pc + 3) L st (h.1, h.2.1, up h.2.2 q k x) Q) : Ab μ d kc ks pc L (aI x :: aR q :: st) h Q := by
  intro p l e s m args below meth c A D tc sa ad ad0 n0 H locs ls cells slots mc ms F X hn hl hok hc
  have ht : t < 100 := by have := hfl.1; omega
  have hct := ctok t hfl.1
  have hkd : kd t k = 0 := by unfold kd; rw [if_pos ht, hty]; rfl
  refine va_put (C := (clT t).1) (T := (clT t).2.1) (N := (clT t).2.2) (ty := .int) F.1 F.2.1 F.hts hct.2.1 (fty t) hct.2.2.1 hct.2.2.2 F.own F.kW.1 X.1 X.2.1 X.2.2.1 q (cw_obj hq ht) hct.1 k hfl.2.1 (F.hts _ hfl.2.2.1) (fun _ z => z) hfl.2.2.2 (by rw [hct.2.2.1 k hfl.2.1, hty]) rfl rfl (by rw [fl_len]; exact hk) (Fr.dec F hf) (fun H1 locs1 hP hD hS => ?_)
  rw [cw_put (v := x) hq ht hk (fun r => by rw [hkd]; rfl)] at hP hD
  exact kk p l e s m args below meth c A D tc sa ad ad0 n0 H1 locs1 ls cells slots mc ms F ⟨hP, hD, hS, okH_put X.2.2.2 hq (fun _ => hok.1.1) (fun z => by rw [hkd] at z; cases z)⟩ hn hl ⟨hok.1.2.2, hok.2⟩ hc
theorem ab_putZ {i q t n k : Nat} {x : Int} (hf : fnd (mrC μ) pc = some (.putfield i, 3)) (hfl : FL (mrO μ) i t k false) (hq : h.1[q]? = some (t, n)) (hk : k < n) (hty : fty t k = .boolean) (hx : x = 0 ∨ x = 1) (kk : Ab μ d kc ks (pc + 3) L st (h.1, h.2.1, up h.2.2 q k x) Q) : Ab μ d kc ks pc L (aI x :: aR q :: st) h Q := by
  intro p l e s m args below meth c A D tc sa ad ad0 n0 H locs ls cells slots mc ms F X hn hl hok hc
  have ht : t < 100 := by have := hfl.1; omega
  have hct := ctok t hfl.1
  have hkd : kd t k = 0 := by unfold kd; rw [if_pos ht, hty]; rfl
  refine va_put (C := (clT t).1) (T := (clT t).2.1) (N := (clT t).2.2) (ty := .boolean) F.1 F.2.1 F.hts hct.2.1 (fty t) hct.2.2.1 hct.2.2.2 F.own F.kW.1 X.1 X.2.1 X.2.2.1 q (cw_obj hq ht) hct.1 k hfl.2.1 (F.hts _ hfl.2.2.1) (fun _ z => z) hfl.2.2.2 (by rw [hct.2.2.1 k hfl.2.1, hty]) (by rcases hx with e | e <;> subst e <;> rfl) (by rcases hx with e | e <;> subst e <;> rfl) (by rw [fl_len]; exact hk) (Fr.dec F hf) (fun H1 locs1 hP hD hS => ?_)
  rw [cw_put (v := x) hq ht hk (fun r => by rw [hkd]; rfl)] at hP hD
  exact kk p l e s m args below meth c A D tc sa ad ad0 n0 H1 locs1 ls cells slots mc ms F ⟨hP, hD, hS, okH_put X.2.2.2 hq (fun _ => hok.1.1) (fun z => by rw [hkd] at z; cases z)⟩ hn hl ⟨hok.1.2.2, hok.2⟩ hc
theorem ab_putJ {i q t n k : Nat} {x : Int} (hf : fnd (mrC μ) pc = some (.putfield i, 3)) (hfl : FL (mrO μ) i t k false) (hq : h.1[q]? = some (t, n)) (hk : k < n) (hty : fty t k = .long) (kk : Ab μ d kc ks (pc + 3) L st (h.1, h.2.1, up h.2.2 q k x) Q) : Ab μ d kc ks pc L (aJ x :: aR q :: st) h Q := by
  intro p l e s m args below meth c A D tc sa ad ad0 n0 H locs ls cells slots mc ms F X hn hl hok hc
  have ht : t < 100 := by have := hfl.1; omega
  have hct := ctok t hfl.1
  have hkd : kd t k = 1 := by unfold kd; rw [if_pos ht, hty]; rfl
  refine va_put (C := (clT t).1) (T := (clT t).2.1) (N := (clT t).2.2) (ty := .long) F.1 F.2.1 F.hts hct.2.1 (fty t) hct.2.2.1 hct.2.2.2 F.own F.kW.1 X.1 X.2.1 X.2.2.1 q (cw_obj hq ht) hct.1 k hfl.2.1 (F.hts _ hfl.2.2.1) (fun _ z => z) hfl.2.2.2 (by rw [hct.2.2.1 k hfl.2.1, hty]) rfl rfl (by rw [fl_len]; exact hk) (Fr.dec F hf) (fun H1 locs1 hP hD hS => ?_)
  rw [cw_put (v := x) hq ht hk (fun r => by rw [hkd]; rfl)] at hP hD
  exact kk p l e s m args below meth c A D tc sa ad ad0 n0 H1 locs1 ls cells slots mc ms F ⟨hP, hD, hS, okH_put X.2.2.2 hq (fun z => by rw [hkd] at z; cases z) (fun _ => hok.1.1)⟩ hn hl ⟨hok.1.2.2, hok.2⟩ hc
theorem ab_putF {i q t n k r : Nat} (hf : fnd (mrC μ) pc = some (.putfield i, 3)) (hfl : FL (mrO μ) i t k true) (hq : h.1[q]? = some (t, n)) (hk : k < n) (hin : (mrY μ).name = "<init>") (hdc : ((clT t).2.1 k).1 = rx (mrO μ)) (hty : refKind (fty t k) = true) (kk : Ab μ d kc ks (pc + 3) L st (h.1, upr h.2.1 q k r, h.2.2) Q) : Ab μ d kc ks pc L (aR r :: aR q :: st) h Q := by
  intro p l e s m args below meth c A D tc sa ad ad0 n0 H locs ls cells slots mc ms F X hn hl hok hc
  have ht : t < 100 := by have := hfl.1; omega
  have hct := ctok t hfl.1
  have hkd : kd t k = 2 := by
    unfold kd; rw [if_pos ht]
    revert hty
    cases fty t k <;> first | (intro z; rfl) | (intro z; cases z)
  have h1 : narrow (fty t k) (.ref (ad r)) = .ref (ad r) := by
    revert hty
    cases fty t k <;> first | (intro z; rfl) | (intro z; cases z)
  have h2 : fits (fty t k) (.ref (ad r)) = true := by
    revert hty
    cases fty t k <;> first | (intro z; rfl) | (intro z; cases z)
  refine va_putF (C := (clT t).1) (T := (clT t).2.1) (N := (clT t).2.2) (ty := fty t k) F.1 F.2.1 F.hts hct.2.1 (fty t) hct.2.2.1 hct.2.2.2 F.own F.kW.1 X.1 X.2.1 X.2.2.1 q (cw_obj hq ht) hct.1 k hfl.2.1 (F.hts _ hfl.2.2.1) (fun _ z => z) hfl.2.2.2 (F.2.2.2.2.2.2.2.1.trans hin) hdc (hct.2.2.1 k hfl.2.1) h1 h2 (by rw [fl_len]; exact hk) (Fr.dec F hf) (fun H1 locs1 hP hD hS => ?_)
  rw [show cv ad sa (aR r) = Value.ref (ad r) from rfl, cw_putR hq ht hk hkd] at hP hD
  exact kk p l e s m args below meth c A D tc sa ad ad0 n0 H1 locs1 ls cells slots mc ms F ⟨hP, hD, hS, okH_putR X.2.2.2 hok.1.1⟩ hn hl ⟨hok.1.2.2, hok.2⟩ hc
theorem ab_iald {q n : Nat} {x : Int} (hf : fnd (mrC μ) pc = some (.iaload, 1)) (hq : h.1[q]? = some (100, n)) (h0 : 0 ≤ x) (h1 : x < n) (kk : Ab μ d kc ks (pc + 1) L (aI (h.2.2 q x.toNat) :: st) h Q) : Ab μ d kc ks pc L (aI x :: aR q :: st) h Q := by
  intro p l e s m args below meth c A D tc sa ad ad0 n0 H locs ls cells slots mc ms F X hn hl hok hc
  refine va_iald F.1 F.2.1 F.kW.1 X.1 q 0 (cw_ia hq) rfl (q_in h0 h1 hok.1.1) (Fr.dec F hf) ?_
  rw [q_nat h0 hok.1.1]
  exact kk p l e s m args below meth c A D tc sa ad ad0 n0 H locs ls cells slots mc ms F X hn hl ⟨⟨(X.2.2.2 q _ hq x.toNat (by show x.toNat < n; omega)).1 rfl, hok.1.2.2⟩, hok.2⟩ hc
theorem ab_zald {q n : Nat} {x : Int} (hf : fnd (mrC μ) pc = some (.baload, 1)) (hq : h.1[q]? = some (102, n)) (h0 : 0 ≤ x) (h1 : x < n) (kk : Ab μ d kc ks (pc + 1) L (aI (h.2.2 q x.toNat) :: st) h Q) : Ab μ d kc ks pc L (aI x :: aR q :: st) h Q := by
  intro p l e s m args below meth c A D tc sa ad ad0 n0 H locs ls cells slots mc ms F X hn hl hok hc
  refine va_zald F.1 F.2.1 F.kW.1 X.1 q 2 (cw_za hq) rfl (q_in h0 h1 hok.1.1) (Fr.dec F hf) ?_
  rw [q_nat h0 hok.1.1]
  exact kk p l e s m args below meth c A D tc sa ad ad0 n0 H locs ls cells slots mc ms F X hn hl ⟨⟨(X.2.2.2 q _ hq x.toNat (by show x.toNat < n; omega)).1 rfl, hok.1.2.2⟩, hok.2⟩ hc
theorem ab_lald {q n : Nat} {x : Int} (hf : fnd (mrC μ) pc = some (.laload, 1)) (hq : h.1[q]? = some (101, n)) (h0 : 0 ≤ x) (h1 : x < n) (kk : Ab μ d kc ks (pc + 1) L (aJ (h.2.2 q x.toNat) :: st) h Q) : Ab μ d kc ks pc L (aI x :: aR q :: st) h Q := by
  intro p l e s m args below meth c A D tc sa ad ad0 n0 H locs ls cells slots mc ms F X hn hl hok hc
  refine va_lald F.1 F.2.1 F.kW.1 X.1 q 1 (cw_la hq) rfl (q_in h0 h1 hok.1.1) (Fr.dec F hf) ?_
  rw [q_nat h0 hok.1.1]
  exact kk p l e s m args below meth c A D tc sa ad ad0 n0 H locs ls cells slots mc ms F X hn hl ⟨⟨(X.2.2.2 q _ hq x.toNat (by show x.toNat < n; omega)).2.1 rfl, hok.1.2.2⟩, hok.2⟩ hc
theorem ab_iast {q n : Nat} {x v : Int} (hf : fnd (mrC μ) pc = some (.iastore, 1)) (hq : h.1[q]? = some (100, n)) (h0 : 0 ≤ x) (h1 : x < n) (kk : Ab μ d kc ks (pc + 1) L st (h.1, h.2.1, up h.2.2 q x.toNat v) Q) : Ab μ d kc ks pc L (aI v :: aI x :: aR q :: st) h Q := by
  intro p l e s m args below meth c A D tc sa ad ad0 n0 H locs ls cells slots mc ms F X hn hl hok hc
  refine va_iast F.1 F.2.1 F.kW.1 X.1 X.2.1 X.2.2.1 q 0 (cw_ia hq) rfl (q_in h0 h1 hok.1.2.1) (Fr.dec F hf) (fun H1 locs1 hP hD hS => ?_)
  rw [q_nat h0 hok.1.2.1, cw_row (I := up h.2.2 q x.toNat v) hq (fun z hz j => up_row hz j) (by rw [ce_100]; dsimp only; rw [up_ia])] at hP hD
  exact kk p l e s m args below meth c A D tc sa ad ad0 n0 H1 locs1 ls cells slots mc ms F ⟨hP, hD, hS, okH_put X.2.2.2 hq (fun _ => hok.1.1) (fun z => by cases z)⟩ hn hl ⟨hok.1.2.2.2, hok.2⟩ hc
theorem ab_zast {q n : Nat} {x v : Int} (hf : fnd (mrC μ) pc = some (.bastore, 1)) (hq : h.1[q]? = some (102, n)) (h0 : 0 ≤ x) (h1 : x < n) (hv : v = 0 ∨ v = 1) (kk : Ab μ d kc ks (pc + 1) L st (h.1, h.2.1, up h.2.2 q x.toNat v) Q) : Ab μ d kc ks pc L (aI v :: aI x :: aR q :: st) h Q := by
  intro p l e s m args below meth c A D tc sa ad ad0 n0 H locs ls cells slots mc ms F X hn hl hok hc
  refine va_zast F.1 F.2.1 F.kW.1 X.1 X.2.1 X.2.2.1 q 2 (cw_za hq) rfl (q_in h0 h1 hok.1.2.1) (Fr.dec F hf) (fun H1 locs1 hP hD hS => ?_)
  rw [q_nat h0 hok.1.2.1, nar_z hv, cw_row (I := up h.2.2 q x.toNat v) hq (fun z hz j => up_row hz j) (by rw [ce_102]; dsimp only; rw [up_ia])] at hP hD
  exact kk p l e s m args below meth c A D tc sa ad ad0 n0 H1 locs1 ls cells slots mc ms F ⟨hP, hD, hS, okH_put X.2.2.2 hq (fun _ => hok.1.1) (fun z => by cases z)⟩ hn hl ⟨hok.1.2.2.2, hok.2⟩ hc
theorem ab_last {q n : Nat} {x v : Int} (hf : fnd (mrC μ) pc = some (.lastore, 1)) (hq : h.1[q]? = some (101, n)) (h0 : 0 ≤ x) (h1 : x < n) (kk : Ab μ d kc ks (pc + 1) L st (h.1, h.2.1, up h.2.2 q x.toNat v) Q) : Ab μ d kc ks pc L (aJ v :: aI x :: aR q :: st) h Q := by
  intro p l e s m args below meth c A D tc sa ad ad0 n0 H locs ls cells slots mc ms F X hn hl hok hc
  refine va_last F.1 F.2.1 F.kW.1 X.1 X.2.1 X.2.2.1 q 1 (cw_la hq) rfl (q_in h0 h1 hok.1.2.1) (Fr.dec F hf) (fun H1 locs1 hP hD hS => ?_)
  rw [q_nat h0 hok.1.2.1, cw_row (I := up h.2.2 q x.toNat v) hq (fun z hz j => up_row hz j) (by rw [ce_101]; dsimp only; rw [up_la])] at hP hD
  exact kk p l e s m args below meth c A D tc sa ad ad0 n0 H1 locs1 ls cells slots mc ms F ⟨hP, hD, hS, okH_put X.2.2.2 hq (fun z => by cases z) (fun _ => hok.1.1)⟩ hn hl ⟨hok.1.2.2.2, hok.2⟩ hc
theorem ab_gets {i j : Nat} (hf : fnd (mrC μ) pc = some (.getstatic i, 3)) (hj : j < 7) (hlk : ∃ k : Nat, lw_tbl[k]? = some (Cond.fieldLinkNest (rx (mrO μ)) i "WrongTide" (stn j) "[I" "WrongTide")) (kk : Ab μ d kc ks (pc + 3) L (aS j :: st) h Q) : Ab μ d kc ks pc L st h Q := by
  intro p l e s m args below meth c A D tc sa ad ad0 n0 H locs ls cells slots mc ms F X hn hl hok hc
  obtain ⟨k, hk⟩ := hlk
  obtain ⟨a, h1, h2, -⟩ := F.kW.2.2.1 j hj
  have h3 := kk p l e s m args below meth c A D tc sa ad ad0 n0 H locs ls cells slots mc ms F X hn hl ⟨⟨trivial, hok.1⟩, hok.2⟩ hc
  have e : cv ad sa (aS j) = .ref a := by show va_rf (sa j) = _; rw [h1]; rfl
  rw [List.map_cons, e] at h3
  exact va_getsN F.1 F.2.1 h2 X.2.2.1 F.own (va_Nw.use rfl (F.kW.2.1 _ (List.mem_of_getElem? hk) rfl)) (fun _ z => z) (Fr.dec F hf) h3
theorem ab_sald {j : Nat} {x : Int} (hf : fnd (mrC μ) pc = some (.iaload, 1)) (hj : j < 7) (h0 : 0 ≤ x) (h1 : x < ((stl j).length : Nat)) (hin : in32 ((stl j).getD x.toNat 0)) (kk : Ab μ d kc ks (pc + 1) L (aI ((stl j).getD x.toNat 0) :: st) h Q) : Ab μ d kc ks pc L (aI x :: aS j :: st) h Q := by
  intro p l e s m args below meth c A D tc sa ad ad0 n0 H locs ls cells slots mc ms F X hn hl hok hc
  obtain ⟨a, g1, -, g2⟩ := F.kW.2.2.1 j hj
  have ee : cv ad sa (aS j) = .ref a := by show va_rf (sa j) = _; rw [g1]; rfl
  rw [List.map_cons, List.map_cons, ee]
  refine va_ti (v := .int (Int32.ofInt ((stl j).getD x.toNat 0))) F.1 F.2.1 g2 X.2.2.1 (q_in h0 h1 hok.1.1) (by rw [q_nat h0 hok.1.1]) (Fr.dec F hf) ?_
  exact kk p l e s m args below meth c A D tc sa ad ad0 n0 H locs ls cells slots mc ms F X hn hl ⟨⟨hin, hok.1.2.2⟩, hok.2⟩ hc
def cpy (I : Nat → Nat → Int) (q0 q1 sp dp n : Nat) : Nat → Nat → Int := fun q j => if q = q1 ∧ dp ≤ j ∧ j < dp + n then I q0 (sp + (j - dp)) else I q j
theorem ab_copy {i q0 q1 n0' n1 : Nat} {sp dp n : Int} (hf : fnd (mrC μ) pc = some (.invokestatic i, 3)) (hlk : Cond.methodLink (rx (mrO μ)) i arraycopyName ∈ Wg) (hd : 1 ≤ d) (hq0 : h.1[q0]? = some (100, n0')) (hq1 : h.1[q1]? = some (100, n1)) (h1 : 0 ≤ sp) (h2 : 0 ≤ dp) (h3 : 0 ≤ n) (h4 : sp + n ≤ n0') (h5 : dp + n ≤ n1) (kk : Ab μ d kc ks (pc + 3) L [] (h.1, h.2.1, cpy h.2.2 q0 q1 sp.toNat dp.toNat n.toNat) Q) : Ab μ d kc ks pc L [aI n, aI dp, aR q1, aI sp, aR q0] h Q := by
  intro p l e s m args below meth c A D tc sa ad ad0 n0 H locs ls cells slots mc ms F X hn hl hok hc
  have i1 := hok.1.1
  have i2 := hok.1.2.1
  have i3 := hok.1.2.2.2.1
  refine va_copyi F.1 F.2.1 (F.2.2.2.1.trans hl.1.symm) F.own (F.hts _ hlk) (F.hts _ wg_native) (F.hts _ wg_copyst) (F.hts _ wg_sysini) F.kW.1 X.1 X.2.1 X.2.2.1 q0 q1 0 0 (cw_ia hq0) (cw_ia hq1) rfl rfl rfl (rest := []) (by rw [← q_0, c32_lt i3 in32_0]; omega) (by rw [← q_0, c32_lt i2 in32_0]; omega) (by rw [← q_0, c32_lt i1 in32_0]; omega) (by rw [q_nat h1 i3, q_nat h3 i1]; omega) (by rw [q_nat h2 i2, q_nat h3 i1]; omega) (fun _ _ => rfl) hd (by show 0 + (7 + 11) ≤ 40 * d; omega) (Fr.dec F hf) (fun H1 locs1 hP hD hS => ?_)
  rw [q_nat h1 i3, q_nat h2 i2, q_nat h3 i1] at hP hD
  rw [cw_row (I := cpy h.2.2 q0 q1 sp.toNat dp.toNat n.toNat) hq1 (fun z hz j => by unfold cpy; rw [if_neg (fun w => hz w.1)]) (by
    rw [ce_100]
    congr 4
    funext j
    unfold va_cpy cpy
    dsimp only
    by_cases w : dp.toNat ≤ j ∧ j < dp.toNat + n.toNat
    · rw [if_pos w, if_pos ⟨rfl, w⟩]
    · rw [if_neg w, if_neg (fun z => w z.2)])] at hP hD
  refine kk p l e s m args below meth c A D tc sa ad ad0 n0 H1 locs1 ls cells slots mc ms F ⟨hP, hD, hS, fun q y hy j hj => ?_⟩ hn hl ⟨trivial, hok.2⟩ hc
  have hh := X.2.2.2 q y hy j hj
  refine ⟨fun z => ?_, fun z => ?_, hh.2.2⟩
  · show in32 (cpy _ _ _ _ _ _ q j)
    unfold cpy
    by_cases w : q = q1 ∧ dp.toNat ≤ j ∧ j < dp.toNat + n.toNat
    · rw [if_pos w]
      exact (X.2.2.2 q0 _ hq0 _ (by show sp.toNat + (j - dp.toNat) < n0'; omega)).1 rfl
    · rw [if_neg w]; exact hh.1 z
  · show in64 (cpy _ _ _ _ _ _ q j)
    unfold cpy
    by_cases w : q = q1 ∧ dp.toNat ≤ j ∧ j < dp.toNat + n.toNat
    · obtain ⟨w1, w2⟩ := w
      subst w1
      have ey : y = (100, n1) := Option.some.inj (hy.symm.trans hq1)
      subst ey
      cases z
    · rw [if_neg w]; exact hh.2.1 z
end ABH
