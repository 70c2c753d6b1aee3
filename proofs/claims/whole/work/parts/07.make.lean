theorem wg_maxS : Cond.static Lib.Math.max.name ∈ Wg := in_Wg 889 (by decide +kernel) rfl
theorem wg_maxC : Cond.code Lib.Math.max.name Lib.Math.max.code 2 (some .int) ∈ Wg := in_Wg 890 (by decide +kernel) rfl
theorem wg_minS : Cond.static Lib.Math.min.name ∈ Wg := in_Wg 886 (by decide +kernel) rfl
theorem wg_minC : Cond.code Lib.Math.min.name Lib.Math.min.code 2 (some .int) ∈ Wg := in_Wg 887 (by decide +kernel) rfl
theorem wg_absS : Cond.static Lib.Math.abs.name ∈ Wg := in_Wg 959 (by decide +kernel) rfl
theorem wg_absC : Cond.code Lib.Math.abs.name Lib.Math.abs.code 1 (some .int) ∈ Wg := in_Wg 960 (by decide +kernel) rfl
theorem wg_mathI : Cond.initialized "java/lang/Math" ∈ Wg := in_Wg 152 (by decide +kernel) rfl
theorem wg_obI : Cond.instanceMethod objectInit ∈ Wg := in_Wg 159 (by decide +kernel) rfl
theorem wg_obC : Cond.code objectInit ⟨#[0xb1]⟩ 1 none ∈ Wg := in_Wg 160 (by decide +kernel) rfl
theorem wg_ac_int : Cond.arrayClass .int ∈ Wg := in_Wg 178 (by decide +kernel) rfl
theorem wg_ac_long : Cond.arrayClass .long ∈ Wg := in_Wg 1539 (by decide +kernel) rfl
theorem wg_ac_boolean : Cond.arrayClass .boolean ∈ Wg := in_Wg 531 (by decide +kernel) rfl
section ABM
variable {μ : MR} {d kc ks pc i : Nat} {L : ML} {st : List AV} {h : AH} {Q : Option AV → AH → Prop}
theorem ab_mmax {x y : Int} (hf : fnd (mrC μ) pc = some (.invokestatic i, 3)) (hlk : Cond.methodLink (rx (mrO μ)) i Lib.Math.max.name ∈ Wg) (hd : 1 ≤ d) (hw : wtS st ≤ 8) (k : Ab μ d kc ks (pc + 3) L (aI (max x y) :: st) h Q) : Ab μ d kc ks pc L (aI y :: aI x :: st) h Q := by
  intro p l e s m args below meth c A D tc sa ad ad0 n0 H locs ls cells slots mc ms F X hn hl hok hc
  refine va_mmax F.1 F.2.1 (F.2.2.2.1.trans hl.1.symm) F.own (F.hts _ hlk) (F.hts _ wg_maxS) (F.hts _ wg_mathI) (F.hts _ wg_maxC) (by show 1 ≤ d; exact hd) (by rw [wtS_eq]; show wtS st + 13 ≤ 40 * d; omega) (by show cells ≤ mc; omega) (by show slots ≤ ms; omega) (Fr.dec F hf) ?_
  have ee : (if Int32.ofInt x < Int32.ofInt y then Int32.ofInt y else Int32.ofInt x) = Int32.ofInt (max x y) := by
    rw [show (max x y) = if x ≤ y then y else x from Int.max_def x y]
    by_cases q : x < y
    · rw [if_pos ((c32_lt hok.1.2.1 hok.1.1).mpr q), if_pos (by omega)]
    · rw [if_neg (fun z => q ((c32_lt hok.1.2.1 hok.1.1).mp z))]
      by_cases q2 : x ≤ y
      · rw [if_pos q2, show x = y by omega]
      · rw [if_neg q2]
  rw [ee]
  have o1 : in32 x := hok.1.2.1
  have o2 : in32 y := hok.1.1
  exact k p l e s m args below meth c A D tc sa ad ad0 n0 H locs ls cells slots mc ms F X hn hl ⟨⟨by show in32 (max x y); unfold in32 at *; omega, hok.1.2.2⟩, hok.2⟩ hc
theorem ab_mmin {x y : Int} (hf : fnd (mrC μ) pc = some (.invokestatic i, 3)) (hlk : Cond.methodLink (rx (mrO μ)) i Lib.Math.min.name ∈ Wg) (hd : 1 ≤ d) (hw : wtS st ≤ 8) (k : Ab μ d kc ks (pc + 3) L (aI (min x y) :: st) h Q) : Ab μ d kc ks pc L (aI y :: aI x :: st) h Q := by
  intro p l e s m args below meth c A D tc sa ad ad0 n0 H locs ls cells slots mc ms F X hn hl hok hc
  refine va_mmin F.1 F.2.1 (F.2.2.2.1.trans hl.1.symm) F.own (F.hts _ hlk) (F.hts _ wg_minS) (F.hts _ wg_mathI) (F.hts _ wg_minC) (by show 1 ≤ d; exact hd) (by rw [wtS_eq]; show wtS st + 13 ≤ 40 * d; omega) (by show cells ≤ mc; omega) (by show slots ≤ ms; omega) (Fr.dec F hf) ?_
  have ee : (if Int32.ofInt y < Int32.ofInt x then Int32.ofInt y else Int32.ofInt x) = Int32.ofInt (min x y) := by
    rw [show (min x y) = if x ≤ y then x else y from Int.min_def x y]
    by_cases q : y < x
    · rw [if_pos ((c32_lt hok.1.1 hok.1.2.1).mpr q), if_neg (by omega)]
    · rw [if_neg (fun z => q ((c32_lt hok.1.1 hok.1.2.1).mp z)), if_pos (by omega)]
  rw [ee]
  have o1 : in32 x := hok.1.2.1
  have o2 : in32 y := hok.1.1
  exact k p l e s m args below meth c A D tc sa ad ad0 n0 H locs ls cells slots mc ms F X hn hl ⟨⟨by show in32 (min x y); unfold in32 at *; omega, hok.1.2.2⟩, hok.2⟩ hc
theorem ab_mabs {x z : Int} (hf : fnd (mrC μ) pc = some (.invokestatic i, 3)) (hlk : Cond.methodLink (rx (mrO μ)) i Lib.Math.abs.name ∈ Wg) (hd : 1 ≤ d) (hw : wtS st ≤ 8) (hz : (0 ≤ x ∧ z = x) ∨ (x < 0 ∧ -2147483648 < x ∧ z = -x)) (k : Ab μ d kc ks (pc + 3) L (aI z :: st) h Q) : Ab μ d kc ks pc L (aI x :: st) h Q := by
  intro p l e s m args below meth c A D tc sa ad ad0 n0 H locs ls cells slots mc ms F X hn hl hok hc
  refine va_mabs F.1 F.2.1 (F.2.2.2.1.trans hl.1.symm) F.own (F.hts _ hlk) (F.hts _ wg_absS) (F.hts _ wg_mathI) (F.hts _ wg_absC) (by show 1 ≤ d; exact hd) (by rw [wtS_eq]; show wtS st + 13 ≤ 40 * d; omega) (by show cells ≤ mc; omega) (by show slots ≤ ms; omega) (Fr.dec F hf) ?_
  have o1 : in32 x := hok.1.1
  have ee : (if 0 ≤ Int32.ofInt x then Int32.ofInt x else 0 - Int32.ofInt x) = Int32.ofInt z := by
    rcases hz with ⟨q, e⟩ | ⟨q, q2, e⟩
    · rw [if_pos (by rw [← q_0]; exact (c32_le in32_0 o1).mpr q), e]
    · rw [if_neg (fun w => by rw [← q_0, c32_le in32_0 o1] at w; omega), ← q_0, q_sub, e, q_w32]
      congr 1
      omega
  rw [ee]
  exact k p l e s m args below meth c A D tc sa ad ad0 n0 H locs ls cells slots mc ms F X hn hl ⟨⟨by show in32 z; unfold in32 at *; omega, hok.1.2⟩, hok.2⟩ hc
theorem ab_objI {q : Nat} (hf : fnd (mrC μ) pc = some (.invokespecial i, 3)) (hlk : Cond.methodLink (rx (mrO μ)) i objectInit ∈ Wg) (hd : 1 ≤ d) (hw : wtS st ≤ 8) (k : Ab μ d kc ks (pc + 3) L st h Q) : Ab μ d kc ks pc L (aR q :: st) h Q := by
  intro p l e s m args below meth c A D tc sa ad ad0 n0 H locs ls cells slots mc ms F X hn hl hok hc
  refine W.objInit F.1 F.2.1 F.own (F.hts _ hlk) (F.hts _ wg_obI) (F.hts _ wg_obC) (g := F0 m pc ls (.ref (ad q) :: st.map (cv ad sa))) rfl (hl.1.trans F.2.2.2.1.symm) rfl (Fr.dec F hf) (by show 1 ≤ d; exact hd) (by rw [wtS_eq]; show 2 * 0 + wtS st + 12 ≤ 40 * d; omega) ?_
  exact k p l e s m args below meth c A D tc sa ad ad0 n0 H locs ls cells slots mc ms F X hn hl ⟨hok.1.2, hok.2⟩ hc
def mkc (h : AH) (t n : Nat) : AH := (h.1 ++ [(t, n)], fun p k => if p = h.1.length then none else h.2.1 p k, fun p k => if p = h.1.length then 0 else h.2.2 p k)
def adx (ad : Nat → Nat) (n a : Nat) : Nat → Nat := fun q => if q = n then a else ad q
theorem adx_lt {ad : Nat → Nat} {n a : Nat} : ∀ q, q < n → adx ad n a q = ad q := fun q hq => by unfold adx; rw [if_neg (by omega)]
theorem sv_same {ad ad' : Nat → Nat} {n : Nat} (hh : ∀ q, q < n → ad' q = ad q) {r : Option Nat} (hr : ∀ q, r = some q → q < n) (a : Int) : ∀ k, sv ad' r a k = sv ad r a k
  | 0 => rfl
  | 1 => rfl
  | k + 2 => by
    cases r with
    | none => rfl
    | some q => exact congrArg Value.ref (hh q (hr q rfl))
theorem cw_mk {ad : Nat → Nat} {tc : Nat → ClassId} {h : AH} {t n a : Nat} (hk : okH h) : cw (adx ad h.1.length a) tc (mkc h t n) = cw ad tc h ++ [(a, ce (adx ad h.1.length a) tc (mkc h t n) h.1.length (t, n))] := by
  apply List.ext_getElem?
  intro j
  by_cases hj : j < h.1.length
  · rw [List.getElem?_append_left (by rw [cw_len]; exact hj)]
    have hx : h.1[j]? = some h.1[j] := List.getElem?_eq_getElem hj
    rw [cw_at hx, cw_at (h := mkc h t n) (x := h.1[j]) (by show (h.1 ++ [(t, n)])[j]? = _; rw [List.getElem?_append_left hj]; exact hx), adx_lt j hj]
    congr 2
    have e1 : ∀ k, (mkc h t n).2.2 j k = h.2.2 j k := fun k => by unfold mkc; dsimp only; rw [if_neg (by omega)]
    have e2 : ∀ k, (mkc h t n).2.1 j k = h.2.1 j k := fun k => by unfold mkc; dsimp only; rw [if_neg (by omega)]
    unfold ce
    have e3 : fl (adx ad h.1.length a) (mkc h t n) j h.1[j].1 h.1[j].2 = fl ad h j h.1[j].1 h.1[j].2 := by
      unfold fl
      apply List.map_congr_left
      intro k hk2
      rw [e1, e2]
      exact sv_same adx_lt (fun q hq => (hk j _ hx k (List.mem_range.mp hk2)).2.2 q hq) _ _
    rw [e3]
    simp only [e1]
  · by_cases he : j = h.1.length
    · subst he
      rw [List.getElem?_append_right (by rw [cw_len]; exact Nat.le_refl _), cw_len, Nat.sub_self, cw_at (h := mkc h t n) (x := (t, n)) (by show (h.1 ++ [(t, n)])[h.1.length]? = _; rw [List.getElem?_append_right (Nat.le_refl _), Nat.sub_self]; rfl)]
      unfold adx
      rw [if_pos rfl]
      rfl
    · rw [List.getElem?_eq_none (by rw [cw_len]; show (h.1 ++ [(t, n)]).length ≤ j; simp; omega), List.getElem?_eq_none (by simp [cw_len]; omega)]
theorem okH_mk {h : AH} (hk : okH h) (t n : Nat) : okH (mkc h t n) := by
  intro p x hx k hkx
  have hlen : (mkc h t n).1.length = h.1.length + 1 := by show (h.1 ++ [(t, n)]).length = _; simp
  by_cases hp : p < h.1.length
  · have hx' : h.1[p]? = some x := by
      have hx2 : (h.1 ++ [(t, n)])[p]? = some x := hx
      rw [List.getElem?_append_left hp] at hx2
      exact hx2
    have hh := hk p x hx' k hkx
    have e1 : (mkc h t n).2.2 p k = h.2.2 p k := by unfold mkc; dsimp only; rw [if_neg (by omega)]
    have e2 : (mkc h t n).2.1 p k = h.2.1 p k := by unfold mkc; dsimp only; rw [if_neg (by omega)]
    rw [e1, e2, hlen]
    exact ⟨hh.1, hh.2.1, fun q hq => Nat.lt_succ_of_lt (hh.2.2 q hq)⟩
  · have hp2 : p = h.1.length := by
      have := (List.getElem?_eq_some_iff.mp hx).1
      rw [hlen] at this
      omega
    have e1 : (mkc h t n).2.2 p k = 0 := by unfold mkc; dsimp only; rw [if_pos hp2]
    have e2 : (mkc h t n).2.1 p k = none := by unfold mkc; dsimp only; rw [if_pos hp2]
    rw [e1, e2]
    exact ⟨fun _ => in32_0, fun _ => in64_0, fun q hq => by cases hq⟩
theorem ab_newa {at9 : ArrayType} {t : Nat} {x : Int} (hf : fnd (mrC μ) pc = some (.newarray at9, 2)) (ht : (t = 100 ∧ newarray.typeOf at9 = .int) ∨ (t = 101 ∧ newarray.typeOf at9 = .long) ∨ (t = 102 ∧ newarray.typeOf at9 = .boolean)) (h0 : 0 ≤ x) (h1 : x ≤ 60000) (hk1 : 1 ≤ kc) (hk2 : x.toNat ≤ ks) (k : Ab μ d (kc - 1) (ks - x.toNat) (pc + 2) L (aR h.1.length :: st) (mkc h t x.toNat) Q) : Ab μ d kc ks pc L (aI x :: st) h Q := by
  intro p l e s m args below meth c A D tc sa ad ad0 n0 H locs ls cells slots mc ms F X hn hl hok hc
  have o1 : in32 x := hok.1.1
  have hlen : (mkc h t x.toNat).1.length = h.1.length + 1 := by show (h.1 ++ [(t, x.toNat)]).length = _; simp
  have go : ∀ (ty : FieldType), newarray.typeOf at9 = ty → Cond.arrayClass ty ∈ Wg → componentBytes ty ≤ 8 → ∀ a0 : vp_A, (∀ cA : ClassId, vp_cell cA a0 = arrV cA x.toNat (fun _ => defaultValue ty)) → (∃ j : Nat, (tyl tc)[j]? = some (tc t, ty)) → (∀ q cA, cA = tc t → ce (adx ad h.1.length q) tc (mkc h t x.toNat) h.1.length (t, x.toNat) = .inl (cA, a0)) → va_RA s (tc t) ty = (s.vm.findClass ("[" ++ ty.toString) = some (tc t)) → (∀ cA, va_RA s cA ty → s.vm.findClass ("[" ++ ty.toString) = some cA) →
      W p l e (rom d mc ms) s m args below meth c H locs cells slots (MQ below (Qp Q D tc sa ad0 n0 A) args s mc ms A) (F0 m pc ls ((aI x :: st).map (cv ad sa))) := by
    intro ty hty hac hcb a0 ha0 hj hce hra hra2
    have hby : x.toNat * componentBytes ty ≤ 536870912 := Nat.le_trans (Nat.mul_le_mul (by omega : x.toNat ≤ 60000) hcb) (by decide)
    refine va_newa F.1 F.2.1 (by rw [hty]; exact F.hts _ hac) hty F.kW.1 X.1 X.2.1 X.2.2.1 F.2.2.2.2.2.2.2.2.1 ha0 (by rw [← q_0, c32_lt o1 in32_0]; omega) (q_nat h0 o1) hby (by show cells + 1 ≤ mc; omega) (by show slots + x.toNat ≤ ms; omega) (Fr.dec F hf) (fun q cA H1 hK1 hP1 hD1 hS1 => ?_)
    obtain ⟨j, hj⟩ := hj
    have c1 : s.vm.findClass ("[" ++ ty.toString) = some (tc t) := by rw [← hra]; exact (F.kW.1.2 j _ hj).2
    have c2 : s.vm.findClass ("[" ++ ty.toString) = some cA := hra2 cA ((hK1.2 (tyl tc).length (cA, ty) (by rw [List.getElem?_append_right (Nat.le_refl _), Nat.sub_self]; rfl)).2)
    have c3 : cA = tc t := Option.some.inj (c2.symm.trans c1)
    rw [← hce q cA c3, ← cw_mk X.2.2.2] at hP1 hD1
    have hl2 := lvOf_same (ad' := adx ad h.1.length q) adx_lt hok.2 hl
    have hst := cvS_same (sa := sa) (ad' := adx ad h.1.length q) adx_lt hok.1.2
    have h3 := k p l e s m args below meth c A D tc sa (adx ad h.1.length q) ad0 n0 H1 locs ls (cells + 1) (slots + x.toNat) mc ms F ⟨hP1, hD1, hS1, okH_mk X.2.2.2 _ _⟩ ⟨by rw [hlen]; omega, fun z hz => by rw [adx_lt z (by omega)]; exact hn.2 z hz⟩ hl2 ⟨⟨by show h.1.length < (mkc h t x.toNat).1.length; rw [hlen]; omega, okS_mono (by rw [hlen]; omega) hok.1.2⟩, okL_mono (by rw [hlen]; omega) hok.2⟩ ⟨by omega, by omega⟩
    rw [List.map_cons, hst] at h3
    have e9 : cv (adx ad h.1.length q) sa (aR h.1.length) = .ref q := by show Value.ref (adx ad h.1.length q h.1.length) = _; unfold adx; rw [if_pos rfl]
    rw [e9] at h3
    exact h3
  have zr : ∀ (_ j : Nat), (mkc h t x.toNat).2.2 h.1.length j = 0 := fun _ j => by unfold mkc; dsimp only; rw [if_pos rfl]
  rcases ht with ⟨e1, e2⟩ | ⟨e1, e2⟩ | ⟨e1, e2⟩
  · subst e1
    exact go .int e2 wg_ac_int (by decide) (x.toNat, .inl (fun _ => 0)) (fun _ => rfl) ⟨0, rfl⟩ (fun q cA hc9 => by rw [ce_100, hc9]; simp only [zr q]; rfl) rfl (fun _ z => z)
  · subst e1
    exact go .long e2 wg_ac_long (by decide) (x.toNat, .inr (.inl (fun _ => 0))) (fun _ => rfl) ⟨1, rfl⟩ (fun q cA hc9 => by rw [ce_101, hc9]; simp only [zr q]; rfl) rfl (fun _ z => z)
  · subst e1
    exact go .boolean e2 wg_ac_boolean (by decide) (x.toNat, .inl (fun _ => 0)) (fun _ => rfl) ⟨2, rfl⟩ (fun q cA hc9 => by rw [ce_102, hc9]; simp only [zr q]; rfl) rfl (fun _ z => z)
theorem dv_sv (ad : Nat → Nat) (ty : FieldType) (hty : ty = .int ∨ ty = .boolean ∨ ty = .long ∨ refKind ty = true) : defaultValue ty = sv ad none 0 (kdF ty) := by
  rcases hty with e | e | e | e
  · subst e; rfl
  · subst e; rfl
  · subst e; rfl
  · revert e
    cases ty <;> first | (intro z; rfl) | (intro z; cases z)
theorem ab_new {t n : Nat} (hf : fnd (mrC μ) pc = some (.new i, 3)) (ht : t < 13) (hnn : n = (clT t).2.2) (hlk : Cond.classLink (rx (mrO μ)) i (clT t).1 ∈ Wg) (hins : Cond.instantiable (clT t).1 n ∈ Wg) (hini : Cond.initialized (clT t).1 ∈ Wg) (hty : ∀ k, k < n → fty t k = .int ∨ fty t k = .boolean ∨ fty t k = .long ∨ refKind (fty t k) = true) (hk1 : 1 ≤ kc) (hk2 : n ≤ ks) (k : Ab μ d (kc - 1) (ks - n) (pc + 3) L (aR h.1.length :: st) (mkc h t n) Q) : Ab μ d kc ks pc L st h Q := by
  intro p l e s m args below meth c A D tc sa ad ad0 n0 H locs ls cells slots mc ms F X hn hl hok hc
  have hct := ctok t ht
  have hlen : (mkc h t n).1.length = h.1.length + 1 := by show (h.1 ++ [(t, n)]).length = _; simp
  have zi : ∀ j, (mkc h t n).2.2 h.1.length j = 0 := fun j => by unfold mkc; dsimp only; rw [if_pos rfl]
  have zr : ∀ j, (mkc h t n).2.1 h.1.length j = none := fun j => by unfold mkc; dsimp only; rw [if_pos rfl]
  subst hnn
  refine va_new (C := (clT t).1) (T := (clT t).2.1) (N := (clT t).2.2) (ci := t) (fs := fl ad (mkc h t (clT t).2.2) h.1.length t (clT t).2.2) F.1 F.2.1 F.hts hct.2.1 (fty t) hct.2.2.1 F.own (F.hts _ hlk) (F.hts _ hins) (F.hts _ hini) F.kW.1 X.1 X.2.1 X.2.2.1 F.2.2.2.2.2.2.2.2.1 hct.1 (fun j hj => ?_) (by show cells + 1 ≤ mc; omega) (by show slots + (clT t).2.2 ≤ ms; omega) (Fr.dec F hf) (fun q H1 hP1 hD1 hS1 => ?_)
  · unfold vp_V
    rw [List.getD_eq_getElem?_getD, fl_at hj, zi, zr]
    show defaultValue (fty t j) = sv ad none 0 (kd t j)
    unfold kd
    rw [if_pos (by omega)]
    exact dv_sv ad _ (hty j hj)
  · have e8 : fl ad (mkc h t (clT t).2.2) h.1.length t (clT t).2.2 = fl (adx ad h.1.length q) (mkc h t (clT t).2.2) h.1.length t (clT t).2.2 := by
      unfold fl
      apply List.map_congr_left
      intro j hj
      rw [zr]
      exact (sv_same adx_lt (fun _ z => by cases z) _ _).symm
    have e7 : ce (adx ad h.1.length q) tc (mkc h t (clT t).2.2) h.1.length (t, (clT t).2.2) = .inr (t, fl ad (mkc h t (clT t).2.2) h.1.length t (clT t).2.2) := by
      unfold ce
      rw [if_pos (by show t < 100; omega), e8]
    rw [← e7, ← cw_mk X.2.2.2] at hP1 hD1
    have hl2 := lvOf_same (ad' := adx ad h.1.length q) adx_lt hok.2 hl
    have hst := cvS_same (sa := sa) (ad' := adx ad h.1.length q) adx_lt hok.1
    have h3 := k p l e s m args below meth c A D tc sa (adx ad h.1.length q) ad0 n0 H1 locs ls (cells + 1) (slots + (clT t).2.2) mc ms F ⟨hP1, hD1, hS1, okH_mk X.2.2.2 _ _⟩ ⟨by rw [hlen]; omega, fun z hz => by rw [adx_lt z (by omega)]; exact hn.2 z hz⟩ hl2 ⟨⟨by show h.1.length < (mkc h t (clT t).2.2).1.length; rw [hlen]; omega, okS_mono (by rw [hlen]; omega) hok.1⟩, okL_mono (by rw [hlen]; omega) hok.2⟩ ⟨by omega, by omega⟩
    rw [List.map_cons, hst] at h3
    have e9 : cv (adx ad h.1.length q) sa (aR h.1.length) = .ref q := by show Value.ref (adx ad h.1.length q h.1.length) = _; unfold adx; rw [if_pos rfl]
    rw [e9] at h3
    exact h3
end ABM
