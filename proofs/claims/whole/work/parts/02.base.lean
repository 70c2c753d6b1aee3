/-! ===== numbers: ints of the machine as integers ===== -/
def w32 (z : Int) : Int := z.bmod 4294967296
def w64 (z : Int) : Int := z.bmod 18446744073709551616
def in32 (a : Int) : Prop := -2147483648 ≤ a ∧ a < 2147483648
def in64 (a : Int) : Prop := -9223372036854775808 ≤ a ∧ a < 9223372036854775808
theorem w32_in (z : Int) : in32 (w32 z) := by
  have h1 := Int.le_bmod (x := z) (m := 4294967296) (by decide)
  have h2 := Int.bmod_lt (x := z) (m := 4294967296) (by decide)
  unfold in32 w32
  constructor <;> omega
theorem w64_in (z : Int) : in64 (w64 z) := by
  have h1 := Int.le_bmod (x := z) (m := 18446744073709551616) (by decide)
  have h2 := Int.bmod_lt (x := z) (m := 18446744073709551616) (by decide)
  unfold in64 w64
  constructor <;> omega
theorem w32_id {z : Int} (h1 : -2147483648 ≤ z) (h2 : z < 2147483648) : w32 z = z := by
  unfold w32
  exact Int.bmod_eq_of_le (by omega) (by omega)
theorem w64_id {z : Int} (h1 : -9223372036854775808 ≤ z) (h2 : z < 9223372036854775808) : w64 z = z := by
  unfold w64
  exact Int.bmod_eq_of_le (by omega) (by omega)
theorem t32_in (x : Int32) : in32 x.toInt := ⟨Int32.le_toInt x, Int32.toInt_lt x⟩
theorem t64_in (x : Int64) : in64 x.toInt := ⟨Int64.le_toInt x, Int64.toInt_lt x⟩
theorem t32_of {a : Int} (h : in32 a) : (Int32.ofInt a).toInt = a := Int32.toInt_ofInt_of_le h.1 h.2
theorem t64_of {a : Int} (h : in64 a) : (Int64.ofInt a).toInt = a := Int64.toInt_ofInt_of_le h.1 h.2
theorem q_w32 (z : Int) : Int32.ofInt (w32 z) = Int32.ofInt z := by
  apply Int32.toInt_inj.mp
  rw [t32_of (w32_in z), Int32.toInt_ofInt]
  rfl
theorem q_w64 (z : Int) : Int64.ofInt (w64 z) = Int64.ofInt z := by
  apply Int64.toInt_inj.mp
  rw [t64_of (w64_in z), Int64.toInt_ofInt]
  rfl
theorem q_add (x y : Int) : Int32.ofInt x + Int32.ofInt y = Int32.ofInt (w32 (x + y)) := by rw [q_w32, Int32.ofInt_add]
theorem q_sub (x y : Int) : Int32.ofInt x - Int32.ofInt y = Int32.ofInt (w32 (x - y)) := by rw [q_w32, Int32.ofInt_sub]
theorem q_mul (x y : Int) : Int32.ofInt x * Int32.ofInt y = Int32.ofInt (w32 (x * y)) := by rw [q_w32, Int32.ofInt_mul]
theorem q_neg (x : Int) : - Int32.ofInt x = Int32.ofInt (w32 (-x)) := by rw [q_w32, Int32.ofInt_neg]
theorem q_ladd (x y : Int) : Int64.ofInt x + Int64.ofInt y = Int64.ofInt (w64 (x + y)) := by rw [q_w64, Int64.ofInt_add]
theorem q_lsub (x y : Int) : Int64.ofInt x - Int64.ofInt y = Int64.ofInt (w64 (x - y)) := by rw [q_w64, Int64.ofInt_sub]
theorem q_lmul (x y : Int) : Int64.ofInt x * Int64.ofInt y = Int64.ofInt (w64 (x * y)) := by rw [q_w64, Int64.ofInt_mul]
def iAnd (x y : Int) : Int := (Int32.ofInt x &&& Int32.ofInt y).toInt
def iOr (x y : Int) : Int := (Int32.ofInt x ||| Int32.ofInt y).toInt
def iXor (x y : Int) : Int := (Int32.ofInt x ^^^ Int32.ofInt y).toInt
def iShl (x y : Int) : Int := (Int32.ofInt x <<< (Int32.ofInt y &&& 31)).toInt
def iShr (x y : Int) : Int := (Int32.ofInt x >>> (Int32.ofInt y &&& 31)).toInt
def iDiv (x y : Int) : Int := (Int32.ofInt x / Int32.ofInt y).toInt
def iRem (x y : Int) : Int := (Int32.ofInt x - Int32.ofInt x / Int32.ofInt y * Int32.ofInt y).toInt
def lAnd (x y : Int) : Int := (Int64.ofInt x &&& Int64.ofInt y).toInt
def lOr (x y : Int) : Int := (Int64.ofInt x ||| Int64.ofInt y).toInt
def lShl (x y : Int) : Int := (Int64.ofInt x <<< ((Int32.ofInt y).toInt64 &&& 63)).toInt
def lShr (x y : Int) : Int := (Int64.ofInt x >>> ((Int32.ofInt y).toInt64 &&& 63)).toInt
def lDiv (x y : Int) : Int := (Int64.ofInt x / Int64.ofInt y).toInt
def lRem (x y : Int) : Int := (Int64.ofInt x - Int64.ofInt x / Int64.ofInt y * Int64.ofInt y).toInt
def lCmp (x y : Int) : Int := if y < x then 1 else if x = y then 0 else -1
theorem q_lcmp {x y : Int} (hx : in64 x) (hy : in64 y) : lg_cmp (Int64.ofInt x) (Int64.ofInt y) = Int32.ofInt (lCmp x y) := by
  unfold lg_cmp lCmp
  simp only [gt_iff_lt, Int64.lt_iff_toInt_lt, ← Int64.toInt_inj, t64_of hx, t64_of hy]
  by_cases h1 : y < x
  · rw [if_pos h1, if_pos h1]; rfl
  · rw [if_neg h1, if_neg h1]
    by_cases h2 : x = y
    · rw [if_pos h2, if_pos h2]; rfl
    · rw [if_neg h2, if_neg h2]; rfl
theorem lCmp_in (x y : Int) : in32 (lCmp x y) := by
  unfold lCmp in32
  split
  · omega
  · split <;> omega
theorem q_i2l {x : Int} (h : in32 x) : (Int32.ofInt x).toInt64 = Int64.ofInt x := by
  apply Int64.toInt_inj.mp
  rw [Int32.toInt_toInt64, t32_of h, t64_of ⟨by have := h.1; omega, by have := h.2; omega⟩]
theorem in32_64 {x : Int} (h : in32 x) : in64 x := ⟨by have := h.1; omega, by have := h.2; omega⟩
theorem q_l2i {x : Int} (h : in64 x) : (Int64.ofInt x).toInt32 = Int32.ofInt (w32 x) := by
  apply Int32.toInt_inj.mp
  rw [Int64.toInt_toInt32, t64_of h, t32_of (w32_in x)]
  rfl
theorem c32_lt {x y : Int} (hx : in32 x) (hy : in32 y) : Int32.ofInt x < Int32.ofInt y ↔ x < y := by rw [Int32.lt_iff_toInt_lt, t32_of hx, t32_of hy]
theorem c32_le {x y : Int} (hx : in32 x) (hy : in32 y) : Int32.ofInt x ≤ Int32.ofInt y ↔ x ≤ y := by rw [Int32.le_iff_toInt_le, t32_of hx, t32_of hy]
theorem c32_eq {x y : Int} (hx : in32 x) (hy : in32 y) : Int32.ofInt x = Int32.ofInt y ↔ x = y := by rw [← Int32.toInt_inj, t32_of hx, t32_of hy]
theorem in32_0 : in32 0 := by unfold in32; omega
theorem q_0 : Int32.ofInt 0 = (0 : Int32) := rfl
theorem q_byte {n : Int} (h1 : -128 ≤ n) (h2 : n ≤ 127) : (Int8.ofInt n).toInt32 = Int32.ofInt n := by
  apply Int32.toInt_inj.mp
  rw [Int8.toInt_toInt32, Int8.toInt_ofInt_of_le (by omega) (by omega), t32_of ⟨by omega, by omega⟩]
theorem q_short {n : Int} (h1 : -32768 ≤ n) (h2 : n ≤ 32767) : (Int16.ofInt n).toInt32 = Int32.ofInt n := by
  apply Int32.toInt_inj.mp
  rw [Int16.toInt_toInt32, Int16.toInt_ofInt_of_le (by omega) (by omega), t32_of ⟨by omega, by omega⟩]
theorem q_nat {a : Int} (h0 : 0 ≤ a) (h : in32 a) : (Int32.ofInt a).toNatClampNeg = a.toNat := Int32.toNatClampNeg_ofInt_of_le h.1 h.2
theorem q_in {a : Int} {n : Nat} (h0 : 0 ≤ a) (h1 : a < n) (h : in32 a) : vp_in (Int32.ofInt a) n := by
  rw [vp_in_iff, t32_of h]
  exact ⟨h0, h1⟩
/-! ===== the abstract values, heaps, methods ===== -/
abbrev AV : Type := Int ⊕ (Int ⊕ (Nat ⊕ Nat))
abbrev aI (a : Int) : AV := Sum.inl a
abbrev aJ (a : Int) : AV := Sum.inr (Sum.inl a)
abbrev aR (q : Nat) : AV := Sum.inr (Sum.inr (Sum.inl q))
abbrev aS (j : Nat) : AV := Sum.inr (Sum.inr (Sum.inr j))
abbrev AH : Type := List (Nat × Nat) × (Nat → Nat → Option Nat) × (Nat → Nat → Int)
abbrev ML : Type := List (Option AV)
abbrev MC : Type := List (Nat × Instr × Nat)
abbrev MR : Type := MethodName × ByteArray × Nat × Option FieldType × Nat × MC
abbrev mrY (μ : MR) : MethodName := μ.1
abbrev mrB (μ : MR) : ByteArray := μ.2.1
abbrev mrL (μ : MR) : Nat := μ.2.2.1
abbrev mrT (μ : MR) : Option FieldType := μ.2.2.2.1
abbrev mrO (μ : MR) : Nat := μ.2.2.2.2.1
abbrev mrC (μ : MR) : MC := μ.2.2.2.2.2
def fnd : MC → Nat → Option (Instr × Nat)
  | [], _ => none
  | e :: t, pc => bif Nat.beq e.1 pc then some e.2 else fnd t pc
theorem fnd_mem : ∀ {c : MC} {pc : Nat} {x : Instr × Nat}, fnd c pc = some x → (pc, x) ∈ c
  | [], _, _, h => by cases h
  | e :: t, pc, x, h => by
    unfold fnd at h
    cases hb : Nat.beq e.1 pc with
    | true =>
      rw [hb] at h
      have h1 : e.1 = pc := Nat.eq_of_beq_eq_true hb
      have h2 : e.2 = x := Option.some.inj h
      subst h1; subst h2
      exact List.mem_cons_self
    | false =>
      rw [hb] at h
      exact List.mem_cons_of_mem _ (fnd_mem h)
def rx (o : Nat) : String := [RX0, RX1, RX2, RX3, RX4, RX5, RX6, RX7, RX8, RX9, RX10, RX11, RX12, RJ9, RJ0, RJ1, RJ3].getD o ""
def ftys : List (Nat → FieldType) := [tyX0, tyX1, tyX2, tyX3, tyX4, tyX5, tyX6, tyX7, tyX8, tyX9, tyX10, tyX11, tyX12]
def fty (t : Nat) : Nat → FieldType := ftys.getD t (fun _ => .int)
def kdF : FieldType → Nat
  | .int => 0
  | .boolean => 0
  | .long => 1
  | _ => 2
def kd (t k : Nat) : Nat := if t < 100 then kdF (fty t k) else if t = 101 then 1 else 0
def clT (t : Nat) : vw_C := vwCl.getD t ("", fun _ => ("", "", "", false), 0)
def Wg : List Cond := lw_tbl.filter goodWord
def isNest : Cond → Bool
  | .methodLinkNest _ _ _ _ => true
  | .fieldLinkNest _ _ _ _ _ _ => true
  | _ => false
def wsM (μ : MR) : List Cond := Cond.code (mrY μ) (mrB μ) (mrL μ) (mrT μ) :: Wg
theorem in_Wg {w : Cond} (i : Nat) (h : lw_tbl[i]? = some w) (hg : goodWord w = true) : w ∈ Wg := List.mem_filter.mpr ⟨List.mem_of_getElem? h, hg⟩
/-- what each method's record has been checked for -/
def MOK (μ : MR) : Prop := plainName (mrY μ).cls = true ∧ rx (mrO μ) = (mrY μ).cls ∧ Cond.code (mrY μ) (mrB μ) (mrL μ) (mrT μ) ∈ Wg ∧ (∀ q ∈ mrC μ, decode (mrB μ) q.1 = .ok q.2) ∧ mrL μ ≤ 20
theorem good_Wg {w : Cond} (h : w ∈ Wg) : (w.onTables && w.keeps) = true ∨ ∃ ty, w = .arrayClass ty := good_of_word (List.mem_filter.mp h).2
theorem wsM_good {μ ν : MR} (h : MOK ν) : GoodIn (wsM μ) (wsM ν) := by
  intro w hw
  have hg : w ∈ Wg := by
    rcases List.mem_cons.mp hw with e | e
    · rw [e]; exact h.2.2.1
    · exact e
  exact ⟨List.mem_cons_of_mem _ hg, good_Wg hg⟩
theorem lw_good {ν : MR} (h : MOK ν) : GoodIn lw_tbl (wsM ν) := by
  intro w hw
  have hg : w ∈ Wg := by
    rcases List.mem_cons.mp hw with e | e
    · rw [e]; exact h.2.2.1
    · exact e
  exact ⟨(List.mem_filter.mp hg).1, good_Wg hg⟩
def cv (ad : Nat → Nat) (sa : Nat → Option Nat) : AV → Value
  | .inl a => .int (Int32.ofInt a)
  | .inr (.inl a) => .long (Int64.ofInt a)
  | .inr (.inr (.inl q)) => .ref (ad q)
  | .inr (.inr (.inr j)) => va_rf (sa j)
def okv (n : Nat) : AV → Prop
  | .inl a => in32 a
  | .inr (.inl a) => in64 a
  | .inr (.inr (.inl q)) => q < n
  | .inr (.inr (.inr _)) => True
def okS (n : Nat) : List AV → Prop
  | [] => True
  | v :: t => okv n v ∧ okS n t
def okL (n : Nat) (L : ML) : Prop := ∀ (i : Nat) (v : AV), L[i]? = some (some v) → okv n v
def okr (n : Nat) (r : Option AV) : Prop := ∀ v, r = some v → okv n v
theorem okv_mono {n m : Nat} (h : n ≤ m) : ∀ {v : AV}, okv n v → okv m v
  | .inl _, q => q
  | .inr (.inl _), q => q
  | .inr (.inr (.inl _)), q => Nat.lt_of_lt_of_le q h
  | .inr (.inr (.inr _)), _ => trivial
theorem okS_mono {n m : Nat} (h : n ≤ m) : ∀ {st : List AV}, okS n st → okS m st
  | [], _ => trivial
  | _ :: _, q => ⟨okv_mono h q.1, okS_mono h q.2⟩
theorem okS_app {n : Nat} : ∀ {a b : List AV}, okS n (a ++ b) → okS n a ∧ okS n b
  | [], _, q => ⟨trivial, q⟩
  | _ :: _, _, q => ⟨⟨q.1, (okS_app q.2).1⟩, (okS_app q.2).2⟩
theorem okS_mem {n : Nat} : ∀ {st : List AV}, okS n st → ∀ v ∈ st, okv n v
  | [], _, _, h => by cases h
  | a :: t, q, v, h => by
    rcases List.mem_cons.mp h with e | e
    · rw [e]; exact q.1
    · exact okS_mem q.2 v e
theorem okS_of {n : Nat} : ∀ {st : List AV}, (∀ v ∈ st, okv n v) → okS n st
  | [], _ => trivial
  | _ :: _, h => ⟨h _ List.mem_cons_self, okS_of fun v hv => h v (List.mem_cons_of_mem _ hv)⟩
theorem okL_mono {n m : Nat} (h : n ≤ m) {L : ML} (q : okL n L) : okL m L := fun i v hi => okv_mono h (q i v hi)
theorem cv_same {n : Nat} {ad ad' : Nat → Nat} {sa : Nat → Option Nat} (h : ∀ q, q < n → ad' q = ad q) : ∀ {v : AV}, okv n v → cv ad' sa v = cv ad sa v
  | .inl _, _ => rfl
  | .inr (.inl _), _ => rfl
  | .inr (.inr (.inl q)), hq => congrArg Value.ref (h q hq)
  | .inr (.inr (.inr _)), _ => rfl
theorem cvS_same {n : Nat} {ad ad' : Nat → Nat} {sa : Nat → Option Nat} (h : ∀ q, q < n → ad' q = ad q) : ∀ {st : List AV}, okS n st → st.map (cv ad' sa) = st.map (cv ad sa)
  | [], _ => rfl
  | _ :: _, q => by rw [List.map_cons, List.map_cons, cv_same h q.1, cvS_same h q.2]
def lvOf (ad : Nat → Nat) (sa : Nat → Option Nat) (L : ML) : List (Nat × Value) := L.zipIdx.filterMap (fun q => q.1.map (fun v => (q.2, cv ad sa v)))
theorem lvOf_mem {ad : Nat → Nat} {sa : Nat → Option Nat} {L : ML} {x : Nat × Value} : x ∈ lvOf ad sa L ↔ ∃ v, L[x.1]? = some (some v) ∧ x.2 = cv ad sa v := by
  unfold lvOf
  rw [List.mem_filterMap]
  constructor
  · rintro ⟨⟨o, i⟩, h1, h2⟩
    cases o with
    | none => cases h2
    | some v =>
      have h3 := Option.some.inj h2
      subst h3
      exact ⟨v, List.mem_zipIdx_iff_getElem?.mp h1, rfl⟩
  · rintro ⟨v, h1, h2⟩
    refine ⟨(some v, x.1), List.mem_zipIdx_iff_getElem?.mpr h1, ?_⟩
    obtain ⟨i, w⟩ := x
    subst h2
    rfl
theorem lvOf_same {n : Nat} {ad ad' : Nat → Nat} {sa : Nat → Option Nat} (h : ∀ q, q < n → ad' q = ad q) {L : ML} (hL : okL n L) {ls : Array Slot} {nL : Nat} (hl : lv_has ls nL (lvOf ad sa L)) : lv_has ls nL (lvOf ad' sa L) := by
  refine ⟨hl.1, hl.2.1, fun q hq => ?_⟩
  obtain ⟨v, h1, h2⟩ := lvOf_mem.mp hq
  rw [h2, cv_same h (hL _ _ h1)]
  exact hl.2.2 (q.1, cv ad sa v) (lvOf_mem.mpr ⟨v, h1, rfl⟩)
theorem lvOf_at {ad : Nat → Nat} {sa : Nat → Option Nat} {L : ML} {ls : Array Slot} {nL i : Nat} {v : AV} (hl : lv_has ls nL (lvOf ad sa L)) (h : L[i]? = some (some v)) : ls[i]? = some (.val (cv ad sa v)) := hl.2.2 (i, cv ad sa v) (lvOf_mem.mpr ⟨v, h, rfl⟩)
def isJ : Option (Option AV) → Bool
  | some (some (.inr (.inl _))) => true
  | _ => false
def lclr (L : ML) : Nat → ML
  | 0 => L
  | k + 1 => bif isJ L[k]? then L.set k none else L
def lset1 (L : ML) (i : Nat) (v : AV) : ML := (lclr L i).set i (some v)
def lset2 (L : ML) (i : Nat) (v : AV) : ML := ((lclr L i).set i (some v)).set (i + 1) none
theorem lclr_at {L : ML} {i j : Nat} {v : AV} (h : (lclr L i)[j]? = some (some v)) : L[j]? = some (some v) ∧ ¬ (j + 1 = i ∧ isJ (some (some v)) = true) := by
  cases i with
  | zero => exact ⟨h, fun q => by omega⟩
  | succ k =>
    have h : (bif isJ L[k]? then L.set k none else L)[j]? = some (some v) := h
    cases hb : isJ L[k]? with
    | false =>
      rw [hb] at h
      refine ⟨h, fun q => ?_⟩
      have e : j = k := by omega
      subst e
      have h' : L[j]? = some (some v) := h
      rw [h', q.2] at hb
      cases hb
    | true =>
      rw [hb] at h
      have h' : (L.set k none)[j]? = some (some v) := h
      by_cases e : j = k
      · subst e
        have hlt : j < L.length := by
          have := (List.getElem?_eq_some_iff.mp h').1
          simpa using this
        rw [List.getElem?_set_self hlt] at h'
        cases h'
      · rw [List.getElem?_set_ne (Ne.symm e)] at h'
        exact ⟨h', fun q => e (by omega)⟩
theorem cv_cat2 {ad : Nat → Nat} {sa : Nat → Option Nat} : ∀ {v : AV}, (cv ad sa v).category = 2 → isJ (some (some v)) = true
  | .inl _, h => by simp [cv, Value.category] at h
  | .inr (.inl _), _ => rfl
  | .inr (.inr (.inl _)), h => by simp [cv, Value.category] at h
  | .inr (.inr (.inr j)), h => by
    unfold cv va_rf at h
    cases hj : sa j <;> simp [hj, Value.category] at h
theorem lset1_has {ad : Nat → Nat} {sa : Nat → Option Nat} {L : ML} {ls : Array Slot} {nL i : Nat} {v : AV} (hl : lv_has ls nL ((i, cv ad sa v) :: (lvOf ad sa L).filter (fun q => !(q.1 == i) && !(q.1 + 1 == i && q.2.category == 2)))) : lv_has ls nL (lvOf ad sa (lset1 L i v)) := by
  refine ⟨hl.1, hl.2.1, fun q hq => ?_⟩
  obtain ⟨w, h1, h2⟩ := lvOf_mem.mp hq
  apply hl.2.2 q
  unfold lset1 at h1
  by_cases e : q.1 = i
  · rw [e] at h1
    have hlt : i < (lclr L i).length := by
      have := (List.getElem?_eq_some_iff.mp h1).1
      simpa using this
    rw [List.getElem?_set_self hlt] at h1
    cases h1
    obtain ⟨a, b⟩ := q
    dsimp only at e h2
    subst e; subst h2
    exact List.mem_cons_self
  · rw [List.getElem?_set_ne (Ne.symm e)] at h1
    obtain ⟨h3, h4⟩ := lclr_at h1
    refine List.mem_cons_of_mem _ (List.mem_filter.mpr ⟨lvOf_mem.mpr ⟨w, h3, h2⟩, ?_⟩)
    simp only [Bool.and_eq_true, Bool.not_eq_true', beq_eq_false_iff_ne, Bool.and_eq_false_iff]
    refine ⟨e, ?_⟩
    by_cases e2 : q.1 + 1 = i
    · refine Or.inr fun hc => h4 ⟨e2, cv_cat2 (ad := ad) (sa := sa) ?_⟩
      rw [← h2]; exact hc
    · exact Or.inl e2
theorem lset2_has {ad : Nat → Nat} {sa : Nat → Option Nat} {L : ML} {ls : Array Slot} {nL i : Nat} {v : AV} (hl : lv_has ls nL ((i, cv ad sa v) :: (lvOf ad sa L).filter (fun q => !(q.1 == i) && (!(q.1 == i + 1) && !(q.1 + 1 == i && q.2.category == 2))))) : lv_has ls nL (lvOf ad sa (lset2 L i v)) := by
  refine ⟨hl.1, hl.2.1, fun q hq => ?_⟩
  obtain ⟨w, h1, h2⟩ := lvOf_mem.mp hq
  apply hl.2.2 q
  unfold lset2 at h1
  by_cases e1 : q.1 = i + 1
  · rw [e1] at h1
    have hlt : i + 1 < ((lclr L i).set i (some v)).length := by
      have := (List.getElem?_eq_some_iff.mp h1).1
      simpa using this
    rw [List.getElem?_set_self hlt] at h1
    cases h1
  · rw [List.getElem?_set_ne (Ne.symm e1)] at h1
    by_cases e : q.1 = i
    · rw [e] at h1
      have hlt : i < (lclr L i).length := by
        have := (List.getElem?_eq_some_iff.mp h1).1
        simpa using this
      rw [List.getElem?_set_self hlt] at h1
      cases h1
      obtain ⟨a, b⟩ := q
      dsimp only at e h2
      subst e; subst h2
      exact List.mem_cons_self
    · rw [List.getElem?_set_ne (Ne.symm e)] at h1
      obtain ⟨h3, h4⟩ := lclr_at h1
      refine List.mem_cons_of_mem _ (List.mem_filter.mpr ⟨lvOf_mem.mpr ⟨w, h3, h2⟩, ?_⟩)
      simp only [Bool.and_eq_true, Bool.not_eq_true', beq_eq_false_iff_ne, Bool.and_eq_false_iff]
      refine ⟨e, e1, ?_⟩
      by_cases e2 : q.1 + 1 = i
      · refine Or.inr fun hc => h4 ⟨e2, cv_cat2 (ad := ad) (sa := sa) ?_⟩
        rw [← h2]; exact hc
      · exact Or.inl e2
theorem lset1_ok {n : Nat} {L : ML} {i : Nat} {v : AV} (h : okL n L) (hv : okv n v) : okL n (lset1 L i v) := by
  intro j w hj
  unfold lset1 at hj
  by_cases e : j = i
  · rw [e] at hj
    have hlt : i < (lclr L i).length := by
      have := (List.getElem?_eq_some_iff.mp hj).1
      simpa using this
    rw [List.getElem?_set_self hlt] at hj
    cases hj
    exact hv
  · rw [List.getElem?_set_ne (Ne.symm e)] at hj
    exact h j w (lclr_at hj).1
theorem lset2_ok {n : Nat} {L : ML} {i : Nat} {v : AV} (h : okL n L) (hv : okv n v) : okL n (lset2 L i v) := by
  intro j w hj
  unfold lset2 at hj
  by_cases e1 : j = i + 1
  · rw [e1] at hj
    have hlt : i + 1 < ((lclr L i).set i (some v)).length := by
      have := (List.getElem?_eq_some_iff.mp hj).1
      simpa using this
    rw [List.getElem?_set_self hlt] at hj
    cases hj
  · rw [List.getElem?_set_ne (Ne.symm e1)] at hj
    by_cases e : j = i
    · rw [e] at hj
      have hlt : i < (lclr L i).length := by
        have := (List.getElem?_eq_some_iff.mp hj).1
        simpa using this
      rw [List.getElem?_set_self hlt] at hj
      cases hj
      exact hv
    · rw [List.getElem?_set_ne (Ne.symm e)] at hj
      exact h j w (lclr_at hj).1
/-! ===== the heap ===== -/
def sv (ad : Nat → Nat) (r : Option Nat) (a : Int) : Nat → Value
  | 0 => .int (Int32.ofInt a)
  | 1 => .long (Int64.ofInt a)
  | _ => match r with
    | none => .null
    | some q => .ref (ad q)
def fl (ad : Nat → Nat) (h : AH) (p t n : Nat) : List Value := (List.range n).map (fun k => sv ad (h.2.1 p k) (h.2.2 p k) (kd t k))
def ce (ad : Nat → Nat) (tc : Nat → ClassId) (h : AH) (p : Nat) (x : Nat × Nat) : va_E :=
  if x.1 < 100 then .inr (x.1, fl ad h p x.1 x.2)
  else if x.1 = 101 then .inl (tc 101, x.2, .inr (.inl (fun j => Int64.ofInt (h.2.2 p j))))
  else .inl (tc x.1, x.2, .inl (fun j => Int32.ofInt (h.2.2 p j)))
def cw (ad : Nat → Nat) (tc : Nat → ClassId) (h : AH) : va_W := h.1.mapIdx (fun p x => (ad p, ce ad tc h p x))
theorem cw_at {ad : Nat → Nat} {tc : Nat → ClassId} {h : AH} {p : Nat} {x : Nat × Nat} (hx : h.1[p]? = some x) : (cw ad tc h)[p]? = some (ad p, ce ad tc h p x) := by
  unfold cw
  rw [List.getElem?_mapIdx, hx]
  rfl
theorem cw_len {ad : Nat → Nat} {tc : Nat → ClassId} {h : AH} : (cw ad tc h).length = h.1.length := by unfold cw; simp
def okH (h : AH) : Prop := ∀ (p : Nat) (x : Nat × Nat), h.1[p]? = some x → ∀ k, k < x.2 → (kd x.1 k = 0 → in32 (h.2.2 p k)) ∧ (kd x.1 k = 1 → in64 (h.2.2 p k)) ∧ ∀ q, h.2.1 p k = some q → q < h.1.length
def up (I : Nat → Nat → Int) (p k : Nat) (v : Int) : Nat → Nat → Int := fun q j => if q = p ∧ j = k then v else I q j
theorem up_s {I : Nat → Nat → Int} {p k : Nat} {v : Int} : up I p k v p k = v := by simp [up]
theorem up_n {I : Nat → Nat → Int} {p k q j : Nat} {v : Int} (h : ¬ (q = p ∧ j = k)) : up I p k v q j = I q j := by simp [up, h]
theorem okH_put {h : AH} (hk : okH h) {p k : Nat} {x : Nat × Nat} {v : Int} (hx : h.1[p]? = some x) (h0 : kd x.1 k = 0 → in32 v) (h1 : kd x.1 k = 1 → in64 v) : okH (h.1, h.2.1, up h.2.2 p k v) := by
  intro q y hy j hj
  have hh := hk q y hy j hj
  by_cases e : q = p ∧ j = k
  · obtain ⟨e1, e2⟩ := e
    subst e1; subst e2
    have exy : y = x := Option.some.inj (hy.symm.trans hx)
    subst exy
    dsimp only
    rw [up_s]
    exact ⟨h0, h1, hh.2.2⟩
  · dsimp only
    rw [up_n e]
    exact hh
theorem cw_put {ad : Nat → Nat} {tc : Nat → ClassId} {h : AH} {p k t n : Nat} {v : Int} {w : Value} (hx : h.1[p]? = some (t, n)) (ht : t < 100) (hk : k < n) (hw : ∀ r, sv ad r v (kd t k) = w) : (cw ad tc h).set p (ad p, .inr (t, (fl ad h p t n).set k w)) = cw ad tc (h.1, h.2.1, up h.2.2 p k v) := by
  have hlt : p < h.1.length := (List.getElem?_eq_some_iff.mp hx).1
  apply List.ext_getElem?
  intro j
  by_cases e : j = p
  · subst e
    rw [List.getElem?_set_self (by rw [cw_len]; exact hlt), cw_at (h := (h.1, h.2.1, up h.2.2 j k v)) hx]
    congr 2
    unfold ce
    rw [if_pos ht]
    congr 2
    unfold fl
    apply List.ext_getElem?
    intro i
    by_cases ei : i = k
    · subst ei
      rw [List.getElem?_set_self (by simp; exact hk), List.getElem?_map, List.getElem?_range hk]
      dsimp only [Option.map]
      rw [up_s, hw]
    · rw [List.getElem?_set_ne (Ne.symm ei), List.getElem?_map, List.getElem?_map]
      by_cases hi : i < n
      · rw [List.getElem?_range hi]
        dsimp only [Option.map]
        rw [up_n (fun q => ei q.2)]
      · rw [List.getElem?_eq_none (by simp; omega)]
        rfl
  · rw [List.getElem?_set_ne (Ne.symm e)]
    unfold cw
    rw [List.getElem?_mapIdx, List.getElem?_mapIdx]
    cases hy : h.1[j]? with
    | none => rfl
    | some y =>
      dsimp only [Option.map]
      congr 2
      unfold ce fl
      have e2 : ∀ k', up h.2.2 p k v j k' = h.2.2 j k' := fun k' => up_n (fun q => e q.1)
      simp only [e2]
