/-! ===== numbers of the layer ===== -/
theorem qI {Q : Option AV → HI → Prop} {a b : Int} {I J : HI} (h : Q (some (aI a)) I) (e : a = b) (e2 : I = J) : Q (some (aI b)) J := by subst e; subst e2; exact h
theorem qJ {Q : Option AV → HI → Prop} {a b : Int} {I J : HI} (h : Q (some (aJ a)) I) (e : a = b) (e2 : I = J) : Q (some (aJ b)) J := by subst e; subst e2; exact h
theorem qN {Q : Option AV → HI → Prop} {I J : HI} (h : Q none I) (e2 : I = J) : Q none J := by subst e2; exact h
theorem iDiv_t {x y : Int} (hx : in32 x) (hy : in32 y) (h : x ≠ -2147483648) : iDiv x y = x.tdiv y := by
  unfold iDiv
  rw [Int32.toInt_div_of_ne_left _ _ (fun e => h (by have := congrArg Int32.toInt e; rw [t32_of hx] at this; exact this)), t32_of hx, t32_of hy]
theorem iDiv_p {x y : Int} (h0 : 0 ≤ x) (h1 : x < 2147483648) (h2 : 0 < y) (h3 : y < 2147483648) : iDiv x y = x / y := by
  rw [iDiv_t ⟨by omega, h1⟩ ⟨by omega, h3⟩ (by omega), Int.tdiv_eq_ediv_of_nonneg h0]
theorem iRem_p {x y : Int} (h0 : 0 ≤ x) (h1 : x < 2147483648) (h2 : 0 < y) (h3 : y < 2147483648) : iRem x y = x % y := by
  have hq : (Int32.ofInt x / Int32.ofInt y) = Int32.ofInt (x / y) := by
    have := iDiv_p h0 h1 h2 h3
    unfold iDiv at this
    rw [← this, Int32.ofInt_toInt]
  unfold iRem
  rw [hq, ← Int32.ofInt_mul, ← Int32.ofInt_sub]
  have e : x - x / y * y = x % y := by rw [Int.mul_comm]; have := Int.emod_add_mul_ediv x y; omega
  rw [e]
  have h4 := Int.emod_nonneg x (by omega : y ≠ 0)
  have h5 := Int.emod_lt_of_pos x h2
  exact t32_of ⟨by omega, by omega⟩
theorem iShr_p {x : Int} (k : Nat) (hx : in32 x) (hk : k < 32) : iShr x k = x / 2 ^ k := by
  unfold iShr
  have hs : ((Int32.ofInt (k : Int) &&& 31).toBitVec.smod 32).toNat = k := by
    have : ∀ j, j < 32 → ((Int32.ofInt ((j : Nat) : Int) &&& 31).toBitVec.smod 32).toNat = j := by decide +kernel
    exact this k hk
  rw [pk_shr _ _ k hs, t32_of hx, Int.shiftRight_eq_div_pow]
  simp
theorem iShl_p {x : Int} (k : Nat) (hk : k < 32) : iShl x k = w32 (x * 2 ^ k) := by
  unfold iShl
  have hs : ((Int32.ofInt (k : Int) &&& 31).toBitVec.smod 32).toNat = k := by
    have : ∀ j, j < 32 → ((Int32.ofInt ((j : Nat) : Int) &&& 31).toBitVec.smod 32).toNat = j := by decide +kernel
    exact this k hk
  have h1 := pk_shl (Int32.ofInt x) (Int32.ofInt (k : Int) &&& 31) k hs
  have h2 : (Int32.ofInt x <<< (Int32.ofInt (k : Int) &&& 31)) = Int32.ofInt (x * 2 ^ k) := by
    apply Int32.toBitVec_inj.mp
    apply BitVec.eq_of_toNat_eq
    rw [h1]
    have e1 : ∀ z : Int, ((Int32.ofInt z).toBitVec.toNat : Int) = z % 4294967296 := by
      intro z
      show (((BitVec.ofInt 32 z).toNat : Nat) : Int) = _
      rw [BitVec.toNat_ofInt]
      have := Int.emod_nonneg z (by decide : (4294967296 : Int) ≠ 0)
      have e : ((2 ^ 32 : Nat) : Int) = 4294967296 := by decide
      rw [e]
      omega
    have e2 := e1 (x * 2 ^ k)
    have e3 := e1 x
    apply Int.ofNat_inj.mp
    rw [e2, Int.natCast_emod, Int.natCast_mul, e3, Int.natCast_pow, Int.natCast_pow]
    show x % 4294967296 * 2 ^ k % 4294967296 = _
    rw [Int.mul_emod, Int.emod_emod_of_dvd _ (Int.dvd_refl _), ← Int.mul_emod]
  rw [h2, ← q_w32, t32_of (w32_in _)]
theorem iAnd_m {x : Int} (k : Nat) (hk : k ≤ 30) : iAnd x (2 ^ k - 1) = x % 2 ^ k := by
  unfold iAnd
  have hm : (Int32.ofInt (2 ^ k - 1)).toBitVec.toNat = 2 ^ k - 1 := by
    have : ∀ j, j ≤ 30 → (Int32.ofInt (2 ^ j - 1)).toBitVec.toNat = 2 ^ j - 1 := by decide +kernel
    exact this k hk
  rw [pk_and _ k hm]
  have e1 : ((Int32.ofInt x).toBitVec.toNat : Int) = x % 4294967296 := by
    show (((BitVec.ofInt 32 x).toNat : Nat) : Int) = _
    rw [BitVec.toNat_ofInt]
    have := Int.emod_nonneg x (by decide : (4294967296 : Int) ≠ 0)
    have e : ((2 ^ 32 : Nat) : Int) = 4294967296 := by decide
    rw [e]
    omega
  have hlt : (Int32.ofInt x).toBitVec.toNat % 2 ^ k < 2 ^ 31 := Nat.lt_of_lt_of_le (Nat.mod_lt _ (Nat.two_pow_pos k)) (Nat.pow_le_pow_right (by decide) (by omega))
  rw [nI_toInt hlt]
  push_cast
  rw [e1]
  apply Int.emod_emod_of_dvd
  have : (2 : Int) ^ 32 = 2 ^ k * 2 ^ (32 - k) := by rw [← Int.pow_add]; congr 1; omega
  exact ⟨2 ^ (32 - k), by rw [← this]; decide⟩
theorem iAnd_255 {x : Int} : iAnd x 255 = x % 256 := by
  have := iAnd_m (x := x) 8 (by decide)
  rw [show (2 : Int) ^ 8 - 1 = 255 by decide, show (2 : Int) ^ 8 = 256 by decide] at this
  exact this
theorem iAnd_31 {x : Int} : iAnd x 31 = x % 32 := by
  have := iAnd_m (x := x) 5 (by decide)
  rw [show (2 : Int) ^ 5 - 1 = 31 by decide, show (2 : Int) ^ 5 = 32 by decide] at this
  exact this
theorem iAnd_63 {x : Int} : iAnd x 63 = x % 64 := by
  have := iAnd_m (x := x) 6 (by decide)
  rw [show (2 : Int) ^ 6 - 1 = 63 by decide, show (2 : Int) ^ 6 = 64 by decide] at this
  exact this
theorem iAnd_1 {x : Int} : iAnd x 1 = x % 2 := by
  have := iAnd_m (x := x) 1 (by decide)
  rw [show (2 : Int) ^ 1 - 1 = 1 by decide, show (2 : Int) ^ 1 = 2 by decide] at this
  exact this
theorem up_ap {I : HI} {p k q j : Nat} {v : Int} : up I p k v q j = if q = p ∧ j = k then v else I q j := rfl
theorem cpy_ap {I : HI} {q0 q1 sp dp n q j : Nat} : cpy I q0 q1 sp dp n q j = if q = q1 ∧ dp ≤ j ∧ j < dp + n then I q0 (sp + (j - dp)) else I q j := rfl
def fil (I : HI) (c n : Nat) (f : Nat → Int) : HI := fun q k => if q = c ∧ k < n then f k else I q k
theorem fil_ap {I : HI} {c n q k : Nat} {f : Nat → Int} : fil I c n f q k = if q = c ∧ k < n then f k else I q k := rfl
theorem fil_0 {I : HI} {c : Nat} {f : Nat → Int} : fil I c 0 f = I := by
  funext q k
  simp [fil]
theorem fil_up {I : HI} {c n : Nat} {f : Nat → Int} : up (fil I c n f) c n (f n) = fil I c (n + 1) f := by
  funext q k
  simp only [up_ap, fil_ap]
  by_cases h1 : q = c <;> by_cases h2 : k = n <;> by_cases h3 : k < n <;> simp_all <;> omega
def sumN : Nat → (Nat → Int) → Int
  | 0, _ => 0
  | n + 1, f => sumN n f + f n
theorem sumN_congr {n : Nat} {f g : Nat → Int} (h : ∀ k, k < n → f k = g k) : sumN n f = sumN n g := by
  induction n with
  | zero => rfl
  | succ n ih => unfold sumN; rw [ih (fun k hk => h k (by omega)), h n (by omega)]
theorem sumN_le {n : Nat} {f : Nat → Int} {a b : Int} (h : ∀ k, k < n → a ≤ f k ∧ f k ≤ b) : n * a ≤ sumN n f ∧ sumN n f ≤ n * b := by
  induction n with
  | zero => simp [sumN]
  | succ n ih =>
    have h1 := ih (fun k hk => h k (by omega))
    have h2 := h n (by omega)
    have e1 : ((n + 1 : Nat) : Int) * a = n * a + a := by rw [Int.natCast_add, Int.add_mul]; simp
    have e2 : ((n + 1 : Nat) : Int) * b = n * b + b := by rw [Int.natCast_add, Int.add_mul]; simp
    unfold sumN
    rw [e1, e2]
    omega
theorem sumN_zero {n : Nat} {f : Nat → Int} (h : ∀ k, k < n → f k = 0) : sumN n f = 0 := by
  induction n with
  | zero => rfl
  | succ n ih => unfold sumN; rw [ih (fun k hk => h k (by omega)), h n (by omega)]; rfl
/-- heaps that agree but in some cells -/
def Off (S : List Nat) (I J : HI) : Prop := ∀ q, q ∉ S → ∀ k, J q k = I q k
theorem Off.rf {S : List Nat} {I : HI} : Off S I I := fun _ _ _ => rfl
theorem Off.tr {S : List Nat} {I J K : HI} (h1 : Off S I J) (h2 : Off S J K) : Off S I K := fun q hq k => (h2 q hq k).trans (h1 q hq k)
theorem Off.mono {S T : List Nat} {I J : HI} (h : Off S I J) (hs : ∀ q ∈ S, q ∈ T) : Off T I J := fun q hq k => h q (fun z => hq (hs q z)) k
theorem Off.up {S : List Nat} {I J : HI} (h : Off S I J) {p k : Nat} {v : Int} (hp : p ∈ S) : Off S I (up J p k v) := fun q hq j => by
  rw [up_n (fun z => hq (by rw [z.1]; exact hp))]
  exact h q hq j
theorem lDiv_p {x y : Int} (h0 : 0 ≤ x) (h1 : x < 9223372036854775808) (h2 : 0 < y) (h3 : y < 9223372036854775808) : lDiv x y = x / y := by
  unfold lDiv
  rw [Int64.toInt_div_of_ne_left _ _ (fun e => by have := congrArg Int64.toInt e; rw [t64_of ⟨by omega, h1⟩] at this; have h9 : Int64.minValue.toInt = -9223372036854775808 := rfl; omega), t64_of ⟨by omega, h1⟩, t64_of ⟨by omega, h3⟩, Int.tdiv_eq_ediv_of_nonneg h0]
theorem lRem_p {x y : Int} (h0 : 0 ≤ x) (h1 : x < 9223372036854775808) (h2 : 0 < y) (h3 : y < 9223372036854775808) : lRem x y = x % y := by
  have hq : (Int64.ofInt x / Int64.ofInt y) = Int64.ofInt (x / y) := by
    have := lDiv_p h0 h1 h2 h3
    unfold lDiv at this
    rw [← this, Int64.ofInt_toInt]
  unfold lRem
  rw [hq, ← Int64.ofInt_mul, ← Int64.ofInt_sub]
  have e : x - x / y * y = x % y := by rw [Int.mul_comm]; have := Int.emod_add_mul_ediv x y; omega
  rw [e]
  have h4 := Int.emod_nonneg x (by omega : y ≠ 0)
  have h5 := Int.emod_lt_of_pos x h2
  exact t64_of ⟨by omega, by omega⟩
section BJP
variable {μ : MR} {d pc : Nat} {L : ML} {st : List AV} {I : HI} {Q : Option AV → HI → Prop}
theorem b_idivP {x y : Int} (hf : fnd (mrC μ) pc = some (.idiv, 1)) (h0 : 0 ≤ x) (h2 : 0 < y) (k : Bj μ d (pc + 1) L (aI (x / y) :: st) I Q) : Bj μ d pc L (aI y :: aI x :: st) I Q := by
  refine b_ok (fun o _ _ => ?_)
  have o1 : in32 x := o.2.1
  have o2 : in32 y := o.1
  refine b_idiv hf (by omega) ?_
  rw [iDiv_p h0 o1.2 h2 o2.2]
  exact k
theorem b_iremP {x y : Int} (hf : fnd (mrC μ) pc = some (.irem, 1)) (h0 : 0 ≤ x) (h2 : 0 < y) (k : Bj μ d (pc + 1) L (aI (x % y) :: st) I Q) : Bj μ d pc L (aI y :: aI x :: st) I Q := by
  refine b_ok (fun o _ _ => ?_)
  have o1 : in32 x := o.2.1
  have o2 : in32 y := o.1
  refine b_irem hf (by omega) ?_
  rw [iRem_p h0 o1.2 h2 o2.2]
  exact k
theorem b_ldivP {x y : Int} (hf : fnd (mrC μ) pc = some (.ldiv, 1)) (h0 : 0 ≤ x) (h2 : 0 < y) (k : Bj μ d (pc + 1) L (aJ (x / y) :: st) I Q) : Bj μ d pc L (aJ y :: aJ x :: st) I Q := by
  refine b_ok (fun o _ _ => ?_)
  have o1 : in64 x := o.2.1
  have o2 : in64 y := o.1
  refine b_ldiv hf (by omega) ?_
  rw [lDiv_p h0 o1.2 h2 o2.2]
  exact k
theorem b_lremP {x y : Int} (hf : fnd (mrC μ) pc = some (.lrem, 1)) (h0 : 0 ≤ x) (h2 : 0 < y) (k : Bj μ d (pc + 1) L (aJ (x % y) :: st) I Q) : Bj μ d pc L (aJ y :: aJ x :: st) I Q := by
  refine b_ok (fun o _ _ => ?_)
  have o1 : in64 x := o.2.1
  have o2 : in64 y := o.1
  refine b_lrem hf (by omega) ?_
  rw [lRem_p h0 o1.2 h2 o2.2]
  exact k
end BJP
def row (I : HI) (c : Nat) (g : Nat → Int) : HI := fun q k => if q = c then g k else I q k
theorem row_ap {I : HI} {c q k : Nat} {g : Nat → Int} : row I c g q k = if q = c then g k else I q k := rfl
theorem row_self {I : HI} {c : Nat} : row I c (I c) = I := by
  funext q k
  unfold row
  split
  · rename_i h; rw [h]
  · rfl
theorem row_up {I : HI} {c k : Nat} {g : Nat → Int} {v : Int} : up (row I c g) c k v = row I c (fun j => if j = k then v else g j) := by
  funext q j
  simp only [up_ap, row_ap]
  by_cases h1 : q = c <;> by_cases h2 : j = k <;> simp [h1, h2]
theorem row_row {I : HI} {c : Nat} {g h : Nat → Int} : row (row I c g) c h = row I c h := by
  funext q j
  simp only [row_ap]
  split <;> rfl
section BJL
variable {μ : MR} {d pc : Nat} {L : ML} {st : List AV} {I : HI} {Q : Option AV → HI → Prop}
theorem b_ialdL {q n k : Nat} {x : Int} (hf : fnd (mrC μ) pc = some (.iaload, 1)) (hq : SHt[q]? = some (100, n)) (hx : x = (k : Int)) (h1 : k < n) (kk : Bj μ d (pc + 1) L (aI (I q k) :: st) I Q) : Bj μ d pc L (aI x :: aR q :: st) I Q := by
  subst hx
  exact b_iald hf hq (by omega) (by omega) kk
theorem b_iastL {q n k : Nat} {x v : Int} (hf : fnd (mrC μ) pc = some (.iastore, 1)) (hq : SHt[q]? = some (100, n)) (hx : x = (k : Int)) (h1 : k < n) (kk : Bj μ d (pc + 1) L st (up I q k v) Q) : Bj μ d pc L (aI v :: aI x :: aR q :: st) I Q := by
  subst hx
  exact b_iast hf hq (by omega) (by omega) kk
end BJL
