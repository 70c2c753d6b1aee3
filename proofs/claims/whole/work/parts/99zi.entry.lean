/-! THE CLAIM OUT OF ONE WALK OF THE LAW'S BODY. Your part is whole_start (and what it stands on); all else here is the same for every law, but numbers. -/
def R_law : String := "WrongTideLaw"
def lw_P (b : Addr) (xs : List Int32) (args : Array Value) (s : State) : Prop := args = #[.ref b] ∧ s.IntsAt b xs ∧ xs.length ≤ 3072 ∧ (Jvm.Cond.and given_1 narrow_1).before args s = true
def lw_Q (_ : Array Value) (s : State) (o : Outcome) (t : State) : Prop := o = .returned (some (.int 1)) ∧ Framed s o t [] 600000 7302250
def lw_Z (below : List Frame) (a : Array Value) (s : State) : State → Prop := fun t => ∃ o, t.status = .running ∧ Ended t below o ∧ lw_Q a s o t
/-- the law's own end, with 1 on the stack, nothing written that was there before, its room as the claim has it -/
theorem lw_ret {p : Program} {l : Launch} {e : Env} {s : State} {m : MethodId} {below : List Frame} {meth : Method} {c : Code} {b : Nat} (hx : p.tables.exec = Jvm.exec) (hb : c.code = code) (hr : meth.sig.returnType = ret) (hlocks : meth.locks = false) {pc : Nat} {H : Heap} {ls : Array Slot} (hdg : decode code pc = .ok (.ireturn, 1)) : W p l e room_1 s m #[Value.ref b] below meth c H [] 600000 7302250 (lw_Z below #[Value.ref b] s) (F0 m pc ls [.int 1]) := by
  intro T hT X
  obtain ⟨fs, hret, hrun, hended, hW, hframe⟩ := X.leave (v := some (.int 1)) (hlocks := hlocks) (fun h => by rw [hr] at h; cases h)
  have hmeth' : T.vm.method? m = some meth := X.method'
  refine ⟨T.setFrames fs, ?_, .returned (some (.int 1)), hrun, hended, rfl, ⟨_, rfl⟩, hW, hframe⟩
  jvm_step X.here [X.here.top, hx, hb, hdg, hmeth', hr, ret, narrow_b1]
  (try refine ⟨rfl, ?_⟩); (try refine ⟨rfl, ?_⟩)
  first | (intro acts; rw [hret _ acts rfl rfl rfl]) | rw [hret _ _ rfl rfl rfl]
  exact Steps.refl _
/-- what holds at the law's entry: the machine, the code, the tables' words (any of lw_tbl by 'hts w (by decide +kernel)'), the script of L ints xs at the cell b, what the Statement gives of the start (any of its parts by flat_of_before) -/
def lw_At (p : Program) (s : State) (m : MethodId) (meth : Method) (c : Code) (b L : Nat) (xs : Nat → Int32) : Prop :=
  p.tables.exec = Jvm.exec ∧ c.code = code ∧ meth.sig.returnType = ret ∧ c.maxLocals = 4 ∧ s.vm.findClass R_law = some m.cls ∧ (∀ w ∈ lw_tbl, w.before #[Value.ref b] s = true) ∧ va_X b L xs s s.heap ∧ b < s.heap.size ∧ meth.locks = false ∧ (Jvm.Cond.and given_1 narrow_1).before #[Value.ref b] s = true

theorem in_T1 {w : Cond} (i : Nat) (h : tables_1_1[i]? = some w) : w ∈ lw_tbl := mem_t (List.mem_append_left _ (List.mem_of_getElem? h))
theorem in_T3 {w : Cond} (i : Nat) (h : tables_1_3[i]? = some w) : w ∈ lw_tbl := mem_t (List.mem_append_right _ (List.mem_append_right _ (List.mem_append_left _ (List.mem_of_getElem? h))))
theorem nw11 : Cond.instantiable (clT 11).1 16 ∈ Wg := in_W1 21 (by decide +kernel) rfl
theorem nw12 : Cond.instantiable (clT 12).1 71 ∈ Wg := in_W5 227 (by decide +kernel) rfl
/-- what the Statement gives of the start, in a row -/
def nFl : List Cond := flatC (Jvm.Cond.and given_1 narrow_1)
def tmS (j : Nat) : Term := .static "WrongTide" (stn j) "[I"
def tmO : Term := .string "WrongTide$Lexer" 23
def tmV : Term := .field tmO "java/lang/String" "value" "[B"
def nfP (j : Nat) : Nat := [10, 16, 22, 28, 34, 40, 47].getD j 0
theorem ls_0 : ∀ j, j < 7 → nFl[nfP j]? = some (.arrayOf (tmS j) .int) := by decide +kernel
theorem ls_1 : ∀ j, j < 7 → nFl[nfP j + 1]? = some (.eq (.length (tmS j)) (.int (Int32.ofNat (stl j).length))) := by decide +kernel
theorem ls_2 : ∀ j, j < 7 → ∀ k, k < (stl j).length → nFl[nfP j + 2 + k]? = some (.eq (.elem (tmS j) (.int (Int32.ofNat k))) (.int (Int32.ofInt ((stl j).getD k 0)))) := by decide +kernel
def lsP (j : Nat) : Nat := [84, 94, 96, 102, 104, 152, 210].getD j 0
theorem ls_3 : ∀ j, j < 7 → tables_1_3[lsP j]? = some (.laysStatic "WrongTide" (stn j) "[I") := by decide +kernel
theorem lo_0 : nFl[57]? = some (.exactly tmO "java/lang/String") := by decide +kernel
theorem lo_1 : nFl[58]? = some (.eq (.field tmO "java/lang/String" "coder" "B") (.int 0)) := by decide +kernel
theorem lo_2 : nFl[59]? = some (.arrayOf tmV .byte) := by decide +kernel
theorem lo_3 : nFl[60]? = some (.eq (.length tmV) (.int (Int32.ofNat 146))) := by decide +kernel
theorem lo_4 : ∀ k, k < 146 → nFl[61 + k]? = some (.eq (.elem tmV (.int (Int32.ofNat k))) (.int (Int32.ofInt (owL.getD k 0)))) := by decide +kernel
theorem lo_5 : nFl[4]? = some (.eq (.static "java/lang/String" "COMPACT_STRINGS" "Z") (.int 1)) := by decide +kernel
theorem lo_6 : nFl[5]? = some (.isRef (.static "jdk/internal/util/Preconditions" "SIOOBE_FORMATTER" "Ljava/util/function/BiFunction;")) := by decide +kernel
theorem lo_7 : tables_1_1[152]? = some (.stringRef RX1 23 owt) := by decide +kernel
theorem lo_8 : tables_1_1[162]? = some (.laysStatic "java/lang/String" "COMPACT_STRINGS" "Z") := by decide +kernel
theorem lo_9 : tables_1_1[178]? = some (.laysStatic "jdk/internal/util/Preconditions" "SIOOBE_FORMATTER" "Ljava/util/function/BiFunction;") := by decide +kernel
theorem lo_i0 : Cond.initialized "WrongTide" ∈ Wg := in_W1 1 (by decide +kernel) rfl
theorem lo_i1 : Cond.initialized "java/lang/String" ∈ Wg := in_W1 7 (by decide +kernel) rfl
theorem lo_i2 : Cond.initialized "jdk/internal/util/Preconditions" ∈ Wg := in_W1 9 (by decide +kernel) rfl
def saM (f : Nat → Nat) (a t : Nat) (r : Option Nat) (b j : Nat) : Option Nat := if j < 7 then some (f j) else if j = 7 then some a else if j = 8 then some t else if j = 9 then r else some b
theorem ins_all : ∀ t, t < 13 → Cond.instantiable (clT t).1 (clT t).2.2 ∈ Wg := by
  intro t ht
  match t, ht with
  | 0, _ => exact nw0
  | 1, _ => exact nw1
  | 2, _ => exact nw2
  | 3, _ => exact nw3
  | 4, _ => exact nw4
  | 5, _ => exact nw5
  | 6, _ => exact nw6
  | 7, _ => exact nw7
  | 8, _ => exact nw8
  | 9, _ => exact nw9
  | 10, _ => exact nw10
  | 11, _ => exact nw11
  | 12, _ => exact nw12
  | t + 13, h => omega
theorem ar_K {args : Array Value} {s : State} {ty : FieldType} (h : (Cond.arrayClass ty).before args s = true) (h9 : ∀ C, ty ≠ .object C) : ∃ cA : ClassId, ArrOfT s cA ty ∧ va_RA s cA ty := by
  obtain ⟨cA, kA, comp, h1, h2, h3⟩ := Cond.arrayClass_spec h
  refine ⟨cA, fun n z => ⟨fun k h => (by cases h), kA, h2, comp, h3⟩, ?_⟩
  cases ty with
  | object C => exact absurd rfl (h9 C)
  | _ => exact h1
/-- what stands at the law's entry, outside of the world -/
theorem kw_start {p : Program} {s : State} {m : MethodId} {meth : Method} {c : Code} {b n : Nat} {xs : Nat → Int32} (C0 : lw_At p s m meth c b n xs) : ∃ (D : va_G) (tc : Nat → ClassId) (sa : Nat → Option Nat), kW D tc sa (fun q => s.heap.size ≤ q) s ∧ sa 10 = some b := by
  obtain ⟨hx, hb, hr, hml, hown, hts, hX, hbl, hlocks, hgv⟩ := C0
  have hW : ∀ w ∈ Wg, w.before #[Value.ref b] s = true := fun w hw => hts w (List.mem_filter.mp hw).1
  have hF : ∀ (i : Nat) (w : Cond), nFl[i]? = some w → w.before #[Value.ref b] s = true := fun i w h => flat_of_before _ hgv w (List.mem_of_getElem? h)
  have hA : ∀ a : Nat, a < s.heap.size → ¬ (fun q => s.heap.size ≤ q) a := fun a h => Nat.not_le.mpr h
  have h0 : ∀ t : Nat, ∃ q : ClassId × (Nat → Nat), t < 13 → u_Kn s (clT t).1 (clT t).2.1 (clT t).2.2 q.1 q.2 := by
    intro t
    by_cases ht : t < 13
    · obtain ⟨cC, iS, hk⟩ := u_known hW (ctok t ht).2.1 (hW _ (ins_all t ht))
      exact ⟨(cC, iS), fun _ => hk⟩
    · obtain ⟨cC, iS, hk⟩ := u_known hW (ctok 0 (by decide)).2.1 (hW _ (ins_all 0 (by decide)))
      exact ⟨(cC, iS), fun z => absurd z ht⟩
  obtain ⟨fD, hfD⟩ := Classical.axiomOfChoice h0
  obtain ⟨c0, a0, b0⟩ := ar_K (hW _ wg_ac_int) (fun C z => by cases z)
  obtain ⟨c1, a1, b1⟩ := ar_K (hW _ wg_ac_long) (fun C z => by cases z)
  obtain ⟨c2, a2, b2⟩ := ar_K (hW _ wg_ac_boolean) (fun C z => by cases z)
  have h1 : ∀ j : Nat, ∃ a : Nat, j < 7 → va_Z "WrongTide" (stn j) "[I" (.ref a) (fun q => s.heap.size ≤ q) s s.heap ∧ va_T .int a (stl j).length (fun k => .int (Int32.ofInt ((stl j).getD k 0))) (fun q => s.heap.size ≤ q) s s.heap := by
    intro j
    by_cases hj : j < 7
    · have hlen : (stl j).length < 2 ^ 31 := by
        have : ∀ j, j < 7 → (stl j).length < 2 ^ 31 := by decide +kernel
        exact this j hj
      obtain ⟨t, ht, hT⟩ := va_Tof (tm := tmS j) (f := fun k => .int (Int32.ofInt ((stl j).getD k 0))) (A := fun q => s.heap.size ≤ q) hlen (hF _ _ (ls_0 j hj)) (va_eqt (hF _ _ (ls_1 j hj))) (fun k hk => va_eqt (hF _ _ (ls_2 j hj k hk))) hA
      exact ⟨t, fun _ => ⟨va_Zof (hts _ (in_T3 _ (ls_3 j hj))) (hW _ lo_i0) ht hA, hT⟩⟩
    · exact ⟨0, fun z => absurd z hj⟩
  obtain ⟨fS, hfS⟩ := Classical.axiomOfChoice h1
  obtain ⟨a, cc, cA, kA, q1, q2, q3, q4, q5, q6, -⟩ := Cond.exactly_spec (args := #[Value.ref b]) (first := s) (o := none) (s := s) (idx := []) (t := tmO) (cls := "java/lang/String") (hF _ _ lo_0)
  obtain ⟨t, ht, hT⟩ := va_Tof (tm := tmV) (N := 146) (f := fun k => .int (Int32.ofInt (owL.getD k 0))) (A := fun q => s.heap.size ≤ q) (by decide) (hF _ _ lo_2) (va_eqt (hF _ _ lo_3)) (fun k hk => va_eqt (hF _ _ (lo_4 k hk))) hA
  have hZ := va_Zof (A := fun q => s.heap.size ≤ q) (hts _ (in_T1 _ lo_8)) (hW _ lo_i1) (va_eqt (hF _ _ lo_5)) hA
  obtain ⟨r, hr9⟩ : ∃ r : Option Nat, va_Z "jdk/internal/util/Preconditions" "SIOOBE_FORMATTER" "Ljava/util/function/BiFunction;" (va_rf r) (fun q => s.heap.size ≤ q) s s.heap := by
    rcases va_Zqof (A := fun q => s.heap.size ≤ q) (hts _ (in_T1 _ lo_9)) (hW _ lo_i2) (hF _ _ lo_6) hA with z | ⟨t9, z⟩
    · exact ⟨none, z⟩
    · exact ⟨some t9, z⟩
  refine ⟨(fun t => (fD t).1, fun t => (fD t).2), fun t => if t = 100 then c0 else if t = 101 then c1 else c2, saM fS a t r b, ⟨⟨fun k q hk => ?_, fun k q hk => ?_⟩, fun w hw hn => ?_, fun j hj => ?_, a, t, rfl, rfl, ?_, ?_, ?_, ?_, ?_, hZ, hr9⟩, rfl⟩
  · have hk13 : k < 13 := (List.getElem?_eq_some_iff.mp hk).1
    have e := (ctok k hk13).1
    rw [hk] at e
    have e2 := Option.some.inj e
    subst e2
    exact hfD k hk13
  · have hk3 : k < 3 := (List.getElem?_eq_some_iff.mp hk).1
    match k, hk3, hk with
    | 0, _, hk => cases hk; exact ⟨a0, b0⟩
    | 1, _, hk => cases hk; exact ⟨a1, b1⟩
    | 2, _, hk => cases hk; exact ⟨a2, b2⟩
    | k + 3, h, _ => omega
  · have h9 := hts w hw
    cases w with
    | methodLinkNest _ _ _ _ => exact va_Nw.of rfl h9
    | fieldLinkNest _ _ _ _ _ _ => exact va_Nw.of rfl h9
    | _ => cases hn
  · refine ⟨fS j, ?_, hfS j hj⟩
    unfold saM
    rw [if_pos hj]
  · exact vk_R.of (hts _ (in_T1 _ lo_7)) q1
  · exact ⟨cA, q3, q5, by rw [q6]; exact q2, hA a (Array.getElem?_eq_some_iff.mp q3).1⟩
  · exact vk_OFof q1 (va_eqt (hF _ _ lo_1)) hA
  · exact vk_OFof q1 ht hA
  · rw [owl_len, owl_eq]
    exact hT
