theorem fm_floorDiv_at0 : decode cJ9_floorDiv_7cf53 0 = .ok (.iload_n 0, 1) := by decide +kernel
theorem fm_floorDiv_at1 : decode cJ9_floorDiv_7cf53 1 = .ok (.iload_n 1, 1) := by decide +kernel
theorem fm_floorDiv_at2 : decode cJ9_floorDiv_7cf53 2 = .ok (.idiv, 1) := by decide +kernel
theorem fm_floorDiv_at3 : decode cJ9_floorDiv_7cf53 3 = .ok (.istore_n 2, 1) := by decide +kernel
theorem fm_floorDiv_at4 : decode cJ9_floorDiv_7cf53 4 = .ok (.iload_n 0, 1) := by decide +kernel
theorem fm_floorDiv_at5 : decode cJ9_floorDiv_7cf53 5 = .ok (.iload_n 1, 1) := by decide +kernel
theorem fm_floorDiv_at6 : decode cJ9_floorDiv_7cf53 6 = .ok (.ixor, 1) := by decide +kernel
theorem fm_floorDiv_at7 : decode cJ9_floorDiv_7cf53 7 = .ok (.ifCond .ge 14, 3) := by decide +kernel
theorem fm_floorDiv_at10 : decode cJ9_floorDiv_7cf53 10 = .ok (.iload_n 2, 1) := by decide +kernel
theorem fm_floorDiv_at11 : decode cJ9_floorDiv_7cf53 11 = .ok (.iload_n 1, 1) := by decide +kernel
theorem fm_floorDiv_at12 : decode cJ9_floorDiv_7cf53 12 = .ok (.imul, 1) := by decide +kernel
theorem fm_floorDiv_at13 : decode cJ9_floorDiv_7cf53 13 = .ok (.iload_n 0, 1) := by decide +kernel
theorem fm_floorDiv_at14 : decode cJ9_floorDiv_7cf53 14 = .ok (.if_icmp .eq 7, 3) := by decide +kernel
theorem fm_floorDiv_at17 : decode cJ9_floorDiv_7cf53 17 = .ok (.iload_n 2, 1) := by decide +kernel
theorem fm_floorDiv_at18 : decode cJ9_floorDiv_7cf53 18 = .ok (.iconst 1, 1) := by decide +kernel
theorem fm_floorDiv_at19 : decode cJ9_floorDiv_7cf53 19 = .ok (.isub, 1) := by decide +kernel
theorem fm_floorDiv_at20 : decode cJ9_floorDiv_7cf53 20 = .ok (.ireturn, 1) := by decide +kernel
theorem fm_floorDiv_at21 : decode cJ9_floorDiv_7cf53 21 = .ok (.iload_n 2, 1) := by decide +kernel
theorem fm_floorDiv_at22 : decode cJ9_floorDiv_7cf53 22 = .ok (.ireturn, 1) := by decide +kernel
theorem fm_floorDiv_no0 : (NativeRow.find? natives yJ9_floorDiv_7cf53.cls yJ9_floorDiv_7cf53.name yJ9_floorDiv_7cf53.desc).isNone = true := by decide +kernel
theorem fm_floorDiv_no (p : Program) : NativeRow.find? p.tables.natives yJ9_floorDiv_7cf53.cls yJ9_floorDiv_7cf53.name yJ9_floorDiv_7cf53.desc = none := by
  cases p <;> exact Option.isNone_iff_eq_none.mp fm_floorDiv_no0
def fm_floorDiv_val (a b : Int32) : Int32 := if 0 ≤ a ^^^ b then a / b else if a / b * b = a then a / b else a / b - 1
def fm_floorDiv_spec (a b v : Int32) : Spec where
  pre := .and (.code yJ9_floorDiv_7cf53 cJ9_floorDiv_7cf53 3 (some .int)) (.and (.count 2) (.and (.isInt (.arg 0)) (.and (.isInt (.arg 1)) (.and (.eq (.arg 0) (.int a)) (.eq (.arg 1) (.int b))))))
  post := .and .returned (.eq .result (.int v))
  changes := some []
theorem fm_floorDiv_two {args : Array Value} {s : State} {a b v : Int32} (h : (fm_floorDiv_spec a b v).pre.before args s = true) : args = #[.int a, .int b] := by
  simp only [fm_floorDiv_spec, Cond.before_and, Bool.and_eq_true] at h
  obtain ⟨x, y, rfl⟩ := Cond.two_ints h.2.1 h.2.2.1 h.2.2.2.1
  have h1 := h.2.2.2.2.1
  have h2 := h.2.2.2.2.2
  simp [Cond.before, Cond.holds, Cond.value, Term.eval] at h1 h2
  rw [h1, h2]
theorem fm_floorDiv_meets (l : Launch) (a b : Int32) (hb0 : ¬ b = 0) : MeetsLoose l yJ9_floorDiv_7cf53 (fm_floorDiv_spec a b (fm_floorDiv_val a b)) := by
  refine MeetsLoose.of_body_ov (code := cJ9_floorDiv_7cf53) (maxLocals := 3) (ret := some .int) fm_floorDiv_no ?_ ?_
  · intro args s h
    simp only [fm_floorDiv_spec, Cond.before_and, Bool.and_eq_true] at h
    exact h.1
  · intro p e s m args below meth c s₁ B
    have hargs := fm_floorDiv_two B.pre
    subst hargs
    have hloc : argsToLocals #[.int a, .int b] 3 = #[.val (.int a), .val (.int b), .unset] := rfl
    have fin : ∀ r : Int32, r = fm_floorDiv_val a b → (∀ fs, Steps p.tables e below (s₁.setTop (entryFrame m #[.int a, .int b] 3)) (s₁.setFrames fs) ∨ handOver s₁ (some (.int r)) below ≠ some fs) →
        ∃ s₂ o, Steps p.tables e below (s₁.setTop (entryFrame m #[.int a, .int b] 3)) s₂ ∧ s₂.status = .running ∧ Ended s₂ below o ∧
          (fm_floorDiv_spec a b (fm_floorDiv_val a b)).ensures #[.int a, .int b] s o s₂ := by
      intro r hr hwalk
      obtain ⟨fs, hfs⟩ := handOver_isSome (s := s₁) (some (.int r)) B.hears₁
      refine ⟨s₁.setFrames fs, .returned (some (.int r)), (hwalk fs).resolve_right (fun h => h hfs), B.here.running, B.ended hfs (by intro h; cases h), ?_, State.sameBut_nil.mpr ?_⟩
      · simp [fm_floorDiv_spec, Cond.after, Cond.holds, Cond.value, Term.eval, hr]
      · rw [State.frames_setFrames _ B.cur₁, B.back]
    by_cases h7 : 0 ≤ a ^^^ b
    ·
      refine fin (a / b) (by unfold fm_floorDiv_val; simp [h7]) (fun fs => ?_)
      by_cases hfs : handOver s₁ (some (.int (a / b))) below = some fs
      · left
        unfold entryFrame; rw [hloc]
        refine Steps.instrAtOv (c := _) (by simpa using B.here) ?_
        simp [jvm, wpRun, exec, B.here.top, B.exec, B.bytes, fm_floorDiv_at0]
        refine Steps.instrAtOv (c := _) (by simpa using B.here) ?_
        simp [jvm, wpRun, exec, B.here.top, B.exec, B.bytes, fm_floorDiv_at1]
        refine Steps.instrAtOv (c := _) (by simpa using B.here) ?_
        simp [jvm, wpRun, exec, B.here.top, B.exec, B.bytes, fm_floorDiv_at2, hb0]
        refine Steps.instrAtOv (c := _) (by simpa using B.here) ?_
        simp [jvm, wpRun, exec, B.here.top, B.exec, B.bytes, fm_floorDiv_at3, storeLocals, storeSelf, setAt, Value.category]
        refine Steps.instrAtOv (c := _) (by simpa using B.here) ?_
        simp [jvm, wpRun, exec, B.here.top, B.exec, B.bytes, fm_floorDiv_at4]
        refine Steps.instrAtOv (c := _) (by simpa using B.here) ?_
        simp [jvm, wpRun, exec, B.here.top, B.exec, B.bytes, fm_floorDiv_at5]
        refine Steps.instrAtOv (c := _) (by simpa using B.here) ?_
        simp [jvm, wpRun, exec, B.here.top, B.exec, B.bytes, fm_floorDiv_at6]
        refine Steps.instrAtOv (c := _) (by simpa using B.here) ?_
        simp [jvm, wpRun, exec, B.here.top, B.exec, B.bytes, fm_floorDiv_at7, ifCond.holds, h7]
        refine Steps.instrAtOv (c := _) (by simpa using B.here) ?_
        simp [jvm, wpRun, exec, B.here.top, B.exec, B.bytes, fm_floorDiv_at21]
        refine Steps.instrAtOv (c := _) (by simpa using B.here) ?_
        simp [jvm, wpRun, exec, B.here.top, B.exec, B.bytes, fm_floorDiv_at22, B.method₁, B.returns, narrow]
        intro acts
        rw [ret_to B.frames₁ B.method₁ B.notSynchronized rfl rfl hfs]
        exact Steps.refl _
      · exact Or.inr hfs
    · by_cases h14 : a / b * b = a
      ·
        refine fin (a / b) (by unfold fm_floorDiv_val; simp [h7, h14]) (fun fs => ?_)
        by_cases hfs : handOver s₁ (some (.int (a / b))) below = some fs
        · left
          unfold entryFrame; rw [hloc]
          refine Steps.instrAtOv (c := _) (by simpa using B.here) ?_
          simp [jvm, wpRun, exec, B.here.top, B.exec, B.bytes, fm_floorDiv_at0]
          refine Steps.instrAtOv (c := _) (by simpa using B.here) ?_
          simp [jvm, wpRun, exec, B.here.top, B.exec, B.bytes, fm_floorDiv_at1]
          refine Steps.instrAtOv (c := _) (by simpa using B.here) ?_
          simp [jvm, wpRun, exec, B.here.top, B.exec, B.bytes, fm_floorDiv_at2, hb0]
          refine Steps.instrAtOv (c := _) (by simpa using B.here) ?_
          simp [jvm, wpRun, exec, B.here.top, B.exec, B.bytes, fm_floorDiv_at3, storeLocals, storeSelf, setAt, Value.category]
          refine Steps.instrAtOv (c := _) (by simpa using B.here) ?_
          simp [jvm, wpRun, exec, B.here.top, B.exec, B.bytes, fm_floorDiv_at4]
          refine Steps.instrAtOv (c := _) (by simpa using B.here) ?_
          simp [jvm, wpRun, exec, B.here.top, B.exec, B.bytes, fm_floorDiv_at5]
          refine Steps.instrAtOv (c := _) (by simpa using B.here) ?_
          simp [jvm, wpRun, exec, B.here.top, B.exec, B.bytes, fm_floorDiv_at6]
          refine Steps.instrAtOv (c := _) (by simpa using B.here) ?_
          simp [jvm, wpRun, exec, B.here.top, B.exec, B.bytes, fm_floorDiv_at7, ifCond.holds, h7]
          refine Steps.instrAtOv (c := _) (by simpa using B.here) ?_
          simp [jvm, wpRun, exec, B.here.top, B.exec, B.bytes, fm_floorDiv_at10]
          refine Steps.instrAtOv (c := _) (by simpa using B.here) ?_
          simp [jvm, wpRun, exec, B.here.top, B.exec, B.bytes, fm_floorDiv_at11]
          refine Steps.instrAtOv (c := _) (by simpa using B.here) ?_
          simp [jvm, wpRun, exec, B.here.top, B.exec, B.bytes, fm_floorDiv_at12]
          refine Steps.instrAtOv (c := _) (by simpa using B.here) ?_
          simp [jvm, wpRun, exec, B.here.top, B.exec, B.bytes, fm_floorDiv_at13]
          refine Steps.instrAtOv (c := _) (by simpa using B.here) ?_
          simp [jvm, wpRun, exec, B.here.top, B.exec, B.bytes, fm_floorDiv_at14, if_icmp.holds, h14]
          refine Steps.instrAtOv (c := _) (by simpa using B.here) ?_
          simp [jvm, wpRun, exec, B.here.top, B.exec, B.bytes, fm_floorDiv_at21]
          refine Steps.instrAtOv (c := _) (by simpa using B.here) ?_
          simp [jvm, wpRun, exec, B.here.top, B.exec, B.bytes, fm_floorDiv_at22, B.method₁, B.returns, narrow]
          intro acts
          rw [ret_to B.frames₁ B.method₁ B.notSynchronized rfl rfl hfs]
          exact Steps.refl _
        · exact Or.inr hfs
      ·
        refine fin (a / b - 1) (by unfold fm_floorDiv_val; simp [h7, h14]) (fun fs => ?_)
        by_cases hfs : handOver s₁ (some (.int (a / b - 1))) below = some fs
        · left
          unfold entryFrame; rw [hloc]
          refine Steps.instrAtOv (c := _) (by simpa using B.here) ?_
          simp [jvm, wpRun, exec, B.here.top, B.exec, B.bytes, fm_floorDiv_at0]
          refine Steps.instrAtOv (c := _) (by simpa using B.here) ?_
          simp [jvm, wpRun, exec, B.here.top, B.exec, B.bytes, fm_floorDiv_at1]
          refine Steps.instrAtOv (c := _) (by simpa using B.here) ?_
          simp [jvm, wpRun, exec, B.here.top, B.exec, B.bytes, fm_floorDiv_at2, hb0]
          refine Steps.instrAtOv (c := _) (by simpa using B.here) ?_
          simp [jvm, wpRun, exec, B.here.top, B.exec, B.bytes, fm_floorDiv_at3, storeLocals, storeSelf, setAt, Value.category]
          refine Steps.instrAtOv (c := _) (by simpa using B.here) ?_
          simp [jvm, wpRun, exec, B.here.top, B.exec, B.bytes, fm_floorDiv_at4]
          refine Steps.instrAtOv (c := _) (by simpa using B.here) ?_
          simp [jvm, wpRun, exec, B.here.top, B.exec, B.bytes, fm_floorDiv_at5]
          refine Steps.instrAtOv (c := _) (by simpa using B.here) ?_
          simp [jvm, wpRun, exec, B.here.top, B.exec, B.bytes, fm_floorDiv_at6]
          refine Steps.instrAtOv (c := _) (by simpa using B.here) ?_
          simp [jvm, wpRun, exec, B.here.top, B.exec, B.bytes, fm_floorDiv_at7, ifCond.holds, h7]
          refine Steps.instrAtOv (c := _) (by simpa using B.here) ?_
          simp [jvm, wpRun, exec, B.here.top, B.exec, B.bytes, fm_floorDiv_at10]
          refine Steps.instrAtOv (c := _) (by simpa using B.here) ?_
          simp [jvm, wpRun, exec, B.here.top, B.exec, B.bytes, fm_floorDiv_at11]
          refine Steps.instrAtOv (c := _) (by simpa using B.here) ?_
          simp [jvm, wpRun, exec, B.here.top, B.exec, B.bytes, fm_floorDiv_at12]
          refine Steps.instrAtOv (c := _) (by simpa using B.here) ?_
          simp [jvm, wpRun, exec, B.here.top, B.exec, B.bytes, fm_floorDiv_at13]
          refine Steps.instrAtOv (c := _) (by simpa using B.here) ?_
          simp [jvm, wpRun, exec, B.here.top, B.exec, B.bytes, fm_floorDiv_at14, if_icmp.holds, h14]
          refine Steps.instrAtOv (c := _) (by simpa using B.here) ?_
          simp [jvm, wpRun, exec, B.here.top, B.exec, B.bytes, fm_floorDiv_at17]
          refine Steps.instrAtOv (c := _) (by simpa using B.here) ?_
          simp [jvm, wpRun, exec, B.here.top, B.exec, B.bytes, fm_floorDiv_at18]
          refine Steps.instrAtOv (c := _) (by simpa using B.here) ?_
          simp [jvm, wpRun, exec, B.here.top, B.exec, B.bytes, fm_floorDiv_at19]
          refine Steps.instrAtOv (c := _) (by simpa using B.here) ?_
          simp [jvm, wpRun, exec, B.here.top, B.exec, B.bytes, fm_floorDiv_at20, B.method₁, B.returns, narrow]
          intro acts
          rw [ret_to B.frames₁ B.method₁ B.notSynchronized rfl rfl hfs]
          exact Steps.refl _
        · exact Or.inr hfs
theorem wg_floorDivS : Cond.static yJ9_floorDiv_7cf53 ∈ Wg := in_W4 27 (by decide +kernel) rfl
theorem wg_floorDivC : Cond.code yJ9_floorDiv_7cf53 cJ9_floorDiv_7cf53 3 (some .int) ∈ Wg := in_W4 28 (by decide +kernel) rfl
theorem fm_floorDiv_run {p : Program} {l : Launch} {e : Env} {R : Room} {s : State} {m : MethodId} {args : Array Value} {below : List Frame} {meth : Method} {c : Code} {cells slots : Nat} {T : State} {locs : List Loc} (X : Stand p l e R s m args below meth c T locs cells slots) (hexec : p.tables.exec = Jvm.exec) {own : String} {index : Nat} (hown : s.vm.findClass own = some m.cls)
    (hlink : (Cond.methodLink own index yJ9_floorDiv_7cf53).before args s = true) (hstat : (Cond.static yJ9_floorDiv_7cf53).before args s = true) (hinit : (Cond.initialized "java/lang/Math").before args s = true)
    (hcode : (Cond.code yJ9_floorDiv_7cf53 cJ9_floorDiv_7cf53 3 (some .int)).before args s = true)
    {g : JFrame} (hg : g.method = m) (hsize : g.locals.size = c.maxLocals) {a b : Int32} (hb0 : ¬ b = 0) {rest : List Value} (hstack : g.stack = .int b :: .int a :: rest) (hdg : decode c.code g.pc = .ok (.invokestatic index, 3))
    (hframes : 1 ≤ R.frames) (hlocals : 2 * g.monitorRoom + (rest.map fun v => v.category).sum + 14 ≤ R.locals) (hcells : cells ≤ R.cells) (hslots : slots ≤ R.slots) :
    ∃ vm', Stand p l e R s m args below meth c (T.setVm vm') locs cells slots ∧
      ∀ target, Steps p.tables e below ((T.setVm vm').setTop { g with pc := g.pc + 3, stack := .int (fm_floorDiv_val a b) :: rest }) target → Steps p.tables e below (T.setTop g) target := by
  obtain ⟨v, T', X', ⟨first, t, hpost⟩, hstep⟩ := X.staticByContractV hexec hown hlink hstat hinit hcode (by decide)
    (fm_floorDiv_meets l a b hb0)
    rfl rfl rfl rfl
    (fun args' first o s₂ h => by
      simp only [fm_floorDiv_spec, Cond.after_and, Bool.and_eq_true] at h
      cases o with
      | returned r => exact ⟨r, rfl⟩
      | threw y => simp [Cond.after, Cond.holds, Cond.value] at h)
    hg hsize (argsL := [.int a, .int b]) (rest := rest)
    (fun sig hs => by
      have h : parseMethodDescriptor "(II)I" = some { parameters := [.int, .int], returnType := some .int } := by decide +kernel
      rw [show yJ9_floorDiv_7cf53.desc = "(II)I" from rfl, h] at hs
      rw [← Option.some.inj hs]; rfl)
    hstack hdg
    (fun vm' hW => by
      simp only [fm_floorDiv_spec, Cond.before_and, Bool.and_eq_true]
      refine ⟨?_, rfl, rfl, rfl, by simp [Cond.before, Cond.holds, Cond.value, Term.eval], by simp [Cond.before, Cond.holds, Cond.value, Term.eval]⟩
      have q := hcode
      rw [← Cond.code_setVm hW.alike] at q
      simp only [Cond.before, Cond.holds, Cond.value, State.methodNamed?, State.vm_setVm] at q ⊢
      exact q)
    (by show 0 + 1 ≤ R.frames; omega) (by show 2 * g.monitorRoom + (rest.map fun v => v.category).sum + (3 + 11) + 0 ≤ R.locals; omega) (by show cells + 0 ≤ R.cells; omega) (by show slots + 0 ≤ R.slots; omega)
  refine ⟨T', X', fun target h => hstep target ?_⟩
  obtain rfl : v = some (.int (fm_floorDiv_val a b)) := by
    rcases v with _ | w
    · simp [fm_floorDiv_spec, Cond.after, Cond.holds, Cond.value, Term.eval] at hpost
    · cases w <;> simp [fm_floorDiv_spec, Cond.after, Cond.holds, Cond.value, Term.eval] at hpost
      rw [hpost]
  exact h
theorem fm_floorMod_at0 : decode cJ9_floorMod_7cf53 0 = .ok (.iload_n 0, 1) := by decide +kernel
theorem fm_floorMod_at1 : decode cJ9_floorMod_7cf53 1 = .ok (.iload_n 1, 1) := by decide +kernel
theorem fm_floorMod_at2 : decode cJ9_floorMod_7cf53 2 = .ok (.irem, 1) := by decide +kernel
theorem fm_floorMod_at3 : decode cJ9_floorMod_7cf53 3 = .ok (.istore_n 2, 1) := by decide +kernel
theorem fm_floorMod_at4 : decode cJ9_floorMod_7cf53 4 = .ok (.iload_n 0, 1) := by decide +kernel
theorem fm_floorMod_at5 : decode cJ9_floorMod_7cf53 5 = .ok (.iload_n 1, 1) := by decide +kernel
theorem fm_floorMod_at6 : decode cJ9_floorMod_7cf53 6 = .ok (.ixor, 1) := by decide +kernel
theorem fm_floorMod_at7 : decode cJ9_floorMod_7cf53 7 = .ok (.ifCond .ge 11, 3) := by decide +kernel
theorem fm_floorMod_at10 : decode cJ9_floorMod_7cf53 10 = .ok (.iload_n 2, 1) := by decide +kernel
theorem fm_floorMod_at11 : decode cJ9_floorMod_7cf53 11 = .ok (.ifCond .eq 7, 3) := by decide +kernel
theorem fm_floorMod_at14 : decode cJ9_floorMod_7cf53 14 = .ok (.iload_n 2, 1) := by decide +kernel
theorem fm_floorMod_at15 : decode cJ9_floorMod_7cf53 15 = .ok (.iload_n 1, 1) := by decide +kernel
theorem fm_floorMod_at16 : decode cJ9_floorMod_7cf53 16 = .ok (.iadd, 1) := by decide +kernel
theorem fm_floorMod_at17 : decode cJ9_floorMod_7cf53 17 = .ok (.ireturn, 1) := by decide +kernel
theorem fm_floorMod_at18 : decode cJ9_floorMod_7cf53 18 = .ok (.iload_n 2, 1) := by decide +kernel
theorem fm_floorMod_at19 : decode cJ9_floorMod_7cf53 19 = .ok (.ireturn, 1) := by decide +kernel
theorem fm_floorMod_no0 : (NativeRow.find? natives yJ9_floorMod_7cf53.cls yJ9_floorMod_7cf53.name yJ9_floorMod_7cf53.desc).isNone = true := by decide +kernel
theorem fm_floorMod_no (p : Program) : NativeRow.find? p.tables.natives yJ9_floorMod_7cf53.cls yJ9_floorMod_7cf53.name yJ9_floorMod_7cf53.desc = none := by
  cases p <;> exact Option.isNone_iff_eq_none.mp fm_floorMod_no0
def fm_floorMod_val (a b : Int32) : Int32 := if 0 ≤ a ^^^ b then a - a / b * b else if a - a / b * b = 0 then a - a / b * b else a - a / b * b + b
def fm_floorMod_spec (a b v : Int32) : Spec where
  pre := .and (.code yJ9_floorMod_7cf53 cJ9_floorMod_7cf53 3 (some .int)) (.and (.count 2) (.and (.isInt (.arg 0)) (.and (.isInt (.arg 1)) (.and (.eq (.arg 0) (.int a)) (.eq (.arg 1) (.int b))))))
  post := .and .returned (.eq .result (.int v))
  changes := some []
theorem fm_floorMod_two {args : Array Value} {s : State} {a b v : Int32} (h : (fm_floorMod_spec a b v).pre.before args s = true) : args = #[.int a, .int b] := by
  simp only [fm_floorMod_spec, Cond.before_and, Bool.and_eq_true] at h
  obtain ⟨x, y, rfl⟩ := Cond.two_ints h.2.1 h.2.2.1 h.2.2.2.1
  have h1 := h.2.2.2.2.1
  have h2 := h.2.2.2.2.2
  simp [Cond.before, Cond.holds, Cond.value, Term.eval] at h1 h2
  rw [h1, h2]
theorem fm_floorMod_meets (l : Launch) (a b : Int32) (hb0 : ¬ b = 0) : MeetsLoose l yJ9_floorMod_7cf53 (fm_floorMod_spec a b (fm_floorMod_val a b)) := by
  refine MeetsLoose.of_body_ov (code := cJ9_floorMod_7cf53) (maxLocals := 3) (ret := some .int) fm_floorMod_no ?_ ?_
  · intro args s h
    simp only [fm_floorMod_spec, Cond.before_and, Bool.and_eq_true] at h
    exact h.1
  · intro p e s m args below meth c s₁ B
    have hargs := fm_floorMod_two B.pre
    subst hargs
    have hloc : argsToLocals #[.int a, .int b] 3 = #[.val (.int a), .val (.int b), .unset] := rfl
    have fin : ∀ r : Int32, r = fm_floorMod_val a b → (∀ fs, Steps p.tables e below (s₁.setTop (entryFrame m #[.int a, .int b] 3)) (s₁.setFrames fs) ∨ handOver s₁ (some (.int r)) below ≠ some fs) →
        ∃ s₂ o, Steps p.tables e below (s₁.setTop (entryFrame m #[.int a, .int b] 3)) s₂ ∧ s₂.status = .running ∧ Ended s₂ below o ∧
          (fm_floorMod_spec a b (fm_floorMod_val a b)).ensures #[.int a, .int b] s o s₂ := by
      intro r hr hwalk
      obtain ⟨fs, hfs⟩ := handOver_isSome (s := s₁) (some (.int r)) B.hears₁
      refine ⟨s₁.setFrames fs, .returned (some (.int r)), (hwalk fs).resolve_right (fun h => h hfs), B.here.running, B.ended hfs (by intro h; cases h), ?_, State.sameBut_nil.mpr ?_⟩
      · simp [fm_floorMod_spec, Cond.after, Cond.holds, Cond.value, Term.eval, hr]
      · rw [State.frames_setFrames _ B.cur₁, B.back]
    by_cases h7 : 0 ≤ a ^^^ b
    ·
      refine fin (a - a / b * b) (by unfold fm_floorMod_val; simp [h7]) (fun fs => ?_)
      by_cases hfs : handOver s₁ (some (.int (a - a / b * b))) below = some fs
      · left
        unfold entryFrame; rw [hloc]
        refine Steps.instrAtOv (c := _) (by simpa using B.here) ?_
        simp [jvm, wpRun, exec, B.here.top, B.exec, B.bytes, fm_floorMod_at0]
        refine Steps.instrAtOv (c := _) (by simpa using B.here) ?_
        simp [jvm, wpRun, exec, B.here.top, B.exec, B.bytes, fm_floorMod_at1]
        refine Steps.instrAtOv (c := _) (by simpa using B.here) ?_
        simp [jvm, wpRun, exec, B.here.top, B.exec, B.bytes, fm_floorMod_at2, hb0]
        refine Steps.instrAtOv (c := _) (by simpa using B.here) ?_
        simp [jvm, wpRun, exec, B.here.top, B.exec, B.bytes, fm_floorMod_at3, storeLocals, storeSelf, setAt, Value.category]
        refine Steps.instrAtOv (c := _) (by simpa using B.here) ?_
        simp [jvm, wpRun, exec, B.here.top, B.exec, B.bytes, fm_floorMod_at4]
        refine Steps.instrAtOv (c := _) (by simpa using B.here) ?_
        simp [jvm, wpRun, exec, B.here.top, B.exec, B.bytes, fm_floorMod_at5]
        refine Steps.instrAtOv (c := _) (by simpa using B.here) ?_
        simp [jvm, wpRun, exec, B.here.top, B.exec, B.bytes, fm_floorMod_at6]
        refine Steps.instrAtOv (c := _) (by simpa using B.here) ?_
        simp [jvm, wpRun, exec, B.here.top, B.exec, B.bytes, fm_floorMod_at7, ifCond.holds, h7]
        refine Steps.instrAtOv (c := _) (by simpa using B.here) ?_
        simp [jvm, wpRun, exec, B.here.top, B.exec, B.bytes, fm_floorMod_at18]
        refine Steps.instrAtOv (c := _) (by simpa using B.here) ?_
        simp [jvm, wpRun, exec, B.here.top, B.exec, B.bytes, fm_floorMod_at19, B.method₁, B.returns, narrow]
        intro acts
        rw [ret_to B.frames₁ B.method₁ B.notSynchronized rfl rfl hfs]
        exact Steps.refl _
      · exact Or.inr hfs
    · by_cases h11 : a - a / b * b = 0
      ·
        refine fin (0) (by unfold fm_floorMod_val; simp [h7, h11]) (fun fs => ?_)
        by_cases hfs : handOver s₁ (some (.int (0))) below = some fs
        · left
          unfold entryFrame; rw [hloc]
          refine Steps.instrAtOv (c := _) (by simpa using B.here) ?_
          simp [jvm, wpRun, exec, B.here.top, B.exec, B.bytes, fm_floorMod_at0]
          refine Steps.instrAtOv (c := _) (by simpa using B.here) ?_
          simp [jvm, wpRun, exec, B.here.top, B.exec, B.bytes, fm_floorMod_at1]
          refine Steps.instrAtOv (c := _) (by simpa using B.here) ?_
          simp [jvm, wpRun, exec, B.here.top, B.exec, B.bytes, fm_floorMod_at2, hb0]
          refine Steps.instrAtOv (c := _) (by simpa using B.here) ?_
          simp [jvm, wpRun, exec, B.here.top, B.exec, B.bytes, fm_floorMod_at3, storeLocals, storeSelf, setAt, Value.category]
          refine Steps.instrAtOv (c := _) (by simpa using B.here) ?_
          simp [jvm, wpRun, exec, B.here.top, B.exec, B.bytes, fm_floorMod_at4]
          refine Steps.instrAtOv (c := _) (by simpa using B.here) ?_
          simp [jvm, wpRun, exec, B.here.top, B.exec, B.bytes, fm_floorMod_at5]
          refine Steps.instrAtOv (c := _) (by simpa using B.here) ?_
          simp [jvm, wpRun, exec, B.here.top, B.exec, B.bytes, fm_floorMod_at6]
          refine Steps.instrAtOv (c := _) (by simpa using B.here) ?_
          simp [jvm, wpRun, exec, B.here.top, B.exec, B.bytes, fm_floorMod_at7, ifCond.holds, h7]
          refine Steps.instrAtOv (c := _) (by simpa using B.here) ?_
          simp [jvm, wpRun, exec, B.here.top, B.exec, B.bytes, fm_floorMod_at10]
          refine Steps.instrAtOv (c := _) (by simpa using B.here) ?_
          simp [jvm, wpRun, exec, B.here.top, B.exec, B.bytes, fm_floorMod_at11, ifCond.holds, h11]
          refine Steps.instrAtOv (c := _) (by simpa using B.here) ?_
          simp [jvm, wpRun, exec, B.here.top, B.exec, B.bytes, fm_floorMod_at18]
          refine Steps.instrAtOv (c := _) (by simpa using B.here) ?_
          simp [jvm, wpRun, exec, B.here.top, B.exec, B.bytes, fm_floorMod_at19, B.method₁, B.returns, narrow]
          intro acts
          rw [ret_to B.frames₁ B.method₁ B.notSynchronized rfl rfl hfs]
          exact Steps.refl _
        · exact Or.inr hfs
      ·
        refine fin (a - a / b * b + b) (by unfold fm_floorMod_val; simp [h7, h11]) (fun fs => ?_)
        by_cases hfs : handOver s₁ (some (.int (a - a / b * b + b))) below = some fs
        · left
          unfold entryFrame; rw [hloc]
          refine Steps.instrAtOv (c := _) (by simpa using B.here) ?_
          simp [jvm, wpRun, exec, B.here.top, B.exec, B.bytes, fm_floorMod_at0]
          refine Steps.instrAtOv (c := _) (by simpa using B.here) ?_
          simp [jvm, wpRun, exec, B.here.top, B.exec, B.bytes, fm_floorMod_at1]
          refine Steps.instrAtOv (c := _) (by simpa using B.here) ?_
          simp [jvm, wpRun, exec, B.here.top, B.exec, B.bytes, fm_floorMod_at2, hb0]
          refine Steps.instrAtOv (c := _) (by simpa using B.here) ?_
          simp [jvm, wpRun, exec, B.here.top, B.exec, B.bytes, fm_floorMod_at3, storeLocals, storeSelf, setAt, Value.category]
          refine Steps.instrAtOv (c := _) (by simpa using B.here) ?_
          simp [jvm, wpRun, exec, B.here.top, B.exec, B.bytes, fm_floorMod_at4]
          refine Steps.instrAtOv (c := _) (by simpa using B.here) ?_
          simp [jvm, wpRun, exec, B.here.top, B.exec, B.bytes, fm_floorMod_at5]
          refine Steps.instrAtOv (c := _) (by simpa using B.here) ?_
          simp [jvm, wpRun, exec, B.here.top, B.exec, B.bytes, fm_floorMod_at6]
          refine Steps.instrAtOv (c := _) (by simpa using B.here) ?_
          simp [jvm, wpRun, exec, B.here.top, B.exec, B.bytes, fm_floorMod_at7, ifCond.holds, h7]
          refine Steps.instrAtOv (c := _) (by simpa using B.here) ?_
          simp [jvm, wpRun, exec, B.here.top, B.exec, B.bytes, fm_floorMod_at10]
          refine Steps.instrAtOv (c := _) (by simpa using B.here) ?_
          simp [jvm, wpRun, exec, B.here.top, B.exec, B.bytes, fm_floorMod_at11, ifCond.holds, h11]
          refine Steps.instrAtOv (c := _) (by simpa using B.here) ?_
          simp [jvm, wpRun, exec, B.here.top, B.exec, B.bytes, fm_floorMod_at14]
          refine Steps.instrAtOv (c := _) (by simpa using B.here) ?_
          simp [jvm, wpRun, exec, B.here.top, B.exec, B.bytes, fm_floorMod_at15]
          refine Steps.instrAtOv (c := _) (by simpa using B.here) ?_
          simp [jvm, wpRun, exec, B.here.top, B.exec, B.bytes, fm_floorMod_at16]
          refine Steps.instrAtOv (c := _) (by simpa using B.here) ?_
          simp [jvm, wpRun, exec, B.here.top, B.exec, B.bytes, fm_floorMod_at17, B.method₁, B.returns, narrow]
          intro acts
          rw [ret_to B.frames₁ B.method₁ B.notSynchronized rfl rfl hfs]
          exact Steps.refl _
        · exact Or.inr hfs
theorem wg_floorModS : Cond.static yJ9_floorMod_7cf53 ∈ Wg := in_W4 30 (by decide +kernel) rfl
theorem wg_floorModC : Cond.code yJ9_floorMod_7cf53 cJ9_floorMod_7cf53 3 (some .int) ∈ Wg := in_W4 31 (by decide +kernel) rfl
theorem fm_floorMod_run {p : Program} {l : Launch} {e : Env} {R : Room} {s : State} {m : MethodId} {args : Array Value} {below : List Frame} {meth : Method} {c : Code} {cells slots : Nat} {T : State} {locs : List Loc} (X : Stand p l e R s m args below meth c T locs cells slots) (hexec : p.tables.exec = Jvm.exec) {own : String} {index : Nat} (hown : s.vm.findClass own = some m.cls)
    (hlink : (Cond.methodLink own index yJ9_floorMod_7cf53).before args s = true) (hstat : (Cond.static yJ9_floorMod_7cf53).before args s = true) (hinit : (Cond.initialized "java/lang/Math").before args s = true)
    (hcode : (Cond.code yJ9_floorMod_7cf53 cJ9_floorMod_7cf53 3 (some .int)).before args s = true)
    {g : JFrame} (hg : g.method = m) (hsize : g.locals.size = c.maxLocals) {a b : Int32} (hb0 : ¬ b = 0) {rest : List Value} (hstack : g.stack = .int b :: .int a :: rest) (hdg : decode c.code g.pc = .ok (.invokestatic index, 3))
    (hframes : 1 ≤ R.frames) (hlocals : 2 * g.monitorRoom + (rest.map fun v => v.category).sum + 14 ≤ R.locals) (hcells : cells ≤ R.cells) (hslots : slots ≤ R.slots) :
    ∃ vm', Stand p l e R s m args below meth c (T.setVm vm') locs cells slots ∧
      ∀ target, Steps p.tables e below ((T.setVm vm').setTop { g with pc := g.pc + 3, stack := .int (fm_floorMod_val a b) :: rest }) target → Steps p.tables e below (T.setTop g) target := by
  obtain ⟨v, T', X', ⟨first, t, hpost⟩, hstep⟩ := X.staticByContractV hexec hown hlink hstat hinit hcode (by decide)
    (fm_floorMod_meets l a b hb0)
    rfl rfl rfl rfl
    (fun args' first o s₂ h => by
      simp only [fm_floorMod_spec, Cond.after_and, Bool.and_eq_true] at h
      cases o with
      | returned r => exact ⟨r, rfl⟩
      | threw y => simp [Cond.after, Cond.holds, Cond.value] at h)
    hg hsize (argsL := [.int a, .int b]) (rest := rest)
    (fun sig hs => by
      have h : parseMethodDescriptor "(II)I" = some { parameters := [.int, .int], returnType := some .int } := by decide +kernel
      rw [show yJ9_floorMod_7cf53.desc = "(II)I" from rfl, h] at hs
      rw [← Option.some.inj hs]; rfl)
    hstack hdg
    (fun vm' hW => by
      simp only [fm_floorMod_spec, Cond.before_and, Bool.and_eq_true]
      refine ⟨?_, rfl, rfl, rfl, by simp [Cond.before, Cond.holds, Cond.value, Term.eval], by simp [Cond.before, Cond.holds, Cond.value, Term.eval]⟩
      have q := hcode
      rw [← Cond.code_setVm hW.alike] at q
      simp only [Cond.before, Cond.holds, Cond.value, State.methodNamed?, State.vm_setVm] at q ⊢
      exact q)
    (by show 0 + 1 ≤ R.frames; omega) (by show 2 * g.monitorRoom + (rest.map fun v => v.category).sum + (3 + 11) + 0 ≤ R.locals; omega) (by show cells + 0 ≤ R.cells; omega) (by show slots + 0 ≤ R.slots; omega)
  refine ⟨T', X', fun target h => hstep target ?_⟩
  obtain rfl : v = some (.int (fm_floorMod_val a b)) := by
    rcases v with _ | w
    · simp [fm_floorMod_spec, Cond.after, Cond.holds, Cond.value, Term.eval] at hpost
    · cases w <;> simp [fm_floorMod_spec, Cond.after, Cond.holds, Cond.value, Term.eval] at hpost
      rw [hpost]
  exact h
