/-! ===== Rows: ordering ===== -/
theorem bit_1 {t b : Nat} (ht : t < 64) (hb : b < 6) : (iAnd (iShr (t : Int) (b : Int)) 1 = 1 ↔ t.testBit b = true) ∧ (iAnd (iShr (t : Int) (b : Int)) 1 = 0 ↔ t.testBit b = false) := by
  rw [iShr_p _ (by unfold in32; omega) (by omega), iAnd_1]
  have e : (t : Int) / 2 ^ b % 2 = ((t / 2 ^ b % 2 : Nat) : Int) := by push_cast; rfl
  rw [e]
  have h1 : t.testBit b = decide (t / 2 ^ b % 2 = 1) := Nat.testBit_eq_decide_div_mod_eq
  rw [h1]
  have h2 : t / 2 ^ b % 2 = 0 ∨ t / 2 ^ b % 2 = 1 := by omega
  rcases h2 with h | h
  · rw [h]; decide
  · rw [h]; decide
def flP (I : HI) (t : Nat) : Nat → Prop := fun k => t.testBit k = false ∧ I 49 (t ||| 2 ^ k) ≠ 0
theorem sp_X6_firstLeading {I : HI} {Q : Option AV → HI → Prop} {t m : Nat} (ht : t < 64) (hm : m ≤ 6) (kq : Q (some (aI (fP (flP I t) m 0))) I) : Rj MX6_firstLeading 0 [aR 44, aI (t : Int), aI (m : Int)] I Q := by
  refine rj_of okX6_firstLeading (Nat.le_of_ble_eq_true rfl) rfl ?_
  have lp : ∀ (n b : Nat) (z : Int), Q (some (aI (fP (flP I t) n b))) I → z = (b : Int) → b + n = m → Bj MX6_firstLeading 0 2 [some (aR 44), some (aI (t : Int)), some (aI (m : Int)), some (aI z)] [] I Q := by
    intro n
    induction n with
    | zero =>
      intro b z hk hz hi
      refine b_iload_n rfl rfl ?_
      refine b_iload_n rfl rfl ?_
      refine b_icmp_ge (tgt := 36) rfl rfl (fun c4 => ?_) (fun c4 => ?_)
      · refine b_iconst rfl (by decide) ?_
        refine b_iret rfl rfl ?_
        exact hk
      · omega
    | succ n ih =>
      intro b z hk hz hi
      subst hz
      have hk' : Q (some (aI (pI (flP I t b) (b : Int) (fP (flP I t) n (b + 1))))) I := hk
      have hb1 := (bit_1 ht (show b < 6 by omega)).2
      have hol := or_lt ht (show b < 6 by omega)
      refine b_iload_n rfl rfl ?_
      refine b_iload_n rfl rfl ?_
      refine b_icmp_ge (tgt := 36) rfl rfl (fun c4 => ?_) (fun c4 => ?_)
      · omega
      · refine b_iload_n rfl rfl ?_
        refine b_iload_n rfl rfl ?_
        refine b_ishr rfl ?_
        refine b_iconst rfl (by decide) ?_
        refine b_iand rfl ?_
        refine b_if_ne (tgt := 30) rfl rfl (fun c12 => ?_) (fun c12 => ?_)
        · refine b_iincX (F := fun z30 => [some (aR 44), some (aI (t : Int)), some (aI (m : Int)), some (aI z30)]) rfl rfl (by omega) (by omega) (fun _ => rfl) (fun z30 ez30 => ?_)
          refine b_goto (tgt := 2) rfl rfl ?_
          first
          | exact ih (b + 1) _ (qI hk' (pI_0 (fun e => by have := hb1.2 e.1; omega)) rfl) (by omega) (by omega)
          | exact ih (b + 1) _ (qI hk' (pI_0 (fun e => by have := e.2; omega)) rfl) (by omega) (by omega)
        · refine b_aload_n rfl rfl ?_
          refine b_getR (r := 49) rfl fl6_24 rfl (by decide) rfl rfl ?_
          refine b_iload_n rfl rfl ?_
          refine b_iconst rfl (by decide) ?_
          refine b_iload_n rfl rfl ?_
          refine b_ishl rfl ?_
          refine b_ior rfl ?_
          rw [or_bit (by omega) ht]
          refine b_zald rfl rfl (by omega) (by omega) ?_
          rw [Int.toNat_natCast]
          refine b_if_eq (tgt := 30) rfl rfl (fun c25 => ?_) (fun c25 => ?_)
          · refine b_iincX (F := fun z30 => [some (aR 44), some (aI (t : Int)), some (aI (m : Int)), some (aI z30)]) rfl rfl (by omega) (by omega) (fun _ => rfl) (fun z30 ez30 => ?_)
            refine b_goto (tgt := 2) rfl rfl ?_
            first
            | exact ih (b + 1) _ (qI hk' (pI_0 (fun e => by have := hb1.2 e.1; omega)) rfl) (by omega) (by omega)
            | exact ih (b + 1) _ (qI hk' (pI_0 (fun e => by have := e.2; omega)) rfl) (by omega) (by omega)
          · refine b_iload_n rfl rfl ?_
            refine b_iret rfl rfl ?_
            exact qI hk' (pI_1 ⟨hb1.1 (by omega), by omega⟩) rfl
  refine b_iconst rfl (by decide) ?_
  refine b_istoreX_n (F := fun z1 => [some (aR 44), some (aI (t : Int)), some (aI (m : Int)), some (aI z1)]) rfl (by decide) (fun _ => rfl) (fun z1 ez1 => ?_)
  exact lp m 0 _ kq (by omega) (by omega)
