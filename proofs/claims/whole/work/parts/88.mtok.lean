/-! ===== the reference: its token and its fault ===== -/
def MX (K : HI) (si sa en va wo fk fp lx : Int) : HI := row K 57 (fun j => if j = 3 then si else if j = 4 then sa else if j = 5 then en else if j = 6 then va else if j = 7 then wo else if j = 8 then fk else if j = 9 then fp else if j = 12 then lx else K 57 j)
section MXS
variable {K : HI} {si sa en va wo fk fp lx x : Int}
theorem MX_3 : MX K si sa en va wo fk fp lx 57 3 = si := rfl
theorem MX_4 : MX K si sa en va wo fk fp lx 57 4 = sa := rfl
theorem MX_5 : MX K si sa en va wo fk fp lx 57 5 = en := rfl
theorem MX_6 : MX K si sa en va wo fk fp lx 57 6 = va := rfl
theorem MX_7 : MX K si sa en va wo fk fp lx 57 7 = wo := rfl
theorem MX_8 : MX K si sa en va wo fk fp lx 57 8 = fk := rfl
theorem MX_9 : MX K si sa en va wo fk fp lx 57 9 = fp := rfl
theorem MX_12 : MX K si sa en va wo fk fp lx 57 12 = lx := rfl
theorem MX_u3 : up (MX K si sa en va wo fk fp lx) 57 3 x = MX K x sa en va wo fk fp lx := by
  unfold MX
  rw [row_ud]
  congr 1
  funext j
  unfold ud
  by_cases e : j = 3
  · subst e; rfl
  · rw [if_neg e]
    simp only [e, if_false]
theorem MX_u4 : up (MX K si sa en va wo fk fp lx) 57 4 x = MX K si x en va wo fk fp lx := by
  unfold MX
  rw [row_ud]
  congr 1
  funext j
  unfold ud
  by_cases e : j = 4
  · subst e; rfl
  · rw [if_neg e]
    simp only [e, if_false]
theorem MX_u5 : up (MX K si sa en va wo fk fp lx) 57 5 x = MX K si sa x va wo fk fp lx := by
  unfold MX
  rw [row_ud]
  congr 1
  funext j
  unfold ud
  by_cases e : j = 5
  · subst e; rfl
  · rw [if_neg e]
    simp only [e, if_false]
theorem MX_u6 : up (MX K si sa en va wo fk fp lx) 57 6 x = MX K si sa en x wo fk fp lx := by
  unfold MX
  rw [row_ud]
  congr 1
  funext j
  unfold ud
  by_cases e : j = 6
  · subst e; rfl
  · rw [if_neg e]
    simp only [e, if_false]
theorem MX_u7 : up (MX K si sa en va wo fk fp lx) 57 7 x = MX K si sa en va x fk fp lx := by
  unfold MX
  rw [row_ud]
  congr 1
  funext j
  unfold ud
  by_cases e : j = 7
  · subst e; rfl
  · rw [if_neg e]
    simp only [e, if_false]
theorem MX_u8 : up (MX K si sa en va wo fk fp lx) 57 8 x = MX K si sa en va wo x fp lx := by
  unfold MX
  rw [row_ud]
  congr 1
  funext j
  unfold ud
  by_cases e : j = 8
  · subst e; rfl
  · rw [if_neg e]
    simp only [e, if_false]
theorem MX_u9 : up (MX K si sa en va wo fk fp lx) 57 9 x = MX K si sa en va wo fk x lx := by
  unfold MX
  rw [row_ud]
  congr 1
  funext j
  unfold ud
  by_cases e : j = 9
  · subst e; rfl
  · rw [if_neg e]
    simp only [e, if_false]
theorem MX_u12 : up (MX K si sa en va wo fk fp lx) 57 12 x = MX K si sa en va wo fk fp x := by
  unfold MX
  rw [row_ud]
  congr 1
  funext j
  unfold ud
  by_cases e : j = 12
  · subst e; rfl
  · rw [if_neg e]
    simp only [e, if_false]
theorem MXc {q : Nat} (h : q ≠ 57) : MX K si sa en va wo fk fp lx q = K q := row_cell h
theorem MXo {j : Nat} (h : j ≠ 3 ∧ j ≠ 4 ∧ j ≠ 5 ∧ j ≠ 6 ∧ j ≠ 7 ∧ j ≠ 8 ∧ j ≠ 9 ∧ j ≠ 12) : MX K si sa en va wo fk fp lx 57 j = K 57 j := by
  unfold MX
  rw [row_ap, if_pos rfl, if_neg (by omega), if_neg (by omega), if_neg (by omega), if_neg (by omega), if_neg (by omega), if_neg (by omega), if_neg (by omega), if_neg (by omega)]
theorem MX_ux {q k : Nat} (h : q ≠ 57) : up (MX K si sa en va wo fk fp lx) q k x = MX (up K q k x) si sa en va wo fk fp lx := by
  unfold MX
  rw [up_row' h]
  congr 1
  funext j
  have e : up K q k x 57 j = K 57 j := up_row (fun z => h z.symm) j
  rw [e]
theorem MX_uo {j : Nat} (h : j ≠ 3 ∧ j ≠ 4 ∧ j ≠ 5 ∧ j ≠ 6 ∧ j ≠ 7 ∧ j ≠ 8 ∧ j ≠ 9 ∧ j ≠ 12) : up (MX K si sa en va wo fk fp lx) 57 j x = MX (up K 57 j x) si sa en va wo fk fp lx := by
  funext q i
  unfold MX
  by_cases e : q = 57
  · subst e
    rw [up_ap, row_ap, row_ap, if_pos rfl, if_pos rfl]
    by_cases e2 : i = j
    · subst e2
      rw [if_pos ⟨rfl, rfl⟩, if_neg (by omega), if_neg (by omega), if_neg (by omega), if_neg (by omega), if_neg (by omega), if_neg (by omega), if_neg (by omega), if_neg (by omega), up_ap, if_pos ⟨rfl, rfl⟩]
    · have e3 : up K 57 j x 57 i = K 57 i := by rw [up_ap, if_neg (by omega)]
      rw [if_neg (show ¬ ((57 : Nat) = 57 ∧ i = j) by omega), e3]
  · rw [up_ap, if_neg (by omega), row_ap, if_neg e, row_ap, if_neg e, up_ap, if_neg (by omega)]
theorem MX_self : MX K (K 57 3) (K 57 4) (K 57 5) (K 57 6) (K 57 7) (K 57 8) (K 57 9) (K 57 12) = K := by
  unfold MX
  have e : (fun j => if j = 3 then K 57 3 else if j = 4 then K 57 4 else if j = 5 then K 57 5 else if j = 6 then K 57 6 else if j = 7 then K 57 7 else if j = 8 then K 57 8 else if j = 9 then K 57 9 else if j = 12 then K 57 12 else K 57 j) = K 57 := by
    funext j
    repeat' split
    all_goals first | rfl | (subst_vars; rfl)
  rw [e, row_self]
end MXS
theorem spr_isLetter {K : HI} {Q : Option AV → HI → Prop} {c : Int} (k1 : isLet c → Q (some (aI 1)) K) (k0 : ¬ isLet c → Q (some (aI 0)) K) : Rj MX12_isLetter 0 [aI c] K Q := by
  refine rj_of okX12_isLetter (Nat.le_of_ble_eq_true rfl) rfl ?_
  refine b_iload_n rfl rfl ?_
  refine b_bipush rfl (by decide) ?_
  refine b_icmp_lt (tgt := 16) rfl rfl (fun c3 => ?_) (fun c3 => ?_)
  · refine b_iconst rfl (by decide) ?_
    refine b_zret rfl rfl (by first | decide | omega) ?_
    first
    | (have h : isLet c := by unfold isLet; omega
       exact k1 h)
    | (have h : ¬ isLet c := by unfold isLet; omega
       exact k0 h)
  · refine b_iload_n rfl rfl ?_
    refine b_bipush rfl (by decide) ?_
    refine b_icmp_gt (tgt := 16) rfl rfl (fun c9 => ?_) (fun c9 => ?_)
    · refine b_iconst rfl (by decide) ?_
      refine b_zret rfl rfl (by first | decide | omega) ?_
      first
      | (have h : isLet c := by unfold isLet; omega
         exact k1 h)
      | (have h : ¬ isLet c := by unfold isLet; omega
         exact k0 h)
    · refine b_iconst rfl (by decide) ?_
      refine b_goto (tgt := 17) rfl rfl ?_
      refine b_zret rfl rfl (by first | decide | omega) ?_
      first
      | (have h : isLet c := by unfold isLet; omega
         exact k1 h)
      | (have h : ¬ isLet c := by unfold isLet; omega
         exact k0 h)
theorem spr_isDigit {K : HI} {Q : Option AV → HI → Prop} {c : Int} (k1 : isDig c → Q (some (aI 1)) K) (k0 : ¬ isDig c → Q (some (aI 0)) K) : Rj MX12_isDigit 0 [aI c] K Q := by
  refine rj_of okX12_isDigit (Nat.le_of_ble_eq_true rfl) rfl ?_
  refine b_iload_n rfl rfl ?_
  refine b_bipush rfl (by decide) ?_
  refine b_icmp_lt (tgt := 16) rfl rfl (fun c3 => ?_) (fun c3 => ?_)
  · refine b_iconst rfl (by decide) ?_
    refine b_zret rfl rfl (by first | decide | omega) ?_
    first
    | (have h : isDig c := by unfold isDig; omega
       exact k1 h)
    | (have h : ¬ isDig c := by unfold isDig; omega
       exact k0 h)
  · refine b_iload_n rfl rfl ?_
    refine b_bipush rfl (by decide) ?_
    refine b_icmp_gt (tgt := 16) rfl rfl (fun c9 => ?_) (fun c9 => ?_)
    · refine b_iconst rfl (by decide) ?_
      refine b_zret rfl rfl (by first | decide | omega) ?_
      first
      | (have h : isDig c := by unfold isDig; omega
         exact k1 h)
      | (have h : ¬ isDig c := by unfold isDig; omega
         exact k0 h)
    · refine b_iconst rfl (by decide) ?_
      refine b_goto (tgt := 17) rfl rfl ?_
      refine b_zret rfl rfl (by first | decide | omega) ?_
      first
      | (have h : isDig c := by unfold isDig; omega
         exact k1 h)
      | (have h : ¬ isDig c := by unfold isDig; omega
         exact k0 h)
