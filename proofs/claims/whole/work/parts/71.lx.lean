/-! ===== the lexer's fields; the class: Lexer ===== -/
def LX (I : HI) (po ki st sp va wo ts tu fa pl : Int) : HI := row I 24 (fun j => if j = 2 then po else if j = 3 then ki else if j = 4 then st else if j = 5 then sp else if j = 6 then va else if j = 7 then wo else if j = 8 then ts else if j = 9 then tu else if j = 10 then fa else if j = 11 then pl else I 24 j)
section LXS
variable {I : HI} {po ki st sp va wo ts tu fa pl x : Int}
theorem LX_2 : LX I po ki st sp va wo ts tu fa pl 24 2 = po := rfl
theorem LX_3 : LX I po ki st sp va wo ts tu fa pl 24 3 = ki := rfl
theorem LX_4 : LX I po ki st sp va wo ts tu fa pl 24 4 = st := rfl
theorem LX_5 : LX I po ki st sp va wo ts tu fa pl 24 5 = sp := rfl
theorem LX_6 : LX I po ki st sp va wo ts tu fa pl 24 6 = va := rfl
theorem LX_7 : LX I po ki st sp va wo ts tu fa pl 24 7 = wo := rfl
theorem LX_8 : LX I po ki st sp va wo ts tu fa pl 24 8 = ts := rfl
theorem LX_9 : LX I po ki st sp va wo ts tu fa pl 24 9 = tu := rfl
theorem LX_10 : LX I po ki st sp va wo ts tu fa pl 24 10 = fa := rfl
theorem LX_11 : LX I po ki st sp va wo ts tu fa pl 24 11 = pl := rfl
theorem LX_u2 : up (LX I po ki st sp va wo ts tu fa pl) 24 2 x = LX I x ki st sp va wo ts tu fa pl := by
  unfold LX
  rw [row_ud]
  congr 1
  funext j
  unfold ud
  by_cases e : j = 2
  · subst e; rfl
  · rw [if_neg e]
    simp only [e, if_false]
theorem LX_u3 : up (LX I po ki st sp va wo ts tu fa pl) 24 3 x = LX I po x st sp va wo ts tu fa pl := by
  unfold LX
  rw [row_ud]
  congr 1
  funext j
  unfold ud
  by_cases e : j = 3
  · subst e; rfl
  · rw [if_neg e]
    simp only [e, if_false]
theorem LX_u4 : up (LX I po ki st sp va wo ts tu fa pl) 24 4 x = LX I po ki x sp va wo ts tu fa pl := by
  unfold LX
  rw [row_ud]
  congr 1
  funext j
  unfold ud
  by_cases e : j = 4
  · subst e; rfl
  · rw [if_neg e]
    simp only [e, if_false]
theorem LX_u5 : up (LX I po ki st sp va wo ts tu fa pl) 24 5 x = LX I po ki st x va wo ts tu fa pl := by
  unfold LX
  rw [row_ud]
  congr 1
  funext j
  unfold ud
  by_cases e : j = 5
  · subst e; rfl
  · rw [if_neg e]
    simp only [e, if_false]
theorem LX_u6 : up (LX I po ki st sp va wo ts tu fa pl) 24 6 x = LX I po ki st sp x wo ts tu fa pl := by
  unfold LX
  rw [row_ud]
  congr 1
  funext j
  unfold ud
  by_cases e : j = 6
  · subst e; rfl
  · rw [if_neg e]
    simp only [e, if_false]
theorem LX_u7 : up (LX I po ki st sp va wo ts tu fa pl) 24 7 x = LX I po ki st sp va x ts tu fa pl := by
  unfold LX
  rw [row_ud]
  congr 1
  funext j
  unfold ud
  by_cases e : j = 7
  · subst e; rfl
  · rw [if_neg e]
    simp only [e, if_false]
theorem LX_u8 : up (LX I po ki st sp va wo ts tu fa pl) 24 8 x = LX I po ki st sp va wo x tu fa pl := by
  unfold LX
  rw [row_ud]
  congr 1
  funext j
  unfold ud
  by_cases e : j = 8
  · subst e; rfl
  · rw [if_neg e]
    simp only [e, if_false]
theorem LX_u9 : up (LX I po ki st sp va wo ts tu fa pl) 24 9 x = LX I po ki st sp va wo ts x fa pl := by
  unfold LX
  rw [row_ud]
  congr 1
  funext j
  unfold ud
  by_cases e : j = 9
  · subst e; rfl
  · rw [if_neg e]
    simp only [e, if_false]
theorem LX_u10 : up (LX I po ki st sp va wo ts tu fa pl) 24 10 x = LX I po ki st sp va wo ts tu x pl := by
  unfold LX
  rw [row_ud]
  congr 1
  funext j
  unfold ud
  by_cases e : j = 10
  · subst e; rfl
  · rw [if_neg e]
    simp only [e, if_false]
theorem LX_u11 : up (LX I po ki st sp va wo ts tu fa pl) 24 11 x = LX I po ki st sp va wo ts tu fa x := by
  unfold LX
  rw [row_ud]
  congr 1
  funext j
  unfold ud
  by_cases e : j = 11
  · subst e; rfl
  · rw [if_neg e]
    simp only [e, if_false]
theorem LXc {q : Nat} (h : q ≠ 24) : LX I po ki st sp va wo ts tu fa pl q = I q := row_cell h
theorem LX_ux {q k : Nat} (h : q ≠ 24) : up (LX I po ki st sp va wo ts tu fa pl) q k x = LX (up I q k x) po ki st sp va wo ts tu fa pl := by
  unfold LX
  rw [up_row' h]
  congr 1
  funext j
  have e : up I q k x 24 j = I 24 j := up_row (fun z => h z.symm) j
  rw [e]
theorem LX_self : LX I (I 24 2) (I 24 3) (I 24 4) (I 24 5) (I 24 6) (I 24 7) (I 24 8) (I 24 9) (I 24 10) (I 24 11) = I := by
  unfold LX
  have e : (fun j => if j = 2 then I 24 2 else if j = 3 then I 24 3 else if j = 4 then I 24 4 else if j = 5 then I 24 5 else if j = 6 then I 24 6 else if j = 7 then I 24 7 else if j = 8 then I 24 8 else if j = 9 then I 24 9 else if j = 10 then I 24 10 else if j = 11 then I 24 11 else I 24 j) = I 24 := by
    funext j
    repeat' split
    all_goals first | rfl | (subst_vars; rfl)
  rw [e, row_self]
end LXS
