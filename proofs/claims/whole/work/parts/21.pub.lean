/-! ===== WrongTide: what only asks ===== -/
theorem spf_knows {I : HI} {Q : Option AV → HI → Prop} {a b : Int} (k1 : kO I 4 a b → Q (some (aI 1)) I) (k0 : ¬ kO I 4 a b → Q (some (aI 0)) I) : Rj MX3_knows 0 [aR 3, aI a, aI b] I Q := by
  refine sp_X3_knows_3 ?_
  by_cases h : kO I 4 a b
  · rw [kn_1 h]; exact k1 h
  · rw [kn_0 h]; exact k0 h
def rfs (I : HI) (k : Nat) : HI := up I 55 k (w32 (I 55 k + 1))
theorem sp_X11_refuse {I : HI} {Q : Option AV → HI → Prop} {k : Nat} (hk : k < 6) (kq : Q (some (aI (-1))) (rfs I k)) : Rj MX11_refuse 0 [aR 0, aI (k : Int)] I Q := by
  refine rj_of okX11_refuse (Nat.le_of_ble_eq_true rfl) rfl ?_
  refine b_iload_n rfl rfl ?_
  refine b_if_lt (tgt := 20) rfl rfl (fun c1 => ?_) (fun c1 => ?_)
  · omega
  · refine b_iload_n rfl rfl ?_
    refine b_bipush rfl (by decide) ?_
    refine b_icmp_ge (tgt := 20) rfl rfl (fun c7 => ?_) (fun c7 => ?_)
    · omega
    · refine b_aload_n rfl rfl ?_
      refine b_getR (r := 55) rfl fl11_83 rfl (by decide) rfl rfl ?_
      refine b_iload_n rfl rfl ?_
      refine b_dup2 rfl rfl rfl ?_
      refine b_iald rfl rfl (by omega) (by omega) ?_
      refine b_iconst rfl (by decide) ?_
      refine b_iadd rfl ?_
      refine b_iast rfl rfl (by omega) (by omega) ?_
      refine b_iconst rfl (by decide) ?_
      refine b_iret rfl rfl ?_
      exact kq
theorem sp_X11_refuses {I : HI} {Q : Option AV → HI → Prop} {k : Nat} (hk : k < 6) (kq : Q (some (aI 0)) (rfs I k)) : Rj MX11_refuses 1 [aR 0, aI (k : Int)] I Q := by
  refine rj_of okX11_refuses (Nat.le_of_ble_eq_true rfl) rfl ?_
  refine b_aload_n rfl rfl ?_
  refine b_iload_n rfl rfl ?_
  refine b_callV1i (ν := MX11_refuse) rfl ml11_100 cvX11_refuse (d' := 0) (by omega) rfl (by decide) rfl (Nat.le_of_ble_eq_true rfl) ?_
  refine sp_X11_refuse hk ?_
  refine ⟨_, rfl, ?_⟩
  refine b_pop rfl rfl ?_
  refine b_iconst rfl (by decide) ?_
  refine b_zret rfl rfl (by first | decide | omega) ?_
  exact kq
theorem tAdd_1 {I : HI} {a : Int} : tAdd I a 1 1 = I 1 1 + 4 := by
  unfold tAdd
  simp
def fed (I : HI) (a b c d e : Int) : HI := tAdd (tAdd (tAdd (tAdd (tAdd I a) b) c) d) e
theorem sp_X11_feed {I : HI} {Q : Option AV → HI → Prop} {a b c d e : Int} (ha : in32 a ∧ in32 b ∧ in32 c ∧ in32 d ∧ in32 e) (ht : 0 ≤ I 1 1 ∧ I 1 1 ≤ 1600) (k1 : I 1 1 + 20 ≤ 1600 → Q (some (aI (I 1 1 + 20))) (fed I a b c d e)) (k0 : 1600 < I 1 1 + 20 → Q (some (aI (-1))) (rfs I 0)) : Rj MX11_feed 1 [aR 0, aI a, aI b, aI c, aI d, aI e] I Q := by
  refine rj_of okX11_feed (Nat.le_of_ble_eq_true rfl) rfl ?_
  refine b_aload_n rfl rfl ?_
  refine b_getR (r := 1) rfl fl11_10 rfl (by decide) rfl rfl ?_
  refine b_getI rfl fl11_97 rfl (by decide) rfl ?_
  refine b_bipush rfl (by decide) ?_
  refine b_iaddN rfl (by omega) (by omega) ?_
  refine b_sipush rfl (by decide) ?_
  refine b_icmp_le (tgt := 22) rfl rfl (fun c13 => ?_) (fun c13 => ?_)
  · refine b_aload_n rfl rfl ?_
    refine b_getR (r := 1) rfl fl11_10 rfl (by decide) rfl rfl ?_
    refine b_iload_n rfl rfl ?_
    refine b_callV1v (ν := MX9_add) rfl ml11_104 cvX9_add (d' := 0) (by omega) rfl (by decide) rfl (Nat.le_of_ble_eq_true rfl) ?_
    refine sp_X9_add (by omega) (by omega) ha.1 ?_
    refine ⟨rfl, ?_⟩
    refine b_aload_n rfl rfl ?_
    refine b_getR (r := 1) rfl fl11_10 rfl (by decide) rfl rfl ?_
    refine b_iload_n rfl rfl ?_
    refine b_callV1v (ν := MX9_add) rfl ml11_104 cvX9_add (d' := 0) (by omega) rfl (by decide) rfl (Nat.le_of_ble_eq_true rfl) ?_
    refine sp_X9_add (by rw [tAdd_1]; omega) (by rw [tAdd_1]; omega) ha.2.1 ?_
    refine ⟨rfl, ?_⟩
    refine b_aload_n rfl rfl ?_
    refine b_getR (r := 1) rfl fl11_10 rfl (by decide) rfl rfl ?_
    refine b_iload_n rfl rfl ?_
    refine b_callV1v (ν := MX9_add) rfl ml11_104 cvX9_add (d' := 0) (by omega) rfl (by decide) rfl (Nat.le_of_ble_eq_true rfl) ?_
    refine sp_X9_add (by rw [tAdd_1, tAdd_1]; omega) (by rw [tAdd_1, tAdd_1]; omega) ha.2.2.1 ?_
    refine ⟨rfl, ?_⟩
    refine b_aload_n rfl rfl ?_
    refine b_getR (r := 1) rfl fl11_10 rfl (by decide) rfl rfl ?_
    refine b_iload rfl rfl ?_
    refine b_callV1v (ν := MX9_add) rfl ml11_104 cvX9_add (d' := 0) (by omega) rfl (by decide) rfl (Nat.le_of_ble_eq_true rfl) ?_
    refine sp_X9_add (by rw [tAdd_1, tAdd_1, tAdd_1]; omega) (by rw [tAdd_1, tAdd_1, tAdd_1]; omega) ha.2.2.2.1 ?_
    refine ⟨rfl, ?_⟩
    refine b_aload_n rfl rfl ?_
    refine b_getR (r := 1) rfl fl11_10 rfl (by decide) rfl rfl ?_
    refine b_iload rfl rfl ?_
    refine b_callV1v (ν := MX9_add) rfl ml11_104 cvX9_add (d' := 0) (by omega) rfl (by decide) rfl (Nat.le_of_ble_eq_true rfl) ?_
    refine sp_X9_add (by rw [tAdd_1, tAdd_1, tAdd_1, tAdd_1]; omega) (by rw [tAdd_1, tAdd_1, tAdd_1, tAdd_1]; omega) ha.2.2.2.2 ?_
    refine ⟨rfl, ?_⟩
    refine b_aload_n rfl rfl ?_
    refine b_getR (r := 1) rfl fl11_10 rfl (by decide) rfl rfl ?_
    refine b_getI rfl fl11_97 rfl (by decide) rfl ?_
    refine b_iret rfl rfl ?_
    exact qI (k1 c13) (by rw [tAdd_1, tAdd_1, tAdd_1, tAdd_1, tAdd_1]; omega) rfl
  · refine b_aload_n rfl rfl ?_
    refine b_iconst rfl (by decide) ?_
    refine b_callV1i (ν := MX11_refuse) rfl ml11_100 cvX11_refuse (d' := 0) (by omega) rfl (by decide) rfl (Nat.le_of_ble_eq_true rfl) ?_
    refine sp_X11_refuse (k := 0) (by decide) ?_
    refine ⟨_, rfl, ?_⟩
    refine b_iret rfl rfl ?_
    exact k0 (by omega)
theorem sp_X11_end {I : HI} {Q : Option AV → HI → Prop} {n : Int} (k1 : 0 ≤ n ∧ n ≤ I 1 1 → Q (some (aI 1)) (up I 1 1 n)) (k0 : ¬ (0 ≤ n ∧ n ≤ I 1 1) → Q (some (aI 0)) (rfs I 0)) : Rj MX11_end 2 [aR 0, aI n] I Q := by
  refine rj_of okX11_end (Nat.le_of_ble_eq_true rfl) rfl ?_
  refine b_iload_n rfl rfl ?_
  refine b_if_lt (tgt := 15) rfl rfl (fun c1 => ?_) (fun c1 => ?_)
  · refine b_aload_n rfl rfl ?_
    refine b_iconst rfl (by decide) ?_
    refine b_callV1i (ν := MX11_refuses) rfl ml11_108 cvX11_refuses (d' := 1) (by omega) rfl (by decide) rfl (Nat.le_of_ble_eq_true rfl) ?_
    refine sp_X11_refuses (k := 0) (by decide) ?_
    refine ⟨_, rfl, ?_⟩
    refine b_zret rfl rfl (by first | decide | omega) ?_
    exact k0 (by omega)
  · refine b_iload_n rfl rfl ?_
    refine b_aload_n rfl rfl ?_
    refine b_getR (r := 1) rfl fl11_10 rfl (by decide) rfl rfl ?_
    refine b_getI rfl fl11_97 rfl (by decide) rfl ?_
    refine b_icmp_le (tgt := 21) rfl rfl (fun c12 => ?_) (fun c12 => ?_)
    · refine b_aload_n rfl rfl ?_
      refine b_getR (r := 1) rfl fl11_10 rfl (by decide) rfl rfl ?_
      refine b_iload_n rfl rfl ?_
      refine b_putI rfl fl11_97 rfl (by decide) rfl ?_
      refine b_iconst rfl (by decide) ?_
      refine b_zret rfl rfl (by first | decide | omega) ?_
      exact k1 (by omega)
    · refine b_aload_n rfl rfl ?_
      refine b_iconst rfl (by decide) ?_
      refine b_callV1i (ν := MX11_refuses) rfl ml11_108 cvX11_refuses (d' := 1) (by omega) rfl (by decide) rfl (Nat.le_of_ble_eq_true rfl) ?_
      refine sp_X11_refuses (k := 0) (by decide) ?_
      refine ⟨_, rfl, ?_⟩
      refine b_zret rfl rfl (by first | decide | omega) ?_
      exact k0 (by omega)
theorem sp_X11_fault {I : HI} {Q : Option AV → HI → Prop} {n : Int} (kq : Q (some (aI (if n = 0 then I 0 13 else if n = 1 then I 0 14 else -1))) I) : Rj MX11_fault 0 [aR 0, aI n] I Q := by
  refine rj_of okX11_fault (Nat.le_of_ble_eq_true rfl) rfl ?_
  refine b_iload_n rfl rfl ?_
  by_cases s1_0 : n = 0
  · refine b_lsw (off := 27) (tgt := 28) rfl (by decide) (by rw [s1_0]; try rfl) rfl ?_
    refine b_aload_n rfl rfl ?_
    refine b_getI rfl fl11_125 rfl (by decide) rfl ?_
    refine b_iret rfl rfl ?_
    refine qI kq ?_ rfl
    repeat' split
    all_goals omega
  by_cases s1_1 : n = 1
  · refine b_lsw (off := 32) (tgt := 33) rfl (by decide) (by rw [s1_1]; try rfl) rfl ?_
    refine b_aload_n rfl rfl ?_
    refine b_getI rfl fl11_90 rfl (by decide) rfl ?_
    refine b_iret rfl rfl ?_
    refine qI kq ?_ rfl
    repeat' split
    all_goals omega
  refine b_lsw (off := 37) (tgt := 38) rfl (by decide) (by simp only [Op.lookupswitch.offset]; rw [if_neg (by omega), if_neg (by omega)]) rfl ?_
  refine b_iconst rfl (by decide) ?_
  refine b_iret rfl rfl ?_
  refine qI kq ?_ rfl
  repeat' split
  all_goals omega
theorem sp_X11_stowed {I : HI} {Q : Option AV → HI → Prop} {k : Int} (h : I 44 10 ≤ 6) (kq : Q (some (aI (if 0 ≤ k ∧ k < I 44 10 then I 46 k.toNat else -1))) I) : Rj MX11_stowed 0 [aR 0, aI k] I Q := by
  refine rj_of okX11_stowed (Nat.le_of_ble_eq_true rfl) rfl ?_
  refine b_iload_n rfl rfl ?_
  refine b_if_lt (tgt := 27) rfl rfl (fun c1 => ?_) (fun c1 => ?_)
  · refine b_iconst rfl (by decide) ?_
    refine b_iret rfl rfl ?_
    exact qI kq (by split <;> first | rfl | omega) rfl
  · refine b_iload_n rfl rfl ?_
    refine b_aload_n rfl rfl ?_
    refine b_getR (r := 44) rfl fl11_72 rfl (by decide) rfl rfl ?_
    refine b_getI rfl fl11_257 rfl (by decide) rfl ?_
    refine b_icmp_ge (tgt := 27) rfl rfl (fun c12 => ?_) (fun c12 => ?_)
    · refine b_iconst rfl (by decide) ?_
      refine b_iret rfl rfl ?_
      exact qI kq (by split <;> first | rfl | omega) rfl
    · refine b_aload_n rfl rfl ?_
      refine b_getR (r := 44) rfl fl11_72 rfl (by decide) rfl rfl ?_
      refine b_getR (r := 46) rfl fl11_260 rfl (by decide) rfl rfl ?_
      refine b_iload_n rfl rfl ?_
      refine b_iald rfl rfl (by omega) (by omega) ?_
      refine b_goto (tgt := 28) rfl rfl ?_
      refine b_iret rfl rfl ?_
      exact qI kq (by split <;> first | rfl | omega) rfl
theorem sp_X11_ordered {I : HI} {Q : Option AV → HI → Prop} {k : Int} (h : I 44 11 ≤ 6) (kq : Q (some (aI (if 0 ≤ k ∧ k < I 44 11 then I 48 k.toNat else -1))) I) : Rj MX11_ordered 0 [aR 0, aI k] I Q := by
  refine rj_of okX11_ordered (Nat.le_of_ble_eq_true rfl) rfl ?_
  refine b_iload_n rfl rfl ?_
  refine b_if_lt (tgt := 27) rfl rfl (fun c1 => ?_) (fun c1 => ?_)
  · refine b_iconst rfl (by decide) ?_
    refine b_iret rfl rfl ?_
    exact qI kq (by split <;> first | rfl | omega) rfl
  · refine b_iload_n rfl rfl ?_
    refine b_aload_n rfl rfl ?_
    refine b_getR (r := 44) rfl fl11_72 rfl (by decide) rfl rfl ?_
    refine b_getI rfl fl11_270 rfl (by decide) rfl ?_
    refine b_icmp_ge (tgt := 27) rfl rfl (fun c12 => ?_) (fun c12 => ?_)
    · refine b_iconst rfl (by decide) ?_
      refine b_iret rfl rfl ?_
      exact qI kq (by split <;> first | rfl | omega) rfl
    · refine b_aload_n rfl rfl ?_
      refine b_getR (r := 44) rfl fl11_72 rfl (by decide) rfl rfl ?_
      refine b_getR (r := 48) rfl fl11_273 rfl (by decide) rfl rfl ?_
      refine b_iload_n rfl rfl ?_
      refine b_iald rfl rfl (by omega) (by omega) ?_
      refine b_goto (tgt := 28) rfl rfl ?_
      refine b_iret rfl rfl ?_
      exact qI kq (by split <;> first | rfl | omega) rfl
theorem sp_X11_seed {I : HI} {Q : Option AV → HI → Prop} {n : Int} (k1 : 0 ≤ n → Q (some (aI 1)) (up I 0 15 n)) (k0 : n < 0 → Q (some (aI 0)) (rfs I 5)) : Rj MX11_seed 2 [aR 0, aI n] I Q := by
  refine rj_of okX11_seed (Nat.le_of_ble_eq_true rfl) rfl ?_
  refine b_iload_n rfl rfl ?_
  refine b_if_ge (tgt := 10) rfl rfl (fun c1 => ?_) (fun c1 => ?_)
  · refine b_aload_n rfl rfl ?_
    refine b_iload_n rfl rfl ?_
    refine b_putI rfl fl11_94 rfl (by decide) rfl ?_
    refine b_iconst rfl (by decide) ?_
    refine b_zret rfl rfl (by first | decide | omega) ?_
    exact k1 (by omega)
  · refine b_aload_n rfl rfl ?_
    refine b_iconst rfl (by decide) ?_
    refine b_callV1i (ν := MX11_refuses) rfl ml11_108 cvX11_refuses (d' := 1) (by omega) rfl (by decide) rfl (Nat.le_of_ble_eq_true rfl) ?_
    refine sp_X11_refuses (k := 5) (by decide) ?_
    refine ⟨_, rfl, ?_⟩
    refine b_zret rfl rfl (by first | decide | omega) ?_
    exact k0 (by omega)
def kpt (I : HI) (k w : Int) : Int := if w = 0 then I 33 ((I 30 3 + k) % 60).toNat / 3 / 24 / 6 else if w = 1 then I 33 ((I 30 3 + k) % 60).toNat / 3 / 24 % 6 else if w = 2 then I 33 ((I 30 3 + k) % 60).toNat / 3 % 24 / 6 else if w = 3 then I 33 ((I 30 3 + k) % 60).toNat / 3 % 24 % 6 else if w = 4 then I 33 ((I 30 3 + k) % 60).toNat % 3 else -1
theorem sp_X11_kept {I : HI} {Q : Option AV → HI → Prop} {k w : Int} (h1 : 0 ≤ I 30 3 ∧ I 30 3 < 60 ∧ I 30 4 ≤ 60) (hp : ∀ j, 0 ≤ I 33 j ∧ I 33 j < 2000000000) (kq : Q (some (aI (if 0 ≤ k ∧ k < I 30 4 then kpt I k w else -1))) I) : Rj MX11_kept 1 [aR 0, aI k, aI w] I Q := by
  refine rj_of okX11_kept (Nat.le_of_ble_eq_true rfl) rfl ?_
  refine b_iload_n rfl rfl ?_
  refine b_if_lt (tgt := 27) rfl rfl (fun c1 => ?_) (fun c1 => ?_)
  · refine b_iconst rfl (by decide) ?_
    refine b_iret rfl rfl ?_
    first | exact qI kq (if_pos (by omega)) rfl | exact qI kq (if_neg (by omega)) rfl
  · refine b_iload_n rfl rfl ?_
    refine b_aload_n rfl rfl ?_
    refine b_getR (r := 30) rfl fl11_44 rfl (by decide) rfl rfl ?_
    refine b_getI rfl fl11_169 rfl (by decide) rfl ?_
    refine b_icmp_ge (tgt := 27) rfl rfl (fun c12 => ?_) (fun c12 => ?_)
    · refine b_iconst rfl (by decide) ?_
      refine b_iret rfl rfl ?_
      first | exact qI kq (if_pos (by omega)) rfl | exact qI kq (if_neg (by omega)) rfl
    · refine b_aload_n rfl rfl ?_
      refine b_getR (r := 30) rfl fl11_44 rfl (by decide) rfl rfl ?_
      refine b_iload_n rfl rfl ?_
      refine b_iload_n rfl rfl ?_
      refine b_callV2i (ν := MX7_keptAt) rfl ml11_333 cvX7_keptAt (d' := 0) (by omega) rfl (by decide) rfl (Nat.le_of_ble_eq_true rfl) ?_
      refine sp_X7_keptAt_30 (by omega) hp ?_
      refine ⟨_, rfl, ?_⟩
      refine b_goto (tgt := 28) rfl rfl ?_
      refine b_iret rfl rfl ?_
      first | exact qI kq (if_pos (by omega)) rfl | exact qI kq (if_neg (by omega)) rfl
theorem sp_X11_octet {I : HI} {Q : Option AV → HI → Prop} {k : Int} (h : I 0 12 ≤ 153) (kq : Q (some (aI (if 0 ≤ k ∧ k < I 0 12 then I 56 k.toNat else -1))) I) : Rj MX11_octet 0 [aR 0, aI k] I Q := by
  refine rj_of okX11_octet (Nat.le_of_ble_eq_true rfl) rfl ?_
  refine b_iload_n rfl rfl ?_
  refine b_if_lt (tgt := 21) rfl rfl (fun c1 => ?_) (fun c1 => ?_)
  · refine b_iconst rfl (by decide) ?_
    refine b_iret rfl rfl ?_
    exact qI kq (by split <;> first | rfl | omega) rfl
  · refine b_iload_n rfl rfl ?_
    refine b_aload_n rfl rfl ?_
    refine b_getI rfl fl11_345 rfl (by decide) rfl ?_
    refine b_icmp_ge (tgt := 21) rfl rfl (fun c9 => ?_) (fun c9 => ?_)
    · refine b_iconst rfl (by decide) ?_
      refine b_iret rfl rfl ?_
      exact qI kq (by split <;> first | rfl | omega) rfl
    · refine b_aload_n rfl rfl ?_
      refine b_getR (r := 56) rfl fl11_87 rfl (by decide) rfl rfl ?_
      refine b_iload_n rfl rfl ?_
      refine b_iald rfl rfl (by omega) (by omega) ?_
      refine b_goto (tgt := 22) rfl rfl ?_
      refine b_iret rfl rfl ?_
      exact qI kq (by split <;> first | rfl | omega) rfl
theorem sp_X11_status {I : HI} {Q : Option AV → HI → Prop} {k : Int} (kq : Q (some (aI (if 0 ≤ k ∧ k < 6 then I 55 k.toNat else -1))) I) : Rj MX11_status 0 [aR 0, aI k] I Q := by
  refine rj_of okX11_status (Nat.le_of_ble_eq_true rfl) rfl ?_
  refine b_iload_n rfl rfl ?_
  refine b_if_lt (tgt := 19) rfl rfl (fun c1 => ?_) (fun c1 => ?_)
  · refine b_iconst rfl (by decide) ?_
    refine b_iret rfl rfl ?_
    exact qI kq (by split <;> first | rfl | omega) rfl
  · refine b_iload_n rfl rfl ?_
    refine b_bipush rfl (by decide) ?_
    refine b_icmp_ge (tgt := 19) rfl rfl (fun c7 => ?_) (fun c7 => ?_)
    · refine b_iconst rfl (by decide) ?_
      refine b_iret rfl rfl ?_
      exact qI kq (by split <;> first | rfl | omega) rfl
    · refine b_aload_n rfl rfl ?_
      refine b_getR (r := 55) rfl fl11_83 rfl (by decide) rfl rfl ?_
      refine b_iload_n rfl rfl ?_
      refine b_iald rfl rfl (by omega) (by omega) ?_
      refine b_goto (tgt := 20) rfl rfl ?_
      refine b_iret rfl rfl ?_
      exact qI kq (by split <;> first | rfl | omega) rfl
theorem sp_X11_undo {I : HI} {Q : Option AV → HI → Prop} (h : 0 ≤ I 38 1 ∧ I 38 1 < 20 ∧ 0 ≤ I 38 2 ∧ I 38 2 ≤ 20) (k1 : 0 < I 38 2 → Q (some (aI 1)) (rdf (up I 38 2 (I 38 2 - 1)) ((I 38 1 + (I 38 2 - 1)) % 20 * 213))) (k0 : I 38 2 = 0 → Q (some (aI 0)) (rfs I 4)) : Rj MX11_undo 3 [aR 0] I Q := by
  refine rj_of okX11_undo (Nat.le_of_ble_eq_true rfl) rfl ?_
  refine b_aload_n rfl rfl ?_
  refine b_getR (r := 38) rfl fl11_54 rfl (by decide) rfl rfl ?_
  refine b_getI rfl fl11_172 rfl (by decide) rfl ?_
  refine b_if_ne (tgt := 16) rfl rfl (fun c7 => ?_) (fun c7 => ?_)
  · refine b_aload_n rfl rfl ?_
    refine b_getR (r := 38) rfl fl11_54 rfl (by decide) rfl rfl ?_
    refine b_aload_n rfl rfl ?_
    refine b_getR (r := 30) rfl fl11_44 rfl (by decide) rfl rfl ?_
    refine b_callV1v (ν := MX2_recall) rfl ml11_330 cvX2_recall (d' := 2) (by omega) rfl (by decide) rfl (Nat.le_of_ble_eq_true rfl) ?_
    refine sp_X2_recall (by omega) ?_
    refine ⟨rfl, ?_⟩
    refine b_iconst rfl (by decide) ?_
    refine b_zret rfl rfl (by first | decide | omega) ?_
    exact k1 (by omega)
  · refine b_aload_n rfl rfl ?_
    refine b_iconst rfl (by decide) ?_
    refine b_callV1i (ν := MX11_refuses) rfl ml11_108 cvX11_refuses (d' := 1) (by omega) rfl (by decide) rfl (Nat.le_of_ble_eq_true rfl) ?_
    refine sp_X11_refuses (k := 4) (by decide) ?_
    refine ⟨_, rfl, ?_⟩
    refine b_zret rfl rfl (by first | decide | omega) ?_
    exact k0 (by omega)
def clk (I : HI) (n : Int) : Prop := 0 ≤ n ∧ n ≤ 200 ∧ I 30 5 + n ≤ 9999
theorem spf_canLook {I : HI} {Q : Option AV → HI → Prop} {n : Int} (h : 0 ≤ I 30 5 ∧ I 30 5 ≤ 9999) (k1 : clk I n → Q (some (aI 1)) I) (k0 : ¬ clk I n → Q (some (aI 0)) I) : Rj MX11_canLook 0 [aR 0, aI n] I Q := by
  unfold clk at *
  refine rj_of okX11_canLook (Nat.le_of_ble_eq_true rfl) rfl ?_
  refine b_iload_n rfl rfl ?_
  refine b_if_lt (tgt := 30) rfl rfl (fun c1 => ?_) (fun c1 => ?_)
  · refine b_iconst rfl (by decide) ?_
    refine b_zret rfl rfl (by first | decide | omega) ?_
    first | exact k1 (by omega) | exact k0 (by omega)
  · refine b_iload_n rfl rfl ?_
    refine b_sipush rfl (by decide) ?_
    refine b_icmp_gt (tgt := 30) rfl rfl (fun c8 => ?_) (fun c8 => ?_)
    · refine b_iconst rfl (by decide) ?_
      refine b_zret rfl rfl (by first | decide | omega) ?_
      first | exact k1 (by omega) | exact k0 (by omega)
    · refine b_aload_n rfl rfl ?_
      refine b_getR (r := 30) rfl fl11_44 rfl (by decide) rfl rfl ?_
      refine b_getI rfl fl11_153 rfl (by decide) rfl ?_
      refine b_iload_n rfl rfl ?_
      refine b_iaddN rfl (by omega) (by omega) ?_
      refine b_sipush rfl (by decide) ?_
      refine b_icmp_gt (tgt := 30) rfl rfl (fun c23 => ?_) (fun c23 => ?_)
      · refine b_iconst rfl (by decide) ?_
        refine b_zret rfl rfl (by first | decide | omega) ?_
        first | exact k1 (by omega) | exact k0 (by omega)
      · refine b_iconst rfl (by decide) ?_
        refine b_goto (tgt := 31) rfl rfl ?_
        refine b_zret rfl rfl (by first | decide | omega) ?_
        first | exact k1 (by omega) | exact k0 (by omega)
theorem spf_canPass {I : HI} {Q : Option AV → HI → Prop} {n : Int} (h : 0 ≤ I 30 5 ∧ I 30 5 ≤ 9999) (k1 : 1 ≤ n ∧ clk I n → Q (some (aI 1)) I) (k0 : ¬ (1 ≤ n ∧ clk I n) → Q (some (aI 0)) I) : Rj MX11_canPass 1 [aR 0, aI n] I Q := by
  refine rj_of okX11_canPass (Nat.le_of_ble_eq_true rfl) rfl ?_
  refine b_iload_n rfl rfl ?_
  refine b_iconst rfl (by decide) ?_
  refine b_icmp_lt (tgt := 17) rfl rfl (fun c2 => ?_) (fun c2 => ?_)
  · refine b_iconst rfl (by decide) ?_
    refine b_zret rfl rfl (by first | decide | omega) ?_
    first | exact k1 ⟨by omega, hc⟩ | exact k0 (fun z => hc z.2) | exact k0 (fun z => by have := z.1; omega)
  · refine b_aload_n rfl rfl ?_
    refine b_iload_n rfl rfl ?_
    refine b_callV1i (ν := MX11_canLook) rfl ml11_236 cvX11_canLook (d' := 0) (by omega) rfl (by decide) rfl (Nat.le_of_ble_eq_true rfl) ?_
    refine spf_canLook h (fun hc => ?_) (fun hc => ?_)
    · refine ⟨_, rfl, ?_⟩
      refine b_if_eq (tgt := 17) rfl rfl (fun z => absurd z (by decide)) (fun _ => ?_)
      refine b_iconst rfl (by decide) ?_
      refine b_goto (tgt := 18) rfl rfl ?_
      refine b_zret rfl rfl (by first | decide | omega) ?_
      first | exact k1 ⟨by omega, hc⟩ | exact k0 (fun z => hc z.2) | exact k0 (fun z => by have := z.1; omega)
    · refine ⟨_, rfl, ?_⟩
      refine b_if_eq (tgt := 17) rfl rfl (fun _ => ?_) (fun z => absurd z (by decide))
      refine b_iconst rfl (by decide) ?_
      refine b_zret rfl rfl (by first | decide | omega) ?_
      first | exact k1 ⟨by omega, hc⟩ | exact k0 (fun z => hc z.2) | exact k0 (fun z => by have := z.1; omega)
theorem sp_X11_letterShift {I : HI} {Q : Option AV → HI → Prop} {k : Int} (hk : 0 ≤ k ∧ k < 6) (kq : Q (some (aI (5 * (5 - k)))) I) : Rj MX11_letterShift 0 [aI k] I Q := by
  refine rj_of okX11_letterShift (Nat.le_of_ble_eq_true rfl) rfl ?_
  refine b_iconst rfl (by decide) ?_
  refine b_iconst rfl (by decide) ?_
  refine b_iload_n rfl rfl ?_
  refine b_isubN rfl (by omega) (by omega) ?_
  refine b_imulN rfl (by omega) (by omega) ?_
  refine b_iret rfl rfl ?_
  exact kq
theorem sp_X11_letter {I : HI} {Q : Option AV → HI → Prop} {a b k : Int} (hC : cOK I 4) (hn : ∀ j, 0 ≤ I 5 j ∧ I 5 j < 1073741824) (k1 : kO I 4 a b ∧ 0 ≤ k ∧ k < 6 → Q (some (aI (I 5 (a * 6 + b).toNat / 2 ^ (5 * (5 - k)).toNat % 32))) I) (k0 : ¬ (kO I 4 a b ∧ 0 ≤ k ∧ k < 6) → Q (some (aI (-1))) I) : Rj MX11_letter 1 [aR 0, aI a, aI b, aI k] I Q := by
  refine rj_of okX11_letter (Nat.le_of_ble_eq_true rfl) rfl ?_
  refine b_aload_n rfl rfl ?_
  refine b_getR (r := 3) rfl fl11_19 rfl (by decide) rfl rfl ?_
  refine b_iload_n rfl rfl ?_
  refine b_iload_n rfl rfl ?_
  refine b_callV2i (ν := MX3_knows) rfl ml11_175 cvX3_knows (d' := 0) (by omega) rfl (by decide) rfl (Nat.le_of_ble_eq_true rfl) ?_
  refine spf_knows (fun hk => ?_) (fun hk => ?_)
  · refine ⟨_, rfl, ?_⟩
    refine b_if_eq (tgt := 22) rfl rfl (fun z => absurd z (by decide)) (fun _ => ?_)
    refine b_iload_n rfl rfl ?_
    refine b_if_lt (tgt := 22) rfl rfl (fun c13 => ?_) (fun c13 => ?_)
    · refine b_iconst rfl (by decide) ?_
      refine b_iret rfl rfl ?_
      first | exact k0 (fun z => hk z.1) | exact k0 (fun z => by have := z.2; omega)
    · refine b_iload_n rfl rfl ?_
      refine b_bipush rfl (by decide) ?_
      refine b_icmp_lt (tgt := 24) rfl rfl (fun c19 => ?_) (fun c19 => ?_)
      · have hbb := kO_b hC hk
        have hnn := hn (a * 6 + b).toNat
        refine b_aload_n rfl rfl ?_
        refine b_getR (r := 3) rfl fl11_19 rfl (by decide) rfl rfl ?_
        refine b_getR (r := 5) rfl fl11_179 rfl (by decide) rfl rfl ?_
        refine b_iload_n rfl rfl ?_
        refine b_bipush rfl (by decide) ?_
        refine b_imulN rfl (by omega) (by omega) ?_
        refine b_iload_n rfl rfl ?_
        refine b_iaddN rfl (by omega) (by omega) ?_
        refine b_iald rfl rfl (by omega) (by omega) ?_
        refine b_iload_n rfl rfl ?_
        refine b_callS1i (ν := MX11_letterShift) rfl ml11_182 csX11_letterShift (d' := 0) (by omega) (Nat.le_of_ble_eq_true rfl) ?_
        refine sp_X11_letterShift (by omega) ?_
        refine ⟨_, rfl, ?_⟩
        refine b_ishr rfl ?_
        refine b_bipush rfl (by decide) ?_
        refine b_iand rfl ?_
        rw [show (5 * (5 - k)) = (((5 * (5 - k)).toNat : Nat) : Int) by omega, iShr_p _ (by unfold in32; omega) (by omega), iAnd_31]
        refine b_iret rfl rfl ?_
        exact k1 ⟨hk, by omega, by omega⟩
      · refine b_iconst rfl (by decide) ?_
        refine b_iret rfl rfl ?_
        first | exact k0 (fun z => hk z.1) | exact k0 (fun z => by have := z.2; omega)
  · refine ⟨_, rfl, ?_⟩
    refine b_if_eq (tgt := 22) rfl rfl (fun _ => ?_) (fun z => absurd z (by decide))
    refine b_iconst rfl (by decide) ?_
    refine b_iret rfl rfl ?_
    first | exact k0 (fun z => hk z.1) | exact k0 (fun z => by have := z.2; omega)
theorem sp_X11_ware {I : HI} {Q : Option AV → HI → Prop} {a w : Int} (hC : cOK I 4) (hr : ∀ k, 0 ≤ I 32 k ∧ I 32 k ≤ 255) (k1 : kO I 4 0 a → Q (some (aI (if w = 0 then I 6 a.toNat else if w = 1 then I 7 a.toNat else if w = 2 then sumN 24 (fun j => I 32 (a.toNat + 6 * j)) else -1))) I) (k0 : ¬ kO I 4 0 a → Q (some (aI (-1))) I) : Rj MX11_ware 2 [aR 0, aI a, aI w] I Q := by
  refine rj_of okX11_ware (Nat.le_of_ble_eq_true rfl) rfl ?_
  refine b_aload_n rfl rfl ?_
  refine b_getR (r := 3) rfl fl11_19 rfl (by decide) rfl rfl ?_
  refine b_iconst rfl (by decide) ?_
  refine b_iload_n rfl rfl ?_
  refine b_callV2i (ν := MX3_knows) rfl ml11_175 cvX3_knows (d' := 0) (by omega) rfl (by decide) rfl (Nat.le_of_ble_eq_true rfl) ?_
  refine spf_knows (fun hk => ?_) (fun hk => ?_)
  · refine ⟨_, rfl, ?_⟩
    refine b_if_ne (tgt := 14) rfl rfl (fun _ => ?_) (fun z => absurd z (by decide))
    have hbb := kO_b hC hk
    have e6 : ∀ f, fo I 4 f 0 a = I f a.toNat := fun f => by rw [fo_1 hk]; congr 1; omega
    refine b_iload_n rfl rfl ?_
    by_cases s15_0 : w = 0
    · refine b_tswIn (tgt := 40) rfl (by omega) (by omega) (by rw [s15_0]; rfl) rfl ?_
      refine b_aload_n rfl rfl ?_
      refine b_getR (r := 3) rfl fl11_19 rfl (by decide) rfl rfl ?_
      refine b_iconst rfl (by decide) ?_
      refine b_iload_n rfl rfl ?_
      refine b_callV2i (ν := MX3_firstOf) rfl ml11_185 cvX3_firstOf (d' := 1) (by omega) rfl (by decide) rfl (Nat.le_of_ble_eq_true rfl) ?_
      refine sp_X3_firstOf_3 hC ?_
      rw [e6]
      refine ⟨_, rfl, ?_⟩
      refine b_iret rfl rfl ?_
      refine qI (k1 hk) ?_ rfl
      repeat' split
      all_goals first | rfl | omega
    by_cases s15_1 : w = 1
    · refine b_tswIn (tgt := 50) rfl (by omega) (by omega) (by rw [s15_1]; rfl) rfl ?_
      refine b_aload_n rfl rfl ?_
      refine b_getR (r := 3) rfl fl11_19 rfl (by decide) rfl rfl ?_
      refine b_iconst rfl (by decide) ?_
      refine b_iload_n rfl rfl ?_
      refine b_callV2i (ν := MX3_secondOf) rfl ml11_189 cvX3_secondOf (d' := 1) (by omega) rfl (by decide) rfl (Nat.le_of_ble_eq_true rfl) ?_
      refine sp_X3_secondOf_3 hC ?_
      rw [e6]
      refine ⟨_, rfl, ?_⟩
      refine b_iret rfl rfl ?_
      refine qI (k1 hk) ?_ rfl
      repeat' split
      all_goals first | rfl | omega
    by_cases s15_2 : w = 2
    · refine b_tswIn (tgt := 60) rfl (by omega) (by omega) (by rw [s15_2]; rfl) rfl ?_
      refine b_aload_n rfl rfl ?_
      refine b_getR (r := 30) rfl fl11_44 rfl (by decide) rfl rfl ?_
      refine b_iload_n rfl rfl ?_
      refine b_callV1i (ν := MX7_cratesOf) rfl ml11_192 cvX7_cratesOf (d' := 1) (by omega) rfl (by decide) rfl (Nat.le_of_ble_eq_true rfl) ?_
      refine sp_X7_cratesOf_30 (by omega) hr ?_
      refine ⟨_, rfl, ?_⟩
      refine b_iret rfl rfl ?_
      refine qI (k1 hk) ?_ rfl
      repeat' split
      all_goals first | rfl | omega
    refine b_tswOut (tgt := 69) rfl (by omega) rfl ?_
    refine b_iconst rfl (by decide) ?_
    refine b_iret rfl rfl ?_
    refine qI (k1 hk) ?_ rfl
    repeat' split
    all_goals first | rfl | omega
  · refine ⟨_, rfl, ?_⟩
    refine b_if_ne (tgt := 14) rfl rfl (fun z => absurd z (by decide)) (fun _ => ?_)
    refine b_iconst rfl (by decide) ?_
    refine b_iret rfl rfl ?_
    exact k0 hk
theorem sp_X11_tips {I : HI} {Q : Option AV → HI → Prop} {a : Int} (hp : pOK I) (hb : crB I 32) (k1 : ∀ s : Nat, a = (s : Int) → (s : Int) < I 4 1 → Q (some (aI (tT I 32 s))) I) (k0 : ¬ kO I 4 1 a → Q (some (aI (-1000000000))) I) : Rj MX11_tips 4 [aR 0, aI a] I Q := by
  refine rj_of okX11_tips (Nat.le_of_ble_eq_true rfl) rfl ?_
  refine b_aload_n rfl rfl ?_
  refine b_getR (r := 3) rfl fl11_19 rfl (by decide) rfl rfl ?_
  refine b_iconst rfl (by decide) ?_
  refine b_iload_n rfl rfl ?_
  refine b_callV2i (ν := MX3_knows) rfl ml11_175 cvX3_knows (d' := 0) (by omega) rfl (by decide) rfl (Nat.le_of_ble_eq_true rfl) ?_
  refine spf_knows (fun hk => ?_) (fun hk => ?_)
  · refine ⟨_, rfl, ?_⟩
    refine b_if_ne (tgt := 15) rfl rfl (fun _ => ?_) (fun z => absurd z (by decide))
    refine b_aload_n rfl rfl ?_
    refine b_getR (r := 27) rfl fl11_37 rfl (by decide) rfl rfl ?_
    refine b_aload_n rfl rfl ?_
    refine b_getR (r := 30) rfl fl11_44 rfl (by decide) rfl rfl ?_
    refine b_getR (r := 32) rfl fl11_198 rfl (by decide) rfl rfl ?_
    refine b_iload_n rfl rfl ?_
    refine b_callV2i (ν := MX5_tipOf) rfl ml11_215 cvX5_tipOf (d' := 3) (by omega) rfl (by decide) rfl (Nat.le_of_ble_eq_true rfl) ?_
    have h2 := hk.2.2
    obtain ⟨s, rfl⟩ : ∃ s : Nat, a = (s : Int) := ⟨a.toNat, by omega⟩
    refine sp_X5_tipOf_32 (s := s) hp hb h2.2 ?_
    refine ⟨_, rfl, ?_⟩
    refine b_iret rfl rfl ?_
    exact k1 s rfl h2.2
  · refine ⟨_, rfl, ?_⟩
    refine b_if_ne (tgt := 15) rfl rfl (fun z => absurd z (by decide)) (fun _ => ?_)
    refine b_ldc (z := -1000000000) rfl kc11_214 (by decide) ?_
    refine b_iret rfl rfl ?_
    exact k0 hk
theorem sp_X11_crates {I : HI} {Q : Option AV → HI → Prop} {a b c : Int} (hp : pOK I) (k1 : kc_3 I a b c → Q (some (aI (I 32 (a * 24 + b * 6 + c).toNat))) I) (k0 : ¬ kc_3 I a b c → Q (some (aI (-1))) I) : Rj MX11_crates 3 [aR 0, aI a, aI b, aI c] I Q := by
  refine rj_of okX11_crates (Nat.le_of_ble_eq_true rfl) rfl ?_
  refine b_aload_n rfl rfl ?_
  refine b_getR (r := 3) rfl fl11_19 rfl (by decide) rfl rfl ?_
  refine b_iload_n rfl rfl ?_
  refine b_iload_n rfl rfl ?_
  refine b_iload_n rfl rfl ?_
  refine b_callV3i (ν := MX3_knowsCell) rfl ml11_219 cvX3_knowsCell (d' := 2) (by omega) rfl (by decide) rfl (Nat.le_of_ble_eq_true rfl) ?_
  refine sp_X3_knowsCell_3 hp.1 (fun hk => ?_) (fun hk => ?_)
  · refine ⟨_, rfl, ?_⟩
    refine b_if_ne (tgt := 15) rfl rfl (fun _ => ?_) (fun z => absurd z (by decide))
    refine b_aload_n rfl rfl ?_
    refine b_getR (r := 30) rfl fl11_44 rfl (by decide) rfl rfl ?_
    refine b_getR (r := 32) rfl fl11_198 rfl (by decide) rfl rfl ?_
    refine b_iload_n rfl rfl ?_
    refine b_iload_n rfl rfl ?_
    refine b_iload_n rfl rfl ?_
    refine b_callS3i (ν := MX11_cell) rfl ml11_223 csX11_cell (d' := 0) (by omega) (Nat.le_of_ble_eq_true rfl) ?_
    have hb1 := kO_b hp.1 hk.1
    have hb2 := kO_b hp.1 hk.2.2.2
    have hh1 := hk.2.1
    have hh2 := hk.2.2.1
    have hh3 := hp.2.2.1 a.toNat (by have := hk.1.2.2.2; show ((a.toNat : Nat) : Int) < I 4 1; have e : (1 : Int).toNat = 1 := rfl; rw [e] at this; omega)
    rw [show (1 * 6 + a).toNat = 6 + a.toNat by omega] at hh2
    refine sp_X11_cell (by omega) ?_
    refine ⟨_, rfl, ?_⟩
    refine b_iald rfl rfl (by omega) (by omega) ?_
    refine b_iret rfl rfl ?_
    exact k1 hk
  · refine ⟨_, rfl, ?_⟩
    refine b_if_ne (tgt := 15) rfl rfl (fun z => absurd z (by decide)) (fun _ => ?_)
    refine b_iconst rfl (by decide) ?_
    refine b_iret rfl rfl ?_
    exact k0 hk
