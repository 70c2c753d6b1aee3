/-! ===== the reference: add, joins, pushes, opens ===== -/
section MJO
variable {K0 K : HI} {m k0 : Nat} {fs r : List Fm} {F : Fm} {cs : List Int} {o : Int} {Q : Option AV → HI → Prop} {si sa en va wo fk fp lx : Int}
theorem mc_add {s z v : Int} (hR : RC K0 m k0 fs cs o K) (hm : m < 2) (hr : k0 + cs.length < 1600) (hc : cm s z v) (kq : ∀ K', RC K0 m k0 fs (cs ++ [v]) o K' → (∀ q, 78 ≤ q → K' q = K q) → Q none (MX K' si sa en va wo fk fp lx)) : Rj MX12_add 0 [aR 57, aI s, aI z] (MX K si sa en va wo fk fp lx) Q := by
  refine rj_of okX12_add (Nat.le_of_ble_eq_true rfl) rfl ?_
  have kk := kq _ (RC_add hR hr hc) (fun q hq => by
    funext i
    rw [up_ap, if_neg (by omega), up_ap, if_neg (by omega), up_ap, if_neg (by omega)])
  obtain ⟨h1, h2, h3, h4, h5, h6, h7, h8⟩ := hR
  have ez : (1600 * (m : Int) + ((k0 + cs.length : Nat) : Int)).toNat = 1600 * m + (k0 + cs.length) := by omega
  refine b_aload_n rfl rfl ?_
  refine b_getR (r := 73) rfl fl12_96 rfl (by decide) rfl rfl ?_
  refine b_sipush rfl (by decide) ?_
  refine b_aload_n rfl rfl ?_
  refine b_getI rfl fl12_115 rfl (by decide) rfl ?_
  rw [MXo (by decide)]
  rw [h7]
  refine b_imulN rfl (by omega) (by omega) ?_
  refine b_aload_n rfl rfl ?_
  refine b_getI rfl fl12_112 rfl (by decide) rfl ?_
  rw [MXo (by decide)]
  rw [h6]
  refine b_iaddN rfl (by omega) (by omega) ?_
  refine b_iload_n rfl rfl ?_
  refine b_iast rfl rfl (by omega) (by omega) ?_
  try simp only [tn6, tn4, tn2, tn144, tn24, tn_cast, Int.reduceToNat]
  rw [MX_ux (by decide)]
  try rw [ez]
  refine b_aload_n rfl rfl ?_
  refine b_getR (r := 74) rfl fl12_99 rfl (by decide) rfl rfl ?_
  refine b_sipush rfl (by decide) ?_
  refine b_aload_n rfl rfl ?_
  refine b_getI rfl fl12_115 rfl (by decide) rfl ?_
  rw [MXo (by decide)]
  try simp only [up_ap, cpy_ap, fil_ap, row_ap, Nat.reduceEqDiff, Nat.reduceLT, Nat.reduceLeDiff, Int.toNat_natCast, Int.reduceToNat, reduceCtorEq, false_and, and_false, true_and, and_true, and_self, reduceIte]
  rw [h7]
  refine b_imulN rfl (by omega) (by omega) ?_
  refine b_aload_n rfl rfl ?_
  refine b_getI rfl fl12_112 rfl (by decide) rfl ?_
  rw [MXo (by decide)]
  try simp only [up_ap, cpy_ap, fil_ap, row_ap, Nat.reduceEqDiff, Nat.reduceLT, Nat.reduceLeDiff, Int.toNat_natCast, Int.reduceToNat, reduceCtorEq, false_and, and_false, true_and, and_true, and_self, reduceIte]
  rw [h6]
  refine b_iaddN rfl (by omega) (by omega) ?_
  refine b_iload_n rfl rfl ?_
  refine b_iast rfl rfl (by omega) (by omega) ?_
  try simp only [tn6, tn4, tn2, tn144, tn24, tn_cast, Int.reduceToNat]
  rw [MX_ux (by decide)]
  try rw [ez]
  refine b_aload_n rfl rfl ?_
  refine b_dup rfl rfl ?_
  refine b_getI rfl fl12_112 rfl (by decide) rfl ?_
  rw [MXo (by decide)]
  try simp only [up_ap, cpy_ap, fil_ap, row_ap, Nat.reduceEqDiff, Nat.reduceLT, Nat.reduceLeDiff, Int.toNat_natCast, Int.reduceToNat, reduceCtorEq, false_and, and_false, true_and, and_true, and_self, reduceIte]
  rw [h6]
  refine b_iconst rfl (by decide) ?_
  refine b_iaddN rfl (by omega) (by omega) ?_
  refine b_putI rfl fl12_112 rfl (by decide) rfl ?_
  rw [MX_uo (by decide)]
  refine b_vret rfl rfl ?_
  exact kk
theorem spr_rank {v : Int} (hv : opc v) (kq : Q (some (aI (rnk v : Int))) K) : Rj MX12_rank 0 [aI (so v)] K Q := by
  refine rj_of okX12_rank (Nat.le_of_ble_eq_true rfl) rfl ?_
  have hs := so_x (v := v) (by have := hv.1; omega) hv.2.1
  have hr : rnk v = (if v = -11 then 1 else if v = -12 then 2 else if v = -9 then 3 else if v = -13 ∨ v = -14 ∨ v = -15 then 4 else if v = -16 ∨ v = -17 then 5 else 6) := rfl
  have h10 := hv.2.2
  generalize so v = s at *
  refine b_iload_n rfl rfl ?_
  refine b_bipush rfl (by decide) ?_
  refine b_icmp_ne (tgt := 10) rfl rfl (fun c3 => ?_) (fun c3 => ?_)
  · refine b_iload_n rfl rfl ?_
    refine b_bipush rfl (by decide) ?_
    refine b_icmp_ne (tgt := 20) rfl rfl (fun c13 => ?_) (fun c13 => ?_)
    · refine b_iload_n rfl rfl ?_
      refine b_bipush rfl (by decide) ?_
      refine b_icmp_ne (tgt := 30) rfl rfl (fun c23 => ?_) (fun c23 => ?_)
      · refine b_iload_n rfl rfl ?_
        refine b_bipush rfl (by decide) ?_
        refine b_icmp_eq (tgt := 48) rfl rfl (fun c33 => ?_) (fun c33 => ?_)
        · refine b_iconst rfl (by decide) ?_
          refine b_goto (tgt := 70) rfl rfl ?_
          refine b_iret rfl rfl ?_
          refine qI kq ?_ rfl
          rw [hr]
          repeat' split
          all_goals omega
        · refine b_iload_n rfl rfl ?_
          refine b_bipush rfl (by decide) ?_
          refine b_icmp_eq (tgt := 48) rfl rfl (fun c39 => ?_) (fun c39 => ?_)
          · refine b_iconst rfl (by decide) ?_
            refine b_goto (tgt := 70) rfl rfl ?_
            refine b_iret rfl rfl ?_
            refine qI kq ?_ rfl
            rw [hr]
            repeat' split
            all_goals omega
          · refine b_iload_n rfl rfl ?_
            refine b_bipush rfl (by decide) ?_
            refine b_icmp_ne (tgt := 52) rfl rfl (fun c45 => ?_) (fun c45 => ?_)
            · refine b_iload_n rfl rfl ?_
              refine b_bipush rfl (by decide) ?_
              refine b_icmp_eq (tgt := 64) rfl rfl (fun c55 => ?_) (fun c55 => ?_)
              · refine b_iconst rfl (by decide) ?_
                refine b_goto (tgt := 70) rfl rfl ?_
                refine b_iret rfl rfl ?_
                refine qI kq ?_ rfl
                rw [hr]
                repeat' split
                all_goals omega
              · refine b_iload_n rfl rfl ?_
                refine b_bipush rfl (by decide) ?_
                refine b_icmp_ne (tgt := 68) rfl rfl (fun c61 => ?_) (fun c61 => ?_)
                · refine b_bipush rfl (by decide) ?_
                  refine b_iret rfl rfl ?_
                  refine qI kq ?_ rfl
                  rw [hr]
                  repeat' split
                  all_goals omega
                · refine b_iconst rfl (by decide) ?_
                  refine b_goto (tgt := 70) rfl rfl ?_
                  refine b_iret rfl rfl ?_
                  refine qI kq ?_ rfl
                  rw [hr]
                  repeat' split
                  all_goals omega
            · refine b_iconst rfl (by decide) ?_
              refine b_goto (tgt := 70) rfl rfl ?_
              refine b_iret rfl rfl ?_
              refine qI kq ?_ rfl
              rw [hr]
              repeat' split
              all_goals omega
      · refine b_iconst rfl (by decide) ?_
        refine b_goto (tgt := 70) rfl rfl ?_
        refine b_iret rfl rfl ?_
        refine qI kq ?_ rfl
        rw [hr]
        repeat' split
        all_goals omega
    · refine b_iconst rfl (by decide) ?_
      refine b_goto (tgt := 70) rfl rfl ?_
      refine b_iret rfl rfl ?_
      refine qI kq ?_ rfl
      rw [hr]
      repeat' split
      all_goals omega
  · refine b_iconst rfl (by decide) ?_
    refine b_goto (tgt := 70) rfl rfl ?_
    refine b_iret rfl rfl ?_
    refine qI kq ?_ rfl
    rw [hr]
    repeat' split
    all_goals omega
theorem mc_hold {v : Int} (hR : RC K0 m k0 (F :: r) cs o K) (ht : tot (F :: r) < 500) (hv : opc v) (kq : ∀ K', RC K0 m k0 ((mkF F.ki F.ph F.bg F.pa (v :: F.os)) :: r) cs o K' → Q none (MX K' si sa en va wo fk fp lx)) : Rj MX12_holdsBack 0 [aR 57, aI (so v)] (MX K si sa en va wo fk fp lx) Q := by
  refine rj_of okX12_holdsBack (Nat.le_of_ble_eq_true rfl) rfl ?_
  have kk := kq _ (RC_hold hR hv)
  obtain ⟨h1, h2, h3, h4, h5, h6, h7, h8⟩ := hR
  generalize so v = s at *
  refine b_aload_n rfl rfl ?_
  refine b_getR (r := 83) rfl fl12_143 rfl (by decide) rfl rfl ?_
  refine b_aload_n rfl rfl ?_
  refine b_getI rfl fl12_146 rfl (by decide) rfl ?_
  rw [MXo (by decide)]
  rw [h4]
  refine b_iload_n rfl rfl ?_
  refine b_iast rfl rfl (by omega) (by omega) ?_
  try simp only [tn6, tn4, tn2, tn144, tn24, tn_cast, Int.reduceToNat]
  rw [MX_ux (by decide)]
  try rw [Int.toNat_natCast]
  refine b_aload_n rfl rfl ?_
  refine b_dup rfl rfl ?_
  refine b_getI rfl fl12_146 rfl (by decide) rfl ?_
  rw [MXo (by decide)]
  try simp only [up_ap, cpy_ap, fil_ap, row_ap, Nat.reduceEqDiff, Nat.reduceLT, Nat.reduceLeDiff, Int.toNat_natCast, Int.reduceToNat, reduceCtorEq, false_and, and_false, true_and, and_true, and_self, reduceIte]
  rw [h4]
  refine b_iconst rfl (by decide) ?_
  refine b_iaddN rfl (by omega) (by omega) ?_
  refine b_putI rfl fl12_146 rfl (by decide) rfl ?_
  rw [MX_uo (by decide)]
  refine b_vret rfl rfl ?_
  exact kk
theorem mc_pushes {ki : Int} (hR : RC K0 m k0 fs cs o K) (hl : fs.length < 20) (ht : tot fs < 1000) (hk : 0 ≤ ki ∧ ki ≤ 6) (kq : ∀ K', RC K0 m k0 ((mkF ki 0 1 0 []) :: fs) cs o K' → Q none (MX K' si sa en va wo fk fp lx)) : Rj MX12_pushes 0 [aR 57, aI ki] (MX K si sa en va wo fk fp lx) Q := by
  refine rj_of okX12_pushes (Nat.le_of_ble_eq_true rfl) rfl ?_
  have kk := kq _ (RC_push hR hk)
  obtain ⟨h1, h2, h3, h4, h5, h6, h7, h8⟩ := hR
  refine b_aload_n rfl rfl ?_
  refine b_getR (r := 78) rfl fl12_121 rfl (by decide) rfl rfl ?_
  refine b_aload_n rfl rfl ?_
  refine b_getI rfl fl12_137 rfl (by decide) rfl ?_
  rw [MXo (by decide)]
  rw [h3]
  refine b_iload_n rfl rfl ?_
  refine b_iast rfl rfl (by omega) (by omega) ?_
  try simp only [tn6, tn4, tn2, tn144, tn24, tn_cast, Int.reduceToNat]
  rw [MX_ux (by decide)]
  try rw [Int.toNat_natCast]
  refine b_aload_n rfl rfl ?_
  refine b_getR (r := 79) rfl fl12_124 rfl (by decide) rfl rfl ?_
  refine b_aload_n rfl rfl ?_
  refine b_getI rfl fl12_137 rfl (by decide) rfl ?_
  rw [MXo (by decide)]
  try simp only [up_ap, cpy_ap, fil_ap, row_ap, Nat.reduceEqDiff, Nat.reduceLT, Nat.reduceLeDiff, Int.toNat_natCast, Int.reduceToNat, reduceCtorEq, false_and, and_false, true_and, and_true, and_self, reduceIte]
  rw [h3]
  refine b_iconst rfl (by decide) ?_
  refine b_iast rfl rfl (by omega) (by omega) ?_
  try simp only [tn6, tn4, tn2, tn144, tn24, tn_cast, Int.reduceToNat]
  rw [MX_ux (by decide)]
  try rw [Int.toNat_natCast]
  refine b_aload_n rfl rfl ?_
  refine b_getR (r := 80) rfl fl12_127 rfl (by decide) rfl rfl ?_
  refine b_aload_n rfl rfl ?_
  refine b_getI rfl fl12_137 rfl (by decide) rfl ?_
  rw [MXo (by decide)]
  try simp only [up_ap, cpy_ap, fil_ap, row_ap, Nat.reduceEqDiff, Nat.reduceLT, Nat.reduceLeDiff, Int.toNat_natCast, Int.reduceToNat, reduceCtorEq, false_and, and_false, true_and, and_true, and_self, reduceIte]
  rw [h3]
  refine b_iconst rfl (by decide) ?_
  refine b_zast rfl rfl (by omega) (by omega) (by first | decide | omega) ?_
  try simp only [tn6, tn4, tn2, tn144, tn24, tn_cast, Int.reduceToNat]
  rw [MX_ux (by decide)]
  try rw [Int.toNat_natCast]
  refine b_aload_n rfl rfl ?_
  refine b_getR (r := 82) rfl fl12_134 rfl (by decide) rfl rfl ?_
  refine b_aload_n rfl rfl ?_
  refine b_getI rfl fl12_137 rfl (by decide) rfl ?_
  rw [MXo (by decide)]
  try simp only [up_ap, cpy_ap, fil_ap, row_ap, Nat.reduceEqDiff, Nat.reduceLT, Nat.reduceLeDiff, Int.toNat_natCast, Int.reduceToNat, reduceCtorEq, false_and, and_false, true_and, and_true, and_self, reduceIte]
  rw [h3]
  refine b_aload_n rfl rfl ?_
  refine b_getI rfl fl12_146 rfl (by decide) rfl ?_
  rw [MXo (by decide)]
  try simp only [up_ap, cpy_ap, fil_ap, row_ap, Nat.reduceEqDiff, Nat.reduceLT, Nat.reduceLeDiff, Int.toNat_natCast, Int.reduceToNat, reduceCtorEq, false_and, and_false, true_and, and_true, and_self, reduceIte]
  rw [h4]
  refine b_iast rfl rfl (by omega) (by omega) ?_
  try simp only [tn6, tn4, tn2, tn144, tn24, tn_cast, Int.reduceToNat]
  rw [MX_ux (by decide)]
  try rw [Int.toNat_natCast]
  refine b_aload_n rfl rfl ?_
  refine b_dup rfl rfl ?_
  refine b_getI rfl fl12_137 rfl (by decide) rfl ?_
  rw [MXo (by decide)]
  try simp only [up_ap, cpy_ap, fil_ap, row_ap, Nat.reduceEqDiff, Nat.reduceLT, Nat.reduceLeDiff, Int.toNat_natCast, Int.reduceToNat, reduceCtorEq, false_and, and_false, true_and, and_true, and_self, reduceIte]
  rw [h3]
  refine b_iconst rfl (by decide) ?_
  refine b_iaddN rfl (by omega) (by omega) ?_
  refine b_putI rfl fl12_137 rfl (by decide) rfl ?_
  rw [MX_uo (by decide)]
  refine b_vret rfl rfl ?_
  exact kk
theorem mc_joins {l : Nat} (hm : m < 2) : ∀ (os : List Int) (F : Fm) (cs : List Int) (o : Int) (K : HI) (Q : Option AV → HI → Prop), F.os = os → RC K0 m k0 (F :: r) cs o K → k0 + cs.length + os.length ≤ 1600 → tot (F :: r) < 500 → r.length < 20 → (os.length : Int) - 1000 ≤ o ∧ o ≤ 1000 → (∀ K', RC K0 m k0 ((mkF F.ki F.ph F.bg F.pa (joD l os)) :: r) (cs ++ joT l os) (o - (ntO (joT l os) : Int)) K' → Q none (MX K' si sa en va wo fk fp lx)) → Bj MX12_joins 1 0 [some (aR 57), some (aI (l : Int))] [] (MX K si sa en va wo fk fp lx) Q := by
  intro os
  induction os with
  | nil =>
    intro F cs o K Q hos hR hb ht hl ho kq
    have kk := kq K (by
      have e : mkF F.ki F.ph F.bg F.pa (joD l []) = F := by rw [show joD l [] = F.os from hos.symm]
      rw [e, show joT l [] = [] from rfl, List.append_nil, show o - ((ntO ([] : List Int) : Nat) : Int) = o from Int.sub_zero o]
      exact hR)
    obtain ⟨h1, h2, h3, h4, h5, h6, h7, h8⟩ := hR
    obtain ⟨a1, a2, a3, a4, a5, a6, a7, a8⟩ := h2
    have htc := tot_c (F := F) (r := r)
    rw [hos, List.length_nil] at htc
    rw [List.length_cons] at h3
    have ez : (((r.length + 1 : Nat) : Int) - 1).toNat = r.length := by omega
    refine b_aload_n rfl rfl ?_
    refine b_getI rfl fl12_146 rfl (by decide) rfl ?_
    rw [MXo (by decide)]
    rw [h4]
    refine b_aload_n rfl rfl ?_
    refine b_getR (r := 82) rfl fl12_134 rfl (by decide) rfl rfl ?_
    refine b_aload_n rfl rfl ?_
    refine b_getI rfl fl12_137 rfl (by decide) rfl ?_
    rw [MXo (by decide)]
    rw [h3]
    refine b_iconst rfl (by decide) ?_
    refine b_isubN rfl (by omega) (by omega) ?_
    refine b_iald rfl rfl (by omega) (by omega) ?_
    try simp only [tn6, tn4, tn2, tn144, tn24, tn_cast, Int.reduceToNat]
    rw [MXc (by decide)]
    try rw [ez]
    rw [a6]
    refine b_icmp_le (tgt := 87) rfl rfl (fun c15 => ?_) (fun c15 => ?_)
    · refine b_vret rfl rfl ?_
      exact kk
    · omega
  | cons v os ih =>
    intro F cs o K Q hos hR hb ht hl ho kq
    have hF : F = mkF F.ki F.ph F.bg F.pa (v :: os) := by rw [← hos]
    have hR' := hR
    rw [hF] at hR'
    have hD := RC_drop (F := F) (v := v) (os := os) hR'
    obtain ⟨h1, h2, h3, h4, h5, h6, h7, h8⟩ := hR
    obtain ⟨a1, a2, a3, a4, a5, a6, a7, a8⟩ := h2
    have htc := tot_c (F := F) (r := r)
    rw [hos] at a7 htc
    rw [List.length_cons] at htc hb ho
    have ha := ROs_tail a7
    rw [List.length_cons] at h3
    have ez : (((r.length + 1 : Nat) : Int) - 1).toNat = r.length := by omega
    have ez2 : ((tot (F :: r) : Int) - 1).toNat = tot r + os.length := by omega
    have ez3 : (tot (F :: r) : Int) - 1 = ((tot r + os.length : Nat) : Int) := by omega
    have hs := so_x (v := v) (by have := ha.2.2.1; omega) ha.2.2.2.1
    by_cases hr : l ≤ rnk v
    · have eT : joT l (v :: os) = v :: joT l os := by
        unfold joT
        rw [List.takeWhile_cons, if_pos (by rw [decide_eq_true_eq]; exact hr)]
      have eD : joD l (v :: os) = joD l os := by
        unfold joD
        rw [List.dropWhile_cons, if_pos (by rw [decide_eq_true_eq]; exact hr)]
      rw [eT, eD] at kq
      have nx : ∀ K2, RC K0 m k0 ((mkF F.ki F.ph F.bg F.pa os) :: r) (cs ++ [v]) (o - (if v = -9 then 1 else 0)) K2 → Bj MX12_joins 1 0 [some (aR 57), some (aI (l : Int))] [] (MX K2 si sa en va wo fk fp lx) Q := by
        intro K2 hR2
        refine ih (mkF F.ki F.ph F.bg F.pa os) (cs ++ [v]) _ K2 Q rfl hR2 (by rw [List.length_append, List.length_singleton]; omega) (by rw [tot_c]; show os.length + tot r < 500; omega) hl (by split <;> omega) (fun K3 hR3 => kq K3 ?_)
        rw [List.append_assoc] at hR3
        have eo : o - ((ntO (v :: joT l os) : Nat) : Int) = o - (if v = -9 then 1 else 0) - (ntO (joT l os) : Int) := by
          rw [show ntO (v :: joT l os) = (if v = -9 then 1 else 0) + ntO (joT l os) from rfl]
          split <;> omega
        rw [eo]
        exact hR3
      have g60 : ∀ K2, RC K0 m k0 ((mkF F.ki F.ph F.bg F.pa os) :: r) (cs ++ [v]) o K2 → K2 83 (tot r + os.length) = so v → Bj MX12_joins 1 60 [some (aR 57), some (aI (l : Int))] [] (MX K2 si sa en va wo fk fp lx) Q := by
        intro K2 hR2 h83
        have hR2' := hR2
        obtain ⟨b1, b2, b3, b4, b5, b6, b7, b8⟩ := hR2
        rw [show tot ((mkF F.ki F.ph F.bg F.pa os) :: r) = tot r + os.length by rw [tot_c]; show os.length + tot r = _; omega] at b4
        refine b_aload_n rfl rfl ?_
        refine b_getR (r := 83) rfl fl12_143 rfl (by decide) rfl rfl ?_
        refine b_aload_n rfl rfl ?_
        refine b_getI rfl fl12_146 rfl (by decide) rfl ?_
        rw [MXo (by decide)]
        rw [b4]
        refine b_iald rfl rfl (by omega) (by omega) ?_
        try simp only [tn6, tn4, tn2, tn144, tn24, tn_cast, Int.reduceToNat]
        rw [MXc (by decide)]
        try rw [Int.toNat_natCast]
        rw [h83]
        refine b_bipush rfl (by decide) ?_
        refine b_icmp_ne (tgt := 0) rfl rfl (fun c71 => ?_) (fun c71 => ?_)
        · first
          | (have e9 : v = -9 := by omega
             refine nx _ ?_
             rw [if_pos e9]
             exact RC_o hR2')
          | (have e9 : ¬ v = -9 := by omega
             refine nx _ ?_
             rw [if_neg e9, Int.sub_zero]
             exact hR2')
        · refine b_aload_n rfl rfl ?_
          refine b_dup rfl rfl ?_
          refine b_getI rfl fl12_140 rfl (by decide) rfl ?_
          rw [MXo (by decide)]
          rw [b5]
          refine b_iconst rfl (by decide) ?_
          refine b_isubN rfl (by omega) (by omega) ?_
          refine b_putI rfl fl12_140 rfl (by decide) rfl ?_
          rw [MX_uo (by decide)]
          refine b_goto (tgt := 0) rfl rfl ?_
          first
          | (have e9 : v = -9 := by omega
             refine nx _ ?_
             rw [if_pos e9]
             exact RC_o hR2')
          | (have e9 : ¬ v = -9 := by omega
             refine nx _ ?_
             rw [if_neg e9, Int.sub_zero]
             exact hR2')
      refine b_aload_n rfl rfl ?_
      refine b_getI rfl fl12_146 rfl (by decide) rfl ?_
      rw [MXo (by decide)]
      rw [h4]
      refine b_aload_n rfl rfl ?_
      refine b_getR (r := 82) rfl fl12_134 rfl (by decide) rfl rfl ?_
      refine b_aload_n rfl rfl ?_
      refine b_getI rfl fl12_137 rfl (by decide) rfl ?_
      rw [MXo (by decide)]
      rw [h3]
      refine b_iconst rfl (by decide) ?_
      refine b_isubN rfl (by omega) (by omega) ?_
      refine b_iald rfl rfl (by omega) (by omega) ?_
      try simp only [tn6, tn4, tn2, tn144, tn24, tn_cast, Int.reduceToNat]
      rw [MXc (by decide)]
      try rw [ez]
      rw [a6]
      refine b_icmp_le (tgt := 87) rfl rfl (fun c15 => ?_) (fun c15 => ?_)
      · omega
      · refine b_aload_n rfl rfl ?_
        refine b_getR (r := 83) rfl fl12_143 rfl (by decide) rfl rfl ?_
        refine b_aload_n rfl rfl ?_
        refine b_getI rfl fl12_146 rfl (by decide) rfl ?_
        rw [MXo (by decide)]
        rw [h4]
        refine b_iconst rfl (by decide) ?_
        refine b_isubN rfl (by omega) (by omega) ?_
        refine b_iald rfl rfl (by omega) (by omega) ?_
        try simp only [tn6, tn4, tn2, tn144, tn24, tn_cast, Int.reduceToNat]
        rw [MXc (by decide)]
        try rw [ez2]
        rw [ha.2.1]
        refine b_callS1i (ν := MX12_rank) rfl ml12_326 csX12_rank (d' := 0) (by omega) (Nat.le_of_ble_eq_true rfl) ?_
        refine spr_rank ha.2.2 ?_
        refine ⟨_, rfl, ?_⟩
        refine b_iload_n rfl rfl ?_
        refine b_icmp_lt (tgt := 87) rfl rfl (fun c33 => ?_) (fun c33 => ?_)
        · omega
        · refine b_aload_n rfl rfl ?_
          refine b_dup rfl rfl ?_
          refine b_getI rfl fl12_146 rfl (by decide) rfl ?_
          rw [MXo (by decide)]
          rw [h4]
          refine b_iconst rfl (by decide) ?_
          refine b_isubN rfl (by omega) (by omega) ?_
          refine b_putI rfl fl12_146 rfl (by decide) rfl ?_
          rw [MX_uo (by decide)]
          rw [ez3]
          refine b_aload_n rfl rfl ?_
          refine b_aload_n rfl rfl ?_
          refine b_getR (r := 83) rfl fl12_143 rfl (by decide) rfl rfl ?_
          refine b_aload_n rfl rfl ?_
          refine b_getI rfl fl12_146 rfl (by decide) rfl ?_
          rw [MXo (by decide)]
          try simp only [up_ap, cpy_ap, fil_ap, row_ap, Nat.reduceEqDiff, Nat.reduceLT, Nat.reduceLeDiff, Int.toNat_natCast, Int.reduceToNat, reduceCtorEq, false_and, and_false, true_and, and_true, and_self, reduceIte]
          try rw [Int.toNat_natCast]
          refine b_iald rfl rfl (by omega) (by omega) ?_
          try simp only [tn6, tn4, tn2, tn144, tn24, tn_cast, Int.reduceToNat]
          rw [MXc (by decide)]
          try simp only [up_ap, cpy_ap, fil_ap, row_ap, Nat.reduceEqDiff, Nat.reduceLT, Nat.reduceLeDiff, Int.toNat_natCast, Int.reduceToNat, reduceCtorEq, false_and, and_false, true_and, and_true, and_self, reduceIte]
          try rw [Int.toNat_natCast]
          rw [ha.2.1]
          refine b_iconst rfl (by decide) ?_
          refine b_callV2v (ν := MX12_add) rfl ml12_329 cvX12_add (d' := 0) (by omega) rfl (by decide) rfl (Nat.le_of_ble_eq_true rfl) ?_
          refine mc_add (v := v) hD hm (by omega) (Or.inr (Or.inr ⟨ha.2.2.2.1, rfl⟩)) (fun K2 hR2 h2q => ?_)
          refine ⟨rfl, ?_⟩
          refine g60 K2 hR2 ?_
          rw [h2q 83 (by decide), up_ap, if_neg (by omega)]
          exact ha.2.1
    · have eT : joT l (v :: os) = [] := by
        unfold joT
        rw [List.takeWhile_cons, if_neg (by rw [decide_eq_true_eq]; exact hr)]
      have eD : joD l (v :: os) = v :: os := by
        unfold joD
        rw [List.dropWhile_cons, if_neg (by rw [decide_eq_true_eq]; exact hr)]
      rw [eT, eD, List.append_nil] at kq
      have kk := kq K (by
        rw [show o - ((ntO ([] : List Int) : Nat) : Int) = o from Int.sub_zero o]
        exact hR')
      refine b_aload_n rfl rfl ?_
      refine b_getI rfl fl12_146 rfl (by decide) rfl ?_
      rw [MXo (by decide)]
      rw [h4]
      refine b_aload_n rfl rfl ?_
      refine b_getR (r := 82) rfl fl12_134 rfl (by decide) rfl rfl ?_
      refine b_aload_n rfl rfl ?_
      refine b_getI rfl fl12_137 rfl (by decide) rfl ?_
      rw [MXo (by decide)]
      rw [h3]
      refine b_iconst rfl (by decide) ?_
      refine b_isubN rfl (by omega) (by omega) ?_
      refine b_iald rfl rfl (by omega) (by omega) ?_
      try simp only [tn6, tn4, tn2, tn144, tn24, tn_cast, Int.reduceToNat]
      rw [MXc (by decide)]
      try rw [ez]
      rw [a6]
      refine b_icmp_le (tgt := 87) rfl rfl (fun c15 => ?_) (fun c15 => ?_)
      · omega
      · refine b_aload_n rfl rfl ?_
        refine b_getR (r := 83) rfl fl12_143 rfl (by decide) rfl rfl ?_
        refine b_aload_n rfl rfl ?_
        refine b_getI rfl fl12_146 rfl (by decide) rfl ?_
        rw [MXo (by decide)]
        rw [h4]
        refine b_iconst rfl (by decide) ?_
        refine b_isubN rfl (by omega) (by omega) ?_
        refine b_iald rfl rfl (by omega) (by omega) ?_
        try simp only [tn6, tn4, tn2, tn144, tn24, tn_cast, Int.reduceToNat]
        rw [MXc (by decide)]
        try rw [ez2]
        rw [ha.2.1]
        refine b_callS1i (ν := MX12_rank) rfl ml12_326 csX12_rank (d' := 0) (by omega) (Nat.le_of_ble_eq_true rfl) ?_
        refine spr_rank ha.2.2 ?_
        refine ⟨_, rfl, ?_⟩
        refine b_iload_n rfl rfl ?_
        refine b_icmp_lt (tgt := 87) rfl rfl (fun c33 => ?_) (fun c33 => ?_)
        · refine b_vret rfl rfl ?_
          exact kk
        · omega
end MJO
