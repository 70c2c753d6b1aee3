/-! ===== the reference: begin ===== -/
def bg1 (X : HI) (m c : Nat) : Nat → Int := fun j => if j < c then X 65 (6 * m + j) else -1
def bg2 (X : HI) (m c : Nat) : Nat → Int := fun j => if j < 24 * c then X 66 (144 * m + j) else 0
def begM (X : HI) (m c : Nat) : HI := up (up (up (up (fil (fil (up X 85 0 0) 86 6 (bg1 X m c)) 87 144 (bg2 X m c)) 88 0 0) 57 53 0) 57 63 0) 57 66 0
theorem sp_begin {X : HI} {m c : Nat} {Q : Option AV → HI → Prop} (hm : m < 2) (hc : c ≤ 6) (h13 : X 57 13 = (m : Int)) (h62 : X 62 m = (c : Int)) (kq : Q none (begM X m c)) : Rj MX12_begin 0 [aR 57] X Q := by
  refine rj_of okX12_begin (Nat.le_of_ble_eq_true rfl) rfl ?_
  have lp2 : ∀ (g i : Nat) (z : Int) (Y : HI), (∀ q j, q ≠ 85 → q ≠ 86 → Y q j = X q j) → z = (i : Int) → i + g = 144 → (Q none (up (up (up (up (fil Y 87 144 (bg2 X m c)) 88 0 0) 57 53 0) 57 63 0) 57 66 0)) → Bj MX12_begin 0 60 [some (aR 57), some (aI z)] [] (fil Y 87 i (bg2 X m c)) Q := by
    intro g
    induction g with
    | zero =>
      intro i z Y hY hz hg kk
      have ei : i = 144 := by omega
      subst ei
      refine b_iload_n rfl rfl ?_
      refine b_sipush rfl (by decide) ?_
      refine b_icmp_ge (tgt := 114) rfl rfl (fun c64 => ?_) (fun c64 => ?_)
      · refine b_aload_n rfl rfl ?_
        refine b_getR (r := 88) rfl fl12_165 rfl (by decide) rfl rfl ?_
        refine b_iconst rfl (by decide) ?_
        refine b_iconst rfl (by decide) ?_
        refine b_iastL (k := 0) rfl rfl rfl (by decide) ?_
        try simp only [tn6, tn4, tn2, tn144, tn24, tn_cast, Int.reduceToNat]
        refine b_aload_n rfl rfl ?_
        refine b_iconst rfl (by decide) ?_
        refine b_putI rfl fl12_174 rfl (by decide) rfl ?_
        refine b_aload_n rfl rfl ?_
        refine b_iconst rfl (by decide) ?_
        refine b_putI rfl fl12_204 rfl (by decide) rfl ?_
        refine b_aload_n rfl rfl ?_
        refine b_iconst rfl (by decide) ?_
        refine b_putI rfl fl12_213 rfl (by decide) rfl ?_
        refine b_vret rfl rfl ?_
        exact kk
      · omega
    | succ g ih =>
      intro i z Y hY hz hg kk
      have ez : z.toNat = i := by omega
      have e13 : fil Y 87 i (bg2 X m c) 57 13 = (m : Int) := by rw [fil_ap, if_neg (by omega), hY 57 13 (by decide) (by decide)]; exact h13
      have e62 : fil Y 87 i (bg2 X m c) 62 m = (c : Int) := by rw [fil_ap, if_neg (by omega), hY 62 m (by decide) (by decide)]; exact h62
      have e66 : fil Y 87 i (bg2 X m c) 66 (144 * m + i) = X 66 (144 * m + i) := by rw [fil_ap, if_neg (by omega), hY 66 _ (by decide) (by decide)]
      have ez2 : (144 * (m : Int) + z).toNat = 144 * m + i := by omega
      refine b_iload_n rfl rfl ?_
      refine b_sipush rfl (by decide) ?_
      refine b_icmp_ge (tgt := 114) rfl rfl (fun c64 => ?_) (fun c64 => ?_)
      · omega
      · refine b_aload_n rfl rfl ?_
        refine b_getR (r := 87) rfl fl12_162 rfl (by decide) rfl rfl ?_
        refine b_iload_n rfl rfl ?_
        refine b_iload_n rfl rfl ?_
        refine b_bipush rfl (by decide) ?_
        refine b_aload_n rfl rfl ?_
        refine b_getR (r := 62) rfl fl12_63 rfl (by decide) rfl rfl ?_
        refine b_aload_n rfl rfl ?_
        refine b_getI rfl fl12_51 rfl (by decide) rfl ?_
        rw [e13]
        refine b_iald rfl rfl (by omega) (by omega) ?_
        try simp only [tn6, tn4, tn2, tn144, tn24, tn_cast, Int.reduceToNat]
        try rw [Int.toNat_natCast]
        rw [e62]
        refine b_imulN rfl (by omega) (by omega) ?_
        refine b_icmp_ge (tgt := 106) rfl rfl (fun c85 => ?_) (fun c85 => ?_)
        · refine b_iconst rfl (by decide) ?_
          refine b_iast rfl rfl (by omega) (by omega) ?_
          try simp only [tn6, tn4, tn2, tn144, tn24, tn_cast, Int.reduceToNat]
          refine b_iincX (F := fun z108 => [some (aR 57), some (aI z108)]) rfl rfl (by omega) (by omega) (fun _ => rfl) (fun z108 ez108 => ?_)
          refine b_goto (tgt := 60) rfl rfl ?_
          try rw [ez]
          first
          | (have hl : i < 24 * c := by omega
             rw [show X 66 (144 * m + i) = bg2 X m c i from (if_pos hl).symm, fil_up]
             exact ih (i + 1) _ Y hY (by omega) (by omega) kk)
          | (have hl : ¬ i < 24 * c := by omega
             rw [show (0 : Int) = bg2 X m c i from (if_neg hl).symm, fil_up]
             exact ih (i + 1) _ Y hY (by omega) (by omega) kk)
        · refine b_aload_n rfl rfl ?_
          refine b_getR (r := 66) rfl fl12_75 rfl (by decide) rfl rfl ?_
          refine b_sipush rfl (by decide) ?_
          refine b_aload_n rfl rfl ?_
          refine b_getI rfl fl12_51 rfl (by decide) rfl ?_
          rw [e13]
          refine b_imulN rfl (by omega) (by omega) ?_
          refine b_iload_n rfl rfl ?_
          refine b_iaddN rfl (by omega) (by omega) ?_
          refine b_iald rfl rfl (by omega) (by omega) ?_
          try simp only [tn6, tn4, tn2, tn144, tn24, tn_cast, Int.reduceToNat]
          try rw [ez2]
          rw [e66]
          refine b_goto (tgt := 107) rfl rfl ?_
          refine b_iast rfl rfl (by omega) (by omega) ?_
          try simp only [tn6, tn4, tn2, tn144, tn24, tn_cast, Int.reduceToNat]
          refine b_iincX (F := fun z108 => [some (aR 57), some (aI z108)]) rfl rfl (by omega) (by omega) (fun _ => rfl) (fun z108 ez108 => ?_)
          refine b_goto (tgt := 60) rfl rfl ?_
          try rw [ez]
          first
          | (have hl : i < 24 * c := by omega
             rw [show X 66 (144 * m + i) = bg2 X m c i from (if_pos hl).symm, fil_up]
             exact ih (i + 1) _ Y hY (by omega) (by omega) kk)
          | (have hl : ¬ i < 24 * c := by omega
             rw [show (0 : Int) = bg2 X m c i from (if_neg hl).symm, fil_up]
             exact ih (i + 1) _ Y hY (by omega) (by omega) kk)
  have lp1 : ∀ (g i : Nat) (z : Int) (Y : HI), (∀ q j, q ≠ 85 → Y q j = X q j) → z = (i : Int) → i + g = 6 → (Q none (up (up (up (up (fil (fil Y 86 6 (bg1 X m c)) 87 144 (bg2 X m c)) 88 0 0) 57 53 0) 57 63 0) 57 66 0)) → Bj MX12_begin 0 9 [some (aR 57), some (aI z)] [] (fil Y 86 i (bg1 X m c)) Q := by
    intro g
    induction g with
    | zero =>
      intro i z Y hY hz hg kk
      have ei : i = 6 := by omega
      subst ei
      refine b_iload_n rfl rfl ?_
      refine b_bipush rfl (by decide) ?_
      refine b_icmp_ge (tgt := 58) rfl rfl (fun c12 => ?_) (fun c12 => ?_)
      · refine b_iconst rfl (by decide) ?_
        refine b_istoreX_n (F := fun z59 => [some (aR 57), some (aI z59)]) rfl (by decide) (fun _ => rfl) (fun z59 ez59 => ?_)
        refine b_eq rfl rfl (fil_0 (c := 87) (f := bg2 X m c)).symm ?_
        exact lp2 144 0 _ _ (fun q j a b => by rw [fil_ap, if_neg (by omega)]; exact hY q j a) (by omega) rfl kk
      · omega
    | succ g ih =>
      intro i z Y hY hz hg kk
      have ez : z.toNat = i := by omega
      have e13 : fil Y 86 i (bg1 X m c) 57 13 = (m : Int) := by rw [fil_ap, if_neg (by omega), hY 57 13 (by decide)]; exact h13
      have e62 : fil Y 86 i (bg1 X m c) 62 m = (c : Int) := by rw [fil_ap, if_neg (by omega), hY 62 m (by decide)]; exact h62
      have e65 : fil Y 86 i (bg1 X m c) 65 (6 * m + i) = X 65 (6 * m + i) := by rw [fil_ap, if_neg (by omega), hY 65 _ (by decide)]
      have ez2 : (6 * (m : Int) + z).toNat = 6 * m + i := by omega
      refine b_iload_n rfl rfl ?_
      refine b_bipush rfl (by decide) ?_
      refine b_icmp_ge (tgt := 58) rfl rfl (fun c12 => ?_) (fun c12 => ?_)
      · omega
      · refine b_aload_n rfl rfl ?_
        refine b_getR (r := 86) rfl fl12_159 rfl (by decide) rfl rfl ?_
        refine b_iload_n rfl rfl ?_
        refine b_iload_n rfl rfl ?_
        refine b_aload_n rfl rfl ?_
        refine b_getR (r := 62) rfl fl12_63 rfl (by decide) rfl rfl ?_
        refine b_aload_n rfl rfl ?_
        refine b_getI rfl fl12_51 rfl (by decide) rfl ?_
        rw [e13]
        refine b_iald rfl rfl (by omega) (by omega) ?_
        try simp only [tn6, tn4, tn2, tn144, tn24, tn_cast, Int.reduceToNat]
        try rw [Int.toNat_natCast]
        rw [e62]
        refine b_icmp_ge (tgt := 50) rfl rfl (fun c30 => ?_) (fun c30 => ?_)
        · refine b_iconst rfl (by decide) ?_
          refine b_iast rfl rfl (by omega) (by omega) ?_
          try simp only [tn6, tn4, tn2, tn144, tn24, tn_cast, Int.reduceToNat]
          refine b_iincX (F := fun z52 => [some (aR 57), some (aI z52)]) rfl rfl (by omega) (by omega) (fun _ => rfl) (fun z52 ez52 => ?_)
          refine b_goto (tgt := 9) rfl rfl ?_
          try rw [ez]
          first
          | (have hl : i < c := by omega
             rw [show X 65 (6 * m + i) = bg1 X m c i from (if_pos hl).symm, fil_up]
             exact ih (i + 1) _ Y hY (by omega) (by omega) kk)
          | (have hl : ¬ i < c := by omega
             rw [show (-1 : Int) = bg1 X m c i from (if_neg hl).symm, fil_up]
             exact ih (i + 1) _ Y hY (by omega) (by omega) kk)
        · refine b_aload_n rfl rfl ?_
          refine b_getR (r := 65) rfl fl12_72 rfl (by decide) rfl rfl ?_
          refine b_bipush rfl (by decide) ?_
          refine b_aload_n rfl rfl ?_
          refine b_getI rfl fl12_51 rfl (by decide) rfl ?_
          rw [e13]
          refine b_imulN rfl (by omega) (by omega) ?_
          refine b_iload_n rfl rfl ?_
          refine b_iaddN rfl (by omega) (by omega) ?_
          refine b_iald rfl rfl (by omega) (by omega) ?_
          try simp only [tn6, tn4, tn2, tn144, tn24, tn_cast, Int.reduceToNat]
          try rw [ez2]
          rw [e65]
          refine b_goto (tgt := 51) rfl rfl ?_
          refine b_iast rfl rfl (by omega) (by omega) ?_
          try simp only [tn6, tn4, tn2, tn144, tn24, tn_cast, Int.reduceToNat]
          refine b_iincX (F := fun z52 => [some (aR 57), some (aI z52)]) rfl rfl (by omega) (by omega) (fun _ => rfl) (fun z52 ez52 => ?_)
          refine b_goto (tgt := 9) rfl rfl ?_
          try rw [ez]
          first
          | (have hl : i < c := by omega
             rw [show X 65 (6 * m + i) = bg1 X m c i from (if_pos hl).symm, fil_up]
             exact ih (i + 1) _ Y hY (by omega) (by omega) kk)
          | (have hl : ¬ i < c := by omega
             rw [show (-1 : Int) = bg1 X m c i from (if_neg hl).symm, fil_up]
             exact ih (i + 1) _ Y hY (by omega) (by omega) kk)
  refine b_aload_n rfl rfl ?_
  refine b_getR (r := 85) rfl fl12_156 rfl (by decide) rfl rfl ?_
  refine b_iconst rfl (by decide) ?_
  refine b_iconst rfl (by decide) ?_
  refine b_iastL (k := 0) rfl rfl rfl (by decide) ?_
  try simp only [tn6, tn4, tn2, tn144, tn24, tn_cast, Int.reduceToNat]
  refine b_iconst rfl (by decide) ?_
  refine b_istoreX_n (F := fun z8 => [some (aR 57), some (aI z8)]) rfl (by decide) (fun _ => rfl) (fun z8 ez8 => ?_)
  refine b_eq rfl rfl (fil_0 (c := 86) (f := bg1 X m c)).symm ?_
  exact lp1 6 0 _ _ (fun q j a => by rw [up_ap, if_neg (by omega)]) (by omega) rfl kq
