/-! ===== the reference: image ===== -/
def FO (K I : HI) : Prop := (∀ q, q ≠ 57 → q ≠ 98 → I q = K q) ∧ (∀ j, j ≠ 70 → I 57 j = K 57 j)
theorem FO.tr {K I I' : HI} (h : FO K I) (h2 : FO I I') : FO K I' := ⟨fun q a b => (h2.1 q a b).trans (h.1 q a b), fun j a => (h2.2 j a).trans (h.2 j a)⟩
theorem MN.fo {J K I : HI} {C : Nat → List Int} {b : Nat} (h : MN J K C b) (h2 : FO K I) : MN J I C b :=
  ⟨h.1.to (h2.2 13 (by omega)) (fun q hq => h2.1 q (by unfold mcell at hq; omega) (by unfold mcell at hq; omega)), fun k => by rw [h2.1 91 (by decide) (by decide)]; exact h.2.1 k, h.2.2.1, SR_to h.2.2.2.1 (h2.1 85 (by decide) (by decide)) (h2.1 86 (by decide) (by decide)) (h2.1 87 (by decide) (by decide)) (h2.1 88 (by decide) (by decide)) (h2.1 89 (by decide) (by decide)) (shp_of (h2.1 62 (by decide) (by decide)) (h2.2 13 (by omega))), h.2.2.2.2⟩
def OUT (I H : HI) (n : Nat) : Prop := I 57 70 = (n : Int) ∧ ∀ j, j < n → I 98 j = H 56 j
theorem spm_writes {I H : HI} {Q : Option AV → HI → Prop} {n : Nat} {v : Int} (hO : OUT I H n) (hn : n < 160) (hv : 0 ≤ v ∧ v < 256) (kq : ∀ I', FO I I' → OUT I' (up H 56 n v) (n + 1) → Q none I') : Rj MX12_writes 0 [aR 57, aI v] I Q := by
  have h1 := hO.1
  refine rj_of okX12_writes (Nat.le_of_ble_eq_true rfl) rfl ?_
  refine b_aload_n rfl rfl ?_
  refine b_getR (r := 98) rfl fl12_222 rfl (by decide) rfl rfl ?_
  refine b_aload_n rfl rfl ?_
  refine b_getI rfl fl12_225 rfl (by decide) rfl ?_
  rw [h1]
  refine b_iload_n rfl rfl ?_
  refine b_sipush rfl (by decide) ?_
  refine b_iand rfl ?_
  rw [iAnd_255, show v % 256 = v by omega]
  refine b_iast rfl rfl (by omega) (by omega) ?_
  try simp only [tn6, tn4, tn2, tn144, tn24, tn_cast, Int.reduceToNat]
  refine b_aload_n rfl rfl ?_
  refine b_dup rfl rfl ?_
  refine b_getI rfl fl12_225 rfl (by decide) rfl ?_
  rw [show up I 98 n v 57 70 = (n : Int) from h1]
  refine b_iconst rfl (by decide) ?_
  refine b_iaddN rfl (by omega) (by omega) ?_
  refine b_putI rfl fl12_225 rfl (by decide) rfl ?_
  refine b_vret rfl rfl ?_
  refine kq _ ⟨fun q a b => by rw [up_cell a, up_cell b], fun j hj => by rw [up_n (by omega), up_cell (by decide)]⟩ ⟨by rw [up_s]; omega, fun j hj => ?_⟩
  rw [up_cell (by decide), up_ap, up_ap]
  by_cases e : j = n
  · rw [if_pos ⟨rfl, e⟩, if_pos ⟨rfl, e⟩]
  · rw [if_neg (by omega), if_neg (by omega)]; exact hO.2 j (by omega)
theorem spm_writes1 {I H : HI} {Q : Option AV → HI → Prop} {n : Nat} {v : Int} (hO : OUT I H n) (hn : n < 160) (hv : 0 ≤ v) (kq : ∀ I', FO I I' → OUT I' (up H 56 n (v % 256)) (n + 1) → Q none I') : Rj MX12_writes 0 [aR 57, aI v] I Q := by
  have h1 := hO.1
  refine rj_of okX12_writes (Nat.le_of_ble_eq_true rfl) rfl ?_
  refine b_aload_n rfl rfl ?_
  refine b_getR (r := 98) rfl fl12_222 rfl (by decide) rfl rfl ?_
  refine b_aload_n rfl rfl ?_
  refine b_getI rfl fl12_225 rfl (by decide) rfl ?_
  rw [h1]
  refine b_iload_n rfl rfl ?_
  refine b_sipush rfl (by decide) ?_
  refine b_iand rfl ?_
  rw [iAnd_255]
  refine b_iast rfl rfl (by omega) (by omega) ?_
  try simp only [tn6, tn4, tn2, tn144, tn24, tn_cast, Int.reduceToNat]
  refine b_aload_n rfl rfl ?_
  refine b_dup rfl rfl ?_
  refine b_getI rfl fl12_225 rfl (by decide) rfl ?_
  rw [show up I 98 n (v % 256) 57 70 = (n : Int) from h1]
  refine b_iconst rfl (by decide) ?_
  refine b_iaddN rfl (by omega) (by omega) ?_
  refine b_putI rfl fl12_225 rfl (by decide) rfl ?_
  refine b_vret rfl rfl ?_
  refine kq _ ⟨fun q a b => by rw [up_cell a, up_cell b], fun j hj => by rw [up_n (by omega), up_cell (by decide)]⟩ ⟨by rw [up_s]; omega, fun j hj => ?_⟩
  rw [up_cell (by decide), up_ap, up_ap]
  by_cases e : j = n
  · rw [if_pos ⟨rfl, e⟩, if_pos ⟨rfl, e⟩]
  · rw [if_neg (by omega), if_neg (by omega)]; exact hO.2 j (by omega)
/-- shift by eight -/
theorem shr8 {x : Int} (h : 0 ≤ x ∧ x ≤ 9999) : iShr x 8 = x / 256 := iShr_p 8 (by unfold in32; omega) (by decide)
theorem spq_image {J K : HI} {Q : Option AV → HI → Prop} {C : Nat → List Int} {b : Nat} (hM : MN J K C b) (kq : ∀ K', FO K K' → RWr (imgS J) K' → Q (some (aI (iLn J (nS J) : Int))) K') : Rj MX12_image 1 [aR 57] K Q := by
  have hR := hM.1
  have hp := hR.2.2.2.2.2.2.2.2.2
  have hb2 := hR.2.1
  have r := hM.2.2.1.2.2.1
  obtain ⟨n6, n1⟩ := nS_in hp
  obtain ⟨w6, w1⟩ := nW_in hp
  have hLn := fun n h => iLn_in hp n h
  have fin : ∀ I, FO K I → OUT I (up (imgF J) 56 (iLn J (nS J) - 1) (imS (imgF J 56) (iLn J (nS J) - 1))) (iLn J (nS J)) → Q (some (aI (iLn J (nS J) : Int))) I := by
    intro I f o
    have := hLn (nS J) (by omega)
    refine kq I f ⟨?_, ?_, ?_, fun k hk => ?_⟩
    · rw [o.1]; unfold imgS; exact up_s.symm
    · show 0 ≤ up _ 0 12 _ 0 12; rw [up_s]; omega
    · show up _ 0 12 _ 0 12 ≤ 153; rw [up_s]; omega
    · have hk' : (k : Int) < up (up (imgF J) 56 (iLn J (nS J) - 1) (imS (imgF J 56) (iLn J (nS J) - 1))) 0 12 (iLn J (nS J)) 0 12 := hk
      rw [up_s] at hk'
      rw [o.2 k (by omega)]
      unfold imgS
      rw [up_cell (by decide : 56 ≠ 0)]
  have sum : ∀ (n i : Nat) (y z : Int) (x3 : Option AV) (I : HI), FO K I → OUT I (imgF J) (iLn J (nS J) - 1) → z = (i : Int) → i + n = iLn J (nS J) - 1 → y = imS (imgF J 56) i → (∀ j, 0 ≤ I 98 j ∧ I 98 j ≤ 255 ∨ iLn J (nS J) - 1 ≤ j) → Bj MX12_image 1 130 [some (aR 57), some (aI y), some (aI z), x3] [] I Q := by
    intro n
    induction n with
    | zero =>
      intro i y z x3 I f o hz hi hy hb
      have o1 := o.1
      have ei : i = iLn J (nS J) - 1 := by omega
      subst ei
      have hl := hLn (nS J) (by omega)
      have hs := imS_in (f := imgF J 56) (iLn J (nS J) - 1)
      refine b_iload_n rfl rfl ?_
      refine b_aload_n rfl rfl ?_
      refine b_getI rfl fl12_225 rfl (by decide) rfl ?_
      first | rw [o1] | rw [o2.1]
      refine b_icmp_ge (tgt := 159) rfl rfl (fun c135 => ?_) (fun c135 => ?_)
      · refine b_aload_n rfl rfl ?_
        refine b_iload_n rfl rfl ?_
        refine b_callV1v (ν := MX12_writes) rfl ml12_588 cvX12_writes (d' := 0) (by omega) rfl (by decide) rfl (Nat.le_of_ble_eq_true rfl) ?_
        refine spm_writes o (by omega) (by omega) (fun I2 f2 o2 => ?_)
        rw [hy, show iLn J (nS J) - 1 + 1 = iLn J (nS J) by omega] at o2
        refine ⟨rfl, ?_⟩
        refine b_aload_n rfl rfl ?_
        refine b_getI rfl fl12_225 rfl (by decide) rfl ?_
        first | rw [o1] | rw [o2.1]
        refine b_iret rfl rfl ?_
        exact fin I2 (f.tr f2) o2
      · omega
    | succ n ih =>
      intro i y z x3 I f o hz hi hy hb
      subst hz
      have o1 := o.1
      have oi := o.2 i (by omega)
      have hbi := hb i
      have hs := imS_in (f := imgF J 56) i
      have hl := hLn (nS J) (by omega)
      refine b_iload_n rfl rfl ?_
      refine b_aload_n rfl rfl ?_
      refine b_getI rfl fl12_225 rfl (by decide) rfl ?_
      rw [o1]
      refine b_icmp_ge (tgt := 159) rfl rfl (fun c135 => ?_) (fun c135 => ?_)
      · omega
      · refine b_iconst rfl (by decide) ?_
        refine b_iload_n rfl rfl ?_
        refine b_imulN rfl (by omega) (by omega) ?_
        refine b_aload_n rfl rfl ?_
        refine b_getR (r := 98) rfl fl12_222 rfl (by decide) rfl rfl ?_
        refine b_iload_n rfl rfl ?_
        refine b_iald rfl rfl (by omega) (by omega) ?_
        try simp only [tn6, tn4, tn2, tn144, tn24, tn_cast, Int.reduceToNat]
        refine b_iaddN rfl (by omega) (by omega) ?_
        refine b_sipush rfl (by decide) ?_
        refine b_iremP rfl (by omega) (by omega) ?_
        refine b_istoreX_n (F := fun z152 => [some (aR 57), some (aI z152), some (aI (i : Int)), x3]) rfl (by decide) (fun _ => rfl) (fun z152 ez152 => ?_)
        refine b_iincX (F := fun z153 => [some (aR 57), some (aI z152), some (aI z153), x3]) rfl rfl (by omega) (by omega) (fun _ => rfl) (fun z153 ez153 => ?_)
        refine b_goto (tgt := 130) rfl rfl ?_
        refine ih (i + 1) _ _ _ I f o (by omega) (by omega) ?_ hb
        rw [ez152, hy, oi]
        rfl
  have ships : ∀ (n i : Nat) (z : Int) (x2 x3 : Option AV) (I : HI), FO K I → OUT I (imO J i) (iLn J i - 1) → (∀ j, j < iLn J i - 1 → 0 ≤ I 98 j ∧ I 98 j ≤ 255) → z = (i : Int) → i + n = nS J → Bj MX12_image 1 30 [some (aR 57), some (aI z), x2, x3] [] I Q := by
    intro n
    induction n with
    | zero =>
      intro i z x2 x3 I f o hb hz hi
      have hMI := hM.fo f
      have hbI := hMI.1.1
      have q62 := hMI.1.2.2.2.1
      have ei : i = nS J := by omega
      subst ei
      refine b_iload_n rfl rfl ?_
      refine b_aload_n rfl rfl ?_
      refine b_getR (r := 62) rfl fl12_63 rfl (by decide) rfl rfl ?_
      refine b_aload_n rfl rfl ?_
      refine b_getI rfl fl12_51 rfl (by decide) rfl ?_
      rw [hbI]
      refine b_iald rfl rfl (by omega) (by omega) ?_
      try simp only [tn6, tn4, tn2, tn144, tn24, tn_cast, Int.reduceToNat]
      rw [q62]
      refine b_icmp_ge (tgt := 124) rfl rfl (fun c40 => ?_) (fun c40 => ?_)
      · refine b_sipush rfl (by decide) ?_
        refine b_istoreX_n (F := fun z127 => [some (aR 57), some (aI z127), x2, x3]) rfl (by decide) (fun _ => rfl) (fun z127 ez127 => ?_)
        refine b_iconst rfl (by decide) ?_
        refine b_istoreX_n (F := fun z129 => [some (aR 57), some (aI z127), some (aI z129), x3]) rfl (by decide) (fun _ => rfl) (fun z129 ez129 => ?_)
        refine sum (iLn J (nS J) - 1) 0 _ _ _ I f o (by omega) (by omega) (by rw [ez127]; rfl) (fun j => ?_)
        by_cases e : j < iLn J (nS J) - 1
        · exact Or.inl (hb j e)
        · exact Or.inr (by omega)
      · omega
    | succ n ih =>
      intro i z x2 x3 I f o hb hz hi
      subst hz
      have hs : (i : Int) < J 4 1 := by omega
      obtain ⟨h1, h2, h3⟩ := nH_in hp hs
      have hl := hLn i (by omega)
      have hco := cO_in hp hs
      have hlie := lies_in hM.2.2.1 hs
      have nxL : iLn J (i + 1) = iLn J i + (1 + cO J i) := rfl
      have hcd : cO J i = nH J i * nW J := rfl
      have holds : ∀ (m h : Nat) (z : Int) (x3 : Option AV) (I : HI), FO K I → OUT I (imI J i (iLn J i - 1) (imO J i) (h * nW J)) (iLn J i + h * nW J) → (∀ j, j < iLn J i + h * nW J → 0 ≤ I 98 j ∧ I 98 j ≤ 255) → z = (h : Int) → h + m = nH J i → Bj MX12_image 1 57 [some (aR 57), some (aI (i : Int)), some (aI z), x3] [] I Q := by
        intro m
        induction m with
        | zero =>
          intro h z x3 I f o hb hz hh
          have hMI := hM.fo f
          have hbI := hMI.1.1
          have q63 := (hMI.1.2.2.2.2.2.2.1 i hs).1
          have eh : h = nH J i := by omega
          subst eh
          refine b_iload_n rfl rfl ?_
          refine b_aload_n rfl rfl ?_
          refine b_getR (r := 63) rfl fl12_66 rfl (by decide) rfl rfl ?_
          refine b_bipush rfl (by decide) ?_
          refine b_aload_n rfl rfl ?_
          refine b_getI rfl fl12_51 rfl (by decide) rfl ?_
          rw [hbI]
          refine b_imulN rfl (by omega) (by omega) ?_
          refine b_iload_n rfl rfl ?_
          refine b_iaddN rfl (by omega) (by omega) ?_
          refine b_iald rfl rfl (by omega) (by omega) ?_
          try simp only [tn6, tn4, tn2, tn144, tn24, tn_cast, Int.reduceToNat]
          rw [q63]
          refine b_icmp_ge (tgt := 118) rfl rfl (fun c72 => ?_) (fun c72 => ?_)
          · refine b_iincX (F := fun z118 => [some (aR 57), some (aI z118), some (aI z), x3]) rfl rfl (by omega) (by omega) (fun _ => rfl) (fun z118 ez118 => ?_)
            refine b_goto (tgt := 30) rfl rfl ?_
            refine ih (i + 1) _ _ _ I f ?_ (fun j hj => hb j (by omega)) (by omega) (by omega)
            rw [show iLn J (i + 1) - 1 = iLn J i + nH J i * nW J by omega]
            exact o
          · omega
        | succ m ihm =>
          intro h z x3 I f o hb hz hh
          subst hz
          have hMI0 := hM.fo f
          have hbI0 := hMI0.1.1
          have q630 := (hMI0.1.2.2.2.2.2.2.1 i hs).1
          have hmul : (h + 1) * nW J ≤ nH J i * nW J := Nat.mul_le_mul_right _ (by omega)
          rw [Nat.add_mul, Nat.one_mul] at hmul
          have wares : ∀ (m w : Nat) (z : Int) (I : HI), FO K I → OUT I (imI J i (iLn J i - 1) (imO J i) (h * nW J + w)) (iLn J i + (h * nW J + w)) → (∀ j, j < iLn J i + (h * nW J + w) → 0 ≤ I 98 j ∧ I 98 j ≤ 255) → z = (w : Int) → w + m = nW J → Bj MX12_image 1 77 [some (aR 57), some (aI (i : Int)), some (aI (h : Int)), some (aI z)] [] I Q := by
            intro m
            induction m with
            | zero =>
              intro w z I f o hb hz hw
              have hMI := hM.fo f
              have hbI := hMI.1.1
              have q59 := hMI.1.2.2.1
              have ew : w = nW J := by omega
              subst ew
              have em : (h + 1) * nW J = h * nW J + nW J := by rw [Nat.add_mul, Nat.one_mul]
              refine b_iload_n rfl rfl ?_
              refine b_aload_n rfl rfl ?_
              refine b_getR (r := 59) rfl fl12_54 rfl (by decide) rfl rfl ?_
              refine b_aload_n rfl rfl ?_
              refine b_getI rfl fl12_51 rfl (by decide) rfl ?_
              rw [hbI]
              refine b_iald rfl rfl (by omega) (by omega) ?_
              try simp only [tn6, tn4, tn2, tn144, tn24, tn_cast, Int.reduceToNat]
              rw [q59]
              refine b_icmp_ge (tgt := 112) rfl rfl (fun c87 => ?_) (fun c87 => ?_)
              · refine b_iincX (F := fun z112 => [some (aR 57), some (aI (i : Int)), some (aI z112), some (aI z)]) rfl rfl (by omega) (by omega) (fun _ => rfl) (fun z112 ez112 => ?_)
                refine b_goto (tgt := 57) rfl rfl ?_
                refine ihm (h + 1) _ _ I f ?_ ?_ (by omega) (by omega)
                · rw [em]; exact o
                · rw [em]; exact hb
              · omega
            | succ m ihw =>
              intro w z I f o hb hz hw
              subst hz
              have hMI := hM.fo f
              have hbI := hMI.1.1
              have q59 := hMI.1.2.2.1
              have q87 := hMI.2.2.2.1.2.2.1 (24 * i + 6 * h + w) (by omega)
              rw [Nat.mul_zero, Nat.zero_add] at q87
              have hc := hM.2.2.1.2.2.2.1 (24 * i + 6 * h + w)
              have eci : cI J i (h * nW J + w) = 24 * i + 6 * h + w := by
                have e1 : (h * nW J + w) / nW J = h := by
                  rw [Nat.add_comm, Nat.add_mul_div_right _ _ (by omega), Nat.div_eq_of_lt (by omega), Nat.zero_add]
                have e2 : (h * nW J + w) % nW J = w := by
                  rw [Nat.add_comm, Nat.add_mul_mod_self_right, Nat.mod_eq_of_lt (by omega)]
                unfold cI
                rw [e1, e2]
              generalize hhw : h * nW J = hw0 at *
              refine b_iload_n rfl rfl ?_
              refine b_aload_n rfl rfl ?_
              refine b_getR (r := 59) rfl fl12_54 rfl (by decide) rfl rfl ?_
              refine b_aload_n rfl rfl ?_
              refine b_getI rfl fl12_51 rfl (by decide) rfl ?_
              rw [hbI]
              refine b_iald rfl rfl (by omega) (by omega) ?_
              try simp only [tn6, tn4, tn2, tn144, tn24, tn_cast, Int.reduceToNat]
              rw [q59]
              refine b_icmp_ge (tgt := 112) rfl rfl (fun c87 => ?_) (fun c87 => ?_)
              · omega
              · refine b_aload_n rfl rfl ?_
                refine b_aload_n rfl rfl ?_
                refine b_getR (r := 87) rfl fl12_162 rfl (by decide) rfl rfl ?_
                refine b_aload_n rfl rfl ?_
                refine b_iload_n rfl rfl ?_
                refine b_iload_n rfl rfl ?_
                refine b_iload_n rfl rfl ?_
                refine b_callV3i (ν := MX12_at) rfl ml12_460 cvX12_at (d' := 0) (by omega) rfl (by decide) rfl (Nat.le_of_ble_eq_true rfl) ?_
                refine spm_at (by omega) (by omega) (by omega) ?_
                refine ⟨_, rfl, ?_⟩
                refine b_iald rfl rfl (by omega) (by omega) ?_
                try simp only [tn6, tn4, tn2, tn144, tn24, tn_cast, Int.reduceToNat]
                rw [q87]
                refine b_callV1v (ν := MX12_writes) rfl ml12_588 cvX12_writes (d' := 0) (by omega) rfl (by decide) rfl (Nat.le_of_ble_eq_true rfl) ?_
                refine spm_writes o (by omega) (by omega) (fun I2 f2 o2 => ?_)
                refine ⟨rfl, ?_⟩
                refine b_iincX (F := fun z106 => [some (aR 57), some (aI (i : Int)), some (aI (h : Int)), some (aI z106)]) rfl rfl (by omega) (by omega) (fun _ => rfl) (fun z106 ez106 => ?_)
                refine b_goto (tgt := 77) rfl rfl ?_
                refine ihw (w + 1) _ I2 (f.tr f2) ?_ (fun j hj => ?_) (by omega) (by omega)
                · rw [show iLn J i + (hw0 + (w + 1)) = iLn J i + (hw0 + w) + 1 by omega]
                  show OUT I2 (up (imI J i (iLn J i - 1) (imO J i) (hw0 + w)) 56 (iLn J i - 1 + 1 + (hw0 + w)) (J 32 (cI J i (hw0 + w)))) _
                  rw [eci, show iLn J i - 1 + 1 + (hw0 + w) = iLn J i + (hw0 + w) by omega]
                  exact o2
                · by_cases e : j = iLn J i + (hw0 + w)
                  · rw [o2.2 j (by omega), up_ap, if_pos ⟨rfl, e⟩]; omega
                  · rw [o2.2 j (by omega), up_ap, if_neg (by omega), ← o.2 j (by omega)]; exact hb j (by omega)
          refine b_iload_n rfl rfl ?_
          refine b_aload_n rfl rfl ?_
          refine b_getR (r := 63) rfl fl12_66 rfl (by decide) rfl rfl ?_
          refine b_bipush rfl (by decide) ?_
          refine b_aload_n rfl rfl ?_
          refine b_getI rfl fl12_51 rfl (by decide) rfl ?_
          rw [hbI0]
          refine b_imulN rfl (by omega) (by omega) ?_
          refine b_iload_n rfl rfl ?_
          refine b_iaddN rfl (by omega) (by omega) ?_
          refine b_iald rfl rfl (by omega) (by omega) ?_
          try simp only [tn6, tn4, tn2, tn144, tn24, tn_cast, Int.reduceToNat]
          rw [q630]
          refine b_icmp_ge (tgt := 118) rfl rfl (fun c72 => ?_) (fun c72 => ?_)
          · omega
          · refine b_iconst rfl (by decide) ?_
            refine b_istoreX_n (F := fun z76 => [some (aR 57), some (aI (i : Int)), some (aI (h : Int)), some (aI z76)]) rfl (by decide) (fun _ => rfl) (fun z76 ez76 => ?_)
            exact wares (nW J) 0 _ I f o hb (by omega) (by omega)
      have hMI := hM.fo f
      have hbI := hMI.1.1
      have q62 := hMI.1.2.2.2.1
      refine b_iload_n rfl rfl ?_
      refine b_aload_n rfl rfl ?_
      refine b_getR (r := 62) rfl fl12_63 rfl (by decide) rfl rfl ?_
      refine b_aload_n rfl rfl ?_
      refine b_getI rfl fl12_51 rfl (by decide) rfl ?_
      rw [hbI]
      refine b_iald rfl rfl (by omega) (by omega) ?_
      try simp only [tn6, tn4, tn2, tn144, tn24, tn_cast, Int.reduceToNat]
      rw [q62]
      refine b_icmp_ge (tgt := 124) rfl rfl (fun c40 => ?_) (fun c40 => ?_)
      · omega
      · refine b_aload_n rfl rfl ?_
        refine b_aload_n rfl rfl ?_
        refine b_iconst rfl (by decide) ?_
        refine b_iload_n rfl rfl ?_
        refine b_callV2i (ν := MX12_liesIn) rfl ml12_482 cvX12_liesIn (d' := 0) (by omega) rfl (by decide) rfl (Nat.le_of_ble_eq_true rfl) ?_
        refine spq_liesIn hMI (by omega) ?_
        refine ⟨_, rfl, ?_⟩
        refine b_iconst rfl (by decide) ?_
        refine b_iaddN rfl (by omega) (by omega) ?_
        refine b_callV1v (ν := MX12_writes) rfl ml12_588 cvX12_writes (d' := 0) (by omega) rfl (by decide) rfl (Nat.le_of_ble_eq_true rfl) ?_
        refine spm_writes o (by omega) (by omega) (fun I2 f2 o2 => ?_)
        rw [show iLn J i - 1 + 1 = iLn J i by omega] at o2
        refine ⟨rfl, ?_⟩
        refine b_iconst rfl (by decide) ?_
        refine b_istoreX_n (F := fun z56 => [some (aR 57), some (aI (i : Int)), some (aI z56), x3]) rfl (by decide) (fun _ => rfl) (fun z56 ez56 => ?_)
        refine holds (nH J i) 0 _ _ I2 (f.tr f2) ?_ (fun j hj => ?_) (by omega) (by omega)
        · rw [Nat.zero_mul, Nat.add_zero]; exact o2
        · rw [Nat.zero_mul, Nat.add_zero] at hj
          by_cases e : j = iLn J i - 1
          · rw [o2.2 j (by omega), up_ap, if_pos ⟨rfl, e⟩]; omega
          · rw [o2.2 j (by omega), up_ap, if_neg (by omega), ← o.2 j (by omega)]; exact hb j (by omega)
  refine rj_of okX12_image (Nat.le_of_ble_eq_true rfl) rfl ?_
  have q85 := hM.2.2.2.1.1
  have f0 : FO K (up K 57 70 0) := ⟨fun q a b => up_cell a, fun j hj => up_n (by omega)⟩
  have o0 : OUT (up K 57 70 0) J 0 := ⟨up_s, fun j hj => absurd hj (by omega)⟩
  refine b_aload_n rfl rfl ?_
  refine b_iconst rfl (by decide) ?_
  refine b_putI rfl fl12_225 rfl (by decide) rfl ?_
  refine b_aload_n rfl rfl ?_
  refine b_aload_n rfl rfl ?_
  refine b_getR (r := 85) rfl fl12_156 rfl (by decide) rfl rfl ?_
  refine b_iconst rfl (by decide) ?_
  refine b_ialdL (k := 0) rfl rfl rfl (by decide) ?_
  try simp only [tn6, tn4, tn2, tn144, tn24, tn_cast, Int.reduceToNat]
  try simp only [up_ap, cpy_ap, fil_ap, row_ap, Nat.reduceEqDiff, Nat.reduceLT, Nat.reduceLeDiff, Int.toNat_natCast, Int.reduceToNat, reduceCtorEq, false_and, and_false, true_and, and_true, and_self, reduceIte]
  first | rw [q85] | rw [f1.1 85 (by decide) (by decide), up_cell (by decide), q85]
  refine b_bipush rfl (by decide) ?_
  refine b_ishr rfl ?_
  rw [shr8 r]
  refine b_callV1v (ν := MX12_writes) rfl ml12_588 cvX12_writes (d' := 0) (by omega) rfl (by decide) rfl (Nat.le_of_ble_eq_true rfl) ?_
  refine spm_writes o0 (by decide) (by omega) (fun I1 f1 o1 => ?_)
  refine ⟨rfl, ?_⟩
  refine b_aload_n rfl rfl ?_
  refine b_aload_n rfl rfl ?_
  refine b_getR (r := 85) rfl fl12_156 rfl (by decide) rfl rfl ?_
  refine b_iconst rfl (by decide) ?_
  refine b_ialdL (k := 0) rfl rfl rfl (by decide) ?_
  try simp only [tn6, tn4, tn2, tn144, tn24, tn_cast, Int.reduceToNat]
  try simp only [up_ap, cpy_ap, fil_ap, row_ap, Nat.reduceEqDiff, Nat.reduceLT, Nat.reduceLeDiff, Int.toNat_natCast, Int.reduceToNat, reduceCtorEq, false_and, and_false, true_and, and_true, and_self, reduceIte]
  first | rw [q85] | rw [f1.1 85 (by decide) (by decide), up_cell (by decide), q85]
  first | rw [show I1 85 0 = J 30 5 by rw [f1.1 85 (by decide) (by decide), up_cell (by decide), q85]] | skip
  refine b_callV1v (ν := MX12_writes) rfl ml12_588 cvX12_writes (d' := 0) (by omega) rfl (by decide) rfl (Nat.le_of_ble_eq_true rfl) ?_
  refine spm_writes1 o1 (by decide) (by omega) (fun I2 f2 o2 => ?_)
  refine ⟨rfl, ?_⟩
  refine b_iconst rfl (by decide) ?_
  refine b_istoreX_n (F := fun z29 => [some (aR 57), some (aI z29), none, none]) rfl (by decide) (fun _ => rfl) (fun z29 ez29 => ?_)
  refine ships (nS J) 0 _ _ _ I2 ((f0.tr f1).tr f2) o2 (fun j hj => ?_) (by omega) (by omega)
  have hj2 : j = 0 ∨ j = 1 := by have : iLn J 0 = 3 := rfl; omega
  rcases hj2 with e | e <;> subst e
  · rw [o2.2 0 (by decide), up_ap, if_neg (by omega), up_ap, if_pos ⟨rfl, rfl⟩]; omega
  · rw [o2.2 1 (by decide), up_ap, if_pos ⟨rfl, rfl⟩]; omega
