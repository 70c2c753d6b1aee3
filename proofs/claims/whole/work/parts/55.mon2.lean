/-! ===== the reference: on, two ===== -/
def SHI (J I H : HI) (s p : Nat) : Prop := (∀ q, q ≠ 86 → q ≠ 87 → H q = I q) ∧ (∀ j, H 86 j = if j = 6 + s then bT J s else I 86 j) ∧ (∀ s' h w, s' < 6 → h < 4 → w < 6 → H 87 (144 + (24 * s' + 6 * h + w)) = if s' = s ∧ w < nW J ∧ h * nW J + w < p then tAt J ((iLn J s + (h * nW J + w) : Nat) : Int) else I 87 (144 + (24 * s' + 6 * h + w))) ∧ (∀ j, j < 144 ∨ 288 ≤ j → H 87 j = I 87 j)
def p1O (J : HI) (s i : Nat) : Prop := bT J s < J 4 2 ∧ ∀ o, o < i → bT J s = -1 ∨ bT J o ≠ bT J s
def p2O (J : HI) (s p : Nat) : Prop := p1O J s s ∧ ∀ k, k < p → tAt J ((iLn J s + k : Nat) : Int) ≤ 20
theorem spm_shipOn {J I : HI} {Q : Option AV → HI → Prop} {C : Nat → List Int} {b s : Nat} (hR : RP J I C b) (hT : RTp J I) (hs : (s : Int) < J 4 1) (hlen : (iLn J (s + 1) : Int) ≤ J 1 1 + 1) (hprev : ∀ o, o < s → I 86 (6 + o) = bT J o) (k1 : shOn J s → ∀ H, SHI J I H s (cO J s) → Q (some (aI 1)) H) (k0 : ¬ shOn J s → ∀ H, SHI J I H s (cO J s) → Q (some (aI 0)) H) : Rj MX12_shipOn 1 [aR 57, aI (s : Int), aI ((iLn J s - 1 : Nat) : Int)] I Q := by
  have hp := hR.2.2.2.2.2.2.2.2.2
  have hb2 := hR.2.1
  obtain ⟨t1, t2, t3⟩ := hT
  obtain ⟨n6, n1⟩ := nS_in hp
  obtain ⟨w6, w1⟩ := nW_in hp
  obtain ⟨g1, g2, g3⟩ := nH_in hp hs
  have hs6 : s < 6 := by omega
  have hl := iLn_in hp s (by omega)
  have hco := (cO_in hp hs).1
  have hcd : cO J s = nH J s * nW J := rfl
  have nxL : iLn J (s + 1) = iLn J s + (1 + cO J s) := rfl
  have q58 := t3 (iLn J s - 1) (by omega)
  have hbt := tAt_b (k := iLn J s - 1) t2 (by omega)
  have ebT : tAt J ((iLn J s - 1 : Nat) : Int) - 1 = bT J s := rfl
  have hRS : ∀ H p, SHI J I H s p → RP J H C b ∧ H 58 = I 58 := fun H p h => ⟨hR.to (by rw [h.1 57 (by decide) (by decide)]) (fun q hq => h.1 q (by unfold mcell at hq; omega) (by unfold mcell at hq; omega)), h.1 58 (by decide) (by decide)⟩
  have holds : ∀ (m h : Nat) (y z zp : Int) (x7 : Option AV) (H : HI), SHI J I H s (h * nW J) → ((y = 1 ∧ p2O J s (h * nW J)) ∨ (y = 0 ∧ ¬ p2O J s (h * nW J))) → z = (h : Int) → zp = ((iLn J s + h * nW J : Nat) : Int) → h + m = nH J s → Bj MX12_shipOn 1 93 [some (aR 57), some (aI (s : Int)), some (aI ((iLn J s - 1 : Nat) : Int)), some (aI (bT J s)), some (aI y), some (aI zp), some (aI z), x7] [] H Q := by
    intro m
    induction m with
    | zero =>
      intro h y z zp x7 H hS hy hz hzp hh
      obtain ⟨hRH, -⟩ := hRS H _ hS
      have hbI := hRH.1
      have q63 := (hRH.2.2.2.2.2.2.1 s hs).1
      have eh : h = nH J s := by omega
      subst eh
      have eP : p2O J s (nH J s * nW J) ↔ shOn J s := by
        unfold p2O p1O shOn
        rw [hcd]
        exact ⟨fun w => ⟨w.1.1, w.1.2, w.2⟩, fun w => ⟨⟨w.1, w.2.1⟩, w.2.2⟩⟩
      refine b_iload rfl rfl ?_
      refine b_aload_n rfl rfl ?_
      refine b_getR (r := 63) rfl fl12_66 rfl (by decide) rfl rfl ?_
      refine b_bipush rfl (by decide) ?_
      refine b_aload_n rfl rfl ?_
      refine b_getI rfl fl12_51 rfl (by decide) rfl ?_
      rw [hbI]
      refine b_imulN rfl (by omega) (by omega) ?_
      refine b_iload_n rfl rfl ?_
      refine b_iaddN rfl (by omega) (by omega) ?_
      refine b_iald rfl rfl (by omega) (by omega) ?_
      try simp only [tn6, tn4, tn2, tn144, tn24, tn_cast, Int.reduceToNat]
      rw [q63]
      refine b_icmp_ge (tgt := 193) rfl rfl (fun c109 => ?_) (fun c109 => ?_)
      · refine b_iload rfl rfl ?_
        refine b_zret rfl rfl (by omega) ?_
        rcases hy with ⟨e, w⟩ | ⟨e, w⟩
        · exact qI (k1 (eP.1 w) H hS) e.symm rfl
        · exact qI (k0 (fun z => w (eP.2 z)) H hS) e.symm rfl
      · omega
    | succ m ihm =>
      intro h y z zp x7 H hS hy hz hzp hh
      subst hz
      subst hzp
      obtain ⟨hRH0, -⟩ := hRS H _ hS
      have hbI0 := hRH0.1
      have q630 := (hRH0.2.2.2.2.2.2.1 s hs).1
      have hmul : (h + 1) * nW J ≤ nH J s * nW J := Nat.mul_le_mul_right _ (by omega)
      rw [Nat.add_mul, Nat.one_mul] at hmul
      have wares : ∀ (m w : Nat) (y z zp : Int) (H : HI), SHI J I H s (h * nW J + w) → ((y = 1 ∧ p2O J s (h * nW J + w)) ∨ (y = 0 ∧ ¬ p2O J s (h * nW J + w))) → z = (w : Int) → zp = ((iLn J s + (h * nW J + w) : Nat) : Int) → w + m = nW J → Bj MX12_shipOn 1 115 [some (aR 57), some (aI (s : Int)), some (aI ((iLn J s - 1 : Nat) : Int)), some (aI (bT J s)), some (aI y), some (aI zp), some (aI (h : Int)), some (aI z)] [] H Q := by
        intro m
        induction m with
        | zero =>
          intro w y z zp H hS hy hz hzp hw
          obtain ⟨hRH, -⟩ := hRS H _ hS
          have hbI := hRH.1
          have q59 := hRH.2.2.1
          have ew : w = nW J := by omega
          subst ew
          have em : (h + 1) * nW J = h * nW J + nW J := by rw [Nat.add_mul, Nat.one_mul]
          refine b_iload rfl rfl ?_
          refine b_aload_n rfl rfl ?_
          refine b_getR (r := 59) rfl fl12_54 rfl (by decide) rfl rfl ?_
          refine b_aload_n rfl rfl ?_
          refine b_getI rfl fl12_51 rfl (by decide) rfl ?_
          rw [hbI]
          refine b_iald rfl rfl (by omega) (by omega) ?_
          try simp only [tn6, tn4, tn2, tn144, tn24, tn_cast, Int.reduceToNat]
          rw [q59]
          refine b_icmp_ge (tgt := 187) rfl rfl (fun c126 => ?_) (fun c126 => ?_)
          · refine b_iincX (F := fun z187 => [some (aR 57), some (aI (s : Int)), some (aI ((iLn J s - 1 : Nat) : Int)), some (aI (bT J s)), some (aI y), some (aI zp), some (aI z187), some (aI z)]) rfl rfl (by omega) (by omega) (fun _ => rfl) (fun z187 ez187 => ?_)
            refine b_goto (tgt := 93) rfl rfl ?_
            refine ihm (h + 1) _ _ _ _ H ?_ ?_ (by omega) ?_ (by omega)
            · rw [em]; exact hS
            · rw [em]; exact hy
            · rw [em]; exact hzp
          · omega
        | succ m ihw =>
          intro w y z zp H hS hy hz hzp hw
          subst hz
          subst hzp
          obtain ⟨hRH, h58⟩ := hRS H _ hS
          have hbI := hRH.1
          have q59 := hRH.2.2.1
          have qt := t3 (iLn J s + (h * nW J + w)) (by omega)
          have qb := tAt_b (k := iLn J s + (h * nW J + w)) t2 (by omega)
          have qt2 : H 58 (iLn J s + (h * nW J + w)) = tAt J ((iLn J s + (h * nW J + w) : Nat) : Int) := by rw [h58]; exact qt
          have e87 : (144 + ((24 * s + 6 * h + w : Nat) : Int)).toNat = 144 + (24 * s + 6 * h + w) := by omega
          have hP : p2O J s (h * nW J + (w + 1)) ↔ p2O J s (h * nW J + w) ∧ tAt J ((iLn J s + (h * nW J + w) : Nat) : Int) ≤ 20 := by
            unfold p2O
            constructor
            · exact fun z => ⟨⟨z.1, fun k hk => z.2 k (by omega)⟩, z.2 (h * nW J + w) (by omega)⟩
            · intro z
              refine ⟨z.1.1, fun k hk => ?_⟩
              by_cases e : k = h * nW J + w
              · rw [e]; exact z.2
              · exact z.1.2 k (by omega)
          have hS2 : SHI J I (up H 87 (144 + (24 * s + 6 * h + w)) (tAt J ((iLn J s + (h * nW J + w) : Nat) : Int))) s (h * nW J + (w + 1)) := by
            obtain ⟨s1, s2, s3, s4⟩ := hS
            refine ⟨fun q a b => by rw [up_cell b]; exact s1 q a b, fun j => by rw [up_cell (by decide)]; exact s2 j, fun s' h' w' a1 a2 a3 => ?_, fun j hj => by rw [up_n (by omega)]; exact s4 j hj⟩
            rw [up_ap]
            by_cases e : 144 + (24 * s' + 6 * h' + w') = 144 + (24 * s + 6 * h + w)
            · have e2 : s' = s ∧ h' = h ∧ w' = w := by omega
              obtain ⟨rfl, rfl, rfl⟩ := e2
              rw [if_pos ⟨rfl, rfl⟩, if_pos ⟨rfl, by omega, by omega⟩]
            · rw [if_neg (fun z => e z.2), s3 s' h' w' a1 a2 a3]
              by_cases q : s' = s ∧ w' < nW J ∧ h' * nW J + w' < h * nW J + w
              · rw [if_pos q, if_pos ⟨q.1, q.2.1, by omega⟩]
              · rw [if_neg q, if_neg (fun z => by
                  by_cases e2 : h' * nW J + w' = h * nW J + w
                  · have hw' : w' < nW J := z.2.1
                    have c1 : (h' * nW J + w') / nW J = h' := by rw [Nat.add_comm, Nat.add_mul_div_right _ _ (by omega), Nat.div_eq_of_lt hw', Nat.zero_add]
                    have c2 : (h * nW J + w) / nW J = h := by rw [Nat.add_comm, Nat.add_mul_div_right _ _ (by omega), Nat.div_eq_of_lt (by omega), Nat.zero_add]
                    rw [e2, c2] at c1
                    subst c1
                    have := z.1
                    omega
                  · exact q ⟨z.1, z.2.1, by omega⟩)]
          have qu : up H 87 (144 + (24 * s + 6 * h + w)) (tAt J ((iLn J s + (h * nW J + w) : Nat) : Int)) 58 (iLn J s + (h * nW J + w)) = tAt J ((iLn J s + (h * nW J + w) : Nat) : Int) := by rw [up_cell (by decide)]; exact qt2
          have ihw2 := fun y z zp H => ihw (w + 1) y z zp H
          generalize hpp : h * nW J + w = pp at *
          rw [show h * nW J + (w + 1) = pp + 1 by omega] at *
          refine b_iload rfl rfl ?_
          refine b_aload_n rfl rfl ?_
          refine b_getR (r := 59) rfl fl12_54 rfl (by decide) rfl rfl ?_
          refine b_aload_n rfl rfl ?_
          refine b_getI rfl fl12_51 rfl (by decide) rfl ?_
          rw [hbI]
          refine b_iald rfl rfl (by omega) (by omega) ?_
          try simp only [tn6, tn4, tn2, tn144, tn24, tn_cast, Int.reduceToNat]
          rw [q59]
          refine b_icmp_ge (tgt := 187) rfl rfl (fun c126 => ?_) (fun c126 => ?_)
          · omega
          · refine b_aload_n rfl rfl ?_
            refine b_getR (r := 87) rfl fl12_162 rfl (by decide) rfl rfl ?_
            refine b_sipush rfl (by decide) ?_
            refine b_aload_n rfl rfl ?_
            refine b_iload_n rfl rfl ?_
            refine b_iload rfl rfl ?_
            refine b_iload rfl rfl ?_
            refine b_callV3i (ν := MX12_at) rfl ml12_460 cvX12_at (d' := 0) (by omega) rfl (by decide) rfl (Nat.le_of_ble_eq_true rfl) ?_
            refine spm_at (by omega) (by omega) (by omega) ?_
            refine ⟨_, rfl, ?_⟩
            refine b_iaddN rfl (by omega) (by omega) ?_
            refine b_aload_n rfl rfl ?_
            refine b_getR (r := 58) rfl fl12_7 rfl (by decide) rfl rfl ?_
            refine b_iload rfl rfl ?_
            refine b_iald rfl rfl (by omega) (by omega) ?_
            try simp only [tn6, tn4, tn2, tn144, tn24, tn_cast, Int.reduceToNat]
            first | rw [qt2] | rw [qu]
            refine b_iast rfl rfl (by omega) (by omega) ?_
            try simp only [tn6, tn4, tn2, tn144, tn24, tn_cast, Int.reduceToNat]
            rw [e87]
            refine b_iload rfl rfl ?_
            refine b_if_eq (tgt := 175) rfl rfl (fun c156 => ?_) (fun c156 => ?_)
            · refine b_iconst rfl (by decide) ?_
              refine b_istoreX (F := fun z176 => [some (aR 57), some (aI (s : Int)), some (aI ((iLn J s - 1 : Nat) : Int)), some (aI (bT J s)), some (aI z176), some (aI ((iLn J s + pp : Nat) : Int)), some (aI (h : Int)), some (aI (w : Int))]) rfl (by decide) (fun _ => rfl) (fun z176 ez176 => ?_)
              refine b_iincX (F := fun z178 => [some (aR 57), some (aI (s : Int)), some (aI ((iLn J s - 1 : Nat) : Int)), some (aI (bT J s)), some (aI z176), some (aI z178), some (aI (h : Int)), some (aI (w : Int))]) rfl rfl (by omega) (by omega) (fun _ => rfl) (fun z178 ez178 => ?_)
              refine b_iincX (F := fun z181 => [some (aR 57), some (aI (s : Int)), some (aI ((iLn J s - 1 : Nat) : Int)), some (aI (bT J s)), some (aI z176), some (aI z178), some (aI (h : Int)), some (aI z181)]) rfl rfl (by omega) (by omega) (fun _ => rfl) (fun z181 ez181 => ?_)
              refine b_goto (tgt := 115) rfl rfl ?_
              refine ihw2 _ _ _ _ hS2 ?_ (by omega) (by omega) (by omega)
              first
                | exact Or.inl ⟨by omega, hP.2 ⟨(hy.resolve_right (fun z => by omega)).2, by omega⟩⟩
                | exact Or.inr ⟨by omega, fun z => by have := (hP.1 z).2; omega⟩
                | exact Or.inr ⟨by omega, fun z => (hy.resolve_left (fun z => by omega)).2 (hP.1 z).1⟩
            · refine b_aload_n rfl rfl ?_
              refine b_getR (r := 58) rfl fl12_7 rfl (by decide) rfl rfl ?_
              refine b_iload rfl rfl ?_
              refine b_iald rfl rfl (by omega) (by omega) ?_
              try simp only [tn6, tn4, tn2, tn144, tn24, tn_cast, Int.reduceToNat]
              first | rw [qt2] | rw [qu]
              refine b_bipush rfl (by decide) ?_
              refine b_icmp_gt (tgt := 175) rfl rfl (fun c168 => ?_) (fun c168 => ?_)
              · refine b_iconst rfl (by decide) ?_
                refine b_istoreX (F := fun z176 => [some (aR 57), some (aI (s : Int)), some (aI ((iLn J s - 1 : Nat) : Int)), some (aI (bT J s)), some (aI z176), some (aI ((iLn J s + pp : Nat) : Int)), some (aI (h : Int)), some (aI (w : Int))]) rfl (by decide) (fun _ => rfl) (fun z176 ez176 => ?_)
                refine b_iincX (F := fun z178 => [some (aR 57), some (aI (s : Int)), some (aI ((iLn J s - 1 : Nat) : Int)), some (aI (bT J s)), some (aI z176), some (aI z178), some (aI (h : Int)), some (aI (w : Int))]) rfl rfl (by omega) (by omega) (fun _ => rfl) (fun z178 ez178 => ?_)
                refine b_iincX (F := fun z181 => [some (aR 57), some (aI (s : Int)), some (aI ((iLn J s - 1 : Nat) : Int)), some (aI (bT J s)), some (aI z176), some (aI z178), some (aI (h : Int)), some (aI z181)]) rfl rfl (by omega) (by omega) (fun _ => rfl) (fun z181 ez181 => ?_)
                refine b_goto (tgt := 115) rfl rfl ?_
                refine ihw2 _ _ _ _ hS2 ?_ (by omega) (by omega) (by omega)
                first
                  | exact Or.inl ⟨by omega, hP.2 ⟨(hy.resolve_right (fun z => by omega)).2, by omega⟩⟩
                  | exact Or.inr ⟨by omega, fun z => by have := (hP.1 z).2; omega⟩
                  | exact Or.inr ⟨by omega, fun z => (hy.resolve_left (fun z => by omega)).2 (hP.1 z).1⟩
              · refine b_iconst rfl (by decide) ?_
                refine b_goto (tgt := 176) rfl rfl ?_
                refine b_istoreX (F := fun z176 => [some (aR 57), some (aI (s : Int)), some (aI ((iLn J s - 1 : Nat) : Int)), some (aI (bT J s)), some (aI z176), some (aI ((iLn J s + pp : Nat) : Int)), some (aI (h : Int)), some (aI (w : Int))]) rfl (by decide) (fun _ => rfl) (fun z176 ez176 => ?_)
                refine b_iincX (F := fun z178 => [some (aR 57), some (aI (s : Int)), some (aI ((iLn J s - 1 : Nat) : Int)), some (aI (bT J s)), some (aI z176), some (aI z178), some (aI (h : Int)), some (aI (w : Int))]) rfl rfl (by omega) (by omega) (fun _ => rfl) (fun z178 ez178 => ?_)
                refine b_iincX (F := fun z181 => [some (aR 57), some (aI (s : Int)), some (aI ((iLn J s - 1 : Nat) : Int)), some (aI (bT J s)), some (aI z176), some (aI z178), some (aI (h : Int)), some (aI z181)]) rfl rfl (by omega) (by omega) (fun _ => rfl) (fun z181 ez181 => ?_)
                refine b_goto (tgt := 115) rfl rfl ?_
                refine ihw2 _ _ _ _ hS2 ?_ (by omega) (by omega) (by omega)
                first
                  | exact Or.inl ⟨by omega, hP.2 ⟨(hy.resolve_right (fun z => by omega)).2, by omega⟩⟩
                  | exact Or.inr ⟨by omega, fun z => by have := (hP.1 z).2; omega⟩
                  | exact Or.inr ⟨by omega, fun z => (hy.resolve_left (fun z => by omega)).2 (hP.1 z).1⟩
      refine b_iload rfl rfl ?_
      refine b_aload_n rfl rfl ?_
      refine b_getR (r := 63) rfl fl12_66 rfl (by decide) rfl rfl ?_
      refine b_bipush rfl (by decide) ?_
      refine b_aload_n rfl rfl ?_
      refine b_getI rfl fl12_51 rfl (by decide) rfl ?_
      rw [hbI0]
      refine b_imulN rfl (by omega) (by omega) ?_
      refine b_iload_n rfl rfl ?_
      refine b_iaddN rfl (by omega) (by omega) ?_
      refine b_iald rfl rfl (by omega) (by omega) ?_
      try simp only [tn6, tn4, tn2, tn144, tn24, tn_cast, Int.reduceToNat]
      rw [q630]
      refine b_icmp_ge (tgt := 193) rfl rfl (fun c109 => ?_) (fun c109 => ?_)
      · omega
      · refine b_iconst rfl (by decide) ?_
        refine b_istoreX (F := fun z113 => [some (aR 57), some (aI (s : Int)), some (aI ((iLn J s - 1 : Nat) : Int)), some (aI (bT J s)), some (aI y), some (aI ((iLn J s + h * nW J : Nat) : Int)), some (aI (h : Int)), some (aI z113)]) rfl (by decide) (fun _ => rfl) (fun z113 ez113 => ?_)
        exact wares (nW J) 0 _ _ _ H hS hy (by omega) rfl (by omega)
  have hS0 : SHI J I (up I 86 (6 + s) (bT J s)) s 0 := by
    refine ⟨fun q a b => up_cell a, fun j => ?_, fun s' h w _ _ _ => ?_, fun j _ => by rw [up_cell (by decide)]⟩
    · rw [up_ap]
      by_cases e : j = 6 + s
      · rw [if_pos ⟨rfl, e⟩, if_pos e]
      · rw [if_neg (fun z => e z.2), if_neg e]
    · rw [up_cell (by decide), if_neg (by omega)]
  have others : ∀ (n i : Nat) (y z : Int) (x6 x7 : Option AV), ((y = 1 ∧ p1O J s i) ∨ (y = 0 ∧ ¬ p1O J s i)) → z = (i : Int) → i + n = s → Bj MX12_shipOn 1 42 [some (aR 57), some (aI (s : Int)), some (aI ((iLn J s - 1 : Nat) : Int)), some (aI (bT J s)), some (aI y), some (aI z), x6, x7] [] (up I 86 (6 + s) (bT J s)) Q := by
    intro n
    induction n with
    | zero =>
      intro i y z x6 x7 hy hz hi
      have ei : i = s := by omega
      subst ei
      refine b_iload rfl rfl ?_
      refine b_iload_n rfl rfl ?_
      refine b_icmp_ge (tgt := 85) rfl rfl (fun c45 => ?_) (fun c45 => ?_)
      · refine b_iload_n rfl rfl ?_
        refine b_iconst rfl (by decide) ?_
        refine b_iaddN rfl (by omega) (by omega) ?_
        refine b_istoreX (F := fun z88 => [some (aR 57), some (aI (i : Int)), some (aI ((iLn J i - 1 : Nat) : Int)), some (aI (bT J i)), some (aI y), some (aI z88), x6, x7]) rfl (by decide) (fun _ => rfl) (fun z88 ez88 => ?_)
        refine b_iconst rfl (by decide) ?_
        refine b_istoreX (F := fun z91 => [some (aR 57), some (aI (i : Int)), some (aI ((iLn J i - 1 : Nat) : Int)), some (aI (bT J i)), some (aI y), some (aI z88), some (aI z91), x7]) rfl (by decide) (fun _ => rfl) (fun z91 ez91 => ?_)
        refine holds (nH J i) 0 _ _ _ _ _ (by rw [Nat.zero_mul]; exact hS0) ?_ (by omega) (by rw [Nat.zero_mul]; omega) (by omega)
        rw [Nat.zero_mul]
        rcases hy with ⟨e, w⟩ | ⟨e, w⟩
        · exact Or.inl ⟨e, w, fun k hk => absurd hk (by omega)⟩
        · exact Or.inr ⟨e, fun z => w z.1⟩
      · omega
    | succ n ih =>
      intro i y z x6 x7 hy hz hi
      subst hz
      have q86 : up I 86 (6 + s) (bT J s) 86 (6 + i) = bT J i := by rw [up_n (by omega)]; exact hprev i (by omega)
      have e86 : (6 + (i : Int)).toNat = 6 + i := by omega
      have hP : p1O J s (i + 1) ↔ p1O J s i ∧ (bT J s = -1 ∨ bT J i ≠ bT J s) := by
        unfold p1O
        constructor
        · exact fun z => ⟨⟨z.1, fun o ho => z.2 o (by omega)⟩, z.2 i (by omega)⟩
        · intro z
          refine ⟨z.1.1, fun o ho => ?_⟩
          by_cases e : o = i
          · rw [e]; exact z.2
          · exact z.1.2 o (by omega)
      refine b_iload rfl rfl ?_
      refine b_iload_n rfl rfl ?_
      refine b_icmp_ge (tgt := 85) rfl rfl (fun c45 => ?_) (fun c45 => ?_)
      · omega
      · refine b_iload rfl rfl ?_
        refine b_if_eq (tgt := 76) rfl rfl (fun c50 => ?_) (fun c50 => ?_)
        · refine b_iconst rfl (by decide) ?_
          refine b_istoreX (F := fun z77 => [some (aR 57), some (aI (s : Int)), some (aI ((iLn J s - 1 : Nat) : Int)), some (aI (bT J s)), some (aI z77), some (aI (i : Int)), x6, x7]) rfl (by decide) (fun _ => rfl) (fun z77 ez77 => ?_)
          refine b_iincX (F := fun z79 => [some (aR 57), some (aI (s : Int)), some (aI ((iLn J s - 1 : Nat) : Int)), some (aI (bT J s)), some (aI z77), some (aI z79), x6, x7]) rfl rfl (by omega) (by omega) (fun _ => rfl) (fun z79 ez79 => ?_)
          refine b_goto (tgt := 42) rfl rfl ?_
          refine ih (i + 1) _ _ _ _ ?_ (by omega) (by omega)
          first
            | exact Or.inl ⟨by omega, hP.2 ⟨(hy.resolve_right (fun z => by omega)).2, Or.inl (by omega)⟩⟩
            | exact Or.inl ⟨by omega, hP.2 ⟨(hy.resolve_right (fun z => by omega)).2, Or.inr (by omega)⟩⟩
            | exact Or.inr ⟨by omega, fun z => by have := (hP.1 z).2; omega⟩
            | exact Or.inr ⟨by omega, fun z => (hy.resolve_left (fun z => by omega)).2 (hP.1 z).1⟩
        · refine b_iload_n rfl rfl ?_
          refine b_iconst rfl (by decide) ?_
          refine b_icmp_eq (tgt := 72) rfl rfl (fun c55 => ?_) (fun c55 => ?_)
          · refine b_iconst rfl (by decide) ?_
            refine b_goto (tgt := 77) rfl rfl ?_
            refine b_istoreX (F := fun z77 => [some (aR 57), some (aI (s : Int)), some (aI ((iLn J s - 1 : Nat) : Int)), some (aI (bT J s)), some (aI z77), some (aI (i : Int)), x6, x7]) rfl (by decide) (fun _ => rfl) (fun z77 ez77 => ?_)
            refine b_iincX (F := fun z79 => [some (aR 57), some (aI (s : Int)), some (aI ((iLn J s - 1 : Nat) : Int)), some (aI (bT J s)), some (aI z77), some (aI z79), x6, x7]) rfl rfl (by omega) (by omega) (fun _ => rfl) (fun z79 ez79 => ?_)
            refine b_goto (tgt := 42) rfl rfl ?_
            refine ih (i + 1) _ _ _ _ ?_ (by omega) (by omega)
            first
              | exact Or.inl ⟨by omega, hP.2 ⟨(hy.resolve_right (fun z => by omega)).2, Or.inl (by omega)⟩⟩
              | exact Or.inl ⟨by omega, hP.2 ⟨(hy.resolve_right (fun z => by omega)).2, Or.inr (by omega)⟩⟩
              | exact Or.inr ⟨by omega, fun z => by have := (hP.1 z).2; omega⟩
              | exact Or.inr ⟨by omega, fun z => (hy.resolve_left (fun z => by omega)).2 (hP.1 z).1⟩
          · refine b_aload_n rfl rfl ?_
            refine b_getR (r := 86) rfl fl12_159 rfl (by decide) rfl rfl ?_
            refine b_bipush rfl (by decide) ?_
            refine b_iload rfl rfl ?_
            refine b_iaddN rfl (by omega) (by omega) ?_
            refine b_iald rfl rfl (by omega) (by omega) ?_
            try simp only [tn6, tn4, tn2, tn144, tn24, tn_cast, Int.reduceToNat]
            rw [e86, q86]
            refine b_iload_n rfl rfl ?_
            refine b_icmp_eq (tgt := 76) rfl rfl (fun c69 => ?_) (fun c69 => ?_)
            · refine b_iconst rfl (by decide) ?_
              refine b_istoreX (F := fun z77 => [some (aR 57), some (aI (s : Int)), some (aI ((iLn J s - 1 : Nat) : Int)), some (aI (bT J s)), some (aI z77), some (aI (i : Int)), x6, x7]) rfl (by decide) (fun _ => rfl) (fun z77 ez77 => ?_)
              refine b_iincX (F := fun z79 => [some (aR 57), some (aI (s : Int)), some (aI ((iLn J s - 1 : Nat) : Int)), some (aI (bT J s)), some (aI z77), some (aI z79), x6, x7]) rfl rfl (by omega) (by omega) (fun _ => rfl) (fun z79 ez79 => ?_)
              refine b_goto (tgt := 42) rfl rfl ?_
              refine ih (i + 1) _ _ _ _ ?_ (by omega) (by omega)
              first
                | exact Or.inl ⟨by omega, hP.2 ⟨(hy.resolve_right (fun z => by omega)).2, Or.inl (by omega)⟩⟩
                | exact Or.inl ⟨by omega, hP.2 ⟨(hy.resolve_right (fun z => by omega)).2, Or.inr (by omega)⟩⟩
                | exact Or.inr ⟨by omega, fun z => by have := (hP.1 z).2; omega⟩
                | exact Or.inr ⟨by omega, fun z => (hy.resolve_left (fun z => by omega)).2 (hP.1 z).1⟩
            · refine b_iconst rfl (by decide) ?_
              refine b_goto (tgt := 77) rfl rfl ?_
              refine b_istoreX (F := fun z77 => [some (aR 57), some (aI (s : Int)), some (aI ((iLn J s - 1 : Nat) : Int)), some (aI (bT J s)), some (aI z77), some (aI (i : Int)), x6, x7]) rfl (by decide) (fun _ => rfl) (fun z77 ez77 => ?_)
              refine b_iincX (F := fun z79 => [some (aR 57), some (aI (s : Int)), some (aI ((iLn J s - 1 : Nat) : Int)), some (aI (bT J s)), some (aI z77), some (aI z79), x6, x7]) rfl rfl (by omega) (by omega) (fun _ => rfl) (fun z79 ez79 => ?_)
              refine b_goto (tgt := 42) rfl rfl ?_
              refine ih (i + 1) _ _ _ _ ?_ (by omega) (by omega)
              first
                | exact Or.inl ⟨by omega, hP.2 ⟨(hy.resolve_right (fun z => by omega)).2, Or.inl (by omega)⟩⟩
                | exact Or.inl ⟨by omega, hP.2 ⟨(hy.resolve_right (fun z => by omega)).2, Or.inr (by omega)⟩⟩
                | exact Or.inr ⟨by omega, fun z => by have := (hP.1 z).2; omega⟩
                | exact Or.inr ⟨by omega, fun z => (hy.resolve_left (fun z => by omega)).2 (hP.1 z).1⟩
  have hRu : RP J (up I 86 (6 + s) (bT J s)) C b := (hRS _ _ hS0).1
  have hbu := hRu.1
  have q67 := hRu.2.2.2.2.1
  refine rj_of okX12_shipOn (Nat.le_of_ble_eq_true rfl) rfl ?_
  refine b_aload_n rfl rfl ?_
  refine b_getR (r := 58) rfl fl12_7 rfl (by decide) rfl rfl ?_
  refine b_iload_n rfl rfl ?_
  refine b_iald rfl rfl (by omega) (by omega) ?_
  try simp only [tn6, tn4, tn2, tn144, tn24, tn_cast, Int.reduceToNat]
  rw [q58]
  refine b_iconst rfl (by decide) ?_
  refine b_isubN rfl (by omega) (by omega) ?_
  refine b_istoreX_n (F := fun z8 => [some (aR 57), some (aI (s : Int)), some (aI ((iLn J s - 1 : Nat) : Int)), some (aI z8), none, none, none, none]) rfl (by decide) (fun _ => rfl) (fun z8 ez8 => ?_)
  have e8 : z8 = bT J s := by rw [ez8]; exact ebT
  refine b_aload_n rfl rfl ?_
  refine b_getR (r := 86) rfl fl12_159 rfl (by decide) rfl rfl ?_
  refine b_bipush rfl (by decide) ?_
  refine b_iload_n rfl rfl ?_
  refine b_iaddN rfl (by omega) (by omega) ?_
  refine b_iload_n rfl rfl ?_
  refine b_iast rfl rfl (by omega) (by omega) ?_
  try simp only [tn6, tn4, tn2, tn144, tn24, tn_cast, Int.reduceToNat]
  rw [show (6 + (s : Int)).toNat = 6 + s by omega, show up I 86 (6 + s) z8 = up I 86 (6 + s) (bT J s) by rw [e8]]
  refine b_iload_n rfl rfl ?_
  refine b_aload_n rfl rfl ?_
  refine b_getR (r := 67) rfl fl12_78 rfl (by decide) rfl rfl ?_
  refine b_aload_n rfl rfl ?_
  refine b_getI rfl fl12_51 rfl (by decide) rfl ?_
  rw [hbu]
  refine b_iald rfl rfl (by omega) (by omega) ?_
  try simp only [tn6, tn4, tn2, tn144, tn24, tn_cast, Int.reduceToNat]
  rw [q67]
  refine b_icmp_ge (tgt := 36) rfl rfl (fun c29 => ?_) (fun c29 => ?_)
  · refine b_iconst rfl (by decide) ?_
    refine b_istoreX (F := fun z37 => [some (aR 57), some (aI (s : Int)), some (aI ((iLn J s - 1 : Nat) : Int)), some (aI z8), some (aI z37), none, none, none]) rfl (by decide) (fun _ => rfl) (fun z37 ez37 => ?_)
    refine b_iconst rfl (by decide) ?_
    refine b_istoreX (F := fun z40 => [some (aR 57), some (aI (s : Int)), some (aI ((iLn J s - 1 : Nat) : Int)), some (aI z8), some (aI z37), some (aI z40), none, none]) rfl (by decide) (fun _ => rfl) (fun z40 ez40 => ?_)
    subst e8
    refine others s 0 _ _ _ _ ?_ (by omega) (by omega)
    first
      | exact Or.inl ⟨by omega, by omega, fun o ho => absurd ho (by omega)⟩
      | exact Or.inr ⟨by omega, fun z => by have := z.1; omega⟩
  · refine b_iconst rfl (by decide) ?_
    refine b_goto (tgt := 37) rfl rfl ?_
    refine b_istoreX (F := fun z37 => [some (aR 57), some (aI (s : Int)), some (aI ((iLn J s - 1 : Nat) : Int)), some (aI z8), some (aI z37), none, none, none]) rfl (by decide) (fun _ => rfl) (fun z37 ez37 => ?_)
    refine b_iconst rfl (by decide) ?_
    refine b_istoreX (F := fun z40 => [some (aR 57), some (aI (s : Int)), some (aI ((iLn J s - 1 : Nat) : Int)), some (aI z8), some (aI z37), some (aI z40), none, none]) rfl (by decide) (fun _ => rfl) (fun z40 ez40 => ?_)
    subst e8
    refine others s 0 _ _ _ _ ?_ (by omega) (by omega)
    first
      | exact Or.inl ⟨by omega, by omega, fun o ho => absurd ho (by omega)⟩
      | exact Or.inr ⟨by omega, fun z => by have := z.1; omega⟩
