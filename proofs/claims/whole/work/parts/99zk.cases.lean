/-! ===== the law's cases: a call of the class, the same call of the reference ===== -/
theorem dcd {c : MC} (hc : ∀ q ∈ c, decode code q.1 = .ok q.2) {pc : Nat} {x : Instr × Nat} (h : fnd c pc = some x) : decode code pc = .ok x := hc (pc, x) (fnd_mem h)
abbrev lwL (i : Nat) : ML := [some (aS 10), some (aR 0), some (aR 57), some (aI (i : Int))]
section LWC
variable {n : Nat} {xs : Nat → Int32} {st : List AV}
theorem lq_arg {c : MC} {kc ks pc i jn : Nat} {j : Int} {h : AH} (hc : ∀ q ∈ c, decode code q.1 = .ok q.2) (h0 : fnd c pc = some (.aload_n 0, 1)) (h1 : fnd c (pc + 1) = some (.iload_n 3, 1)) (h2 : fnd c (pc + 2) = some (.iconst j, 1)) (h3 : fnd c (pc + 3) = some (.iadd, 1)) (h4 : fnd c (pc + 4) = some (.iaload, 1)) (hj : j = (jn : Int)) (hj5 : jn ≤ 5) (hi : i + 6 ≤ n) (hn : n ≤ 3072) (k : Lw n xs kc ks (pc + 5) (lwL i) (aI (xs (i + jn)).toInt :: st) h) : Lw n xs kc ks pc (lwL i) st h := by
  refine lq_sload_n (dcd hc h0) rfl ?_
  refine lq_iload_n (dcd hc h1) rfl ?_
  refine lq_iconst (dcd hc h2) (by omega) ?_
  refine lq_iadd (dcd hc h3) ?_
  rw [w32_id (by omega) (by omega)]
  refine lq_sld (dcd hc h4) (by omega) (by omega) ?_
  rw [show ((i : Int) + j).toNat = i + jn by omega]
  exact k
theorem lq_call1 {μ ν : MR} {d d' i na pc : Nat} {L : ML} {as : List AV} {I : HI} (hd : decode code pc = .ok (.invokevirtual i, 3)) (hlk : Cond.methodLink R_law i (mrY μ) ∈ Wg) (hce : CV μ na) (hT : T2 μ ν d d' as I) (hd' : d ≤ 2000) (hcl : (clT 11).1 = (mrY μ).cls) (hn9 : as.length = na) (hst : st = as.reverse ++ [aR 0]) (kk : ∀ x I', Rj ν d' (aR 57 :: as) I' (fun r' I'' => r' = some (aI x) ∧ Iv I'') → Lw n xs 0 0 (pc + 3) L [aI x] (Hp I')) : Lw n xs 0 0 pc L st (Hp I) := by
  unfold T2 Rj at hT
  refine lq_callV (q := 0) (t := 11) (nn := 16) (rest := []) hd hlk hce hT hd' (Nat.le_refl _) (Nat.le_refl _) rfl (by decide) hcl hn9 hst (Nat.zero_le _) (fun r h' hq => ?_)
  obtain ⟨I1, e1, x, e2, h2⟩ := hq
  subst e1 e2
  exact kk x I1 h2
theorem lq_call2 {ν : MR} {d' i na pc : Nat} {L : ML} {x : Int} {as : List AV} {I : HI} (hd : decode code pc = .ok (.invokevirtual i, 3)) (hlk : Cond.methodLink R_law i (mrY ν) ∈ Wg) (hce : CV ν na) (hT : Rj ν d' (aR 57 :: as) I (fun r' I'' => r' = some (aI x) ∧ Iv I'')) (hd' : d' ≤ 2000) (hcl : (clT 12).1 = (mrY ν).cls) (hn9 : as.length = na) (hst : st = as.reverse ++ [aR 57, aI x]) (kk : ∀ I', Iv I' → Lw n xs 0 0 (pc + 3) L [aI x, aI x] (Hp I')) : Lw n xs 0 0 pc L st (Hp I) := by
  unfold Rj at hT
  refine lq_callV (q := 57) (t := 12) (nn := 71) (rest := [aI x]) hd hlk hce hT hd' (Nat.le_refl _) (Nat.le_refl _) rfl (by decide) hcl hn9 hst (Nat.le_of_ble_eq_true rfl) (fun r h' hq => ?_)
  obtain ⟨I1, e1, e2, h2⟩ := hq
  subst e1 e2
  exact kk I1 h2
end LWC
def cL0 : MC := [(188, .aload_n 1, 1), (189, .aload_n 0, 1), (190, .iload_n 3, 1), (191, .iconst 1, 1), (192, .iadd, 1), (193, .iaload, 1), (194, .aload_n 0, 1), (195, .iload_n 3, 1), (196, .iconst 2, 1), (197, .iadd, 1), (198, .iaload, 1), (199, .aload_n 0, 1), (200, .iload_n 3, 1), (201, .iconst 3, 1), (202, .iadd, 1), (203, .iaload, 1), (204, .aload_n 0, 1), (205, .iload_n 3, 1), (206, .iconst 4, 1), (207, .iadd, 1), (208, .iaload, 1), (209, .aload_n 0, 1), (210, .iload_n 3, 1), (211, .iconst 5, 1), (212, .iadd, 1), (213, .iaload, 1), (214, .invokevirtual 13, 3), (217, .aload_n 2, 1), (218, .aload_n 0, 1), (219, .iload_n 3, 1), (220, .iconst 1, 1), (221, .iadd, 1), (222, .iaload, 1), (223, .aload_n 0, 1), (224, .iload_n 3, 1), (225, .iconst 2, 1), (226, .iadd, 1), (227, .iaload, 1), (228, .aload_n 0, 1), (229, .iload_n 3, 1), (230, .iconst 3, 1), (231, .iadd, 1), (232, .iaload, 1), (233, .aload_n 0, 1), (234, .iload_n 3, 1), (235, .iconst 4, 1), (236, .iadd, 1), (237, .iaload, 1), (238, .aload_n 0, 1), (239, .iload_n 3, 1), (240, .iconst 5, 1), (241, .iadd, 1), (242, .iaload, 1), (243, .invokevirtual 17, 3), (246, .if_icmp .eq 967, 3)]
theorem dL0 : ∀ q ∈ cL0, decode code q.1 = .ok q.2 := by decide +kernel
theorem lk_13 : Cond.methodLink R_law 13 (mrY MX11_feed) ∈ Wg := in_W3 2 (by decide +kernel) rfl
theorem lk_17 : Cond.methodLink R_law 17 (mrY MX12_feed) ∈ Wg := in_W6 207 (by decide +kernel) rfl
theorem lc_feed {n i : Nat} {xs : Nat → Int32} {I : HI} (hn : n ≤ 3072) (hi : i + 6 ≤ n) (hI : Iv I) (k : ∀ I', Iv I' → Lw n xs 0 0 1213 (lwL i) [] (Hp I')) : Lw n xs 0 0 188 (lwL i) [] (Hp I) := by
  refine lq_aload_n (dcd dL0 rfl) rfl ?_
  refine lq_arg (jn := 1) dL0 rfl rfl rfl rfl rfl rfl (by decide) hi hn ?_
  refine lq_arg (jn := 2) dL0 rfl rfl rfl rfl rfl rfl (by decide) hi hn ?_
  refine lq_arg (jn := 3) dL0 rfl rfl rfl rfl rfl rfl (by decide) hi hn ?_
  refine lq_arg (jn := 4) dL0 rfl rfl rfl rfl rfl rfl (by decide) hi hn ?_
  refine lq_arg (jn := 5) dL0 rfl rfl rfl rfl rfl rfl (by decide) hi hn ?_
  refine lq_call1 (μ := MX11_feed) (ν := MX12_feed) (as := [aI (xs (i + 1)).toInt, aI (xs (i + 2)).toInt, aI (xs (i + 3)).toInt, aI (xs (i + 4)).toInt, aI (xs (i + 5)).toInt]) (dcd dL0 rfl) lk_13 cvX11_feed (tw_feed hI ⟨t32_in _, t32_in _, t32_in _, t32_in _, t32_in _⟩) (by decide) rfl rfl rfl (fun x I1 h1 => ?_)
  refine lq_aload_n (dcd dL0 rfl) rfl ?_
  refine lq_arg (jn := 1) dL0 rfl rfl rfl rfl rfl rfl (by decide) hi hn ?_
  refine lq_arg (jn := 2) dL0 rfl rfl rfl rfl rfl rfl (by decide) hi hn ?_
  refine lq_arg (jn := 3) dL0 rfl rfl rfl rfl rfl rfl (by decide) hi hn ?_
  refine lq_arg (jn := 4) dL0 rfl rfl rfl rfl rfl rfl (by decide) hi hn ?_
  refine lq_arg (jn := 5) dL0 rfl rfl rfl rfl rfl rfl (by decide) hi hn ?_
  refine lq_call2 (as := [aI (xs (i + 1)).toInt, aI (xs (i + 2)).toInt, aI (xs (i + 3)).toInt, aI (xs (i + 4)).toInt, aI (xs (i + 5)).toInt]) (dcd dL0 rfl) lk_17 cvX12_feed h1 (by decide) rfl rfl rfl (fun I2 h2 => ?_)
  exact lq_icmp_eq (tgt := 1213) (dcd dL0 rfl) rfl rfl (k I2 h2)
def cL1 : MC := [(251, .aload_n 1, 1), (252, .aload_n 0, 1), (253, .iload_n 3, 1), (254, .iconst 1, 1), (255, .iadd, 1), (256, .iaload, 1), (257, .invokevirtual 18, 3), (260, .aload_n 2, 1), (261, .aload_n 0, 1), (262, .iload_n 3, 1), (263, .iconst 1, 1), (264, .iadd, 1), (265, .iaload, 1), (266, .invokevirtual 22, 3), (269, .if_icmp .eq 944, 3)]
theorem dL1 : ∀ q ∈ cL1, decode code q.1 = .ok q.2 := by decide +kernel
theorem lk_18 : Cond.methodLink R_law 18 (mrY MX11_end) ∈ Wg := in_W3 14 (by decide +kernel) rfl
theorem lk_22 : Cond.methodLink R_law 22 (mrY MX12_end) ∈ Wg := in_W6 219 (by decide +kernel) rfl
theorem lc_end {n i : Nat} {xs : Nat → Int32} {I : HI} (hn : n ≤ 3072) (hi : i + 6 ≤ n) (hI : Iv I) (k : ∀ I', Iv I' → Lw n xs 0 0 1213 (lwL i) [] (Hp I')) : Lw n xs 0 0 251 (lwL i) [] (Hp I) := by
  refine lq_aload_n (dcd dL1 rfl) rfl ?_
  refine lq_arg (jn := 1) dL1 rfl rfl rfl rfl rfl rfl (by decide) hi hn ?_
  refine lq_call1 (μ := MX11_end) (ν := MX12_end) (as := [aI (xs (i + 1)).toInt]) (dcd dL1 rfl) lk_18 cvX11_end (tw_end hI) (by decide) rfl rfl rfl (fun x I1 h1 => ?_)
  refine lq_aload_n (dcd dL1 rfl) rfl ?_
  refine lq_arg (jn := 1) dL1 rfl rfl rfl rfl rfl rfl (by decide) hi hn ?_
  refine lq_call2 (as := [aI (xs (i + 1)).toInt]) (dcd dL1 rfl) lk_22 cvX12_end h1 (by decide) rfl rfl rfl (fun I2 h2 => ?_)
  exact lq_icmp_eq (tgt := 1213) (dcd dL1 rfl) rfl rfl (k I2 h2)
def cL2 : MC := [(274, .aload_n 1, 1), (275, .invokevirtual 23, 3), (278, .aload_n 2, 1), (279, .invokevirtual 27, 3), (282, .if_icmp .eq 931, 3)]
theorem dL2 : ∀ q ∈ cL2, decode code q.1 = .ok q.2 := by decide +kernel
theorem lk_23 : Cond.methodLink R_law 23 (mrY MX11_harbour) ∈ Wg := in_W3 22 (by decide +kernel) rfl
theorem lk_27 : Cond.methodLink R_law 27 (mrY MX12_harbour) ∈ Wg := in_W6 223 (by decide +kernel) rfl
theorem lc_harbour {n i : Nat} {xs : Nat → Int32} {I : HI} (hn : n ≤ 3072) (hi : i + 6 ≤ n) (hI : Iv I) (k : ∀ I', Iv I' → Lw n xs 0 0 1213 (lwL i) [] (Hp I')) : Lw n xs 0 0 274 (lwL i) [] (Hp I) := by
  refine lq_aload_n (dcd dL2 rfl) rfl ?_
  refine lq_call1 (μ := MX11_harbour) (ν := MX12_harbour) (as := []) (dcd dL2 rfl) lk_23 cvX11_harbour (tw_harbour hI) (by decide) rfl rfl rfl (fun x I1 h1 => ?_)
  refine lq_aload_n (dcd dL2 rfl) rfl ?_
  refine lq_call2 (as := []) (dcd dL2 rfl) lk_27 cvX12_harbour h1 (by decide) rfl rfl rfl (fun I2 h2 => ?_)
  exact lq_icmp_eq (tgt := 1213) (dcd dL2 rfl) rfl rfl (k I2 h2)
def cL3 : MC := [(287, .aload_n 1, 1), (288, .aload_n 0, 1), (289, .iload_n 3, 1), (290, .iconst 1, 1), (291, .iadd, 1), (292, .iaload, 1), (293, .invokevirtual 28, 3), (296, .aload_n 2, 1), (297, .aload_n 0, 1), (298, .iload_n 3, 1), (299, .iconst 1, 1), (300, .iadd, 1), (301, .iaload, 1), (302, .invokevirtual 32, 3), (305, .if_icmp .eq 908, 3)]
theorem dL3 : ∀ q ∈ cL3, decode code q.1 = .ok q.2 := by decide +kernel
theorem lk_28 : Cond.methodLink R_law 28 (mrY MX11_fault) ∈ Wg := in_W4 2 (by decide +kernel) rfl
theorem lk_32 : Cond.methodLink R_law 32 (mrY MX12_fault) ∈ Wg := in_W7 166 (by decide +kernel) rfl
theorem lc_fault {n i : Nat} {xs : Nat → Int32} {I : HI} (hn : n ≤ 3072) (hi : i + 6 ≤ n) (hI : Iv I) (k : ∀ I', Iv I' → Lw n xs 0 0 1213 (lwL i) [] (Hp I')) : Lw n xs 0 0 287 (lwL i) [] (Hp I) := by
  refine lq_aload_n (dcd dL3 rfl) rfl ?_
  refine lq_arg (jn := 1) dL3 rfl rfl rfl rfl rfl rfl (by decide) hi hn ?_
  refine lq_call1 (μ := MX11_fault) (ν := MX12_fault) (as := [aI (xs (i + 1)).toInt]) (dcd dL3 rfl) lk_28 cvX11_fault (tw_fault hI) (by decide) rfl rfl rfl (fun x I1 h1 => ?_)
  refine lq_aload_n (dcd dL3 rfl) rfl ?_
  refine lq_arg (jn := 1) dL3 rfl rfl rfl rfl rfl rfl (by decide) hi hn ?_
  refine lq_call2 (as := [aI (xs (i + 1)).toInt]) (dcd dL3 rfl) lk_32 cvX12_fault h1 (by decide) rfl rfl rfl (fun I2 h2 => ?_)
  exact lq_icmp_eq (tgt := 1213) (dcd dL3 rfl) rfl rfl (k I2 h2)
def cL4 : MC := [(310, .aload_n 1, 1), (311, .aload_n 0, 1), (312, .iload_n 3, 1), (313, .iconst 1, 1), (314, .iadd, 1), (315, .iaload, 1), (316, .invokevirtual 33, 3), (319, .aload_n 2, 1), (320, .aload_n 0, 1), (321, .iload_n 3, 1), (322, .iconst 1, 1), (323, .iadd, 1), (324, .iaload, 1), (325, .invokevirtual 36, 3), (328, .if_icmp .eq 885, 3)]
theorem dL4 : ∀ q ∈ cL4, decode code q.1 = .ok q.2 := by decide +kernel
theorem lk_33 : Cond.methodLink R_law 33 (mrY MX11_has) ∈ Wg := in_W4 6 (by decide +kernel) rfl
theorem lk_36 : Cond.methodLink R_law 36 (mrY MX12_has) ∈ Wg := in_W7 186 (by decide +kernel) rfl
theorem lc_has {n i : Nat} {xs : Nat → Int32} {I : HI} (hn : n ≤ 3072) (hi : i + 6 ≤ n) (hI : Iv I) (k : ∀ I', Iv I' → Lw n xs 0 0 1213 (lwL i) [] (Hp I')) : Lw n xs 0 0 310 (lwL i) [] (Hp I) := by
  refine lq_aload_n (dcd dL4 rfl) rfl ?_
  refine lq_arg (jn := 1) dL4 rfl rfl rfl rfl rfl rfl (by decide) hi hn ?_
  refine lq_call1 (μ := MX11_has) (ν := MX12_has) (as := [aI (xs (i + 1)).toInt]) (dcd dL4 rfl) lk_33 cvX11_has (tw_has hI) (by decide) rfl rfl rfl (fun x I1 h1 => ?_)
  refine lq_aload_n (dcd dL4 rfl) rfl ?_
  refine lq_arg (jn := 1) dL4 rfl rfl rfl rfl rfl rfl (by decide) hi hn ?_
  refine lq_call2 (as := [aI (xs (i + 1)).toInt]) (dcd dL4 rfl) lk_36 cvX12_has h1 (by decide) rfl rfl rfl (fun I2 h2 => ?_)
  exact lq_icmp_eq (tgt := 1213) (dcd dL4 rfl) rfl rfl (k I2 h2)
def cL5 : MC := [(333, .aload_n 1, 1), (334, .aload_n 0, 1), (335, .iload_n 3, 1), (336, .iconst 1, 1), (337, .iadd, 1), (338, .iaload, 1), (339, .aload_n 0, 1), (340, .iload_n 3, 1), (341, .iconst 2, 1), (342, .iadd, 1), (343, .iaload, 1), (344, .aload_n 0, 1), (345, .iload_n 3, 1), (346, .iconst 3, 1), (347, .iadd, 1), (348, .iaload, 1), (349, .invokevirtual 37, 3), (352, .aload_n 2, 1), (353, .aload_n 0, 1), (354, .iload_n 3, 1), (355, .iconst 1, 1), (356, .iadd, 1), (357, .iaload, 1), (358, .aload_n 0, 1), (359, .iload_n 3, 1), (360, .iconst 2, 1), (361, .iadd, 1), (362, .iaload, 1), (363, .aload_n 0, 1), (364, .iload_n 3, 1), (365, .iconst 3, 1), (366, .iadd, 1), (367, .iaload, 1), (368, .invokevirtual 41, 3), (371, .if_icmp .eq 842, 3)]
theorem dL5 : ∀ q ∈ cL5, decode code q.1 = .ok q.2 := by decide +kernel
theorem lk_37 : Cond.methodLink R_law 37 (mrY MX11_letter) ∈ Wg := in_W4 57 (by decide +kernel) rfl
theorem lk_41 : Cond.methodLink R_law 41 (mrY MX12_letter) ∈ Wg := in_W7 229 (by decide +kernel) rfl
theorem lc_letter {n i : Nat} {xs : Nat → Int32} {I : HI} (hn : n ≤ 3072) (hi : i + 6 ≤ n) (hI : Iv I) (k : ∀ I', Iv I' → Lw n xs 0 0 1213 (lwL i) [] (Hp I')) : Lw n xs 0 0 333 (lwL i) [] (Hp I) := by
  refine lq_aload_n (dcd dL5 rfl) rfl ?_
  refine lq_arg (jn := 1) dL5 rfl rfl rfl rfl rfl rfl (by decide) hi hn ?_
  refine lq_arg (jn := 2) dL5 rfl rfl rfl rfl rfl rfl (by decide) hi hn ?_
  refine lq_arg (jn := 3) dL5 rfl rfl rfl rfl rfl rfl (by decide) hi hn ?_
  refine lq_call1 (μ := MX11_letter) (ν := MX12_letter) (as := [aI (xs (i + 1)).toInt, aI (xs (i + 2)).toInt, aI (xs (i + 3)).toInt]) (dcd dL5 rfl) lk_37 cvX11_letter (tw_letter hI) (by decide) rfl rfl rfl (fun x I1 h1 => ?_)
  refine lq_aload_n (dcd dL5 rfl) rfl ?_
  refine lq_arg (jn := 1) dL5 rfl rfl rfl rfl rfl rfl (by decide) hi hn ?_
  refine lq_arg (jn := 2) dL5 rfl rfl rfl rfl rfl rfl (by decide) hi hn ?_
  refine lq_arg (jn := 3) dL5 rfl rfl rfl rfl rfl rfl (by decide) hi hn ?_
  refine lq_call2 (as := [aI (xs (i + 1)).toInt, aI (xs (i + 2)).toInt, aI (xs (i + 3)).toInt]) (dcd dL5 rfl) lk_41 cvX12_letter h1 (by decide) rfl rfl rfl (fun I2 h2 => ?_)
  exact lq_icmp_eq (tgt := 1213) (dcd dL5 rfl) rfl rfl (k I2 h2)
def cL6 : MC := [(376, .aload_n 1, 1), (377, .aload_n 0, 1), (378, .iload_n 3, 1), (379, .iconst 1, 1), (380, .iadd, 1), (381, .iaload, 1), (382, .aload_n 0, 1), (383, .iload_n 3, 1), (384, .iconst 2, 1), (385, .iadd, 1), (386, .iaload, 1), (387, .invokevirtual 42, 3), (390, .aload_n 2, 1), (391, .aload_n 0, 1), (392, .iload_n 3, 1), (393, .iconst 1, 1), (394, .iadd, 1), (395, .iaload, 1), (396, .aload_n 0, 1), (397, .iload_n 3, 1), (398, .iconst 2, 1), (399, .iadd, 1), (400, .iaload, 1), (401, .invokevirtual 46, 3), (404, .if_icmp .eq 809, 3)]
theorem dL6 : ∀ q ∈ cL6, decode code q.1 = .ok q.2 := by decide +kernel
theorem lk_42 : Cond.methodLink R_law 42 (mrY MX11_ware) ∈ Wg := in_W4 63 (by decide +kernel) rfl
theorem lk_46 : Cond.methodLink R_law 46 (mrY MX12_ware) ∈ Wg := in_W7 234 (by decide +kernel) rfl
theorem lc_ware {n i : Nat} {xs : Nat → Int32} {I : HI} (hn : n ≤ 3072) (hi : i + 6 ≤ n) (hI : Iv I) (k : ∀ I', Iv I' → Lw n xs 0 0 1213 (lwL i) [] (Hp I')) : Lw n xs 0 0 376 (lwL i) [] (Hp I) := by
  refine lq_aload_n (dcd dL6 rfl) rfl ?_
  refine lq_arg (jn := 1) dL6 rfl rfl rfl rfl rfl rfl (by decide) hi hn ?_
  refine lq_arg (jn := 2) dL6 rfl rfl rfl rfl rfl rfl (by decide) hi hn ?_
  refine lq_call1 (μ := MX11_ware) (ν := MX12_ware) (as := [aI (xs (i + 1)).toInt, aI (xs (i + 2)).toInt]) (dcd dL6 rfl) lk_42 cvX11_ware (tw_ware hI) (by decide) rfl rfl rfl (fun x I1 h1 => ?_)
  refine lq_aload_n (dcd dL6 rfl) rfl ?_
  refine lq_arg (jn := 1) dL6 rfl rfl rfl rfl rfl rfl (by decide) hi hn ?_
  refine lq_arg (jn := 2) dL6 rfl rfl rfl rfl rfl rfl (by decide) hi hn ?_
  refine lq_call2 (as := [aI (xs (i + 1)).toInt, aI (xs (i + 2)).toInt]) (dcd dL6 rfl) lk_46 cvX12_ware h1 (by decide) rfl rfl rfl (fun I2 h2 => ?_)
  exact lq_icmp_eq (tgt := 1213) (dcd dL6 rfl) rfl rfl (k I2 h2)
def cL7 : MC := [(409, .aload_n 1, 1), (410, .aload_n 0, 1), (411, .iload_n 3, 1), (412, .iconst 1, 1), (413, .iadd, 1), (414, .iaload, 1), (415, .aload_n 0, 1), (416, .iload_n 3, 1), (417, .iconst 2, 1), (418, .iadd, 1), (419, .iaload, 1), (420, .invokevirtual 47, 3), (423, .aload_n 2, 1), (424, .aload_n 0, 1), (425, .iload_n 3, 1), (426, .iconst 1, 1), (427, .iadd, 1), (428, .iaload, 1), (429, .aload_n 0, 1), (430, .iload_n 3, 1), (431, .iconst 2, 1), (432, .iadd, 1), (433, .iaload, 1), (434, .invokevirtual 50, 3), (437, .if_icmp .eq 776, 3)]
theorem dL7 : ∀ q ∈ cL7, decode code q.1 = .ok q.2 := by decide +kernel
theorem lk_47 : Cond.methodLink R_law 47 (mrY MX11_ship) ∈ Wg := in_W4 77 (by decide +kernel) rfl
theorem lk_50 : Cond.methodLink R_law 50 (mrY MX12_ship) ∈ Wg := in_W8 2 (by decide +kernel) rfl
theorem lc_ship {n i : Nat} {xs : Nat → Int32} {I : HI} (hn : n ≤ 3072) (hi : i + 6 ≤ n) (hI : Iv I) (k : ∀ I', Iv I' → Lw n xs 0 0 1213 (lwL i) [] (Hp I')) : Lw n xs 0 0 409 (lwL i) [] (Hp I) := by
  refine lq_aload_n (dcd dL7 rfl) rfl ?_
  refine lq_arg (jn := 1) dL7 rfl rfl rfl rfl rfl rfl (by decide) hi hn ?_
  refine lq_arg (jn := 2) dL7 rfl rfl rfl rfl rfl rfl (by decide) hi hn ?_
  refine lq_call1 (μ := MX11_ship) (ν := MX12_ship) (as := [aI (xs (i + 1)).toInt, aI (xs (i + 2)).toInt]) (dcd dL7 rfl) lk_47 cvX11_ship (tw_ship hI) (by decide) rfl rfl rfl (fun x I1 h1 => ?_)
  refine lq_aload_n (dcd dL7 rfl) rfl ?_
  refine lq_arg (jn := 1) dL7 rfl rfl rfl rfl rfl rfl (by decide) hi hn ?_
  refine lq_arg (jn := 2) dL7 rfl rfl rfl rfl rfl rfl (by decide) hi hn ?_
  refine lq_call2 (as := [aI (xs (i + 1)).toInt, aI (xs (i + 2)).toInt]) (dcd dL7 rfl) lk_50 cvX12_ship h1 (by decide) rfl rfl rfl (fun I2 h2 => ?_)
  exact lq_icmp_eq (tgt := 1213) (dcd dL7 rfl) rfl rfl (k I2 h2)
def cL8 : MC := [(442, .aload_n 1, 1), (443, .aload_n 0, 1), (444, .iload_n 3, 1), (445, .iconst 1, 1), (446, .iadd, 1), (447, .iaload, 1), (448, .invokevirtual 51, 3), (451, .aload_n 2, 1), (452, .aload_n 0, 1), (453, .iload_n 3, 1), (454, .iconst 1, 1), (455, .iadd, 1), (456, .iaload, 1), (457, .invokevirtual 54, 3), (460, .if_icmp .eq 753, 3)]
theorem dL8 : ∀ q ∈ cL8, decode code q.1 = .ok q.2 := by decide +kernel
theorem lk_51 : Cond.methodLink R_law 51 (mrY MX11_tips) ∈ Wg := in_W4 108 (by decide +kernel) rfl
theorem lk_54 : Cond.methodLink R_law 54 (mrY MX12_tips) ∈ Wg := in_W8 31 (by decide +kernel) rfl
theorem lc_tips {n i : Nat} {xs : Nat → Int32} {I : HI} (hn : n ≤ 3072) (hi : i + 6 ≤ n) (hI : Iv I) (k : ∀ I', Iv I' → Lw n xs 0 0 1213 (lwL i) [] (Hp I')) : Lw n xs 0 0 442 (lwL i) [] (Hp I) := by
  refine lq_aload_n (dcd dL8 rfl) rfl ?_
  refine lq_arg (jn := 1) dL8 rfl rfl rfl rfl rfl rfl (by decide) hi hn ?_
  refine lq_call1 (μ := MX11_tips) (ν := MX12_tips) (as := [aI (xs (i + 1)).toInt]) (dcd dL8 rfl) lk_51 cvX11_tips (tw_tips hI) (by decide) rfl rfl rfl (fun x I1 h1 => ?_)
  refine lq_aload_n (dcd dL8 rfl) rfl ?_
  refine lq_arg (jn := 1) dL8 rfl rfl rfl rfl rfl rfl (by decide) hi hn ?_
  refine lq_call2 (as := [aI (xs (i + 1)).toInt]) (dcd dL8 rfl) lk_54 cvX12_tips h1 (by decide) rfl rfl rfl (fun I2 h2 => ?_)
  exact lq_icmp_eq (tgt := 1213) (dcd dL8 rfl) rfl rfl (k I2 h2)
def cL9 : MC := [(465, .aload_n 1, 1), (466, .aload_n 0, 1), (467, .iload_n 3, 1), (468, .iconst 1, 1), (469, .iadd, 1), (470, .iaload, 1), (471, .aload_n 0, 1), (472, .iload_n 3, 1), (473, .iconst 2, 1), (474, .iadd, 1), (475, .iaload, 1), (476, .aload_n 0, 1), (477, .iload_n 3, 1), (478, .iconst 3, 1), (479, .iadd, 1), (480, .iaload, 1), (481, .invokevirtual 55, 3), (484, .aload_n 2, 1), (485, .aload_n 0, 1), (486, .iload_n 3, 1), (487, .iconst 1, 1), (488, .iadd, 1), (489, .iaload, 1), (490, .aload_n 0, 1), (491, .iload_n 3, 1), (492, .iconst 2, 1), (493, .iadd, 1), (494, .iaload, 1), (495, .aload_n 0, 1), (496, .iload_n 3, 1), (497, .iconst 3, 1), (498, .iadd, 1), (499, .iaload, 1), (500, .invokevirtual 58, 3), (503, .if_icmp .eq 710, 3)]
theorem dL9 : ∀ q ∈ cL9, decode code q.1 = .ok q.2 := by decide +kernel
theorem lk_55 : Cond.methodLink R_law 55 (mrY MX11_crates) ∈ Wg := in_W4 117 (by decide +kernel) rfl
theorem lk_58 : Cond.methodLink R_law 58 (mrY MX12_crates) ∈ Wg := in_W8 36 (by decide +kernel) rfl
theorem lc_crates {n i : Nat} {xs : Nat → Int32} {I : HI} (hn : n ≤ 3072) (hi : i + 6 ≤ n) (hI : Iv I) (k : ∀ I', Iv I' → Lw n xs 0 0 1213 (lwL i) [] (Hp I')) : Lw n xs 0 0 465 (lwL i) [] (Hp I) := by
  refine lq_aload_n (dcd dL9 rfl) rfl ?_
  refine lq_arg (jn := 1) dL9 rfl rfl rfl rfl rfl rfl (by decide) hi hn ?_
  refine lq_arg (jn := 2) dL9 rfl rfl rfl rfl rfl rfl (by decide) hi hn ?_
  refine lq_arg (jn := 3) dL9 rfl rfl rfl rfl rfl rfl (by decide) hi hn ?_
  refine lq_call1 (μ := MX11_crates) (ν := MX12_crates) (as := [aI (xs (i + 1)).toInt, aI (xs (i + 2)).toInt, aI (xs (i + 3)).toInt]) (dcd dL9 rfl) lk_55 cvX11_crates (tw_crates hI) (by decide) rfl rfl rfl (fun x I1 h1 => ?_)
  refine lq_aload_n (dcd dL9 rfl) rfl ?_
  refine lq_arg (jn := 1) dL9 rfl rfl rfl rfl rfl rfl (by decide) hi hn ?_
  refine lq_arg (jn := 2) dL9 rfl rfl rfl rfl rfl rfl (by decide) hi hn ?_
  refine lq_arg (jn := 3) dL9 rfl rfl rfl rfl rfl rfl (by decide) hi hn ?_
  refine lq_call2 (as := [aI (xs (i + 1)).toInt, aI (xs (i + 2)).toInt, aI (xs (i + 3)).toInt]) (dcd dL9 rfl) lk_58 cvX12_crates h1 (by decide) rfl rfl rfl (fun I2 h2 => ?_)
  exact lq_icmp_eq (tgt := 1213) (dcd dL9 rfl) rfl rfl (k I2 h2)
def cL10 : MC := [(508, .aload_n 1, 1), (509, .aload_n 0, 1), (510, .iload_n 3, 1), (511, .iconst 1, 1), (512, .iadd, 1), (513, .iaload, 1), (514, .aload_n 0, 1), (515, .iload_n 3, 1), (516, .iconst 2, 1), (517, .iadd, 1), (518, .iaload, 1), (519, .invokevirtual 59, 3), (522, .aload_n 2, 1), (523, .aload_n 0, 1), (524, .iload_n 3, 1), (525, .iconst 1, 1), (526, .iadd, 1), (527, .iaload, 1), (528, .aload_n 0, 1), (529, .iload_n 3, 1), (530, .iconst 2, 1), (531, .iadd, 1), (532, .iaload, 1), (533, .invokevirtual 62, 3), (536, .if_icmp .eq 677, 3)]
theorem dL10 : ∀ q ∈ cL10, decode code q.1 = .ok q.2 := by decide +kernel
theorem lk_59 : Cond.methodLink R_law 59 (mrY MX11_berth) ∈ Wg := in_W4 123 (by decide +kernel) rfl
theorem lk_62 : Cond.methodLink R_law 62 (mrY MX12_berth) ∈ Wg := in_W8 44 (by decide +kernel) rfl
theorem lc_berth {n i : Nat} {xs : Nat → Int32} {I : HI} (hn : n ≤ 3072) (hi : i + 6 ≤ n) (hI : Iv I) (k : ∀ I', Iv I' → Lw n xs 0 0 1213 (lwL i) [] (Hp I')) : Lw n xs 0 0 508 (lwL i) [] (Hp I) := by
  refine lq_aload_n (dcd dL10 rfl) rfl ?_
  refine lq_arg (jn := 1) dL10 rfl rfl rfl rfl rfl rfl (by decide) hi hn ?_
  refine lq_arg (jn := 2) dL10 rfl rfl rfl rfl rfl rfl (by decide) hi hn ?_
  refine lq_call1 (μ := MX11_berth) (ν := MX12_berth) (as := [aI (xs (i + 1)).toInt, aI (xs (i + 2)).toInt]) (dcd dL10 rfl) lk_59 cvX11_berth (tw_berth hI) (by decide) rfl rfl rfl (fun x I1 h1 => ?_)
  refine lq_aload_n (dcd dL10 rfl) rfl ?_
  refine lq_arg (jn := 1) dL10 rfl rfl rfl rfl rfl rfl (by decide) hi hn ?_
  refine lq_arg (jn := 2) dL10 rfl rfl rfl rfl rfl rfl (by decide) hi hn ?_
  refine lq_call2 (as := [aI (xs (i + 1)).toInt, aI (xs (i + 2)).toInt]) (dcd dL10 rfl) lk_62 cvX12_berth h1 (by decide) rfl rfl rfl (fun I2 h2 => ?_)
  exact lq_icmp_eq (tgt := 1213) (dcd dL10 rfl) rfl rfl (k I2 h2)
def cL11 : MC := [(541, .aload_n 1, 1), (542, .aload_n 0, 1), (543, .iload_n 3, 1), (544, .iconst 1, 1), (545, .iadd, 1), (546, .iaload, 1), (547, .aload_n 0, 1), (548, .iload_n 3, 1), (549, .iconst 2, 1), (550, .iadd, 1), (551, .iaload, 1), (552, .invokevirtual 63, 3), (555, .aload_n 2, 1), (556, .aload_n 0, 1), (557, .iload_n 3, 1), (558, .iconst 1, 1), (559, .iadd, 1), (560, .iaload, 1), (561, .aload_n 0, 1), (562, .iload_n 3, 1), (563, .iconst 2, 1), (564, .iadd, 1), (565, .iaload, 1), (566, .invokevirtual 66, 3), (569, .if_icmp .eq 644, 3)]
theorem dL11 : ∀ q ∈ cL11, decode code q.1 = .ok q.2 := by decide +kernel
theorem lk_63 : Cond.methodLink R_law 63 (mrY MX11_tide) ∈ Wg := in_W4 137 (by decide +kernel) rfl
theorem lk_66 : Cond.methodLink R_law 66 (mrY MX12_tide) ∈ Wg := in_W8 60 (by decide +kernel) rfl
theorem lc_tide {n i : Nat} {xs : Nat → Int32} {I : HI} (hn : n ≤ 3072) (hi : i + 6 ≤ n) (hI : Iv I) (k : ∀ I', Iv I' → Lw n xs 0 0 1213 (lwL i) [] (Hp I')) : Lw n xs 0 0 541 (lwL i) [] (Hp I) := by
  refine lq_aload_n (dcd dL11 rfl) rfl ?_
  refine lq_arg (jn := 1) dL11 rfl rfl rfl rfl rfl rfl (by decide) hi hn ?_
  refine lq_arg (jn := 2) dL11 rfl rfl rfl rfl rfl rfl (by decide) hi hn ?_
  refine lq_call1 (μ := MX11_tide) (ν := MX12_tide) (as := [aI (xs (i + 1)).toInt, aI (xs (i + 2)).toInt]) (dcd dL11 rfl) lk_63 cvX11_tide (tw_tide hI) (by decide) rfl rfl rfl (fun x I1 h1 => ?_)
  refine lq_aload_n (dcd dL11 rfl) rfl ?_
  refine lq_arg (jn := 1) dL11 rfl rfl rfl rfl rfl rfl (by decide) hi hn ?_
  refine lq_arg (jn := 2) dL11 rfl rfl rfl rfl rfl rfl (by decide) hi hn ?_
  refine lq_call2 (as := [aI (xs (i + 1)).toInt, aI (xs (i + 2)).toInt]) (dcd dL11 rfl) lk_66 cvX12_tide h1 (by decide) rfl rfl rfl (fun I2 h2 => ?_)
  exact lq_icmp_eq (tgt := 1213) (dcd dL11 rfl) rfl rfl (k I2 h2)
def cL12 : MC := [(574, .aload_n 1, 1), (575, .aload_n 0, 1), (576, .iload_n 3, 1), (577, .iconst 1, 1), (578, .iadd, 1), (579, .iaload, 1), (580, .aload_n 0, 1), (581, .iload_n 3, 1), (582, .iconst 2, 1), (583, .iadd, 1), (584, .iaload, 1), (585, .invokevirtual 67, 3), (588, .aload_n 2, 1), (589, .aload_n 0, 1), (590, .iload_n 3, 1), (591, .iconst 1, 1), (592, .iadd, 1), (593, .iaload, 1), (594, .aload_n 0, 1), (595, .iload_n 3, 1), (596, .iconst 2, 1), (597, .iadd, 1), (598, .iaload, 1), (599, .invokevirtual 70, 3), (602, .if_icmp .eq 611, 3)]
theorem dL12 : ∀ q ∈ cL12, decode code q.1 = .ok q.2 := by decide +kernel
theorem lk_67 : Cond.methodLink R_law 67 (mrY MX11_rides) ∈ Wg := in_W4 141 (by decide +kernel) rfl
theorem lk_70 : Cond.methodLink R_law 70 (mrY MX12_rides) ∈ Wg := in_W8 64 (by decide +kernel) rfl
theorem lc_rides {n i : Nat} {xs : Nat → Int32} {I : HI} (hn : n ≤ 3072) (hi : i + 6 ≤ n) (hI : Iv I) (k : ∀ I', Iv I' → Lw n xs 0 0 1213 (lwL i) [] (Hp I')) : Lw n xs 0 0 574 (lwL i) [] (Hp I) := by
  refine lq_aload_n (dcd dL12 rfl) rfl ?_
  refine lq_arg (jn := 1) dL12 rfl rfl rfl rfl rfl rfl (by decide) hi hn ?_
  refine lq_arg (jn := 2) dL12 rfl rfl rfl rfl rfl rfl (by decide) hi hn ?_
  refine lq_call1 (μ := MX11_rides) (ν := MX12_rides) (as := [aI (xs (i + 1)).toInt, aI (xs (i + 2)).toInt]) (dcd dL12 rfl) lk_67 cvX11_rides (tw_rides hI) (by decide) rfl rfl rfl (fun x I1 h1 => ?_)
  refine lq_aload_n (dcd dL12 rfl) rfl ?_
  refine lq_arg (jn := 1) dL12 rfl rfl rfl rfl rfl rfl (by decide) hi hn ?_
  refine lq_arg (jn := 2) dL12 rfl rfl rfl rfl rfl rfl (by decide) hi hn ?_
  refine lq_call2 (as := [aI (xs (i + 1)).toInt, aI (xs (i + 2)).toInt]) (dcd dL12 rfl) lk_70 cvX12_rides h1 (by decide) rfl rfl rfl (fun I2 h2 => ?_)
  exact lq_icmp_eq (tgt := 1213) (dcd dL12 rfl) rfl rfl (k I2 h2)
def cL13 : MC := [(607, .aload_n 1, 1), (608, .aload_n 0, 1), (609, .iload_n 3, 1), (610, .iconst 1, 1), (611, .iadd, 1), (612, .iaload, 1), (613, .invokevirtual 71, 3), (616, .aload_n 2, 1), (617, .aload_n 0, 1), (618, .iload_n 3, 1), (619, .iconst 1, 1), (620, .iadd, 1), (621, .iaload, 1), (622, .invokevirtual 74, 3), (625, .if_icmp .eq 588, 3)]
theorem dL13 : ∀ q ∈ cL13, decode code q.1 = .ok q.2 := by decide +kernel
theorem lk_71 : Cond.methodLink R_law 71 (mrY MX11_adrift) ∈ Wg := in_W4 149 (by decide +kernel) rfl
theorem lk_74 : Cond.methodLink R_law 74 (mrY MX12_adrift) ∈ Wg := in_W8 72 (by decide +kernel) rfl
theorem lc_adrift {n i : Nat} {xs : Nat → Int32} {I : HI} (hn : n ≤ 3072) (hi : i + 6 ≤ n) (hI : Iv I) (k : ∀ I', Iv I' → Lw n xs 0 0 1213 (lwL i) [] (Hp I')) : Lw n xs 0 0 607 (lwL i) [] (Hp I) := by
  refine lq_aload_n (dcd dL13 rfl) rfl ?_
  refine lq_arg (jn := 1) dL13 rfl rfl rfl rfl rfl rfl (by decide) hi hn ?_
  refine lq_call1 (μ := MX11_adrift) (ν := MX12_adrift) (as := [aI (xs (i + 1)).toInt]) (dcd dL13 rfl) lk_71 cvX11_adrift (tw_adrift hI) (by decide) rfl rfl rfl (fun x I1 h1 => ?_)
  refine lq_aload_n (dcd dL13 rfl) rfl ?_
  refine lq_arg (jn := 1) dL13 rfl rfl rfl rfl rfl rfl (by decide) hi hn ?_
  refine lq_call2 (as := [aI (xs (i + 1)).toInt]) (dcd dL13 rfl) lk_74 cvX12_adrift h1 (by decide) rfl rfl rfl (fun I2 h2 => ?_)
  exact lq_icmp_eq (tgt := 1213) (dcd dL13 rfl) rfl rfl (k I2 h2)
def cL14 : MC := [(630, .aload_n 1, 1), (631, .aload_n 0, 1), (632, .iload_n 3, 1), (633, .iconst 1, 1), (634, .iadd, 1), (635, .iaload, 1), (636, .aload_n 0, 1), (637, .iload_n 3, 1), (638, .iconst 2, 1), (639, .iadd, 1), (640, .iaload, 1), (641, .aload_n 0, 1), (642, .iload_n 3, 1), (643, .iconst 3, 1), (644, .iadd, 1), (645, .iaload, 1), (646, .invokevirtual 75, 3), (649, .aload_n 2, 1), (650, .aload_n 0, 1), (651, .iload_n 3, 1), (652, .iconst 1, 1), (653, .iadd, 1), (654, .iaload, 1), (655, .aload_n 0, 1), (656, .iload_n 3, 1), (657, .iconst 2, 1), (658, .iadd, 1), (659, .iaload, 1), (660, .aload_n 0, 1), (661, .iload_n 3, 1), (662, .iconst 3, 1), (663, .iadd, 1), (664, .iaload, 1), (665, .invokevirtual 78, 3), (668, .if_icmp .eq 545, 3)]
theorem dL14 : ∀ q ∈ cL14, decode code q.1 = .ok q.2 := by decide +kernel
theorem lk_75 : Cond.methodLink R_law 75 (mrY MX11_alike) ∈ Wg := in_W4 161 (by decide +kernel) rfl
theorem lk_78 : Cond.methodLink R_law 78 (mrY MX12_alike) ∈ Wg := in_W8 76 (by decide +kernel) rfl
theorem lc_alike {n i : Nat} {xs : Nat → Int32} {I : HI} (hn : n ≤ 3072) (hi : i + 6 ≤ n) (hI : Iv I) (k : ∀ I', Iv I' → Lw n xs 0 0 1213 (lwL i) [] (Hp I')) : Lw n xs 0 0 630 (lwL i) [] (Hp I) := by
  refine lq_aload_n (dcd dL14 rfl) rfl ?_
  refine lq_arg (jn := 1) dL14 rfl rfl rfl rfl rfl rfl (by decide) hi hn ?_
  refine lq_arg (jn := 2) dL14 rfl rfl rfl rfl rfl rfl (by decide) hi hn ?_
  refine lq_arg (jn := 3) dL14 rfl rfl rfl rfl rfl rfl (by decide) hi hn ?_
  refine lq_call1 (μ := MX11_alike) (ν := MX12_alike) (as := [aI (xs (i + 1)).toInt, aI (xs (i + 2)).toInt, aI (xs (i + 3)).toInt]) (dcd dL14 rfl) lk_75 cvX11_alike (tw_alike hI) (by decide) rfl rfl rfl (fun x I1 h1 => ?_)
  refine lq_aload_n (dcd dL14 rfl) rfl ?_
  refine lq_arg (jn := 1) dL14 rfl rfl rfl rfl rfl rfl (by decide) hi hn ?_
  refine lq_arg (jn := 2) dL14 rfl rfl rfl rfl rfl rfl (by decide) hi hn ?_
  refine lq_arg (jn := 3) dL14 rfl rfl rfl rfl rfl rfl (by decide) hi hn ?_
  refine lq_call2 (as := [aI (xs (i + 1)).toInt, aI (xs (i + 2)).toInt, aI (xs (i + 3)).toInt]) (dcd dL14 rfl) lk_78 cvX12_alike h1 (by decide) rfl rfl rfl (fun I2 h2 => ?_)
  exact lq_icmp_eq (tgt := 1213) (dcd dL14 rfl) rfl rfl (k I2 h2)
def cL15 : MC := [(673, .aload_n 1, 1), (674, .aload_n 0, 1), (675, .iload_n 3, 1), (676, .iconst 1, 1), (677, .iadd, 1), (678, .iaload, 1), (679, .aload_n 0, 1), (680, .iload_n 3, 1), (681, .iconst 2, 1), (682, .iadd, 1), (683, .iaload, 1), (684, .invokevirtual 79, 3), (687, .aload_n 2, 1), (688, .aload_n 0, 1), (689, .iload_n 3, 1), (690, .iconst 1, 1), (691, .iadd, 1), (692, .iaload, 1), (693, .aload_n 0, 1), (694, .iload_n 3, 1), (695, .iconst 2, 1), (696, .iadd, 1), (697, .iaload, 1), (698, .invokevirtual 82, 3), (701, .if_icmp .eq 512, 3)]
theorem dL15 : ∀ q ∈ cL15, decode code q.1 = .ok q.2 := by decide +kernel
theorem lk_79 : Cond.methodLink R_law 79 (mrY MX11_berthed) ∈ Wg := in_W4 165 (by decide +kernel) rfl
theorem lk_82 : Cond.methodLink R_law 82 (mrY MX12_berthed) ∈ Wg := in_W8 80 (by decide +kernel) rfl
theorem lc_berthed {n i : Nat} {xs : Nat → Int32} {I : HI} (hn : n ≤ 3072) (hi : i + 6 ≤ n) (hI : Iv I) (k : ∀ I', Iv I' → Lw n xs 0 0 1213 (lwL i) [] (Hp I')) : Lw n xs 0 0 673 (lwL i) [] (Hp I) := by
  refine lq_aload_n (dcd dL15 rfl) rfl ?_
  refine lq_arg (jn := 1) dL15 rfl rfl rfl rfl rfl rfl (by decide) hi hn ?_
  refine lq_arg (jn := 2) dL15 rfl rfl rfl rfl rfl rfl (by decide) hi hn ?_
  refine lq_call1 (μ := MX11_berthed) (ν := MX12_berthed) (as := [aI (xs (i + 1)).toInt, aI (xs (i + 2)).toInt]) (dcd dL15 rfl) lk_79 cvX11_berthed (tw_berthed hI) (by decide) rfl rfl rfl (fun x I1 h1 => ?_)
  refine lq_aload_n (dcd dL15 rfl) rfl ?_
  refine lq_arg (jn := 1) dL15 rfl rfl rfl rfl rfl rfl (by decide) hi hn ?_
  refine lq_arg (jn := 2) dL15 rfl rfl rfl rfl rfl rfl (by decide) hi hn ?_
  refine lq_call2 (as := [aI (xs (i + 1)).toInt, aI (xs (i + 2)).toInt]) (dcd dL15 rfl) lk_82 cvX12_berthed h1 (by decide) rfl rfl rfl (fun I2 h2 => ?_)
  exact lq_icmp_eq (tgt := 1213) (dcd dL15 rfl) rfl rfl (k I2 h2)
def cL16 : MC := [(706, .aload_n 1, 1), (707, .aload_n 0, 1), (708, .iload_n 3, 1), (709, .iconst 1, 1), (710, .iadd, 1), (711, .iaload, 1), (712, .invokevirtual 83, 3), (715, .aload_n 2, 1), (716, .aload_n 0, 1), (717, .iload_n 3, 1), (718, .iconst 1, 1), (719, .iadd, 1), (720, .iaload, 1), (721, .invokevirtual 86, 3), (724, .if_icmp .eq 489, 3)]
theorem dL16 : ∀ q ∈ cL16, decode code q.1 = .ok q.2 := by decide +kernel
theorem lk_83 : Cond.methodLink R_law 83 (mrY MX11_stow) ∈ Wg := in_W4 189 (by decide +kernel) rfl
theorem lk_86 : Cond.methodLink R_law 86 (mrY MX12_stow) ∈ Wg := in_W8 84 (by decide +kernel) rfl
theorem lc_stow {n i : Nat} {xs : Nat → Int32} {I : HI} (hn : n ≤ 3072) (hi : i + 6 ≤ n) (hI : Iv I) (k : ∀ I', Iv I' → Lw n xs 0 0 1213 (lwL i) [] (Hp I')) : Lw n xs 0 0 706 (lwL i) [] (Hp I) := by
  refine lq_aload_n (dcd dL16 rfl) rfl ?_
  refine lq_arg (jn := 1) dL16 rfl rfl rfl rfl rfl rfl (by decide) hi hn ?_
  refine lq_call1 (μ := MX11_stow) (ν := MX12_stow) (as := [aI (xs (i + 1)).toInt]) (dcd dL16 rfl) lk_83 cvX11_stow (tw_stow hI) (by decide) rfl rfl rfl (fun x I1 h1 => ?_)
  refine lq_aload_n (dcd dL16 rfl) rfl ?_
  refine lq_arg (jn := 1) dL16 rfl rfl rfl rfl rfl rfl (by decide) hi hn ?_
  refine lq_call2 (as := [aI (xs (i + 1)).toInt]) (dcd dL16 rfl) lk_86 cvX12_stow h1 (by decide) rfl rfl rfl (fun I2 h2 => ?_)
  exact lq_icmp_eq (tgt := 1213) (dcd dL16 rfl) rfl rfl (k I2 h2)
def cL17 : MC := [(729, .aload_n 1, 1), (730, .aload_n 0, 1), (731, .iload_n 3, 1), (732, .iconst 1, 1), (733, .iadd, 1), (734, .iaload, 1), (735, .invokevirtual 87, 3), (738, .aload_n 2, 1), (739, .aload_n 0, 1), (740, .iload_n 3, 1), (741, .iconst 1, 1), (742, .iadd, 1), (743, .iaload, 1), (744, .invokevirtual 90, 3), (747, .if_icmp .eq 466, 3)]
theorem dL17 : ∀ q ∈ cL17, decode code q.1 = .ok q.2 := by decide +kernel
theorem lk_87 : Cond.methodLink R_law 87 (mrY MX11_stowed) ∈ Wg := in_W4 221 (by decide +kernel) rfl
theorem lk_90 : Cond.methodLink R_law 90 (mrY MX12_stowed) ∈ Wg := in_W8 93 (by decide +kernel) rfl
theorem lc_stowed {n i : Nat} {xs : Nat → Int32} {I : HI} (hn : n ≤ 3072) (hi : i + 6 ≤ n) (hI : Iv I) (k : ∀ I', Iv I' → Lw n xs 0 0 1213 (lwL i) [] (Hp I')) : Lw n xs 0 0 729 (lwL i) [] (Hp I) := by
  refine lq_aload_n (dcd dL17 rfl) rfl ?_
  refine lq_arg (jn := 1) dL17 rfl rfl rfl rfl rfl rfl (by decide) hi hn ?_
  refine lq_call1 (μ := MX11_stowed) (ν := MX12_stowed) (as := [aI (xs (i + 1)).toInt]) (dcd dL17 rfl) lk_87 cvX11_stowed (tw_stowed hI) (by decide) rfl rfl rfl (fun x I1 h1 => ?_)
  refine lq_aload_n (dcd dL17 rfl) rfl ?_
  refine lq_arg (jn := 1) dL17 rfl rfl rfl rfl rfl rfl (by decide) hi hn ?_
  refine lq_call2 (as := [aI (xs (i + 1)).toInt]) (dcd dL17 rfl) lk_90 cvX12_stowed h1 (by decide) rfl rfl rfl (fun I2 h2 => ?_)
  exact lq_icmp_eq (tgt := 1213) (dcd dL17 rfl) rfl rfl (k I2 h2)
def cL18 : MC := [(752, .aload_n 1, 1), (753, .aload_n 0, 1), (754, .iload_n 3, 1), (755, .iconst 1, 1), (756, .iadd, 1), (757, .iaload, 1), (758, .invokevirtual 91, 3), (761, .aload_n 2, 1), (762, .aload_n 0, 1), (763, .iload_n 3, 1), (764, .iconst 1, 1), (765, .iadd, 1), (766, .iaload, 1), (767, .invokevirtual 94, 3), (770, .if_icmp .eq 443, 3)]
theorem dL18 : ∀ q ∈ cL18, decode code q.1 = .ok q.2 := by decide +kernel
theorem lk_91 : Cond.methodLink R_law 91 (mrY MX11_order) ∈ Wg := in_W4 225 (by decide +kernel) rfl
theorem lk_94 : Cond.methodLink R_law 94 (mrY MX12_order) ∈ Wg := in_W8 97 (by decide +kernel) rfl
theorem lc_order {n i : Nat} {xs : Nat → Int32} {I : HI} (hn : n ≤ 3072) (hi : i + 6 ≤ n) (hI : Iv I) (k : ∀ I', Iv I' → Lw n xs 0 0 1213 (lwL i) [] (Hp I')) : Lw n xs 0 0 752 (lwL i) [] (Hp I) := by
  refine lq_aload_n (dcd dL18 rfl) rfl ?_
  refine lq_arg (jn := 1) dL18 rfl rfl rfl rfl rfl rfl (by decide) hi hn ?_
  refine lq_call1 (μ := MX11_order) (ν := MX12_order) (as := [aI (xs (i + 1)).toInt]) (dcd dL18 rfl) lk_91 cvX11_order (tw_order hI) (by decide) rfl rfl rfl (fun x I1 h1 => ?_)
  refine lq_aload_n (dcd dL18 rfl) rfl ?_
  refine lq_arg (jn := 1) dL18 rfl rfl rfl rfl rfl rfl (by decide) hi hn ?_
  refine lq_call2 (as := [aI (xs (i + 1)).toInt]) (dcd dL18 rfl) lk_94 cvX12_order h1 (by decide) rfl rfl rfl (fun I2 h2 => ?_)
  exact lq_icmp_eq (tgt := 1213) (dcd dL18 rfl) rfl rfl (k I2 h2)
def cL19 : MC := [(775, .aload_n 1, 1), (776, .aload_n 0, 1), (777, .iload_n 3, 1), (778, .iconst 1, 1), (779, .iadd, 1), (780, .iaload, 1), (781, .invokevirtual 95, 3), (784, .aload_n 2, 1), (785, .aload_n 0, 1), (786, .iload_n 3, 1), (787, .iconst 1, 1), (788, .iadd, 1), (789, .iaload, 1), (790, .invokevirtual 98, 3), (793, .if_icmp .eq 420, 3)]
theorem dL19 : ∀ q ∈ cL19, decode code q.1 = .ok q.2 := by decide +kernel
theorem lk_95 : Cond.methodLink R_law 95 (mrY MX11_ordered) ∈ Wg := in_W5 13 (by decide +kernel) rfl
theorem lk_98 : Cond.methodLink R_law 98 (mrY MX12_ordered) ∈ Wg := in_W8 117 (by decide +kernel) rfl
theorem lc_ordered {n i : Nat} {xs : Nat → Int32} {I : HI} (hn : n ≤ 3072) (hi : i + 6 ≤ n) (hI : Iv I) (k : ∀ I', Iv I' → Lw n xs 0 0 1213 (lwL i) [] (Hp I')) : Lw n xs 0 0 775 (lwL i) [] (Hp I) := by
  refine lq_aload_n (dcd dL19 rfl) rfl ?_
  refine lq_arg (jn := 1) dL19 rfl rfl rfl rfl rfl rfl (by decide) hi hn ?_
  refine lq_call1 (μ := MX11_ordered) (ν := MX12_ordered) (as := [aI (xs (i + 1)).toInt]) (dcd dL19 rfl) lk_95 cvX11_ordered (tw_ordered hI) (by decide) rfl rfl rfl (fun x I1 h1 => ?_)
  refine lq_aload_n (dcd dL19 rfl) rfl ?_
  refine lq_arg (jn := 1) dL19 rfl rfl rfl rfl rfl rfl (by decide) hi hn ?_
  refine lq_call2 (as := [aI (xs (i + 1)).toInt]) (dcd dL19 rfl) lk_98 cvX12_ordered h1 (by decide) rfl rfl rfl (fun I2 h2 => ?_)
  exact lq_icmp_eq (tgt := 1213) (dcd dL19 rfl) rfl rfl (k I2 h2)
def cL20 : MC := [(798, .aload_n 1, 1), (799, .aload_n 0, 1), (800, .iload_n 3, 1), (801, .iconst 1, 1), (802, .iadd, 1), (803, .iaload, 1), (804, .aload_n 0, 1), (805, .iload_n 3, 1), (806, .iconst 2, 1), (807, .iadd, 1), (808, .iaload, 1), (809, .invokevirtual 99, 3), (812, .aload_n 2, 1), (813, .aload_n 0, 1), (814, .iload_n 3, 1), (815, .iconst 1, 1), (816, .iadd, 1), (817, .iaload, 1), (818, .aload_n 0, 1), (819, .iload_n 3, 1), (820, .iconst 2, 1), (821, .iadd, 1), (822, .iaload, 1), (823, .invokevirtual 102, 3), (826, .if_icmp .eq 387, 3)]
theorem dL20 : ∀ q ∈ cL20, decode code q.1 = .ok q.2 := by decide +kernel
theorem lk_99 : Cond.methodLink R_law 99 (mrY MX11_swaps) ∈ Wg := in_W5 17 (by decide +kernel) rfl
theorem lk_102 : Cond.methodLink R_law 102 (mrY MX12_swaps) ∈ Wg := in_W8 121 (by decide +kernel) rfl
theorem lc_swaps {n i : Nat} {xs : Nat → Int32} {I : HI} (hn : n ≤ 3072) (hi : i + 6 ≤ n) (hI : Iv I) (k : ∀ I', Iv I' → Lw n xs 0 0 1213 (lwL i) [] (Hp I')) : Lw n xs 0 0 798 (lwL i) [] (Hp I) := by
  refine lq_aload_n (dcd dL20 rfl) rfl ?_
  refine lq_arg (jn := 1) dL20 rfl rfl rfl rfl rfl rfl (by decide) hi hn ?_
  refine lq_arg (jn := 2) dL20 rfl rfl rfl rfl rfl rfl (by decide) hi hn ?_
  refine lq_call1 (μ := MX11_swaps) (ν := MX12_swaps) (as := [aI (xs (i + 1)).toInt, aI (xs (i + 2)).toInt]) (dcd dL20 rfl) lk_99 cvX11_swaps (tw_swaps hI) (by decide) rfl rfl rfl (fun x I1 h1 => ?_)
  refine lq_aload_n (dcd dL20 rfl) rfl ?_
  refine lq_arg (jn := 1) dL20 rfl rfl rfl rfl rfl rfl (by decide) hi hn ?_
  refine lq_arg (jn := 2) dL20 rfl rfl rfl rfl rfl rfl (by decide) hi hn ?_
  refine lq_call2 (as := [aI (xs (i + 1)).toInt, aI (xs (i + 2)).toInt]) (dcd dL20 rfl) lk_102 cvX12_swaps h1 (by decide) rfl rfl rfl (fun I2 h2 => ?_)
  exact lq_icmp_eq (tgt := 1213) (dcd dL20 rfl) rfl rfl (k I2 h2)
def cL21 : MC := [(831, .aload_n 1, 1), (832, .aload_n 0, 1), (833, .iload_n 3, 1), (834, .iconst 1, 1), (835, .iadd, 1), (836, .iaload, 1), (837, .invokevirtual 103, 3), (840, .aload_n 2, 1), (841, .aload_n 0, 1), (842, .iload_n 3, 1), (843, .iconst 1, 1), (844, .iadd, 1), (845, .iaload, 1), (846, .invokevirtual 106, 3), (849, .if_icmp .eq 364, 3)]
theorem dL21 : ∀ q ∈ cL21, decode code q.1 = .ok q.2 := by decide +kernel
theorem lk_103 : Cond.methodLink R_law 103 (mrY MX11_rode) ∈ Wg := in_W5 62 (by decide +kernel) rfl
theorem lk_106 : Cond.methodLink R_law 106 (mrY MX12_rode) ∈ Wg := in_W8 149 (by decide +kernel) rfl
theorem lc_rode {n i : Nat} {xs : Nat → Int32} {I : HI} (hn : n ≤ 3072) (hi : i + 6 ≤ n) (hI : Iv I) (k : ∀ I', Iv I' → Lw n xs 0 0 1213 (lwL i) [] (Hp I')) : Lw n xs 0 0 831 (lwL i) [] (Hp I) := by
  refine lq_aload_n (dcd dL21 rfl) rfl ?_
  refine lq_arg (jn := 1) dL21 rfl rfl rfl rfl rfl rfl (by decide) hi hn ?_
  refine lq_call1 (μ := MX11_rode) (ν := MX12_rode) (as := [aI (xs (i + 1)).toInt]) (dcd dL21 rfl) lk_103 cvX11_rode (tw_rode hI) (by decide) rfl rfl rfl (fun x I1 h1 => ?_)
  refine lq_aload_n (dcd dL21 rfl) rfl ?_
  refine lq_arg (jn := 1) dL21 rfl rfl rfl rfl rfl rfl (by decide) hi hn ?_
  refine lq_call2 (as := [aI (xs (i + 1)).toInt]) (dcd dL21 rfl) lk_106 cvX12_rode h1 (by decide) rfl rfl rfl (fun I2 h2 => ?_)
  exact lq_icmp_eq (tgt := 1213) (dcd dL21 rfl) rfl rfl (k I2 h2)
def cL22 : MC := [(854, .aload_n 1, 1), (855, .aload_n 0, 1), (856, .iload_n 3, 1), (857, .iconst 1, 1), (858, .iadd, 1), (859, .iaload, 1), (860, .aload_n 0, 1), (861, .iload_n 3, 1), (862, .iconst 2, 1), (863, .iadd, 1), (864, .iaload, 1), (865, .aload_n 0, 1), (866, .iload_n 3, 1), (867, .iconst 3, 1), (868, .iadd, 1), (869, .iaload, 1), (870, .invokevirtual 107, 3), (873, .aload_n 2, 1), (874, .aload_n 0, 1), (875, .iload_n 3, 1), (876, .iconst 1, 1), (877, .iadd, 1), (878, .iaload, 1), (879, .aload_n 0, 1), (880, .iload_n 3, 1), (881, .iconst 2, 1), (882, .iadd, 1), (883, .iaload, 1), (884, .aload_n 0, 1), (885, .iload_n 3, 1), (886, .iconst 3, 1), (887, .iadd, 1), (888, .iaload, 1), (889, .invokevirtual 110, 3), (892, .if_icmp .eq 321, 3)]
theorem dL22 : ∀ q ∈ cL22, decode code q.1 = .ok q.2 := by decide +kernel
theorem lk_107 : Cond.methodLink R_law 107 (mrY MX11_lade) ∈ Wg := in_W5 85 (by decide +kernel) rfl
theorem lk_110 : Cond.methodLink R_law 110 (mrY MX12_lade) ∈ Wg := in_W8 161 (by decide +kernel) rfl
theorem lc_lade {n i : Nat} {xs : Nat → Int32} {I : HI} (hn : n ≤ 3072) (hi : i + 6 ≤ n) (hI : Iv I) (k : ∀ I', Iv I' → Lw n xs 0 0 1213 (lwL i) [] (Hp I')) : Lw n xs 0 0 854 (lwL i) [] (Hp I) := by
  refine lq_aload_n (dcd dL22 rfl) rfl ?_
  refine lq_arg (jn := 1) dL22 rfl rfl rfl rfl rfl rfl (by decide) hi hn ?_
  refine lq_arg (jn := 2) dL22 rfl rfl rfl rfl rfl rfl (by decide) hi hn ?_
  refine lq_arg (jn := 3) dL22 rfl rfl rfl rfl rfl rfl (by decide) hi hn ?_
  refine lq_call1 (μ := MX11_lade) (ν := MX12_lade) (as := [aI (xs (i + 1)).toInt, aI (xs (i + 2)).toInt, aI (xs (i + 3)).toInt]) (dcd dL22 rfl) lk_107 cvX11_lade (tw_lade hI) (by decide) rfl rfl rfl (fun x I1 h1 => ?_)
  refine lq_aload_n (dcd dL22 rfl) rfl ?_
  refine lq_arg (jn := 1) dL22 rfl rfl rfl rfl rfl rfl (by decide) hi hn ?_
  refine lq_arg (jn := 2) dL22 rfl rfl rfl rfl rfl rfl (by decide) hi hn ?_
  refine lq_arg (jn := 3) dL22 rfl rfl rfl rfl rfl rfl (by decide) hi hn ?_
  refine lq_call2 (as := [aI (xs (i + 1)).toInt, aI (xs (i + 2)).toInt, aI (xs (i + 3)).toInt]) (dcd dL22 rfl) lk_110 cvX12_lade h1 (by decide) rfl rfl rfl (fun I2 h2 => ?_)
  exact lq_icmp_eq (tgt := 1213) (dcd dL22 rfl) rfl rfl (k I2 h2)
def cL23 : MC := [(897, .aload_n 1, 1), (898, .aload_n 0, 1), (899, .iload_n 3, 1), (900, .iconst 1, 1), (901, .iadd, 1), (902, .iaload, 1), (903, .aload_n 0, 1), (904, .iload_n 3, 1), (905, .iconst 2, 1), (906, .iadd, 1), (907, .iaload, 1), (908, .aload_n 0, 1), (909, .iload_n 3, 1), (910, .iconst 3, 1), (911, .iadd, 1), (912, .iaload, 1), (913, .invokevirtual 111, 3), (916, .aload_n 2, 1), (917, .aload_n 0, 1), (918, .iload_n 3, 1), (919, .iconst 1, 1), (920, .iadd, 1), (921, .iaload, 1), (922, .aload_n 0, 1), (923, .iload_n 3, 1), (924, .iconst 2, 1), (925, .iadd, 1), (926, .iaload, 1), (927, .aload_n 0, 1), (928, .iload_n 3, 1), (929, .iconst 3, 1), (930, .iadd, 1), (931, .iaload, 1), (932, .invokevirtual 114, 3), (935, .if_icmp .eq 278, 3)]
theorem dL23 : ∀ q ∈ cL23, decode code q.1 = .ok q.2 := by decide +kernel
theorem lk_111 : Cond.methodLink R_law 111 (mrY MX11_discharge) ∈ Wg := in_W5 110 (by decide +kernel) rfl
theorem lk_114 : Cond.methodLink R_law 114 (mrY MX12_discharge) ∈ Wg := in_W8 181 (by decide +kernel) rfl
theorem lc_discharge {n i : Nat} {xs : Nat → Int32} {I : HI} (hn : n ≤ 3072) (hi : i + 6 ≤ n) (hI : Iv I) (k : ∀ I', Iv I' → Lw n xs 0 0 1213 (lwL i) [] (Hp I')) : Lw n xs 0 0 897 (lwL i) [] (Hp I) := by
  refine lq_aload_n (dcd dL23 rfl) rfl ?_
  refine lq_arg (jn := 1) dL23 rfl rfl rfl rfl rfl rfl (by decide) hi hn ?_
  refine lq_arg (jn := 2) dL23 rfl rfl rfl rfl rfl rfl (by decide) hi hn ?_
  refine lq_arg (jn := 3) dL23 rfl rfl rfl rfl rfl rfl (by decide) hi hn ?_
  refine lq_call1 (μ := MX11_discharge) (ν := MX12_discharge) (as := [aI (xs (i + 1)).toInt, aI (xs (i + 2)).toInt, aI (xs (i + 3)).toInt]) (dcd dL23 rfl) lk_111 cvX11_discharge (tw_discharge hI) (by decide) rfl rfl rfl (fun x I1 h1 => ?_)
  refine lq_aload_n (dcd dL23 rfl) rfl ?_
  refine lq_arg (jn := 1) dL23 rfl rfl rfl rfl rfl rfl (by decide) hi hn ?_
  refine lq_arg (jn := 2) dL23 rfl rfl rfl rfl rfl rfl (by decide) hi hn ?_
  refine lq_arg (jn := 3) dL23 rfl rfl rfl rfl rfl rfl (by decide) hi hn ?_
  refine lq_call2 (as := [aI (xs (i + 1)).toInt, aI (xs (i + 2)).toInt, aI (xs (i + 3)).toInt]) (dcd dL23 rfl) lk_114 cvX12_discharge h1 (by decide) rfl rfl rfl (fun I2 h2 => ?_)
  exact lq_icmp_eq (tgt := 1213) (dcd dL23 rfl) rfl rfl (k I2 h2)
def cL24 : MC := [(940, .aload_n 1, 1), (941, .aload_n 0, 1), (942, .iload_n 3, 1), (943, .iconst 1, 1), (944, .iadd, 1), (945, .iaload, 1), (946, .aload_n 0, 1), (947, .iload_n 3, 1), (948, .iconst 2, 1), (949, .iadd, 1), (950, .iaload, 1), (951, .aload_n 0, 1), (952, .iload_n 3, 1), (953, .iconst 3, 1), (954, .iadd, 1), (955, .iaload, 1), (956, .aload_n 0, 1), (957, .iload_n 3, 1), (958, .iconst 4, 1), (959, .iadd, 1), (960, .iaload, 1), (961, .invokevirtual 115, 3), (964, .aload_n 2, 1), (965, .aload_n 0, 1), (966, .iload_n 3, 1), (967, .iconst 1, 1), (968, .iadd, 1), (969, .iaload, 1), (970, .aload_n 0, 1), (971, .iload_n 3, 1), (972, .iconst 2, 1), (973, .iadd, 1), (974, .iaload, 1), (975, .aload_n 0, 1), (976, .iload_n 3, 1), (977, .iconst 3, 1), (978, .iadd, 1), (979, .iaload, 1), (980, .aload_n 0, 1), (981, .iload_n 3, 1), (982, .iconst 4, 1), (983, .iadd, 1), (984, .iaload, 1), (985, .invokevirtual 119, 3), (988, .if_icmp .eq 225, 3)]
theorem dL24 : ∀ q ∈ cL24, decode code q.1 = .ok q.2 := by decide +kernel
theorem lk_115 : Cond.methodLink R_law 115 (mrY MX11_shift) ∈ Wg := in_W5 114 (by decide +kernel) rfl
theorem lk_119 : Cond.methodLink R_law 119 (mrY MX12_shift) ∈ Wg := in_W8 185 (by decide +kernel) rfl
theorem lc_shift {n i : Nat} {xs : Nat → Int32} {I : HI} (hn : n ≤ 3072) (hi : i + 6 ≤ n) (hI : Iv I) (k : ∀ I', Iv I' → Lw n xs 0 0 1213 (lwL i) [] (Hp I')) : Lw n xs 0 0 940 (lwL i) [] (Hp I) := by
  refine lq_aload_n (dcd dL24 rfl) rfl ?_
  refine lq_arg (jn := 1) dL24 rfl rfl rfl rfl rfl rfl (by decide) hi hn ?_
  refine lq_arg (jn := 2) dL24 rfl rfl rfl rfl rfl rfl (by decide) hi hn ?_
  refine lq_arg (jn := 3) dL24 rfl rfl rfl rfl rfl rfl (by decide) hi hn ?_
  refine lq_arg (jn := 4) dL24 rfl rfl rfl rfl rfl rfl (by decide) hi hn ?_
  refine lq_call1 (μ := MX11_shift) (ν := MX12_shift) (as := [aI (xs (i + 1)).toInt, aI (xs (i + 2)).toInt, aI (xs (i + 3)).toInt, aI (xs (i + 4)).toInt]) (dcd dL24 rfl) lk_115 cvX11_shift (tw_shift hI) (by decide) rfl rfl rfl (fun x I1 h1 => ?_)
  refine lq_aload_n (dcd dL24 rfl) rfl ?_
  refine lq_arg (jn := 1) dL24 rfl rfl rfl rfl rfl rfl (by decide) hi hn ?_
  refine lq_arg (jn := 2) dL24 rfl rfl rfl rfl rfl rfl (by decide) hi hn ?_
  refine lq_arg (jn := 3) dL24 rfl rfl rfl rfl rfl rfl (by decide) hi hn ?_
  refine lq_arg (jn := 4) dL24 rfl rfl rfl rfl rfl rfl (by decide) hi hn ?_
  refine lq_call2 (as := [aI (xs (i + 1)).toInt, aI (xs (i + 2)).toInt, aI (xs (i + 3)).toInt, aI (xs (i + 4)).toInt]) (dcd dL24 rfl) lk_119 cvX12_shift h1 (by decide) rfl rfl rfl (fun I2 h2 => ?_)
  exact lq_icmp_eq (tgt := 1213) (dcd dL24 rfl) rfl rfl (k I2 h2)
def cL25 : MC := [(993, .aload_n 1, 1), (994, .aload_n 0, 1), (995, .iload_n 3, 1), (996, .iconst 1, 1), (997, .iadd, 1), (998, .iaload, 1), (999, .aload_n 0, 1), (1000, .iload_n 3, 1), (1001, .iconst 2, 1), (1002, .iadd, 1), (1003, .iaload, 1), (1004, .invokevirtual 120, 3), (1007, .aload_n 2, 1), (1008, .aload_n 0, 1), (1009, .iload_n 3, 1), (1010, .iconst 1, 1), (1011, .iadd, 1), (1012, .iaload, 1), (1013, .aload_n 0, 1), (1014, .iload_n 3, 1), (1015, .iconst 2, 1), (1016, .iadd, 1), (1017, .iaload, 1), (1018, .invokevirtual 124, 3), (1021, .if_icmp .eq 192, 3)]
theorem dL25 : ∀ q ∈ cL25, decode code q.1 = .ok q.2 := by decide +kernel
theorem lk_120 : Cond.methodLink R_law 120 (mrY MX11_moor) ∈ Wg := in_W5 118 (by decide +kernel) rfl
theorem lk_124 : Cond.methodLink R_law 124 (mrY MX12_moor) ∈ Wg := in_W8 189 (by decide +kernel) rfl
theorem lc_moor {n i : Nat} {xs : Nat → Int32} {I : HI} (hn : n ≤ 3072) (hi : i + 6 ≤ n) (hI : Iv I) (k : ∀ I', Iv I' → Lw n xs 0 0 1213 (lwL i) [] (Hp I')) : Lw n xs 0 0 993 (lwL i) [] (Hp I) := by
  refine lq_aload_n (dcd dL25 rfl) rfl ?_
  refine lq_arg (jn := 1) dL25 rfl rfl rfl rfl rfl rfl (by decide) hi hn ?_
  refine lq_arg (jn := 2) dL25 rfl rfl rfl rfl rfl rfl (by decide) hi hn ?_
  refine lq_call1 (μ := MX11_moor) (ν := MX12_moor) (as := [aI (xs (i + 1)).toInt, aI (xs (i + 2)).toInt]) (dcd dL25 rfl) lk_120 cvX11_moor (tw_moor hI) (by decide) rfl rfl rfl (fun x I1 h1 => ?_)
  refine lq_aload_n (dcd dL25 rfl) rfl ?_
  refine lq_arg (jn := 1) dL25 rfl rfl rfl rfl rfl rfl (by decide) hi hn ?_
  refine lq_arg (jn := 2) dL25 rfl rfl rfl rfl rfl rfl (by decide) hi hn ?_
  refine lq_call2 (as := [aI (xs (i + 1)).toInt, aI (xs (i + 2)).toInt]) (dcd dL25 rfl) lk_124 cvX12_moor h1 (by decide) rfl rfl rfl (fun I2 h2 => ?_)
  exact lq_icmp_eq (tgt := 1213) (dcd dL25 rfl) rfl rfl (k I2 h2)
def cL26 : MC := [(1026, .aload_n 1, 1), (1027, .aload_n 0, 1), (1028, .iload_n 3, 1), (1029, .iconst 1, 1), (1030, .iadd, 1), (1031, .iaload, 1), (1032, .invokevirtual 125, 3), (1035, .aload_n 2, 1), (1036, .aload_n 0, 1), (1037, .iload_n 3, 1), (1038, .iconst 1, 1), (1039, .iadd, 1), (1040, .iaload, 1), (1041, .invokevirtual 128, 3), (1044, .if_icmp .eq 169, 3)]
theorem dL26 : ∀ q ∈ cL26, decode code q.1 = .ok q.2 := by decide +kernel
theorem lk_125 : Cond.methodLink R_law 125 (mrY MX11_hours) ∈ Wg := in_W5 126 (by decide +kernel) rfl
theorem lk_128 : Cond.methodLink R_law 128 (mrY MX12_hours) ∈ Wg := in_W8 197 (by decide +kernel) rfl
theorem lc_hours {n i : Nat} {xs : Nat → Int32} {I : HI} (hn : n ≤ 3072) (hi : i + 6 ≤ n) (hI : Iv I) (k : ∀ I', Iv I' → Lw n xs 0 0 1213 (lwL i) [] (Hp I')) : Lw n xs 0 0 1026 (lwL i) [] (Hp I) := by
  refine lq_aload_n (dcd dL26 rfl) rfl ?_
  refine lq_arg (jn := 1) dL26 rfl rfl rfl rfl rfl rfl (by decide) hi hn ?_
  refine lq_call1 (μ := MX11_hours) (ν := MX12_hours) (as := [aI (xs (i + 1)).toInt]) (dcd dL26 rfl) lk_125 cvX11_hours (tw_hours hI) (by decide) rfl rfl rfl (fun x I1 h1 => ?_)
  refine lq_aload_n (dcd dL26 rfl) rfl ?_
  refine lq_arg (jn := 1) dL26 rfl rfl rfl rfl rfl rfl (by decide) hi hn ?_
  refine lq_call2 (as := [aI (xs (i + 1)).toInt]) (dcd dL26 rfl) lk_128 cvX12_hours h1 (by decide) rfl rfl rfl (fun I2 h2 => ?_)
  exact lq_icmp_eq (tgt := 1213) (dcd dL26 rfl) rfl rfl (k I2 h2)
def cL27 : MC := [(1049, .aload_n 1, 1), (1050, .aload_n 0, 1), (1051, .iload_n 3, 1), (1052, .iconst 1, 1), (1053, .iadd, 1), (1054, .iaload, 1), (1055, .invokevirtual 129, 3), (1058, .aload_n 2, 1), (1059, .aload_n 0, 1), (1060, .iload_n 3, 1), (1061, .iconst 1, 1), (1062, .iadd, 1), (1063, .iaload, 1), (1064, .invokevirtual 132, 3), (1067, .if_icmp .eq 146, 3)]
theorem dL27 : ∀ q ∈ cL27, decode code q.1 = .ok q.2 := by decide +kernel
theorem lk_129 : Cond.methodLink R_law 129 (mrY MX11_gales) ∈ Wg := in_W5 138 (by decide +kernel) rfl
theorem lk_132 : Cond.methodLink R_law 132 (mrY MX12_gales) ∈ Wg := in_W8 205 (by decide +kernel) rfl
theorem lc_gales {n i : Nat} {xs : Nat → Int32} {I : HI} (hn : n ≤ 3072) (hi : i + 6 ≤ n) (hI : Iv I) (k : ∀ I', Iv I' → Lw n xs 0 0 1213 (lwL i) [] (Hp I')) : Lw n xs 0 0 1049 (lwL i) [] (Hp I) := by
  refine lq_aload_n (dcd dL27 rfl) rfl ?_
  refine lq_arg (jn := 1) dL27 rfl rfl rfl rfl rfl rfl (by decide) hi hn ?_
  refine lq_call1 (μ := MX11_gales) (ν := MX12_gales) (as := [aI (xs (i + 1)).toInt]) (dcd dL27 rfl) lk_129 cvX11_gales (tw_gales hI) (by decide) rfl rfl rfl (fun x I1 h1 => ?_)
  refine lq_aload_n (dcd dL27 rfl) rfl ?_
  refine lq_arg (jn := 1) dL27 rfl rfl rfl rfl rfl rfl (by decide) hi hn ?_
  refine lq_call2 (as := [aI (xs (i + 1)).toInt]) (dcd dL27 rfl) lk_132 cvX12_gales h1 (by decide) rfl rfl rfl (fun I2 h2 => ?_)
  exact lq_icmp_eq (tgt := 1213) (dcd dL27 rfl) rfl rfl (k I2 h2)
def cL28 : MC := [(1072, .aload_n 1, 1), (1073, .invokevirtual 133, 3), (1076, .aload_n 2, 1), (1077, .invokevirtual 137, 3), (1080, .if_icmp .eq 133, 3)]
theorem dL28 : ∀ q ∈ cL28, decode code q.1 = .ok q.2 := by decide +kernel
theorem lk_133 : Cond.methodLink R_law 133 (mrY MX11_undo) ∈ Wg := in_W5 158 (by decide +kernel) rfl
theorem lk_137 : Cond.methodLink R_law 137 (mrY MX12_undo) ∈ Wg := in_W7 174 (by decide +kernel) rfl
theorem lc_undo {n i : Nat} {xs : Nat → Int32} {I : HI} (hn : n ≤ 3072) (hi : i + 6 ≤ n) (hI : Iv I) (k : ∀ I', Iv I' → Lw n xs 0 0 1213 (lwL i) [] (Hp I')) : Lw n xs 0 0 1072 (lwL i) [] (Hp I) := by
  refine lq_aload_n (dcd dL28 rfl) rfl ?_
  refine lq_call1 (μ := MX11_undo) (ν := MX12_undo) (as := []) (dcd dL28 rfl) lk_133 cvX11_undo (tw_undo hI) (by decide) rfl rfl rfl (fun x I1 h1 => ?_)
  refine lq_aload_n (dcd dL28 rfl) rfl ?_
  refine lq_call2 (as := []) (dcd dL28 rfl) lk_137 cvX12_undo h1 (by decide) rfl rfl rfl (fun I2 h2 => ?_)
  exact lq_icmp_eq (tgt := 1213) (dcd dL28 rfl) rfl rfl (k I2 h2)
def cL29 : MC := [(1085, .aload_n 1, 1), (1086, .aload_n 0, 1), (1087, .iload_n 3, 1), (1088, .iconst 1, 1), (1089, .iadd, 1), (1090, .iaload, 1), (1091, .invokevirtual 138, 3), (1094, .aload_n 2, 1), (1095, .aload_n 0, 1), (1096, .iload_n 3, 1), (1097, .iconst 1, 1), (1098, .iadd, 1), (1099, .iaload, 1), (1100, .invokevirtual 141, 3), (1103, .if_icmp .eq 110, 3)]
theorem dL29 : ∀ q ∈ cL29, decode code q.1 = .ok q.2 := by decide +kernel
theorem lk_138 : Cond.methodLink R_law 138 (mrY MX11_seed) ∈ Wg := in_W5 170 (by decide +kernel) rfl
theorem lk_141 : Cond.methodLink R_law 141 (mrY MX12_seed) ∈ Wg := in_W8 221 (by decide +kernel) rfl
theorem lc_seed {n i : Nat} {xs : Nat → Int32} {I : HI} (hn : n ≤ 3072) (hi : i + 6 ≤ n) (hI : Iv I) (k : ∀ I', Iv I' → Lw n xs 0 0 1213 (lwL i) [] (Hp I')) : Lw n xs 0 0 1085 (lwL i) [] (Hp I) := by
  refine lq_aload_n (dcd dL29 rfl) rfl ?_
  refine lq_arg (jn := 1) dL29 rfl rfl rfl rfl rfl rfl (by decide) hi hn ?_
  refine lq_call1 (μ := MX11_seed) (ν := MX12_seed) (as := [aI (xs (i + 1)).toInt]) (dcd dL29 rfl) lk_138 cvX11_seed (tw_seed hI (t32_in _)) (by decide) rfl rfl rfl (fun x I1 h1 => ?_)
  refine lq_aload_n (dcd dL29 rfl) rfl ?_
  refine lq_arg (jn := 1) dL29 rfl rfl rfl rfl rfl rfl (by decide) hi hn ?_
  refine lq_call2 (as := [aI (xs (i + 1)).toInt]) (dcd dL29 rfl) lk_141 cvX12_seed h1 (by decide) rfl rfl rfl (fun I2 h2 => ?_)
  exact lq_icmp_eq (tgt := 1213) (dcd dL29 rfl) rfl rfl (k I2 h2)
def cL30 : MC := [(1108, .aload_n 1, 1), (1109, .aload_n 0, 1), (1110, .iload_n 3, 1), (1111, .iconst 1, 1), (1112, .iadd, 1), (1113, .iaload, 1), (1114, .aload_n 0, 1), (1115, .iload_n 3, 1), (1116, .iconst 2, 1), (1117, .iadd, 1), (1118, .iaload, 1), (1119, .invokevirtual 142, 3), (1122, .aload_n 2, 1), (1123, .aload_n 0, 1), (1124, .iload_n 3, 1), (1125, .iconst 1, 1), (1126, .iadd, 1), (1127, .iaload, 1), (1128, .aload_n 0, 1), (1129, .iload_n 3, 1), (1130, .iconst 2, 1), (1131, .iadd, 1), (1132, .iaload, 1), (1133, .invokevirtual 145, 3), (1136, .if_icmp .eq 77, 3)]
theorem dL30 : ∀ q ∈ cL30, decode code q.1 = .ok q.2 := by decide +kernel
theorem lk_142 : Cond.methodLink R_law 142 (mrY MX11_kept) ∈ Wg := in_W5 174 (by decide +kernel) rfl
theorem lk_145 : Cond.methodLink R_law 145 (mrY MX12_kept) ∈ Wg := in_W8 225 (by decide +kernel) rfl
theorem lc_kept {n i : Nat} {xs : Nat → Int32} {I : HI} (hn : n ≤ 3072) (hi : i + 6 ≤ n) (hI : Iv I) (k : ∀ I', Iv I' → Lw n xs 0 0 1213 (lwL i) [] (Hp I')) : Lw n xs 0 0 1108 (lwL i) [] (Hp I) := by
  refine lq_aload_n (dcd dL30 rfl) rfl ?_
  refine lq_arg (jn := 1) dL30 rfl rfl rfl rfl rfl rfl (by decide) hi hn ?_
  refine lq_arg (jn := 2) dL30 rfl rfl rfl rfl rfl rfl (by decide) hi hn ?_
  refine lq_call1 (μ := MX11_kept) (ν := MX12_kept) (as := [aI (xs (i + 1)).toInt, aI (xs (i + 2)).toInt]) (dcd dL30 rfl) lk_142 cvX11_kept (tw_kept hI) (by decide) rfl rfl rfl (fun x I1 h1 => ?_)
  refine lq_aload_n (dcd dL30 rfl) rfl ?_
  refine lq_arg (jn := 1) dL30 rfl rfl rfl rfl rfl rfl (by decide) hi hn ?_
  refine lq_arg (jn := 2) dL30 rfl rfl rfl rfl rfl rfl (by decide) hi hn ?_
  refine lq_call2 (as := [aI (xs (i + 1)).toInt, aI (xs (i + 2)).toInt]) (dcd dL30 rfl) lk_145 cvX12_kept h1 (by decide) rfl rfl rfl (fun I2 h2 => ?_)
  exact lq_icmp_eq (tgt := 1213) (dcd dL30 rfl) rfl rfl (k I2 h2)
def cL31 : MC := [(1141, .aload_n 1, 1), (1142, .invokevirtual 146, 3), (1145, .aload_n 2, 1), (1146, .invokevirtual 149, 3), (1149, .if_icmp .eq 64, 3)]
theorem dL31 : ∀ q ∈ cL31, decode code q.1 = .ok q.2 := by decide +kernel
theorem lk_146 : Cond.methodLink R_law 146 (mrY MX11_image) ∈ Wg := in_W5 182 (by decide +kernel) rfl
theorem lk_149 : Cond.methodLink R_law 149 (mrY MX12_image) ∈ Wg := in_W8 229 (by decide +kernel) rfl
theorem lc_image {n i : Nat} {xs : Nat → Int32} {I : HI} (hn : n ≤ 3072) (hi : i + 6 ≤ n) (hI : Iv I) (k : ∀ I', Iv I' → Lw n xs 0 0 1213 (lwL i) [] (Hp I')) : Lw n xs 0 0 1141 (lwL i) [] (Hp I) := by
  refine lq_aload_n (dcd dL31 rfl) rfl ?_
  refine lq_call1 (μ := MX11_image) (ν := MX12_image) (as := []) (dcd dL31 rfl) lk_146 cvX11_image (tw_image hI) (by decide) rfl rfl rfl (fun x I1 h1 => ?_)
  refine lq_aload_n (dcd dL31 rfl) rfl ?_
  refine lq_call2 (as := []) (dcd dL31 rfl) lk_149 cvX12_image h1 (by decide) rfl rfl rfl (fun I2 h2 => ?_)
  exact lq_icmp_eq (tgt := 1213) (dcd dL31 rfl) rfl rfl (k I2 h2)
def cL32 : MC := [(1154, .aload_n 1, 1), (1155, .aload_n 0, 1), (1156, .iload_n 3, 1), (1157, .iconst 1, 1), (1158, .iadd, 1), (1159, .iaload, 1), (1160, .invokevirtual 150, 3), (1163, .aload_n 2, 1), (1164, .aload_n 0, 1), (1165, .iload_n 3, 1), (1166, .iconst 1, 1), (1167, .iadd, 1), (1168, .iaload, 1), (1169, .invokevirtual 153, 3), (1172, .if_icmp .eq 41, 3)]
theorem dL32 : ∀ q ∈ cL32, decode code q.1 = .ok q.2 := by decide +kernel
theorem lk_150 : Cond.methodLink R_law 150 (mrY MX11_octet) ∈ Wg := in_W5 199 (by decide +kernel) rfl
theorem lk_153 : Cond.methodLink R_law 153 (mrY MX12_octet) ∈ Wg := in_W8 237 (by decide +kernel) rfl
theorem lc_octet {n i : Nat} {xs : Nat → Int32} {I : HI} (hn : n ≤ 3072) (hi : i + 6 ≤ n) (hI : Iv I) (k : ∀ I', Iv I' → Lw n xs 0 0 1213 (lwL i) [] (Hp I')) : Lw n xs 0 0 1154 (lwL i) [] (Hp I) := by
  refine lq_aload_n (dcd dL32 rfl) rfl ?_
  refine lq_arg (jn := 1) dL32 rfl rfl rfl rfl rfl rfl (by decide) hi hn ?_
  refine lq_call1 (μ := MX11_octet) (ν := MX12_octet) (as := [aI (xs (i + 1)).toInt]) (dcd dL32 rfl) lk_150 cvX11_octet (tw_octet hI) (by decide) rfl rfl rfl (fun x I1 h1 => ?_)
  refine lq_aload_n (dcd dL32 rfl) rfl ?_
  refine lq_arg (jn := 1) dL32 rfl rfl rfl rfl rfl rfl (by decide) hi hn ?_
  refine lq_call2 (as := [aI (xs (i + 1)).toInt]) (dcd dL32 rfl) lk_153 cvX12_octet h1 (by decide) rfl rfl rfl (fun I2 h2 => ?_)
  exact lq_icmp_eq (tgt := 1213) (dcd dL32 rfl) rfl rfl (k I2 h2)
def cL33 : MC := [(1177, .aload_n 1, 1), (1178, .invokevirtual 154, 3), (1181, .aload_n 2, 1), (1182, .invokevirtual 157, 3), (1185, .if_icmp .eq 28, 3)]
theorem dL33 : ∀ q ∈ cL33, decode code q.1 = .ok q.2 := by decide +kernel
theorem lk_154 : Cond.methodLink R_law 154 (mrY MX11_on) ∈ Wg := in_W5 203 (by decide +kernel) rfl
theorem lk_157 : Cond.methodLink R_law 157 (mrY MX12_on) ∈ Wg := in_W9 1 (by decide +kernel) rfl
theorem lc_on {n i : Nat} {xs : Nat → Int32} {I : HI} (hn : n ≤ 3072) (hi : i + 6 ≤ n) (hI : Iv I) (k : ∀ I', Iv I' → Lw n xs 0 0 1213 (lwL i) [] (Hp I')) : Lw n xs 0 0 1177 (lwL i) [] (Hp I) := by
  refine lq_aload_n (dcd dL33 rfl) rfl ?_
  refine lq_call1 (μ := MX11_on) (ν := MX12_on) (as := []) (dcd dL33 rfl) lk_154 cvX11_on (tw_on hI) (by decide) rfl rfl rfl (fun x I1 h1 => ?_)
  refine lq_aload_n (dcd dL33 rfl) rfl ?_
  refine lq_call2 (as := []) (dcd dL33 rfl) lk_157 cvX12_on h1 (by decide) rfl rfl rfl (fun I2 h2 => ?_)
  exact lq_icmp_eq (tgt := 1213) (dcd dL33 rfl) rfl rfl (k I2 h2)
def cL34 : MC := [(1190, .aload_n 1, 1), (1191, .aload_n 0, 1), (1192, .iload_n 3, 1), (1193, .iconst 1, 1), (1194, .iadd, 1), (1195, .iaload, 1), (1196, .invokevirtual 158, 3), (1199, .aload_n 2, 1), (1200, .aload_n 0, 1), (1201, .iload_n 3, 1), (1202, .iconst 1, 1), (1203, .iadd, 1), (1204, .iaload, 1), (1205, .invokevirtual 161, 3), (1208, .if_icmp .eq 5, 3)]
theorem dL34 : ∀ q ∈ cL34, decode code q.1 = .ok q.2 := by decide +kernel
theorem lk_158 : Cond.methodLink R_law 158 (mrY MX11_status) ∈ Wg := in_W5 222 (by decide +kernel) rfl
theorem lk_161 : Cond.methodLink R_law 161 (mrY MX12_status) ∈ Wg := in_W7 170 (by decide +kernel) rfl
theorem lc_status {n i : Nat} {xs : Nat → Int32} {I : HI} (hn : n ≤ 3072) (hi : i + 6 ≤ n) (hI : Iv I) (k : ∀ I', Iv I' → Lw n xs 0 0 1213 (lwL i) [] (Hp I')) : Lw n xs 0 0 1190 (lwL i) [] (Hp I) := by
  refine lq_aload_n (dcd dL34 rfl) rfl ?_
  refine lq_arg (jn := 1) dL34 rfl rfl rfl rfl rfl rfl (by decide) hi hn ?_
  refine lq_call1 (μ := MX11_status) (ν := MX12_status) (as := [aI (xs (i + 1)).toInt]) (dcd dL34 rfl) lk_158 cvX11_status (tw_status hI) (by decide) rfl rfl rfl (fun x I1 h1 => ?_)
  refine lq_aload_n (dcd dL34 rfl) rfl ?_
  refine lq_arg (jn := 1) dL34 rfl rfl rfl rfl rfl rfl (by decide) hi hn ?_
  refine lq_call2 (as := [aI (xs (i + 1)).toInt]) (dcd dL34 rfl) lk_161 cvX12_status h1 (by decide) rfl rfl rfl (fun I2 h2 => ?_)
  exact lq_icmp_eq (tgt := 1213) (dcd dL34 rfl) rfl rfl (k I2 h2)
