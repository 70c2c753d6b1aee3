/-! ===== the texts of the JDK that the Lexer's making asks ===== -/
def MJ0_length : MR := (yJ0_length_8abf5, cJ0_length_8abf5, 1, (some .int), 14, [(0, .aload_n 0, 1), (1, .getfield 9, 3), (4, .arraylength, 1), (5, .aload_n 0, 1), (6, .invokevirtual 335, 3), (9, .ishr, 1), (10, .ireturn, 1)])
theorem okJ0_length : MOK MJ0_length := ⟨by decide +kernel, by decide +kernel, in_W1 156 (by decide +kernel) rfl, by decide +kernel, by decide⟩
theorem cvJ0_length : CV MJ0_length 0 := ⟨⟨okJ0_length, in_W1 7 (by decide +kernel) rfl, by decide +kernel, by decide +kernel, by decide +kernel⟩, in_W1 154 (by decide +kernel) rfl, in_W1 155 (by decide +kernel) rfl⟩
def MJ0_charAt : MR := (yJ0_charAt_5068e, cJ0_charAt_5068e, 2, (some .char), 14, [(0, .aload_n 0, 1), (1, .invokevirtual 492, 3), (4, .ifCond .eq 12, 3), (7, .aload_n 0, 1), (8, .getfield 9, 3), (11, .iload_n 1, 1), (12, .invokestatic 495, 3), (15, .ireturn, 1), (16, .aload_n 0, 1), (17, .getfield 9, 3), (20, .iload_n 1, 1), (21, .invokestatic 498, 3), (24, .ireturn, 1)])
theorem okJ0_charAt : MOK MJ0_charAt := ⟨by decide +kernel, by decide +kernel, in_W1 166 (by decide +kernel) rfl, by decide +kernel, by decide⟩
theorem cvJ0_charAt : CV MJ0_charAt 1 := ⟨⟨okJ0_charAt, in_W1 7 (by decide +kernel) rfl, by decide +kernel, by decide +kernel, by decide +kernel⟩, in_W1 164 (by decide +kernel) rfl, in_W1 165 (by decide +kernel) rfl⟩
def MJ0_coder : MR := (yJ0_coder_7d493, cJ0_coder_7d493, 1, (some .byte), 14, [(0, .getstatic 38, 3), (3, .ifCond .eq 10, 3), (6, .aload_n 0, 1), (7, .getfield 15, 3), (10, .goto 4, 3), (13, .iconst 1, 1), (14, .ireturn, 1)])
theorem okJ0_coder : MOK MJ0_coder := ⟨by decide +kernel, by decide +kernel, in_W1 160 (by decide +kernel) rfl, by decide +kernel, by decide⟩
theorem cvJ0_coder : CV MJ0_coder 0 := ⟨⟨okJ0_coder, in_W1 7 (by decide +kernel) rfl, by decide +kernel, by decide +kernel, by decide +kernel⟩, in_W1 158 (by decide +kernel) rfl, in_W1 159 (by decide +kernel) rfl⟩
def MJ0_isLatin1 : MR := (yJ0_isLatin1_aae02, cJ0_isLatin1_aae02, 1, (some .boolean), 14, [(0, .getstatic 38, 3), (3, .ifCond .eq 14, 3), (6, .aload_n 0, 1), (7, .getfield 15, 3), (10, .ifCond .ne 7, 3), (13, .iconst 1, 1), (14, .goto 4, 3), (17, .iconst 0, 1), (18, .ireturn, 1)])
theorem okJ0_isLatin1 : MOK MJ0_isLatin1 := ⟨by decide +kernel, by decide +kernel, in_W1 170 (by decide +kernel) rfl, by decide +kernel, by decide⟩
theorem cvJ0_isLatin1 : CV MJ0_isLatin1 0 := ⟨⟨okJ0_isLatin1, in_W1 7 (by decide +kernel) rfl, by decide +kernel, by decide +kernel, by decide +kernel⟩, in_W1 168 (by decide +kernel) rfl, in_W1 169 (by decide +kernel) rfl⟩
def MJ1_charAt : MR := (yJ1_charAt_3b067, cJ1_charAt_3b067, 2, (some .char), 15, [(0, .iload_n 1, 1), (1, .aload_n 0, 1), (2, .arraylength, 1), (3, .invokestatic 9, 3), (6, .aload_n 0, 1), (7, .iload_n 1, 1), (8, .baload, 1), (9, .sipush 255, 3), (12, .iand, 1), (13, .i2c, 1), (14, .ireturn, 1)])
theorem okJ1_charAt : MOK MJ1_charAt := ⟨by decide +kernel, by decide +kernel, in_W1 173 (by decide +kernel) rfl, by decide +kernel, by decide⟩
theorem csJ1_charAt : CS MJ1_charAt 2 := ⟨⟨okJ1_charAt, in_W1 8 (by decide +kernel) rfl, by decide +kernel, by decide +kernel, by decide +kernel⟩, in_W1 172 (by decide +kernel) rfl⟩
def MJ0_checkIndex : MR := (yJ0_checkIndex_df160, cJ0_checkIndex_df160, 2, none, 14, [(0, .iload_n 0, 1), (1, .iload_n 1, 1), (2, .getstatic 1053, 3), (5, .invokestatic 1059, 3), (8, .pop, 1), (9, .return_, 1)])
theorem okJ0_checkIndex : MOK MJ0_checkIndex := ⟨by decide +kernel, by decide +kernel, in_W1 176 (by decide +kernel) rfl, by decide +kernel, by decide⟩
theorem csJ0_checkIndex : CS MJ0_checkIndex 2 := ⟨⟨okJ0_checkIndex, in_W1 7 (by decide +kernel) rfl, by decide +kernel, by decide +kernel, by decide +kernel⟩, in_W1 175 (by decide +kernel) rfl⟩
def MJ3_checkIndex : MR := (yJ3_checkIndex_8e157, cJ3_checkIndex_8e157, 3, (some .int), 16, [(0, .iload_n 0, 1), (1, .ifCond .lt 8, 3), (4, .iload_n 0, 1), (5, .iload_n 1, 1), (6, .if_icmp .lt 10, 3), (9, .aload_n 2, 1), (10, .iload_n 0, 1), (11, .iload_n 1, 1), (12, .invokestatic 95, 3), (15, .athrow, 1), (16, .iload_n 0, 1), (17, .ireturn, 1)])
theorem okJ3_checkIndex : MOK MJ3_checkIndex := ⟨by decide +kernel, by decide +kernel, in_W1 181 (by decide +kernel) rfl, by decide +kernel, by decide⟩
theorem csJ3_checkIndex : CS MJ3_checkIndex 3 := ⟨⟨okJ3_checkIndex, in_W1 9 (by decide +kernel) rfl, by decide +kernel, by decide +kernel, by decide +kernel⟩, in_W1 180 (by decide +kernel) rfl⟩
theorem ml1_25 : Cond.methodLink (rx 1) 25 yJ0_length_8abf5 ∈ Wg := in_W1 153 (by decide +kernel) rfl
theorem ml1_31 : Cond.methodLink (rx 1) 31 yJ0_charAt_5068e ∈ Wg := in_W1 163 (by decide +kernel) rfl
theorem ml14_335 : Cond.methodLink (rx 14) 335 yJ0_coder_7d493 ∈ Wg := in_W1 157 (by decide +kernel) rfl
theorem ml14_492 : Cond.methodLink (rx 14) 492 yJ0_isLatin1_aae02 ∈ Wg := in_W1 167 (by decide +kernel) rfl
theorem ml14_495 : Cond.methodLink (rx 14) 495 yJ1_charAt_3b067 ∈ Wg := in_W1 171 (by decide +kernel) rfl
theorem ml15_9 : Cond.methodLink (rx 15) 9 yJ0_checkIndex_df160 ∈ Wg := in_W1 174 (by decide +kernel) rfl
theorem ml14_1059 : Cond.methodLink (rx 14) 1059 yJ3_checkIndex_8e157 ∈ Wg := in_W1 179 (by decide +kernel) rfl
theorem fj14_9 : Cond.fieldLink (rx 14) 9 "java/lang/String" "value" "[B" ∈ Wg := in_W9 13 (by decide +kernel) rfl
theorem fj14_15 : Cond.fieldLink (rx 14) 15 "java/lang/String" "coder" "B" ∈ Wg := in_W9 14 (by decide +kernel) rfl
theorem fj14_38 : Cond.fieldLink (rx 14) 38 "java/lang/String" "COMPACT_STRINGS" "Z" ∈ Wg := in_W1 161 (by decide +kernel) rfl
theorem fj14_1053 : Cond.fieldLink (rx 14) 1053 "jdk/internal/util/Preconditions" "SIOOBE_FORMATTER" "Ljava/util/function/BiFunction;" ∈ Wg := in_W1 177 (by decide +kernel) rfl
def owL : List Int := [119, 97, 114, 101, 32, 119, 101, 105, 103, 104, 115, 32, 108, 105, 102, 116, 115, 32, 115, 104, 105, 112, 32, 104, 111, 108, 100, 115, 32, 116, 114, 105, 109, 115, 32, 108, 111, 97, 100, 115, 32, 98, 101, 114, 116, 104, 32, 102, 114, 111, 109, 32, 116, 111, 32, 108, 105, 101, 115, 32, 119, 97, 116, 101, 114, 32, 109, 111, 111, 110, 32, 114, 105, 100, 101, 115, 32, 109, 97, 121, 32, 103, 97, 108, 101, 32, 104, 111, 117, 114, 32, 119, 101, 105, 103, 104, 116, 32, 108, 105, 102, 116, 32, 116, 105, 112, 32, 99, 111, 117, 110, 116, 32, 104, 101, 105, 103, 104, 116, 32, 105, 102, 32, 111, 114, 32, 97, 110, 100, 32, 110, 111, 116, 32, 97, 108, 108, 32, 109, 105, 110, 32, 109, 97, 120, 32]
def lxT : List (Int × Int × Int × Int) := [(119, 0, 0, 0), (97, 1, 0, 771751936), (114, 2, 0, 772800512), (101, 3, 0, 773390336), (32, 4, 0, 773395456), (119, 0, 1, 0), (101, 1, 1, 771751936), (105, 2, 1, 776994816), (103, 3, 1, 777289728), (104, 4, 1, 777296896), (115, 5, 1, 777297152), (32, 6, 1, 777297171), (108, 0, 2, 0), (105, 1, 2, 402653184), (102, 2, 2, 412090368), (116, 3, 2, 412286976), (115, 4, 2, 412307456), (32, 5, 2, 412308064), (115, 0, 3, 0), (104, 1, 3, 637534208), (105, 2, 3, 645922816), (112, 3, 3, 646217728), (32, 4, 3, 646234112), (104, 0, 4, 0), (111, 1, 4, 268435456), (108, 2, 4, 284164096), (100, 3, 4, 284557312), (115, 4, 4, 284561408), (32, 5, 4, 284562016), (116, 0, 5, 0), (114, 1, 5, 671088640), (105, 2, 5, 689963008), (109, 3, 5, 690257920), (115, 4, 5, 690271232), (32, 5, 5, 690271840), (108, 0, 6, 0), (111, 1, 6, 402653184), (97, 2, 6, 418381824), (100, 3, 6, 418414592), (115, 4, 6, 418418688), (32, 5, 6, 418419296), (98, 0, 7, 0), (101, 1, 7, 67108864), (114, 2, 7, 72351744), (116, 3, 7, 72941568), (104, 4, 7, 72962048), (32, 5, 7, 72962304), (102, 0, 8, 0), (114, 1, 8, 201326592), (111, 2, 8, 220200960), (109, 3, 8, 220692480), (32, 4, 8, 220705792), (116, 0, 9, 0), (111, 1, 9, 671088640), (32, 2, 9, 686817280), (108, 0, 10, 0), (105, 1, 10, 402653184), (101, 2, 10, 412090368), (115, 3, 10, 412254208), (32, 4, 10, 412273664), (119, 0, 11, 0), (97, 1, 11, 771751936), (116, 2, 11, 772800512), (101, 3, 11, 773455872), (114, 4, 11, 773460992), (32, 5, 11, 773461568), (109, 0, 12, 0), (111, 1, 12, 436207616), (111, 2, 12, 451936256), (110, 3, 12, 452427776), (32, 4, 12, 452442112), (114, 0, 13, 0), (105, 1, 13, 603979776), (100, 2, 13, 613416960), (101, 3, 13, 613548032), (115, 4, 13, 613553152), (32, 5, 13, 613553760), (109, 0, 14, 0), (97, 1, 14, 436207616), (121, 2, 14, 437256192), (32, 3, 14, 438075392), (103, 0, 15, 0), (97, 1, 15, 234881024), (108, 2, 15, 235929600), (101, 3, 15, 236322816), (32, 4, 15, 236327936), (104, 0, 16, 0), (111, 1, 16, 268435456), (117, 2, 16, 284164096), (114, 3, 16, 284852224), (32, 4, 16, 284870656), (119, 0, 17, 0), (101, 1, 17, 771751936), (105, 2, 17, 776994816), (103, 3, 17, 777289728), (104, 4, 17, 777296896), (116, 5, 17, 777297152), (32, 6, 17, 777297172), (108, 0, 18, 0), (105, 1, 18, 402653184), (102, 2, 18, 412090368), (116, 3, 18, 412286976), (32, 4, 18, 412307456), (116, 0, 19, 0), (105, 1, 19, 671088640), (112, 2, 19, 680525824), (32, 3, 19, 681050112), (99, 0, 20, 0), (111, 1, 20, 100663296), (117, 2, 20, 116391936), (110, 3, 20, 117080064), (116, 4, 20, 117094400), (32, 5, 20, 117095040), (104, 0, 21, 0), (101, 1, 21, 268435456), (105, 2, 21, 273678336), (103, 3, 21, 273973248), (104, 4, 21, 273980416), (116, 5, 21, 273980672), (32, 6, 21, 273980692), (105, 0, 22, 0), (102, 1, 22, 301989888), (32, 2, 22, 308281344), (111, 0, 23, 0), (114, 1, 23, 503316480), (32, 2, 23, 522190848), (97, 0, 24, 0), (110, 1, 24, 33554432), (100, 2, 24, 48234496), (32, 3, 24, 48365568), (110, 0, 25, 0), (111, 1, 25, 469762048), (116, 2, 25, 485490688), (32, 3, 25, 486146048), (97, 0, 26, 0), (108, 1, 26, 33554432), (108, 2, 26, 46137344), (32, 3, 26, 46530560), (109, 0, 27, 0), (105, 1, 27, 436207616), (110, 2, 27, 445644800), (32, 3, 27, 446103552), (109, 0, 28, 0), (97, 1, 28, 436207616), (120, 2, 28, 437256192), (32, 3, 28, 438042624), (0, 0, 29, 0)]
theorem owl_eq : owl = owL := by decide +kernel
theorem owL_len : owL.length = 146 := by decide +kernel
theorem owl_len : owl.length = 146 := by rw [owl_eq]; exact owL_len
theorem owL_in : ∀ j, j < 146 → 32 ≤ owL.getD j 0 ∧ owL.getD j 0 ≤ 122 := by decide +kernel
section STR
variable {μ ν : MR} {d kc ks pc i n d' kc' ks' : Nat} {L : ML} {st rest : List AV} {h : AH} {Q Q' : Option AV → AH → Prop}
theorem ab_ldcS (hf : fnd (mrC μ) pc = some (.ldc 23, 2)) (ho : mrO μ = 1) (k : Ab μ d kc ks (pc + 2) L (aS 7 :: st) h Q) : Ab μ d kc ks pc L st h Q := by
  intro p l e s m args below meth c A D tc sa ad ad0 n0 H locs ls cells slots mc ms F X hn hl hok hc
  obtain ⟨a, b, g1, g2, g3, g4, g5, g6, g7, g8, g9⟩ := F.kW.2.2.2
  have h3 := k p l e s m args below meth c A D tc sa ad ad0 n0 H locs ls cells slots mc ms F X hn hl ⟨⟨trivial, hok.1⟩, hok.2⟩ hc
  have ee : cv ad sa (aS 7) = .ref a := by show va_rf (sa 7) = _; rw [g1]; rfl
  rw [List.map_cons, ee] at h3
  have hown := F.own
  rw [ho] at hown
  exact va_ldcS F.1 F.2.1 (own := RX1) hown g3 (Fr.dec F hf) h3
theorem ab_strV (hf : fnd (mrC μ) pc = some (.getfield 9, 3)) (ho : mrO μ = 14) (k : Ab μ d kc ks (pc + 3) L (aS 8 :: st) h Q) : Ab μ d kc ks pc L (aS 7 :: st) h Q := by
  intro p l e s m args below meth c A D tc sa ad ad0 n0 H locs ls cells slots mc ms F X hn hl hok hc
  obtain ⟨a, b, g1, g2, g3, g4, g5, g6, g7, g8, g9⟩ := F.kW.2.2.2
  have h3 := k p l e s m args below meth c A D tc sa ad ad0 n0 H locs ls cells slots mc ms F X hn hl ⟨⟨trivial, hok.1.2⟩, hok.2⟩ hc
  have e7 : cv ad sa (aS 7) = .ref a := by show va_rf (sa 7) = _; rw [g1]; rfl
  have e8 : cv ad sa (aS 8) = .ref b := by show va_rf (sa 8) = _; rw [g2]; rfl
  rw [List.map_cons, e8] at h3
  rw [List.map_cons, e7]
  have hown := F.own
  rw [ho] at hown
  exact vk_getf F.1 F.2.1 g6 X.2.2.1 hown (F.hts _ fj14_9) (fun _ z => z) (Fr.dec F hf) h3
theorem ab_strC (hf : fnd (mrC μ) pc = some (.getfield 15, 3)) (ho : mrO μ = 14) (k : Ab μ d kc ks (pc + 3) L (aI 0 :: st) h Q) : Ab μ d kc ks pc L (aS 7 :: st) h Q := by
  intro p l e s m args below meth c A D tc sa ad ad0 n0 H locs ls cells slots mc ms F X hn hl hok hc
  obtain ⟨a, b, g1, g2, g3, g4, g5, g6, g7, g8, g9⟩ := F.kW.2.2.2
  have h3 := k p l e s m args below meth c A D tc sa ad ad0 n0 H locs ls cells slots mc ms F X hn hl ⟨⟨in32_0, hok.1.2⟩, hok.2⟩ hc
  have e7 : cv ad sa (aS 7) = .ref a := by show va_rf (sa 7) = _; rw [g1]; rfl
  rw [List.map_cons] at h3
  rw [List.map_cons, e7]
  have hown := F.own
  rw [ho] at hown
  exact vk_getf F.1 F.2.1 g5 X.2.2.1 hown (F.hts _ fj14_15) (fun _ z => z) (Fr.dec F hf) h3
theorem ab_strL (hf : fnd (mrC μ) pc = some (.arraylength, 1)) (k : Ab μ d kc ks (pc + 1) L (aI 146 :: st) h Q) : Ab μ d kc ks pc L (aS 8 :: st) h Q := by
  intro p l e s m args below meth c A D tc sa ad ad0 n0 H locs ls cells slots mc ms F X hn hl hok hc
  obtain ⟨a, b, g1, g2, g3, g4, g5, g6, g7, g8, g9⟩ := F.kW.2.2.2
  have h3 := k p l e s m args below meth c A D tc sa ad ad0 n0 H locs ls cells slots mc ms F X hn hl ⟨⟨by show in32 146; unfold in32; omega, hok.1.2⟩, hok.2⟩ hc
  have e8 : cv ad sa (aS 8) = .ref b := by show va_rf (sa 8) = _; rw [g2]; rfl
  rw [List.map_cons] at h3
  rw [List.map_cons, e8]
  exact va_tlen F.1 F.2.1 g7 X.2.2.1 (by rw [owl_len]; rfl) (Fr.dec F hf) h3
theorem ab_strB {x : Int} (hf : fnd (mrC μ) pc = some (.baload, 1)) (h0 : 0 ≤ x) (h1 : x < 146) (k : Ab μ d kc ks (pc + 1) L (aI (owL.getD x.toNat 0) :: st) h Q) : Ab μ d kc ks pc L (aI x :: aS 8 :: st) h Q := by
  intro p l e s m args below meth c A D tc sa ad ad0 n0 H locs ls cells slots mc ms F X hn hl hok hc
  obtain ⟨a, b, g1, g2, g3, g4, g5, g6, g7, g8, g9⟩ := F.kW.2.2.2
  have hin := owL_in x.toNat (by omega)
  have h3 := k p l e s m args below meth c A D tc sa ad ad0 n0 H locs ls cells slots mc ms F X hn hl ⟨⟨by show in32 _; unfold in32; omega, hok.1.2.2⟩, hok.2⟩ hc
  have e8 : cv ad sa (aS 8) = .ref b := by show va_rf (sa 8) = _; rw [g2]; rfl
  rw [List.map_cons] at h3
  rw [List.map_cons, List.map_cons, e8]
  rw [owl_len, owl_eq] at g7
  exact va_tb F.1 F.2.1 g7 X.2.2.1 (q_in h0 (by omega) hok.1.1) (by rw [q_nat h0 hok.1.1]; rfl) (Fr.dec F hf) h3
theorem ab_getZ (hf : fnd (mrC μ) pc = some (.getstatic 38, 3)) (ho : mrO μ = 14) (k : Ab μ d kc ks (pc + 3) L (aI 1 :: st) h Q) : Ab μ d kc ks pc L st h Q := by
  intro p l e s m args below meth c A D tc sa ad ad0 n0 H locs ls cells slots mc ms F X hn hl hok hc
  obtain ⟨a, b, g1, g2, g3, g4, g5, g6, g7, g8, g9⟩ := F.kW.2.2.2
  have h3 := k p l e s m args below meth c A D tc sa ad ad0 n0 H locs ls cells slots mc ms F X hn hl ⟨⟨by show in32 1; unfold in32; omega, hok.1⟩, hok.2⟩ hc
  rw [List.map_cons] at h3
  have hown := F.own
  rw [ho] at hown
  exact va_gets F.1 F.2.1 g8 X.2.2.1 hown (F.hts _ fj14_38) (fun _ z => z) (Fr.dec F hf) h3
theorem ab_getF (hf : fnd (mrC μ) pc = some (.getstatic 1053, 3)) (ho : mrO μ = 14) (k : Ab μ d kc ks (pc + 3) L (aS 9 :: st) h Q) : Ab μ d kc ks pc L st h Q := by
  intro p l e s m args below meth c A D tc sa ad ad0 n0 H locs ls cells slots mc ms F X hn hl hok hc
  obtain ⟨a, b, g1, g2, g3, g4, g5, g6, g7, g8, g9⟩ := F.kW.2.2.2
  have h3 := k p l e s m args below meth c A D tc sa ad ad0 n0 H locs ls cells slots mc ms F X hn hl ⟨⟨trivial, hok.1⟩, hok.2⟩ hc
  rw [List.map_cons] at h3
  have hown := F.own
  rw [ho] at hown
  exact va_gets F.1 F.2.1 g9 X.2.2.1 hown (F.hts _ fj14_1053) (fun _ z => z) (Fr.dec F hf) h3
theorem c_2c : ∀ x : Fin 256, ((Int32.ofInt (x.val : Int)).toUInt32 % 65536).toInt32 = Int32.ofInt (x.val : Int) := by decide +kernel
theorem c_nc : ∀ x : Fin 256, narrow .char (.int (Int32.ofInt (x.val : Int))) = .int (Int32.ofInt (x.val : Int)) := by decide +kernel
theorem ab_i2c {x : Int} (hf : fnd (mrC μ) pc = some (.i2c, 1)) (h0 : 0 ≤ x) (h1 : x < 256) (k : Ab μ d kc ks (pc + 1) L (aI x :: st) h Q) : Ab μ d kc ks pc L (aI x :: st) h Q := by
  intro p l e s m args below meth c A D tc sa ad ad0 n0 H locs ls cells slots mc ms F X hn hl hok hc
  have e2 := c_2c ⟨x.toNat, by omega⟩
  have ex : (((⟨x.toNat, by omega⟩ : Fin 256).val : Nat) : Int) = x := by show ((x.toNat : Nat) : Int) = x; omega
  rw [ex] at e2
  exact lv_i2c F.1 F.2.1 (Fr.dec F hf) e2 (k p l e s m args below meth c A D tc sa ad ad0 n0 H locs ls cells slots mc ms F X hn hl hok hc)
theorem ab_bret (hf : fnd (mrC μ) pc = some (.ireturn, 1)) (hr : mrT μ = some .byte) (hq : Q (some (aI 0)) h) : Ab μ d kc ks pc L [aI 0] h Q := by
  intro p l e s m args below meth c A D tc sa ad ad0 n0 H locs ls cells slots mc ms F X hn hl hok hc
  refine W.widen (k := mc) (n := ms) (by omega) (by omega) ?_
  refine W.zret F.1 F.2.1 (F.2.2.1.trans hr) rfl (fun t ht hW => ⟨⟨some (aI 0), h, ad, hq, rfl, hn, fun v e => by cases e; exact hok.1.1, by rw [ht]; exact X.1, X.2.1, X.2.2.2⟩, X.2.2.1.F ht⟩) X.2.2.1.2.2 (Fr.dec F hf) F.2.2.2.2.2.2.1
theorem ab_cret {x : Int} (hf : fnd (mrC μ) pc = some (.ireturn, 1)) (hr : mrT μ = some .char) (h0 : 0 ≤ x) (h1 : x < 256) (hq : Q (some (aI x)) h) : Ab μ d kc ks pc L [aI x] h Q := by
  intro p l e s m args below meth c A D tc sa ad ad0 n0 H locs ls cells slots mc ms F X hn hl hok hc
  have e2 := c_nc ⟨x.toNat, by omega⟩
  have ex : (((⟨x.toNat, by omega⟩ : Fin 256).val : Nat) : Int) = x := by show ((x.toNat : Nat) : Int) = x; omega
  rw [ex] at e2
  refine W.widen (k := mc) (n := ms) (by omega) (by omega) ?_
  refine W.zret F.1 F.2.1 (F.2.2.1.trans hr) e2 (fun t ht hW => ⟨⟨some (aI x), h, ad, hq, rfl, hn, fun v e => by cases e; exact hok.1.1, by rw [ht]; exact X.1, X.2.1, X.2.2.2⟩, X.2.2.1.F ht⟩) X.2.2.1.2.2 (Fr.dec F hf) F.2.2.2.2.2.2.1
/-- a call on the text itself -/
theorem ab_callT {as : List AV} (hf : fnd (mrC μ) pc = some (.invokevirtual i, 3)) (hlk : Cond.methodLink (rx (mrO μ)) i (mrY ν) ∈ Wg) (hce : CV ν n) (hcl : (mrY ν).cls = "java/lang/String") (hR : Rn ν d' kc' ks' (aS 7 :: as) h Q') (hd : d' + 1 ≤ d) (hk1 : kc' ≤ kc) (hk2 : ks' ≤ ks) (hn9 : as.length = n) (hst : st = as.reverse ++ aS 7 :: rest) (hw : wtS rest ≤ 8) (kk : ∀ r h', Q' r h' → Ab μ d (kc - kc') (ks - ks') (pc + 3) L (r.toList ++ rest) h' Q) : Ab μ d kc ks pc L st h Q := by
  subst hst
  intro p l e s m args below meth c A D tc sa ad ad0 n0 H locs ls cells slots mc ms F X hn hl hok hc
  obtain ⟨o1, o2⟩ := okS_app hok.1
  have hoa : okS h.1.length (aS 7 :: as) := ⟨trivial, okS_of fun v hv => okS_mem o1 v (List.mem_reverse.mpr hv)⟩
  have hM := hce.1.1
  have hml := hM.2.2.2.2
  obtain ⟨a, b, g1, g2, g3, g4, g5, g6, g7, g8, g9⟩ := F.kW.2.2.2
  have e7 : cv ad sa (aS 7) = .ref a := by show va_rf (sa 7) = _; rw [g1]; rfl
  have hG : GoodIn Wg (wsV (rx (mrO μ)) i (mrY ν).cls (mrY ν) (wsM ν)) := by
    intro w hw
    rcases List.mem_append.mp hw with z | z
    · have hg : w ∈ Wg := by
        simp only [List.mem_cons, List.not_mem_nil, or_false] at z
        rcases z with e | e | e | e <;> rw [e]
        · exact hlk
        · exact hce.2.1
        · exact hce.2.2
        · exact hce.1.2.1
      exact ⟨hg, good_Wg hg⟩
    · exact Wg_good hM w z
  have hrecv : ∃ cell : Cell, H[a]? = some cell ∧ cell.vm.isStatics = false ∧ s.vm.findClass (mrY ν).cls = some cell.cls := by
    obtain ⟨cell, q1, q2, q3, -⟩ := g4.kept X.2.2.1.2.1
    exact ⟨cell, q1, q2, by rw [hcl]; exact q3⟩
  have hpc := wo_pc X F.2.2.2.2.2.2.2.2.1 F.kW hoa
  rw [List.map_cons, e7] at hpc
  have hrun := va_runV (As := as.map (cv ad sa)) (rest := rest.map (cv ad sa)) (b := a) (C := (mrY ν).cls) (locs := locs) (cells := cells) (slots := slots) (e := e) (below := below) (meth := meth) (R := rom d mc ms) (g := F0 m pc ls ((as.reverse ++ aS 7 :: rest).map (cv ad sa))) ⟨F.1, F.2.1, F.2.2.2.1, F.own, F.hts⟩ (hR l D tc sa ad H.size) (cwV n F.hts hG rfl rfl rfl ⟨rfl, hce.1.2.2.1, hce.1.2.2.2.1, hce.1.2.2.2.2⟩ ⟨hd, by show 8 + (mrL ν + 11) + 40 * d' ≤ 40 * d; omega⟩)
    ⟨blind, hrecv, hpc⟩ rfl (by rw [List.length_map]; exact hn9) hl.1 (by rw [List.map_append, List.map_cons, e7, List.map_reverse]) (lv_room (by rw [wtS_eq]; exact hw)) (Fr.dec F hf) ⟨by show cells + kc' ≤ mc; omega, by show slots + ks' ≤ ms; omega⟩
  exact ab_after F X hn hl ⟨o2.2, hok.2⟩ hc hk1 hk2 hrun kk
theorem rn_L {args : List AV} {L0 : ML} (hM : MOK μ) (hlen : (lfl args).length ≤ mrL μ) (hL : entL args (mrL μ) = L0) (k : Ab μ d kc ks 0 L0 [] h Q) : Rn μ d kc ks args h Q := by
  subst hL
  exact rn_of hM hlen k
theorem rn_coder : Rn MJ0_coder 0 0 0 [aS 7] h (fun r h' => r = some (aI 0) ∧ h' = h) := by
  refine rn_L okJ0_coder (Nat.le_of_ble_eq_true rfl) rfl ?_
  refine ab_getZ rfl rfl ?_
  refine ab_if_eq (tgt := 13) rfl rfl (fun z => absurd z (by decide)) (fun _ => ?_)
  refine ab_sload_n rfl rfl ?_
  refine ab_strC rfl rfl ?_
  refine ab_goto (tgt := 14) rfl rfl ?_
  exact ab_bret rfl rfl ⟨rfl, rfl⟩
theorem rn_isLatin1 : Rn MJ0_isLatin1 0 0 0 [aS 7] h (fun r h' => r = some (aI 1) ∧ h' = h) := by
  refine rn_L okJ0_isLatin1 (Nat.le_of_ble_eq_true rfl) rfl ?_
  refine ab_getZ rfl rfl ?_
  refine ab_if_eq (tgt := 17) rfl rfl (fun z => absurd z (by decide)) (fun _ => ?_)
  refine ab_sload_n rfl rfl ?_
  refine ab_strC rfl rfl ?_
  refine ab_if_ne (tgt := 17) rfl rfl (fun z => absurd rfl z) (fun _ => ?_)
  refine ab_iconst rfl (by decide) ?_
  refine ab_goto (tgt := 18) rfl rfl ?_
  exact ab_zret rfl rfl (Or.inr rfl) ⟨rfl, rfl⟩
theorem rn_length : Rn MJ0_length 1 0 0 [aS 7] h (fun r h' => r = some (aI 146) ∧ h' = h) := by
  refine rn_L okJ0_length (Nat.le_of_ble_eq_true rfl) rfl ?_
  refine ab_sload_n rfl rfl ?_
  refine ab_strV rfl rfl ?_
  refine ab_strL rfl ?_
  refine ab_sload_n rfl rfl ?_
  refine ab_callT (ν := MJ0_coder) (as := []) rfl ml14_335 cvJ0_coder rfl rn_coder (by decide) (by decide) (by decide) rfl rfl (by decide) (fun r h' hr => ?_)
  obtain ⟨e1, e2⟩ := hr
  subst e1 e2
  refine ab_ishr rfl ?_
  refine ab_eq (st' := [aI 146]) rfl (by rw [show iShr 146 0 = 146 by decide]) rfl ?_
  exact ab_iret rfl rfl ⟨rfl, rfl⟩
theorem rn_check3 {x : Int} (h0 : 0 ≤ x) (h1 : x < 146) : Rn MJ3_checkIndex 0 0 0 [aI x, aI 146, aS 9] h (fun r h' => r = some (aI x) ∧ h' = h) := by
  refine rn_L okJ3_checkIndex (Nat.le_of_ble_eq_true rfl) rfl ?_
  refine ab_iload_n rfl rfl ?_
  refine ab_if_lt (tgt := 9) rfl rfl (fun z => absurd z (by omega)) (fun _ => ?_)
  refine ab_iload_n rfl rfl ?_
  refine ab_iload_n rfl rfl ?_
  refine ab_icmp_lt (tgt := 16) rfl rfl (fun _ => ?_) (fun z => absurd h1 z)
  refine ab_iload_n rfl rfl ?_
  exact ab_iret rfl rfl ⟨rfl, rfl⟩
theorem rn_check0 {x : Int} (h0 : 0 ≤ x) (h1 : x < 146) : Rn MJ0_checkIndex 1 0 0 [aI x, aI 146] h (fun r h' => r = none ∧ h' = h) := by
  refine rn_L okJ0_checkIndex (Nat.le_of_ble_eq_true rfl) rfl ?_
  refine ab_iload_n rfl rfl ?_
  refine ab_iload_n rfl rfl ?_
  refine ab_getF rfl rfl ?_
  refine ab_callS (ν := MJ3_checkIndex) (as := [aI x, aI 146, aS 9]) (rest := []) rfl ml14_1059 csJ3_checkIndex (rn_check3 h0 h1) (by decide) (by decide) (by decide) rfl rfl (by decide) (fun r h' hr => ?_)
  obtain ⟨e1, e2⟩ := hr
  subst e1 e2
  refine ab_pop rfl rfl ?_
  exact ab_vret rfl rfl ⟨rfl, rfl⟩
theorem rn_char1 {x : Int} (h0 : 0 ≤ x) (h1 : x < 146) : Rn MJ1_charAt 2 0 0 [aS 8, aI x] h (fun r h' => r = some (aI (owL.getD x.toNat 0)) ∧ h' = h) := by
  have hin := owL_in x.toNat (by omega)
  refine rn_L okJ1_charAt (Nat.le_of_ble_eq_true rfl) rfl ?_
  refine ab_iload_n rfl rfl ?_
  refine ab_sload_n rfl rfl ?_
  refine ab_strL rfl ?_
  refine ab_callS (ν := MJ0_checkIndex) (as := [aI x, aI 146]) (rest := []) rfl ml15_9 csJ0_checkIndex (rn_check0 h0 h1) (by decide) (by decide) (by decide) rfl rfl (by decide) (fun r h' hr => ?_)
  obtain ⟨e1, e2⟩ := hr
  subst e1 e2
  refine ab_sload_n rfl rfl ?_
  refine ab_iload_n rfl rfl ?_
  refine ab_strB rfl h0 h1 ?_
  refine ab_sipush rfl (by decide) ?_
  refine ab_iand rfl ?_
  refine ab_eq (st' := [aI (owL.getD x.toNat 0)]) rfl (by rw [show iAnd (owL.getD x.toNat 0) 255 = owL.getD x.toNat 0 by rw [iAnd_255]; omega]; rfl) rfl ?_
  refine ab_i2c rfl (by omega) (by omega) ?_
  exact ab_cret rfl rfl (by omega) (by omega) ⟨rfl, rfl⟩
theorem rn_charAt {x : Int} (h0 : 0 ≤ x) (h1 : x < 146) : Rn MJ0_charAt 3 0 0 [aS 7, aI x] h (fun r h' => r = some (aI (owL.getD x.toNat 0)) ∧ h' = h) := by
  have hin := owL_in x.toNat (by omega)
  refine rn_L okJ0_charAt (Nat.le_of_ble_eq_true rfl) rfl ?_
  refine ab_sload_n rfl rfl ?_
  refine ab_callT (ν := MJ0_isLatin1) (as := []) rfl ml14_492 cvJ0_isLatin1 rfl rn_isLatin1 (by decide) (by decide) (by decide) rfl rfl (by decide) (fun r h' hr => ?_)
  obtain ⟨e1, e2⟩ := hr
  subst e1 e2
  refine ab_if_eq (tgt := 16) rfl rfl (fun z => absurd z (by decide)) (fun _ => ?_)
  refine ab_sload_n rfl rfl ?_
  refine ab_strV rfl rfl ?_
  refine ab_iload_n rfl rfl ?_
  refine ab_callS (ν := MJ1_charAt) (as := [aS 8, aI x]) (rest := []) rfl ml14_495 csJ1_charAt (rn_char1 h0 h1) (by decide) (by decide) (by decide) rfl rfl (by decide) (fun r h' hr => ?_)
  obtain ⟨e1, e2⟩ := hr
  subst e1 e2
  exact ab_cret rfl rfl (by omega) (by omega) ⟨rfl, rfl⟩
theorem rn_letterShift {k : Int} (h0 : 0 ≤ k) (h1 : k < 6) : Rn MX11_letterShift 0 0 0 [aI k] h (fun r h' => r = some (aI (5 * (5 - k))) ∧ h' = h) := by
  refine rn_L okX11_letterShift (Nat.le_of_ble_eq_true rfl) rfl ?_
  refine ab_iconst rfl (by decide) ?_
  refine ab_iconst rfl (by decide) ?_
  refine ab_iload_n rfl rfl ?_
  refine ab_isub rfl ?_
  refine ab_imul rfl ?_
  rw [show w32 (5 * w32 (5 - k)) = 5 * (5 - k) by rw [w32_id (z := 5 - k) (by omega) (by omega), w32_id (by omega) (by omega)]]
  exact ab_iret rfl rfl ⟨rfl, rfl⟩
end STR
