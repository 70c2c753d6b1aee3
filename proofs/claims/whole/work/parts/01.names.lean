-- ===== PART A: goes FIRST, ahead of the names: the tables' words, and 'selects' of the private methods out of them =====
/-- a private method of a class that the tables say can be made, by its rows of tables_1 -/
def lw_okq (q : MethodName × Nat) : Prop := (q.1.cls ≠ "java/lang/invoke/MethodHandle" ∧ q.1.cls ≠ "java/lang/invoke/VarHandle") ∧ Cond.instantiable q.1.cls q.2 ∈ tables_1 ∧ Cond.privateMethod q.1 ∈ tables_1 ∧ Cond.instanceMethod q.1 ∈ tables_1
theorem lw_p0 : lw_okq (⟨"WrongTide", "refuse", "(I)I"⟩, 16) := ⟨⟨by decide +kernel, by decide +kernel⟩, List.mem_of_getElem? (i := 21) (by decide +kernel), List.mem_of_getElem? (i := 487) (by decide +kernel), List.mem_of_getElem? (i := 488) (by decide +kernel)⟩
theorem lw_p1 : lw_okq (⟨"WrongTide", "refuses", "(I)Z"⟩, 16) := ⟨⟨by decide +kernel, by decide +kernel⟩, List.mem_of_getElem? (i := 21) (by decide +kernel), List.mem_of_getElem? (i := 499) (by decide +kernel), List.mem_of_getElem? (i := 500) (by decide +kernel)⟩
theorem lw_p2 : lw_okq (⟨"WrongTide$Lexer", "readWord", "()V"⟩, 12) := ⟨⟨by decide +kernel, by decide +kernel⟩, List.mem_of_getElem? (i := 147) (by decide +kernel), List.mem_of_getElem? (i := 530) (by decide +kernel), List.mem_of_getElem? (i := 531) (by decide +kernel)⟩
theorem lw_p3 : lw_okq (⟨"WrongTide$Lexer", "readNumber", "()V"⟩, 12) := ⟨⟨by decide +kernel, by decide +kernel⟩, List.mem_of_getElem? (i := 147) (by decide +kernel), List.mem_of_getElem? (i := 534) (by decide +kernel), List.mem_of_getElem? (i := 535) (by decide +kernel)⟩
theorem lw_p4 : lw_okq (⟨"WrongTide$TextReader", "readStatement", "()V"⟩, 4) := ⟨⟨by decide +kernel, by decide +kernel⟩, List.mem_of_getElem? (i := 101) (by decide +kernel), List.mem_of_getElem? (i := 542) (by decide +kernel), List.mem_of_getElem? (i := 543) (by decide +kernel)⟩
theorem lw_p5 : lw_okq (⟨"WrongTide$TextReader", "readThing", "(I)V"⟩, 4) := ⟨⟨by decide +kernel, by decide +kernel⟩, List.mem_of_getElem? (i := 101) (by decide +kernel), List.mem_of_getElem? (i := 546) (by decide +kernel), List.mem_of_getElem? (i := 547) (by decide +kernel)⟩
theorem lw_p6 : lw_okq (⟨"WrongTide$TextReader", "isGiven", "(I)Z"⟩, 4) := ⟨⟨by decide +kernel, by decide +kernel⟩, List.mem_of_getElem? (i := 101) (by decide +kernel), List.mem_of_getElem? (i := 556) (by decide +kernel), List.mem_of_getElem? (i := 557) (by decide +kernel)⟩
theorem lw_p7 : lw_okq (⟨"WrongTide$TextReader", "readLoads", "()V"⟩, 4) := ⟨⟨by decide +kernel, by decide +kernel⟩, List.mem_of_getElem? (i := 101) (by decide +kernel), List.mem_of_getElem? (i := 590) (by decide +kernel), List.mem_of_getElem? (i := 591) (by decide +kernel)⟩
theorem lw_p8 : lw_okq (⟨"WrongTide$TextReader", "readKnown", "(I)I"⟩, 4) := ⟨⟨by decide +kernel, by decide +kernel⟩, List.mem_of_getElem? (i := 101) (by decide +kernel), List.mem_of_getElem? (i := 594) (by decide +kernel), List.mem_of_getElem? (i := 595) (by decide +kernel)⟩
theorem lw_p9 : lw_okq (⟨"WrongTide$TextReader", "readLies", "()V"⟩, 4) := ⟨⟨by decide +kernel, by decide +kernel⟩, List.mem_of_getElem? (i := 101) (by decide +kernel), List.mem_of_getElem? (i := 614) (by decide +kernel), List.mem_of_getElem? (i := 615) (by decide +kernel)⟩
theorem lw_p10 : lw_okq (⟨"WrongTide$FormulaReader", "readTest", "(I)V"⟩, 3) := ⟨⟨by decide +kernel, by decide +kernel⟩, List.mem_of_getElem? (i := 257) (by decide +kernel), List.mem_of_getElem? (i := 634) (by decide +kernel), List.mem_of_getElem? (i := 635) (by decide +kernel)⟩
theorem lw_p11 : lw_okq (⟨"WrongTide$FormulaReader", "readBoth", "(I)V"⟩, 3) := ⟨⟨by decide +kernel, by decide +kernel⟩, List.mem_of_getElem? (i := 257) (by decide +kernel), List.mem_of_getElem? (i := 638) (by decide +kernel), List.mem_of_getElem? (i := 639) (by decide +kernel)⟩
theorem lw_p12 : lw_okq (⟨"WrongTide$FormulaReader", "readFact", "(I)V"⟩, 3) := ⟨⟨by decide +kernel, by decide +kernel⟩, List.mem_of_getElem? (i := 257) (by decide +kernel), List.mem_of_getElem? (i := 642) (by decide +kernel), List.mem_of_getElem? (i := 643) (by decide +kernel)⟩
theorem lw_p13 : lw_okq (⟨"WrongTide$FormulaReader", "opens", "(I)Z"⟩, 3) := ⟨⟨by decide +kernel, by decide +kernel⟩, List.mem_of_getElem? (i := 257) (by decide +kernel), List.mem_of_getElem? (i := 650) (by decide +kernel), List.mem_of_getElem? (i := 651) (by decide +kernel)⟩
theorem lw_p14 : lw_okq (⟨"WrongTide$FormulaReader", "readSum", "(I)V"⟩, 3) := ⟨⟨by decide +kernel, by decide +kernel⟩, List.mem_of_getElem? (i := 257) (by decide +kernel), List.mem_of_getElem? (i := 666) (by decide +kernel), List.mem_of_getElem? (i := 667) (by decide +kernel)⟩
theorem lw_p15 : lw_okq (⟨"WrongTide$FormulaReader", "readProduct", "(I)V"⟩, 3) := ⟨⟨by decide +kernel, by decide +kernel⟩, List.mem_of_getElem? (i := 257) (by decide +kernel), List.mem_of_getElem? (i := 670) (by decide +kernel), List.mem_of_getElem? (i := 671) (by decide +kernel)⟩
def lw_privs_1 : List (MethodName × Nat) := [(⟨"WrongTide", "refuse", "(I)I"⟩, 16), (⟨"WrongTide", "refuses", "(I)Z"⟩, 16), (⟨"WrongTide$Lexer", "readWord", "()V"⟩, 12), (⟨"WrongTide$Lexer", "readNumber", "()V"⟩, 12), (⟨"WrongTide$TextReader", "readStatement", "()V"⟩, 4), (⟨"WrongTide$TextReader", "readThing", "(I)V"⟩, 4), (⟨"WrongTide$TextReader", "isGiven", "(I)Z"⟩, 4), (⟨"WrongTide$TextReader", "readLoads", "()V"⟩, 4), (⟨"WrongTide$TextReader", "readKnown", "(I)I"⟩, 4), (⟨"WrongTide$TextReader", "readLies", "()V"⟩, 4), (⟨"WrongTide$FormulaReader", "readTest", "(I)V"⟩, 3), (⟨"WrongTide$FormulaReader", "readBoth", "(I)V"⟩, 3), (⟨"WrongTide$FormulaReader", "readFact", "(I)V"⟩, 3), (⟨"WrongTide$FormulaReader", "opens", "(I)Z"⟩, 3), (⟨"WrongTide$FormulaReader", "readSum", "(I)V"⟩, 3), (⟨"WrongTide$FormulaReader", "readProduct", "(I)V"⟩, 3)]
theorem lw_r1 : ∀ q ∈ lw_privs_1, lw_okq q := List.forall_mem_cons.mpr ⟨lw_p0, List.forall_mem_cons.mpr ⟨lw_p1, List.forall_mem_cons.mpr ⟨lw_p2, List.forall_mem_cons.mpr ⟨lw_p3, List.forall_mem_cons.mpr ⟨lw_p4, List.forall_mem_cons.mpr ⟨lw_p5, List.forall_mem_cons.mpr ⟨lw_p6, List.forall_mem_cons.mpr ⟨lw_p7, List.forall_mem_cons.mpr ⟨lw_p8, List.forall_mem_cons.mpr ⟨lw_p9, List.forall_mem_cons.mpr ⟨lw_p10, List.forall_mem_cons.mpr ⟨lw_p11, List.forall_mem_cons.mpr ⟨lw_p12, List.forall_mem_cons.mpr ⟨lw_p13, List.forall_mem_cons.mpr ⟨lw_p14, List.forall_mem_cons.mpr ⟨lw_p15, fun _ h => absurd h List.not_mem_nil⟩⟩⟩⟩⟩⟩⟩⟩⟩⟩⟩⟩⟩⟩⟩⟩
theorem lw_p16 : lw_okq (⟨"WrongTide$FormulaReader", "readPart", "(I)V"⟩, 3) := ⟨⟨by decide +kernel, by decide +kernel⟩, List.mem_of_getElem? (i := 257) (by decide +kernel), List.mem_of_getElem? (i := 674) (by decide +kernel), List.mem_of_getElem? (i := 675) (by decide +kernel)⟩
theorem lw_p17 : lw_okq (⟨"WrongTide$FormulaReader", "readPair", "(II)V"⟩, 3) := ⟨⟨by decide +kernel, by decide +kernel⟩, List.mem_of_getElem? (i := 257) (by decide +kernel), List.mem_of_getElem? (i := 678) (by decide +kernel), List.mem_of_getElem? (i := 679) (by decide +kernel)⟩
theorem lw_p18 : lw_okq (⟨"WrongTide$FormulaReader", "readChoice", "(I)V"⟩, 3) := ⟨⟨by decide +kernel, by decide +kernel⟩, List.mem_of_getElem? (i := 257) (by decide +kernel), List.mem_of_getElem? (i := 682) (by decide +kernel), List.mem_of_getElem? (i := 683) (by decide +kernel)⟩
theorem lw_p19 : lw_okq (⟨"WrongTide$FormulaReader", "readSeen", "()V"⟩, 3) := ⟨⟨by decide +kernel, by decide +kernel⟩, List.mem_of_getElem? (i := 257) (by decide +kernel), List.mem_of_getElem? (i := 686) (by decide +kernel), List.mem_of_getElem? (i := 687) (by decide +kernel)⟩
theorem lw_p20 : lw_okq (⟨"WrongTide$FormulaReader", "readComparison", "()I"⟩, 3) := ⟨⟨by decide +kernel, by decide +kernel⟩, List.mem_of_getElem? (i := 257) (by decide +kernel), List.mem_of_getElem? (i := 693) (by decide +kernel), List.mem_of_getElem? (i := 694) (by decide +kernel)⟩
theorem lw_p21 : lw_okq (⟨"WrongTide$TextReader", "readGale", "()V"⟩, 4) := ⟨⟨by decide +kernel, by decide +kernel⟩, List.mem_of_getElem? (i := 101) (by decide +kernel), List.mem_of_getElem? (i := 697) (by decide +kernel), List.mem_of_getElem? (i := 698) (by decide +kernel)⟩
theorem lw_p22 : lw_okq (⟨"WrongTide$Reckoner", "reckon", "(I)I"⟩, 3) := ⟨⟨by decide +kernel, by decide +kernel⟩, List.mem_of_getElem? (i := 289) (by decide +kernel), List.mem_of_getElem? (i := 740) (by decide +kernel), List.mem_of_getElem? (i := 741) (by decide +kernel)⟩
theorem lw_p23 : lw_okq (⟨"WrongTide", "safeShips", "(I)I"⟩, 16) := ⟨⟨by decide +kernel, by decide +kernel⟩, List.mem_of_getElem? (i := 21) (by decide +kernel), List.mem_of_getElem? (i := 849) (by decide +kernel), List.mem_of_getElem? (i := 850) (by decide +kernel)⟩
theorem lw_p24 : lw_okq (⟨"WrongTide", "canLook", "(I)Z"⟩, 16) := ⟨⟨by decide +kernel, by decide +kernel⟩, List.mem_of_getElem? (i := 21) (by decide +kernel), List.mem_of_getElem? (i := 866) (by decide +kernel), List.mem_of_getElem? (i := 867) (by decide +kernel)⟩
theorem lw_p25 : lw_okq (⟨"WrongTide", "firstUnsafe", "(I)I"⟩, 16) := ⟨⟨by decide +kernel, by decide +kernel⟩, List.mem_of_getElem? (i := 21) (by decide +kernel), List.mem_of_getElem? (i := 874) (by decide +kernel), List.mem_of_getElem? (i := 875) (by decide +kernel)⟩
theorem lw_p26 : lw_okq (⟨"WrongTide", "isSafe", "(I)Z"⟩, 16) := ⟨⟨by decide +kernel, by decide +kernel⟩, List.mem_of_getElem? (i := 21) (by decide +kernel), List.mem_of_getElem? (i := 878) (by decide +kernel), List.mem_of_getElem? (i := 879) (by decide +kernel)⟩
theorem lw_p27 : lw_okq (⟨"WrongTide$Quays", "berthsThatFit", "(I)I"⟩, 5) := ⟨⟨by decide +kernel, by decide +kernel⟩, List.mem_of_getElem? (i := 326) (by decide +kernel), List.mem_of_getElem? (i := 896) (by decide +kernel), List.mem_of_getElem? (i := 897) (by decide +kernel)⟩
theorem lw_p28 : lw_okq (⟨"WrongTide$Quays", "mostFrom", "(II)I"⟩, 5) := ⟨⟨by decide +kernel, by decide +kernel⟩, List.mem_of_getElem? (i := 326) (by decide +kernel), List.mem_of_getElem? (i := 901) (by decide +kernel), List.mem_of_getElem? (i := 902) (by decide +kernel)⟩
theorem lw_p29 : lw_okq (⟨"WrongTide$Quays", "firstBest", "(II)I"⟩, 5) := ⟨⟨by decide +kernel, by decide +kernel⟩, List.mem_of_getElem? (i := 326) (by decide +kernel), List.mem_of_getElem? (i := 906) (by decide +kernel), List.mem_of_getElem? (i := 907) (by decide +kernel)⟩
theorem lw_p30 : lw_okq (⟨"WrongTide$Rows", "tryHolds", "(III)V"⟩, 13) := ⟨⟨by decide +kernel, by decide +kernel⟩, List.mem_of_getElem? (i := 349) (by decide +kernel), List.mem_of_getElem? (i := 929) (by decide +kernel), List.mem_of_getElem? (i := 930) (by decide +kernel)⟩
theorem lw_p31 : lw_okq (⟨"WrongTide$Rows", "keepIfLess", "(I)V"⟩, 13) := ⟨⟨by decide +kernel, by decide +kernel⟩, List.mem_of_getElem? (i := 349) (by decide +kernel), List.mem_of_getElem? (i := 934) (by decide +kernel), List.mem_of_getElem? (i := 935) (by decide +kernel)⟩
def lw_privs_2 : List (MethodName × Nat) := [(⟨"WrongTide$FormulaReader", "readPart", "(I)V"⟩, 3), (⟨"WrongTide$FormulaReader", "readPair", "(II)V"⟩, 3), (⟨"WrongTide$FormulaReader", "readChoice", "(I)V"⟩, 3), (⟨"WrongTide$FormulaReader", "readSeen", "()V"⟩, 3), (⟨"WrongTide$FormulaReader", "readComparison", "()I"⟩, 3), (⟨"WrongTide$TextReader", "readGale", "()V"⟩, 4), (⟨"WrongTide$Reckoner", "reckon", "(I)I"⟩, 3), (⟨"WrongTide", "safeShips", "(I)I"⟩, 16), (⟨"WrongTide", "canLook", "(I)Z"⟩, 16), (⟨"WrongTide", "firstUnsafe", "(I)I"⟩, 16), (⟨"WrongTide", "isSafe", "(I)Z"⟩, 16), (⟨"WrongTide$Quays", "berthsThatFit", "(I)I"⟩, 5), (⟨"WrongTide$Quays", "mostFrom", "(II)I"⟩, 5), (⟨"WrongTide$Quays", "firstBest", "(II)I"⟩, 5), (⟨"WrongTide$Rows", "tryHolds", "(III)V"⟩, 13), (⟨"WrongTide$Rows", "keepIfLess", "(I)V"⟩, 13)]
theorem lw_r2 : ∀ q ∈ lw_privs_2, lw_okq q := List.forall_mem_cons.mpr ⟨lw_p16, List.forall_mem_cons.mpr ⟨lw_p17, List.forall_mem_cons.mpr ⟨lw_p18, List.forall_mem_cons.mpr ⟨lw_p19, List.forall_mem_cons.mpr ⟨lw_p20, List.forall_mem_cons.mpr ⟨lw_p21, List.forall_mem_cons.mpr ⟨lw_p22, List.forall_mem_cons.mpr ⟨lw_p23, List.forall_mem_cons.mpr ⟨lw_p24, List.forall_mem_cons.mpr ⟨lw_p25, List.forall_mem_cons.mpr ⟨lw_p26, List.forall_mem_cons.mpr ⟨lw_p27, List.forall_mem_cons.mpr ⟨lw_p28, List.forall_mem_cons.mpr ⟨lw_p29, List.forall_mem_cons.mpr ⟨lw_p30, List.forall_mem_cons.mpr ⟨lw_p31, fun _ h => absurd h List.not_mem_nil⟩⟩⟩⟩⟩⟩⟩⟩⟩⟩⟩⟩⟩⟩⟩⟩
theorem lw_p32 : lw_okq (⟨"WrongTide$Rows", "firstLeading", "(II)I"⟩, 13) := ⟨⟨by decide +kernel, by decide +kernel⟩, List.mem_of_getElem? (i := 349) (by decide +kernel), List.mem_of_getElem? (i := 960) (by decide +kernel), List.mem_of_getElem? (i := 961) (by decide +kernel)⟩
theorem lw_p33 : lw_okq (⟨"WrongTide$Rows", "stands", "(III)Z"⟩, 13) := ⟨⟨by decide +kernel, by decide +kernel⟩, List.mem_of_getElem? (i := 349) (by decide +kernel), List.mem_of_getElem? (i := 964) (by decide +kernel), List.mem_of_getElem? (i := 965) (by decide +kernel)⟩
theorem lw_p34 : lw_okq (⟨"WrongTide$Swapper", "measureWares", "()V"⟩, 9) := ⟨⟨by decide +kernel, by decide +kernel⟩, List.mem_of_getElem? (i := 400) (by decide +kernel), List.mem_of_getElem? (i := 988) (by decide +kernel), List.mem_of_getElem? (i := 989) (by decide +kernel)⟩
theorem lw_p35 : lw_okq (⟨"WrongTide$Swapper", "oneSwapLevels", "(II)Z"⟩, 9) := ⟨⟨by decide +kernel, by decide +kernel⟩, List.mem_of_getElem? (i := 400) (by decide +kernel), List.mem_of_getElem? (i := 997) (by decide +kernel), List.mem_of_getElem? (i := 998) (by decide +kernel)⟩
theorem lw_p36 : lw_okq (⟨"WrongTide$Swapper", "isNear", "(III)Z"⟩, 9) := ⟨⟨by decide +kernel, by decide +kernel⟩, List.mem_of_getElem? (i := 400) (by decide +kernel), List.mem_of_getElem? (i := 1001) (by decide +kernel), List.mem_of_getElem? (i := 1002) (by decide +kernel)⟩
theorem lw_p37 : lw_okq (⟨"WrongTide$Swapper", "canSwap", "(IIII)Z"⟩, 9) := ⟨⟨by decide +kernel, by decide +kernel⟩, List.mem_of_getElem? (i := 400) (by decide +kernel), List.mem_of_getElem? (i := 1005) (by decide +kernel), List.mem_of_getElem? (i := 1006) (by decide +kernel)⟩
theorem lw_p38 : lw_okq (⟨"WrongTide$Swapper", "otherLevels", "(IIII)Z"⟩, 9) := ⟨⟨by decide +kernel, by decide +kernel⟩, List.mem_of_getElem? (i := 400) (by decide +kernel), List.mem_of_getElem? (i := 1010) (by decide +kernel), List.mem_of_getElem? (i := 1011) (by decide +kernel)⟩
theorem lw_p39 : lw_okq (⟨"WrongTide$Swapper", "twoSwapsLevel", "(II)Z"⟩, 9) := ⟨⟨by decide +kernel, by decide +kernel⟩, List.mem_of_getElem? (i := 400) (by decide +kernel), List.mem_of_getElem? (i := 1014) (by decide +kernel), List.mem_of_getElem? (i := 1015) (by decide +kernel)⟩
theorem lw_p40 : lw_okq (⟨"WrongTide$Swapper", "levelsBehind", "(IIII)Z"⟩, 9) := ⟨⟨by decide +kernel, by decide +kernel⟩, List.mem_of_getElem? (i := 400) (by decide +kernel), List.mem_of_getElem? (i := 1018) (by decide +kernel), List.mem_of_getElem? (i := 1019) (by decide +kernel)⟩
theorem lw_p41 : lw_okq (⟨"WrongTide$Rows", "rodeSo", "(II)Z"⟩, 13) := ⟨⟨by decide +kernel, by decide +kernel⟩, List.mem_of_getElem? (i := 349) (by decide +kernel), List.mem_of_getElem? (i := 1040) (by decide +kernel), List.mem_of_getElem? (i := 1041) (by decide +kernel)⟩
theorem lw_p42 : lw_okq (⟨"WrongTide", "work", "(IIII)I"⟩, 16) := ⟨⟨by decide +kernel, by decide +kernel⟩, List.mem_of_getElem? (i := 21) (by decide +kernel), List.mem_of_getElem? (i := 1050) (by decide +kernel), List.mem_of_getElem? (i := 1051) (by decide +kernel)⟩
theorem lw_p43 : lw_okq (⟨"WrongTide", "mayWith", "(III)Z"⟩, 16) := ⟨⟨by decide +kernel, by decide +kernel⟩, List.mem_of_getElem? (i := 21) (by decide +kernel), List.mem_of_getElem? (i := 1054) (by decide +kernel), List.mem_of_getElem? (i := 1055) (by decide +kernel)⟩
theorem lw_p44 : lw_okq (⟨"WrongTide", "canTake", "(II)Z"⟩, 16) := ⟨⟨by decide +kernel, by decide +kernel⟩, List.mem_of_getElem? (i := 21) (by decide +kernel), List.mem_of_getElem? (i := 1083) (by decide +kernel), List.mem_of_getElem? (i := 1084) (by decide +kernel)⟩
theorem lw_p45 : lw_okq (⟨"WrongTide", "canPass", "(I)Z"⟩, 16) := ⟨⟨by decide +kernel, by decide +kernel⟩, List.mem_of_getElem? (i := 21) (by decide +kernel), List.mem_of_getElem? (i := 1091) (by decide +kernel), List.mem_of_getElem? (i := 1092) (by decide +kernel)⟩
theorem lw_p46 : lw_okq (⟨"WrongTide", "passHour", "()I"⟩, 16) := ⟨⟨by decide +kernel, by decide +kernel⟩, List.mem_of_getElem? (i := 21) (by decide +kernel), List.mem_of_getElem? (i := 1095) (by decide +kernel), List.mem_of_getElem? (i := 1096) (by decide +kernel)⟩
theorem lw_p47 : lw_okq (⟨"WrongTide", "blow", "()I"⟩, 16) := ⟨⟨by decide +kernel, by decide +kernel⟩, List.mem_of_getElem? (i := 21) (by decide +kernel), List.mem_of_getElem? (i := 1103) (by decide +kernel), List.mem_of_getElem? (i := 1104) (by decide +kernel)⟩
def lw_privs_3 : List (MethodName × Nat) := [(⟨"WrongTide$Rows", "firstLeading", "(II)I"⟩, 13), (⟨"WrongTide$Rows", "stands", "(III)Z"⟩, 13), (⟨"WrongTide$Swapper", "measureWares", "()V"⟩, 9), (⟨"WrongTide$Swapper", "oneSwapLevels", "(II)Z"⟩, 9), (⟨"WrongTide$Swapper", "isNear", "(III)Z"⟩, 9), (⟨"WrongTide$Swapper", "canSwap", "(IIII)Z"⟩, 9), (⟨"WrongTide$Swapper", "otherLevels", "(IIII)Z"⟩, 9), (⟨"WrongTide$Swapper", "twoSwapsLevel", "(II)Z"⟩, 9), (⟨"WrongTide$Swapper", "levelsBehind", "(IIII)Z"⟩, 9), (⟨"WrongTide$Rows", "rodeSo", "(II)Z"⟩, 13), (⟨"WrongTide", "work", "(IIII)I"⟩, 16), (⟨"WrongTide", "mayWith", "(III)Z"⟩, 16), (⟨"WrongTide", "canTake", "(II)Z"⟩, 16), (⟨"WrongTide", "canPass", "(I)Z"⟩, 16), (⟨"WrongTide", "passHour", "()I"⟩, 16), (⟨"WrongTide", "blow", "()I"⟩, 16)]
theorem lw_r3 : ∀ q ∈ lw_privs_3, lw_okq q := List.forall_mem_cons.mpr ⟨lw_p32, List.forall_mem_cons.mpr ⟨lw_p33, List.forall_mem_cons.mpr ⟨lw_p34, List.forall_mem_cons.mpr ⟨lw_p35, List.forall_mem_cons.mpr ⟨lw_p36, List.forall_mem_cons.mpr ⟨lw_p37, List.forall_mem_cons.mpr ⟨lw_p38, List.forall_mem_cons.mpr ⟨lw_p39, List.forall_mem_cons.mpr ⟨lw_p40, List.forall_mem_cons.mpr ⟨lw_p41, List.forall_mem_cons.mpr ⟨lw_p42, List.forall_mem_cons.mpr ⟨lw_p43, List.forall_mem_cons.mpr ⟨lw_p44, List.forall_mem_cons.mpr ⟨lw_p45, List.forall_mem_cons.mpr ⟨lw_p46, List.forall_mem_cons.mpr ⟨lw_p47, fun _ h => absurd h List.not_mem_nil⟩⟩⟩⟩⟩⟩⟩⟩⟩⟩⟩⟩⟩⟩⟩⟩
theorem lw_p48 : lw_okq (⟨"WrongTide", "draw", "(I)I"⟩, 16) := ⟨⟨by decide +kernel, by decide +kernel⟩, List.mem_of_getElem? (i := 21) (by decide +kernel), List.mem_of_getElem? (i := 1107) (by decide +kernel), List.mem_of_getElem? (i := 1108) (by decide +kernel)⟩
theorem lw_p49 : lw_okq (⟨"WrongTide", "imageLength", "()I"⟩, 16) := ⟨⟨by decide +kernel, by decide +kernel⟩, List.mem_of_getElem? (i := 21) (by decide +kernel), List.mem_of_getElem? (i := 1147) (by decide +kernel), List.mem_of_getElem? (i := 1148) (by decide +kernel)⟩
theorem lw_p50 : lw_okq (⟨"WrongTide", "cellsOf", "(I)I"⟩, 16) := ⟨⟨by decide +kernel, by decide +kernel⟩, List.mem_of_getElem? (i := 21) (by decide +kernel), List.mem_of_getElem? (i := 1151) (by decide +kernel), List.mem_of_getElem? (i := 1152) (by decide +kernel)⟩
theorem lw_p51 : lw_okq (⟨"WrongTide", "cellInImage", "(II)I"⟩, 16) := ⟨⟨by decide +kernel, by decide +kernel⟩, List.mem_of_getElem? (i := 21) (by decide +kernel), List.mem_of_getElem? (i := 1155) (by decide +kernel), List.mem_of_getElem? (i := 1156) (by decide +kernel)⟩
theorem lw_p52 : lw_okq (⟨"WrongTide", "isImage", "()Z"⟩, 16) := ⟨⟨by decide +kernel, by decide +kernel⟩, List.mem_of_getElem? (i := 21) (by decide +kernel), List.mem_of_getElem? (i := 1168) (by decide +kernel), List.mem_of_getElem? (i := 1169) (by decide +kernel)⟩
theorem lw_p53 : lw_okq (⟨"WrongTide", "sumFits", "()Z"⟩, 16) := ⟨⟨by decide +kernel, by decide +kernel⟩, List.mem_of_getElem? (i := 21) (by decide +kernel), List.mem_of_getElem? (i := 1172) (by decide +kernel), List.mem_of_getElem? (i := 1173) (by decide +kernel)⟩
theorem lw_p54 : lw_okq (⟨"WrongTideModel", "refuses", "(I)I"⟩, 71) := ⟨⟨by decide +kernel, by decide +kernel⟩, List.mem_of_getElem? (i := 1187) (by decide +kernel), List.mem_of_getElem? (i := 1412) (by decide +kernel), List.mem_of_getElem? (i := 1413) (by decide +kernel)⟩
theorem lw_p55 : lw_okq (⟨"WrongTideModel", "put", "(I)V"⟩, 71) := ⟨⟨by decide +kernel, by decide +kernel⟩, List.mem_of_getElem? (i := 1187) (by decide +kernel), List.mem_of_getElem? (i := 1416) (by decide +kernel), List.mem_of_getElem? (i := 1417) (by decide +kernel)⟩
theorem lw_p56 : lw_okq (⟨"WrongTideModel", "ahead", "()V"⟩, 71) := ⟨⟨by decide +kernel, by decide +kernel⟩, List.mem_of_getElem? (i := 1187) (by decide +kernel), List.mem_of_getElem? (i := 1428) (by decide +kernel), List.mem_of_getElem? (i := 1429) (by decide +kernel)⟩
theorem lw_p57 : lw_okq (⟨"WrongTideModel", "statement", "()V"⟩, 71) := ⟨⟨by decide +kernel, by decide +kernel⟩, List.mem_of_getElem? (i := 1187) (by decide +kernel), List.mem_of_getElem? (i := 1438) (by decide +kernel), List.mem_of_getElem? (i := 1439) (by decide +kernel)⟩
theorem lw_p58 : lw_okq (⟨"WrongTideModel", "lex", "()V"⟩, 71) := ⟨⟨by decide +kernel, by decide +kernel⟩, List.mem_of_getElem? (i := 1187) (by decide +kernel), List.mem_of_getElem? (i := 1442) (by decide +kernel), List.mem_of_getElem? (i := 1443) (by decide +kernel)⟩
theorem lw_p59 : lw_okq (⟨"WrongTideModel", "blame", "(II)V"⟩, 71) := ⟨⟨by decide +kernel, by decide +kernel⟩, List.mem_of_getElem? (i := 1187) (by decide +kernel), List.mem_of_getElem? (i := 1446) (by decide +kernel), List.mem_of_getElem? (i := 1447) (by decide +kernel)⟩
theorem lw_p60 : lw_okq (⟨"WrongTideModel", "isWord", "(J)Z"⟩, 71) := ⟨⟨by decide +kernel, by decide +kernel⟩, List.mem_of_getElem? (i := 1187) (by decide +kernel), List.mem_of_getElem? (i := 1451) (by decide +kernel), List.mem_of_getElem? (i := 1452) (by decide +kernel)⟩
theorem lw_p61 : lw_okq (⟨"WrongTideModel", "waring", "()V"⟩, 71) := ⟨⟨by decide +kernel, by decide +kernel⟩, List.mem_of_getElem? (i := 1187) (by decide +kernel), List.mem_of_getElem? (i := 1455) (by decide +kernel), List.mem_of_getElem? (i := 1456) (by decide +kernel)⟩
theorem lw_p62 : lw_okq (⟨"WrongTideModel", "counts", "(Z)Z"⟩, 71) := ⟨⟨by decide +kernel, by decide +kernel⟩, List.mem_of_getElem? (i := 1187) (by decide +kernel), List.mem_of_getElem? (i := 1459) (by decide +kernel), List.mem_of_getElem? (i := 1460) (by decide +kernel)⟩
theorem lw_p63 : lw_okq (⟨"WrongTideModel", "fresh", "()J"⟩, 71) := ⟨⟨by decide +kernel, by decide +kernel⟩, List.mem_of_getElem? (i := 1187) (by decide +kernel), List.mem_of_getElem? (i := 1463) (by decide +kernel), List.mem_of_getElem? (i := 1464) (by decide +kernel)⟩
def lw_privs_4 : List (MethodName × Nat) := [(⟨"WrongTide", "draw", "(I)I"⟩, 16), (⟨"WrongTide", "imageLength", "()I"⟩, 16), (⟨"WrongTide", "cellsOf", "(I)I"⟩, 16), (⟨"WrongTide", "cellInImage", "(II)I"⟩, 16), (⟨"WrongTide", "isImage", "()Z"⟩, 16), (⟨"WrongTide", "sumFits", "()Z"⟩, 16), (⟨"WrongTideModel", "refuses", "(I)I"⟩, 71), (⟨"WrongTideModel", "put", "(I)V"⟩, 71), (⟨"WrongTideModel", "ahead", "()V"⟩, 71), (⟨"WrongTideModel", "statement", "()V"⟩, 71), (⟨"WrongTideModel", "lex", "()V"⟩, 71), (⟨"WrongTideModel", "blame", "(II)V"⟩, 71), (⟨"WrongTideModel", "isWord", "(J)Z"⟩, 71), (⟨"WrongTideModel", "waring", "()V"⟩, 71), (⟨"WrongTideModel", "counts", "(Z)Z"⟩, 71), (⟨"WrongTideModel", "fresh", "()J"⟩, 71)]
theorem lw_r4 : ∀ q ∈ lw_privs_4, lw_okq q := List.forall_mem_cons.mpr ⟨lw_p48, List.forall_mem_cons.mpr ⟨lw_p49, List.forall_mem_cons.mpr ⟨lw_p50, List.forall_mem_cons.mpr ⟨lw_p51, List.forall_mem_cons.mpr ⟨lw_p52, List.forall_mem_cons.mpr ⟨lw_p53, List.forall_mem_cons.mpr ⟨lw_p54, List.forall_mem_cons.mpr ⟨lw_p55, List.forall_mem_cons.mpr ⟨lw_p56, List.forall_mem_cons.mpr ⟨lw_p57, List.forall_mem_cons.mpr ⟨lw_p58, List.forall_mem_cons.mpr ⟨lw_p59, List.forall_mem_cons.mpr ⟨lw_p60, List.forall_mem_cons.mpr ⟨lw_p61, List.forall_mem_cons.mpr ⟨lw_p62, List.forall_mem_cons.mpr ⟨lw_p63, fun _ h => absurd h List.not_mem_nil⟩⟩⟩⟩⟩⟩⟩⟩⟩⟩⟩⟩⟩⟩⟩⟩
theorem lw_p64 : lw_okq (⟨"WrongTideModel", "isOwn", "(J)Z"⟩, 71) := ⟨⟨by decide +kernel, by decide +kernel⟩, List.mem_of_getElem? (i := 1187) (by decide +kernel), List.mem_of_getElem? (i := 1467) (by decide +kernel), List.mem_of_getElem? (i := 1468) (by decide +kernel)⟩
theorem lw_p65 : lw_okq (⟨"WrongTideModel", "named", "(IJ)I"⟩, 71) := ⟨⟨by decide +kernel, by decide +kernel⟩, List.mem_of_getElem? (i := 1187) (by decide +kernel), List.mem_of_getElem? (i := 1499) (by decide +kernel), List.mem_of_getElem? (i := 1500) (by decide +kernel)⟩
theorem lw_p66 : lw_okq (⟨"WrongTideModel", "manyOf", "(II)I"⟩, 71) := ⟨⟨by decide +kernel, by decide +kernel⟩, List.mem_of_getElem? (i := 1187) (by decide +kernel), List.mem_of_getElem? (i := 1503) (by decide +kernel), List.mem_of_getElem? (i := 1504) (by decide +kernel)⟩
theorem lw_p67 : lw_okq (⟨"WrongTideModel", "nameOf", "(III)J"⟩, 71) := ⟨⟨by decide +kernel, by decide +kernel⟩, List.mem_of_getElem? (i := 1187) (by decide +kernel), List.mem_of_getElem? (i := 1507) (by decide +kernel), List.mem_of_getElem? (i := 1508) (by decide +kernel)⟩
theorem lw_p68 : lw_okq (⟨"WrongTideModel", "must", "(J)V"⟩, 71) := ⟨⟨by decide +kernel, by decide +kernel⟩, List.mem_of_getElem? (i := 1187) (by decide +kernel), List.mem_of_getElem? (i := 1511) (by decide +kernel), List.mem_of_getElem? (i := 1512) (by decide +kernel)⟩
theorem lw_p69 : lw_okq (⟨"WrongTideModel", "number", "(II)I"⟩, 71) := ⟨⟨by decide +kernel, by decide +kernel⟩, List.mem_of_getElem? (i := 1187) (by decide +kernel), List.mem_of_getElem? (i := 1515) (by decide +kernel), List.mem_of_getElem? (i := 1516) (by decide +kernel)⟩
theorem lw_p70 : lw_okq (⟨"WrongTideModel", "shipping", "()V"⟩, 71) := ⟨⟨by decide +kernel, by decide +kernel⟩, List.mem_of_getElem? (i := 1187) (by decide +kernel), List.mem_of_getElem? (i := 1522) (by decide +kernel), List.mem_of_getElem? (i := 1523) (by decide +kernel)⟩
theorem lw_p71 : lw_okq (⟨"WrongTideModel", "loading", "()V"⟩, 71) := ⟨⟨by decide +kernel, by decide +kernel⟩, List.mem_of_getElem? (i := 1187) (by decide +kernel), List.mem_of_getElem? (i := 1526) (by decide +kernel), List.mem_of_getElem? (i := 1527) (by decide +kernel)⟩
theorem lw_p72 : lw_okq (⟨"WrongTideModel", "askedBut", "(II)I"⟩, 71) := ⟨⟨by decide +kernel, by decide +kernel⟩, List.mem_of_getElem? (i := 1187) (by decide +kernel), List.mem_of_getElem? (i := 1530) (by decide +kernel), List.mem_of_getElem? (i := 1531) (by decide +kernel)⟩
theorem lw_p73 : lw_okq (⟨"WrongTideModel", "berthing", "()V"⟩, 71) := ⟨⟨by decide +kernel, by decide +kernel⟩, List.mem_of_getElem? (i := 1187) (by decide +kernel), List.mem_of_getElem? (i := 1537) (by decide +kernel), List.mem_of_getElem? (i := 1538) (by decide +kernel)⟩
theorem lw_p74 : lw_okq (⟨"WrongTideModel", "lying", "()V"⟩, 71) := ⟨⟨by decide +kernel, by decide +kernel⟩, List.mem_of_getElem? (i := 1187) (by decide +kernel), List.mem_of_getElem? (i := 1541) (by decide +kernel), List.mem_of_getElem? (i := 1542) (by decide +kernel)⟩
theorem lw_p75 : lw_okq (⟨"WrongTideModel", "reading", "(I)V"⟩, 71) := ⟨⟨by decide +kernel, by decide +kernel⟩, List.mem_of_getElem? (i := 1187) (by decide +kernel), List.mem_of_getElem? (i := 1545) (by decide +kernel), List.mem_of_getElem? (i := 1546) (by decide +kernel)⟩
theorem lw_p76 : lw_okq (⟨"WrongTideModel", "reads", "(Z)V"⟩, 71) := ⟨⟨by decide +kernel, by decide +kernel⟩, List.mem_of_getElem? (i := 1187) (by decide +kernel), List.mem_of_getElem? (i := 1549) (by decide +kernel), List.mem_of_getElem? (i := 1550) (by decide +kernel)⟩
theorem lw_p77 : lw_okq (⟨"WrongTideModel", "pushes", "(I)V"⟩, 71) := ⟨⟨by decide +kernel, by decide +kernel⟩, List.mem_of_getElem? (i := 1187) (by decide +kernel), List.mem_of_getElem? (i := 1553) (by decide +kernel), List.mem_of_getElem? (i := 1554) (by decide +kernel)⟩
theorem lw_p78 : lw_okq (⟨"WrongTideModel", "operand", "()Z"⟩, 71) := ⟨⟨by decide +kernel, by decide +kernel⟩, List.mem_of_getElem? (i := 1187) (by decide +kernel), List.mem_of_getElem? (i := 1557) (by decide +kernel), List.mem_of_getElem? (i := 1558) (by decide +kernel)⟩
theorem lw_p79 : lw_okq (⟨"WrongTideModel", "holdsBack", "(I)V"⟩, 71) := ⟨⟨by decide +kernel, by decide +kernel⟩, List.mem_of_getElem? (i := 1187) (by decide +kernel), List.mem_of_getElem? (i := 1564) (by decide +kernel), List.mem_of_getElem? (i := 1565) (by decide +kernel)⟩
def lw_privs_5 : List (MethodName × Nat) := [(⟨"WrongTideModel", "isOwn", "(J)Z"⟩, 71), (⟨"WrongTideModel", "named", "(IJ)I"⟩, 71), (⟨"WrongTideModel", "manyOf", "(II)I"⟩, 71), (⟨"WrongTideModel", "nameOf", "(III)J"⟩, 71), (⟨"WrongTideModel", "must", "(J)V"⟩, 71), (⟨"WrongTideModel", "number", "(II)I"⟩, 71), (⟨"WrongTideModel", "shipping", "()V"⟩, 71), (⟨"WrongTideModel", "loading", "()V"⟩, 71), (⟨"WrongTideModel", "askedBut", "(II)I"⟩, 71), (⟨"WrongTideModel", "berthing", "()V"⟩, 71), (⟨"WrongTideModel", "lying", "()V"⟩, 71), (⟨"WrongTideModel", "reading", "(I)V"⟩, 71), (⟨"WrongTideModel", "reads", "(Z)V"⟩, 71), (⟨"WrongTideModel", "pushes", "(I)V"⟩, 71), (⟨"WrongTideModel", "operand", "()Z"⟩, 71), (⟨"WrongTideModel", "holdsBack", "(I)V"⟩, 71)]
theorem lw_r5 : ∀ q ∈ lw_privs_5, lw_okq q := List.forall_mem_cons.mpr ⟨lw_p64, List.forall_mem_cons.mpr ⟨lw_p65, List.forall_mem_cons.mpr ⟨lw_p66, List.forall_mem_cons.mpr ⟨lw_p67, List.forall_mem_cons.mpr ⟨lw_p68, List.forall_mem_cons.mpr ⟨lw_p69, List.forall_mem_cons.mpr ⟨lw_p70, List.forall_mem_cons.mpr ⟨lw_p71, List.forall_mem_cons.mpr ⟨lw_p72, List.forall_mem_cons.mpr ⟨lw_p73, List.forall_mem_cons.mpr ⟨lw_p74, List.forall_mem_cons.mpr ⟨lw_p75, List.forall_mem_cons.mpr ⟨lw_p76, List.forall_mem_cons.mpr ⟨lw_p77, List.forall_mem_cons.mpr ⟨lw_p78, List.forall_mem_cons.mpr ⟨lw_p79, fun _ h => absurd h List.not_mem_nil⟩⟩⟩⟩⟩⟩⟩⟩⟩⟩⟩⟩⟩⟩⟩⟩
theorem lw_p80 : lw_okq (⟨"WrongTideModel", "isSign", "(I)Z"⟩, 71) := ⟨⟨by decide +kernel, by decide +kernel⟩, List.mem_of_getElem? (i := 1187) (by decide +kernel), List.mem_of_getElem? (i := 1568) (by decide +kernel), List.mem_of_getElem? (i := 1569) (by decide +kernel)⟩
theorem lw_p81 : lw_okq (⟨"WrongTideModel", "opens", "(I)V"⟩, 71) := ⟨⟨by decide +kernel, by decide +kernel⟩, List.mem_of_getElem? (i := 1187) (by decide +kernel), List.mem_of_getElem? (i := 1572) (by decide +kernel), List.mem_of_getElem? (i := 1573) (by decide +kernel)⟩
theorem lw_p82 : lw_okq (⟨"WrongTideModel", "add", "(II)V"⟩, 71) := ⟨⟨by decide +kernel, by decide +kernel⟩, List.mem_of_getElem? (i := 1187) (by decide +kernel), List.mem_of_getElem? (i := 1576) (by decide +kernel), List.mem_of_getElem? (i := 1577) (by decide +kernel)⟩
theorem lw_p83 : lw_okq (⟨"WrongTideModel", "goesOn", "()Z"⟩, 71) := ⟨⟨by decide +kernel, by decide +kernel⟩, List.mem_of_getElem? (i := 1187) (by decide +kernel), List.mem_of_getElem? (i := 1580) (by decide +kernel), List.mem_of_getElem? (i := 1581) (by decide +kernel)⟩
theorem lw_p84 : lw_okq (⟨"WrongTideModel", "joins", "(I)V"⟩, 71) := ⟨⟨by decide +kernel, by decide +kernel⟩, List.mem_of_getElem? (i := 1187) (by decide +kernel), List.mem_of_getElem? (i := 1584) (by decide +kernel), List.mem_of_getElem? (i := 1585) (by decide +kernel)⟩
theorem lw_p85 : lw_okq (⟨"WrongTideModel", "galeing", "()V"⟩, 71) := ⟨⟨by decide +kernel, by decide +kernel⟩, List.mem_of_getElem? (i := 1187) (by decide +kernel), List.mem_of_getElem? (i := 1591) (by decide +kernel), List.mem_of_getElem? (i := 1592) (by decide +kernel)⟩
theorem lw_p86 : lw_okq (⟨"WrongTideModel", "finishes", "(I)V"⟩, 71) := ⟨⟨by decide +kernel, by decide +kernel⟩, List.mem_of_getElem? (i := 1187) (by decide +kernel), List.mem_of_getElem? (i := 1595) (by decide +kernel), List.mem_of_getElem? (i := 1596) (by decide +kernel)⟩
theorem lw_p87 : lw_okq (⟨"WrongTideModel", "must", "(I)V"⟩, 71) := ⟨⟨by decide +kernel, by decide +kernel⟩, List.mem_of_getElem? (i := 1187) (by decide +kernel), List.mem_of_getElem? (i := 1599) (by decide +kernel), List.mem_of_getElem? (i := 1600) (by decide +kernel)⟩
theorem lw_p88 : lw_okq (⟨"WrongTideModel", "begin", "()V"⟩, 71) := ⟨⟨by decide +kernel, by decide +kernel⟩, List.mem_of_getElem? (i := 1187) (by decide +kernel), List.mem_of_getElem? (i := 1603) (by decide +kernel), List.mem_of_getElem? (i := 1604) (by decide +kernel)⟩
theorem lw_p89 : lw_okq (⟨"WrongTideModel", "slot", "(I)I"⟩, 71) := ⟨⟨by decide +kernel, by decide +kernel⟩, List.mem_of_getElem? (i := 1187) (by decide +kernel), List.mem_of_getElem? (i := 1619) (by decide +kernel), List.mem_of_getElem? (i := 1620) (by decide +kernel)⟩
theorem lw_p90 : lw_okq (⟨"WrongTideModel", "copies", "(II)V"⟩, 71) := ⟨⟨by decide +kernel, by decide +kernel⟩, List.mem_of_getElem? (i := 1187) (by decide +kernel), List.mem_of_getElem? (i := 1623) (by decide +kernel), List.mem_of_getElem? (i := 1624) (by decide +kernel)⟩
theorem lw_p91 : lw_okq (⟨"WrongTideModel", "tideIn", "(II)I"⟩, 71) := ⟨⟨by decide +kernel, by decide +kernel⟩, List.mem_of_getElem? (i := 1187) (by decide +kernel), List.mem_of_getElem? (i := 1631) (by decide +kernel), List.mem_of_getElem? (i := 1632) (by decide +kernel)⟩
theorem lw_p92 : lw_okq (⟨"WrongTideModel", "isTold", "(I)Z"⟩, 71) := ⟨⟨by decide +kernel, by decide +kernel⟩, List.mem_of_getElem? (i := 1187) (by decide +kernel), List.mem_of_getElem? (i := 1635) (by decide +kernel), List.mem_of_getElem? (i := 1636) (by decide +kernel)⟩
theorem lw_p93 : lw_okq (⟨"WrongTideModel", "reckons", "(I)J"⟩, 71) := ⟨⟨by decide +kernel, by decide +kernel⟩, List.mem_of_getElem? (i := 1187) (by decide +kernel), List.mem_of_getElem? (i := 1639) (by decide +kernel), List.mem_of_getElem? (i := 1640) (by decide +kernel)⟩
theorem lw_p94 : lw_okq (⟨"WrongTideModel", "liesIn", "(II)I"⟩, 71) := ⟨⟨by decide +kernel, by decide +kernel⟩, List.mem_of_getElem? (i := 1187) (by decide +kernel), List.mem_of_getElem? (i := 1658) (by decide +kernel), List.mem_of_getElem? (i := 1659) (by decide +kernel)⟩
theorem lw_p95 : lw_okq (⟨"WrongTideModel", "cratesOf", "(I)I"⟩, 71) := ⟨⟨by decide +kernel, by decide +kernel⟩, List.mem_of_getElem? (i := 1187) (by decide +kernel), List.mem_of_getElem? (i := 1662) (by decide +kernel), List.mem_of_getElem? (i := 1663) (by decide +kernel)⟩
def lw_privs_6 : List (MethodName × Nat) := [(⟨"WrongTideModel", "isSign", "(I)Z"⟩, 71), (⟨"WrongTideModel", "opens", "(I)V"⟩, 71), (⟨"WrongTideModel", "add", "(II)V"⟩, 71), (⟨"WrongTideModel", "goesOn", "()Z"⟩, 71), (⟨"WrongTideModel", "joins", "(I)V"⟩, 71), (⟨"WrongTideModel", "galeing", "()V"⟩, 71), (⟨"WrongTideModel", "finishes", "(I)V"⟩, 71), (⟨"WrongTideModel", "must", "(I)V"⟩, 71), (⟨"WrongTideModel", "begin", "()V"⟩, 71), (⟨"WrongTideModel", "slot", "(I)I"⟩, 71), (⟨"WrongTideModel", "copies", "(II)V"⟩, 71), (⟨"WrongTideModel", "tideIn", "(II)I"⟩, 71), (⟨"WrongTideModel", "isTold", "(I)Z"⟩, 71), (⟨"WrongTideModel", "reckons", "(I)J"⟩, 71), (⟨"WrongTideModel", "liesIn", "(II)I"⟩, 71), (⟨"WrongTideModel", "cratesOf", "(I)I"⟩, 71)]
theorem lw_r6 : ∀ q ∈ lw_privs_6, lw_okq q := List.forall_mem_cons.mpr ⟨lw_p80, List.forall_mem_cons.mpr ⟨lw_p81, List.forall_mem_cons.mpr ⟨lw_p82, List.forall_mem_cons.mpr ⟨lw_p83, List.forall_mem_cons.mpr ⟨lw_p84, List.forall_mem_cons.mpr ⟨lw_p85, List.forall_mem_cons.mpr ⟨lw_p86, List.forall_mem_cons.mpr ⟨lw_p87, List.forall_mem_cons.mpr ⟨lw_p88, List.forall_mem_cons.mpr ⟨lw_p89, List.forall_mem_cons.mpr ⟨lw_p90, List.forall_mem_cons.mpr ⟨lw_p91, List.forall_mem_cons.mpr ⟨lw_p92, List.forall_mem_cons.mpr ⟨lw_p93, List.forall_mem_cons.mpr ⟨lw_p94, List.forall_mem_cons.mpr ⟨lw_p95, fun _ h => absurd h List.not_mem_nil⟩⟩⟩⟩⟩⟩⟩⟩⟩⟩⟩⟩⟩⟩⟩⟩
theorem lw_p96 : lw_okq (⟨"WrongTideModel", "at", "(III)I"⟩, 71) := ⟨⟨by decide +kernel, by decide +kernel⟩, List.mem_of_getElem? (i := 1187) (by decide +kernel), List.mem_of_getElem? (i := 1666) (by decide +kernel), List.mem_of_getElem? (i := 1667) (by decide +kernel)⟩
theorem lw_p97 : lw_okq (⟨"WrongTideModel", "isWare", "(I)Z"⟩, 71) := ⟨⟨by decide +kernel, by decide +kernel⟩, List.mem_of_getElem? (i := 1187) (by decide +kernel), List.mem_of_getElem? (i := 1679) (by decide +kernel), List.mem_of_getElem? (i := 1680) (by decide +kernel)⟩
theorem lw_p98 : lw_okq (⟨"WrongTideModel", "isShip", "(I)Z"⟩, 71) := ⟨⟨by decide +kernel, by decide +kernel⟩, List.mem_of_getElem? (i := 1187) (by decide +kernel), List.mem_of_getElem? (i := 1687) (by decide +kernel), List.mem_of_getElem? (i := 1688) (by decide +kernel)⟩
theorem lw_p99 : lw_okq (⟨"WrongTideModel", "carries", "(II)V"⟩, 71) := ⟨⟨by decide +kernel, by decide +kernel⟩, List.mem_of_getElem? (i := 1187) (by decide +kernel), List.mem_of_getElem? (i := 1691) (by decide +kernel), List.mem_of_getElem? (i := 1692) (by decide +kernel)⟩
theorem lw_p100 : lw_okq (⟨"WrongTideModel", "empties", "()V"⟩, 71) := ⟨⟨by decide +kernel, by decide +kernel⟩, List.mem_of_getElem? (i := 1187) (by decide +kernel), List.mem_of_getElem? (i := 1695) (by decide +kernel), List.mem_of_getElem? (i := 1696) (by decide +kernel)⟩
theorem lw_p101 : lw_okq (⟨"WrongTideModel", "adds", "(III)V"⟩, 71) := ⟨⟨by decide +kernel, by decide +kernel⟩, List.mem_of_getElem? (i := 1187) (by decide +kernel), List.mem_of_getElem? (i := 1699) (by decide +kernel), List.mem_of_getElem? (i := 1700) (by decide +kernel)⟩
theorem lw_p102 : lw_okq (⟨"WrongTideModel", "ridesIn", "(I)I"⟩, 71) := ⟨⟨by decide +kernel, by decide +kernel⟩, List.mem_of_getElem? (i := 1187) (by decide +kernel), List.mem_of_getElem? (i := 1703) (by decide +kernel), List.mem_of_getElem? (i := 1704) (by decide +kernel)⟩
theorem lw_p103 : lw_okq (⟨"WrongTideModel", "isLevel", "(I)Z"⟩, 71) := ⟨⟨by decide +kernel, by decide +kernel⟩, List.mem_of_getElem? (i := 1187) (by decide +kernel), List.mem_of_getElem? (i := 1708) (by decide +kernel), List.mem_of_getElem? (i := 1709) (by decide +kernel)⟩
theorem lw_p104 : lw_okq (⟨"WrongTideModel", "isHold", "(II)Z"⟩, 71) := ⟨⟨by decide +kernel, by decide +kernel⟩, List.mem_of_getElem? (i := 1187) (by decide +kernel), List.mem_of_getElem? (i := 1721) (by decide +kernel), List.mem_of_getElem? (i := 1722) (by decide +kernel)⟩
theorem lw_p105 : lw_okq (⟨"WrongTideModel", "isBerth", "(I)Z"⟩, 71) := ⟨⟨by decide +kernel, by decide +kernel⟩, List.mem_of_getElem? (i := 1187) (by decide +kernel), List.mem_of_getElem? (i := 1729) (by decide +kernel), List.mem_of_getElem? (i := 1730) (by decide +kernel)⟩
theorem lw_p106 : lw_okq (⟨"WrongTideModel", "whose", "(I)I"⟩, 71) := ⟨⟨by decide +kernel, by decide +kernel⟩, List.mem_of_getElem? (i := 1187) (by decide +kernel), List.mem_of_getElem? (i := 1733) (by decide +kernel), List.mem_of_getElem? (i := 1734) (by decide +kernel)⟩
theorem lw_p107 : lw_okq (⟨"WrongTideModel", "isSafe", "(III)Z"⟩, 71) := ⟨⟨by decide +kernel, by decide +kernel⟩, List.mem_of_getElem? (i := 1187) (by decide +kernel), List.mem_of_getElem? (i := 1737) (by decide +kernel), List.mem_of_getElem? (i := 1738) (by decide +kernel)⟩
theorem lw_p108 : lw_okq (⟨"WrongTideModel", "isAhead", "(II)Z"⟩, 71) := ⟨⟨by decide +kernel, by decide +kernel⟩, List.mem_of_getElem? (i := 1187) (by decide +kernel), List.mem_of_getElem? (i := 1749) (by decide +kernel), List.mem_of_getElem? (i := 1750) (by decide +kernel)⟩
theorem lw_p109 : lw_okq (⟨"WrongTideModel", "goesIn", "(III)Z"⟩, 71) := ⟨⟨by decide +kernel, by decide +kernel⟩, List.mem_of_getElem? (i := 1187) (by decide +kernel), List.mem_of_getElem? (i := 1770) (by decide +kernel), List.mem_of_getElem? (i := 1771) (by decide +kernel)⟩
theorem lw_p110 : lw_okq (⟨"WrongTideModel", "isOrder", "(II)Z"⟩, 71) := ⟨⟨by decide +kernel, by decide +kernel⟩, List.mem_of_getElem? (i := 1187) (by decide +kernel), List.mem_of_getElem? (i := 1782) (by decide +kernel), List.mem_of_getElem? (i := 1783) (by decide +kernel)⟩
theorem lw_p111 : lw_okq (⟨"WrongTideModel", "isSafeSo", "(II)Z"⟩, 71) := ⟨⟨by decide +kernel, by decide +kernel⟩, List.mem_of_getElem? (i := 1187) (by decide +kernel), List.mem_of_getElem? (i := 1786) (by decide +kernel), List.mem_of_getElem? (i := 1787) (by decide +kernel)⟩
def lw_privs_7 : List (MethodName × Nat) := [(⟨"WrongTideModel", "at", "(III)I"⟩, 71), (⟨"WrongTideModel", "isWare", "(I)Z"⟩, 71), (⟨"WrongTideModel", "isShip", "(I)Z"⟩, 71), (⟨"WrongTideModel", "carries", "(II)V"⟩, 71), (⟨"WrongTideModel", "empties", "()V"⟩, 71), (⟨"WrongTideModel", "adds", "(III)V"⟩, 71), (⟨"WrongTideModel", "ridesIn", "(I)I"⟩, 71), (⟨"WrongTideModel", "isLevel", "(I)Z"⟩, 71), (⟨"WrongTideModel", "isHold", "(II)Z"⟩, 71), (⟨"WrongTideModel", "isBerth", "(I)Z"⟩, 71), (⟨"WrongTideModel", "whose", "(I)I"⟩, 71), (⟨"WrongTideModel", "isSafe", "(III)Z"⟩, 71), (⟨"WrongTideModel", "isAhead", "(II)Z"⟩, 71), (⟨"WrongTideModel", "goesIn", "(III)Z"⟩, 71), (⟨"WrongTideModel", "isOrder", "(II)Z"⟩, 71), (⟨"WrongTideModel", "isSafeSo", "(II)Z"⟩, 71)]
theorem lw_r7 : ∀ q ∈ lw_privs_7, lw_okq q := List.forall_mem_cons.mpr ⟨lw_p96, List.forall_mem_cons.mpr ⟨lw_p97, List.forall_mem_cons.mpr ⟨lw_p98, List.forall_mem_cons.mpr ⟨lw_p99, List.forall_mem_cons.mpr ⟨lw_p100, List.forall_mem_cons.mpr ⟨lw_p101, List.forall_mem_cons.mpr ⟨lw_p102, List.forall_mem_cons.mpr ⟨lw_p103, List.forall_mem_cons.mpr ⟨lw_p104, List.forall_mem_cons.mpr ⟨lw_p105, List.forall_mem_cons.mpr ⟨lw_p106, List.forall_mem_cons.mpr ⟨lw_p107, List.forall_mem_cons.mpr ⟨lw_p108, List.forall_mem_cons.mpr ⟨lw_p109, List.forall_mem_cons.mpr ⟨lw_p110, List.forall_mem_cons.mpr ⟨lw_p111, fun _ h => absurd h List.not_mem_nil⟩⟩⟩⟩⟩⟩⟩⟩⟩⟩⟩⟩⟩⟩⟩⟩
theorem lw_p112 : lw_okq (⟨"WrongTideModel", "isLadedSo", "(II)Z"⟩, 71) := ⟨⟨by decide +kernel, by decide +kernel⟩, List.mem_of_getElem? (i := 1187) (by decide +kernel), List.mem_of_getElem? (i := 1790) (by decide +kernel), List.mem_of_getElem? (i := 1791) (by decide +kernel)⟩
theorem lw_p113 : lw_okq (⟨"WrongTideModel", "isAllowed", "(I)Z"⟩, 71) := ⟨⟨by decide +kernel, by decide +kernel⟩, List.mem_of_getElem? (i := 1187) (by decide +kernel), List.mem_of_getElem? (i := 1794) (by decide +kernel), List.mem_of_getElem? (i := 1795) (by decide +kernel)⟩
theorem lw_p114 : lw_okq (⟨"WrongTideModel", "isLevelTried", "(I)Z"⟩, 71) := ⟨⟨by decide +kernel, by decide +kernel⟩, List.mem_of_getElem? (i := 1187) (by decide +kernel), List.mem_of_getElem? (i := 1806) (by decide +kernel), List.mem_of_getElem? (i := 1807) (by decide +kernel)⟩
theorem lw_p115 : lw_okq (⟨"WrongTideModel", "levelsByOne", "(II)Z"⟩, 71) := ⟨⟨by decide +kernel, by decide +kernel⟩, List.mem_of_getElem? (i := 1187) (by decide +kernel), List.mem_of_getElem? (i := 1810) (by decide +kernel), List.mem_of_getElem? (i := 1811) (by decide +kernel)⟩
theorem lw_p116 : lw_okq (⟨"WrongTideModel", "swapped", "(IIII)Z"⟩, 71) := ⟨⟨by decide +kernel, by decide +kernel⟩, List.mem_of_getElem? (i := 1187) (by decide +kernel), List.mem_of_getElem? (i := 1814) (by decide +kernel), List.mem_of_getElem? (i := 1815) (by decide +kernel)⟩
theorem lw_p117 : lw_okq (⟨"WrongTideModel", "swapsBack", "(IIII)V"⟩, 71) := ⟨⟨by decide +kernel, by decide +kernel⟩, List.mem_of_getElem? (i := 1187) (by decide +kernel), List.mem_of_getElem? (i := 1818) (by decide +kernel), List.mem_of_getElem? (i := 1819) (by decide +kernel)⟩
theorem lw_p118 : lw_okq (⟨"WrongTideModel", "heavy", "(I)I"⟩, 71) := ⟨⟨by decide +kernel, by decide +kernel⟩, List.mem_of_getElem? (i := 1187) (by decide +kernel), List.mem_of_getElem? (i := 1822) (by decide +kernel), List.mem_of_getElem? (i := 1823) (by decide +kernel)⟩
theorem lw_p119 : lw_okq (⟨"WrongTideModel", "isWithin", "(II)Z"⟩, 71) := ⟨⟨by decide +kernel, by decide +kernel⟩, List.mem_of_getElem? (i := 1187) (by decide +kernel), List.mem_of_getElem? (i := 1826) (by decide +kernel), List.mem_of_getElem? (i := 1827) (by decide +kernel)⟩
theorem lw_p120 : lw_okq (⟨"WrongTideModel", "twoBytes", "(I)I"⟩, 71) := ⟨⟨by decide +kernel, by decide +kernel⟩, List.mem_of_getElem? (i := 1187) (by decide +kernel), List.mem_of_getElem? (i := 1834) (by decide +kernel), List.mem_of_getElem? (i := 1835) (by decide +kernel)⟩
theorem lw_p121 : lw_okq (⟨"WrongTideModel", "isAsRode", "(I)Z"⟩, 71) := ⟨⟨by decide +kernel, by decide +kernel⟩, List.mem_of_getElem? (i := 1187) (by decide +kernel), List.mem_of_getElem? (i := 1838) (by decide +kernel), List.mem_of_getElem? (i := 1839) (by decide +kernel)⟩
theorem lw_p122 : lw_okq (⟨"WrongTideModel", "changes", "(IIII)I"⟩, 71) := ⟨⟨by decide +kernel, by decide +kernel⟩, List.mem_of_getElem? (i := 1187) (by decide +kernel), List.mem_of_getElem? (i := 1846) (by decide +kernel), List.mem_of_getElem? (i := 1847) (by decide +kernel)⟩
theorem lw_p123 : lw_okq (⟨"WrongTideModel", "mayBe", "(IIII)Z"⟩, 71) := ⟨⟨by decide +kernel, by decide +kernel⟩, List.mem_of_getElem? (i := 1187) (by decide +kernel), List.mem_of_getElem? (i := 1850) (by decide +kernel), List.mem_of_getElem? (i := 1851) (by decide +kernel)⟩
theorem lw_p124 : lw_okq (⟨"WrongTideModel", "keeps", "()V"⟩, 71) := ⟨⟨by decide +kernel, by decide +kernel⟩, List.mem_of_getElem? (i := 1187) (by decide +kernel), List.mem_of_getElem? (i := 1854) (by decide +kernel), List.mem_of_getElem? (i := 1855) (by decide +kernel)⟩
theorem lw_p125 : lw_okq (⟨"WrongTideModel", "writesDown", "(IIII)V"⟩, 71) := ⟨⟨by decide +kernel, by decide +kernel⟩, List.mem_of_getElem? (i := 1187) (by decide +kernel), List.mem_of_getElem? (i := 1858) (by decide +kernel), List.mem_of_getElem? (i := 1859) (by decide +kernel)⟩
theorem lw_p126 : lw_okq (⟨"WrongTideModel", "canMoor", "(II)Z"⟩, 71) := ⟨⟨by decide +kernel, by decide +kernel⟩, List.mem_of_getElem? (i := 1187) (by decide +kernel), List.mem_of_getElem? (i := 1874) (by decide +kernel), List.mem_of_getElem? (i := 1875) (by decide +kernel)⟩
theorem lw_p127 : lw_okq (⟨"WrongTideModel", "passes", "()I"⟩, 71) := ⟨⟨by decide +kernel, by decide +kernel⟩, List.mem_of_getElem? (i := 1187) (by decide +kernel), List.mem_of_getElem? (i := 1882) (by decide +kernel), List.mem_of_getElem? (i := 1883) (by decide +kernel)⟩
def lw_privs_8 : List (MethodName × Nat) := [(⟨"WrongTideModel", "isLadedSo", "(II)Z"⟩, 71), (⟨"WrongTideModel", "isAllowed", "(I)Z"⟩, 71), (⟨"WrongTideModel", "isLevelTried", "(I)Z"⟩, 71), (⟨"WrongTideModel", "levelsByOne", "(II)Z"⟩, 71), (⟨"WrongTideModel", "swapped", "(IIII)Z"⟩, 71), (⟨"WrongTideModel", "swapsBack", "(IIII)V"⟩, 71), (⟨"WrongTideModel", "heavy", "(I)I"⟩, 71), (⟨"WrongTideModel", "isWithin", "(II)Z"⟩, 71), (⟨"WrongTideModel", "twoBytes", "(I)I"⟩, 71), (⟨"WrongTideModel", "isAsRode", "(I)Z"⟩, 71), (⟨"WrongTideModel", "changes", "(IIII)I"⟩, 71), (⟨"WrongTideModel", "mayBe", "(IIII)Z"⟩, 71), (⟨"WrongTideModel", "keeps", "()V"⟩, 71), (⟨"WrongTideModel", "writesDown", "(IIII)V"⟩, 71), (⟨"WrongTideModel", "canMoor", "(II)Z"⟩, 71), (⟨"WrongTideModel", "passes", "()I"⟩, 71)]
theorem lw_r8 : ∀ q ∈ lw_privs_8, lw_okq q := List.forall_mem_cons.mpr ⟨lw_p112, List.forall_mem_cons.mpr ⟨lw_p113, List.forall_mem_cons.mpr ⟨lw_p114, List.forall_mem_cons.mpr ⟨lw_p115, List.forall_mem_cons.mpr ⟨lw_p116, List.forall_mem_cons.mpr ⟨lw_p117, List.forall_mem_cons.mpr ⟨lw_p118, List.forall_mem_cons.mpr ⟨lw_p119, List.forall_mem_cons.mpr ⟨lw_p120, List.forall_mem_cons.mpr ⟨lw_p121, List.forall_mem_cons.mpr ⟨lw_p122, List.forall_mem_cons.mpr ⟨lw_p123, List.forall_mem_cons.mpr ⟨lw_p124, List.forall_mem_cons.mpr ⟨lw_p125, List.forall_mem_cons.mpr ⟨lw_p126, List.forall_mem_cons.mpr ⟨lw_p127, fun _ h => absurd h List.not_mem_nil⟩⟩⟩⟩⟩⟩⟩⟩⟩⟩⟩⟩⟩⟩⟩⟩
theorem lw_p128 : lw_okq (⟨"WrongTideModel", "draw", "(I)I"⟩, 71) := ⟨⟨by decide +kernel, by decide +kernel⟩, List.mem_of_getElem? (i := 1187) (by decide +kernel), List.mem_of_getElem? (i := 1890) (by decide +kernel), List.mem_of_getElem? (i := 1891) (by decide +kernel)⟩
theorem lw_p129 : lw_okq (⟨"WrongTideModel", "loses", "(I)Z"⟩, 71) := ⟨⟨by decide +kernel, by decide +kernel⟩, List.mem_of_getElem? (i := 1187) (by decide +kernel), List.mem_of_getElem? (i := 1898) (by decide +kernel), List.mem_of_getElem? (i := 1899) (by decide +kernel)⟩
theorem lw_p130 : lw_okq (⟨"WrongTideModel", "writes", "(I)V"⟩, 71) := ⟨⟨by decide +kernel, by decide +kernel⟩, List.mem_of_getElem? (i := 1187) (by decide +kernel), List.mem_of_getElem? (i := 1914) (by decide +kernel), List.mem_of_getElem? (i := 1915) (by decide +kernel)⟩
theorem lw_p131 : lw_okq (⟨"WrongTideModel", "comesOn", "(I)Z"⟩, 71) := ⟨⟨by decide +kernel, by decide +kernel⟩, List.mem_of_getElem? (i := 1187) (by decide +kernel), List.mem_of_getElem? (i := 1926) (by decide +kernel), List.mem_of_getElem? (i := 1927) (by decide +kernel)⟩
theorem lw_p132 : lw_okq (⟨"WrongTideModel", "shipOn", "(II)Z"⟩, 71) := ⟨⟨by decide +kernel, by decide +kernel⟩, List.mem_of_getElem? (i := 1187) (by decide +kernel), List.mem_of_getElem? (i := 1930) (by decide +kernel), List.mem_of_getElem? (i := 1931) (by decide +kernel)⟩
def lw_privs_9 : List (MethodName × Nat) := [(⟨"WrongTideModel", "draw", "(I)I"⟩, 71), (⟨"WrongTideModel", "loses", "(I)Z"⟩, 71), (⟨"WrongTideModel", "writes", "(I)V"⟩, 71), (⟨"WrongTideModel", "comesOn", "(I)Z"⟩, 71), (⟨"WrongTideModel", "shipOn", "(II)Z"⟩, 71)]
theorem lw_r9 : ∀ q ∈ lw_privs_9, lw_okq q := List.forall_mem_cons.mpr ⟨lw_p128, List.forall_mem_cons.mpr ⟨lw_p129, List.forall_mem_cons.mpr ⟨lw_p130, List.forall_mem_cons.mpr ⟨lw_p131, List.forall_mem_cons.mpr ⟨lw_p132, fun _ h => absurd h List.not_mem_nil⟩⟩⟩⟩⟩
def lw_privs : List (MethodName × Nat) := lw_privs_1 ++ (lw_privs_2 ++ (lw_privs_3 ++ (lw_privs_4 ++ (lw_privs_5 ++ (lw_privs_6 ++ (lw_privs_7 ++ (lw_privs_8 ++ (lw_privs_9))))))))
def lw_tbl : List Cond := k2_sels lw_privs ++ tables_1
theorem lw_privs_ok : ∀ q ∈ lw_privs, lw_okq q := by
  show ∀ q ∈ lw_privs_1 ++ (lw_privs_2 ++ (lw_privs_3 ++ (lw_privs_4 ++ (lw_privs_5 ++ (lw_privs_6 ++ (lw_privs_7 ++ (lw_privs_8 ++ (lw_privs_9)))))))), lw_okq q
  exact List.forall_mem_append.mpr ⟨lw_r1, List.forall_mem_append.mpr ⟨lw_r2, List.forall_mem_append.mpr ⟨lw_r3, List.forall_mem_append.mpr ⟨lw_r4, List.forall_mem_append.mpr ⟨lw_r5, List.forall_mem_append.mpr ⟨lw_r6, List.forall_mem_append.mpr ⟨lw_r7, List.forall_mem_append.mpr ⟨lw_r8, lw_r9⟩⟩⟩⟩⟩⟩⟩⟩
def RX0 : String := "WrongTide$FormulaReader"
def TX0 : u_T := fun k => match k with
  | 0 => ("WrongTide$FormulaReader", "scan", "LWrongTide$Lexer;", true)
  | 1 => ("WrongTide$FormulaReader", "draft", "LWrongTide$Plan;", true)
  | _ => ("WrongTide$FormulaReader", "seen", "I", false)
def tyX0 : Nat → FieldType := fun k => match k with
  | 0 => .object "WrongTide$Lexer"
  | 1 => .object "WrongTide$Plan"
  | _ => .int
abbrev wsX00 : List Cond := u_ws RX0 TX0 3
theorem nmX0 : ∀ a, a < 3 → ∀ b, b < 3 → a ≠ b → (TX0 a).2.1 ≠ (TX0 b).2.1 := by decide +kernel
theorem tyX0_ok : ∀ k, k < 3 → parseFieldDescriptor (TX0 k).2.2.1 = some (tyX0 k) := by decide +kernel
abbrev cX0_init : ByteArray := prog_2_method_1_code
def yX0_init : MethodName := ⟨RX0, "<init>", "(LWrongTide$Lexer;LWrongTide$Plan;)V"⟩
abbrev cX0_read : ByteArray := prog_2_method_2_code
def yX0_read : MethodName := ⟨RX0, "read", "(I)V"⟩
abbrev cX0_opens : ByteArray := prog_2_method_3_code
def yX0_opens : MethodName := ⟨RX0, "opens", "(I)Z"⟩
abbrev cX0_readTest : ByteArray := prog_2_method_4_code
def yX0_readTest : MethodName := ⟨RX0, "readTest", "(I)V"⟩
abbrev cX0_readBoth : ByteArray := prog_2_method_5_code
def yX0_readBoth : MethodName := ⟨RX0, "readBoth", "(I)V"⟩
abbrev cX0_readFact : ByteArray := prog_2_method_6_code
def yX0_readFact : MethodName := ⟨RX0, "readFact", "(I)V"⟩
abbrev cX0_readComparison : ByteArray := prog_2_method_7_code
def yX0_readComparison : MethodName := ⟨RX0, "readComparison", "()I"⟩
abbrev cX0_readSum : ByteArray := prog_2_method_8_code
def yX0_readSum : MethodName := ⟨RX0, "readSum", "(I)V"⟩
abbrev cX0_readProduct : ByteArray := prog_2_method_9_code
def yX0_readProduct : MethodName := ⟨RX0, "readProduct", "(I)V"⟩
abbrev cX0_readPart : ByteArray := prog_2_method_10_code
def yX0_readPart : MethodName := ⟨RX0, "readPart", "(I)V"⟩
abbrev cX0_readPair : ByteArray := prog_2_method_11_code
def yX0_readPair : MethodName := ⟨RX0, "readPair", "(II)V"⟩
abbrev cX0_readChoice : ByteArray := prog_2_method_12_code
def yX0_readChoice : MethodName := ⟨RX0, "readChoice", "(I)V"⟩
abbrev cX0_readSeen : ByteArray := prog_2_method_13_code
def yX0_readSeen : MethodName := ⟨RX0, "readSeen", "()V"⟩
def RX1 : String := "WrongTide$Lexer"
def TX1 : u_T := fun k => match k with
  | 0 => ("WrongTide$Lexer", "tape", "LWrongTide$Tape;", true)
  | 1 => ("WrongTide$Lexer", "own", "[I", true)
  | 2 => ("WrongTide$Lexer", "position", "I", false)
  | 3 => ("WrongTide$Lexer", "kind", "I", false)
  | 4 => ("WrongTide$Lexer", "start", "I", false)
  | 5 => ("WrongTide$Lexer", "spot", "I", false)
  | 6 => ("WrongTide$Lexer", "value", "I", false)
  | 7 => ("WrongTide$Lexer", "word", "I", false)
  | 8 => ("WrongTide$Lexer", "takenStart", "I", false)
  | 9 => ("WrongTide$Lexer", "takenValue", "I", false)
  | 10 => ("WrongTide$Lexer", "fault", "I", false)
  | _ => ("WrongTide$Lexer", "place", "I", false)
def tyX1 : Nat → FieldType := fun k => match k with
  | 0 => .object "WrongTide$Tape"
  | 1 => .array .int
  | 2 => .int
  | 3 => .int
  | 4 => .int
  | 5 => .int
  | 6 => .int
  | 7 => .int
  | 8 => .int
  | 9 => .int
  | 10 => .int
  | _ => .int
abbrev wsX10 : List Cond := u_ws RX1 TX1 12
theorem nmX1 : ∀ a, a < 12 → ∀ b, b < 12 → a ≠ b → (TX1 a).2.1 ≠ (TX1 b).2.1 := by decide +kernel
theorem tyX1_ok : ∀ k, k < 12 → parseFieldDescriptor (TX1 k).2.2.1 = some (tyX1 k) := by decide +kernel
abbrev cX1_init : ByteArray := prog_3_method_1_code
def yX1_init : MethodName := ⟨RX1, "<init>", "(LWrongTide$Tape;)V"⟩
abbrev cX1_rewind : ByteArray := prog_3_method_2_code
def yX1_rewind : MethodName := ⟨RX1, "rewind", "()V"⟩
abbrev cX1_take : ByteArray := prog_3_method_3_code
def yX1_take : MethodName := ⟨RX1, "take", "()V"⟩
abbrev cX1_isLetter : ByteArray := prog_3_method_4_code
def yX1_isLetter : MethodName := ⟨RX1, "isLetter", "(I)Z"⟩
abbrev cX1_isDigit : ByteArray := prog_3_method_5_code
def yX1_isDigit : MethodName := ⟨RX1, "isDigit", "(I)Z"⟩
abbrev cX1_readWord : ByteArray := prog_3_method_6_code
def yX1_readWord : MethodName := ⟨RX1, "readWord", "()V"⟩
abbrev cX1_readNumber : ByteArray := prog_3_method_7_code
def yX1_readNumber : MethodName := ⟨RX1, "readNumber", "()V"⟩
abbrev cX1_fail : ByteArray := prog_3_method_8_code
def yX1_fail : MethodName := ⟨RX1, "fail", "(II)V"⟩
abbrev cX1_wrong : ByteArray := prog_3_method_9_code
def yX1_wrong : MethodName := ⟨RX1, "wrong", "()V"⟩
abbrev cX1_takeSign : ByteArray := prog_3_method_10_code
def yX1_takeSign : MethodName := ⟨RX1, "takeSign", "(I)Z"⟩
abbrev cX1_takeWord : ByteArray := prog_3_method_11_code
def yX1_takeWord : MethodName := ⟨RX1, "takeWord", "(I)Z"⟩
abbrev cX1_needSign : ByteArray := prog_3_method_12_code
def yX1_needSign : MethodName := ⟨RX1, "needSign", "(I)V"⟩
abbrev cX1_needWord : ByteArray := prog_3_method_13_code
def yX1_needWord : MethodName := ⟨RX1, "needWord", "(I)V"⟩
abbrev cX1_needNumber : ByteArray := prog_3_method_14_code
def yX1_needNumber : MethodName := ⟨RX1, "needNumber", "(II)I"⟩
abbrev cX1_needName : ByteArray := prog_3_method_15_code
def yX1_needName : MethodName := ⟨RX1, "needName", "()I"⟩
def RX2 : String := "WrongTide$Past"
def TX2 : u_T := fun k => match k with
  | 0 => ("WrongTide$Past", "ring", "[I", true)
  | 1 => ("WrongTide$Past", "from", "I", false)
  | _ => ("WrongTide$Past", "count", "I", false)
def tyX2 : Nat → FieldType := fun k => match k with
  | 0 => .array .int
  | 1 => .int
  | _ => .int
abbrev wsX20 : List Cond := u_ws RX2 TX2 3
theorem nmX2 : ∀ a, a < 3 → ∀ b, b < 3 → a ≠ b → (TX2 a).2.1 ≠ (TX2 b).2.1 := by decide +kernel
theorem tyX2_ok : ∀ k, k < 3 → parseFieldDescriptor (TX2 k).2.2.1 = some (tyX2 k) := by decide +kernel
abbrev cX2_init : ByteArray := prog_4_method_1_code
def yX2_init : MethodName := ⟨RX2, "<init>", "()V"⟩
abbrev cX2_forget : ByteArray := prog_4_method_2_code
def yX2_forget : MethodName := ⟨RX2, "forget", "()V"⟩
abbrev cX2_remember : ByteArray := prog_4_method_3_code
def yX2_remember : MethodName := ⟨RX2, "remember", "(LWrongTide$Standing;)V"⟩
abbrev cX2_recall : ByteArray := prog_4_method_4_code
def yX2_recall : MethodName := ⟨RX2, "recall", "(LWrongTide$Standing;)V"⟩
def RX3 : String := "WrongTide$Plan"
def TX3 : u_T := fun k => match k with
  | 0 => ("WrongTide$Plan", "counts", "[I", true)
  | 1 => ("WrongTide$Plan", "names", "[I", true)
  | 2 => ("WrongTide$Plan", "firsts", "[I", true)
  | 3 => ("WrongTide$Plan", "seconds", "[I", true)
  | 4 => ("WrongTide$Plan", "steps", "[I", true)
  | 5 => ("WrongTide$Plan", "starts", "[I", true)
  | 6 => ("WrongTide$Plan", "ends", "[I", true)
  | 7 => ("WrongTide$Plan", "stepCount", "I", false)
  | 8 => ("WrongTide$Plan", "gale", "I", false)
  | _ => ("WrongTide$Plan", "statements", "I", false)
def tyX3 : Nat → FieldType := fun k => match k with
  | 0 => .array .int
  | 1 => .array .int
  | 2 => .array .int
  | 3 => .array .int
  | 4 => .array .int
  | 5 => .array .int
  | 6 => .array .int
  | 7 => .int
  | 8 => .int
  | _ => .int
abbrev wsX30 : List Cond := u_ws RX3 TX3 10
theorem nmX3 : ∀ a, a < 10 → ∀ b, b < 10 → a ≠ b → (TX3 a).2.1 ≠ (TX3 b).2.1 := by decide +kernel
theorem tyX3_ok : ∀ k, k < 10 → parseFieldDescriptor (TX3 k).2.2.1 = some (tyX3 k) := by decide +kernel
abbrev cX3_init : ByteArray := prog_5_method_1_code
def yX3_init : MethodName := ⟨RX3, "<init>", "()V"⟩
abbrev cX3_clear : ByteArray := prog_5_method_2_code
def yX3_clear : MethodName := ⟨RX3, "clear", "()V"⟩
abbrev cX3_copy : ByteArray := prog_5_method_3_code
def yX3_copy : MethodName := ⟨RX3, "copy", "(LWrongTide$Plan;)V"⟩
abbrev cX3_knows : ByteArray := prog_5_method_4_code
def yX3_knows : MethodName := ⟨RX3, "knows", "(II)Z"⟩
abbrev cX3_knowsCell : ByteArray := prog_5_method_5_code
def yX3_knowsCell : MethodName := ⟨RX3, "knowsCell", "(III)Z"⟩
abbrev cX3_firstOf : ByteArray := prog_5_method_6_code
def yX3_firstOf : MethodName := ⟨RX3, "firstOf", "(II)I"⟩
abbrev cX3_secondOf : ByteArray := prog_5_method_7_code
def yX3_secondOf : MethodName := ⟨RX3, "secondOf", "(II)I"⟩
abbrev cX3_net : ByteArray := prog_5_method_8_code
def yX3_net : MethodName := ⟨RX3, "net", "(I)I"⟩
abbrev cX3_find : ByteArray := prog_5_method_9_code
def yX3_find : MethodName := ⟨RX3, "find", "(II)I"⟩
abbrev cX3_add : ByteArray := prog_5_method_10_code
def yX3_add : MethodName := ⟨RX3, "add", "(IIII)V"⟩
abbrev cX3_emit : ByteArray := prog_5_method_11_code
def yX3_emit : MethodName := ⟨RX3, "emit", "(I)V"⟩
abbrev cX3_tells : ByteArray := prog_5_method_12_code
def yX3_tells : MethodName := ⟨RX3, "tells", "(I)Z"⟩
def RX4 : String := "WrongTide$Quays"
def TX4 : u_T := fun k => match k with
  | 0 => ("WrongTide$Quays", "plan", "LWrongTide$Plan;", true)
  | 1 => ("WrongTide$Quays", "reckoner", "LWrongTide$Reckoner;", true)
  | 2 => ("WrongTide$Quays", "chosen", "[I", true)
  | 3 => ("WrongTide$Quays", "fits", "[I", true)
  | _ => ("WrongTide$Quays", "most", "[I", true)
def tyX4 : Nat → FieldType := fun k => match k with
  | 0 => .object "WrongTide$Plan"
  | 1 => .object "WrongTide$Reckoner"
  | 2 => .array .int
  | 3 => .array .int
  | _ => .array .int
abbrev wsX40 : List Cond := u_ws RX4 TX4 5
theorem nmX4 : ∀ a, a < 5 → ∀ b, b < 5 → a ≠ b → (TX4 a).2.1 ≠ (TX4 b).2.1 := by decide +kernel
theorem tyX4_ok : ∀ k, k < 5 → parseFieldDescriptor (TX4 k).2.2.1 = some (tyX4 k) := by decide +kernel
abbrev cX4_init : ByteArray := prog_6_method_1_code
def yX4_init : MethodName := ⟨RX4, "<init>", "(LWrongTide$Plan;LWrongTide$Reckoner;)V"⟩
abbrev cX4_fill : ByteArray := prog_6_method_2_code
def yX4_fill : MethodName := ⟨RX4, "fill", "([II)I"⟩
abbrev cX4_berthsThatFit : ByteArray := prog_6_method_3_code
def yX4_berthsThatFit : MethodName := ⟨RX4, "berthsThatFit", "(I)I"⟩
abbrev cX4_mostFrom : ByteArray := prog_6_method_4_code
def yX4_mostFrom : MethodName := ⟨RX4, "mostFrom", "(II)I"⟩
abbrev cX4_firstBest : ByteArray := prog_6_method_5_code
def yX4_firstBest : MethodName := ⟨RX4, "firstBest", "(II)I"⟩
def RX5 : String := "WrongTide$Reckoner"
def TX5 : u_T := fun k => match k with
  | 0 => ("WrongTide$Reckoner", "plan", "LWrongTide$Plan;", true)
  | 1 => ("WrongTide$Reckoner", "sees", "[I", true)
  | _ => ("WrongTide$Reckoner", "stack", "[I", true)
def tyX5 : Nat → FieldType := fun k => match k with
  | 0 => .object "WrongTide$Plan"
  | 1 => .array .int
  | _ => .array .int
abbrev wsX50 : List Cond := u_ws RX5 TX5 3
theorem nmX5 : ∀ a, a < 3 → ∀ b, b < 3 → a ≠ b → (TX5 a).2.1 ≠ (TX5 b).2.1 := by decide +kernel
theorem tyX5_ok : ∀ k, k < 3 → parseFieldDescriptor (TX5 k).2.2.1 = some (tyX5 k) := by decide +kernel
abbrev cX5_init : ByteArray := prog_7_method_1_code
def yX5_init : MethodName := ⟨RX5, "<init>", "(LWrongTide$Plan;)V"⟩
abbrev cX5_atHour : ByteArray := prog_7_method_2_code
def yX5_atHour : MethodName := ⟨RX5, "atHour", "(I)V"⟩
abbrev cX5_waterAt : ByteArray := prog_7_method_3_code
def yX5_waterAt : MethodName := ⟨RX5, "waterAt", "(I)I"⟩
abbrev cX5_moonAt : ByteArray := prog_7_method_4_code
def yX5_moonAt : MethodName := ⟨RX5, "moonAt", "(I)I"⟩
abbrev cX5_look : ByteArray := prog_7_method_5_code
def yX5_look : MethodName := ⟨RX5, "look", "([II)V"⟩
abbrev cX5_lookAt : ByteArray := prog_7_method_6_code
def yX5_lookAt : MethodName := ⟨RX5, "lookAt", "(IIII)V"⟩
abbrev cX5_tipOf : ByteArray := prog_7_method_7_code
def yX5_tipOf : MethodName := ⟨RX5, "tipOf", "([II)I"⟩
abbrev cX5_level : ByteArray := prog_7_method_8_code
def yX5_level : MethodName := ⟨RX5, "level", "(I)Z"⟩
abbrev cX5_safe : ByteArray := prog_7_method_9_code
def yX5_safe : MethodName := ⟨RX5, "safe", "(II)Z"⟩
abbrev cX5_allows : ByteArray := prog_7_method_10_code
def yX5_allows : MethodName := ⟨RX5, "allows", "()Z"⟩
abbrev cX5_height : ByteArray := prog_7_method_11_code
def yX5_height : MethodName := ⟨RX5, "height", "(I)I"⟩
abbrev cX5_reckon : ByteArray := prog_7_method_12_code
def yX5_reckon : MethodName := ⟨RX5, "reckon", "(I)I"⟩
abbrev cX5_join : ByteArray := prog_7_method_13_code
def yX5_join : MethodName := ⟨RX5, "join", "(III)I"⟩
def RX6 : String := "WrongTide$Rows"
def TX6 : u_T := fun k => match k with
  | 0 => ("WrongTide$Rows", "plan", "LWrongTide$Plan;", true)
  | 1 => ("WrongTide$Rows", "reckoner", "LWrongTide$Reckoner;", true)
  | 2 => ("WrongTide$Rows", "tape", "LWrongTide$Tape;", true)
  | 3 => ("WrongTide$Rows", "trial", "[I", true)
  | 4 => ("WrongTide$Rows", "stowedHolds", "[I", true)
  | 5 => ("WrongTide$Rows", "triedHolds", "[I", true)
  | 6 => ("WrongTide$Rows", "orderedCrates", "[I", true)
  | 7 => ("WrongTide$Rows", "leads", "[Z", true)
  | 8 => ("WrongTide$Rows", "waters", "[I", true)
  | 9 => ("WrongTide$Rows", "moons", "[I", true)
  | 10 => ("WrongTide$Rows", "stowedCount", "I", false)
  | 11 => ("WrongTide$Rows", "orderedCount", "I", false)
  | _ => ("WrongTide$Rows", "leastTip", "I", false)
def tyX6 : Nat → FieldType := fun k => match k with
  | 0 => .object "WrongTide$Plan"
  | 1 => .object "WrongTide$Reckoner"
  | 2 => .object "WrongTide$Tape"
  | 3 => .array .int
  | 4 => .array .int
  | 5 => .array .int
  | 6 => .array .int
  | 7 => .array .boolean
  | 8 => .array .int
  | 9 => .array .int
  | 10 => .int
  | 11 => .int
  | _ => .int
abbrev wsX60 : List Cond := u_ws RX6 TX6 13
theorem nmX6 : ∀ a, a < 13 → ∀ b, b < 13 → a ≠ b → (TX6 a).2.1 ≠ (TX6 b).2.1 := by decide +kernel
theorem tyX6_ok : ∀ k, k < 13 → parseFieldDescriptor (TX6 k).2.2.1 = some (tyX6 k) := by decide +kernel
abbrev cX6_init : ByteArray := prog_8_method_1_code
def yX6_init : MethodName := ⟨RX6, "<init>", "(LWrongTide$Plan;LWrongTide$Reckoner;LWrongTide$Tape;)V"⟩
abbrev cX6_forget : ByteArray := prog_8_method_2_code
def yX6_forget : MethodName := ⟨RX6, "forget", "()V"⟩
abbrev cX6_areWares : ByteArray := prog_8_method_3_code
def yX6_areWares : MethodName := ⟨RX6, "areWares", "()Z"⟩
abbrev cX6_putAway : ByteArray := prog_8_method_4_code
def yX6_putAway : MethodName := ⟨RX6, "putAway", "([II)I"⟩
abbrev cX6_tryHolds : ByteArray := prog_8_method_5_code
def yX6_tryHolds : MethodName := ⟨RX6, "tryHolds", "(III)V"⟩
abbrev cX6_keepIfLess : ByteArray := prog_8_method_6_code
def yX6_keepIfLess : MethodName := ⟨RX6, "keepIfLess", "(I)V"⟩
abbrev cX6_areCrates : ByteArray := prog_8_method_7_code
def yX6_areCrates : MethodName := ⟨RX6, "areCrates", "(I)Z"⟩
abbrev cX6_arrange : ByteArray := prog_8_method_8_code
def yX6_arrange : MethodName := ⟨RX6, "arrange", "(LWrongTide$Standing;I)I"⟩
abbrev cX6_firstLeading : ByteArray := prog_8_method_9_code
def yX6_firstLeading : MethodName := ⟨RX6, "firstLeading", "(II)I"⟩
abbrev cX6_stands : ByteArray := prog_8_method_10_code
def yX6_stands : MethodName := ⟨RX6, "stands", "(III)Z"⟩
abbrev cX6_areHeights : ByteArray := prog_8_method_11_code
def yX6_areHeights : MethodName := ⟨RX6, "areHeights", "()Z"⟩
abbrev cX6_pairsThatRode : ByteArray := prog_8_method_12_code
def yX6_pairsThatRode : MethodName := ⟨RX6, "pairsThatRode", "()I"⟩
abbrev cX6_rodeSo : ByteArray := prog_8_method_13_code
def yX6_rodeSo : MethodName := ⟨RX6, "rodeSo", "(II)Z"⟩
def RX7 : String := "WrongTide$Standing"
def TX7 : u_T := fun k => match k with
  | 0 => ("WrongTide$Standing", "lies", "[I", true)
  | 1 => ("WrongTide$Standing", "crates", "[I", true)
  | 2 => ("WrongTide$Standing", "keptRing", "[I", true)
  | 3 => ("WrongTide$Standing", "keptFrom", "I", false)
  | 4 => ("WrongTide$Standing", "keptCount", "I", false)
  | _ => ("WrongTide$Standing", "hour", "I", false)
def tyX7 : Nat → FieldType := fun k => match k with
  | 0 => .array .int
  | 1 => .array .int
  | 2 => .array .int
  | 3 => .int
  | 4 => .int
  | _ => .int
abbrev wsX70 : List Cond := u_ws RX7 TX7 6
theorem nmX7 : ∀ a, a < 6 → ∀ b, b < 6 → a ≠ b → (TX7 a).2.1 ≠ (TX7 b).2.1 := by decide +kernel
theorem tyX7_ok : ∀ k, k < 6 → parseFieldDescriptor (TX7 k).2.2.1 = some (tyX7 k) := by decide +kernel
abbrev cX7_init : ByteArray := prog_9_method_1_code
def yX7_init : MethodName := ⟨RX7, "<init>", "()V"⟩
abbrev cX7_clear : ByteArray := prog_9_method_2_code
def yX7_clear : MethodName := ⟨RX7, "clear", "()V"⟩
abbrev cX7_copy : ByteArray := prog_9_method_3_code
def yX7_copy : MethodName := ⟨RX7, "copy", "(LWrongTide$Standing;)V"⟩
abbrev cX7_writeTo : ByteArray := prog_9_method_4_code
def yX7_writeTo : MethodName := ⟨RX7, "writeTo", "([II)V"⟩
abbrev cX7_readFrom : ByteArray := prog_9_method_5_code
def yX7_readFrom : MethodName := ⟨RX7, "readFrom", "([II)V"⟩
abbrev cX7_shipIn : ByteArray := prog_9_method_6_code
def yX7_shipIn : MethodName := ⟨RX7, "shipIn", "(I)I"⟩
abbrev cX7_lying : ByteArray := prog_9_method_7_code
def yX7_lying : MethodName := ⟨RX7, "lying", "()I"⟩
abbrev cX7_allCrates : ByteArray := prog_9_method_8_code
def yX7_allCrates : MethodName := ⟨RX7, "allCrates", "()I"⟩
abbrev cX7_cratesOf : ByteArray := prog_9_method_9_code
def yX7_cratesOf : MethodName := ⟨RX7, "cratesOf", "(I)I"⟩
abbrev cX7_fullestCell : ByteArray := prog_9_method_10_code
def yX7_fullestCell : MethodName := ⟨RX7, "fullestCell", "()I"⟩
abbrev cX7_loseFirst : ByteArray := prog_9_method_11_code
def yX7_loseFirst : MethodName := ⟨RX7, "loseFirst", "(I)Z"⟩
abbrev cX7_keep : ByteArray := prog_9_method_12_code
def yX7_keep : MethodName := ⟨RX7, "keep", "(III)V"⟩
abbrev cX7_keptAt : ByteArray := prog_9_method_13_code
def yX7_keptAt : MethodName := ⟨RX7, "keptAt", "(II)I"⟩
def RX8 : String := "WrongTide$Swapper"
def TX8 : u_T := fun k => match k with
  | 0 => ("WrongTide$Swapper", "plan", "LWrongTide$Plan;", true)
  | 1 => ("WrongTide$Swapper", "reckoner", "LWrongTide$Reckoner;", true)
  | 2 => ("WrongTide$Swapper", "trial", "[I", true)
  | 3 => ("WrongTide$Swapper", "nets", "[I", true)
  | 4 => ("WrongTide$Swapper", "spread", "I", false)
  | 5 => ("WrongTide$Swapper", "one", "I", false)
  | 6 => ("WrongTide$Swapper", "other", "I", false)
  | 7 => ("WrongTide$Swapper", "oneTrims", "I", false)
  | _ => ("WrongTide$Swapper", "otherTrims", "I", false)
def tyX8 : Nat → FieldType := fun k => match k with
  | 0 => .object "WrongTide$Plan"
  | 1 => .object "WrongTide$Reckoner"
  | 2 => .array .int
  | 3 => .array .int
  | 4 => .int
  | 5 => .int
  | 6 => .int
  | 7 => .int
  | _ => .int
abbrev wsX80 : List Cond := u_ws RX8 TX8 9
theorem nmX8 : ∀ a, a < 9 → ∀ b, b < 9 → a ≠ b → (TX8 a).2.1 ≠ (TX8 b).2.1 := by decide +kernel
theorem tyX8_ok : ∀ k, k < 9 → parseFieldDescriptor (TX8 k).2.2.1 = some (tyX8 k) := by decide +kernel
abbrev cX8_init : ByteArray := prog_10_method_1_code
def yX8_init : MethodName := ⟨RX8, "<init>", "(LWrongTide$Plan;LWrongTide$Reckoner;)V"⟩
abbrev cX8_fewest : ByteArray := prog_10_method_2_code
def yX8_fewest : MethodName := ⟨RX8, "fewest", "([III)I"⟩
abbrev cX8_measureWares : ByteArray := prog_10_method_3_code
def yX8_measureWares : MethodName := ⟨RX8, "measureWares", "()V"⟩
abbrev cX8_isNear : ByteArray := prog_10_method_4_code
def yX8_isNear : MethodName := ⟨RX8, "isNear", "(III)Z"⟩
abbrev cX8_oneSwapLevels : ByteArray := prog_10_method_5_code
def yX8_oneSwapLevels : MethodName := ⟨RX8, "oneSwapLevels", "(II)Z"⟩
abbrev cX8_otherLevels : ByteArray := prog_10_method_6_code
def yX8_otherLevels : MethodName := ⟨RX8, "otherLevels", "(IIII)Z"⟩
abbrev cX8_canSwap : ByteArray := prog_10_method_7_code
def yX8_canSwap : MethodName := ⟨RX8, "canSwap", "(IIII)Z"⟩
abbrev cX8_twoSwapsLevel : ByteArray := prog_10_method_8_code
def yX8_twoSwapsLevel : MethodName := ⟨RX8, "twoSwapsLevel", "(II)Z"⟩
abbrev cX8_levelsBehind : ByteArray := prog_10_method_9_code
def yX8_levelsBehind : MethodName := ⟨RX8, "levelsBehind", "(IIII)Z"⟩
def RX9 : String := "WrongTide$Tape"
def TX9 : u_T := fun k => match k with
  | 0 => ("WrongTide$Tape", "bytes", "[I", true)
  | _ => ("WrongTide$Tape", "length", "I", false)
def tyX9 : Nat → FieldType := fun k => match k with
  | 0 => .array .int
  | _ => .int
abbrev wsX90 : List Cond := u_ws RX9 TX9 2
theorem nmX9 : ∀ a, a < 2 → ∀ b, b < 2 → a ≠ b → (TX9 a).2.1 ≠ (TX9 b).2.1 := by decide +kernel
theorem tyX9_ok : ∀ k, k < 2 → parseFieldDescriptor (TX9 k).2.2.1 = some (tyX9 k) := by decide +kernel
abbrev cX9_init : ByteArray := prog_11_method_1_code
def yX9_init : MethodName := ⟨RX9, "<init>", "()V"⟩
abbrev cX9_add : ByteArray := prog_11_method_2_code
def yX9_add : MethodName := ⟨RX9, "add", "(I)V"⟩
abbrev cX9_at : ByteArray := prog_11_method_3_code
def yX9_at : MethodName := ⟨RX9, "at", "(I)I"⟩
abbrev cX9_pairAt : ByteArray := prog_11_method_4_code
def yX9_pairAt : MethodName := ⟨RX9, "pairAt", "(I)I"⟩
def RX10 : String := "WrongTide$TextReader"
def TX10 : u_T := fun k => match k with
  | 0 => ("WrongTide$TextReader", "scan", "LWrongTide$Lexer;", true)
  | 1 => ("WrongTide$TextReader", "draft", "LWrongTide$Plan;", true)
  | 2 => ("WrongTide$TextReader", "first", "LWrongTide$Standing;", true)
  | _ => ("WrongTide$TextReader", "formulas", "LWrongTide$FormulaReader;", true)
def tyX10 : Nat → FieldType := fun k => match k with
  | 0 => .object "WrongTide$Lexer"
  | 1 => .object "WrongTide$Plan"
  | 2 => .object "WrongTide$Standing"
  | _ => .object "WrongTide$FormulaReader"
abbrev wsX100 : List Cond := u_ws RX10 TX10 4
theorem nmX10 : ∀ a, a < 4 → ∀ b, b < 4 → a ≠ b → (TX10 a).2.1 ≠ (TX10 b).2.1 := by decide +kernel
theorem tyX10_ok : ∀ k, k < 4 → parseFieldDescriptor (TX10 k).2.2.1 = some (tyX10 k) := by decide +kernel
abbrev cX10_init : ByteArray := prog_12_method_1_code
def yX10_init : MethodName := ⟨RX10, "<init>", "(LWrongTide$Tape;)V"⟩
abbrev cX10_read : ByteArray := prog_12_method_2_code
def yX10_read : MethodName := ⟨RX10, "read", "()Z"⟩
abbrev cX10_readStatement : ByteArray := prog_12_method_3_code
def yX10_readStatement : MethodName := ⟨RX10, "readStatement", "()V"⟩
abbrev cX10_readThing : ByteArray := prog_12_method_4_code
def yX10_readThing : MethodName := ⟨RX10, "readThing", "(I)V"⟩
abbrev cX10_isGiven : ByteArray := prog_12_method_5_code
def yX10_isGiven : MethodName := ⟨RX10, "isGiven", "(I)Z"⟩
abbrev cX10_readKnown : ByteArray := prog_12_method_6_code
def yX10_readKnown : MethodName := ⟨RX10, "readKnown", "(I)I"⟩
abbrev cX10_readLoads : ByteArray := prog_12_method_7_code
def yX10_readLoads : MethodName := ⟨RX10, "readLoads", "()V"⟩
abbrev cX10_readLies : ByteArray := prog_12_method_8_code
def yX10_readLies : MethodName := ⟨RX10, "readLies", "()V"⟩
abbrev cX10_readGale : ByteArray := prog_12_method_9_code
def yX10_readGale : MethodName := ⟨RX10, "readGale", "()V"⟩
def RX11 : String := "WrongTide"
def TX11 : u_T := fun k => match k with
  | 0 => ("WrongTide", "tape", "LWrongTide$Tape;", true)
  | 1 => ("WrongTide", "plan", "LWrongTide$Plan;", true)
  | 2 => ("WrongTide", "reader", "LWrongTide$TextReader;", true)
  | 3 => ("WrongTide", "reckoner", "LWrongTide$Reckoner;", true)
  | 4 => ("WrongTide", "now", "LWrongTide$Standing;", true)
  | 5 => ("WrongTide", "told", "LWrongTide$Standing;", true)
  | 6 => ("WrongTide", "past", "LWrongTide$Past;", true)
  | 7 => ("WrongTide", "quays", "LWrongTide$Quays;", true)
  | 8 => ("WrongTide", "rows", "LWrongTide$Rows;", true)
  | 9 => ("WrongTide", "swapper", "LWrongTide$Swapper;", true)
  | 10 => ("WrongTide", "refused", "[I", true)
  | 11 => ("WrongTide", "written", "[I", true)
  | 12 => ("WrongTide", "writtenLength", "I", false)
  | 13 => ("WrongTide", "faultKind", "I", false)
  | 14 => ("WrongTide", "faultPlace", "I", false)
  | _ => ("WrongTide", "luck", "I", false)
def tyX11 : Nat → FieldType := fun k => match k with
  | 0 => .object "WrongTide$Tape"
  | 1 => .object "WrongTide$Plan"
  | 2 => .object "WrongTide$TextReader"
  | 3 => .object "WrongTide$Reckoner"
  | 4 => .object "WrongTide$Standing"
  | 5 => .object "WrongTide$Standing"
  | 6 => .object "WrongTide$Past"
  | 7 => .object "WrongTide$Quays"
  | 8 => .object "WrongTide$Rows"
  | 9 => .object "WrongTide$Swapper"
  | 10 => .array .int
  | 11 => .array .int
  | 12 => .int
  | 13 => .int
  | 14 => .int
  | _ => .int
abbrev wsX110 : List Cond := u_ws RX11 TX11 16
theorem nmX11 : ∀ a, a < 16 → ∀ b, b < 16 → a ≠ b → (TX11 a).2.1 ≠ (TX11 b).2.1 := by decide +kernel
theorem tyX11_ok : ∀ k, k < 16 → parseFieldDescriptor (TX11 k).2.2.1 = some (tyX11 k) := by decide +kernel
abbrev cX11_init : ByteArray := prog_1_method_1_code
def yX11_init : MethodName := ⟨RX11, "<init>", "()V"⟩
abbrev cX11_feed : ByteArray := prog_1_method_2_code
def yX11_feed : MethodName := ⟨RX11, "feed", "(IIIII)I"⟩
abbrev cX11_end : ByteArray := prog_1_method_3_code
def yX11_end : MethodName := ⟨RX11, "end", "(I)Z"⟩
abbrev cX11_harbour : ByteArray := prog_1_method_4_code
def yX11_harbour : MethodName := ⟨RX11, "harbour", "()I"⟩
abbrev cX11_fault : ByteArray := prog_1_method_5_code
def yX11_fault : MethodName := ⟨RX11, "fault", "(I)I"⟩
abbrev cX11_has : ByteArray := prog_1_method_6_code
def yX11_has : MethodName := ⟨RX11, "has", "(I)I"⟩
abbrev cX11_letter : ByteArray := prog_1_method_7_code
def yX11_letter : MethodName := ⟨RX11, "letter", "(III)I"⟩
abbrev cX11_ware : ByteArray := prog_1_method_8_code
def yX11_ware : MethodName := ⟨RX11, "ware", "(II)I"⟩
abbrev cX11_ship : ByteArray := prog_1_method_9_code
def yX11_ship : MethodName := ⟨RX11, "ship", "(II)I"⟩
abbrev cX11_tips : ByteArray := prog_1_method_10_code
def yX11_tips : MethodName := ⟨RX11, "tips", "(I)I"⟩
abbrev cX11_crates : ByteArray := prog_1_method_11_code
def yX11_crates : MethodName := ⟨RX11, "crates", "(III)I"⟩
abbrev cX11_berth : ByteArray := prog_1_method_12_code
def yX11_berth : MethodName := ⟨RX11, "berth", "(II)I"⟩
abbrev cX11_safeShips : ByteArray := prog_1_method_13_code
def yX11_safeShips : MethodName := ⟨RX11, "safeShips", "(I)I"⟩
abbrev cX11_tide : ByteArray := prog_1_method_14_code
def yX11_tide : MethodName := ⟨RX11, "tide", "(II)I"⟩
abbrev cX11_rides : ByteArray := prog_1_method_15_code
def yX11_rides : MethodName := ⟨RX11, "rides", "(II)I"⟩
abbrev cX11_canLook : ByteArray := prog_1_method_16_code
def yX11_canLook : MethodName := ⟨RX11, "canLook", "(I)Z"⟩
abbrev cX11_adrift : ByteArray := prog_1_method_17_code
def yX11_adrift : MethodName := ⟨RX11, "adrift", "(I)I"⟩
abbrev cX11_firstUnsafe : ByteArray := prog_1_method_18_code
def yX11_firstUnsafe : MethodName := ⟨RX11, "firstUnsafe", "(I)I"⟩
abbrev cX11_isSafe : ByteArray := prog_1_method_19_code
def yX11_isSafe : MethodName := ⟨RX11, "isSafe", "(I)Z"⟩
abbrev cX11_alike : ByteArray := prog_1_method_20_code
def yX11_alike : MethodName := ⟨RX11, "alike", "(III)I"⟩
abbrev cX11_berthed : ByteArray := prog_1_method_21_code
def yX11_berthed : MethodName := ⟨RX11, "berthed", "(II)I"⟩
abbrev cX11_stow : ByteArray := prog_1_method_22_code
def yX11_stow : MethodName := ⟨RX11, "stow", "(I)I"⟩
abbrev cX11_stowed : ByteArray := prog_1_method_23_code
def yX11_stowed : MethodName := ⟨RX11, "stowed", "(I)I"⟩
abbrev cX11_order : ByteArray := prog_1_method_24_code
def yX11_order : MethodName := ⟨RX11, "order", "(I)I"⟩
abbrev cX11_ordered : ByteArray := prog_1_method_25_code
def yX11_ordered : MethodName := ⟨RX11, "ordered", "(I)I"⟩
abbrev cX11_swaps : ByteArray := prog_1_method_26_code
def yX11_swaps : MethodName := ⟨RX11, "swaps", "(II)I"⟩
abbrev cX11_rode : ByteArray := prog_1_method_27_code
def yX11_rode : MethodName := ⟨RX11, "rode", "(I)I"⟩
abbrev cX11_lade : ByteArray := prog_1_method_28_code
def yX11_lade : MethodName := ⟨RX11, "lade", "(III)I"⟩
abbrev cX11_discharge : ByteArray := prog_1_method_29_code
def yX11_discharge : MethodName := ⟨RX11, "discharge", "(III)I"⟩
abbrev cX11_work : ByteArray := prog_1_method_30_code
def yX11_work : MethodName := ⟨RX11, "work", "(IIII)I"⟩
abbrev cX11_mayWith : ByteArray := prog_1_method_31_code
def yX11_mayWith : MethodName := ⟨RX11, "mayWith", "(III)Z"⟩
abbrev cX11_shift : ByteArray := prog_1_method_32_code
def yX11_shift : MethodName := ⟨RX11, "shift", "(IIII)Z"⟩
abbrev cX11_moor : ByteArray := prog_1_method_33_code
def yX11_moor : MethodName := ⟨RX11, "moor", "(II)Z"⟩
abbrev cX11_canTake : ByteArray := prog_1_method_34_code
def yX11_canTake : MethodName := ⟨RX11, "canTake", "(II)Z"⟩
abbrev cX11_hours : ByteArray := prog_1_method_35_code
def yX11_hours : MethodName := ⟨RX11, "hours", "(I)I"⟩
abbrev cX11_gales : ByteArray := prog_1_method_36_code
def yX11_gales : MethodName := ⟨RX11, "gales", "(I)I"⟩
abbrev cX11_canPass : ByteArray := prog_1_method_37_code
def yX11_canPass : MethodName := ⟨RX11, "canPass", "(I)Z"⟩
abbrev cX11_passHour : ByteArray := prog_1_method_38_code
def yX11_passHour : MethodName := ⟨RX11, "passHour", "()I"⟩
abbrev cX11_blow : ByteArray := prog_1_method_39_code
def yX11_blow : MethodName := ⟨RX11, "blow", "()I"⟩
abbrev cX11_draw : ByteArray := prog_1_method_40_code
def yX11_draw : MethodName := ⟨RX11, "draw", "(I)I"⟩
abbrev cX11_undo : ByteArray := prog_1_method_41_code
def yX11_undo : MethodName := ⟨RX11, "undo", "()Z"⟩
abbrev cX11_seed : ByteArray := prog_1_method_42_code
def yX11_seed : MethodName := ⟨RX11, "seed", "(I)Z"⟩
abbrev cX11_kept : ByteArray := prog_1_method_43_code
def yX11_kept : MethodName := ⟨RX11, "kept", "(II)I"⟩
abbrev cX11_image : ByteArray := prog_1_method_44_code
def yX11_image : MethodName := ⟨RX11, "image", "()I"⟩
abbrev cX11_imageLength : ByteArray := prog_1_method_45_code
def yX11_imageLength : MethodName := ⟨RX11, "imageLength", "()I"⟩
abbrev cX11_cellsOf : ByteArray := prog_1_method_46_code
def yX11_cellsOf : MethodName := ⟨RX11, "cellsOf", "(I)I"⟩
abbrev cX11_cellInImage : ByteArray := prog_1_method_47_code
def yX11_cellInImage : MethodName := ⟨RX11, "cellInImage", "(II)I"⟩
abbrev cX11_octet : ByteArray := prog_1_method_48_code
def yX11_octet : MethodName := ⟨RX11, "octet", "(I)I"⟩
abbrev cX11_on : ByteArray := prog_1_method_49_code
def yX11_on : MethodName := ⟨RX11, "on", "()Z"⟩
abbrev cX11_isImage : ByteArray := prog_1_method_50_code
def yX11_isImage : MethodName := ⟨RX11, "isImage", "()Z"⟩
abbrev cX11_sumFits : ByteArray := prog_1_method_51_code
def yX11_sumFits : MethodName := ⟨RX11, "sumFits", "()Z"⟩
abbrev cX11_status : ByteArray := prog_1_method_52_code
def yX11_status : MethodName := ⟨RX11, "status", "(I)I"⟩
abbrev cX11_refuse : ByteArray := prog_1_method_53_code
def yX11_refuse : MethodName := ⟨RX11, "refuse", "(I)I"⟩
abbrev cX11_refuses : ByteArray := prog_1_method_54_code
def yX11_refuses : MethodName := ⟨RX11, "refuses", "(I)Z"⟩
abbrev cX11_cell : ByteArray := prog_1_method_55_code
def yX11_cell : MethodName := ⟨RX11, "cell", "(III)I"⟩
abbrev cX11_side : ByteArray := prog_1_method_56_code
def yX11_side : MethodName := ⟨RX11, "side", "(I)I"⟩
abbrev cX11_letterShift : ByteArray := prog_1_method_57_code
def yX11_letterShift : MethodName := ⟨RX11, "letterShift", "(I)I"⟩
def RX12 : String := "WrongTideModel"
def TX12 : u_T := fun k => match k with
  | 0 => ("WrongTideModel", "tape", "[I", true)
  | 1 => ("WrongTideModel", "taped", "I", false)
  | 2 => ("WrongTideModel", "size", "I", false)
  | 3 => ("WrongTideModel", "sign", "I", false)
  | 4 => ("WrongTideModel", "signAt", "I", false)
  | 5 => ("WrongTideModel", "signEnd", "I", false)
  | 6 => ("WrongTideModel", "value", "I", false)
  | 7 => ("WrongTideModel", "word", "J", false)
  | 8 => ("WrongTideModel", "faultKind", "I", false)
  | 9 => ("WrongTideModel", "faultPlace", "I", false)
  | 10 => ("WrongTideModel", "toldKind", "I", false)
  | 11 => ("WrongTideModel", "toldPlace", "I", false)
  | 12 => ("WrongTideModel", "lexAt", "I", false)
  | 13 => ("WrongTideModel", "bank", "I", false)
  | 14 => ("WrongTideModel", "wares", "[I", true)
  | 15 => ("WrongTideModel", "wareWeighs", "[I", true)
  | 16 => ("WrongTideModel", "wareLifts", "[I", true)
  | 17 => ("WrongTideModel", "ships", "[I", true)
  | 18 => ("WrongTideModel", "shipHolds", "[I", true)
  | 19 => ("WrongTideModel", "shipTrims", "[I", true)
  | 20 => ("WrongTideModel", "shipLies", "[I", true)
  | 21 => ("WrongTideModel", "shipCrates", "[I", true)
  | 22 => ("WrongTideModel", "berths", "[I", true)
  | 23 => ("WrongTideModel", "berthLow", "[I", true)
  | 24 => ("WrongTideModel", "berthHigh", "[I", true)
  | 25 => ("WrongTideModel", "galing", "[I", true)
  | 26 => ("WrongTideModel", "sumFrom", "[I", true)
  | 27 => ("WrongTideModel", "sumBehind", "[I", true)
  | 28 => ("WrongTideModel", "codeSort", "[I", true)
  | 29 => ("WrongTideModel", "codeValue", "[I", true)
  | 30 => ("WrongTideModel", "wareName", "[J", true)
  | 31 => ("WrongTideModel", "shipName", "[J", true)
  | 32 => ("WrongTideModel", "berthName", "[J", true)
  | 33 => ("WrongTideModel", "codes", "I", false)
  | 34 => ("WrongTideModel", "in", "I", false)
  | 35 => ("WrongTideModel", "askable", "I", false)
  | 36 => ("WrongTideModel", "frame", "[I", true)
  | 37 => ("WrongTideModel", "phase", "[I", true)
  | 38 => ("WrongTideModel", "begins", "[Z", true)
  | 39 => ("WrongTideModel", "pair", "[I", true)
  | 40 => ("WrongTideModel", "base", "[I", true)
  | 41 => ("WrongTideModel", "deep", "I", false)
  | 42 => ("WrongTideModel", "open", "I", false)
  | 43 => ("WrongTideModel", "ops", "[I", true)
  | 44 => ("WrongTideModel", "opMany", "I", false)
  | 45 => ("WrongTideModel", "operand", "Z", false)
  | 46 => ("WrongTideModel", "refused", "[I", true)
  | 47 => ("WrongTideModel", "hourOf", "[I", true)
  | 48 => ("WrongTideModel", "lieOf", "[I", true)
  | 49 => ("WrongTideModel", "crateOf", "[I", true)
  | 50 => ("WrongTideModel", "keptMany", "[I", true)
  | 51 => ("WrongTideModel", "keptRow", "[I", true)
  | 52 => ("WrongTideModel", "undoFirst", "I", false)
  | 53 => ("WrongTideModel", "undos", "I", false)
  | 54 => ("WrongTideModel", "seeds", "J", false)
  | 55 => ("WrongTideModel", "stack", "[J", true)
  | 56 => ("WrongTideModel", "asked", "[I", true)
  | 57 => ("WrongTideModel", "weight", "I", false)
  | 58 => ("WrongTideModel", "lift", "I", false)
  | 59 => ("WrongTideModel", "tip", "I", false)
  | 60 => ("WrongTideModel", "count", "I", false)
  | 61 => ("WrongTideModel", "safeIn", "[I", true)
  | 62 => ("WrongTideModel", "mostLie", "[I", true)
  | 63 => ("WrongTideModel", "stowMany", "I", false)
  | 64 => ("WrongTideModel", "stowRow", "[I", true)
  | 65 => ("WrongTideModel", "more", "[I", true)
  | 66 => ("WrongTideModel", "orderMany", "I", false)
  | 67 => ("WrongTideModel", "orderRow", "[I", true)
  | 68 => ("WrongTideModel", "tryRow", "[I", true)
  | 69 => ("WrongTideModel", "out", "[I", true)
  | _ => ("WrongTideModel", "outs", "I", false)
def tyX12 : Nat → FieldType := fun k => match k with
  | 0 => .array .int
  | 1 => .int
  | 2 => .int
  | 3 => .int
  | 4 => .int
  | 5 => .int
  | 6 => .int
  | 7 => .long
  | 8 => .int
  | 9 => .int
  | 10 => .int
  | 11 => .int
  | 12 => .int
  | 13 => .int
  | 14 => .array .int
  | 15 => .array .int
  | 16 => .array .int
  | 17 => .array .int
  | 18 => .array .int
  | 19 => .array .int
  | 20 => .array .int
  | 21 => .array .int
  | 22 => .array .int
  | 23 => .array .int
  | 24 => .array .int
  | 25 => .array .int
  | 26 => .array .int
  | 27 => .array .int
  | 28 => .array .int
  | 29 => .array .int
  | 30 => .array .long
  | 31 => .array .long
  | 32 => .array .long
  | 33 => .int
  | 34 => .int
  | 35 => .int
  | 36 => .array .int
  | 37 => .array .int
  | 38 => .array .boolean
  | 39 => .array .int
  | 40 => .array .int
  | 41 => .int
  | 42 => .int
  | 43 => .array .int
  | 44 => .int
  | 45 => .boolean
  | 46 => .array .int
  | 47 => .array .int
  | 48 => .array .int
  | 49 => .array .int
  | 50 => .array .int
  | 51 => .array .int
  | 52 => .int
  | 53 => .int
  | 54 => .long
  | 55 => .array .long
  | 56 => .array .int
  | 57 => .int
  | 58 => .int
  | 59 => .int
  | 60 => .int
  | 61 => .array .int
  | 62 => .array .int
  | 63 => .int
  | 64 => .array .int
  | 65 => .array .int
  | 66 => .int
  | 67 => .array .int
  | 68 => .array .int
  | 69 => .array .int
  | _ => .int
abbrev wsX120 : List Cond := u_ws RX12 TX12 71
theorem nmX12 : ∀ a, a < 71 → ∀ b, b < 71 → a ≠ b → (TX12 a).2.1 ≠ (TX12 b).2.1 := by decide +kernel
theorem tyX12_ok : ∀ k, k < 71 → parseFieldDescriptor (TX12 k).2.2.1 = some (tyX12 k) := by decide +kernel
abbrev cX12_init : ByteArray := prog_14_method_1_code
def yX12_init : MethodName := ⟨RX12, "<init>", "()V"⟩
abbrev cX12_is : ByteArray := prog_14_method_2_code
def yX12_is : MethodName := ⟨RX12, "is", "(III)Z"⟩
abbrev cX12_put : ByteArray := prog_14_method_3_code
def yX12_put : MethodName := ⟨RX12, "put", "(I)V"⟩
abbrev cX12_feed : ByteArray := prog_14_method_4_code
def yX12_feed : MethodName := ⟨RX12, "feed", "(IIIII)I"⟩
abbrev cX12_end : ByteArray := prog_14_method_5_code
def yX12_end : MethodName := ⟨RX12, "end", "(I)Z"⟩
abbrev cX12_blame : ByteArray := prog_14_method_6_code
def yX12_blame : MethodName := ⟨RX12, "blame", "(II)V"⟩
abbrev cX12_isLetter : ByteArray := prog_14_method_7_code
def yX12_isLetter : MethodName := ⟨RX12, "isLetter", "(I)Z"⟩
abbrev cX12_isDigit : ByteArray := prog_14_method_8_code
def yX12_isDigit : MethodName := ⟨RX12, "isDigit", "(I)Z"⟩
abbrev cX12_lex : ByteArray := prog_14_method_9_code
def yX12_lex : MethodName := ⟨RX12, "lex", "()V"⟩
abbrev cX12_ahead : ByteArray := prog_14_method_10_code
def yX12_ahead : MethodName := ⟨RX12, "ahead", "()V"⟩
abbrev cX12_isSign : ByteArray := prog_14_method_11_code
def yX12_isSign : MethodName := ⟨RX12, "isSign", "(I)Z"⟩
abbrev cX12_isWord : ByteArray := prog_14_method_12_code
def yX12_isWord : MethodName := ⟨RX12, "isWord", "(J)Z"⟩
abbrev cX12_must : ByteArray := prog_14_method_13_code
def yX12_must : MethodName := ⟨RX12, "must", "(I)V"⟩
abbrev cX12_isOwn : ByteArray := prog_14_method_14_code
def yX12_isOwn : MethodName := ⟨RX12, "isOwn", "(J)Z"⟩
abbrev cX12_manyOf : ByteArray := prog_14_method_15_code
def yX12_manyOf : MethodName := ⟨RX12, "manyOf", "(II)I"⟩
abbrev cX12_nameOf : ByteArray := prog_14_method_16_code
def yX12_nameOf : MethodName := ⟨RX12, "nameOf", "(III)J"⟩
abbrev cX12_named : ByteArray := prog_14_method_17_code
def yX12_named : MethodName := ⟨RX12, "named", "(IJ)I"⟩
abbrev cX12_number : ByteArray := prog_14_method_18_code
def yX12_number : MethodName := ⟨RX12, "number", "(II)I"⟩
abbrev cX12_add : ByteArray := prog_14_method_19_code
def yX12_add : MethodName := ⟨RX12, "add", "(II)V"⟩
abbrev cX12_rank : ByteArray := prog_14_method_20_code
def yX12_rank : MethodName := ⟨RX12, "rank", "(I)I"⟩
abbrev cX12_joins : ByteArray := prog_14_method_21_code
def yX12_joins : MethodName := ⟨RX12, "joins", "(I)V"⟩
abbrev cX12_holdsBack : ByteArray := prog_14_method_22_code
def yX12_holdsBack : MethodName := ⟨RX12, "holdsBack", "(I)V"⟩
abbrev cX12_pushes : ByteArray := prog_14_method_23_code
def yX12_pushes : MethodName := ⟨RX12, "pushes", "(I)V"⟩
abbrev cX12_opens : ByteArray := prog_14_method_24_code
def yX12_opens : MethodName := ⟨RX12, "opens", "(I)V"⟩
abbrev cX12_isTest : ByteArray := prog_14_method_25_code
def yX12_isTest : MethodName := ⟨RX12, "isTest", "(I)Z"⟩
abbrev cX12_operand : ByteArray := prog_14_method_26_code
def yX12_operand : MethodName := ⟨RX12, "operand", "()Z"⟩
abbrev cX12_goesOn : ByteArray := prog_14_method_27_code
def yX12_goesOn : MethodName := ⟨RX12, "goesOn", "()Z"⟩
abbrev cX12_reads : ByteArray := prog_14_method_28_code
def yX12_reads : MethodName := ⟨RX12, "reads", "(Z)V"⟩
abbrev cX12_counts : ByteArray := prog_14_method_29_code
def yX12_counts : MethodName := ⟨RX12, "counts", "(Z)Z"⟩
abbrev cX12_must_ : ByteArray := prog_14_method_30_code
def yX12_must_ : MethodName := ⟨RX12, "must", "(J)V"⟩
abbrev cX12_fresh : ByteArray := prog_14_method_31_code
def yX12_fresh : MethodName := ⟨RX12, "fresh", "()J"⟩
abbrev cX12_askedBut : ByteArray := prog_14_method_32_code
def yX12_askedBut : MethodName := ⟨RX12, "askedBut", "(II)I"⟩
abbrev cX12_has2 : ByteArray := prog_14_method_33_code
def yX12_has2 : MethodName := ⟨RX12, "has2", "(II)Z"⟩
abbrev cX12_waring : ByteArray := prog_14_method_34_code
def yX12_waring : MethodName := ⟨RX12, "waring", "()V"⟩
abbrev cX12_shipping : ByteArray := prog_14_method_35_code
def yX12_shipping : MethodName := ⟨RX12, "shipping", "()V"⟩
abbrev cX12_loading : ByteArray := prog_14_method_36_code
def yX12_loading : MethodName := ⟨RX12, "loading", "()V"⟩
abbrev cX12_berthing : ByteArray := prog_14_method_37_code
def yX12_berthing : MethodName := ⟨RX12, "berthing", "()V"⟩
abbrev cX12_lying : ByteArray := prog_14_method_38_code
def yX12_lying : MethodName := ⟨RX12, "lying", "()V"⟩
abbrev cX12_reading : ByteArray := prog_14_method_39_code
def yX12_reading : MethodName := ⟨RX12, "reading", "(I)V"⟩
abbrev cX12_galeing : ByteArray := prog_14_method_40_code
def yX12_galeing : MethodName := ⟨RX12, "galeing", "()V"⟩
abbrev cX12_statement : ByteArray := prog_14_method_41_code
def yX12_statement : MethodName := ⟨RX12, "statement", "()V"⟩
abbrev cX12_finishes : ByteArray := prog_14_method_42_code
def yX12_finishes : MethodName := ⟨RX12, "finishes", "(I)V"⟩
abbrev cX12_harbour : ByteArray := prog_14_method_43_code
def yX12_harbour : MethodName := ⟨RX12, "harbour", "()I"⟩
abbrev cX12_fault : ByteArray := prog_14_method_44_code
def yX12_fault : MethodName := ⟨RX12, "fault", "(I)I"⟩
abbrev cX12_refuses : ByteArray := prog_14_method_45_code
def yX12_refuses : MethodName := ⟨RX12, "refuses", "(I)I"⟩
abbrev cX12_status : ByteArray := prog_14_method_46_code
def yX12_status : MethodName := ⟨RX12, "status", "(I)I"⟩
abbrev cX12_copies : ByteArray := prog_14_method_47_code
def yX12_copies : MethodName := ⟨RX12, "copies", "(II)V"⟩
abbrev cX12_begin : ByteArray := prog_14_method_48_code
def yX12_begin : MethodName := ⟨RX12, "begin", "()V"⟩
abbrev cX12_slot : ByteArray := prog_14_method_49_code
def yX12_slot : MethodName := ⟨RX12, "slot", "(I)I"⟩
abbrev cX12_keeps : ByteArray := prog_14_method_50_code
def yX12_keeps : MethodName := ⟨RX12, "keeps", "()V"⟩
abbrev cX12_undo : ByteArray := prog_14_method_51_code
def yX12_undo : MethodName := ⟨RX12, "undo", "()Z"⟩
abbrev cX12_held : ByteArray := prog_14_method_52_code
def yX12_held : MethodName := ⟨RX12, "held", "(J)J"⟩
abbrev cX12_floor : ByteArray := prog_14_method_53_code
def yX12_floor : MethodName := ⟨RX12, "floor", "(JJ)J"⟩
abbrev cX12_two : ByteArray := prog_14_method_54_code
def yX12_two : MethodName := ⟨RX12, "two", "(IJJ)J"⟩
abbrev cX12_reckons : ByteArray := prog_14_method_55_code
def yX12_reckons : MethodName := ⟨RX12, "reckons", "(I)J"⟩
abbrev cX12_isTold : ByteArray := prog_14_method_56_code
def yX12_isTold : MethodName := ⟨RX12, "isTold", "(I)Z"⟩
abbrev cX12_high : ByteArray := prog_14_method_57_code
def yX12_high : MethodName := ⟨RX12, "high", "(J)I"⟩
abbrev cX12_tideIn : ByteArray := prog_14_method_58_code
def yX12_tideIn : MethodName := ⟨RX12, "tideIn", "(II)I"⟩
abbrev cX12_at : ByteArray := prog_14_method_59_code
def yX12_at : MethodName := ⟨RX12, "at", "(III)I"⟩
abbrev cX12_adds : ByteArray := prog_14_method_60_code
def yX12_adds : MethodName := ⟨RX12, "adds", "(III)V"⟩
abbrev cX12_empties : ByteArray := prog_14_method_61_code
def yX12_empties : MethodName := ⟨RX12, "empties", "()V"⟩
abbrev cX12_carries : ByteArray := prog_14_method_62_code
def yX12_carries : MethodName := ⟨RX12, "carries", "(II)V"⟩
abbrev cX12_ridesIn : ByteArray := prog_14_method_63_code
def yX12_ridesIn : MethodName := ⟨RX12, "ridesIn", "(I)I"⟩
abbrev cX12_isLevel : ByteArray := prog_14_method_64_code
def yX12_isLevel : MethodName := ⟨RX12, "isLevel", "(I)Z"⟩
abbrev cX12_isSafe : ByteArray := prog_14_method_65_code
def yX12_isSafe : MethodName := ⟨RX12, "isSafe", "(III)Z"⟩
abbrev cX12_isAllowed : ByteArray := prog_14_method_66_code
def yX12_isAllowed : MethodName := ⟨RX12, "isAllowed", "(I)Z"⟩
abbrev cX12_isWare : ByteArray := prog_14_method_67_code
def yX12_isWare : MethodName := ⟨RX12, "isWare", "(I)Z"⟩
abbrev cX12_isShip : ByteArray := prog_14_method_68_code
def yX12_isShip : MethodName := ⟨RX12, "isShip", "(I)Z"⟩
abbrev cX12_isBerth : ByteArray := prog_14_method_69_code
def yX12_isBerth : MethodName := ⟨RX12, "isBerth", "(I)Z"⟩
abbrev cX12_isHold : ByteArray := prog_14_method_70_code
def yX12_isHold : MethodName := ⟨RX12, "isHold", "(II)Z"⟩
abbrev cX12_liesIn : ByteArray := prog_14_method_71_code
def yX12_liesIn : MethodName := ⟨RX12, "liesIn", "(II)I"⟩
abbrev cX12_whose : ByteArray := prog_14_method_72_code
def yX12_whose : MethodName := ⟨RX12, "whose", "(I)I"⟩
abbrev cX12_cratesOf : ByteArray := prog_14_method_73_code
def yX12_cratesOf : MethodName := ⟨RX12, "cratesOf", "(I)I"⟩
abbrev cX12_has : ByteArray := prog_14_method_74_code
def yX12_has : MethodName := ⟨RX12, "has", "(I)I"⟩
abbrev cX12_letter : ByteArray := prog_14_method_75_code
def yX12_letter : MethodName := ⟨RX12, "letter", "(III)I"⟩
abbrev cX12_ware : ByteArray := prog_14_method_76_code
def yX12_ware : MethodName := ⟨RX12, "ware", "(II)I"⟩
abbrev cX12_ship : ByteArray := prog_14_method_77_code
def yX12_ship : MethodName := ⟨RX12, "ship", "(II)I"⟩
abbrev cX12_tips : ByteArray := prog_14_method_78_code
def yX12_tips : MethodName := ⟨RX12, "tips", "(I)I"⟩
abbrev cX12_crates : ByteArray := prog_14_method_79_code
def yX12_crates : MethodName := ⟨RX12, "crates", "(III)I"⟩
abbrev cX12_berth : ByteArray := prog_14_method_80_code
def yX12_berth : MethodName := ⟨RX12, "berth", "(II)I"⟩
abbrev cX12_tide : ByteArray := prog_14_method_81_code
def yX12_tide : MethodName := ⟨RX12, "tide", "(II)I"⟩
abbrev cX12_isAhead : ByteArray := prog_14_method_82_code
def yX12_isAhead : MethodName := ⟨RX12, "isAhead", "(II)Z"⟩
abbrev cX12_rides : ByteArray := prog_14_method_83_code
def yX12_rides : MethodName := ⟨RX12, "rides", "(II)I"⟩
abbrev cX12_adrift : ByteArray := prog_14_method_84_code
def yX12_adrift : MethodName := ⟨RX12, "adrift", "(I)I"⟩
abbrev cX12_alike : ByteArray := prog_14_method_85_code
def yX12_alike : MethodName := ⟨RX12, "alike", "(III)I"⟩
abbrev cX12_berthed : ByteArray := prog_14_method_86_code
def yX12_berthed : MethodName := ⟨RX12, "berthed", "(II)I"⟩
abbrev cX12_goesIn : ByteArray := prog_14_method_87_code
def yX12_goesIn : MethodName := ⟨RX12, "goesIn", "(III)Z"⟩
abbrev cX12_stow : ByteArray := prog_14_method_88_code
def yX12_stow : MethodName := ⟨RX12, "stow", "(I)I"⟩
abbrev cX12_stowed : ByteArray := prog_14_method_89_code
def yX12_stowed : MethodName := ⟨RX12, "stowed", "(I)I"⟩
abbrev cX12_isLadedSo : ByteArray := prog_14_method_90_code
def yX12_isLadedSo : MethodName := ⟨RX12, "isLadedSo", "(II)Z"⟩
abbrev cX12_isOrder : ByteArray := prog_14_method_91_code
def yX12_isOrder : MethodName := ⟨RX12, "isOrder", "(II)Z"⟩
abbrev cX12_isSafeSo : ByteArray := prog_14_method_92_code
def yX12_isSafeSo : MethodName := ⟨RX12, "isSafeSo", "(II)Z"⟩
abbrev cX12_order : ByteArray := prog_14_method_93_code
def yX12_order : MethodName := ⟨RX12, "order", "(I)I"⟩
abbrev cX12_ordered : ByteArray := prog_14_method_94_code
def yX12_ordered : MethodName := ⟨RX12, "ordered", "(I)I"⟩
abbrev cX12_isLevelTried : ByteArray := prog_14_method_95_code
def yX12_isLevelTried : MethodName := ⟨RX12, "isLevelTried", "(I)Z"⟩
abbrev cX12_swapped : ByteArray := prog_14_method_96_code
def yX12_swapped : MethodName := ⟨RX12, "swapped", "(IIII)Z"⟩
abbrev cX12_swapsBack : ByteArray := prog_14_method_97_code
def yX12_swapsBack : MethodName := ⟨RX12, "swapsBack", "(IIII)V"⟩
abbrev cX12_levelsByOne : ByteArray := prog_14_method_98_code
def yX12_levelsByOne : MethodName := ⟨RX12, "levelsByOne", "(II)Z"⟩
abbrev cX12_heavy : ByteArray := prog_14_method_99_code
def yX12_heavy : MethodName := ⟨RX12, "heavy", "(I)I"⟩
abbrev cX12_isWithin : ByteArray := prog_14_method_100_code
def yX12_isWithin : MethodName := ⟨RX12, "isWithin", "(II)Z"⟩
abbrev cX12_swaps : ByteArray := prog_14_method_101_code
def yX12_swaps : MethodName := ⟨RX12, "swaps", "(II)I"⟩
abbrev cX12_twoBytes : ByteArray := prog_14_method_102_code
def yX12_twoBytes : MethodName := ⟨RX12, "twoBytes", "(I)I"⟩
abbrev cX12_isAsRode : ByteArray := prog_14_method_103_code
def yX12_isAsRode : MethodName := ⟨RX12, "isAsRode", "(I)Z"⟩
abbrev cX12_rode : ByteArray := prog_14_method_104_code
def yX12_rode : MethodName := ⟨RX12, "rode", "(I)I"⟩
abbrev cX12_writesDown : ByteArray := prog_14_method_105_code
def yX12_writesDown : MethodName := ⟨RX12, "writesDown", "(IIII)V"⟩
abbrev cX12_mayBe : ByteArray := prog_14_method_106_code
def yX12_mayBe : MethodName := ⟨RX12, "mayBe", "(IIII)Z"⟩
abbrev cX12_changes : ByteArray := prog_14_method_107_code
def yX12_changes : MethodName := ⟨RX12, "changes", "(IIII)I"⟩
abbrev cX12_lade : ByteArray := prog_14_method_108_code
def yX12_lade : MethodName := ⟨RX12, "lade", "(III)I"⟩
abbrev cX12_discharge : ByteArray := prog_14_method_109_code
def yX12_discharge : MethodName := ⟨RX12, "discharge", "(III)I"⟩
abbrev cX12_shift : ByteArray := prog_14_method_110_code
def yX12_shift : MethodName := ⟨RX12, "shift", "(IIII)Z"⟩
abbrev cX12_canMoor : ByteArray := prog_14_method_111_code
def yX12_canMoor : MethodName := ⟨RX12, "canMoor", "(II)Z"⟩
abbrev cX12_moor : ByteArray := prog_14_method_112_code
def yX12_moor : MethodName := ⟨RX12, "moor", "(II)Z"⟩
abbrev cX12_passes : ByteArray := prog_14_method_113_code
def yX12_passes : MethodName := ⟨RX12, "passes", "()I"⟩
abbrev cX12_hours : ByteArray := prog_14_method_114_code
def yX12_hours : MethodName := ⟨RX12, "hours", "(I)I"⟩
abbrev cX12_draw : ByteArray := prog_14_method_115_code
def yX12_draw : MethodName := ⟨RX12, "draw", "(I)I"⟩
abbrev cX12_loses : ByteArray := prog_14_method_116_code
def yX12_loses : MethodName := ⟨RX12, "loses", "(I)Z"⟩
abbrev cX12_gales : ByteArray := prog_14_method_117_code
def yX12_gales : MethodName := ⟨RX12, "gales", "(I)I"⟩
abbrev cX12_seed : ByteArray := prog_14_method_118_code
def yX12_seed : MethodName := ⟨RX12, "seed", "(I)Z"⟩
abbrev cX12_kept : ByteArray := prog_14_method_119_code
def yX12_kept : MethodName := ⟨RX12, "kept", "(II)I"⟩
abbrev cX12_writes : ByteArray := prog_14_method_120_code
def yX12_writes : MethodName := ⟨RX12, "writes", "(I)V"⟩
abbrev cX12_image : ByteArray := prog_14_method_121_code
def yX12_image : MethodName := ⟨RX12, "image", "()I"⟩
abbrev cX12_octet : ByteArray := prog_14_method_122_code
def yX12_octet : MethodName := ⟨RX12, "octet", "(I)I"⟩
abbrev cX12_shipOn : ByteArray := prog_14_method_123_code
def yX12_shipOn : MethodName := ⟨RX12, "shipOn", "(II)Z"⟩
abbrev cX12_comesOn : ByteArray := prog_14_method_124_code
def yX12_comesOn : MethodName := ⟨RX12, "comesOn", "(I)Z"⟩
abbrev cX12_on : ByteArray := prog_14_method_125_code
def yX12_on : MethodName := ⟨RX12, "on", "()Z"⟩
def RJ9 : String := "java/lang/Math"
def TJ9 : u_T := fun k => match k with
  | _ => ("", "", "", false)
def tyJ9 : Nat → FieldType := fun k => match k with
  | _ => .int
abbrev wsJ90 : List Cond := u_ws RJ9 TJ9 0
theorem nmJ9 : ∀ a, a < 0 → ∀ b, b < 0 → a ≠ b → (TJ9 a).2.1 ≠ (TJ9 b).2.1 := by decide +kernel
theorem tyJ9_ok : ∀ k, k < 0 → parseFieldDescriptor (TJ9 k).2.2.1 = some (tyJ9 k) := by decide +kernel
abbrev cJ9_floorDiv_7cf53 : ByteArray := prog_15_method_47_code
def yJ9_floorDiv_7cf53 : MethodName := ⟨RJ9, "floorDiv", "(II)I"⟩
abbrev cJ9_floorMod_7cf53 : ByteArray := prog_15_method_50_code
def yJ9_floorMod_7cf53 : MethodName := ⟨RJ9, "floorMod", "(II)I"⟩
abbrev cJ9_abs_0f7a4 : ByteArray := prog_15_method_59_code
def yJ9_abs_0f7a4 : MethodName := ⟨RJ9, "abs", "(I)I"⟩
abbrev cJ9_max_7cf53 : ByteArray := prog_15_method_65_code
def yJ9_max_7cf53 : MethodName := ⟨RJ9, "max", "(II)I"⟩
abbrev cJ9_min_7cf53 : ByteArray := prog_15_method_69_code
def yJ9_min_7cf53 : MethodName := ⟨RJ9, "min", "(II)I"⟩
def RJ0 : String := "java/lang/String"
def TJ0 : u_T := fun k => match k with
  | _ => ("", "", "", false)
def tyJ0 : Nat → FieldType := fun k => match k with
  | _ => .int
abbrev wsJ00 : List Cond := u_ws RJ0 TJ0 0
theorem nmJ0 : ∀ a, a < 0 → ∀ b, b < 0 → a ≠ b → (TJ0 a).2.1 ≠ (TJ0 b).2.1 := by decide +kernel
theorem tyJ0_ok : ∀ k, k < 0 → parseFieldDescriptor (TJ0 k).2.2.1 = some (tyJ0 k) := by decide +kernel
abbrev cJ0_length_8abf5 : ByteArray := prog_16_method_54_code
def yJ0_length_8abf5 : MethodName := ⟨RJ0, "length", "()I"⟩
abbrev cJ0_charAt_5068e : ByteArray := prog_16_method_56_code
def yJ0_charAt_5068e : MethodName := ⟨RJ0, "charAt", "(I)C"⟩
abbrev cJ0_coder_7d493 : ByteArray := prog_16_method_152_code
def yJ0_coder_7d493 : MethodName := ⟨RJ0, "coder", "()B"⟩
abbrev cJ0_isLatin1_aae02 : ByteArray := prog_16_method_154_code
def yJ0_isLatin1_aae02 : MethodName := ⟨RJ0, "isLatin1", "()Z"⟩
abbrev cJ0_checkIndex_df160 : ByteArray := prog_16_method_155_code
def yJ0_checkIndex_df160 : MethodName := ⟨RJ0, "checkIndex", "(II)V"⟩
def RJ1 : String := "java/lang/StringLatin1"
def TJ1 : u_T := fun k => match k with
  | _ => ("", "", "", false)
def tyJ1 : Nat → FieldType := fun k => match k with
  | _ => .int
abbrev wsJ10 : List Cond := u_ws RJ1 TJ1 0
theorem nmJ1 : ∀ a, a < 0 → ∀ b, b < 0 → a ≠ b → (TJ1 a).2.1 ≠ (TJ1 b).2.1 := by decide +kernel
theorem tyJ1_ok : ∀ k, k < 0 → parseFieldDescriptor (TJ1 k).2.2.1 = some (tyJ1 k) := by decide +kernel
abbrev cJ1_charAt_3b067 : ByteArray := prog_17_method_2_code
def yJ1_charAt_3b067 : MethodName := ⟨RJ1, "charAt", "([BI)C"⟩
def RJ2 : String := "java/lang/StringUTF16"
def TJ2 : u_T := fun k => match k with
  | _ => ("", "", "", false)
def tyJ2 : Nat → FieldType := fun k => match k with
  | _ => .int
abbrev wsJ20 : List Cond := u_ws RJ2 TJ2 0
theorem nmJ2 : ∀ a, a < 0 → ∀ b, b < 0 → a ≠ b → (TJ2 a).2.1 ≠ (TJ2 b).2.1 := by decide +kernel
theorem tyJ2_ok : ∀ k, k < 0 → parseFieldDescriptor (TJ2 k).2.2.1 = some (tyJ2 k) := by decide +kernel
abbrev cJ2_getChar_3b067 : ByteArray := prog_18_method_5_code
def yJ2_getChar_3b067 : MethodName := ⟨RJ2, "getChar", "([BI)C"⟩
abbrev cJ2_length_9d52b : ByteArray := prog_18_method_6_code
def yJ2_length_9d52b : MethodName := ⟨RJ2, "length", "([B)I"⟩
abbrev cJ2_charAt_3b067 : ByteArray := prog_18_method_83_code
def yJ2_charAt_3b067 : MethodName := ⟨RJ2, "charAt", "([BI)C"⟩
abbrev cJ2_checkIndex_2214a : ByteArray := prog_18_method_91_code
def yJ2_checkIndex_2214a : MethodName := ⟨RJ2, "checkIndex", "(I[B)V"⟩
def RJ10 : String := "java/lang/System"
def TJ10 : u_T := fun k => match k with
  | _ => ("", "", "", false)
def tyJ10 : Nat → FieldType := fun k => match k with
  | _ => .int
abbrev wsJ100 : List Cond := u_ws RJ10 TJ10 0
theorem nmJ10 : ∀ a, a < 0 → ∀ b, b < 0 → a ≠ b → (TJ10 a).2.1 ≠ (TJ10 b).2.1 := by decide +kernel
theorem tyJ10_ok : ∀ k, k < 0 → parseFieldDescriptor (TJ10 k).2.2.1 = some (tyJ10 k) := by decide +kernel
def RJ3 : String := "jdk/internal/util/Preconditions"
def TJ3 : u_T := fun k => match k with
  | _ => ("", "", "", false)
def tyJ3 : Nat → FieldType := fun k => match k with
  | _ => .int
abbrev wsJ30 : List Cond := u_ws RJ3 TJ3 0
theorem nmJ3 : ∀ a, a < 0 → ∀ b, b < 0 → a ≠ b → (TJ3 a).2.1 ≠ (TJ3 b).2.1 := by decide +kernel
theorem tyJ3_ok : ∀ k, k < 0 → parseFieldDescriptor (TJ3 k).2.2.1 = some (tyJ3 k) := by decide +kernel
abbrev cJ3_checkIndex_8e157 : ByteArray := prog_20_method_11_code
def yJ3_checkIndex_8e157 : MethodName := ⟨RJ3, "checkIndex", "(IILjava/util/function/BiFunction;)I"⟩
def RL : String := "WrongTideLaw"
abbrev cL_law : ByteArray := code
def yL_law : MethodName := ⟨RL, "law", "([I)Z"⟩
abbrev vwCl : List vw_C := [(RX0, TX0, 3), (RX1, TX1, 12), (RX2, TX2, 3), (RX3, TX3, 10), (RX4, TX4, 5), (RX5, TX5, 3), (RX6, TX6, 13), (RX7, TX7, 6), (RX8, TX8, 9), (RX9, TX9, 2), (RX10, TX10, 4), (RX11, TX11, 16), (RX12, TX12, 71)]
