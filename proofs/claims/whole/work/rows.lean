section
-- ===== PART A: goes FIRST, ahead of the names: the tables' words, and 'selects' of the private methods out of them =====
/-- a private method of a class that the tables say can be made, by its rows of tables_1 -/
def lw_okq (q : MethodName × Nat) : Prop := (q.1.cls ≠ "java/lang/invoke/MethodHandle" ∧ q.1.cls ≠ "java/lang/invoke/VarHandle") ∧ Cond.instantiable q.1.cls q.2 ∈ tables_1 ∧ Cond.privateMethod q.1 ∈ tables_1 ∧ Cond.instanceMethod q.1 ∈ tables_1
theorem lw_p0 : lw_okq (⟨"java/lang/Throwable", "fillInStackTrace", "(I)Ljava/lang/Throwable;"⟩, 6) := ⟨⟨by decide +kernel, by decide +kernel⟩, List.mem_of_getElem? (i := 411) (by decide +kernel), List.mem_of_getElem? (i := 409) (by decide +kernel), List.mem_of_getElem? (i := 410) (by decide +kernel)⟩
theorem lw_p1 : lw_okq (⟨"NotationParse$Text", "kindAt", "(I)I"⟩, 7) := ⟨⟨by decide +kernel, by decide +kernel⟩, List.mem_of_getElem? (i := 80) (by decide +kernel), List.mem_of_getElem? (i := 728) (by decide +kernel), List.mem_of_getElem? (i := 729) (by decide +kernel)⟩
theorem lw_p2 : lw_okq (⟨"NotationParse$Text", "endOfRow", "(II)I"⟩, 7) := ⟨⟨by decide +kernel, by decide +kernel⟩, List.mem_of_getElem? (i := 80) (by decide +kernel), List.mem_of_getElem? (i := 733) (by decide +kernel), List.mem_of_getElem? (i := 734) (by decide +kernel)⟩
theorem lw_p3 : lw_okq (⟨"NotationParse$Text", "takeRow", "(IIILNotationParse$Grammar;)V"⟩, 7) := ⟨⟨by decide +kernel, by decide +kernel⟩, List.mem_of_getElem? (i := 80) (by decide +kernel), List.mem_of_getElem? (i := 737) (by decide +kernel), List.mem_of_getElem? (i := 738) (by decide +kernel)⟩
theorem lw_p4 : lw_okq (⟨"NotationParse", "findFault", "()V"⟩, 7) := ⟨⟨by decide +kernel, by decide +kernel⟩, List.mem_of_getElem? (i := 28) (by decide +kernel), List.mem_of_getElem? (i := 742) (by decide +kernel), List.mem_of_getElem? (i := 743) (by decide +kernel)⟩
theorem lw_p5 : lw_okq (⟨"NotationParse$Chart", "emptyRow", "(I)V"⟩, 4) := ⟨⟨by decide +kernel, by decide +kernel⟩, List.mem_of_getElem? (i := 116) (by decide +kernel), List.mem_of_getElem? (i := 750) (by decide +kernel), List.mem_of_getElem? (i := 751) (by decide +kernel)⟩
theorem lw_p6 : lw_okq (⟨"NotationParse$Chart", "predict", "(II)V"⟩, 4) := ⟨⟨by decide +kernel, by decide +kernel⟩, List.mem_of_getElem? (i := 116) (by decide +kernel), List.mem_of_getElem? (i := 755) (by decide +kernel), List.mem_of_getElem? (i := 756) (by decide +kernel)⟩
theorem lw_p7 : lw_okq (⟨"NotationParse$Chart", "leastFirstHole", "(I)I"⟩, 4) := ⟨⟨by decide +kernel, by decide +kernel⟩, List.mem_of_getElem? (i := 116) (by decide +kernel), List.mem_of_getElem? (i := 759) (by decide +kernel), List.mem_of_getElem? (i := 760) (by decide +kernel)⟩
theorem lw_p8 : lw_okq (⟨"NotationParse$Chart", "scan", "(IJ)Z"⟩, 4) := ⟨⟨by decide +kernel, by decide +kernel⟩, List.mem_of_getElem? (i := 116) (by decide +kernel), List.mem_of_getElem? (i := 763) (by decide +kernel), List.mem_of_getElem? (i := 764) (by decide +kernel)⟩
theorem lw_p9 : lw_okq (⟨"NotationParse$Chart", "complete", "(I)V"⟩, 4) := ⟨⟨by decide +kernel, by decide +kernel⟩, List.mem_of_getElem? (i := 116) (by decide +kernel), List.mem_of_getElem? (i := 768) (by decide +kernel), List.mem_of_getElem? (i := 769) (by decide +kernel)⟩
theorem lw_p10 : lw_okq (⟨"NotationParse$Chart", "highestTerm", "(II)I"⟩, 4) := ⟨⟨by decide +kernel, by decide +kernel⟩, List.mem_of_getElem? (i := 116) (by decide +kernel), List.mem_of_getElem? (i := 772) (by decide +kernel), List.mem_of_getElem? (i := 773) (by decide +kernel)⟩
theorem lw_p11 : lw_okq (⟨"NotationParse$Chart", "isReached", "(III)Z"⟩, 4) := ⟨⟨by decide +kernel, by decide +kernel⟩, List.mem_of_getElem? (i := 116) (by decide +kernel), List.mem_of_getElem? (i := 780) (by decide +kernel), List.mem_of_getElem? (i := 781) (by decide +kernel)⟩
theorem lw_p12 : lw_okq (⟨"NotationParse$Chart", "fillHoles", "(III)V"⟩, 4) := ⟨⟨by decide +kernel, by decide +kernel⟩, List.mem_of_getElem? (i := 116) (by decide +kernel), List.mem_of_getElem? (i := 784) (by decide +kernel), List.mem_of_getElem? (i := 785) (by decide +kernel)⟩
theorem lw_p13 : lw_okq (⟨"NotationParse$Chart", "leastWanted", "(I)I"⟩, 4) := ⟨⟨by decide +kernel, by decide +kernel⟩, List.mem_of_getElem? (i := 116) (by decide +kernel), List.mem_of_getElem? (i := 788) (by decide +kernel), List.mem_of_getElem? (i := 789) (by decide +kernel)⟩
theorem lw_p14 : lw_okq (⟨"NotationParse", "noteFault", "(II)V"⟩, 7) := ⟨⟨by decide +kernel, by decide +kernel⟩, List.mem_of_getElem? (i := 28) (by decide +kernel), List.mem_of_getElem? (i := 792) (by decide +kernel), List.mem_of_getElem? (i := 793) (by decide +kernel)⟩
theorem lw_p15 : lw_okq (⟨"NotationParse$Chart", "countFrom", "(II)V"⟩, 4) := ⟨⟨by decide +kernel, by decide +kernel⟩, List.mem_of_getElem? (i := 116) (by decide +kernel), List.mem_of_getElem? (i := 805) (by decide +kernel), List.mem_of_getElem? (i := 806) (by decide +kernel)⟩
def lw_privs_1 : List (MethodName × Nat) := [(⟨"java/lang/Throwable", "fillInStackTrace", "(I)Ljava/lang/Throwable;"⟩, 6), (⟨"NotationParse$Text", "kindAt", "(I)I"⟩, 7), (⟨"NotationParse$Text", "endOfRow", "(II)I"⟩, 7), (⟨"NotationParse$Text", "takeRow", "(IIILNotationParse$Grammar;)V"⟩, 7), (⟨"NotationParse", "findFault", "()V"⟩, 7), (⟨"NotationParse$Chart", "emptyRow", "(I)V"⟩, 4), (⟨"NotationParse$Chart", "predict", "(II)V"⟩, 4), (⟨"NotationParse$Chart", "leastFirstHole", "(I)I"⟩, 4), (⟨"NotationParse$Chart", "scan", "(IJ)Z"⟩, 4), (⟨"NotationParse$Chart", "complete", "(I)V"⟩, 4), (⟨"NotationParse$Chart", "highestTerm", "(II)I"⟩, 4), (⟨"NotationParse$Chart", "isReached", "(III)Z"⟩, 4), (⟨"NotationParse$Chart", "fillHoles", "(III)V"⟩, 4), (⟨"NotationParse$Chart", "leastWanted", "(I)I"⟩, 4), (⟨"NotationParse", "noteFault", "(II)V"⟩, 7), (⟨"NotationParse$Chart", "countFrom", "(II)V"⟩, 4)]
theorem lw_r1 : ∀ q ∈ lw_privs_1, lw_okq q := List.forall_mem_cons.mpr ⟨lw_p0, List.forall_mem_cons.mpr ⟨lw_p1, List.forall_mem_cons.mpr ⟨lw_p2, List.forall_mem_cons.mpr ⟨lw_p3, List.forall_mem_cons.mpr ⟨lw_p4, List.forall_mem_cons.mpr ⟨lw_p5, List.forall_mem_cons.mpr ⟨lw_p6, List.forall_mem_cons.mpr ⟨lw_p7, List.forall_mem_cons.mpr ⟨lw_p8, List.forall_mem_cons.mpr ⟨lw_p9, List.forall_mem_cons.mpr ⟨lw_p10, List.forall_mem_cons.mpr ⟨lw_p11, List.forall_mem_cons.mpr ⟨lw_p12, List.forall_mem_cons.mpr ⟨lw_p13, List.forall_mem_cons.mpr ⟨lw_p14, List.forall_mem_cons.mpr ⟨lw_p15, fun _ h => absurd h List.not_mem_nil⟩⟩⟩⟩⟩⟩⟩⟩⟩⟩⟩⟩⟩⟩⟩⟩
theorem lw_p16 : lw_okq (⟨"NotationParse$Chart", "countRule", "(III)V"⟩, 4) := ⟨⟨by decide +kernel, by decide +kernel⟩, List.mem_of_getElem? (i := 116) (by decide +kernel), List.mem_of_getElem? (i := 809) (by decide +kernel), List.mem_of_getElem? (i := 810) (by decide +kernel)⟩
theorem lw_p17 : lw_okq (⟨"NotationParse$Chart", "countSplits", "(IIII)I"⟩, 4) := ⟨⟨by decide +kernel, by decide +kernel⟩, List.mem_of_getElem? (i := 116) (by decide +kernel), List.mem_of_getElem? (i := 813) (by decide +kernel), List.mem_of_getElem? (i := 814) (by decide +kernel)⟩
theorem lw_p18 : lw_okq (⟨"NotationParse$Chart", "cell", "(III)I"⟩, 4) := ⟨⟨by decide +kernel, by decide +kernel⟩, List.mem_of_getElem? (i := 116) (by decide +kernel), List.mem_of_getElem? (i := 817) (by decide +kernel), List.mem_of_getElem? (i := 818) (by decide +kernel)⟩
theorem lw_p19 : lw_okq (⟨"NotationParse$Chart", "sumTerms", "(II)V"⟩, 4) := ⟨⟨by decide +kernel, by decide +kernel⟩, List.mem_of_getElem? (i := 116) (by decide +kernel), List.mem_of_getElem? (i := 825) (by decide +kernel), List.mem_of_getElem? (i := 826) (by decide +kernel)⟩
theorem lw_p20 : lw_okq (⟨"NotationParse$Chart", "addTrees", "(II)V"⟩, 4) := ⟨⟨by decide +kernel, by decide +kernel⟩, List.mem_of_getElem? (i := 116) (by decide +kernel), List.mem_of_getElem? (i := 829) (by decide +kernel), List.mem_of_getElem? (i := 830) (by decide +kernel)⟩
theorem lw_p21 : lw_okq (⟨"NotationParse$Chart", "countFirstHoles", "(II)V"⟩, 4) := ⟨⟨by decide +kernel, by decide +kernel⟩, List.mem_of_getElem? (i := 116) (by decide +kernel), List.mem_of_getElem? (i := 835) (by decide +kernel), List.mem_of_getElem? (i := 836) (by decide +kernel)⟩
theorem lw_p22 : lw_okq (⟨"NotationParse$Tree", "await", "(IIII)V"⟩, 14) := ⟨⟨by decide +kernel, by decide +kernel⟩, List.mem_of_getElem? (i := 135) (by decide +kernel), List.mem_of_getElem? (i := 843) (by decide +kernel), List.mem_of_getElem? (i := 844) (by decide +kernel)⟩
theorem lw_p23 : lw_okq (⟨"NotationParse$Tree", "growNode", "(III)V"⟩, 14) := ⟨⟨by decide +kernel, by decide +kernel⟩, List.mem_of_getElem? (i := 135) (by decide +kernel), List.mem_of_getElem? (i := 847) (by decide +kernel), List.mem_of_getElem? (i := 848) (by decide +kernel)⟩
theorem lw_p24 : lw_okq (⟨"NotationParse$Tree", "awaitHoles", "(III)I"⟩, 14) := ⟨⟨by decide +kernel, by decide +kernel⟩, List.mem_of_getElem? (i := 135) (by decide +kernel), List.mem_of_getElem? (i := 855) (by decide +kernel), List.mem_of_getElem? (i := 856) (by decide +kernel)⟩
theorem lw_p25 : lw_okq (⟨"NotationParse$Tree", "levelWithin", "(I)I"⟩, 14) := ⟨⟨by decide +kernel, by decide +kernel⟩, List.mem_of_getElem? (i := 135) (by decide +kernel), List.mem_of_getElem? (i := 900) (by decide +kernel), List.mem_of_getElem? (i := 901) (by decide +kernel)⟩
theorem lw_p26 : lw_okq (⟨"NotationParse$Output", "addByte", "(I)V"⟩, 2) := ⟨⟨by decide +kernel, by decide +kernel⟩, List.mem_of_getElem? (i := 190) (by decide +kernel), List.mem_of_getElem? (i := 908) (by decide +kernel), List.mem_of_getElem? (i := 909) (by decide +kernel)⟩
theorem lw_p27 : lw_okq (⟨"NotationParse$Output", "writeWord", "(J)V"⟩, 2) := ⟨⟨by decide +kernel, by decide +kernel⟩, List.mem_of_getElem? (i := 190) (by decide +kernel), List.mem_of_getElem? (i := 912) (by decide +kernel), List.mem_of_getElem? (i := 913) (by decide +kernel)⟩
theorem lw_p28 : lw_okq (⟨"NotationParseModel", "part", "(IJ)I"⟩, 31) := ⟨⟨by decide +kernel, by decide +kernel⟩, List.mem_of_getElem? (i := 917) (by decide +kernel), List.mem_of_getElem? (i := 1027) (by decide +kernel), List.mem_of_getElem? (i := 1028) (by decide +kernel)⟩
theorem lw_p29 : lw_okq (⟨"NotationParseModel", "takeWords", "()I"⟩, 31) := ⟨⟨by decide +kernel, by decide +kernel⟩, List.mem_of_getElem? (i := 917) (by decide +kernel), List.mem_of_getElem? (i := 1072) (by decide +kernel), List.mem_of_getElem? (i := 1073) (by decide +kernel)⟩
theorem lw_p30 : lw_okq (⟨"NotationParseModel", "count", "()V"⟩, 31) := ⟨⟨by decide +kernel, by decide +kernel⟩, List.mem_of_getElem? (i := 917) (by decide +kernel), List.mem_of_getElem? (i := 1076) (by decide +kernel), List.mem_of_getElem? (i := 1077) (by decide +kernel)⟩
theorem lw_p31 : lw_okq (⟨"NotationParseModel", "waysOf", "(IIII)I"⟩, 31) := ⟨⟨by decide +kernel, by decide +kernel⟩, List.mem_of_getElem? (i := 917) (by decide +kernel), List.mem_of_getElem? (i := 1083) (by decide +kernel), List.mem_of_getElem? (i := 1084) (by decide +kernel)⟩
def lw_privs_2 : List (MethodName × Nat) := [(⟨"NotationParse$Chart", "countRule", "(III)V"⟩, 4), (⟨"NotationParse$Chart", "countSplits", "(IIII)I"⟩, 4), (⟨"NotationParse$Chart", "cell", "(III)I"⟩, 4), (⟨"NotationParse$Chart", "sumTerms", "(II)V"⟩, 4), (⟨"NotationParse$Chart", "addTrees", "(II)V"⟩, 4), (⟨"NotationParse$Chart", "countFirstHoles", "(II)V"⟩, 4), (⟨"NotationParse$Tree", "await", "(IIII)V"⟩, 14), (⟨"NotationParse$Tree", "growNode", "(III)V"⟩, 14), (⟨"NotationParse$Tree", "awaitHoles", "(III)I"⟩, 14), (⟨"NotationParse$Tree", "levelWithin", "(I)I"⟩, 14), (⟨"NotationParse$Output", "addByte", "(I)V"⟩, 2), (⟨"NotationParse$Output", "writeWord", "(J)V"⟩, 2), (⟨"NotationParseModel", "part", "(IJ)I"⟩, 31), (⟨"NotationParseModel", "takeWords", "()I"⟩, 31), (⟨"NotationParseModel", "count", "()V"⟩, 31), (⟨"NotationParseModel", "waysOf", "(IIII)I"⟩, 31)]
theorem lw_r2 : ∀ q ∈ lw_privs_2, lw_okq q := List.forall_mem_cons.mpr ⟨lw_p16, List.forall_mem_cons.mpr ⟨lw_p17, List.forall_mem_cons.mpr ⟨lw_p18, List.forall_mem_cons.mpr ⟨lw_p19, List.forall_mem_cons.mpr ⟨lw_p20, List.forall_mem_cons.mpr ⟨lw_p21, List.forall_mem_cons.mpr ⟨lw_p22, List.forall_mem_cons.mpr ⟨lw_p23, List.forall_mem_cons.mpr ⟨lw_p24, List.forall_mem_cons.mpr ⟨lw_p25, List.forall_mem_cons.mpr ⟨lw_p26, List.forall_mem_cons.mpr ⟨lw_p27, List.forall_mem_cons.mpr ⟨lw_p28, List.forall_mem_cons.mpr ⟨lw_p29, List.forall_mem_cons.mpr ⟨lw_p30, List.forall_mem_cons.mpr ⟨lw_p31, fun _ h => absurd h List.not_mem_nil⟩⟩⟩⟩⟩⟩⟩⟩⟩⟩⟩⟩⟩⟩⟩⟩
theorem lw_p32 : lw_okq (⟨"NotationParseModel", "countTerms", "(II)V"⟩, 31) := ⟨⟨by decide +kernel, by decide +kernel⟩, List.mem_of_getElem? (i := 917) (by decide +kernel), List.mem_of_getElem? (i := 1092) (by decide +kernel), List.mem_of_getElem? (i := 1093) (by decide +kernel)⟩
theorem lw_p33 : lw_okq (⟨"NotationParseModel", "isAtom", "(I)Z"⟩, 31) := ⟨⟨by decide +kernel, by decide +kernel⟩, List.mem_of_getElem? (i := 917) (by decide +kernel), List.mem_of_getElem? (i := 1096) (by decide +kernel), List.mem_of_getElem? (i := 1097) (by decide +kernel)⟩
theorem lw_p34 : lw_okq (⟨"NotationParseModel", "isKeyWord", "(J)Z"⟩, 31) := ⟨⟨by decide +kernel, by decide +kernel⟩, List.mem_of_getElem? (i := 917) (by decide +kernel), List.mem_of_getElem? (i := 1100) (by decide +kernel), List.mem_of_getElem? (i := 1101) (by decide +kernel)⟩
theorem lw_p35 : lw_okq (⟨"NotationParseModel", "is", "(II)Z"⟩, 31) := ⟨⟨by decide +kernel, by decide +kernel⟩, List.mem_of_getElem? (i := 917) (by decide +kernel), List.mem_of_getElem? (i := 1104) (by decide +kernel), List.mem_of_getElem? (i := 1105) (by decide +kernel)⟩
theorem lw_p36 : lw_okq (⟨"NotationParseModel", "canBegin", "(I)Z"⟩, 31) := ⟨⟨by decide +kernel, by decide +kernel⟩, List.mem_of_getElem? (i := 917) (by decide +kernel), List.mem_of_getElem? (i := 1108) (by decide +kernel), List.mem_of_getElem? (i := 1109) (by decide +kernel)⟩
theorem lw_p37 : lw_okq (⟨"NotationParseModel", "mayBeTerm", "(III)Z"⟩, 31) := ⟨⟨by decide +kernel, by decide +kernel⟩, List.mem_of_getElem? (i := 917) (by decide +kernel), List.mem_of_getElem? (i := 1112) (by decide +kernel), List.mem_of_getElem? (i := 1113) (by decide +kernel)⟩
theorem lw_p38 : lw_okq (⟨"NotationParseModel", "mayBegin", "(IIII)Z"⟩, 31) := ⟨⟨by decide +kernel, by decide +kernel⟩, List.mem_of_getElem? (i := 917) (by decide +kernel), List.mem_of_getElem? (i := 1116) (by decide +kernel), List.mem_of_getElem? (i := 1117) (by decide +kernel)⟩
theorem lw_p39 : lw_okq (⟨"NotationParseModel", "faulty", "(II)V"⟩, 31) := ⟨⟨by decide +kernel, by decide +kernel⟩, List.mem_of_getElem? (i := 917) (by decide +kernel), List.mem_of_getElem? (i := 1120) (by decide +kernel), List.mem_of_getElem? (i := 1121) (by decide +kernel)⟩
theorem lw_p40 : lw_okq (⟨"NotationParseModel", "grow", "()V"⟩, 31) := ⟨⟨by decide +kernel, by decide +kernel⟩, List.mem_of_getElem? (i := 917) (by decide +kernel), List.mem_of_getElem? (i := 1124) (by decide +kernel), List.mem_of_getElem? (i := 1125) (by decide +kernel)⟩
theorem lw_p41 : lw_okq (⟨"NotationParseModel", "later", "(IIII)V"⟩, 31) := ⟨⟨by decide +kernel, by decide +kernel⟩, List.mem_of_getElem? (i := 917) (by decide +kernel), List.mem_of_getElem? (i := 1128) (by decide +kernel), List.mem_of_getElem? (i := 1129) (by decide +kernel)⟩
theorem lw_p42 : lw_okq (⟨"NotationParseModel", "kindOf", "(III)I"⟩, 31) := ⟨⟨by decide +kernel, by decide +kernel⟩, List.mem_of_getElem? (i := 917) (by decide +kernel), List.mem_of_getElem? (i := 1132) (by decide +kernel), List.mem_of_getElem? (i := 1133) (by decide +kernel)⟩
theorem lw_p43 : lw_okq (⟨"NotationParseModel", "fillHoles", "(I)V"⟩, 31) := ⟨⟨by decide +kernel, by decide +kernel⟩, List.mem_of_getElem? (i := 917) (by decide +kernel), List.mem_of_getElem? (i := 1136) (by decide +kernel), List.mem_of_getElem? (i := 1137) (by decide +kernel)⟩
theorem lw_p44 : lw_okq (⟨"NotationParseModel", "change", "(II)V"⟩, 31) := ⟨⟨by decide +kernel, by decide +kernel⟩, List.mem_of_getElem? (i := 917) (by decide +kernel), List.mem_of_getElem? (i := 1140) (by decide +kernel), List.mem_of_getElem? (i := 1141) (by decide +kernel)⟩
theorem lw_p45 : lw_okq (⟨"NotationParseModel", "children", "(I)I"⟩, 31) := ⟨⟨by decide +kernel, by decide +kernel⟩, List.mem_of_getElem? (i := 917) (by decide +kernel), List.mem_of_getElem? (i := 1152) (by decide +kernel), List.mem_of_getElem? (i := 1153) (by decide +kernel)⟩
theorem lw_p46 : lw_okq (⟨"NotationParseModel", "puts", "(I)V"⟩, 31) := ⟨⟨by decide +kernel, by decide +kernel⟩, List.mem_of_getElem? (i := 917) (by decide +kernel), List.mem_of_getElem? (i := 1160) (by decide +kernel), List.mem_of_getElem? (i := 1161) (by decide +kernel)⟩
theorem lw_p47 : lw_okq (⟨"NotationParseModel", "putWord", "(J)V"⟩, 31) := ⟨⟨by decide +kernel, by decide +kernel⟩, List.mem_of_getElem? (i := 917) (by decide +kernel), List.mem_of_getElem? (i := 1164) (by decide +kernel), List.mem_of_getElem? (i := 1165) (by decide +kernel)⟩
def lw_privs_3 : List (MethodName × Nat) := [(⟨"NotationParseModel", "countTerms", "(II)V"⟩, 31), (⟨"NotationParseModel", "isAtom", "(I)Z"⟩, 31), (⟨"NotationParseModel", "isKeyWord", "(J)Z"⟩, 31), (⟨"NotationParseModel", "is", "(II)Z"⟩, 31), (⟨"NotationParseModel", "canBegin", "(I)Z"⟩, 31), (⟨"NotationParseModel", "mayBeTerm", "(III)Z"⟩, 31), (⟨"NotationParseModel", "mayBegin", "(IIII)Z"⟩, 31), (⟨"NotationParseModel", "faulty", "(II)V"⟩, 31), (⟨"NotationParseModel", "grow", "()V"⟩, 31), (⟨"NotationParseModel", "later", "(IIII)V"⟩, 31), (⟨"NotationParseModel", "kindOf", "(III)I"⟩, 31), (⟨"NotationParseModel", "fillHoles", "(I)V"⟩, 31), (⟨"NotationParseModel", "change", "(II)V"⟩, 31), (⟨"NotationParseModel", "children", "(I)I"⟩, 31), (⟨"NotationParseModel", "puts", "(I)V"⟩, 31), (⟨"NotationParseModel", "putWord", "(J)V"⟩, 31)]
theorem lw_r3 : ∀ q ∈ lw_privs_3, lw_okq q := List.forall_mem_cons.mpr ⟨lw_p32, List.forall_mem_cons.mpr ⟨lw_p33, List.forall_mem_cons.mpr ⟨lw_p34, List.forall_mem_cons.mpr ⟨lw_p35, List.forall_mem_cons.mpr ⟨lw_p36, List.forall_mem_cons.mpr ⟨lw_p37, List.forall_mem_cons.mpr ⟨lw_p38, List.forall_mem_cons.mpr ⟨lw_p39, List.forall_mem_cons.mpr ⟨lw_p40, List.forall_mem_cons.mpr ⟨lw_p41, List.forall_mem_cons.mpr ⟨lw_p42, List.forall_mem_cons.mpr ⟨lw_p43, List.forall_mem_cons.mpr ⟨lw_p44, List.forall_mem_cons.mpr ⟨lw_p45, List.forall_mem_cons.mpr ⟨lw_p46, List.forall_mem_cons.mpr ⟨lw_p47, fun _ h => absurd h List.not_mem_nil⟩⟩⟩⟩⟩⟩⟩⟩⟩⟩⟩⟩⟩⟩⟩⟩
theorem lw_p48 : lw_okq (⟨"NotationParseModel", "takeApart", "(I)V"⟩, 31) := ⟨⟨by decide +kernel, by decide +kernel⟩, List.mem_of_getElem? (i := 917) (by decide +kernel), List.mem_of_getElem? (i := 1168) (by decide +kernel), List.mem_of_getElem? (i := 1169) (by decide +kernel)⟩
theorem lw_p49 : lw_okq (⟨"NotationParseModel", "childAt", "(II)I"⟩, 31) := ⟨⟨by decide +kernel, by decide +kernel⟩, List.mem_of_getElem? (i := 917) (by decide +kernel), List.mem_of_getElem? (i := 1172) (by decide +kernel), List.mem_of_getElem? (i := 1173) (by decide +kernel)⟩
def lw_privs_4 : List (MethodName × Nat) := [(⟨"NotationParseModel", "takeApart", "(I)V"⟩, 31), (⟨"NotationParseModel", "childAt", "(II)I"⟩, 31)]
theorem lw_r4 : ∀ q ∈ lw_privs_4, lw_okq q := List.forall_mem_cons.mpr ⟨lw_p48, List.forall_mem_cons.mpr ⟨lw_p49, fun _ h => absurd h List.not_mem_nil⟩⟩
def lw_privs : List (MethodName × Nat) := lw_privs_1 ++ (lw_privs_2 ++ (lw_privs_3 ++ (lw_privs_4)))
def lw_tbl : List Cond := k2_sels lw_privs ++ tables_1
theorem lw_privs_ok : ∀ q ∈ lw_privs, lw_okq q := by
  show ∀ q ∈ lw_privs_1 ++ (lw_privs_2 ++ (lw_privs_3 ++ (lw_privs_4))), lw_okq q
  exact List.forall_mem_append.mpr ⟨lw_r1, List.forall_mem_append.mpr ⟨lw_r2, List.forall_mem_append.mpr ⟨lw_r3, lw_r4⟩⟩⟩
def np_al : List Cond := lw_tbl.filter goodWord
theorem np_subm {ws : List Cond} (ps : List Nat) (hp : ws = ps.filterMap (fun i => lw_tbl[i]?)) (hg : ws.all goodWord = true) : ∀ w ∈ ws, w ∈ np_al := by
  intro w hw
  have h1 := List.all_eq_true.mp hg w hw
  rw [hp] at hw
  obtain ⟨i, -, hi⟩ := List.mem_filterMap.mp hw
  exact List.mem_filter.mpr ⟨List.mem_of_getElem? hi, h1⟩
end
section
theorem dd_M_about_0 : decode prog_9_method_44_code 0 = .ok (.aload_n 0, 1) := by decide +kernel
theorem dd_M_about_1 : decode prog_9_method_44_code 1 = .ok (.iconst 0, 1) := by decide +kernel
theorem dd_M_about_2 : decode prog_9_method_44_code 2 = .ok (.putfield 80, 3) := by decide +kernel
theorem dd_M_about_5 : decode prog_9_method_44_code 5 = .ok (.iload_n 1, 1) := by decide +kernel
theorem dd_M_about_6 : decode prog_9_method_44_code 6 = .ok (.tableswitch 59 0 4 #[34, 39, 44, 49, 54], 34) := by decide +kernel
theorem dd_M_about_40 : decode prog_9_method_44_code 40 = .ok (.aload_n 0, 1) := by decide +kernel
theorem dd_M_about_41 : decode prog_9_method_44_code 41 = .ok (.getfield 100, 3) := by decide +kernel
theorem dd_M_about_44 : decode prog_9_method_44_code 44 = .ok (.ireturn, 1) := by decide +kernel
theorem dd_M_about_45 : decode prog_9_method_44_code 45 = .ok (.aload_n 0, 1) := by decide +kernel
theorem dd_M_about_46 : decode prog_9_method_44_code 46 = .ok (.getfield 103, 3) := by decide +kernel
theorem dd_M_about_49 : decode prog_9_method_44_code 49 = .ok (.ireturn, 1) := by decide +kernel
theorem dd_M_about_50 : decode prog_9_method_44_code 50 = .ok (.aload_n 0, 1) := by decide +kernel
theorem dd_M_about_51 : decode prog_9_method_44_code 51 = .ok (.getfield 125, 3) := by decide +kernel
theorem dd_M_about_54 : decode prog_9_method_44_code 54 = .ok (.ireturn, 1) := by decide +kernel
theorem dd_M_about_55 : decode prog_9_method_44_code 55 = .ok (.aload_n 0, 1) := by decide +kernel
theorem dd_M_about_56 : decode prog_9_method_44_code 56 = .ok (.getfield 122, 3) := by decide +kernel
theorem dd_M_about_59 : decode prog_9_method_44_code 59 = .ok (.ireturn, 1) := by decide +kernel
theorem dd_M_about_60 : decode prog_9_method_44_code 60 = .ok (.aload_n 0, 1) := by decide +kernel
theorem dd_M_about_61 : decode prog_9_method_44_code 61 = .ok (.getfield 208, 3) := by decide +kernel
theorem dd_M_about_64 : decode prog_9_method_44_code 64 = .ok (.ireturn, 1) := by decide +kernel
theorem dd_M_about_65 : decode prog_9_method_44_code 65 = .ok (.iconst (-1), 1) := by decide +kernel
theorem dd_M_about_66 : decode prog_9_method_44_code 66 = .ok (.ireturn, 1) := by decide +kernel
theorem dd_M_at_0 : decode prog_9_method_42_code 0 = .ok (.aload_n 0, 1) := by decide +kernel
theorem dd_M_at_1 : decode prog_9_method_42_code 1 = .ok (.iconst 0, 1) := by decide +kernel
theorem dd_M_at_2 : decode prog_9_method_42_code 2 = .ok (.putfield 80, 3) := by decide +kernel
theorem dd_M_at_5 : decode prog_9_method_42_code 5 = .ok (.iload_n 1, 1) := by decide +kernel
theorem dd_M_at_6 : decode prog_9_method_42_code 6 = .ok (.ifCond .lt 11, 3) := by decide +kernel
theorem dd_M_at_9 : decode prog_9_method_42_code 9 = .ok (.iload_n 1, 1) := by decide +kernel
theorem dd_M_at_10 : decode prog_9_method_42_code 10 = .ok (.aload_n 0, 1) := by decide +kernel
theorem dd_M_at_11 : decode prog_9_method_42_code 11 = .ok (.getfield 208, 3) := by decide +kernel
theorem dd_M_at_14 : decode prog_9_method_42_code 14 = .ok (.if_icmp .lt 7, 3) := by decide +kernel
theorem dd_M_at_17 : decode prog_9_method_42_code 17 = .ok (.iconst (-1), 1) := by decide +kernel
theorem dd_M_at_18 : decode prog_9_method_42_code 18 = .ok (.goto 9, 3) := by decide +kernel
theorem dd_M_at_21 : decode prog_9_method_42_code 21 = .ok (.aload_n 0, 1) := by decide +kernel
theorem dd_M_at_22 : decode prog_9_method_42_code 22 = .ok (.getfield 74, 3) := by decide +kernel
theorem dd_M_at_25 : decode prog_9_method_42_code 25 = .ok (.iload_n 1, 1) := by decide +kernel
theorem dd_M_at_26 : decode prog_9_method_42_code 26 = .ok (.iaload, 1) := by decide +kernel
theorem dd_M_at_27 : decode prog_9_method_42_code 27 = .ok (.ireturn, 1) := by decide +kernel
theorem dd_M_byteOf_0 : decode prog_9_method_6_code 0 = .ok (.lload_n 0, 1) := by decide +kernel
theorem dd_M_byteOf_1 : decode prog_9_method_6_code 1 = .ok (.bipush 8, 2) := by decide +kernel
theorem dd_M_byteOf_3 : decode prog_9_method_6_code 3 = .ok (.iload_n 2, 1) := by decide +kernel
theorem dd_M_byteOf_4 : decode prog_9_method_6_code 4 = .ok (.iconst 1, 1) := by decide +kernel
theorem dd_M_byteOf_5 : decode prog_9_method_6_code 5 = .ok (.isub, 1) := by decide +kernel
theorem dd_M_byteOf_6 : decode prog_9_method_6_code 6 = .ok (.iload_n 3, 1) := by decide +kernel
theorem dd_M_byteOf_7 : decode prog_9_method_6_code 7 = .ok (.isub, 1) := by decide +kernel
theorem dd_M_byteOf_8 : decode prog_9_method_6_code 8 = .ok (.imul, 1) := by decide +kernel
theorem dd_M_byteOf_9 : decode prog_9_method_6_code 9 = .ok (.lshr, 1) := by decide +kernel
theorem dd_M_byteOf_10 : decode prog_9_method_6_code 10 = .ok (.ldc2_w 90, 3) := by decide +kernel
theorem dd_M_byteOf_13 : decode prog_9_method_6_code 13 = .ok (.land, 1) := by decide +kernel
theorem dd_M_byteOf_14 : decode prog_9_method_6_code 14 = .ok (.l2i, 1) := by decide +kernel
theorem dd_M_byteOf_15 : decode prog_9_method_6_code 15 = .ok (.ireturn, 1) := by decide +kernel
theorem dd_M_canBegin_0 : decode prog_9_method_26_code 0 = .ok (.iconst 0, 1) := by decide +kernel
theorem dd_M_canBegin_1 : decode prog_9_method_26_code 1 = .ok (.istore_n 2, 1) := by decide +kernel
theorem dd_M_canBegin_2 : decode prog_9_method_26_code 2 = .ok (.iload_n 2, 1) := by decide +kernel
theorem dd_M_canBegin_3 : decode prog_9_method_26_code 3 = .ok (.sipush 2604, 3) := by decide +kernel
theorem dd_M_canBegin_6 : decode prog_9_method_26_code 6 = .ok (.if_icmp .ge 16, 3) := by decide +kernel
theorem dd_M_canBegin_9 : decode prog_9_method_26_code 9 = .ok (.aload_n 0, 1) := by decide +kernel
theorem dd_M_canBegin_10 : decode prog_9_method_26_code 10 = .ok (.getfield 47, 3) := by decide +kernel
theorem dd_M_canBegin_13 : decode prog_9_method_26_code 13 = .ok (.iload_n 2, 1) := by decide +kernel
theorem dd_M_canBegin_14 : decode prog_9_method_26_code 14 = .ok (.iconst 0, 1) := by decide +kernel
theorem dd_M_canBegin_15 : decode prog_9_method_26_code 15 = .ok (.bastore, 1) := by decide +kernel
theorem dd_M_canBegin_16 : decode prog_9_method_26_code 16 = .ok (.iinc 2 1, 3) := by decide +kernel
theorem dd_M_canBegin_19 : decode prog_9_method_26_code 19 = .ok (.goto (-17), 3) := by decide +kernel
theorem dd_M_canBegin_22 : decode prog_9_method_26_code 22 = .ok (.iconst 0, 1) := by decide +kernel
theorem dd_M_canBegin_23 : decode prog_9_method_26_code 23 = .ok (.istore_n 2, 1) := by decide +kernel
theorem dd_M_canBegin_24 : decode prog_9_method_26_code 24 = .ok (.iload_n 2, 1) := by decide +kernel
theorem dd_M_canBegin_25 : decode prog_9_method_26_code 25 = .ok (.sipush 341, 3) := by decide +kernel
theorem dd_M_canBegin_28 : decode prog_9_method_26_code 28 = .ok (.if_icmp .ge 16, 3) := by decide +kernel
theorem dd_M_canBegin_31 : decode prog_9_method_26_code 31 = .ok (.aload_n 0, 1) := by decide +kernel
theorem dd_M_canBegin_32 : decode prog_9_method_26_code 32 = .ok (.getfield 43, 3) := by decide +kernel
theorem dd_M_canBegin_35 : decode prog_9_method_26_code 35 = .ok (.iload_n 2, 1) := by decide +kernel
theorem dd_M_canBegin_36 : decode prog_9_method_26_code 36 = .ok (.iconst 0, 1) := by decide +kernel
theorem dd_M_canBegin_37 : decode prog_9_method_26_code 37 = .ok (.bastore, 1) := by decide +kernel
theorem dd_M_canBegin_38 : decode prog_9_method_26_code 38 = .ok (.iinc 2 1, 3) := by decide +kernel
theorem dd_M_canBegin_41 : decode prog_9_method_26_code 41 = .ok (.goto (-17), 3) := by decide +kernel
theorem dd_M_canBegin_44 : decode prog_9_method_26_code 44 = .ok (.iconst 0, 1) := by decide +kernel
theorem dd_M_canBegin_45 : decode prog_9_method_26_code 45 = .ok (.istore_n 2, 1) := by decide +kernel
theorem dd_M_canBegin_46 : decode prog_9_method_26_code 46 = .ok (.iload_n 2, 1) := by decide +kernel
theorem dd_M_canBegin_47 : decode prog_9_method_26_code 47 = .ok (.bipush 11, 2) := by decide +kernel
theorem dd_M_canBegin_49 : decode prog_9_method_26_code 49 = .ok (.if_icmp .ge 21, 3) := by decide +kernel
theorem dd_M_canBegin_52 : decode prog_9_method_26_code 52 = .ok (.aload_n 0, 1) := by decide +kernel
theorem dd_M_canBegin_53 : decode prog_9_method_26_code 53 = .ok (.getfield 43, 3) := by decide +kernel
theorem dd_M_canBegin_56 : decode prog_9_method_26_code 56 = .ok (.bipush 31, 2) := by decide +kernel
theorem dd_M_canBegin_58 : decode prog_9_method_26_code 58 = .ok (.iload_n 2, 1) := by decide +kernel
theorem dd_M_canBegin_59 : decode prog_9_method_26_code 59 = .ok (.imul, 1) := by decide +kernel
theorem dd_M_canBegin_60 : decode prog_9_method_26_code 60 = .ok (.iload_n 1, 1) := by decide +kernel
theorem dd_M_canBegin_61 : decode prog_9_method_26_code 61 = .ok (.iadd, 1) := by decide +kernel
theorem dd_M_canBegin_62 : decode prog_9_method_26_code 62 = .ok (.iconst 1, 1) := by decide +kernel
theorem dd_M_canBegin_63 : decode prog_9_method_26_code 63 = .ok (.bastore, 1) := by decide +kernel
theorem dd_M_canBegin_64 : decode prog_9_method_26_code 64 = .ok (.iinc 2 1, 3) := by decide +kernel
theorem dd_M_canBegin_67 : decode prog_9_method_26_code 67 = .ok (.goto (-21), 3) := by decide +kernel
theorem dd_M_canBegin_70 : decode prog_9_method_26_code 70 = .ok (.iconst 0, 1) := by decide +kernel
theorem dd_M_canBegin_71 : decode prog_9_method_26_code 71 = .ok (.istore_n 2, 1) := by decide +kernel
theorem dd_M_canBegin_72 : decode prog_9_method_26_code 72 = .ok (.iload_n 2, 1) := by decide +kernel
theorem dd_M_canBegin_73 : decode prog_9_method_26_code 73 = .ok (.aload_n 0, 1) := by decide +kernel
theorem dd_M_canBegin_74 : decode prog_9_method_26_code 74 = .ok (.getfield 100, 3) := by decide +kernel
theorem dd_M_canBegin_77 : decode prog_9_method_26_code 77 = .ok (.if_icmp .ge 44, 3) := by decide +kernel
theorem dd_M_canBegin_80 : decode prog_9_method_26_code 80 = .ok (.iconst 0, 1) := by decide +kernel
theorem dd_M_canBegin_81 : decode prog_9_method_26_code 81 = .ok (.istore_n 3, 1) := by decide +kernel
theorem dd_M_canBegin_82 : decode prog_9_method_26_code 82 = .ok (.iload_n 3, 1) := by decide +kernel
theorem dd_M_canBegin_83 : decode prog_9_method_26_code 83 = .ok (.aload_n 0, 1) := by decide +kernel
theorem dd_M_canBegin_84 : decode prog_9_method_26_code 84 = .ok (.getfield 17, 3) := by decide +kernel
theorem dd_M_canBegin_87 : decode prog_9_method_26_code 87 = .ok (.iload_n 2, 1) := by decide +kernel
theorem dd_M_canBegin_88 : decode prog_9_method_26_code 88 = .ok (.iaload, 1) := by decide +kernel
theorem dd_M_canBegin_89 : decode prog_9_method_26_code 89 = .ok (.if_icmp .gt 26, 3) := by decide +kernel
theorem dd_M_canBegin_92 : decode prog_9_method_26_code 92 = .ok (.aload_n 0, 1) := by decide +kernel
theorem dd_M_canBegin_93 : decode prog_9_method_26_code 93 = .ok (.getfield 47, 3) := by decide +kernel
theorem dd_M_canBegin_96 : decode prog_9_method_26_code 96 = .ok (.bipush 31, 2) := by decide +kernel
theorem dd_M_canBegin_98 : decode prog_9_method_26_code 98 = .ok (.bipush 7, 2) := by decide +kernel
theorem dd_M_canBegin_100 : decode prog_9_method_26_code 100 = .ok (.iload_n 2, 1) := by decide +kernel
theorem dd_M_canBegin_101 : decode prog_9_method_26_code 101 = .ok (.imul, 1) := by decide +kernel
theorem dd_M_canBegin_102 : decode prog_9_method_26_code 102 = .ok (.iload_n 3, 1) := by decide +kernel
theorem dd_M_canBegin_103 : decode prog_9_method_26_code 103 = .ok (.iadd, 1) := by decide +kernel
theorem dd_M_canBegin_104 : decode prog_9_method_26_code 104 = .ok (.imul, 1) := by decide +kernel
theorem dd_M_canBegin_105 : decode prog_9_method_26_code 105 = .ok (.iload_n 1, 1) := by decide +kernel
theorem dd_M_canBegin_106 : decode prog_9_method_26_code 106 = .ok (.iadd, 1) := by decide +kernel
theorem dd_M_canBegin_107 : decode prog_9_method_26_code 107 = .ok (.iconst 1, 1) := by decide +kernel
theorem dd_M_canBegin_108 : decode prog_9_method_26_code 108 = .ok (.bastore, 1) := by decide +kernel
theorem dd_M_canBegin_109 : decode prog_9_method_26_code 109 = .ok (.iinc 3 1, 3) := by decide +kernel
theorem dd_M_canBegin_112 : decode prog_9_method_26_code 112 = .ok (.goto (-30), 3) := by decide +kernel
theorem dd_M_canBegin_115 : decode prog_9_method_26_code 115 = .ok (.iinc 2 1, 3) := by decide +kernel
theorem dd_M_canBegin_118 : decode prog_9_method_26_code 118 = .ok (.goto (-46), 3) := by decide +kernel
theorem dd_M_canBegin_121 : decode prog_9_method_26_code 121 = .ok (.iload_n 1, 1) := by decide +kernel
theorem dd_M_canBegin_122 : decode prog_9_method_26_code 122 = .ok (.iconst 1, 1) := by decide +kernel
theorem dd_M_canBegin_123 : decode prog_9_method_26_code 123 = .ok (.isub, 1) := by decide +kernel
theorem dd_M_canBegin_124 : decode prog_9_method_26_code 124 = .ok (.istore_n 2, 1) := by decide +kernel
theorem dd_M_canBegin_125 : decode prog_9_method_26_code 125 = .ok (.iload_n 2, 1) := by decide +kernel
theorem dd_M_canBegin_126 : decode prog_9_method_26_code 126 = .ok (.ifCond .lt 121, 3) := by decide +kernel
theorem dd_M_canBegin_129 : decode prog_9_method_26_code 129 = .ok (.iconst 0, 1) := by decide +kernel
theorem dd_M_canBegin_130 : decode prog_9_method_26_code 130 = .ok (.istore_n 3, 1) := by decide +kernel
theorem dd_M_canBegin_131 : decode prog_9_method_26_code 131 = .ok (.iload_n 3, 1) := by decide +kernel
theorem dd_M_canBegin_132 : decode prog_9_method_26_code 132 = .ok (.bipush 11, 2) := by decide +kernel
theorem dd_M_canBegin_134 : decode prog_9_method_26_code 134 = .ok (.if_icmp .ge 45, 3) := by decide +kernel
theorem dd_M_canBegin_137 : decode prog_9_method_26_code 137 = .ok (.iconst 0, 1) := by decide +kernel
theorem dd_M_canBegin_138 : decode prog_9_method_26_code 138 = .ok (.istore 4, 2) := by decide +kernel
theorem dd_M_canBegin_140 : decode prog_9_method_26_code 140 = .ok (.iload 4, 2) := by decide +kernel
theorem dd_M_canBegin_142 : decode prog_9_method_26_code 142 = .ok (.bipush 11, 2) := by decide +kernel
theorem dd_M_canBegin_144 : decode prog_9_method_26_code 144 = .ok (.if_icmp .ge 29, 3) := by decide +kernel
theorem dd_M_canBegin_147 : decode prog_9_method_26_code 147 = .ok (.aload_n 0, 1) := by decide +kernel
theorem dd_M_canBegin_148 : decode prog_9_method_26_code 148 = .ok (.getfield 43, 3) := by decide +kernel
theorem dd_M_canBegin_151 : decode prog_9_method_26_code 151 = .ok (.bipush 31, 2) := by decide +kernel
theorem dd_M_canBegin_153 : decode prog_9_method_26_code 153 = .ok (.iload 4, 2) := by decide +kernel
theorem dd_M_canBegin_155 : decode prog_9_method_26_code 155 = .ok (.imul, 1) := by decide +kernel
theorem dd_M_canBegin_156 : decode prog_9_method_26_code 156 = .ok (.iload_n 2, 1) := by decide +kernel
theorem dd_M_canBegin_157 : decode prog_9_method_26_code 157 = .ok (.iadd, 1) := by decide +kernel
theorem dd_M_canBegin_158 : decode prog_9_method_26_code 158 = .ok (.aload_n 0, 1) := by decide +kernel
theorem dd_M_canBegin_159 : decode prog_9_method_26_code 159 = .ok (.iload 4, 2) := by decide +kernel
theorem dd_M_canBegin_161 : decode prog_9_method_26_code 161 = .ok (.iload_n 2, 1) := by decide +kernel
theorem dd_M_canBegin_162 : decode prog_9_method_26_code 162 = .ok (.iload_n 1, 1) := by decide +kernel
theorem dd_M_canBegin_163 : decode prog_9_method_26_code 163 = .ok (.invokevirtual 165, 3) := by decide +kernel
theorem dd_M_canBegin_166 : decode prog_9_method_26_code 166 = .ok (.bastore, 1) := by decide +kernel
theorem dd_M_canBegin_167 : decode prog_9_method_26_code 167 = .ok (.iinc 4 1, 3) := by decide +kernel
theorem dd_M_canBegin_170 : decode prog_9_method_26_code 170 = .ok (.goto (-30), 3) := by decide +kernel
theorem dd_M_canBegin_173 : decode prog_9_method_26_code 173 = .ok (.iinc 3 1, 3) := by decide +kernel
theorem dd_M_canBegin_176 : decode prog_9_method_26_code 176 = .ok (.goto (-45), 3) := by decide +kernel
theorem dd_M_canBegin_179 : decode prog_9_method_26_code 179 = .ok (.iconst 0, 1) := by decide +kernel
theorem dd_M_canBegin_180 : decode prog_9_method_26_code 180 = .ok (.istore_n 3, 1) := by decide +kernel
theorem dd_M_canBegin_181 : decode prog_9_method_26_code 181 = .ok (.iload_n 3, 1) := by decide +kernel
theorem dd_M_canBegin_182 : decode prog_9_method_26_code 182 = .ok (.aload_n 0, 1) := by decide +kernel
theorem dd_M_canBegin_183 : decode prog_9_method_26_code 183 = .ok (.getfield 100, 3) := by decide +kernel
theorem dd_M_canBegin_186 : decode prog_9_method_26_code 186 = .ok (.if_icmp .ge 55, 3) := by decide +kernel
theorem dd_M_canBegin_189 : decode prog_9_method_26_code 189 = .ok (.iconst 0, 1) := by decide +kernel
theorem dd_M_canBegin_190 : decode prog_9_method_26_code 190 = .ok (.istore 4, 2) := by decide +kernel
theorem dd_M_canBegin_192 : decode prog_9_method_26_code 192 = .ok (.iload 4, 2) := by decide +kernel
theorem dd_M_canBegin_194 : decode prog_9_method_26_code 194 = .ok (.aload_n 0, 1) := by decide +kernel
theorem dd_M_canBegin_195 : decode prog_9_method_26_code 195 = .ok (.getfield 17, 3) := by decide +kernel
theorem dd_M_canBegin_198 : decode prog_9_method_26_code 198 = .ok (.iload_n 3, 1) := by decide +kernel
theorem dd_M_canBegin_199 : decode prog_9_method_26_code 199 = .ok (.iaload, 1) := by decide +kernel
theorem dd_M_canBegin_200 : decode prog_9_method_26_code 200 = .ok (.if_icmp .gt 35, 3) := by decide +kernel
theorem dd_M_canBegin_203 : decode prog_9_method_26_code 203 = .ok (.aload_n 0, 1) := by decide +kernel
theorem dd_M_canBegin_204 : decode prog_9_method_26_code 204 = .ok (.getfield 47, 3) := by decide +kernel
theorem dd_M_canBegin_207 : decode prog_9_method_26_code 207 = .ok (.bipush 31, 2) := by decide +kernel
theorem dd_M_canBegin_209 : decode prog_9_method_26_code 209 = .ok (.bipush 7, 2) := by decide +kernel
theorem dd_M_canBegin_211 : decode prog_9_method_26_code 211 = .ok (.iload_n 3, 1) := by decide +kernel
theorem dd_M_canBegin_212 : decode prog_9_method_26_code 212 = .ok (.imul, 1) := by decide +kernel
theorem dd_M_canBegin_213 : decode prog_9_method_26_code 213 = .ok (.iload 4, 2) := by decide +kernel
theorem dd_M_canBegin_215 : decode prog_9_method_26_code 215 = .ok (.iadd, 1) := by decide +kernel
theorem dd_M_canBegin_216 : decode prog_9_method_26_code 216 = .ok (.imul, 1) := by decide +kernel
theorem dd_M_canBegin_217 : decode prog_9_method_26_code 217 = .ok (.iload_n 2, 1) := by decide +kernel
theorem dd_M_canBegin_218 : decode prog_9_method_26_code 218 = .ok (.iadd, 1) := by decide +kernel
theorem dd_M_canBegin_219 : decode prog_9_method_26_code 219 = .ok (.aload_n 0, 1) := by decide +kernel
theorem dd_M_canBegin_220 : decode prog_9_method_26_code 220 = .ok (.iload_n 3, 1) := by decide +kernel
theorem dd_M_canBegin_221 : decode prog_9_method_26_code 221 = .ok (.iload 4, 2) := by decide +kernel
theorem dd_M_canBegin_223 : decode prog_9_method_26_code 223 = .ok (.iload_n 2, 1) := by decide +kernel
theorem dd_M_canBegin_224 : decode prog_9_method_26_code 224 = .ok (.iload_n 1, 1) := by decide +kernel
theorem dd_M_canBegin_225 : decode prog_9_method_26_code 225 = .ok (.invokevirtual 161, 3) := by decide +kernel
theorem dd_M_canBegin_228 : decode prog_9_method_26_code 228 = .ok (.bastore, 1) := by decide +kernel
theorem dd_M_canBegin_229 : decode prog_9_method_26_code 229 = .ok (.iinc 4 1, 3) := by decide +kernel
theorem dd_M_canBegin_232 : decode prog_9_method_26_code 232 = .ok (.goto (-40), 3) := by decide +kernel
theorem dd_M_canBegin_235 : decode prog_9_method_26_code 235 = .ok (.iinc 3 1, 3) := by decide +kernel
theorem dd_M_canBegin_238 : decode prog_9_method_26_code 238 = .ok (.goto (-57), 3) := by decide +kernel
theorem dd_M_canBegin_241 : decode prog_9_method_26_code 241 = .ok (.iinc 2 (-1), 3) := by decide +kernel
theorem dd_M_canBegin_244 : decode prog_9_method_26_code 244 = .ok (.goto (-119), 3) := by decide +kernel
theorem dd_M_canBegin_247 : decode prog_9_method_26_code 247 = .ok (.aload_n 0, 1) := by decide +kernel
theorem dd_M_canBegin_248 : decode prog_9_method_26_code 248 = .ok (.getfield 43, 3) := by decide +kernel
theorem dd_M_canBegin_251 : decode prog_9_method_26_code 251 = .ok (.iconst 0, 1) := by decide +kernel
theorem dd_M_canBegin_252 : decode prog_9_method_26_code 252 = .ok (.baload, 1) := by decide +kernel
theorem dd_M_canBegin_253 : decode prog_9_method_26_code 253 = .ok (.ireturn, 1) := by decide +kernel
theorem dd_M_cell_0 : decode prog_9_method_20_code 0 = .ok (.iload_n 0, 1) := by decide +kernel
theorem dd_M_cell_1 : decode prog_9_method_20_code 1 = .ok (.bipush 31, 2) := by decide +kernel
theorem dd_M_cell_3 : decode prog_9_method_20_code 3 = .ok (.imul, 1) := by decide +kernel
theorem dd_M_cell_4 : decode prog_9_method_20_code 4 = .ok (.iload_n 1, 1) := by decide +kernel
theorem dd_M_cell_5 : decode prog_9_method_20_code 5 = .ok (.iadd, 1) := by decide +kernel
theorem dd_M_cell_6 : decode prog_9_method_20_code 6 = .ok (.bipush 31, 2) := by decide +kernel
theorem dd_M_cell_8 : decode prog_9_method_20_code 8 = .ok (.imul, 1) := by decide +kernel
theorem dd_M_cell_9 : decode prog_9_method_20_code 9 = .ok (.iload_n 2, 1) := by decide +kernel
theorem dd_M_cell_10 : decode prog_9_method_20_code 10 = .ok (.iadd, 1) := by decide +kernel
theorem dd_M_cell_11 : decode prog_9_method_20_code 11 = .ok (.ireturn, 1) := by decide +kernel
theorem dd_M_change_0 : decode prog_9_method_34_code 0 = .ok (.aload_n 0, 1) := by decide +kernel
theorem dd_M_change_1 : decode prog_9_method_34_code 1 = .ok (.getfield 62, 3) := by decide +kernel
theorem dd_M_change_4 : decode prog_9_method_34_code 4 = .ok (.iload_n 1, 1) := by decide +kernel
theorem dd_M_change_5 : decode prog_9_method_34_code 5 = .ok (.iaload, 1) := by decide +kernel
theorem dd_M_change_6 : decode prog_9_method_34_code 6 = .ok (.istore_n 3, 1) := by decide +kernel
theorem dd_M_change_7 : decode prog_9_method_34_code 7 = .ok (.aload_n 0, 1) := by decide +kernel
theorem dd_M_change_8 : decode prog_9_method_34_code 8 = .ok (.getfield 65, 3) := by decide +kernel
theorem dd_M_change_11 : decode prog_9_method_34_code 11 = .ok (.iload_n 1, 1) := by decide +kernel
theorem dd_M_change_12 : decode prog_9_method_34_code 12 = .ok (.iaload, 1) := by decide +kernel
theorem dd_M_change_13 : decode prog_9_method_34_code 13 = .ok (.istore 4, 2) := by decide +kernel
theorem dd_M_change_15 : decode prog_9_method_34_code 15 = .ok (.aload_n 0, 1) := by decide +kernel
theorem dd_M_change_16 : decode prog_9_method_34_code 16 = .ok (.getfield 68, 3) := by decide +kernel
theorem dd_M_change_19 : decode prog_9_method_34_code 19 = .ok (.iload_n 1, 1) := by decide +kernel
theorem dd_M_change_20 : decode prog_9_method_34_code 20 = .ok (.iaload, 1) := by decide +kernel
theorem dd_M_change_21 : decode prog_9_method_34_code 21 = .ok (.istore 5, 2) := by decide +kernel
theorem dd_M_change_23 : decode prog_9_method_34_code 23 = .ok (.aload_n 0, 1) := by decide +kernel
theorem dd_M_change_24 : decode prog_9_method_34_code 24 = .ok (.getfield 62, 3) := by decide +kernel
theorem dd_M_change_27 : decode prog_9_method_34_code 27 = .ok (.iload_n 1, 1) := by decide +kernel
theorem dd_M_change_28 : decode prog_9_method_34_code 28 = .ok (.aload_n 0, 1) := by decide +kernel
theorem dd_M_change_29 : decode prog_9_method_34_code 29 = .ok (.getfield 62, 3) := by decide +kernel
theorem dd_M_change_32 : decode prog_9_method_34_code 32 = .ok (.iload_n 2, 1) := by decide +kernel
theorem dd_M_change_33 : decode prog_9_method_34_code 33 = .ok (.iaload, 1) := by decide +kernel
theorem dd_M_change_34 : decode prog_9_method_34_code 34 = .ok (.iastore, 1) := by decide +kernel
theorem dd_M_change_35 : decode prog_9_method_34_code 35 = .ok (.aload_n 0, 1) := by decide +kernel
theorem dd_M_change_36 : decode prog_9_method_34_code 36 = .ok (.getfield 65, 3) := by decide +kernel
theorem dd_M_change_39 : decode prog_9_method_34_code 39 = .ok (.iload_n 1, 1) := by decide +kernel
theorem dd_M_change_40 : decode prog_9_method_34_code 40 = .ok (.aload_n 0, 1) := by decide +kernel
theorem dd_M_change_41 : decode prog_9_method_34_code 41 = .ok (.getfield 65, 3) := by decide +kernel
theorem dd_M_change_44 : decode prog_9_method_34_code 44 = .ok (.iload_n 2, 1) := by decide +kernel
theorem dd_M_change_45 : decode prog_9_method_34_code 45 = .ok (.iaload, 1) := by decide +kernel
theorem dd_M_change_46 : decode prog_9_method_34_code 46 = .ok (.iastore, 1) := by decide +kernel
theorem dd_M_change_47 : decode prog_9_method_34_code 47 = .ok (.aload_n 0, 1) := by decide +kernel
theorem dd_M_change_48 : decode prog_9_method_34_code 48 = .ok (.getfield 68, 3) := by decide +kernel
theorem dd_M_change_51 : decode prog_9_method_34_code 51 = .ok (.iload_n 1, 1) := by decide +kernel
theorem dd_M_change_52 : decode prog_9_method_34_code 52 = .ok (.aload_n 0, 1) := by decide +kernel
theorem dd_M_change_53 : decode prog_9_method_34_code 53 = .ok (.getfield 68, 3) := by decide +kernel
theorem dd_M_change_56 : decode prog_9_method_34_code 56 = .ok (.iload_n 2, 1) := by decide +kernel
theorem dd_M_change_57 : decode prog_9_method_34_code 57 = .ok (.iaload, 1) := by decide +kernel
theorem dd_M_change_58 : decode prog_9_method_34_code 58 = .ok (.iastore, 1) := by decide +kernel
theorem dd_M_change_59 : decode prog_9_method_34_code 59 = .ok (.aload_n 0, 1) := by decide +kernel
theorem dd_M_change_60 : decode prog_9_method_34_code 60 = .ok (.getfield 62, 3) := by decide +kernel
theorem dd_M_change_63 : decode prog_9_method_34_code 63 = .ok (.iload_n 2, 1) := by decide +kernel
theorem dd_M_change_64 : decode prog_9_method_34_code 64 = .ok (.iload_n 3, 1) := by decide +kernel
theorem dd_M_change_65 : decode prog_9_method_34_code 65 = .ok (.iastore, 1) := by decide +kernel
theorem dd_M_change_66 : decode prog_9_method_34_code 66 = .ok (.aload_n 0, 1) := by decide +kernel
theorem dd_M_change_67 : decode prog_9_method_34_code 67 = .ok (.getfield 65, 3) := by decide +kernel
theorem dd_M_change_70 : decode prog_9_method_34_code 70 = .ok (.iload_n 2, 1) := by decide +kernel
theorem dd_M_change_71 : decode prog_9_method_34_code 71 = .ok (.iload 4, 2) := by decide +kernel
theorem dd_M_change_73 : decode prog_9_method_34_code 73 = .ok (.iastore, 1) := by decide +kernel
theorem dd_M_change_74 : decode prog_9_method_34_code 74 = .ok (.aload_n 0, 1) := by decide +kernel
theorem dd_M_change_75 : decode prog_9_method_34_code 75 = .ok (.getfield 68, 3) := by decide +kernel
theorem dd_M_change_78 : decode prog_9_method_34_code 78 = .ok (.iload_n 2, 1) := by decide +kernel
theorem dd_M_change_79 : decode prog_9_method_34_code 79 = .ok (.iload 5, 2) := by decide +kernel
theorem dd_M_change_81 : decode prog_9_method_34_code 81 = .ok (.iastore, 1) := by decide +kernel
theorem dd_M_change_82 : decode prog_9_method_34_code 82 = .ok (.return_, 1) := by decide +kernel
theorem dd_M_childAt_0 : decode prog_9_method_37_code 0 = .ok (.iload_n 1, 1) := by decide +kernel
theorem dd_M_childAt_1 : decode prog_9_method_37_code 1 = .ok (.iconst 1, 1) := by decide +kernel
theorem dd_M_childAt_2 : decode prog_9_method_37_code 2 = .ok (.iadd, 1) := by decide +kernel
theorem dd_M_childAt_3 : decode prog_9_method_37_code 3 = .ok (.istore_n 3, 1) := by decide +kernel
theorem dd_M_childAt_4 : decode prog_9_method_37_code 4 = .ok (.aload_n 0, 1) := by decide +kernel
theorem dd_M_childAt_5 : decode prog_9_method_37_code 5 = .ok (.getfield 59, 3) := by decide +kernel
theorem dd_M_childAt_8 : decode prog_9_method_37_code 8 = .ok (.iload_n 3, 1) := by decide +kernel
theorem dd_M_childAt_9 : decode prog_9_method_37_code 9 = .ok (.iaload, 1) := by decide +kernel
theorem dd_M_childAt_10 : decode prog_9_method_37_code 10 = .ok (.iload_n 1, 1) := by decide +kernel
theorem dd_M_childAt_11 : decode prog_9_method_37_code 11 = .ok (.if_icmp .ne 13, 3) := by decide +kernel
theorem dd_M_childAt_14 : decode prog_9_method_37_code 14 = .ok (.aload_n 0, 1) := by decide +kernel
theorem dd_M_childAt_15 : decode prog_9_method_37_code 15 = .ok (.getfield 53, 3) := by decide +kernel
theorem dd_M_childAt_18 : decode prog_9_method_37_code 18 = .ok (.iload_n 3, 1) := by decide +kernel
theorem dd_M_childAt_19 : decode prog_9_method_37_code 19 = .ok (.iaload, 1) := by decide +kernel
theorem dd_M_childAt_20 : decode prog_9_method_37_code 20 = .ok (.iload_n 2, 1) := by decide +kernel
theorem dd_M_childAt_21 : decode prog_9_method_37_code 21 = .ok (.if_icmp .eq 9, 3) := by decide +kernel
theorem dd_M_childAt_24 : decode prog_9_method_37_code 24 = .ok (.iinc 3 1, 3) := by decide +kernel
theorem dd_M_childAt_27 : decode prog_9_method_37_code 27 = .ok (.goto (-23), 3) := by decide +kernel
theorem dd_M_childAt_30 : decode prog_9_method_37_code 30 = .ok (.iload_n 3, 1) := by decide +kernel
theorem dd_M_childAt_31 : decode prog_9_method_37_code 31 = .ok (.ireturn, 1) := by decide +kernel
theorem dd_M_children_0 : decode prog_9_method_35_code 0 = .ok (.iconst 0, 1) := by decide +kernel
theorem dd_M_children_1 : decode prog_9_method_35_code 1 = .ok (.istore_n 2, 1) := by decide +kernel
theorem dd_M_children_2 : decode prog_9_method_35_code 2 = .ok (.iload_n 1, 1) := by decide +kernel
theorem dd_M_children_3 : decode prog_9_method_35_code 3 = .ok (.iconst 1, 1) := by decide +kernel
theorem dd_M_children_4 : decode prog_9_method_35_code 4 = .ok (.iadd, 1) := by decide +kernel
theorem dd_M_children_5 : decode prog_9_method_35_code 5 = .ok (.istore_n 3, 1) := by decide +kernel
theorem dd_M_children_6 : decode prog_9_method_35_code 6 = .ok (.iload_n 3, 1) := by decide +kernel
theorem dd_M_children_7 : decode prog_9_method_35_code 7 = .ok (.aload_n 0, 1) := by decide +kernel
theorem dd_M_children_8 : decode prog_9_method_35_code 8 = .ok (.getfield 122, 3) := by decide +kernel
theorem dd_M_children_11 : decode prog_9_method_35_code 11 = .ok (.if_icmp .ge 27, 3) := by decide +kernel
theorem dd_M_children_14 : decode prog_9_method_35_code 14 = .ok (.iload_n 2, 1) := by decide +kernel
theorem dd_M_children_15 : decode prog_9_method_35_code 15 = .ok (.aload_n 0, 1) := by decide +kernel
theorem dd_M_children_16 : decode prog_9_method_35_code 16 = .ok (.getfield 59, 3) := by decide +kernel
theorem dd_M_children_19 : decode prog_9_method_35_code 19 = .ok (.iload_n 3, 1) := by decide +kernel
theorem dd_M_children_20 : decode prog_9_method_35_code 20 = .ok (.iaload, 1) := by decide +kernel
theorem dd_M_children_21 : decode prog_9_method_35_code 21 = .ok (.iload_n 1, 1) := by decide +kernel
theorem dd_M_children_22 : decode prog_9_method_35_code 22 = .ok (.if_icmp .ne 7, 3) := by decide +kernel
theorem dd_M_children_25 : decode prog_9_method_35_code 25 = .ok (.iconst 1, 1) := by decide +kernel
theorem dd_M_children_26 : decode prog_9_method_35_code 26 = .ok (.goto 4, 3) := by decide +kernel
theorem dd_M_children_29 : decode prog_9_method_35_code 29 = .ok (.iconst 0, 1) := by decide +kernel
theorem dd_M_children_30 : decode prog_9_method_35_code 30 = .ok (.iadd, 1) := by decide +kernel
theorem dd_M_children_31 : decode prog_9_method_35_code 31 = .ok (.istore_n 2, 1) := by decide +kernel
theorem dd_M_children_32 : decode prog_9_method_35_code 32 = .ok (.iinc 3 1, 3) := by decide +kernel
theorem dd_M_children_35 : decode prog_9_method_35_code 35 = .ok (.goto (-29), 3) := by decide +kernel
theorem dd_M_children_38 : decode prog_9_method_35_code 38 = .ok (.iload_n 2, 1) := by decide +kernel
theorem dd_M_children_39 : decode prog_9_method_35_code 39 = .ok (.ireturn, 1) := by decide +kernel
theorem dd_M_clear_0 : decode prog_9_method_15_code 0 = .ok (.aload_n 0, 1) := by decide +kernel
theorem dd_M_clear_1 : decode prog_9_method_15_code 1 = .ok (.iconst 0, 1) := by decide +kernel
theorem dd_M_clear_2 : decode prog_9_method_15_code 2 = .ok (.putfield 80, 3) := by decide +kernel
theorem dd_M_clear_5 : decode prog_9_method_15_code 5 = .ok (.aload_n 0, 1) := by decide +kernel
theorem dd_M_clear_6 : decode prog_9_method_15_code 6 = .ok (.iconst 0, 1) := by decide +kernel
theorem dd_M_clear_7 : decode prog_9_method_15_code 7 = .ok (.putfield 125, 3) := by decide +kernel
theorem dd_M_clear_10 : decode prog_9_method_15_code 10 = .ok (.return_, 1) := by decide +kernel
theorem dd_M_count_0 : decode prog_9_method_23_code 0 = .ok (.iconst 0, 1) := by decide +kernel
theorem dd_M_count_1 : decode prog_9_method_23_code 1 = .ok (.istore_n 1, 1) := by decide +kernel
theorem dd_M_count_2 : decode prog_9_method_23_code 2 = .ok (.iload_n 1, 1) := by decide +kernel
theorem dd_M_count_3 : decode prog_9_method_23_code 3 = .ok (.sipush 10571, 3) := by decide +kernel
theorem dd_M_count_6 : decode prog_9_method_23_code 6 = .ok (.if_icmp .ge 16, 3) := by decide +kernel
theorem dd_M_count_9 : decode prog_9_method_23_code 9 = .ok (.aload_n 0, 1) := by decide +kernel
theorem dd_M_count_10 : decode prog_9_method_23_code 10 = .ok (.getfield 36, 3) := by decide +kernel
theorem dd_M_count_13 : decode prog_9_method_23_code 13 = .ok (.iload_n 1, 1) := by decide +kernel
theorem dd_M_count_14 : decode prog_9_method_23_code 14 = .ok (.iconst 0, 1) := by decide +kernel
theorem dd_M_count_15 : decode prog_9_method_23_code 15 = .ok (.iastore, 1) := by decide +kernel
theorem dd_M_count_16 : decode prog_9_method_23_code 16 = .ok (.iinc 1 1, 3) := by decide +kernel
theorem dd_M_count_19 : decode prog_9_method_23_code 19 = .ok (.goto (-17), 3) := by decide +kernel
theorem dd_M_count_22 : decode prog_9_method_23_code 22 = .ok (.iconst 0, 1) := by decide +kernel
theorem dd_M_count_23 : decode prog_9_method_23_code 23 = .ok (.istore_n 1, 1) := by decide +kernel
theorem dd_M_count_24 : decode prog_9_method_23_code 24 = .ok (.iload_n 1, 1) := by decide +kernel
theorem dd_M_count_25 : decode prog_9_method_23_code 25 = .ok (.aload_n 0, 1) := by decide +kernel
theorem dd_M_count_26 : decode prog_9_method_23_code 26 = .ok (.getfield 128, 3) := by decide +kernel
theorem dd_M_count_29 : decode prog_9_method_23_code 29 = .ok (.if_icmp .gt 157, 3) := by decide +kernel
theorem dd_M_count_32 : decode prog_9_method_23_code 32 = .ok (.iconst 0, 1) := by decide +kernel
theorem dd_M_count_33 : decode prog_9_method_23_code 33 = .ok (.istore_n 2, 1) := by decide +kernel
theorem dd_M_count_34 : decode prog_9_method_23_code 34 = .ok (.iload_n 2, 1) := by decide +kernel
theorem dd_M_count_35 : decode prog_9_method_23_code 35 = .ok (.iload_n 1, 1) := by decide +kernel
theorem dd_M_count_36 : decode prog_9_method_23_code 36 = .ok (.iadd, 1) := by decide +kernel
theorem dd_M_count_37 : decode prog_9_method_23_code 37 = .ok (.aload_n 0, 1) := by decide +kernel
theorem dd_M_count_38 : decode prog_9_method_23_code 38 = .ok (.getfield 128, 3) := by decide +kernel
theorem dd_M_count_41 : decode prog_9_method_23_code 41 = .ok (.if_icmp .gt 139, 3) := by decide +kernel
theorem dd_M_count_44 : decode prog_9_method_23_code 44 = .ok (.iload_n 2, 1) := by decide +kernel
theorem dd_M_count_45 : decode prog_9_method_23_code 45 = .ok (.iload_n 1, 1) := by decide +kernel
theorem dd_M_count_46 : decode prog_9_method_23_code 46 = .ok (.iadd, 1) := by decide +kernel
theorem dd_M_count_47 : decode prog_9_method_23_code 47 = .ok (.istore_n 3, 1) := by decide +kernel
theorem dd_M_count_48 : decode prog_9_method_23_code 48 = .ok (.iconst 0, 1) := by decide +kernel
theorem dd_M_count_49 : decode prog_9_method_23_code 49 = .ok (.istore 4, 2) := by decide +kernel
theorem dd_M_count_51 : decode prog_9_method_23_code 51 = .ok (.iload 4, 2) := by decide +kernel
theorem dd_M_count_53 : decode prog_9_method_23_code 53 = .ok (.aload_n 0, 1) := by decide +kernel
theorem dd_M_count_54 : decode prog_9_method_23_code 54 = .ok (.getfield 100, 3) := by decide +kernel
theorem dd_M_count_57 : decode prog_9_method_23_code 57 = .ok (.if_icmp .ge 41, 3) := by decide +kernel
theorem dd_M_count_60 : decode prog_9_method_23_code 60 = .ok (.aload_n 0, 1) := by decide +kernel
theorem dd_M_count_61 : decode prog_9_method_23_code 61 = .ok (.getfield 40, 3) := by decide +kernel
theorem dd_M_count_64 : decode prog_9_method_23_code 64 = .ok (.bipush 7, 2) := by decide +kernel
theorem dd_M_count_66 : decode prog_9_method_23_code 66 = .ok (.iload 4, 2) := by decide +kernel
theorem dd_M_count_68 : decode prog_9_method_23_code 68 = .ok (.imul, 1) := by decide +kernel
theorem dd_M_count_69 : decode prog_9_method_23_code 69 = .ok (.iload_n 2, 1) := by decide +kernel
theorem dd_M_count_70 : decode prog_9_method_23_code 70 = .ok (.iload_n 3, 1) := by decide +kernel
theorem dd_M_count_71 : decode prog_9_method_23_code 71 = .ok (.invokestatic 138, 3) := by decide +kernel
theorem dd_M_count_74 : decode prog_9_method_23_code 74 = .ok (.iload_n 1, 1) := by decide +kernel
theorem dd_M_count_75 : decode prog_9_method_23_code 75 = .ok (.ifCond .ne 7, 3) := by decide +kernel
theorem dd_M_count_78 : decode prog_9_method_23_code 78 = .ok (.iconst 0, 1) := by decide +kernel
theorem dd_M_count_79 : decode prog_9_method_23_code 79 = .ok (.goto 12, 3) := by decide +kernel
theorem dd_M_count_82 : decode prog_9_method_23_code 82 = .ok (.aload_n 0, 1) := by decide +kernel
theorem dd_M_count_83 : decode prog_9_method_23_code 83 = .ok (.iload 4, 2) := by decide +kernel
theorem dd_M_count_85 : decode prog_9_method_23_code 85 = .ok (.iconst 0, 1) := by decide +kernel
theorem dd_M_count_86 : decode prog_9_method_23_code 86 = .ok (.iload_n 2, 1) := by decide +kernel
theorem dd_M_count_87 : decode prog_9_method_23_code 87 = .ok (.iload_n 3, 1) := by decide +kernel
theorem dd_M_count_88 : decode prog_9_method_23_code 88 = .ok (.invokevirtual 153, 3) := by decide +kernel
theorem dd_M_count_91 : decode prog_9_method_23_code 91 = .ok (.iastore, 1) := by decide +kernel
theorem dd_M_count_92 : decode prog_9_method_23_code 92 = .ok (.iinc 4 1, 3) := by decide +kernel
theorem dd_M_count_95 : decode prog_9_method_23_code 95 = .ok (.goto (-44), 3) := by decide +kernel
theorem dd_M_count_98 : decode prog_9_method_23_code 98 = .ok (.iload_n 1, 1) := by decide +kernel
theorem dd_M_count_99 : decode prog_9_method_23_code 99 = .ok (.ifCond .le 9, 3) := by decide +kernel
theorem dd_M_count_102 : decode prog_9_method_23_code 102 = .ok (.aload_n 0, 1) := by decide +kernel
theorem dd_M_count_103 : decode prog_9_method_23_code 103 = .ok (.iload_n 2, 1) := by decide +kernel
theorem dd_M_count_104 : decode prog_9_method_23_code 104 = .ok (.iload_n 3, 1) := by decide +kernel
theorem dd_M_count_105 : decode prog_9_method_23_code 105 = .ok (.invokevirtual 157, 3) := by decide +kernel
theorem dd_M_count_108 : decode prog_9_method_23_code 108 = .ok (.iconst 0, 1) := by decide +kernel
theorem dd_M_count_109 : decode prog_9_method_23_code 109 = .ok (.istore 4, 2) := by decide +kernel
theorem dd_M_count_111 : decode prog_9_method_23_code 111 = .ok (.iload 4, 2) := by decide +kernel
theorem dd_M_count_113 : decode prog_9_method_23_code 113 = .ok (.aload_n 0, 1) := by decide +kernel
theorem dd_M_count_114 : decode prog_9_method_23_code 114 = .ok (.getfield 100, 3) := by decide +kernel
theorem dd_M_count_117 : decode prog_9_method_23_code 117 = .ok (.if_icmp .ge 57, 3) := by decide +kernel
theorem dd_M_count_120 : decode prog_9_method_23_code 120 = .ok (.aload_n 0, 1) := by decide +kernel
theorem dd_M_count_121 : decode prog_9_method_23_code 121 = .ok (.getfield 17, 3) := by decide +kernel
theorem dd_M_count_124 : decode prog_9_method_23_code 124 = .ok (.iload 4, 2) := by decide +kernel
theorem dd_M_count_126 : decode prog_9_method_23_code 126 = .ok (.iaload, 1) := by decide +kernel
theorem dd_M_count_127 : decode prog_9_method_23_code 127 = .ok (.istore 5, 2) := by decide +kernel
theorem dd_M_count_129 : decode prog_9_method_23_code 129 = .ok (.iload 5, 2) := by decide +kernel
theorem dd_M_count_131 : decode prog_9_method_23_code 131 = .ok (.ifCond .le 37, 3) := by decide +kernel
theorem dd_M_count_134 : decode prog_9_method_23_code 134 = .ok (.aload_n 0, 1) := by decide +kernel
theorem dd_M_count_135 : decode prog_9_method_23_code 135 = .ok (.getfield 40, 3) := by decide +kernel
theorem dd_M_count_138 : decode prog_9_method_23_code 138 = .ok (.bipush 7, 2) := by decide +kernel
theorem dd_M_count_140 : decode prog_9_method_23_code 140 = .ok (.iload 4, 2) := by decide +kernel
theorem dd_M_count_142 : decode prog_9_method_23_code 142 = .ok (.imul, 1) := by decide +kernel
theorem dd_M_count_143 : decode prog_9_method_23_code 143 = .ok (.iload 5, 2) := by decide +kernel
theorem dd_M_count_145 : decode prog_9_method_23_code 145 = .ok (.iadd, 1) := by decide +kernel
theorem dd_M_count_146 : decode prog_9_method_23_code 146 = .ok (.iload_n 2, 1) := by decide +kernel
theorem dd_M_count_147 : decode prog_9_method_23_code 147 = .ok (.iload_n 3, 1) := by decide +kernel
theorem dd_M_count_148 : decode prog_9_method_23_code 148 = .ok (.invokestatic 138, 3) := by decide +kernel
theorem dd_M_count_151 : decode prog_9_method_23_code 151 = .ok (.aload_n 0, 1) := by decide +kernel
theorem dd_M_count_152 : decode prog_9_method_23_code 152 = .ok (.iload 4, 2) := by decide +kernel
theorem dd_M_count_154 : decode prog_9_method_23_code 154 = .ok (.iload 5, 2) := by decide +kernel
theorem dd_M_count_156 : decode prog_9_method_23_code 156 = .ok (.iload_n 2, 1) := by decide +kernel
theorem dd_M_count_157 : decode prog_9_method_23_code 157 = .ok (.iload_n 3, 1) := by decide +kernel
theorem dd_M_count_158 : decode prog_9_method_23_code 158 = .ok (.invokevirtual 153, 3) := by decide +kernel
theorem dd_M_count_161 : decode prog_9_method_23_code 161 = .ok (.iastore, 1) := by decide +kernel
theorem dd_M_count_162 : decode prog_9_method_23_code 162 = .ok (.iinc 5 (-1), 3) := by decide +kernel
theorem dd_M_count_165 : decode prog_9_method_23_code 165 = .ok (.goto (-36), 3) := by decide +kernel
theorem dd_M_count_168 : decode prog_9_method_23_code 168 = .ok (.iinc 4 1, 3) := by decide +kernel
theorem dd_M_count_171 : decode prog_9_method_23_code 171 = .ok (.goto (-60), 3) := by decide +kernel
theorem dd_M_count_174 : decode prog_9_method_23_code 174 = .ok (.iinc 2 1, 3) := by decide +kernel
theorem dd_M_count_177 : decode prog_9_method_23_code 177 = .ok (.goto (-143), 3) := by decide +kernel
theorem dd_M_count_180 : decode prog_9_method_23_code 180 = .ok (.iinc 1 1, 3) := by decide +kernel
theorem dd_M_count_183 : decode prog_9_method_23_code 183 = .ok (.goto (-159), 3) := by decide +kernel
theorem dd_M_count_186 : decode prog_9_method_23_code 186 = .ok (.return_, 1) := by decide +kernel
theorem dd_M_countTerms_0 : decode prog_9_method_22_code 0 = .ok (.iconst 0, 1) := by decide +kernel
theorem dd_M_countTerms_1 : decode prog_9_method_22_code 1 = .ok (.istore_n 3, 1) := by decide +kernel
theorem dd_M_countTerms_2 : decode prog_9_method_22_code 2 = .ok (.iload_n 3, 1) := by decide +kernel
theorem dd_M_countTerms_3 : decode prog_9_method_22_code 3 = .ok (.bipush 11, 2) := by decide +kernel
theorem dd_M_countTerms_5 : decode prog_9_method_22_code 5 = .ok (.if_icmp .ge 147, 3) := by decide +kernel
theorem dd_M_countTerms_8 : decode prog_9_method_22_code 8 = .ok (.iload_n 2, 1) := by decide +kernel
theorem dd_M_countTerms_9 : decode prog_9_method_22_code 9 = .ok (.iload_n 1, 1) := by decide +kernel
theorem dd_M_countTerms_10 : decode prog_9_method_22_code 10 = .ok (.iconst 1, 1) := by decide +kernel
theorem dd_M_countTerms_11 : decode prog_9_method_22_code 11 = .ok (.iadd, 1) := by decide +kernel
theorem dd_M_countTerms_12 : decode prog_9_method_22_code 12 = .ok (.if_icmp .ne 15, 3) := by decide +kernel
theorem dd_M_countTerms_15 : decode prog_9_method_22_code 15 = .ok (.aload_n 0, 1) := by decide +kernel
theorem dd_M_countTerms_16 : decode prog_9_method_22_code 16 = .ok (.iload_n 1, 1) := by decide +kernel
theorem dd_M_countTerms_17 : decode prog_9_method_22_code 17 = .ok (.invokevirtual 146, 3) := by decide +kernel
theorem dd_M_countTerms_20 : decode prog_9_method_22_code 20 = .ok (.ifCond .eq 7, 3) := by decide +kernel
theorem dd_M_countTerms_23 : decode prog_9_method_22_code 23 = .ok (.lconst 1, 1) := by decide +kernel
theorem dd_M_countTerms_24 : decode prog_9_method_22_code 24 = .ok (.goto 4, 3) := by decide +kernel
theorem dd_M_countTerms_27 : decode prog_9_method_22_code 27 = .ok (.lconst 0, 1) := by decide +kernel
theorem dd_M_countTerms_28 : decode prog_9_method_22_code 28 = .ok (.lstore 4, 2) := by decide +kernel
theorem dd_M_countTerms_30 : decode prog_9_method_22_code 30 = .ok (.iload_n 2, 1) := by decide +kernel
theorem dd_M_countTerms_31 : decode prog_9_method_22_code 31 = .ok (.iload_n 1, 1) := by decide +kernel
theorem dd_M_countTerms_32 : decode prog_9_method_22_code 32 = .ok (.iconst 2, 1) := by decide +kernel
theorem dd_M_countTerms_33 : decode prog_9_method_22_code 33 = .ok (.iadd, 1) := by decide +kernel
theorem dd_M_countTerms_34 : decode prog_9_method_22_code 34 = .ok (.if_icmp .le 46, 3) := by decide +kernel
theorem dd_M_countTerms_37 : decode prog_9_method_22_code 37 = .ok (.aload_n 0, 1) := by decide +kernel
theorem dd_M_countTerms_38 : decode prog_9_method_22_code 38 = .ok (.iload_n 1, 1) := by decide +kernel
theorem dd_M_countTerms_39 : decode prog_9_method_22_code 39 = .ok (.bipush 40, 2) := by decide +kernel
theorem dd_M_countTerms_41 : decode prog_9_method_22_code 41 = .ok (.invokevirtual 149, 3) := by decide +kernel
theorem dd_M_countTerms_44 : decode prog_9_method_22_code 44 = .ok (.ifCond .eq 36, 3) := by decide +kernel
theorem dd_M_countTerms_47 : decode prog_9_method_22_code 47 = .ok (.aload_n 0, 1) := by decide +kernel
theorem dd_M_countTerms_48 : decode prog_9_method_22_code 48 = .ok (.iload_n 2, 1) := by decide +kernel
theorem dd_M_countTerms_49 : decode prog_9_method_22_code 49 = .ok (.iconst 1, 1) := by decide +kernel
theorem dd_M_countTerms_50 : decode prog_9_method_22_code 50 = .ok (.isub, 1) := by decide +kernel
theorem dd_M_countTerms_51 : decode prog_9_method_22_code 51 = .ok (.bipush 41, 2) := by decide +kernel
theorem dd_M_countTerms_53 : decode prog_9_method_22_code 53 = .ok (.invokevirtual 149, 3) := by decide +kernel
theorem dd_M_countTerms_56 : decode prog_9_method_22_code 56 = .ok (.ifCond .eq 24, 3) := by decide +kernel
theorem dd_M_countTerms_59 : decode prog_9_method_22_code 59 = .ok (.lload 4, 2) := by decide +kernel
theorem dd_M_countTerms_61 : decode prog_9_method_22_code 61 = .ok (.aload_n 0, 1) := by decide +kernel
theorem dd_M_countTerms_62 : decode prog_9_method_22_code 62 = .ok (.getfield 36, 3) := by decide +kernel
theorem dd_M_countTerms_65 : decode prog_9_method_22_code 65 = .ok (.iconst 0, 1) := by decide +kernel
theorem dd_M_countTerms_66 : decode prog_9_method_22_code 66 = .ok (.iload_n 1, 1) := by decide +kernel
theorem dd_M_countTerms_67 : decode prog_9_method_22_code 67 = .ok (.iconst 1, 1) := by decide +kernel
theorem dd_M_countTerms_68 : decode prog_9_method_22_code 68 = .ok (.iadd, 1) := by decide +kernel
theorem dd_M_countTerms_69 : decode prog_9_method_22_code 69 = .ok (.iload_n 2, 1) := by decide +kernel
theorem dd_M_countTerms_70 : decode prog_9_method_22_code 70 = .ok (.iconst 1, 1) := by decide +kernel
theorem dd_M_countTerms_71 : decode prog_9_method_22_code 71 = .ok (.isub, 1) := by decide +kernel
theorem dd_M_countTerms_72 : decode prog_9_method_22_code 72 = .ok (.invokestatic 138, 3) := by decide +kernel
theorem dd_M_countTerms_75 : decode prog_9_method_22_code 75 = .ok (.iaload, 1) := by decide +kernel
theorem dd_M_countTerms_76 : decode prog_9_method_22_code 76 = .ok (.i2l, 1) := by decide +kernel
theorem dd_M_countTerms_77 : decode prog_9_method_22_code 77 = .ok (.ladd, 1) := by decide +kernel
theorem dd_M_countTerms_78 : decode prog_9_method_22_code 78 = .ok (.lstore 4, 2) := by decide +kernel
theorem dd_M_countTerms_80 : decode prog_9_method_22_code 80 = .ok (.iconst 0, 1) := by decide +kernel
theorem dd_M_countTerms_81 : decode prog_9_method_22_code 81 = .ok (.istore 6, 2) := by decide +kernel
theorem dd_M_countTerms_83 : decode prog_9_method_22_code 83 = .ok (.iload 6, 2) := by decide +kernel
theorem dd_M_countTerms_85 : decode prog_9_method_22_code 85 = .ok (.aload_n 0, 1) := by decide +kernel
theorem dd_M_countTerms_86 : decode prog_9_method_22_code 86 = .ok (.getfield 100, 3) := by decide +kernel
theorem dd_M_countTerms_89 : decode prog_9_method_22_code 89 = .ok (.if_icmp .ge 41, 3) := by decide +kernel
theorem dd_M_countTerms_92 : decode prog_9_method_22_code 92 = .ok (.aload_n 0, 1) := by decide +kernel
theorem dd_M_countTerms_93 : decode prog_9_method_22_code 93 = .ok (.getfield 20, 3) := by decide +kernel
theorem dd_M_countTerms_96 : decode prog_9_method_22_code 96 = .ok (.iload 6, 2) := by decide +kernel
theorem dd_M_countTerms_98 : decode prog_9_method_22_code 98 = .ok (.iaload, 1) := by decide +kernel
theorem dd_M_countTerms_99 : decode prog_9_method_22_code 99 = .ok (.iload_n 3, 1) := by decide +kernel
theorem dd_M_countTerms_100 : decode prog_9_method_22_code 100 = .ok (.if_icmp .lt 24, 3) := by decide +kernel
theorem dd_M_countTerms_103 : decode prog_9_method_22_code 103 = .ok (.lload 4, 2) := by decide +kernel
theorem dd_M_countTerms_105 : decode prog_9_method_22_code 105 = .ok (.aload_n 0, 1) := by decide +kernel
theorem dd_M_countTerms_106 : decode prog_9_method_22_code 106 = .ok (.getfield 40, 3) := by decide +kernel
theorem dd_M_countTerms_109 : decode prog_9_method_22_code 109 = .ok (.bipush 7, 2) := by decide +kernel
theorem dd_M_countTerms_111 : decode prog_9_method_22_code 111 = .ok (.iload 6, 2) := by decide +kernel
theorem dd_M_countTerms_113 : decode prog_9_method_22_code 113 = .ok (.imul, 1) := by decide +kernel
theorem dd_M_countTerms_114 : decode prog_9_method_22_code 114 = .ok (.iload_n 1, 1) := by decide +kernel
theorem dd_M_countTerms_115 : decode prog_9_method_22_code 115 = .ok (.iload_n 2, 1) := by decide +kernel
theorem dd_M_countTerms_116 : decode prog_9_method_22_code 116 = .ok (.invokestatic 138, 3) := by decide +kernel
theorem dd_M_countTerms_119 : decode prog_9_method_22_code 119 = .ok (.iaload, 1) := by decide +kernel
theorem dd_M_countTerms_120 : decode prog_9_method_22_code 120 = .ok (.i2l, 1) := by decide +kernel
theorem dd_M_countTerms_121 : decode prog_9_method_22_code 121 = .ok (.ladd, 1) := by decide +kernel
theorem dd_M_countTerms_122 : decode prog_9_method_22_code 122 = .ok (.lstore 4, 2) := by decide +kernel
theorem dd_M_countTerms_124 : decode prog_9_method_22_code 124 = .ok (.iinc 6 1, 3) := by decide +kernel
theorem dd_M_countTerms_127 : decode prog_9_method_22_code 127 = .ok (.goto (-44), 3) := by decide +kernel
theorem dd_M_countTerms_130 : decode prog_9_method_22_code 130 = .ok (.aload_n 0, 1) := by decide +kernel
theorem dd_M_countTerms_131 : decode prog_9_method_22_code 131 = .ok (.getfield 36, 3) := by decide +kernel
theorem dd_M_countTerms_134 : decode prog_9_method_22_code 134 = .ok (.iload_n 3, 1) := by decide +kernel
theorem dd_M_countTerms_135 : decode prog_9_method_22_code 135 = .ok (.iload_n 1, 1) := by decide +kernel
theorem dd_M_countTerms_136 : decode prog_9_method_22_code 136 = .ok (.iload_n 2, 1) := by decide +kernel
theorem dd_M_countTerms_137 : decode prog_9_method_22_code 137 = .ok (.invokestatic 138, 3) := by decide +kernel
theorem dd_M_countTerms_140 : decode prog_9_method_22_code 140 = .ok (.lload 4, 2) := by decide +kernel
theorem dd_M_countTerms_142 : decode prog_9_method_22_code 142 = .ok (.invokestatic 142, 3) := by decide +kernel
theorem dd_M_countTerms_145 : decode prog_9_method_22_code 145 = .ok (.iastore, 1) := by decide +kernel
theorem dd_M_countTerms_146 : decode prog_9_method_22_code 146 = .ok (.iinc 3 1, 3) := by decide +kernel
theorem dd_M_countTerms_149 : decode prog_9_method_22_code 149 = .ok (.goto (-147), 3) := by decide +kernel
theorem dd_M_countTerms_152 : decode prog_9_method_22_code 152 = .ok (.return_, 1) := by decide +kernel
theorem dd_M_fault_0 : decode prog_9_method_29_code 0 = .ok (.aload_n 0, 1) := by decide +kernel
theorem dd_M_fault_1 : decode prog_9_method_29_code 1 = .ok (.iconst 0, 1) := by decide +kernel
theorem dd_M_fault_2 : decode prog_9_method_29_code 2 = .ok (.putfield 80, 3) := by decide +kernel
theorem dd_M_fault_5 : decode prog_9_method_29_code 5 = .ok (.iload_n 1, 1) := by decide +kernel
theorem dd_M_fault_6 : decode prog_9_method_29_code 6 = .ok (.ifCond .ne 10, 3) := by decide +kernel
theorem dd_M_fault_9 : decode prog_9_method_29_code 9 = .ok (.aload_n 0, 1) := by decide +kernel
theorem dd_M_fault_10 : decode prog_9_method_29_code 10 = .ok (.getfield 169, 3) := by decide +kernel
theorem dd_M_fault_13 : decode prog_9_method_29_code 13 = .ok (.goto 16, 3) := by decide +kernel
theorem dd_M_fault_16 : decode prog_9_method_29_code 16 = .ok (.iload_n 1, 1) := by decide +kernel
theorem dd_M_fault_17 : decode prog_9_method_29_code 17 = .ok (.iconst 1, 1) := by decide +kernel
theorem dd_M_fault_18 : decode prog_9_method_29_code 18 = .ok (.if_icmp .ne 10, 3) := by decide +kernel
theorem dd_M_fault_21 : decode prog_9_method_29_code 21 = .ok (.aload_n 0, 1) := by decide +kernel
theorem dd_M_fault_22 : decode prog_9_method_29_code 22 = .ok (.getfield 26, 3) := by decide +kernel
theorem dd_M_fault_25 : decode prog_9_method_29_code 25 = .ok (.goto 4, 3) := by decide +kernel
theorem dd_M_fault_28 : decode prog_9_method_29_code 28 = .ok (.iconst (-1), 1) := by decide +kernel
theorem dd_M_fault_29 : decode prog_9_method_29_code 29 = .ok (.ireturn, 1) := by decide +kernel
theorem dd_M_faulty_0 : decode prog_9_method_27_code 0 = .ok (.aload_n 0, 1) := by decide +kernel
theorem dd_M_faulty_1 : decode prog_9_method_27_code 1 = .ok (.iload_n 1, 1) := by decide +kernel
theorem dd_M_faulty_2 : decode prog_9_method_27_code 2 = .ok (.putfield 169, 3) := by decide +kernel
theorem dd_M_faulty_5 : decode prog_9_method_27_code 5 = .ok (.aload_n 0, 1) := by decide +kernel
theorem dd_M_faulty_6 : decode prog_9_method_27_code 6 = .ok (.iload_n 2, 1) := by decide +kernel
theorem dd_M_faulty_7 : decode prog_9_method_27_code 7 = .ok (.putfield 26, 3) := by decide +kernel
theorem dd_M_faulty_10 : decode prog_9_method_27_code 10 = .ok (.aload_n 0, 1) := by decide +kernel
theorem dd_M_faulty_11 : decode prog_9_method_27_code 11 = .ok (.iconst 1, 1) := by decide +kernel
theorem dd_M_faulty_12 : decode prog_9_method_27_code 12 = .ok (.putfield 80, 3) := by decide +kernel
theorem dd_M_faulty_15 : decode prog_9_method_27_code 15 = .ok (.return_, 1) := by decide +kernel
theorem dd_M_fillHoles_0 : decode prog_9_method_33_code 0 = .ok (.aload_n 0, 1) := by decide +kernel
theorem dd_M_fillHoles_1 : decode prog_9_method_33_code 1 = .ok (.getfield 188, 3) := by decide +kernel
theorem dd_M_fillHoles_4 : decode prog_9_method_33_code 4 = .ok (.istore_n 2, 1) := by decide +kernel
theorem dd_M_fillHoles_5 : decode prog_9_method_33_code 5 = .ok (.aload_n 0, 1) := by decide +kernel
theorem dd_M_fillHoles_6 : decode prog_9_method_33_code 6 = .ok (.getfield 53, 3) := by decide +kernel
theorem dd_M_fillHoles_9 : decode prog_9_method_33_code 9 = .ok (.iload_n 1, 1) := by decide +kernel
theorem dd_M_fillHoles_10 : decode prog_9_method_33_code 10 = .ok (.iaload, 1) := by decide +kernel
theorem dd_M_fillHoles_11 : decode prog_9_method_33_code 11 = .ok (.istore_n 3, 1) := by decide +kernel
theorem dd_M_fillHoles_12 : decode prog_9_method_33_code 12 = .ok (.aload_n 0, 1) := by decide +kernel
theorem dd_M_fillHoles_13 : decode prog_9_method_33_code 13 = .ok (.getfield 53, 3) := by decide +kernel
theorem dd_M_fillHoles_16 : decode prog_9_method_33_code 16 = .ok (.iload_n 1, 1) := by decide +kernel
theorem dd_M_fillHoles_17 : decode prog_9_method_33_code 17 = .ok (.iaload, 1) := by decide +kernel
theorem dd_M_fillHoles_18 : decode prog_9_method_33_code 18 = .ok (.aload_n 0, 1) := by decide +kernel
theorem dd_M_fillHoles_19 : decode prog_9_method_33_code 19 = .ok (.getfield 56, 3) := by decide +kernel
theorem dd_M_fillHoles_22 : decode prog_9_method_33_code 22 = .ok (.iload_n 1, 1) := by decide +kernel
theorem dd_M_fillHoles_23 : decode prog_9_method_33_code 23 = .ok (.iaload, 1) := by decide +kernel
theorem dd_M_fillHoles_24 : decode prog_9_method_33_code 24 = .ok (.iadd, 1) := by decide +kernel
theorem dd_M_fillHoles_25 : decode prog_9_method_33_code 25 = .ok (.istore 4, 2) := by decide +kernel
theorem dd_M_fillHoles_27 : decode prog_9_method_33_code 27 = .ok (.iconst 0, 1) := by decide +kernel
theorem dd_M_fillHoles_28 : decode prog_9_method_33_code 28 = .ok (.istore 5, 2) := by decide +kernel
theorem dd_M_fillHoles_30 : decode prog_9_method_33_code 30 = .ok (.iload 5, 2) := by decide +kernel
theorem dd_M_fillHoles_32 : decode prog_9_method_33_code 32 = .ok (.aload_n 0, 1) := by decide +kernel
theorem dd_M_fillHoles_33 : decode prog_9_method_33_code 33 = .ok (.getfield 17, 3) := by decide +kernel
theorem dd_M_fillHoles_36 : decode prog_9_method_33_code 36 = .ok (.aload_n 0, 1) := by decide +kernel
theorem dd_M_fillHoles_37 : decode prog_9_method_33_code 37 = .ok (.getfield 50, 3) := by decide +kernel
theorem dd_M_fillHoles_40 : decode prog_9_method_33_code 40 = .ok (.iload_n 1, 1) := by decide +kernel
theorem dd_M_fillHoles_41 : decode prog_9_method_33_code 41 = .ok (.iaload, 1) := by decide +kernel
theorem dd_M_fillHoles_42 : decode prog_9_method_33_code 42 = .ok (.iaload, 1) := by decide +kernel
theorem dd_M_fillHoles_43 : decode prog_9_method_33_code 43 = .ok (.if_icmp .ge 114, 3) := by decide +kernel
theorem dd_M_fillHoles_46 : decode prog_9_method_33_code 46 = .ok (.bipush 7, 2) := by decide +kernel
theorem dd_M_fillHoles_48 : decode prog_9_method_33_code 48 = .ok (.aload_n 0, 1) := by decide +kernel
theorem dd_M_fillHoles_49 : decode prog_9_method_33_code 49 = .ok (.getfield 50, 3) := by decide +kernel
theorem dd_M_fillHoles_52 : decode prog_9_method_33_code 52 = .ok (.iload_n 1, 1) := by decide +kernel
theorem dd_M_fillHoles_53 : decode prog_9_method_33_code 53 = .ok (.iaload, 1) := by decide +kernel
theorem dd_M_fillHoles_54 : decode prog_9_method_33_code 54 = .ok (.imul, 1) := by decide +kernel
theorem dd_M_fillHoles_55 : decode prog_9_method_33_code 55 = .ok (.iload 5, 2) := by decide +kernel
theorem dd_M_fillHoles_57 : decode prog_9_method_33_code 57 = .ok (.iadd, 1) := by decide +kernel
theorem dd_M_fillHoles_58 : decode prog_9_method_33_code 58 = .ok (.istore 6, 2) := by decide +kernel
theorem dd_M_fillHoles_60 : decode prog_9_method_33_code 60 = .ok (.iload_n 3, 1) := by decide +kernel
theorem dd_M_fillHoles_61 : decode prog_9_method_33_code 61 = .ok (.iconst 1, 1) := by decide +kernel
theorem dd_M_fillHoles_62 : decode prog_9_method_33_code 62 = .ok (.iadd, 1) := by decide +kernel
theorem dd_M_fillHoles_63 : decode prog_9_method_33_code 63 = .ok (.istore 7, 2) := by decide +kernel
theorem dd_M_fillHoles_65 : decode prog_9_method_33_code 65 = .ok (.aload_n 0, 1) := by decide +kernel
theorem dd_M_fillHoles_66 : decode prog_9_method_33_code 66 = .ok (.getfield 7, 3) := by decide +kernel
theorem dd_M_fillHoles_69 : decode prog_9_method_33_code 69 = .ok (.iload 6, 2) := by decide +kernel
theorem dd_M_fillHoles_71 : decode prog_9_method_33_code 71 = .ok (.iaload, 1) := by decide +kernel
theorem dd_M_fillHoles_72 : decode prog_9_method_33_code 72 = .ok (.iconst (-1), 1) := by decide +kernel
theorem dd_M_fillHoles_73 : decode prog_9_method_33_code 73 = .ok (.if_icmp .eq 49, 3) := by decide +kernel
theorem dd_M_fillHoles_76 : decode prog_9_method_33_code 76 = .ok (.aload_n 0, 1) := by decide +kernel
theorem dd_M_fillHoles_77 : decode prog_9_method_33_code 77 = .ok (.getfield 36, 3) := by decide +kernel
theorem dd_M_fillHoles_80 : decode prog_9_method_33_code 80 = .ok (.aload_n 0, 1) := by decide +kernel
theorem dd_M_fillHoles_81 : decode prog_9_method_33_code 81 = .ok (.getfield 7, 3) := by decide +kernel
theorem dd_M_fillHoles_84 : decode prog_9_method_33_code 84 = .ok (.iload 6, 2) := by decide +kernel
theorem dd_M_fillHoles_86 : decode prog_9_method_33_code 86 = .ok (.iaload, 1) := by decide +kernel
theorem dd_M_fillHoles_87 : decode prog_9_method_33_code 87 = .ok (.iload_n 3, 1) := by decide +kernel
theorem dd_M_fillHoles_88 : decode prog_9_method_33_code 88 = .ok (.iload 7, 2) := by decide +kernel
theorem dd_M_fillHoles_90 : decode prog_9_method_33_code 90 = .ok (.invokestatic 138, 3) := by decide +kernel
theorem dd_M_fillHoles_93 : decode prog_9_method_33_code 93 = .ok (.iaload, 1) := by decide +kernel
theorem dd_M_fillHoles_94 : decode prog_9_method_33_code 94 = .ok (.ifCond .eq 22, 3) := by decide +kernel
theorem dd_M_fillHoles_97 : decode prog_9_method_33_code 97 = .ok (.aload_n 0, 1) := by decide +kernel
theorem dd_M_fillHoles_98 : decode prog_9_method_33_code 98 = .ok (.getfield 40, 3) := by decide +kernel
theorem dd_M_fillHoles_101 : decode prog_9_method_33_code 101 = .ok (.iload 6, 2) := by decide +kernel
theorem dd_M_fillHoles_103 : decode prog_9_method_33_code 103 = .ok (.iconst 1, 1) := by decide +kernel
theorem dd_M_fillHoles_104 : decode prog_9_method_33_code 104 = .ok (.iadd, 1) := by decide +kernel
theorem dd_M_fillHoles_105 : decode prog_9_method_33_code 105 = .ok (.iload 7, 2) := by decide +kernel
theorem dd_M_fillHoles_107 : decode prog_9_method_33_code 107 = .ok (.iload 4, 2) := by decide +kernel
theorem dd_M_fillHoles_109 : decode prog_9_method_33_code 109 = .ok (.invokestatic 138, 3) := by decide +kernel
theorem dd_M_fillHoles_112 : decode prog_9_method_33_code 112 = .ok (.iaload, 1) := by decide +kernel
theorem dd_M_fillHoles_113 : decode prog_9_method_33_code 113 = .ok (.ifCond .ne 9, 3) := by decide +kernel
theorem dd_M_fillHoles_116 : decode prog_9_method_33_code 116 = .ok (.iinc 7 1, 3) := by decide +kernel
theorem dd_M_fillHoles_119 : decode prog_9_method_33_code 119 = .ok (.goto (-54), 3) := by decide +kernel
theorem dd_M_fillHoles_122 : decode prog_9_method_33_code 122 = .ok (.aload_n 0, 1) := by decide +kernel
theorem dd_M_fillHoles_123 : decode prog_9_method_33_code 123 = .ok (.getfield 7, 3) := by decide +kernel
theorem dd_M_fillHoles_126 : decode prog_9_method_33_code 126 = .ok (.iload 6, 2) := by decide +kernel
theorem dd_M_fillHoles_128 : decode prog_9_method_33_code 128 = .ok (.iaload, 1) := by decide +kernel
theorem dd_M_fillHoles_129 : decode prog_9_method_33_code 129 = .ok (.iconst (-1), 1) := by decide +kernel
theorem dd_M_fillHoles_130 : decode prog_9_method_33_code 130 = .ok (.if_icmp .eq 18, 3) := by decide +kernel
theorem dd_M_fillHoles_133 : decode prog_9_method_33_code 133 = .ok (.aload_n 0, 1) := by decide +kernel
theorem dd_M_fillHoles_134 : decode prog_9_method_33_code 134 = .ok (.aload_n 0, 1) := by decide +kernel
theorem dd_M_fillHoles_135 : decode prog_9_method_33_code 135 = .ok (.getfield 7, 3) := by decide +kernel
theorem dd_M_fillHoles_138 : decode prog_9_method_33_code 138 = .ok (.iload 6, 2) := by decide +kernel
theorem dd_M_fillHoles_140 : decode prog_9_method_33_code 140 = .ok (.iaload, 1) := by decide +kernel
theorem dd_M_fillHoles_141 : decode prog_9_method_33_code 141 = .ok (.iload_n 3, 1) := by decide +kernel
theorem dd_M_fillHoles_142 : decode prog_9_method_33_code 142 = .ok (.iload 7, 2) := by decide +kernel
theorem dd_M_fillHoles_144 : decode prog_9_method_33_code 144 = .ok (.iload_n 1, 1) := by decide +kernel
theorem dd_M_fillHoles_145 : decode prog_9_method_33_code 145 = .ok (.invokevirtual 191, 3) := by decide +kernel
theorem dd_M_fillHoles_148 : decode prog_9_method_33_code 148 = .ok (.iload 7, 2) := by decide +kernel
theorem dd_M_fillHoles_150 : decode prog_9_method_33_code 150 = .ok (.istore_n 3, 1) := by decide +kernel
theorem dd_M_fillHoles_151 : decode prog_9_method_33_code 151 = .ok (.iinc 5 1, 3) := by decide +kernel
theorem dd_M_fillHoles_154 : decode prog_9_method_33_code 154 = .ok (.goto (-124), 3) := by decide +kernel
theorem dd_M_fillHoles_157 : decode prog_9_method_33_code 157 = .ok (.iload_n 2, 1) := by decide +kernel
theorem dd_M_fillHoles_158 : decode prog_9_method_33_code 158 = .ok (.istore 5, 2) := by decide +kernel
theorem dd_M_fillHoles_160 : decode prog_9_method_33_code 160 = .ok (.aload_n 0, 1) := by decide +kernel
theorem dd_M_fillHoles_161 : decode prog_9_method_33_code 161 = .ok (.getfield 188, 3) := by decide +kernel
theorem dd_M_fillHoles_164 : decode prog_9_method_33_code 164 = .ok (.iconst 1, 1) := by decide +kernel
theorem dd_M_fillHoles_165 : decode prog_9_method_33_code 165 = .ok (.isub, 1) := by decide +kernel
theorem dd_M_fillHoles_166 : decode prog_9_method_33_code 166 = .ok (.istore 6, 2) := by decide +kernel
theorem dd_M_fillHoles_168 : decode prog_9_method_33_code 168 = .ok (.iload 5, 2) := by decide +kernel
theorem dd_M_fillHoles_170 : decode prog_9_method_33_code 170 = .ok (.iload 6, 2) := by decide +kernel
theorem dd_M_fillHoles_172 : decode prog_9_method_33_code 172 = .ok (.if_icmp .ge 20, 3) := by decide +kernel
theorem dd_M_fillHoles_175 : decode prog_9_method_33_code 175 = .ok (.aload_n 0, 1) := by decide +kernel
theorem dd_M_fillHoles_176 : decode prog_9_method_33_code 176 = .ok (.iload 5, 2) := by decide +kernel
theorem dd_M_fillHoles_178 : decode prog_9_method_33_code 178 = .ok (.iload 6, 2) := by decide +kernel
theorem dd_M_fillHoles_180 : decode prog_9_method_33_code 180 = .ok (.invokevirtual 202, 3) := by decide +kernel
theorem dd_M_fillHoles_183 : decode prog_9_method_33_code 183 = .ok (.iinc 5 1, 3) := by decide +kernel
theorem dd_M_fillHoles_186 : decode prog_9_method_33_code 186 = .ok (.iinc 6 (-1), 3) := by decide +kernel
theorem dd_M_fillHoles_189 : decode prog_9_method_33_code 189 = .ok (.goto (-21), 3) := by decide +kernel
theorem dd_M_fillHoles_192 : decode prog_9_method_33_code 192 = .ok (.return_, 1) := by decide +kernel
theorem dd_M_grow_0 : decode prog_9_method_31_code 0 = .ok (.aload_n 0, 1) := by decide +kernel
theorem dd_M_grow_1 : decode prog_9_method_31_code 1 = .ok (.iconst 0, 1) := by decide +kernel
theorem dd_M_grow_2 : decode prog_9_method_31_code 2 = .ok (.putfield 188, 3) := by decide +kernel
theorem dd_M_grow_5 : decode prog_9_method_31_code 5 = .ok (.aload_n 0, 1) := by decide +kernel
theorem dd_M_grow_6 : decode prog_9_method_31_code 6 = .ok (.iconst 0, 1) := by decide +kernel
theorem dd_M_grow_7 : decode prog_9_method_31_code 7 = .ok (.iconst 0, 1) := by decide +kernel
theorem dd_M_grow_8 : decode prog_9_method_31_code 8 = .ok (.aload_n 0, 1) := by decide +kernel
theorem dd_M_grow_9 : decode prog_9_method_31_code 9 = .ok (.getfield 128, 3) := by decide +kernel
theorem dd_M_grow_12 : decode prog_9_method_31_code 12 = .ok (.iconst (-1), 1) := by decide +kernel
theorem dd_M_grow_13 : decode prog_9_method_31_code 13 = .ok (.invokevirtual 191, 3) := by decide +kernel
theorem dd_M_grow_16 : decode prog_9_method_31_code 16 = .ok (.aload_n 0, 1) := by decide +kernel
theorem dd_M_grow_17 : decode prog_9_method_31_code 17 = .ok (.getfield 188, 3) := by decide +kernel
theorem dd_M_grow_20 : decode prog_9_method_31_code 20 = .ok (.ifCond .le 174, 3) := by decide +kernel
theorem dd_M_grow_23 : decode prog_9_method_31_code 23 = .ok (.aload_n 0, 1) := by decide +kernel
theorem dd_M_grow_24 : decode prog_9_method_31_code 24 = .ok (.dup, 1) := by decide +kernel
theorem dd_M_grow_25 : decode prog_9_method_31_code 25 = .ok (.getfield 188, 3) := by decide +kernel
theorem dd_M_grow_28 : decode prog_9_method_31_code 28 = .ok (.iconst 1, 1) := by decide +kernel
theorem dd_M_grow_29 : decode prog_9_method_31_code 29 = .ok (.isub, 1) := by decide +kernel
theorem dd_M_grow_30 : decode prog_9_method_31_code 30 = .ok (.putfield 188, 3) := by decide +kernel
theorem dd_M_grow_33 : decode prog_9_method_31_code 33 = .ok (.aload_n 0, 1) := by decide +kernel
theorem dd_M_grow_34 : decode prog_9_method_31_code 34 = .ok (.getfield 122, 3) := by decide +kernel
theorem dd_M_grow_37 : decode prog_9_method_31_code 37 = .ok (.istore_n 1, 1) := by decide +kernel
theorem dd_M_grow_38 : decode prog_9_method_31_code 38 = .ok (.aload_n 0, 1) := by decide +kernel
theorem dd_M_grow_39 : decode prog_9_method_31_code 39 = .ok (.dup, 1) := by decide +kernel
theorem dd_M_grow_40 : decode prog_9_method_31_code 40 = .ok (.getfield 122, 3) := by decide +kernel
theorem dd_M_grow_43 : decode prog_9_method_31_code 43 = .ok (.iconst 1, 1) := by decide +kernel
theorem dd_M_grow_44 : decode prog_9_method_31_code 44 = .ok (.iadd, 1) := by decide +kernel
theorem dd_M_grow_45 : decode prog_9_method_31_code 45 = .ok (.putfield 122, 3) := by decide +kernel
theorem dd_M_grow_48 : decode prog_9_method_31_code 48 = .ok (.aload_n 0, 1) := by decide +kernel
theorem dd_M_grow_49 : decode prog_9_method_31_code 49 = .ok (.getfield 53, 3) := by decide +kernel
theorem dd_M_grow_52 : decode prog_9_method_31_code 52 = .ok (.iload_n 1, 1) := by decide +kernel
theorem dd_M_grow_53 : decode prog_9_method_31_code 53 = .ok (.aload_n 0, 1) := by decide +kernel
theorem dd_M_grow_54 : decode prog_9_method_31_code 54 = .ok (.getfield 65, 3) := by decide +kernel
theorem dd_M_grow_57 : decode prog_9_method_31_code 57 = .ok (.aload_n 0, 1) := by decide +kernel
theorem dd_M_grow_58 : decode prog_9_method_31_code 58 = .ok (.getfield 188, 3) := by decide +kernel
theorem dd_M_grow_61 : decode prog_9_method_31_code 61 = .ok (.iaload, 1) := by decide +kernel
theorem dd_M_grow_62 : decode prog_9_method_31_code 62 = .ok (.iastore, 1) := by decide +kernel
theorem dd_M_grow_63 : decode prog_9_method_31_code 63 = .ok (.aload_n 0, 1) := by decide +kernel
theorem dd_M_grow_64 : decode prog_9_method_31_code 64 = .ok (.getfield 56, 3) := by decide +kernel
theorem dd_M_grow_67 : decode prog_9_method_31_code 67 = .ok (.iload_n 1, 1) := by decide +kernel
theorem dd_M_grow_68 : decode prog_9_method_31_code 68 = .ok (.aload_n 0, 1) := by decide +kernel
theorem dd_M_grow_69 : decode prog_9_method_31_code 69 = .ok (.getfield 68, 3) := by decide +kernel
theorem dd_M_grow_72 : decode prog_9_method_31_code 72 = .ok (.aload_n 0, 1) := by decide +kernel
theorem dd_M_grow_73 : decode prog_9_method_31_code 73 = .ok (.getfield 188, 3) := by decide +kernel
theorem dd_M_grow_76 : decode prog_9_method_31_code 76 = .ok (.iaload, 1) := by decide +kernel
theorem dd_M_grow_77 : decode prog_9_method_31_code 77 = .ok (.aload_n 0, 1) := by decide +kernel
theorem dd_M_grow_78 : decode prog_9_method_31_code 78 = .ok (.getfield 65, 3) := by decide +kernel
theorem dd_M_grow_81 : decode prog_9_method_31_code 81 = .ok (.aload_n 0, 1) := by decide +kernel
theorem dd_M_grow_82 : decode prog_9_method_31_code 82 = .ok (.getfield 188, 3) := by decide +kernel
theorem dd_M_grow_85 : decode prog_9_method_31_code 85 = .ok (.iaload, 1) := by decide +kernel
theorem dd_M_grow_86 : decode prog_9_method_31_code 86 = .ok (.isub, 1) := by decide +kernel
theorem dd_M_grow_87 : decode prog_9_method_31_code 87 = .ok (.iastore, 1) := by decide +kernel
theorem dd_M_grow_88 : decode prog_9_method_31_code 88 = .ok (.aload_n 0, 1) := by decide +kernel
theorem dd_M_grow_89 : decode prog_9_method_31_code 89 = .ok (.getfield 59, 3) := by decide +kernel
theorem dd_M_grow_92 : decode prog_9_method_31_code 92 = .ok (.iload_n 1, 1) := by decide +kernel
theorem dd_M_grow_93 : decode prog_9_method_31_code 93 = .ok (.aload_n 0, 1) := by decide +kernel
theorem dd_M_grow_94 : decode prog_9_method_31_code 94 = .ok (.getfield 71, 3) := by decide +kernel
theorem dd_M_grow_97 : decode prog_9_method_31_code 97 = .ok (.aload_n 0, 1) := by decide +kernel
theorem dd_M_grow_98 : decode prog_9_method_31_code 98 = .ok (.getfield 188, 3) := by decide +kernel
end
section
theorem dd_M_grow_101 : decode prog_9_method_31_code 101 = .ok (.iaload, 1) := by decide +kernel
theorem dd_M_grow_102 : decode prog_9_method_31_code 102 = .ok (.iastore, 1) := by decide +kernel
theorem dd_M_grow_103 : decode prog_9_method_31_code 103 = .ok (.aload_n 0, 1) := by decide +kernel
theorem dd_M_grow_104 : decode prog_9_method_31_code 104 = .ok (.getfield 50, 3) := by decide +kernel
theorem dd_M_grow_107 : decode prog_9_method_31_code 107 = .ok (.iload_n 1, 1) := by decide +kernel
theorem dd_M_grow_108 : decode prog_9_method_31_code 108 = .ok (.aload_n 0, 1) := by decide +kernel
theorem dd_M_grow_109 : decode prog_9_method_31_code 109 = .ok (.aload_n 0, 1) := by decide +kernel
theorem dd_M_grow_110 : decode prog_9_method_31_code 110 = .ok (.getfield 62, 3) := by decide +kernel
theorem dd_M_grow_113 : decode prog_9_method_31_code 113 = .ok (.aload_n 0, 1) := by decide +kernel
theorem dd_M_grow_114 : decode prog_9_method_31_code 114 = .ok (.getfield 188, 3) := by decide +kernel
theorem dd_M_grow_117 : decode prog_9_method_31_code 117 = .ok (.iaload, 1) := by decide +kernel
theorem dd_M_grow_118 : decode prog_9_method_31_code 118 = .ok (.aload_n 0, 1) := by decide +kernel
theorem dd_M_grow_119 : decode prog_9_method_31_code 119 = .ok (.getfield 53, 3) := by decide +kernel
theorem dd_M_grow_122 : decode prog_9_method_31_code 122 = .ok (.iload_n 1, 1) := by decide +kernel
theorem dd_M_grow_123 : decode prog_9_method_31_code 123 = .ok (.iaload, 1) := by decide +kernel
theorem dd_M_grow_124 : decode prog_9_method_31_code 124 = .ok (.aload_n 0, 1) := by decide +kernel
theorem dd_M_grow_125 : decode prog_9_method_31_code 125 = .ok (.getfield 68, 3) := by decide +kernel
theorem dd_M_grow_128 : decode prog_9_method_31_code 128 = .ok (.aload_n 0, 1) := by decide +kernel
theorem dd_M_grow_129 : decode prog_9_method_31_code 129 = .ok (.getfield 188, 3) := by decide +kernel
theorem dd_M_grow_132 : decode prog_9_method_31_code 132 = .ok (.iaload, 1) := by decide +kernel
theorem dd_M_grow_133 : decode prog_9_method_31_code 133 = .ok (.invokevirtual 195, 3) := by decide +kernel
theorem dd_M_grow_136 : decode prog_9_method_31_code 136 = .ok (.iastore, 1) := by decide +kernel
theorem dd_M_grow_137 : decode prog_9_method_31_code 137 = .ok (.aload_n 0, 1) := by decide +kernel
theorem dd_M_grow_138 : decode prog_9_method_31_code 138 = .ok (.getfield 50, 3) := by decide +kernel
theorem dd_M_grow_141 : decode prog_9_method_31_code 141 = .ok (.iload_n 1, 1) := by decide +kernel
theorem dd_M_grow_142 : decode prog_9_method_31_code 142 = .ok (.iaload, 1) := by decide +kernel
theorem dd_M_grow_143 : decode prog_9_method_31_code 143 = .ok (.bipush (-2), 2) := by decide +kernel
theorem dd_M_grow_145 : decode prog_9_method_31_code 145 = .ok (.if_icmp .ne 32, 3) := by decide +kernel
theorem dd_M_grow_148 : decode prog_9_method_31_code 148 = .ok (.aload_n 0, 1) := by decide +kernel
theorem dd_M_grow_149 : decode prog_9_method_31_code 149 = .ok (.iconst 0, 1) := by decide +kernel
theorem dd_M_grow_150 : decode prog_9_method_31_code 150 = .ok (.aload_n 0, 1) := by decide +kernel
theorem dd_M_grow_151 : decode prog_9_method_31_code 151 = .ok (.getfield 53, 3) := by decide +kernel
theorem dd_M_grow_154 : decode prog_9_method_31_code 154 = .ok (.iload_n 1, 1) := by decide +kernel
theorem dd_M_grow_155 : decode prog_9_method_31_code 155 = .ok (.iaload, 1) := by decide +kernel
theorem dd_M_grow_156 : decode prog_9_method_31_code 156 = .ok (.iconst 1, 1) := by decide +kernel
theorem dd_M_grow_157 : decode prog_9_method_31_code 157 = .ok (.iadd, 1) := by decide +kernel
theorem dd_M_grow_158 : decode prog_9_method_31_code 158 = .ok (.aload_n 0, 1) := by decide +kernel
theorem dd_M_grow_159 : decode prog_9_method_31_code 159 = .ok (.getfield 53, 3) := by decide +kernel
theorem dd_M_grow_162 : decode prog_9_method_31_code 162 = .ok (.iload_n 1, 1) := by decide +kernel
theorem dd_M_grow_163 : decode prog_9_method_31_code 163 = .ok (.iaload, 1) := by decide +kernel
theorem dd_M_grow_164 : decode prog_9_method_31_code 164 = .ok (.aload_n 0, 1) := by decide +kernel
theorem dd_M_grow_165 : decode prog_9_method_31_code 165 = .ok (.getfield 56, 3) := by decide +kernel
theorem dd_M_grow_168 : decode prog_9_method_31_code 168 = .ok (.iload_n 1, 1) := by decide +kernel
theorem dd_M_grow_169 : decode prog_9_method_31_code 169 = .ok (.iaload, 1) := by decide +kernel
theorem dd_M_grow_170 : decode prog_9_method_31_code 170 = .ok (.iadd, 1) := by decide +kernel
theorem dd_M_grow_171 : decode prog_9_method_31_code 171 = .ok (.iconst 1, 1) := by decide +kernel
theorem dd_M_grow_172 : decode prog_9_method_31_code 172 = .ok (.isub, 1) := by decide +kernel
theorem dd_M_grow_173 : decode prog_9_method_31_code 173 = .ok (.iload_n 1, 1) := by decide +kernel
theorem dd_M_grow_174 : decode prog_9_method_31_code 174 = .ok (.invokevirtual 191, 3) := by decide +kernel
theorem dd_M_grow_177 : decode prog_9_method_31_code 177 = .ok (.aload_n 0, 1) := by decide +kernel
theorem dd_M_grow_178 : decode prog_9_method_31_code 178 = .ok (.getfield 50, 3) := by decide +kernel
theorem dd_M_grow_181 : decode prog_9_method_31_code 181 = .ok (.iload_n 1, 1) := by decide +kernel
theorem dd_M_grow_182 : decode prog_9_method_31_code 182 = .ok (.iaload, 1) := by decide +kernel
theorem dd_M_grow_183 : decode prog_9_method_31_code 183 = .ok (.ifCond .lt 8, 3) := by decide +kernel
theorem dd_M_grow_186 : decode prog_9_method_31_code 186 = .ok (.aload_n 0, 1) := by decide +kernel
theorem dd_M_grow_187 : decode prog_9_method_31_code 187 = .ok (.iload_n 1, 1) := by decide +kernel
theorem dd_M_grow_188 : decode prog_9_method_31_code 188 = .ok (.invokevirtual 198, 3) := by decide +kernel
theorem dd_M_grow_191 : decode prog_9_method_31_code 191 = .ok (.goto (-175), 3) := by decide +kernel
theorem dd_M_grow_194 : decode prog_9_method_31_code 194 = .ok (.return_, 1) := by decide +kernel
theorem dd_M_hole_0 : decode prog_9_method_11_code 0 = .ok (.aload_n 0, 1) := by decide +kernel
theorem dd_M_hole_1 : decode prog_9_method_11_code 1 = .ok (.getfield 103, 3) := by decide +kernel
theorem dd_M_hole_4 : decode prog_9_method_11_code 4 = .ok (.ifCond .le 25, 3) := by decide +kernel
theorem dd_M_hole_7 : decode prog_9_method_11_code 7 = .ok (.aload_n 0, 1) := by decide +kernel
theorem dd_M_hole_8 : decode prog_9_method_11_code 8 = .ok (.getfield 7, 3) := by decide +kernel
theorem dd_M_hole_11 : decode prog_9_method_11_code 11 = .ok (.bipush 84, 2) := by decide +kernel
theorem dd_M_hole_13 : decode prog_9_method_11_code 13 = .ok (.aload_n 0, 1) := by decide +kernel
theorem dd_M_hole_14 : decode prog_9_method_11_code 14 = .ok (.getfield 103, 3) := by decide +kernel
theorem dd_M_hole_17 : decode prog_9_method_11_code 17 = .ok (.iadd, 1) := by decide +kernel
theorem dd_M_hole_18 : decode prog_9_method_11_code 18 = .ok (.iconst 1, 1) := by decide +kernel
theorem dd_M_hole_19 : decode prog_9_method_11_code 19 = .ok (.isub, 1) := by decide +kernel
theorem dd_M_hole_20 : decode prog_9_method_11_code 20 = .ok (.iaload, 1) := by decide +kernel
theorem dd_M_hole_21 : decode prog_9_method_11_code 21 = .ok (.iconst (-1), 1) := by decide +kernel
theorem dd_M_hole_22 : decode prog_9_method_11_code 22 = .ok (.if_icmp .eq 7, 3) := by decide +kernel
theorem dd_M_hole_25 : decode prog_9_method_11_code 25 = .ok (.iconst 1, 1) := by decide +kernel
theorem dd_M_hole_26 : decode prog_9_method_11_code 26 = .ok (.goto 4, 3) := by decide +kernel
theorem dd_M_hole_29 : decode prog_9_method_11_code 29 = .ok (.iconst 0, 1) := by decide +kernel
theorem dd_M_hole_30 : decode prog_9_method_11_code 30 = .ok (.istore_n 2, 1) := by decide +kernel
theorem dd_M_hole_31 : decode prog_9_method_11_code 31 = .ok (.aload_n 0, 1) := by decide +kernel
theorem dd_M_hole_32 : decode prog_9_method_11_code 32 = .ok (.iload_n 1, 1) := by decide +kernel
theorem dd_M_hole_33 : decode prog_9_method_11_code 33 = .ok (.ifCond .lt 13, 3) := by decide +kernel
theorem dd_M_hole_36 : decode prog_9_method_11_code 36 = .ok (.iload_n 1, 1) := by decide +kernel
theorem dd_M_hole_37 : decode prog_9_method_11_code 37 = .ok (.bipush 10, 2) := by decide +kernel
theorem dd_M_hole_39 : decode prog_9_method_11_code 39 = .ok (.if_icmp .gt 7, 3) := by decide +kernel
theorem dd_M_hole_42 : decode prog_9_method_11_code 42 = .ok (.iload_n 2, 1) := by decide +kernel
theorem dd_M_hole_43 : decode prog_9_method_11_code 43 = .ok (.ifCond .eq 7, 3) := by decide +kernel
theorem dd_M_hole_46 : decode prog_9_method_11_code 46 = .ok (.iconst 1, 1) := by decide +kernel
theorem dd_M_hole_47 : decode prog_9_method_11_code 47 = .ok (.goto 17, 3) := by decide +kernel
theorem dd_M_hole_50 : decode prog_9_method_11_code 50 = .ok (.aload_n 0, 1) := by decide +kernel
theorem dd_M_hole_51 : decode prog_9_method_11_code 51 = .ok (.getfield 103, 3) := by decide +kernel
theorem dd_M_hole_54 : decode prog_9_method_11_code 54 = .ok (.bipush 6, 2) := by decide +kernel
theorem dd_M_hole_56 : decode prog_9_method_11_code 56 = .ok (.if_icmp .ne 7, 3) := by decide +kernel
theorem dd_M_hole_59 : decode prog_9_method_11_code 59 = .ok (.iconst 2, 1) := by decide +kernel
theorem dd_M_hole_60 : decode prog_9_method_11_code 60 = .ok (.goto 4, 3) := by decide +kernel
theorem dd_M_hole_63 : decode prog_9_method_11_code 63 = .ok (.iconst 0, 1) := by decide +kernel
theorem dd_M_hole_64 : decode prog_9_method_11_code 64 = .ok (.putfield 80, 3) := by decide +kernel
theorem dd_M_hole_67 : decode prog_9_method_11_code 67 = .ok (.aload_n 0, 1) := by decide +kernel
theorem dd_M_hole_68 : decode prog_9_method_11_code 68 = .ok (.getfield 80, 3) := by decide +kernel
theorem dd_M_hole_71 : decode prog_9_method_11_code 71 = .ok (.ifCond .le 7, 3) := by decide +kernel
theorem dd_M_hole_74 : decode prog_9_method_11_code 74 = .ok (.iconst 0, 1) := by decide +kernel
theorem dd_M_hole_75 : decode prog_9_method_11_code 75 = .ok (.goto 9, 3) := by decide +kernel
theorem dd_M_hole_78 : decode prog_9_method_11_code 78 = .ok (.aload_n 0, 1) := by decide +kernel
theorem dd_M_hole_79 : decode prog_9_method_11_code 79 = .ok (.iload_n 1, 1) := by decide +kernel
theorem dd_M_hole_80 : decode prog_9_method_11_code 80 = .ok (.lconst 0, 1) := by decide +kernel
theorem dd_M_hole_81 : decode prog_9_method_11_code 81 = .ok (.invokevirtual 106, 3) := by decide +kernel
theorem dd_M_hole_84 : decode prog_9_method_11_code 84 = .ok (.ireturn, 1) := by decide +kernel
theorem dd_M_is_0 : decode prog_9_method_18_code 0 = .ok (.iload_n 1, 1) := by decide +kernel
theorem dd_M_is_1 : decode prog_9_method_18_code 1 = .ok (.aload_n 0, 1) := by decide +kernel
theorem dd_M_is_2 : decode prog_9_method_18_code 2 = .ok (.getfield 128, 3) := by decide +kernel
theorem dd_M_is_5 : decode prog_9_method_18_code 5 = .ok (.if_icmp .ge 19, 3) := by decide +kernel
theorem dd_M_is_8 : decode prog_9_method_18_code 8 = .ok (.aload_n 0, 1) := by decide +kernel
theorem dd_M_is_9 : decode prog_9_method_18_code 9 = .ok (.getfield 30, 3) := by decide +kernel
theorem dd_M_is_12 : decode prog_9_method_18_code 12 = .ok (.iload_n 1, 1) := by decide +kernel
theorem dd_M_is_13 : decode prog_9_method_18_code 13 = .ok (.laload, 1) := by decide +kernel
theorem dd_M_is_14 : decode prog_9_method_18_code 14 = .ok (.iload_n 2, 1) := by decide +kernel
theorem dd_M_is_15 : decode prog_9_method_18_code 15 = .ok (.i2l, 1) := by decide +kernel
theorem dd_M_is_16 : decode prog_9_method_18_code 16 = .ok (.lcmp, 1) := by decide +kernel
theorem dd_M_is_17 : decode prog_9_method_18_code 17 = .ok (.ifCond .ne 7, 3) := by decide +kernel
theorem dd_M_is_20 : decode prog_9_method_18_code 20 = .ok (.iconst 1, 1) := by decide +kernel
theorem dd_M_is_21 : decode prog_9_method_18_code 21 = .ok (.goto 4, 3) := by decide +kernel
theorem dd_M_is_24 : decode prog_9_method_18_code 24 = .ok (.iconst 0, 1) := by decide +kernel
theorem dd_M_is_25 : decode prog_9_method_18_code 25 = .ok (.ireturn, 1) := by decide +kernel
theorem dd_M_isAtom_0 : decode prog_9_method_17_code 0 = .ok (.aload_n 0, 1) := by decide +kernel
theorem dd_M_isAtom_1 : decode prog_9_method_17_code 1 = .ok (.getfield 30, 3) := by decide +kernel
theorem dd_M_isAtom_4 : decode prog_9_method_17_code 4 = .ok (.iload_n 1, 1) := by decide +kernel
theorem dd_M_isAtom_5 : decode prog_9_method_17_code 5 = .ok (.laload, 1) := by decide +kernel
theorem dd_M_isAtom_6 : decode prog_9_method_17_code 6 = .ok (.ldc2_w 90, 3) := by decide +kernel
theorem dd_M_isAtom_9 : decode prog_9_method_17_code 9 = .ok (.land, 1) := by decide +kernel
theorem dd_M_isAtom_10 : decode prog_9_method_17_code 10 = .ok (.l2i, 1) := by decide +kernel
theorem dd_M_isAtom_11 : decode prog_9_method_17_code 11 = .ok (.invokestatic 96, 3) := by decide +kernel
theorem dd_M_isAtom_14 : decode prog_9_method_17_code 14 = .ok (.istore_n 2, 1) := by decide +kernel
theorem dd_M_isAtom_15 : decode prog_9_method_17_code 15 = .ok (.iload_n 2, 1) := by decide +kernel
theorem dd_M_isAtom_16 : decode prog_9_method_17_code 16 = .ok (.ifCond .le 25, 3) := by decide +kernel
theorem dd_M_isAtom_19 : decode prog_9_method_17_code 19 = .ok (.iload_n 2, 1) := by decide +kernel
theorem dd_M_isAtom_20 : decode prog_9_method_17_code 20 = .ok (.iconst 3, 1) := by decide +kernel
theorem dd_M_isAtom_21 : decode prog_9_method_17_code 21 = .ok (.if_icmp .ge 20, 3) := by decide +kernel
theorem dd_M_isAtom_24 : decode prog_9_method_17_code 24 = .ok (.aload_n 0, 1) := by decide +kernel
theorem dd_M_isAtom_25 : decode prog_9_method_17_code 25 = .ok (.aload_n 0, 1) := by decide +kernel
theorem dd_M_isAtom_26 : decode prog_9_method_17_code 26 = .ok (.getfield 30, 3) := by decide +kernel
theorem dd_M_isAtom_29 : decode prog_9_method_17_code 29 = .ok (.iload_n 1, 1) := by decide +kernel
theorem dd_M_isAtom_30 : decode prog_9_method_17_code 30 = .ok (.laload, 1) := by decide +kernel
theorem dd_M_isAtom_31 : decode prog_9_method_17_code 31 = .ok (.invokevirtual 131, 3) := by decide +kernel
theorem dd_M_isAtom_34 : decode prog_9_method_17_code 34 = .ok (.ifCond .ne 7, 3) := by decide +kernel
theorem dd_M_isAtom_37 : decode prog_9_method_17_code 37 = .ok (.iconst 1, 1) := by decide +kernel
theorem dd_M_isAtom_38 : decode prog_9_method_17_code 38 = .ok (.goto 4, 3) := by decide +kernel
theorem dd_M_isAtom_41 : decode prog_9_method_17_code 41 = .ok (.iconst 0, 1) := by decide +kernel
theorem dd_M_isAtom_42 : decode prog_9_method_17_code 42 = .ok (.ireturn, 1) := by decide +kernel
theorem dd_M_isDigit_0 : decode prog_9_method_4_code 0 = .ok (.iload_n 0, 1) := by decide +kernel
theorem dd_M_isDigit_1 : decode prog_9_method_4_code 1 = .ok (.bipush 48, 2) := by decide +kernel
theorem dd_M_isDigit_3 : decode prog_9_method_4_code 3 = .ok (.if_icmp .lt 13, 3) := by decide +kernel
theorem dd_M_isDigit_6 : decode prog_9_method_4_code 6 = .ok (.iload_n 0, 1) := by decide +kernel
theorem dd_M_isDigit_7 : decode prog_9_method_4_code 7 = .ok (.bipush 57, 2) := by decide +kernel
theorem dd_M_isDigit_9 : decode prog_9_method_4_code 9 = .ok (.if_icmp .gt 7, 3) := by decide +kernel
theorem dd_M_isDigit_12 : decode prog_9_method_4_code 12 = .ok (.iconst 1, 1) := by decide +kernel
theorem dd_M_isDigit_13 : decode prog_9_method_4_code 13 = .ok (.goto 4, 3) := by decide +kernel
theorem dd_M_isDigit_16 : decode prog_9_method_4_code 16 = .ok (.iconst 0, 1) := by decide +kernel
theorem dd_M_isDigit_17 : decode prog_9_method_4_code 17 = .ok (.ireturn, 1) := by decide +kernel
theorem dd_M_isKey_0 : decode prog_9_method_43_code 0 = .ok (.aload_n 0, 1) := by decide +kernel
theorem dd_M_isKey_1 : decode prog_9_method_43_code 1 = .ok (.iconst 0, 1) := by decide +kernel
theorem dd_M_isKey_2 : decode prog_9_method_43_code 2 = .ok (.putfield 80, 3) := by decide +kernel
theorem dd_M_isKey_5 : decode prog_9_method_43_code 5 = .ok (.lload_n 1, 1) := by decide +kernel
theorem dd_M_isKey_6 : decode prog_9_method_43_code 6 = .ok (.iload_n 3, 1) := by decide +kernel
theorem dd_M_isKey_7 : decode prog_9_method_43_code 7 = .ok (.invokestatic 110, 3) := by decide +kernel
theorem dd_M_isKey_10 : decode prog_9_method_43_code 10 = .ok (.ifCond .eq 19, 3) := by decide +kernel
theorem dd_M_isKey_13 : decode prog_9_method_43_code 13 = .ok (.aload_n 0, 1) := by decide +kernel
theorem dd_M_isKey_14 : decode prog_9_method_43_code 14 = .ok (.lload_n 1, 1) := by decide +kernel
theorem dd_M_isKey_15 : decode prog_9_method_43_code 15 = .ok (.iload_n 3, 1) := by decide +kernel
theorem dd_M_isKey_16 : decode prog_9_method_43_code 16 = .ok (.invokestatic 114, 3) := by decide +kernel
theorem dd_M_isKey_19 : decode prog_9_method_43_code 19 = .ok (.invokevirtual 131, 3) := by decide +kernel
theorem dd_M_isKey_22 : decode prog_9_method_43_code 22 = .ok (.ifCond .eq 7, 3) := by decide +kernel
theorem dd_M_isKey_25 : decode prog_9_method_43_code 25 = .ok (.iconst 1, 1) := by decide +kernel
theorem dd_M_isKey_26 : decode prog_9_method_43_code 26 = .ok (.goto 4, 3) := by decide +kernel
theorem dd_M_isKey_29 : decode prog_9_method_43_code 29 = .ok (.iconst 0, 1) := by decide +kernel
theorem dd_M_isKey_30 : decode prog_9_method_43_code 30 = .ok (.ireturn, 1) := by decide +kernel
theorem dd_M_isKeyWord_0 : decode prog_9_method_9_code 0 = .ok (.iconst 0, 1) := by decide +kernel
theorem dd_M_isKeyWord_1 : decode prog_9_method_9_code 1 = .ok (.istore_n 3, 1) := by decide +kernel
theorem dd_M_isKeyWord_2 : decode prog_9_method_9_code 2 = .ok (.iconst 0, 1) := by decide +kernel
theorem dd_M_isKeyWord_3 : decode prog_9_method_9_code 3 = .ok (.istore 4, 2) := by decide +kernel
theorem dd_M_isKeyWord_5 : decode prog_9_method_9_code 5 = .ok (.iload 4, 2) := by decide +kernel
theorem dd_M_isKeyWord_7 : decode prog_9_method_9_code 7 = .ok (.aload_n 0, 1) := by decide +kernel
theorem dd_M_isKeyWord_8 : decode prog_9_method_9_code 8 = .ok (.getfield 100, 3) := by decide +kernel
theorem dd_M_isKeyWord_11 : decode prog_9_method_9_code 11 = .ok (.if_icmp .ge 75, 3) := by decide +kernel
theorem dd_M_isKeyWord_14 : decode prog_9_method_9_code 14 = .ok (.iconst 0, 1) := by decide +kernel
theorem dd_M_isKeyWord_15 : decode prog_9_method_9_code 15 = .ok (.istore 5, 2) := by decide +kernel
theorem dd_M_isKeyWord_17 : decode prog_9_method_9_code 17 = .ok (.iload 5, 2) := by decide +kernel
theorem dd_M_isKeyWord_19 : decode prog_9_method_9_code 19 = .ok (.aload_n 0, 1) := by decide +kernel
theorem dd_M_isKeyWord_20 : decode prog_9_method_9_code 20 = .ok (.getfield 17, 3) := by decide +kernel
theorem dd_M_isKeyWord_23 : decode prog_9_method_9_code 23 = .ok (.iload 4, 2) := by decide +kernel
theorem dd_M_isKeyWord_25 : decode prog_9_method_9_code 25 = .ok (.iaload, 1) := by decide +kernel
theorem dd_M_isKeyWord_26 : decode prog_9_method_9_code 26 = .ok (.if_icmp .ge 54, 3) := by decide +kernel
theorem dd_M_isKeyWord_29 : decode prog_9_method_9_code 29 = .ok (.iload_n 3, 1) := by decide +kernel
theorem dd_M_isKeyWord_30 : decode prog_9_method_9_code 30 = .ok (.ifCond .ne 38, 3) := by decide +kernel
theorem dd_M_isKeyWord_33 : decode prog_9_method_9_code 33 = .ok (.aload_n 0, 1) := by decide +kernel
theorem dd_M_isKeyWord_34 : decode prog_9_method_9_code 34 = .ok (.getfield 7, 3) := by decide +kernel
theorem dd_M_isKeyWord_37 : decode prog_9_method_9_code 37 = .ok (.bipush 7, 2) := by decide +kernel
theorem dd_M_isKeyWord_39 : decode prog_9_method_9_code 39 = .ok (.iload 4, 2) := by decide +kernel
theorem dd_M_isKeyWord_41 : decode prog_9_method_9_code 41 = .ok (.imul, 1) := by decide +kernel
theorem dd_M_isKeyWord_42 : decode prog_9_method_9_code 42 = .ok (.iload 5, 2) := by decide +kernel
theorem dd_M_isKeyWord_44 : decode prog_9_method_9_code 44 = .ok (.iadd, 1) := by decide +kernel
theorem dd_M_isKeyWord_45 : decode prog_9_method_9_code 45 = .ok (.iaload, 1) := by decide +kernel
theorem dd_M_isKeyWord_46 : decode prog_9_method_9_code 46 = .ok (.iconst (-1), 1) := by decide +kernel
theorem dd_M_isKeyWord_47 : decode prog_9_method_9_code 47 = .ok (.if_icmp .ne 25, 3) := by decide +kernel
theorem dd_M_isKeyWord_50 : decode prog_9_method_9_code 50 = .ok (.aload_n 0, 1) := by decide +kernel
theorem dd_M_isKeyWord_51 : decode prog_9_method_9_code 51 = .ok (.getfield 13, 3) := by decide +kernel
theorem dd_M_isKeyWord_54 : decode prog_9_method_9_code 54 = .ok (.bipush 7, 2) := by decide +kernel
theorem dd_M_isKeyWord_56 : decode prog_9_method_9_code 56 = .ok (.iload 4, 2) := by decide +kernel
theorem dd_M_isKeyWord_58 : decode prog_9_method_9_code 58 = .ok (.imul, 1) := by decide +kernel
theorem dd_M_isKeyWord_59 : decode prog_9_method_9_code 59 = .ok (.iload 5, 2) := by decide +kernel
theorem dd_M_isKeyWord_61 : decode prog_9_method_9_code 61 = .ok (.iadd, 1) := by decide +kernel
theorem dd_M_isKeyWord_62 : decode prog_9_method_9_code 62 = .ok (.laload, 1) := by decide +kernel
theorem dd_M_isKeyWord_63 : decode prog_9_method_9_code 63 = .ok (.lload_n 1, 1) := by decide +kernel
theorem dd_M_isKeyWord_64 : decode prog_9_method_9_code 64 = .ok (.lcmp, 1) := by decide +kernel
theorem dd_M_isKeyWord_65 : decode prog_9_method_9_code 65 = .ok (.ifCond .ne 7, 3) := by decide +kernel
theorem dd_M_isKeyWord_68 : decode prog_9_method_9_code 68 = .ok (.iconst 1, 1) := by decide +kernel
theorem dd_M_isKeyWord_69 : decode prog_9_method_9_code 69 = .ok (.goto 4, 3) := by decide +kernel
theorem dd_M_isKeyWord_72 : decode prog_9_method_9_code 72 = .ok (.iconst 0, 1) := by decide +kernel
theorem dd_M_isKeyWord_73 : decode prog_9_method_9_code 73 = .ok (.istore_n 3, 1) := by decide +kernel
theorem dd_M_isKeyWord_74 : decode prog_9_method_9_code 74 = .ok (.iinc 5 1, 3) := by decide +kernel
theorem dd_M_isKeyWord_77 : decode prog_9_method_9_code 77 = .ok (.goto (-60), 3) := by decide +kernel
theorem dd_M_isKeyWord_80 : decode prog_9_method_9_code 80 = .ok (.iinc 4 1, 3) := by decide +kernel
theorem dd_M_isKeyWord_83 : decode prog_9_method_9_code 83 = .ok (.goto (-78), 3) := by decide +kernel
theorem dd_M_isKeyWord_86 : decode prog_9_method_9_code 86 = .ok (.iload_n 3, 1) := by decide +kernel
theorem dd_M_isKeyWord_87 : decode prog_9_method_9_code 87 = .ok (.ireturn, 1) := by decide +kernel
theorem dd_M_isLetter_0 : decode prog_9_method_3_code 0 = .ok (.iload_n 0, 1) := by decide +kernel
theorem dd_M_isLetter_1 : decode prog_9_method_3_code 1 = .ok (.bipush 97, 2) := by decide +kernel
theorem dd_M_isLetter_3 : decode prog_9_method_3_code 3 = .ok (.if_icmp .lt 9, 3) := by decide +kernel
theorem dd_M_isLetter_6 : decode prog_9_method_3_code 6 = .ok (.iload_n 0, 1) := by decide +kernel
theorem dd_M_isLetter_7 : decode prog_9_method_3_code 7 = .ok (.bipush 122, 2) := by decide +kernel
theorem dd_M_isLetter_9 : decode prog_9_method_3_code 9 = .ok (.if_icmp .le 15, 3) := by decide +kernel
theorem dd_M_isLetter_12 : decode prog_9_method_3_code 12 = .ok (.iload_n 0, 1) := by decide +kernel
theorem dd_M_isLetter_13 : decode prog_9_method_3_code 13 = .ok (.bipush 65, 2) := by decide +kernel
theorem dd_M_isLetter_15 : decode prog_9_method_3_code 15 = .ok (.if_icmp .lt 13, 3) := by decide +kernel
theorem dd_M_isLetter_18 : decode prog_9_method_3_code 18 = .ok (.iload_n 0, 1) := by decide +kernel
theorem dd_M_isLetter_19 : decode prog_9_method_3_code 19 = .ok (.bipush 90, 2) := by decide +kernel
theorem dd_M_isLetter_21 : decode prog_9_method_3_code 21 = .ok (.if_icmp .gt 7, 3) := by decide +kernel
theorem dd_M_isLetter_24 : decode prog_9_method_3_code 24 = .ok (.iconst 1, 1) := by decide +kernel
theorem dd_M_isLetter_25 : decode prog_9_method_3_code 25 = .ok (.goto 4, 3) := by decide +kernel
theorem dd_M_isLetter_28 : decode prog_9_method_3_code 28 = .ok (.iconst 0, 1) := by decide +kernel
theorem dd_M_isLetter_29 : decode prog_9_method_3_code 29 = .ok (.ireturn, 1) := by decide +kernel
theorem dd_M_isWord_0 : decode prog_9_method_8_code 0 = .ok (.iload_n 2, 1) := by decide +kernel
theorem dd_M_isWord_1 : decode prog_9_method_8_code 1 = .ok (.iconst 1, 1) := by decide +kernel
theorem dd_M_isWord_2 : decode prog_9_method_8_code 2 = .ok (.if_icmp .lt 9, 3) := by decide +kernel
theorem dd_M_isWord_5 : decode prog_9_method_8_code 5 = .ok (.iload_n 2, 1) := by decide +kernel
theorem dd_M_isWord_6 : decode prog_9_method_8_code 6 = .ok (.bipush 8, 2) := by decide +kernel
theorem dd_M_isWord_8 : decode prog_9_method_8_code 8 = .ok (.if_icmp .le 5, 3) := by decide +kernel
theorem dd_M_isWord_11 : decode prog_9_method_8_code 11 = .ok (.iconst 0, 1) := by decide +kernel
theorem dd_M_isWord_12 : decode prog_9_method_8_code 12 = .ok (.ireturn, 1) := by decide +kernel
theorem dd_M_isWord_13 : decode prog_9_method_8_code 13 = .ok (.lload_n 0, 1) := by decide +kernel
theorem dd_M_isWord_14 : decode prog_9_method_8_code 14 = .ok (.iload_n 2, 1) := by decide +kernel
theorem dd_M_isWord_15 : decode prog_9_method_8_code 15 = .ok (.iconst 0, 1) := by decide +kernel
theorem dd_M_isWord_16 : decode prog_9_method_8_code 16 = .ok (.invokestatic 92, 3) := by decide +kernel
theorem dd_M_isWord_19 : decode prog_9_method_8_code 19 = .ok (.invokestatic 96, 3) := by decide +kernel
theorem dd_M_isWord_22 : decode prog_9_method_8_code 22 = .ok (.istore_n 3, 1) := by decide +kernel
theorem dd_M_isWord_23 : decode prog_9_method_8_code 23 = .ok (.iload_n 3, 1) := by decide +kernel
theorem dd_M_isWord_24 : decode prog_9_method_8_code 24 = .ok (.ifCond .le 17, 3) := by decide +kernel
theorem dd_M_isWord_27 : decode prog_9_method_8_code 27 = .ok (.iload_n 3, 1) := by decide +kernel
theorem dd_M_isWord_28 : decode prog_9_method_8_code 28 = .ok (.iconst 4, 1) := by decide +kernel
theorem dd_M_isWord_29 : decode prog_9_method_8_code 29 = .ok (.if_icmp .lt 8, 3) := by decide +kernel
theorem dd_M_isWord_32 : decode prog_9_method_8_code 32 = .ok (.iload_n 2, 1) := by decide +kernel
theorem dd_M_isWord_33 : decode prog_9_method_8_code 33 = .ok (.iconst 1, 1) := by decide +kernel
theorem dd_M_isWord_34 : decode prog_9_method_8_code 34 = .ok (.if_icmp .ne 7, 3) := by decide +kernel
theorem dd_M_isWord_37 : decode prog_9_method_8_code 37 = .ok (.iconst 1, 1) := by decide +kernel
theorem dd_M_isWord_38 : decode prog_9_method_8_code 38 = .ok (.goto 4, 3) := by decide +kernel
theorem dd_M_isWord_41 : decode prog_9_method_8_code 41 = .ok (.iconst 0, 1) := by decide +kernel
theorem dd_M_isWord_42 : decode prog_9_method_8_code 42 = .ok (.istore 4, 2) := by decide +kernel
theorem dd_M_isWord_44 : decode prog_9_method_8_code 44 = .ok (.iconst 1, 1) := by decide +kernel
theorem dd_M_isWord_45 : decode prog_9_method_8_code 45 = .ok (.istore 5, 2) := by decide +kernel
theorem dd_M_isWord_47 : decode prog_9_method_8_code 47 = .ok (.iload 5, 2) := by decide +kernel
theorem dd_M_isWord_49 : decode prog_9_method_8_code 49 = .ok (.iload_n 2, 1) := by decide +kernel
theorem dd_M_isWord_50 : decode prog_9_method_8_code 50 = .ok (.if_icmp .ge 35, 3) := by decide +kernel
theorem dd_M_isWord_53 : decode prog_9_method_8_code 53 = .ok (.iload 4, 2) := by decide +kernel
theorem dd_M_isWord_55 : decode prog_9_method_8_code 55 = .ok (.ifCond .eq 21, 3) := by decide +kernel
theorem dd_M_isWord_58 : decode prog_9_method_8_code 58 = .ok (.lload_n 0, 1) := by decide +kernel
theorem dd_M_isWord_59 : decode prog_9_method_8_code 59 = .ok (.iload_n 2, 1) := by decide +kernel
theorem dd_M_isWord_60 : decode prog_9_method_8_code 60 = .ok (.iload 5, 2) := by decide +kernel
theorem dd_M_isWord_62 : decode prog_9_method_8_code 62 = .ok (.invokestatic 92, 3) := by decide +kernel
theorem dd_M_isWord_65 : decode prog_9_method_8_code 65 = .ok (.invokestatic 96, 3) := by decide +kernel
theorem dd_M_isWord_68 : decode prog_9_method_8_code 68 = .ok (.iload_n 3, 1) := by decide +kernel
theorem dd_M_isWord_69 : decode prog_9_method_8_code 69 = .ok (.if_icmp .ne 7, 3) := by decide +kernel
theorem dd_M_isWord_72 : decode prog_9_method_8_code 72 = .ok (.iconst 1, 1) := by decide +kernel
theorem dd_M_isWord_73 : decode prog_9_method_8_code 73 = .ok (.goto 4, 3) := by decide +kernel
theorem dd_M_isWord_76 : decode prog_9_method_8_code 76 = .ok (.iconst 0, 1) := by decide +kernel
theorem dd_M_isWord_77 : decode prog_9_method_8_code 77 = .ok (.istore 4, 2) := by decide +kernel
theorem dd_M_isWord_79 : decode prog_9_method_8_code 79 = .ok (.iinc 5 1, 3) := by decide +kernel
theorem dd_M_isWord_82 : decode prog_9_method_8_code 82 = .ok (.goto (-35), 3) := by decide +kernel
theorem dd_M_isWord_85 : decode prog_9_method_8_code 85 = .ok (.iload 4, 2) := by decide +kernel
theorem dd_M_isWord_87 : decode prog_9_method_8_code 87 = .ok (.ireturn, 1) := by decide +kernel
theorem dd_M_kindOf_0 : decode prog_9_method_32_code 0 = .ok (.bipush (-2), 2) := by decide +kernel
theorem dd_M_kindOf_2 : decode prog_9_method_32_code 2 = .ok (.istore 4, 2) := by decide +kernel
theorem dd_M_kindOf_4 : decode prog_9_method_32_code 4 = .ok (.iconst 0, 1) := by decide +kernel
theorem dd_M_kindOf_5 : decode prog_9_method_32_code 5 = .ok (.istore 5, 2) := by decide +kernel
theorem dd_M_kindOf_7 : decode prog_9_method_32_code 7 = .ok (.iload 5, 2) := by decide +kernel
theorem dd_M_kindOf_9 : decode prog_9_method_32_code 9 = .ok (.aload_n 0, 1) := by decide +kernel
theorem dd_M_kindOf_10 : decode prog_9_method_32_code 10 = .ok (.getfield 100, 3) := by decide +kernel
theorem dd_M_kindOf_13 : decode prog_9_method_32_code 13 = .ok (.if_icmp .ge 42, 3) := by decide +kernel
theorem dd_M_kindOf_16 : decode prog_9_method_32_code 16 = .ok (.aload_n 0, 1) := by decide +kernel
theorem dd_M_kindOf_17 : decode prog_9_method_32_code 17 = .ok (.getfield 20, 3) := by decide +kernel
theorem dd_M_kindOf_20 : decode prog_9_method_32_code 20 = .ok (.iload 5, 2) := by decide +kernel
theorem dd_M_kindOf_22 : decode prog_9_method_32_code 22 = .ok (.iaload, 1) := by decide +kernel
theorem dd_M_kindOf_23 : decode prog_9_method_32_code 23 = .ok (.iload_n 1, 1) := by decide +kernel
theorem dd_M_kindOf_24 : decode prog_9_method_32_code 24 = .ok (.if_icmp .lt 25, 3) := by decide +kernel
theorem dd_M_kindOf_27 : decode prog_9_method_32_code 27 = .ok (.aload_n 0, 1) := by decide +kernel
theorem dd_M_kindOf_28 : decode prog_9_method_32_code 28 = .ok (.getfield 40, 3) := by decide +kernel
theorem dd_M_kindOf_31 : decode prog_9_method_32_code 31 = .ok (.bipush 7, 2) := by decide +kernel
theorem dd_M_kindOf_33 : decode prog_9_method_32_code 33 = .ok (.iload 5, 2) := by decide +kernel
theorem dd_M_kindOf_35 : decode prog_9_method_32_code 35 = .ok (.imul, 1) := by decide +kernel
theorem dd_M_kindOf_36 : decode prog_9_method_32_code 36 = .ok (.iload_n 2, 1) := by decide +kernel
theorem dd_M_kindOf_37 : decode prog_9_method_32_code 37 = .ok (.iload_n 3, 1) := by decide +kernel
theorem dd_M_kindOf_38 : decode prog_9_method_32_code 38 = .ok (.invokestatic 138, 3) := by decide +kernel
theorem dd_M_kindOf_41 : decode prog_9_method_32_code 41 = .ok (.iaload, 1) := by decide +kernel
theorem dd_M_kindOf_42 : decode prog_9_method_32_code 42 = .ok (.ifCond .le 7, 3) := by decide +kernel
theorem dd_M_kindOf_45 : decode prog_9_method_32_code 45 = .ok (.iload 5, 2) := by decide +kernel
theorem dd_M_kindOf_47 : decode prog_9_method_32_code 47 = .ok (.istore 4, 2) := by decide +kernel
theorem dd_M_kindOf_49 : decode prog_9_method_32_code 49 = .ok (.iinc 5 1, 3) := by decide +kernel
theorem dd_M_kindOf_52 : decode prog_9_method_32_code 52 = .ok (.goto (-45), 3) := by decide +kernel
theorem dd_M_kindOf_55 : decode prog_9_method_32_code 55 = .ok (.iload_n 3, 1) := by decide +kernel
theorem dd_M_kindOf_56 : decode prog_9_method_32_code 56 = .ok (.iload_n 2, 1) := by decide +kernel
theorem dd_M_kindOf_57 : decode prog_9_method_32_code 57 = .ok (.iconst 1, 1) := by decide +kernel
theorem dd_M_kindOf_58 : decode prog_9_method_32_code 58 = .ok (.iadd, 1) := by decide +kernel
theorem dd_M_kindOf_59 : decode prog_9_method_32_code 59 = .ok (.if_icmp .ne 15, 3) := by decide +kernel
theorem dd_M_kindOf_62 : decode prog_9_method_32_code 62 = .ok (.aload_n 0, 1) := by decide +kernel
theorem dd_M_kindOf_63 : decode prog_9_method_32_code 63 = .ok (.iload_n 2, 1) := by decide +kernel
theorem dd_M_kindOf_64 : decode prog_9_method_32_code 64 = .ok (.invokevirtual 146, 3) := by decide +kernel
theorem dd_M_kindOf_67 : decode prog_9_method_32_code 67 = .ok (.ifCond .eq 7, 3) := by decide +kernel
theorem dd_M_kindOf_70 : decode prog_9_method_32_code 70 = .ok (.iconst (-1), 1) := by decide +kernel
theorem dd_M_kindOf_71 : decode prog_9_method_32_code 71 = .ok (.goto 5, 3) := by decide +kernel
theorem dd_M_kindOf_74 : decode prog_9_method_32_code 74 = .ok (.iload 4, 2) := by decide +kernel
theorem dd_M_kindOf_76 : decode prog_9_method_32_code 76 = .ok (.ireturn, 1) := by decide +kernel
theorem dd_M_later_0 : decode prog_9_method_30_code 0 = .ok (.aload_n 0, 1) := by decide +kernel
theorem dd_M_later_1 : decode prog_9_method_30_code 1 = .ok (.getfield 62, 3) := by decide +kernel
theorem dd_M_later_4 : decode prog_9_method_30_code 4 = .ok (.aload_n 0, 1) := by decide +kernel
theorem dd_M_later_5 : decode prog_9_method_30_code 5 = .ok (.getfield 188, 3) := by decide +kernel
theorem dd_M_later_8 : decode prog_9_method_30_code 8 = .ok (.iload_n 1, 1) := by decide +kernel
theorem dd_M_later_9 : decode prog_9_method_30_code 9 = .ok (.iastore, 1) := by decide +kernel
theorem dd_M_later_10 : decode prog_9_method_30_code 10 = .ok (.aload_n 0, 1) := by decide +kernel
theorem dd_M_later_11 : decode prog_9_method_30_code 11 = .ok (.getfield 65, 3) := by decide +kernel
theorem dd_M_later_14 : decode prog_9_method_30_code 14 = .ok (.aload_n 0, 1) := by decide +kernel
theorem dd_M_later_15 : decode prog_9_method_30_code 15 = .ok (.getfield 188, 3) := by decide +kernel
theorem dd_M_later_18 : decode prog_9_method_30_code 18 = .ok (.iload_n 2, 1) := by decide +kernel
theorem dd_M_later_19 : decode prog_9_method_30_code 19 = .ok (.iastore, 1) := by decide +kernel
theorem dd_M_later_20 : decode prog_9_method_30_code 20 = .ok (.aload_n 0, 1) := by decide +kernel
theorem dd_M_later_21 : decode prog_9_method_30_code 21 = .ok (.getfield 68, 3) := by decide +kernel
theorem dd_M_later_24 : decode prog_9_method_30_code 24 = .ok (.aload_n 0, 1) := by decide +kernel
theorem dd_M_later_25 : decode prog_9_method_30_code 25 = .ok (.getfield 188, 3) := by decide +kernel
theorem dd_M_later_28 : decode prog_9_method_30_code 28 = .ok (.iload_n 3, 1) := by decide +kernel
theorem dd_M_later_29 : decode prog_9_method_30_code 29 = .ok (.iastore, 1) := by decide +kernel
theorem dd_M_later_30 : decode prog_9_method_30_code 30 = .ok (.aload_n 0, 1) := by decide +kernel
theorem dd_M_later_31 : decode prog_9_method_30_code 31 = .ok (.getfield 71, 3) := by decide +kernel
theorem dd_M_later_34 : decode prog_9_method_30_code 34 = .ok (.aload_n 0, 1) := by decide +kernel
theorem dd_M_later_35 : decode prog_9_method_30_code 35 = .ok (.getfield 188, 3) := by decide +kernel
theorem dd_M_later_38 : decode prog_9_method_30_code 38 = .ok (.iload 4, 2) := by decide +kernel
theorem dd_M_later_40 : decode prog_9_method_30_code 40 = .ok (.iastore, 1) := by decide +kernel
theorem dd_M_later_41 : decode prog_9_method_30_code 41 = .ok (.aload_n 0, 1) := by decide +kernel
theorem dd_M_later_42 : decode prog_9_method_30_code 42 = .ok (.dup, 1) := by decide +kernel
theorem dd_M_later_43 : decode prog_9_method_30_code 43 = .ok (.getfield 188, 3) := by decide +kernel
theorem dd_M_later_46 : decode prog_9_method_30_code 46 = .ok (.iconst 1, 1) := by decide +kernel
theorem dd_M_later_47 : decode prog_9_method_30_code 47 = .ok (.iadd, 1) := by decide +kernel
theorem dd_M_later_48 : decode prog_9_method_30_code 48 = .ok (.putfield 188, 3) := by decide +kernel
theorem dd_M_later_51 : decode prog_9_method_30_code 51 = .ok (.return_, 1) := by decide +kernel
theorem dd_M_less_0 : decode prog_9_method_19_code 0 = .ok (.lload_n 0, 1) := by decide +kernel
theorem dd_M_less_1 : decode prog_9_method_19_code 1 = .ok (.ldc2_w 135, 3) := by decide +kernel
theorem dd_M_less_4 : decode prog_9_method_19_code 4 = .ok (.lcmp, 1) := by decide +kernel
theorem dd_M_less_5 : decode prog_9_method_19_code 5 = .ok (.ifCond .le 8, 3) := by decide +kernel
theorem dd_M_less_8 : decode prog_9_method_19_code 8 = .ok (.ldc 137, 2) := by decide +kernel
theorem dd_M_less_10 : decode prog_9_method_19_code 10 = .ok (.goto 5, 3) := by decide +kernel
theorem dd_M_less_13 : decode prog_9_method_19_code 13 = .ok (.lload_n 0, 1) := by decide +kernel
theorem dd_M_less_14 : decode prog_9_method_19_code 14 = .ok (.l2i, 1) := by decide +kernel
theorem dd_M_less_15 : decode prog_9_method_19_code 15 = .ok (.ireturn, 1) := by decide +kernel
theorem dd_M_lowest_0 : decode prog_9_method_7_code 0 = .ok (.iload_n 2, 1) := by decide +kernel
theorem dd_M_lowest_1 : decode prog_9_method_7_code 1 = .ok (.bipush 8, 2) := by decide +kernel
theorem dd_M_lowest_3 : decode prog_9_method_7_code 3 = .ok (.if_icmp .ne 7, 3) := by decide +kernel
theorem dd_M_lowest_6 : decode prog_9_method_7_code 6 = .ok (.lload_n 0, 1) := by decide +kernel
theorem dd_M_lowest_7 : decode prog_9_method_7_code 7 = .ok (.goto 13, 3) := by decide +kernel
theorem dd_M_lowest_10 : decode prog_9_method_7_code 10 = .ok (.lload_n 0, 1) := by decide +kernel
theorem dd_M_lowest_11 : decode prog_9_method_7_code 11 = .ok (.lconst 1, 1) := by decide +kernel
theorem dd_M_lowest_12 : decode prog_9_method_7_code 12 = .ok (.bipush 8, 2) := by decide +kernel
theorem dd_M_lowest_14 : decode prog_9_method_7_code 14 = .ok (.iload_n 2, 1) := by decide +kernel
theorem dd_M_lowest_15 : decode prog_9_method_7_code 15 = .ok (.imul, 1) := by decide +kernel
theorem dd_M_lowest_16 : decode prog_9_method_7_code 16 = .ok (.lshl, 1) := by decide +kernel
theorem dd_M_lowest_17 : decode prog_9_method_7_code 17 = .ok (.lconst 1, 1) := by decide +kernel
theorem dd_M_lowest_18 : decode prog_9_method_7_code 18 = .ok (.lsub, 1) := by decide +kernel
theorem dd_M_lowest_19 : decode prog_9_method_7_code 19 = .ok (.land, 1) := by decide +kernel
theorem dd_M_lowest_20 : decode prog_9_method_7_code 20 = .ok (.lreturn, 1) := by decide +kernel
theorem dd_M_mayBeTerm_0 : decode prog_9_method_25_code 0 = .ok (.iload_n 3, 1) := by decide +kernel
theorem dd_M_mayBeTerm_1 : decode prog_9_method_25_code 1 = .ok (.iload_n 2, 1) := by decide +kernel
theorem dd_M_mayBeTerm_2 : decode prog_9_method_25_code 2 = .ok (.iconst 1, 1) := by decide +kernel
theorem dd_M_mayBeTerm_3 : decode prog_9_method_25_code 3 = .ok (.iadd, 1) := by decide +kernel
theorem dd_M_mayBeTerm_4 : decode prog_9_method_25_code 4 = .ok (.if_icmp .ne 15, 3) := by decide +kernel
theorem dd_M_mayBeTerm_7 : decode prog_9_method_25_code 7 = .ok (.aload_n 0, 1) := by decide +kernel
theorem dd_M_mayBeTerm_8 : decode prog_9_method_25_code 8 = .ok (.iload_n 2, 1) := by decide +kernel
theorem dd_M_mayBeTerm_9 : decode prog_9_method_25_code 9 = .ok (.invokevirtual 146, 3) := by decide +kernel
theorem dd_M_mayBeTerm_12 : decode prog_9_method_25_code 12 = .ok (.ifCond .eq 7, 3) := by decide +kernel
theorem dd_M_mayBeTerm_15 : decode prog_9_method_25_code 15 = .ok (.iconst 1, 1) := by decide +kernel
theorem dd_M_mayBeTerm_16 : decode prog_9_method_25_code 16 = .ok (.goto 4, 3) := by decide +kernel
theorem dd_M_mayBeTerm_19 : decode prog_9_method_25_code 19 = .ok (.iconst 0, 1) := by decide +kernel
theorem dd_M_mayBeTerm_20 : decode prog_9_method_25_code 20 = .ok (.istore 4, 2) := by decide +kernel
theorem dd_M_mayBeTerm_22 : decode prog_9_method_25_code 22 = .ok (.aload_n 0, 1) := by decide +kernel
theorem dd_M_mayBeTerm_23 : decode prog_9_method_25_code 23 = .ok (.iload_n 2, 1) := by decide +kernel
theorem dd_M_mayBeTerm_24 : decode prog_9_method_25_code 24 = .ok (.bipush 40, 2) := by decide +kernel
theorem dd_M_mayBeTerm_26 : decode prog_9_method_25_code 26 = .ok (.invokevirtual 149, 3) := by decide +kernel
theorem dd_M_mayBeTerm_29 : decode prog_9_method_25_code 29 = .ok (.ifCond .eq 75, 3) := by decide +kernel
theorem dd_M_mayBeTerm_32 : decode prog_9_method_25_code 32 = .ok (.iload 4, 2) := by decide +kernel
theorem dd_M_mayBeTerm_34 : decode prog_9_method_25_code 34 = .ok (.ifCond .ne 14, 3) := by decide +kernel
theorem dd_M_mayBeTerm_37 : decode prog_9_method_25_code 37 = .ok (.aload_n 0, 1) := by decide +kernel
theorem dd_M_mayBeTerm_38 : decode prog_9_method_25_code 38 = .ok (.getfield 43, 3) := by decide +kernel
theorem dd_M_mayBeTerm_41 : decode prog_9_method_25_code 41 = .ok (.iload_n 2, 1) := by decide +kernel
theorem dd_M_mayBeTerm_42 : decode prog_9_method_25_code 42 = .ok (.iconst 1, 1) := by decide +kernel
theorem dd_M_mayBeTerm_43 : decode prog_9_method_25_code 43 = .ok (.iadd, 1) := by decide +kernel
theorem dd_M_mayBeTerm_44 : decode prog_9_method_25_code 44 = .ok (.baload, 1) := by decide +kernel
theorem dd_M_mayBeTerm_45 : decode prog_9_method_25_code 45 = .ok (.ifCond .eq 7, 3) := by decide +kernel
theorem dd_M_mayBeTerm_48 : decode prog_9_method_25_code 48 = .ok (.iconst 1, 1) := by decide +kernel
theorem dd_M_mayBeTerm_49 : decode prog_9_method_25_code 49 = .ok (.goto 4, 3) := by decide +kernel
theorem dd_M_mayBeTerm_52 : decode prog_9_method_25_code 52 = .ok (.iconst 0, 1) := by decide +kernel
theorem dd_M_mayBeTerm_53 : decode prog_9_method_25_code 53 = .ok (.istore 4, 2) := by decide +kernel
theorem dd_M_mayBeTerm_55 : decode prog_9_method_25_code 55 = .ok (.iload 4, 2) := by decide +kernel
theorem dd_M_mayBeTerm_57 : decode prog_9_method_25_code 57 = .ok (.ifCond .ne 40, 3) := by decide +kernel
theorem dd_M_mayBeTerm_60 : decode prog_9_method_25_code 60 = .ok (.aload_n 0, 1) := by decide +kernel
theorem dd_M_mayBeTerm_61 : decode prog_9_method_25_code 61 = .ok (.iload_n 3, 1) := by decide +kernel
theorem dd_M_mayBeTerm_62 : decode prog_9_method_25_code 62 = .ok (.iconst 1, 1) := by decide +kernel
theorem dd_M_mayBeTerm_63 : decode prog_9_method_25_code 63 = .ok (.isub, 1) := by decide +kernel
theorem dd_M_mayBeTerm_64 : decode prog_9_method_25_code 64 = .ok (.bipush 41, 2) := by decide +kernel
theorem dd_M_mayBeTerm_66 : decode prog_9_method_25_code 66 = .ok (.invokevirtual 149, 3) := by decide +kernel
theorem dd_M_mayBeTerm_69 : decode prog_9_method_25_code 69 = .ok (.ifCond .eq 32, 3) := by decide +kernel
theorem dd_M_mayBeTerm_72 : decode prog_9_method_25_code 72 = .ok (.iload_n 3, 1) := by decide +kernel
theorem dd_M_mayBeTerm_73 : decode prog_9_method_25_code 73 = .ok (.iload_n 2, 1) := by decide +kernel
theorem dd_M_mayBeTerm_74 : decode prog_9_method_25_code 74 = .ok (.iconst 2, 1) := by decide +kernel
theorem dd_M_mayBeTerm_75 : decode prog_9_method_25_code 75 = .ok (.iadd, 1) := by decide +kernel
theorem dd_M_mayBeTerm_76 : decode prog_9_method_25_code 76 = .ok (.if_icmp .le 25, 3) := by decide +kernel
theorem dd_M_mayBeTerm_79 : decode prog_9_method_25_code 79 = .ok (.aload_n 0, 1) := by decide +kernel
theorem dd_M_mayBeTerm_80 : decode prog_9_method_25_code 80 = .ok (.getfield 36, 3) := by decide +kernel
theorem dd_M_mayBeTerm_83 : decode prog_9_method_25_code 83 = .ok (.iconst 0, 1) := by decide +kernel
theorem dd_M_mayBeTerm_84 : decode prog_9_method_25_code 84 = .ok (.iload_n 2, 1) := by decide +kernel
theorem dd_M_mayBeTerm_85 : decode prog_9_method_25_code 85 = .ok (.iconst 1, 1) := by decide +kernel
theorem dd_M_mayBeTerm_86 : decode prog_9_method_25_code 86 = .ok (.iadd, 1) := by decide +kernel
theorem dd_M_mayBeTerm_87 : decode prog_9_method_25_code 87 = .ok (.iload_n 3, 1) := by decide +kernel
theorem dd_M_mayBeTerm_88 : decode prog_9_method_25_code 88 = .ok (.iconst 1, 1) := by decide +kernel
theorem dd_M_mayBeTerm_89 : decode prog_9_method_25_code 89 = .ok (.isub, 1) := by decide +kernel
theorem dd_M_mayBeTerm_90 : decode prog_9_method_25_code 90 = .ok (.invokestatic 138, 3) := by decide +kernel
theorem dd_M_mayBeTerm_93 : decode prog_9_method_25_code 93 = .ok (.iaload, 1) := by decide +kernel
theorem dd_M_mayBeTerm_94 : decode prog_9_method_25_code 94 = .ok (.ifCond .le 7, 3) := by decide +kernel
theorem dd_M_mayBeTerm_97 : decode prog_9_method_25_code 97 = .ok (.iconst 1, 1) := by decide +kernel
theorem dd_M_mayBeTerm_98 : decode prog_9_method_25_code 98 = .ok (.goto 4, 3) := by decide +kernel
theorem dd_M_mayBeTerm_101 : decode prog_9_method_25_code 101 = .ok (.iconst 0, 1) := by decide +kernel
theorem dd_M_mayBeTerm_102 : decode prog_9_method_25_code 102 = .ok (.istore 4, 2) := by decide +kernel
theorem dd_M_mayBeTerm_104 : decode prog_9_method_25_code 104 = .ok (.iconst 0, 1) := by decide +kernel
theorem dd_M_mayBeTerm_105 : decode prog_9_method_25_code 105 = .ok (.istore 5, 2) := by decide +kernel
theorem dd_M_mayBeTerm_107 : decode prog_9_method_25_code 107 = .ok (.iload 5, 2) := by decide +kernel
theorem dd_M_mayBeTerm_109 : decode prog_9_method_25_code 109 = .ok (.aload_n 0, 1) := by decide +kernel
theorem dd_M_mayBeTerm_110 : decode prog_9_method_25_code 110 = .ok (.getfield 100, 3) := by decide +kernel
theorem dd_M_mayBeTerm_113 : decode prog_9_method_25_code 113 = .ok (.if_icmp .ge 44, 3) := by decide +kernel
theorem dd_M_mayBeTerm_116 : decode prog_9_method_25_code 116 = .ok (.iload 4, 2) := by decide +kernel
theorem dd_M_mayBeTerm_118 : decode prog_9_method_25_code 118 = .ok (.ifCond .ne 26, 3) := by decide +kernel
theorem dd_M_mayBeTerm_121 : decode prog_9_method_25_code 121 = .ok (.aload_n 0, 1) := by decide +kernel
theorem dd_M_mayBeTerm_122 : decode prog_9_method_25_code 122 = .ok (.getfield 20, 3) := by decide +kernel
theorem dd_M_mayBeTerm_125 : decode prog_9_method_25_code 125 = .ok (.iload 5, 2) := by decide +kernel
theorem dd_M_mayBeTerm_127 : decode prog_9_method_25_code 127 = .ok (.iaload, 1) := by decide +kernel
theorem dd_M_mayBeTerm_128 : decode prog_9_method_25_code 128 = .ok (.iload_n 1, 1) := by decide +kernel
theorem dd_M_mayBeTerm_129 : decode prog_9_method_25_code 129 = .ok (.if_icmp .lt 19, 3) := by decide +kernel
theorem dd_M_mayBeTerm_132 : decode prog_9_method_25_code 132 = .ok (.aload_n 0, 1) := by decide +kernel
theorem dd_M_mayBeTerm_133 : decode prog_9_method_25_code 133 = .ok (.iload 5, 2) := by decide +kernel
theorem dd_M_mayBeTerm_135 : decode prog_9_method_25_code 135 = .ok (.iconst 0, 1) := by decide +kernel
theorem dd_M_mayBeTerm_136 : decode prog_9_method_25_code 136 = .ok (.iload_n 2, 1) := by decide +kernel
theorem dd_M_mayBeTerm_137 : decode prog_9_method_25_code 137 = .ok (.iload_n 3, 1) := by decide +kernel
theorem dd_M_mayBeTerm_138 : decode prog_9_method_25_code 138 = .ok (.invokevirtual 161, 3) := by decide +kernel
theorem dd_M_mayBeTerm_141 : decode prog_9_method_25_code 141 = .ok (.ifCond .eq 7, 3) := by decide +kernel
theorem dd_M_mayBeTerm_144 : decode prog_9_method_25_code 144 = .ok (.iconst 1, 1) := by decide +kernel
theorem dd_M_mayBeTerm_145 : decode prog_9_method_25_code 145 = .ok (.goto 4, 3) := by decide +kernel
theorem dd_M_mayBeTerm_148 : decode prog_9_method_25_code 148 = .ok (.iconst 0, 1) := by decide +kernel
theorem dd_M_mayBeTerm_149 : decode prog_9_method_25_code 149 = .ok (.istore 4, 2) := by decide +kernel
theorem dd_M_mayBeTerm_151 : decode prog_9_method_25_code 151 = .ok (.iinc 5 1, 3) := by decide +kernel
theorem dd_M_mayBeTerm_154 : decode prog_9_method_25_code 154 = .ok (.goto (-47), 3) := by decide +kernel
theorem dd_M_mayBeTerm_157 : decode prog_9_method_25_code 157 = .ok (.iload 4, 2) := by decide +kernel
theorem dd_M_mayBeTerm_159 : decode prog_9_method_25_code 159 = .ok (.ireturn, 1) := by decide +kernel
theorem dd_M_mayBegin_0 : decode prog_9_method_24_code 0 = .ok (.bipush 7, 2) := by decide +kernel
theorem dd_M_mayBegin_2 : decode prog_9_method_24_code 2 = .ok (.iload_n 1, 1) := by decide +kernel
theorem dd_M_mayBegin_3 : decode prog_9_method_24_code 3 = .ok (.imul, 1) := by decide +kernel
theorem dd_M_mayBegin_4 : decode prog_9_method_24_code 4 = .ok (.iload_n 2, 1) := by decide +kernel
theorem dd_M_mayBegin_5 : decode prog_9_method_24_code 5 = .ok (.iadd, 1) := by decide +kernel
theorem dd_M_mayBegin_6 : decode prog_9_method_24_code 6 = .ok (.istore 5, 2) := by decide +kernel
theorem dd_M_mayBegin_8 : decode prog_9_method_24_code 8 = .ok (.iload_n 3, 1) := by decide +kernel
theorem dd_M_mayBegin_9 : decode prog_9_method_24_code 9 = .ok (.iload 4, 2) := by decide +kernel
theorem dd_M_mayBegin_11 : decode prog_9_method_24_code 11 = .ok (.if_icmp .ne 5, 3) := by decide +kernel
theorem dd_M_mayBegin_14 : decode prog_9_method_24_code 14 = .ok (.iconst 1, 1) := by decide +kernel
theorem dd_M_mayBegin_15 : decode prog_9_method_24_code 15 = .ok (.ireturn, 1) := by decide +kernel
theorem dd_M_mayBegin_16 : decode prog_9_method_24_code 16 = .ok (.iload_n 2, 1) := by decide +kernel
theorem dd_M_mayBegin_17 : decode prog_9_method_24_code 17 = .ok (.aload_n 0, 1) := by decide +kernel
theorem dd_M_mayBegin_18 : decode prog_9_method_24_code 18 = .ok (.getfield 17, 3) := by decide +kernel
theorem dd_M_mayBegin_21 : decode prog_9_method_24_code 21 = .ok (.iload_n 1, 1) := by decide +kernel
theorem dd_M_mayBegin_22 : decode prog_9_method_24_code 22 = .ok (.iaload, 1) := by decide +kernel
theorem dd_M_mayBegin_23 : decode prog_9_method_24_code 23 = .ok (.if_icmp .ne 5, 3) := by decide +kernel
theorem dd_M_mayBegin_26 : decode prog_9_method_24_code 26 = .ok (.iconst 0, 1) := by decide +kernel
theorem dd_M_mayBegin_27 : decode prog_9_method_24_code 27 = .ok (.ireturn, 1) := by decide +kernel
theorem dd_M_mayBegin_28 : decode prog_9_method_24_code 28 = .ok (.aload_n 0, 1) := by decide +kernel
theorem dd_M_mayBegin_29 : decode prog_9_method_24_code 29 = .ok (.getfield 7, 3) := by decide +kernel
theorem dd_M_mayBegin_32 : decode prog_9_method_24_code 32 = .ok (.iload 5, 2) := by decide +kernel
theorem dd_M_mayBegin_34 : decode prog_9_method_24_code 34 = .ok (.iaload, 1) := by decide +kernel
theorem dd_M_mayBegin_35 : decode prog_9_method_24_code 35 = .ok (.iconst (-1), 1) := by decide +kernel
theorem dd_M_mayBegin_36 : decode prog_9_method_24_code 36 = .ok (.if_icmp .ne 45, 3) := by decide +kernel
theorem dd_M_mayBegin_39 : decode prog_9_method_24_code 39 = .ok (.aload_n 0, 1) := by decide +kernel
theorem dd_M_mayBegin_40 : decode prog_9_method_24_code 40 = .ok (.getfield 30, 3) := by decide +kernel
theorem dd_M_mayBegin_43 : decode prog_9_method_24_code 43 = .ok (.iload_n 3, 1) := by decide +kernel
theorem dd_M_mayBegin_44 : decode prog_9_method_24_code 44 = .ok (.laload, 1) := by decide +kernel
theorem dd_M_mayBegin_45 : decode prog_9_method_24_code 45 = .ok (.aload_n 0, 1) := by decide +kernel
theorem dd_M_mayBegin_46 : decode prog_9_method_24_code 46 = .ok (.getfield 13, 3) := by decide +kernel
theorem dd_M_mayBegin_49 : decode prog_9_method_24_code 49 = .ok (.iload 5, 2) := by decide +kernel
theorem dd_M_mayBegin_51 : decode prog_9_method_24_code 51 = .ok (.laload, 1) := by decide +kernel
theorem dd_M_mayBegin_52 : decode prog_9_method_24_code 52 = .ok (.lcmp, 1) := by decide +kernel
theorem dd_M_mayBegin_53 : decode prog_9_method_24_code 53 = .ok (.ifCond .ne 26, 3) := by decide +kernel
theorem dd_M_mayBegin_56 : decode prog_9_method_24_code 56 = .ok (.aload_n 0, 1) := by decide +kernel
theorem dd_M_mayBegin_57 : decode prog_9_method_24_code 57 = .ok (.getfield 47, 3) := by decide +kernel
theorem dd_M_mayBegin_60 : decode prog_9_method_24_code 60 = .ok (.bipush 31, 2) := by decide +kernel
theorem dd_M_mayBegin_62 : decode prog_9_method_24_code 62 = .ok (.iload 5, 2) := by decide +kernel
theorem dd_M_mayBegin_64 : decode prog_9_method_24_code 64 = .ok (.iconst 1, 1) := by decide +kernel
theorem dd_M_mayBegin_65 : decode prog_9_method_24_code 65 = .ok (.iadd, 1) := by decide +kernel
theorem dd_M_mayBegin_66 : decode prog_9_method_24_code 66 = .ok (.imul, 1) := by decide +kernel
theorem dd_M_mayBegin_67 : decode prog_9_method_24_code 67 = .ok (.iload_n 3, 1) := by decide +kernel
theorem dd_M_mayBegin_68 : decode prog_9_method_24_code 68 = .ok (.iadd, 1) := by decide +kernel
theorem dd_M_mayBegin_69 : decode prog_9_method_24_code 69 = .ok (.iconst 1, 1) := by decide +kernel
theorem dd_M_mayBegin_70 : decode prog_9_method_24_code 70 = .ok (.iadd, 1) := by decide +kernel
theorem dd_M_mayBegin_71 : decode prog_9_method_24_code 71 = .ok (.baload, 1) := by decide +kernel
theorem dd_M_mayBegin_72 : decode prog_9_method_24_code 72 = .ok (.ifCond .eq 7, 3) := by decide +kernel
theorem dd_M_mayBegin_75 : decode prog_9_method_24_code 75 = .ok (.iconst 1, 1) := by decide +kernel
theorem dd_M_mayBegin_76 : decode prog_9_method_24_code 76 = .ok (.goto 4, 3) := by decide +kernel
theorem dd_M_mayBegin_79 : decode prog_9_method_24_code 79 = .ok (.iconst 0, 1) := by decide +kernel
theorem dd_M_mayBegin_80 : decode prog_9_method_24_code 80 = .ok (.ireturn, 1) := by decide +kernel
theorem dd_M_mayBegin_81 : decode prog_9_method_24_code 81 = .ok (.aload_n 0, 1) := by decide +kernel
theorem dd_M_mayBegin_82 : decode prog_9_method_24_code 82 = .ok (.getfield 43, 3) := by decide +kernel
theorem dd_M_mayBegin_85 : decode prog_9_method_24_code 85 = .ok (.bipush 31, 2) := by decide +kernel
theorem dd_M_mayBegin_87 : decode prog_9_method_24_code 87 = .ok (.aload_n 0, 1) := by decide +kernel
theorem dd_M_mayBegin_88 : decode prog_9_method_24_code 88 = .ok (.getfield 7, 3) := by decide +kernel
theorem dd_M_mayBegin_91 : decode prog_9_method_24_code 91 = .ok (.iload 5, 2) := by decide +kernel
theorem dd_M_mayBegin_93 : decode prog_9_method_24_code 93 = .ok (.iaload, 1) := by decide +kernel
theorem dd_M_mayBegin_94 : decode prog_9_method_24_code 94 = .ok (.imul, 1) := by decide +kernel
theorem dd_M_mayBegin_95 : decode prog_9_method_24_code 95 = .ok (.iload_n 3, 1) := by decide +kernel
theorem dd_M_mayBegin_96 : decode prog_9_method_24_code 96 = .ok (.iadd, 1) := by decide +kernel
theorem dd_M_mayBegin_97 : decode prog_9_method_24_code 97 = .ok (.baload, 1) := by decide +kernel
theorem dd_M_mayBegin_98 : decode prog_9_method_24_code 98 = .ok (.istore 6, 2) := by decide +kernel
theorem dd_M_mayBegin_100 : decode prog_9_method_24_code 100 = .ok (.iload_n 3, 1) := by decide +kernel
theorem dd_M_mayBegin_101 : decode prog_9_method_24_code 101 = .ok (.iconst 1, 1) := by decide +kernel
theorem dd_M_mayBegin_102 : decode prog_9_method_24_code 102 = .ok (.iadd, 1) := by decide +kernel
theorem dd_M_mayBegin_103 : decode prog_9_method_24_code 103 = .ok (.istore 7, 2) := by decide +kernel
theorem dd_M_mayBegin_105 : decode prog_9_method_24_code 105 = .ok (.iload 7, 2) := by decide +kernel
theorem dd_M_mayBegin_107 : decode prog_9_method_24_code 107 = .ok (.iload 4, 2) := by decide +kernel
theorem dd_M_mayBegin_109 : decode prog_9_method_24_code 109 = .ok (.if_icmp .gt 60, 3) := by decide +kernel
theorem dd_M_mayBegin_112 : decode prog_9_method_24_code 112 = .ok (.iload 6, 2) := by decide +kernel
theorem dd_M_mayBegin_114 : decode prog_9_method_24_code 114 = .ok (.ifCond .ne 42, 3) := by decide +kernel
theorem dd_M_mayBegin_117 : decode prog_9_method_24_code 117 = .ok (.aload_n 0, 1) := by decide +kernel
theorem dd_M_mayBegin_118 : decode prog_9_method_24_code 118 = .ok (.getfield 36, 3) := by decide +kernel
theorem dd_M_mayBegin_121 : decode prog_9_method_24_code 121 = .ok (.aload_n 0, 1) := by decide +kernel
theorem dd_M_mayBegin_122 : decode prog_9_method_24_code 122 = .ok (.getfield 7, 3) := by decide +kernel
theorem dd_M_mayBegin_125 : decode prog_9_method_24_code 125 = .ok (.iload 5, 2) := by decide +kernel
theorem dd_M_mayBegin_127 : decode prog_9_method_24_code 127 = .ok (.iaload, 1) := by decide +kernel
theorem dd_M_mayBegin_128 : decode prog_9_method_24_code 128 = .ok (.iload_n 3, 1) := by decide +kernel
theorem dd_M_mayBegin_129 : decode prog_9_method_24_code 129 = .ok (.iload 7, 2) := by decide +kernel
theorem dd_M_mayBegin_131 : decode prog_9_method_24_code 131 = .ok (.invokestatic 138, 3) := by decide +kernel
theorem dd_M_mayBegin_134 : decode prog_9_method_24_code 134 = .ok (.iaload, 1) := by decide +kernel
theorem dd_M_mayBegin_135 : decode prog_9_method_24_code 135 = .ok (.ifCond .le 25, 3) := by decide +kernel
theorem dd_M_mayBegin_138 : decode prog_9_method_24_code 138 = .ok (.aload_n 0, 1) := by decide +kernel
theorem dd_M_mayBegin_139 : decode prog_9_method_24_code 139 = .ok (.getfield 47, 3) := by decide +kernel
theorem dd_M_mayBegin_142 : decode prog_9_method_24_code 142 = .ok (.bipush 31, 2) := by decide +kernel
theorem dd_M_mayBegin_144 : decode prog_9_method_24_code 144 = .ok (.iload 5, 2) := by decide +kernel
theorem dd_M_mayBegin_146 : decode prog_9_method_24_code 146 = .ok (.iconst 1, 1) := by decide +kernel
theorem dd_M_mayBegin_147 : decode prog_9_method_24_code 147 = .ok (.iadd, 1) := by decide +kernel
theorem dd_M_mayBegin_148 : decode prog_9_method_24_code 148 = .ok (.imul, 1) := by decide +kernel
theorem dd_M_mayBegin_149 : decode prog_9_method_24_code 149 = .ok (.iload 7, 2) := by decide +kernel
theorem dd_M_mayBegin_151 : decode prog_9_method_24_code 151 = .ok (.iadd, 1) := by decide +kernel
theorem dd_M_mayBegin_152 : decode prog_9_method_24_code 152 = .ok (.baload, 1) := by decide +kernel
theorem dd_M_mayBegin_153 : decode prog_9_method_24_code 153 = .ok (.ifCond .eq 7, 3) := by decide +kernel
theorem dd_M_mayBegin_156 : decode prog_9_method_24_code 156 = .ok (.iconst 1, 1) := by decide +kernel
theorem dd_M_mayBegin_157 : decode prog_9_method_24_code 157 = .ok (.goto 4, 3) := by decide +kernel
theorem dd_M_mayBegin_160 : decode prog_9_method_24_code 160 = .ok (.iconst 0, 1) := by decide +kernel
theorem dd_M_mayBegin_161 : decode prog_9_method_24_code 161 = .ok (.istore 6, 2) := by decide +kernel
theorem dd_M_mayBegin_163 : decode prog_9_method_24_code 163 = .ok (.iinc 7 1, 3) := by decide +kernel
theorem dd_M_mayBegin_166 : decode prog_9_method_24_code 166 = .ok (.goto (-61), 3) := by decide +kernel
theorem dd_M_mayBegin_169 : decode prog_9_method_24_code 169 = .ok (.iload 6, 2) := by decide +kernel
theorem dd_M_mayBegin_171 : decode prog_9_method_24_code 171 = .ok (.ireturn, 1) := by decide +kernel
theorem dd_M_node_0 : decode prog_9_method_36_code 0 = .ok (.aload_n 0, 1) := by decide +kernel
theorem dd_M_node_1 : decode prog_9_method_36_code 1 = .ok (.iload_n 1, 1) := by decide +kernel
theorem dd_M_node_2 : decode prog_9_method_36_code 2 = .ok (.ifCond .lt 11, 3) := by decide +kernel
theorem dd_M_node_5 : decode prog_9_method_36_code 5 = .ok (.iload_n 1, 1) := by decide +kernel
theorem dd_M_node_6 : decode prog_9_method_36_code 6 = .ok (.aload_n 0, 1) := by decide +kernel
theorem dd_M_node_7 : decode prog_9_method_36_code 7 = .ok (.getfield 122, 3) := by decide +kernel
theorem dd_M_node_10 : decode prog_9_method_36_code 10 = .ok (.if_icmp .lt 7, 3) := by decide +kernel
theorem dd_M_node_13 : decode prog_9_method_36_code 13 = .ok (.iconst 1, 1) := by decide +kernel
theorem dd_M_node_14 : decode prog_9_method_36_code 14 = .ok (.goto 4, 3) := by decide +kernel
theorem dd_M_node_17 : decode prog_9_method_36_code 17 = .ok (.iconst 0, 1) := by decide +kernel
theorem dd_M_node_18 : decode prog_9_method_36_code 18 = .ok (.putfield 80, 3) := by decide +kernel
theorem dd_M_node_21 : decode prog_9_method_36_code 21 = .ok (.aload_n 0, 1) := by decide +kernel
theorem dd_M_node_22 : decode prog_9_method_36_code 22 = .ok (.getfield 80, 3) := by decide +kernel
theorem dd_M_node_25 : decode prog_9_method_36_code 25 = .ok (.ifCond .le 5, 3) := by decide +kernel
theorem dd_M_node_28 : decode prog_9_method_36_code 28 = .ok (.iconst 0, 1) := by decide +kernel
theorem dd_M_node_29 : decode prog_9_method_36_code 29 = .ok (.ireturn, 1) := by decide +kernel
theorem dd_M_node_30 : decode prog_9_method_36_code 30 = .ok (.iload_n 2, 1) := by decide +kernel
theorem dd_M_node_31 : decode prog_9_method_36_code 31 = .ok (.tableswitch 72 0 4 #[33, 40, 46, 58, 65], 33) := by decide +kernel
theorem dd_M_node_64 : decode prog_9_method_36_code 64 = .ok (.aload_n 0, 1) := by decide +kernel
theorem dd_M_node_65 : decode prog_9_method_36_code 65 = .ok (.getfield 50, 3) := by decide +kernel
theorem dd_M_node_68 : decode prog_9_method_36_code 68 = .ok (.iload_n 1, 1) := by decide +kernel
theorem dd_M_node_69 : decode prog_9_method_36_code 69 = .ok (.iaload, 1) := by decide +kernel
theorem dd_M_node_70 : decode prog_9_method_36_code 70 = .ok (.ireturn, 1) := by decide +kernel
theorem dd_M_node_71 : decode prog_9_method_36_code 71 = .ok (.aload_n 0, 1) := by decide +kernel
theorem dd_M_node_72 : decode prog_9_method_36_code 72 = .ok (.iload_n 1, 1) := by decide +kernel
theorem dd_M_node_73 : decode prog_9_method_36_code 73 = .ok (.invokevirtual 205, 3) := by decide +kernel
theorem dd_M_node_76 : decode prog_9_method_36_code 76 = .ok (.ireturn, 1) := by decide +kernel
theorem dd_M_node_77 : decode prog_9_method_36_code 77 = .ok (.aload_n 0, 1) := by decide +kernel
theorem dd_M_node_78 : decode prog_9_method_36_code 78 = .ok (.getfield 33, 3) := by decide +kernel
theorem dd_M_node_81 : decode prog_9_method_36_code 81 = .ok (.aload_n 0, 1) := by decide +kernel
theorem dd_M_node_82 : decode prog_9_method_36_code 82 = .ok (.getfield 53, 3) := by decide +kernel
theorem dd_M_node_85 : decode prog_9_method_36_code 85 = .ok (.iload_n 1, 1) := by decide +kernel
theorem dd_M_node_86 : decode prog_9_method_36_code 86 = .ok (.iaload, 1) := by decide +kernel
theorem dd_M_node_87 : decode prog_9_method_36_code 87 = .ok (.iaload, 1) := by decide +kernel
theorem dd_M_node_88 : decode prog_9_method_36_code 88 = .ok (.ireturn, 1) := by decide +kernel
theorem dd_M_node_89 : decode prog_9_method_36_code 89 = .ok (.aload_n 0, 1) := by decide +kernel
theorem dd_M_node_90 : decode prog_9_method_36_code 90 = .ok (.getfield 56, 3) := by decide +kernel
theorem dd_M_node_93 : decode prog_9_method_36_code 93 = .ok (.iload_n 1, 1) := by decide +kernel
theorem dd_M_node_94 : decode prog_9_method_36_code 94 = .ok (.iaload, 1) := by decide +kernel
theorem dd_M_node_95 : decode prog_9_method_36_code 95 = .ok (.ireturn, 1) := by decide +kernel
theorem dd_M_node_96 : decode prog_9_method_36_code 96 = .ok (.aload_n 0, 1) := by decide +kernel
theorem dd_M_node_97 : decode prog_9_method_36_code 97 = .ok (.getfield 59, 3) := by decide +kernel
theorem dd_M_node_100 : decode prog_9_method_36_code 100 = .ok (.iload_n 1, 1) := by decide +kernel
theorem dd_M_node_101 : decode prog_9_method_36_code 101 = .ok (.iaload, 1) := by decide +kernel
theorem dd_M_node_102 : decode prog_9_method_36_code 102 = .ok (.ireturn, 1) := by decide +kernel
theorem dd_M_node_103 : decode prog_9_method_36_code 103 = .ok (.bipush (-3), 2) := by decide +kernel
theorem dd_M_node_105 : decode prog_9_method_36_code 105 = .ok (.ireturn, 1) := by decide +kernel
theorem dd_M_notation_0 : decode prog_9_method_13_code 0 = .ok (.iconst 0, 1) := by decide +kernel
theorem dd_M_notation_1 : decode prog_9_method_13_code 1 = .ok (.istore_n 2, 1) := by decide +kernel
theorem dd_M_notation_2 : decode prog_9_method_13_code 2 = .ok (.iconst 0, 1) := by decide +kernel
theorem dd_M_notation_3 : decode prog_9_method_13_code 3 = .ok (.istore_n 3, 1) := by decide +kernel
theorem dd_M_notation_4 : decode prog_9_method_13_code 4 = .ok (.iload_n 3, 1) := by decide +kernel
theorem dd_M_notation_5 : decode prog_9_method_13_code 5 = .ok (.aload_n 0, 1) := by decide +kernel
theorem dd_M_notation_6 : decode prog_9_method_13_code 6 = .ok (.getfield 103, 3) := by decide +kernel
theorem dd_M_notation_9 : decode prog_9_method_13_code 9 = .ok (.if_icmp .ge 32, 3) := by decide +kernel
theorem dd_M_notation_12 : decode prog_9_method_13_code 12 = .ok (.iload_n 2, 1) := by decide +kernel
theorem dd_M_notation_13 : decode prog_9_method_13_code 13 = .ok (.ifCond .ne 16, 3) := by decide +kernel
theorem dd_M_notation_16 : decode prog_9_method_13_code 16 = .ok (.aload_n 0, 1) := by decide +kernel
theorem dd_M_notation_17 : decode prog_9_method_13_code 17 = .ok (.getfield 7, 3) := by decide +kernel
theorem dd_M_notation_20 : decode prog_9_method_13_code 20 = .ok (.bipush 84, 2) := by decide +kernel
theorem dd_M_notation_22 : decode prog_9_method_13_code 22 = .ok (.iload_n 3, 1) := by decide +kernel
theorem dd_M_notation_23 : decode prog_9_method_13_code 23 = .ok (.iadd, 1) := by decide +kernel
theorem dd_M_notation_24 : decode prog_9_method_13_code 24 = .ok (.iaload, 1) := by decide +kernel
theorem dd_M_notation_25 : decode prog_9_method_13_code 25 = .ok (.iconst (-1), 1) := by decide +kernel
theorem dd_M_notation_26 : decode prog_9_method_13_code 26 = .ok (.if_icmp .ne 7, 3) := by decide +kernel
theorem dd_M_notation_29 : decode prog_9_method_13_code 29 = .ok (.iconst 1, 1) := by decide +kernel
theorem dd_M_notation_30 : decode prog_9_method_13_code 30 = .ok (.goto 4, 3) := by decide +kernel
theorem dd_M_notation_33 : decode prog_9_method_13_code 33 = .ok (.iconst 0, 1) := by decide +kernel
theorem dd_M_notation_34 : decode prog_9_method_13_code 34 = .ok (.istore_n 2, 1) := by decide +kernel
theorem dd_M_notation_35 : decode prog_9_method_13_code 35 = .ok (.iinc 3 1, 3) := by decide +kernel
theorem dd_M_notation_38 : decode prog_9_method_13_code 38 = .ok (.goto (-34), 3) := by decide +kernel
theorem dd_M_notation_41 : decode prog_9_method_13_code 41 = .ok (.aload_n 0, 1) := by decide +kernel
theorem dd_M_notation_42 : decode prog_9_method_13_code 42 = .ok (.iload_n 1, 1) := by decide +kernel
theorem dd_M_notation_43 : decode prog_9_method_13_code 43 = .ok (.ifCond .lt 13, 3) := by decide +kernel
theorem dd_M_notation_46 : decode prog_9_method_13_code 46 = .ok (.iload_n 1, 1) := by decide +kernel
theorem dd_M_notation_47 : decode prog_9_method_13_code 47 = .ok (.bipush 9, 2) := by decide +kernel
theorem dd_M_notation_49 : decode prog_9_method_13_code 49 = .ok (.if_icmp .gt 7, 3) := by decide +kernel
theorem dd_M_notation_52 : decode prog_9_method_13_code 52 = .ok (.iload_n 2, 1) := by decide +kernel
theorem dd_M_notation_53 : decode prog_9_method_13_code 53 = .ok (.ifCond .ne 7, 3) := by decide +kernel
theorem dd_M_notation_56 : decode prog_9_method_13_code 56 = .ok (.iconst 1, 1) := by decide +kernel
theorem dd_M_notation_57 : decode prog_9_method_13_code 57 = .ok (.goto 17, 3) := by decide +kernel
theorem dd_M_notation_60 : decode prog_9_method_13_code 60 = .ok (.aload_n 0, 1) := by decide +kernel
theorem dd_M_notation_61 : decode prog_9_method_13_code 61 = .ok (.getfield 100, 3) := by decide +kernel
theorem dd_M_notation_64 : decode prog_9_method_13_code 64 = .ok (.bipush 12, 2) := by decide +kernel
theorem dd_M_notation_66 : decode prog_9_method_13_code 66 = .ok (.if_icmp .ne 7, 3) := by decide +kernel
theorem dd_M_notation_69 : decode prog_9_method_13_code 69 = .ok (.iconst 2, 1) := by decide +kernel
theorem dd_M_notation_70 : decode prog_9_method_13_code 70 = .ok (.goto 4, 3) := by decide +kernel
theorem dd_M_notation_73 : decode prog_9_method_13_code 73 = .ok (.iconst 0, 1) := by decide +kernel
theorem dd_M_notation_74 : decode prog_9_method_13_code 74 = .ok (.putfield 80, 3) := by decide +kernel
theorem dd_M_notation_77 : decode prog_9_method_13_code 77 = .ok (.aload_n 0, 1) := by decide +kernel
theorem dd_M_notation_78 : decode prog_9_method_13_code 78 = .ok (.getfield 80, 3) := by decide +kernel
theorem dd_M_notation_81 : decode prog_9_method_13_code 81 = .ok (.iconst 1, 1) := by decide +kernel
theorem dd_M_notation_82 : decode prog_9_method_13_code 82 = .ok (.if_icmp .ne 8, 3) := by decide +kernel
theorem dd_M_notation_85 : decode prog_9_method_13_code 85 = .ok (.aload_n 0, 1) := by decide +kernel
theorem dd_M_notation_86 : decode prog_9_method_13_code 86 = .ok (.iconst 0, 1) := by decide +kernel
theorem dd_M_notation_87 : decode prog_9_method_13_code 87 = .ok (.putfield 103, 3) := by decide +kernel
theorem dd_M_notation_90 : decode prog_9_method_13_code 90 = .ok (.aload_n 0, 1) := by decide +kernel
theorem dd_M_notation_91 : decode prog_9_method_13_code 91 = .ok (.getfield 80, 3) := by decide +kernel
theorem dd_M_notation_94 : decode prog_9_method_13_code 94 = .ok (.ifCond .le 5, 3) := by decide +kernel
theorem dd_M_notation_97 : decode prog_9_method_13_code 97 = .ok (.iconst 0, 1) := by decide +kernel
theorem dd_M_notation_98 : decode prog_9_method_13_code 98 = .ok (.ireturn, 1) := by decide +kernel
theorem dd_M_notation_99 : decode prog_9_method_13_code 99 = .ok (.iconst 0, 1) := by decide +kernel
theorem dd_M_notation_100 : decode prog_9_method_13_code 100 = .ok (.istore_n 3, 1) := by decide +kernel
theorem dd_M_notation_101 : decode prog_9_method_13_code 101 = .ok (.iload_n 3, 1) := by decide +kernel
theorem dd_M_notation_102 : decode prog_9_method_13_code 102 = .ok (.aload_n 0, 1) := by decide +kernel
theorem dd_M_notation_103 : decode prog_9_method_13_code 103 = .ok (.getfield 103, 3) := by decide +kernel
theorem dd_M_notation_106 : decode prog_9_method_13_code 106 = .ok (.if_icmp .ge 55, 3) := by decide +kernel
theorem dd_M_notation_109 : decode prog_9_method_13_code 109 = .ok (.aload_n 0, 1) := by decide +kernel
theorem dd_M_notation_110 : decode prog_9_method_13_code 110 = .ok (.getfield 7, 3) := by decide +kernel
theorem dd_M_notation_113 : decode prog_9_method_13_code 113 = .ok (.bipush 7, 2) := by decide +kernel
theorem dd_M_notation_115 : decode prog_9_method_13_code 115 = .ok (.aload_n 0, 1) := by decide +kernel
theorem dd_M_notation_116 : decode prog_9_method_13_code 116 = .ok (.getfield 100, 3) := by decide +kernel
theorem dd_M_notation_119 : decode prog_9_method_13_code 119 = .ok (.imul, 1) := by decide +kernel
theorem dd_M_notation_120 : decode prog_9_method_13_code 120 = .ok (.iload_n 3, 1) := by decide +kernel
theorem dd_M_notation_121 : decode prog_9_method_13_code 121 = .ok (.iadd, 1) := by decide +kernel
theorem dd_M_notation_122 : decode prog_9_method_13_code 122 = .ok (.aload_n 0, 1) := by decide +kernel
theorem dd_M_notation_123 : decode prog_9_method_13_code 123 = .ok (.getfield 7, 3) := by decide +kernel
theorem dd_M_notation_126 : decode prog_9_method_13_code 126 = .ok (.bipush 84, 2) := by decide +kernel
theorem dd_M_notation_128 : decode prog_9_method_13_code 128 = .ok (.iload_n 3, 1) := by decide +kernel
theorem dd_M_notation_129 : decode prog_9_method_13_code 129 = .ok (.iadd, 1) := by decide +kernel
theorem dd_M_notation_130 : decode prog_9_method_13_code 130 = .ok (.iaload, 1) := by decide +kernel
theorem dd_M_notation_131 : decode prog_9_method_13_code 131 = .ok (.iastore, 1) := by decide +kernel
theorem dd_M_notation_132 : decode prog_9_method_13_code 132 = .ok (.aload_n 0, 1) := by decide +kernel
theorem dd_M_notation_133 : decode prog_9_method_13_code 133 = .ok (.getfield 13, 3) := by decide +kernel
theorem dd_M_notation_136 : decode prog_9_method_13_code 136 = .ok (.bipush 7, 2) := by decide +kernel
end
section
theorem dd_M_notation_138 : decode prog_9_method_13_code 138 = .ok (.aload_n 0, 1) := by decide +kernel
theorem dd_M_notation_139 : decode prog_9_method_13_code 139 = .ok (.getfield 100, 3) := by decide +kernel
theorem dd_M_notation_142 : decode prog_9_method_13_code 142 = .ok (.imul, 1) := by decide +kernel
theorem dd_M_notation_143 : decode prog_9_method_13_code 143 = .ok (.iload_n 3, 1) := by decide +kernel
theorem dd_M_notation_144 : decode prog_9_method_13_code 144 = .ok (.iadd, 1) := by decide +kernel
theorem dd_M_notation_145 : decode prog_9_method_13_code 145 = .ok (.aload_n 0, 1) := by decide +kernel
theorem dd_M_notation_146 : decode prog_9_method_13_code 146 = .ok (.getfield 13, 3) := by decide +kernel
theorem dd_M_notation_149 : decode prog_9_method_13_code 149 = .ok (.bipush 84, 2) := by decide +kernel
theorem dd_M_notation_151 : decode prog_9_method_13_code 151 = .ok (.iload_n 3, 1) := by decide +kernel
theorem dd_M_notation_152 : decode prog_9_method_13_code 152 = .ok (.iadd, 1) := by decide +kernel
theorem dd_M_notation_153 : decode prog_9_method_13_code 153 = .ok (.laload, 1) := by decide +kernel
theorem dd_M_notation_154 : decode prog_9_method_13_code 154 = .ok (.lastore, 1) := by decide +kernel
theorem dd_M_notation_155 : decode prog_9_method_13_code 155 = .ok (.iinc 3 1, 3) := by decide +kernel
theorem dd_M_notation_158 : decode prog_9_method_13_code 158 = .ok (.goto (-57), 3) := by decide +kernel
theorem dd_M_notation_161 : decode prog_9_method_13_code 161 = .ok (.aload_n 0, 1) := by decide +kernel
theorem dd_M_notation_162 : decode prog_9_method_13_code 162 = .ok (.getfield 17, 3) := by decide +kernel
theorem dd_M_notation_165 : decode prog_9_method_13_code 165 = .ok (.aload_n 0, 1) := by decide +kernel
theorem dd_M_notation_166 : decode prog_9_method_13_code 166 = .ok (.getfield 100, 3) := by decide +kernel
theorem dd_M_notation_169 : decode prog_9_method_13_code 169 = .ok (.aload_n 0, 1) := by decide +kernel
theorem dd_M_notation_170 : decode prog_9_method_13_code 170 = .ok (.getfield 103, 3) := by decide +kernel
theorem dd_M_notation_173 : decode prog_9_method_13_code 173 = .ok (.iastore, 1) := by decide +kernel
theorem dd_M_notation_174 : decode prog_9_method_13_code 174 = .ok (.aload_n 0, 1) := by decide +kernel
theorem dd_M_notation_175 : decode prog_9_method_13_code 175 = .ok (.getfield 20, 3) := by decide +kernel
theorem dd_M_notation_178 : decode prog_9_method_13_code 178 = .ok (.aload_n 0, 1) := by decide +kernel
theorem dd_M_notation_179 : decode prog_9_method_13_code 179 = .ok (.getfield 100, 3) := by decide +kernel
theorem dd_M_notation_182 : decode prog_9_method_13_code 182 = .ok (.iload_n 1, 1) := by decide +kernel
theorem dd_M_notation_183 : decode prog_9_method_13_code 183 = .ok (.iastore, 1) := by decide +kernel
theorem dd_M_notation_184 : decode prog_9_method_13_code 184 = .ok (.aload_n 0, 1) := by decide +kernel
theorem dd_M_notation_185 : decode prog_9_method_13_code 185 = .ok (.dup, 1) := by decide +kernel
theorem dd_M_notation_186 : decode prog_9_method_13_code 186 = .ok (.getfield 100, 3) := by decide +kernel
theorem dd_M_notation_189 : decode prog_9_method_13_code 189 = .ok (.iconst 1, 1) := by decide +kernel
theorem dd_M_notation_190 : decode prog_9_method_13_code 190 = .ok (.iadd, 1) := by decide +kernel
theorem dd_M_notation_191 : decode prog_9_method_13_code 191 = .ok (.putfield 100, 3) := by decide +kernel
theorem dd_M_notation_194 : decode prog_9_method_13_code 194 = .ok (.aload_n 0, 1) := by decide +kernel
theorem dd_M_notation_195 : decode prog_9_method_13_code 195 = .ok (.iconst 0, 1) := by decide +kernel
theorem dd_M_notation_196 : decode prog_9_method_13_code 196 = .ok (.putfield 103, 3) := by decide +kernel
theorem dd_M_notation_199 : decode prog_9_method_13_code 199 = .ok (.aload_n 0, 1) := by decide +kernel
theorem dd_M_notation_200 : decode prog_9_method_13_code 200 = .ok (.iconst 0, 1) := by decide +kernel
theorem dd_M_notation_201 : decode prog_9_method_13_code 201 = .ok (.putfield 122, 3) := by decide +kernel
theorem dd_M_notation_204 : decode prog_9_method_13_code 204 = .ok (.aload_n 0, 1) := by decide +kernel
theorem dd_M_notation_205 : decode prog_9_method_13_code 205 = .ok (.getfield 100, 3) := by decide +kernel
theorem dd_M_notation_208 : decode prog_9_method_13_code 208 = .ok (.iconst 1, 1) := by decide +kernel
theorem dd_M_notation_209 : decode prog_9_method_13_code 209 = .ok (.isub, 1) := by decide +kernel
theorem dd_M_notation_210 : decode prog_9_method_13_code 210 = .ok (.ireturn, 1) := by decide +kernel
theorem dd_M_part_0 : decode prog_9_method_10_code 0 = .ok (.aload_n 0, 1) := by decide +kernel
theorem dd_M_part_1 : decode prog_9_method_10_code 1 = .ok (.getfield 7, 3) := by decide +kernel
theorem dd_M_part_4 : decode prog_9_method_10_code 4 = .ok (.bipush 84, 2) := by decide +kernel
theorem dd_M_part_6 : decode prog_9_method_10_code 6 = .ok (.aload_n 0, 1) := by decide +kernel
theorem dd_M_part_7 : decode prog_9_method_10_code 7 = .ok (.getfield 103, 3) := by decide +kernel
theorem dd_M_part_10 : decode prog_9_method_10_code 10 = .ok (.iadd, 1) := by decide +kernel
theorem dd_M_part_11 : decode prog_9_method_10_code 11 = .ok (.iload_n 1, 1) := by decide +kernel
theorem dd_M_part_12 : decode prog_9_method_10_code 12 = .ok (.iastore, 1) := by decide +kernel
theorem dd_M_part_13 : decode prog_9_method_10_code 13 = .ok (.aload_n 0, 1) := by decide +kernel
theorem dd_M_part_14 : decode prog_9_method_10_code 14 = .ok (.getfield 13, 3) := by decide +kernel
theorem dd_M_part_17 : decode prog_9_method_10_code 17 = .ok (.bipush 84, 2) := by decide +kernel
theorem dd_M_part_19 : decode prog_9_method_10_code 19 = .ok (.aload_n 0, 1) := by decide +kernel
theorem dd_M_part_20 : decode prog_9_method_10_code 20 = .ok (.getfield 103, 3) := by decide +kernel
theorem dd_M_part_23 : decode prog_9_method_10_code 23 = .ok (.iadd, 1) := by decide +kernel
theorem dd_M_part_24 : decode prog_9_method_10_code 24 = .ok (.lload_n 2, 1) := by decide +kernel
theorem dd_M_part_25 : decode prog_9_method_10_code 25 = .ok (.lastore, 1) := by decide +kernel
theorem dd_M_part_26 : decode prog_9_method_10_code 26 = .ok (.aload_n 0, 1) := by decide +kernel
theorem dd_M_part_27 : decode prog_9_method_10_code 27 = .ok (.dup, 1) := by decide +kernel
theorem dd_M_part_28 : decode prog_9_method_10_code 28 = .ok (.getfield 103, 3) := by decide +kernel
theorem dd_M_part_31 : decode prog_9_method_10_code 31 = .ok (.iconst 1, 1) := by decide +kernel
theorem dd_M_part_32 : decode prog_9_method_10_code 32 = .ok (.iadd, 1) := by decide +kernel
theorem dd_M_part_33 : decode prog_9_method_10_code 33 = .ok (.putfield 103, 3) := by decide +kernel
theorem dd_M_part_36 : decode prog_9_method_10_code 36 = .ok (.aload_n 0, 1) := by decide +kernel
theorem dd_M_part_37 : decode prog_9_method_10_code 37 = .ok (.getfield 103, 3) := by decide +kernel
theorem dd_M_part_40 : decode prog_9_method_10_code 40 = .ok (.ireturn, 1) := by decide +kernel
theorem dd_M_print_0 : decode prog_9_method_41_code 0 = .ok (.aload_n 0, 1) := by decide +kernel
theorem dd_M_print_1 : decode prog_9_method_41_code 1 = .ok (.aload_n 0, 1) := by decide +kernel
theorem dd_M_print_2 : decode prog_9_method_41_code 2 = .ok (.getfield 122, 3) := by decide +kernel
theorem dd_M_print_5 : decode prog_9_method_41_code 5 = .ok (.ifCond .ne 7, 3) := by decide +kernel
theorem dd_M_print_8 : decode prog_9_method_41_code 8 = .ok (.iconst 1, 1) := by decide +kernel
theorem dd_M_print_9 : decode prog_9_method_41_code 9 = .ok (.goto 4, 3) := by decide +kernel
theorem dd_M_print_12 : decode prog_9_method_41_code 12 = .ok (.iconst 0, 1) := by decide +kernel
theorem dd_M_print_13 : decode prog_9_method_41_code 13 = .ok (.putfield 80, 3) := by decide +kernel
theorem dd_M_print_16 : decode prog_9_method_41_code 16 = .ok (.aload_n 0, 1) := by decide +kernel
theorem dd_M_print_17 : decode prog_9_method_41_code 17 = .ok (.getfield 80, 3) := by decide +kernel
theorem dd_M_print_20 : decode prog_9_method_41_code 20 = .ok (.ifCond .le 5, 3) := by decide +kernel
theorem dd_M_print_23 : decode prog_9_method_41_code 23 = .ok (.iconst 0, 1) := by decide +kernel
theorem dd_M_print_24 : decode prog_9_method_41_code 24 = .ok (.ireturn, 1) := by decide +kernel
theorem dd_M_print_25 : decode prog_9_method_41_code 25 = .ok (.aload_n 0, 1) := by decide +kernel
theorem dd_M_print_26 : decode prog_9_method_41_code 26 = .ok (.iconst 0, 1) := by decide +kernel
theorem dd_M_print_27 : decode prog_9_method_41_code 27 = .ok (.putfield 208, 3) := by decide +kernel
theorem dd_M_print_30 : decode prog_9_method_41_code 30 = .ok (.aload_n 0, 1) := by decide +kernel
theorem dd_M_print_31 : decode prog_9_method_41_code 31 = .ok (.iconst 0, 1) := by decide +kernel
theorem dd_M_print_32 : decode prog_9_method_41_code 32 = .ok (.putfield 188, 3) := by decide +kernel
theorem dd_M_print_35 : decode prog_9_method_41_code 35 = .ok (.aload_n 0, 1) := by decide +kernel
theorem dd_M_print_36 : decode prog_9_method_41_code 36 = .ok (.iconst 0, 1) := by decide +kernel
theorem dd_M_print_37 : decode prog_9_method_41_code 37 = .ok (.invokevirtual 211, 3) := by decide +kernel
theorem dd_M_print_40 : decode prog_9_method_41_code 40 = .ok (.aload_n 0, 1) := by decide +kernel
theorem dd_M_print_41 : decode prog_9_method_41_code 41 = .ok (.getfield 188, 3) := by decide +kernel
theorem dd_M_print_44 : decode prog_9_method_41_code 44 = .ok (.ifCond .le 92, 3) := by decide +kernel
theorem dd_M_print_47 : decode prog_9_method_41_code 47 = .ok (.aload_n 0, 1) := by decide +kernel
theorem dd_M_print_48 : decode prog_9_method_41_code 48 = .ok (.dup, 1) := by decide +kernel
theorem dd_M_print_49 : decode prog_9_method_41_code 49 = .ok (.getfield 188, 3) := by decide +kernel
theorem dd_M_print_52 : decode prog_9_method_41_code 52 = .ok (.iconst 1, 1) := by decide +kernel
theorem dd_M_print_53 : decode prog_9_method_41_code 53 = .ok (.isub, 1) := by decide +kernel
theorem dd_M_print_54 : decode prog_9_method_41_code 54 = .ok (.putfield 188, 3) := by decide +kernel
theorem dd_M_print_57 : decode prog_9_method_41_code 57 = .ok (.aload_n 0, 1) := by decide +kernel
theorem dd_M_print_58 : decode prog_9_method_41_code 58 = .ok (.getfield 77, 3) := by decide +kernel
theorem dd_M_print_61 : decode prog_9_method_41_code 61 = .ok (.aload_n 0, 1) := by decide +kernel
theorem dd_M_print_62 : decode prog_9_method_41_code 62 = .ok (.getfield 188, 3) := by decide +kernel
theorem dd_M_print_65 : decode prog_9_method_41_code 65 = .ok (.iaload, 1) := by decide +kernel
theorem dd_M_print_66 : decode prog_9_method_41_code 66 = .ok (.istore_n 1, 1) := by decide +kernel
theorem dd_M_print_67 : decode prog_9_method_41_code 67 = .ok (.iload_n 1, 1) := by decide +kernel
theorem dd_M_print_68 : decode prog_9_method_41_code 68 = .ok (.sipush 1000, 3) := by decide +kernel
theorem dd_M_print_71 : decode prog_9_method_41_code 71 = .ok (.if_icmp .eq 10, 3) := by decide +kernel
theorem dd_M_print_74 : decode prog_9_method_41_code 74 = .ok (.iload_n 1, 1) := by decide +kernel
theorem dd_M_print_75 : decode prog_9_method_41_code 75 = .ok (.sipush 1001, 3) := by decide +kernel
theorem dd_M_print_78 : decode prog_9_method_41_code 78 = .ok (.if_icmp .ne 26, 3) := by decide +kernel
theorem dd_M_print_81 : decode prog_9_method_41_code 81 = .ok (.aload_n 0, 1) := by decide +kernel
theorem dd_M_print_82 : decode prog_9_method_41_code 82 = .ok (.iload_n 1, 1) := by decide +kernel
theorem dd_M_print_83 : decode prog_9_method_41_code 83 = .ok (.sipush 1000, 3) := by decide +kernel
theorem dd_M_print_86 : decode prog_9_method_41_code 86 = .ok (.if_icmp .ne 9, 3) := by decide +kernel
theorem dd_M_print_89 : decode prog_9_method_41_code 89 = .ok (.ldc2_w 118, 3) := by decide +kernel
theorem dd_M_print_92 : decode prog_9_method_41_code 92 = .ok (.goto 6, 3) := by decide +kernel
theorem dd_M_print_95 : decode prog_9_method_41_code 95 = .ok (.ldc2_w 120, 3) := by decide +kernel
theorem dd_M_print_98 : decode prog_9_method_41_code 98 = .ok (.invokevirtual 218, 3) := by decide +kernel
theorem dd_M_print_101 : decode prog_9_method_41_code 101 = .ok (.goto 32, 3) := by decide +kernel
theorem dd_M_print_104 : decode prog_9_method_41_code 104 = .ok (.iload_n 1, 1) := by decide +kernel
theorem dd_M_print_105 : decode prog_9_method_41_code 105 = .ok (.sipush 500, 3) := by decide +kernel
theorem dd_M_print_108 : decode prog_9_method_41_code 108 = .ok (.if_icmp .lt 20, 3) := by decide +kernel
theorem dd_M_print_111 : decode prog_9_method_41_code 111 = .ok (.aload_n 0, 1) := by decide +kernel
theorem dd_M_print_112 : decode prog_9_method_41_code 112 = .ok (.aload_n 0, 1) := by decide +kernel
theorem dd_M_print_113 : decode prog_9_method_41_code 113 = .ok (.getfield 30, 3) := by decide +kernel
theorem dd_M_print_116 : decode prog_9_method_41_code 116 = .ok (.iload_n 1, 1) := by decide +kernel
theorem dd_M_print_117 : decode prog_9_method_41_code 117 = .ok (.sipush 500, 3) := by decide +kernel
theorem dd_M_print_120 : decode prog_9_method_41_code 120 = .ok (.isub, 1) := by decide +kernel
theorem dd_M_print_121 : decode prog_9_method_41_code 121 = .ok (.laload, 1) := by decide +kernel
theorem dd_M_print_122 : decode prog_9_method_41_code 122 = .ok (.invokevirtual 218, 3) := by decide +kernel
theorem dd_M_print_125 : decode prog_9_method_41_code 125 = .ok (.goto 8, 3) := by decide +kernel
theorem dd_M_print_128 : decode prog_9_method_41_code 128 = .ok (.aload_n 0, 1) := by decide +kernel
theorem dd_M_print_129 : decode prog_9_method_41_code 129 = .ok (.iload_n 1, 1) := by decide +kernel
theorem dd_M_print_130 : decode prog_9_method_41_code 130 = .ok (.invokevirtual 222, 3) := by decide +kernel
theorem dd_M_print_133 : decode prog_9_method_41_code 133 = .ok (.goto (-93), 3) := by decide +kernel
theorem dd_M_print_136 : decode prog_9_method_41_code 136 = .ok (.aload_n 0, 1) := by decide +kernel
theorem dd_M_print_137 : decode prog_9_method_41_code 137 = .ok (.getfield 208, 3) := by decide +kernel
theorem dd_M_print_140 : decode prog_9_method_41_code 140 = .ok (.ireturn, 1) := by decide +kernel
theorem dd_M_put_0 : decode prog_9_method_14_code 0 = .ok (.aload_n 0, 1) := by decide +kernel
theorem dd_M_put_1 : decode prog_9_method_14_code 1 = .ok (.iconst 0, 1) := by decide +kernel
theorem dd_M_put_2 : decode prog_9_method_14_code 2 = .ok (.putfield 80, 3) := by decide +kernel
theorem dd_M_put_5 : decode prog_9_method_14_code 5 = .ok (.iload_n 3, 1) := by decide +kernel
theorem dd_M_put_6 : decode prog_9_method_14_code 6 = .ok (.iconst 1, 1) := by decide +kernel
theorem dd_M_put_7 : decode prog_9_method_14_code 7 = .ok (.if_icmp .lt 21, 3) := by decide +kernel
theorem dd_M_put_10 : decode prog_9_method_14_code 10 = .ok (.iload_n 3, 1) := by decide +kernel
theorem dd_M_put_11 : decode prog_9_method_14_code 11 = .ok (.bipush 8, 2) := by decide +kernel
theorem dd_M_put_13 : decode prog_9_method_14_code 13 = .ok (.if_icmp .gt 15, 3) := by decide +kernel
theorem dd_M_put_16 : decode prog_9_method_14_code 16 = .ok (.aload_n 0, 1) := by decide +kernel
theorem dd_M_put_17 : decode prog_9_method_14_code 17 = .ok (.getfield 125, 3) := by decide +kernel
theorem dd_M_put_20 : decode prog_9_method_14_code 20 = .ok (.iload_n 3, 1) := by decide +kernel
theorem dd_M_put_21 : decode prog_9_method_14_code 21 = .ok (.iadd, 1) := by decide +kernel
theorem dd_M_put_22 : decode prog_9_method_14_code 22 = .ok (.sipush 200, 3) := by decide +kernel
theorem dd_M_put_25 : decode prog_9_method_14_code 25 = .ok (.if_icmp .le 5, 3) := by decide +kernel
theorem dd_M_put_28 : decode prog_9_method_14_code 28 = .ok (.iconst 0, 1) := by decide +kernel
theorem dd_M_put_29 : decode prog_9_method_14_code 29 = .ok (.ireturn, 1) := by decide +kernel
theorem dd_M_put_30 : decode prog_9_method_14_code 30 = .ok (.iconst 0, 1) := by decide +kernel
theorem dd_M_put_31 : decode prog_9_method_14_code 31 = .ok (.istore 4, 2) := by decide +kernel
theorem dd_M_put_33 : decode prog_9_method_14_code 33 = .ok (.iload 4, 2) := by decide +kernel
theorem dd_M_put_35 : decode prog_9_method_14_code 35 = .ok (.iload_n 3, 1) := by decide +kernel
theorem dd_M_put_36 : decode prog_9_method_14_code 36 = .ok (.if_icmp .ge 28, 3) := by decide +kernel
theorem dd_M_put_39 : decode prog_9_method_14_code 39 = .ok (.aload_n 0, 1) := by decide +kernel
theorem dd_M_put_40 : decode prog_9_method_14_code 40 = .ok (.getfield 23, 3) := by decide +kernel
theorem dd_M_put_43 : decode prog_9_method_14_code 43 = .ok (.aload_n 0, 1) := by decide +kernel
theorem dd_M_put_44 : decode prog_9_method_14_code 44 = .ok (.getfield 125, 3) := by decide +kernel
theorem dd_M_put_47 : decode prog_9_method_14_code 47 = .ok (.iload 4, 2) := by decide +kernel
theorem dd_M_put_49 : decode prog_9_method_14_code 49 = .ok (.iadd, 1) := by decide +kernel
theorem dd_M_put_50 : decode prog_9_method_14_code 50 = .ok (.lload_n 1, 1) := by decide +kernel
theorem dd_M_put_51 : decode prog_9_method_14_code 51 = .ok (.iload_n 3, 1) := by decide +kernel
theorem dd_M_put_52 : decode prog_9_method_14_code 52 = .ok (.iload 4, 2) := by decide +kernel
theorem dd_M_put_54 : decode prog_9_method_14_code 54 = .ok (.invokestatic 92, 3) := by decide +kernel
theorem dd_M_put_57 : decode prog_9_method_14_code 57 = .ok (.iastore, 1) := by decide +kernel
theorem dd_M_put_58 : decode prog_9_method_14_code 58 = .ok (.iinc 4 1, 3) := by decide +kernel
theorem dd_M_put_61 : decode prog_9_method_14_code 61 = .ok (.goto (-28), 3) := by decide +kernel
theorem dd_M_put_64 : decode prog_9_method_14_code 64 = .ok (.aload_n 0, 1) := by decide +kernel
theorem dd_M_put_65 : decode prog_9_method_14_code 65 = .ok (.dup, 1) := by decide +kernel
theorem dd_M_put_66 : decode prog_9_method_14_code 66 = .ok (.getfield 125, 3) := by decide +kernel
theorem dd_M_put_69 : decode prog_9_method_14_code 69 = .ok (.iload_n 3, 1) := by decide +kernel
theorem dd_M_put_70 : decode prog_9_method_14_code 70 = .ok (.iadd, 1) := by decide +kernel
theorem dd_M_put_71 : decode prog_9_method_14_code 71 = .ok (.putfield 125, 3) := by decide +kernel
theorem dd_M_put_74 : decode prog_9_method_14_code 74 = .ok (.iconst 1, 1) := by decide +kernel
theorem dd_M_put_75 : decode prog_9_method_14_code 75 = .ok (.ireturn, 1) := by decide +kernel
theorem dd_M_putWord_0 : decode prog_9_method_38_code 0 = .ok (.aload_n 0, 1) := by decide +kernel
theorem dd_M_putWord_1 : decode prog_9_method_38_code 1 = .ok (.getfield 208, 3) := by decide +kernel
theorem dd_M_putWord_4 : decode prog_9_method_38_code 4 = .ok (.ifCond .le 24, 3) := by decide +kernel
theorem dd_M_putWord_7 : decode prog_9_method_38_code 7 = .ok (.aload_n 0, 1) := by decide +kernel
theorem dd_M_putWord_8 : decode prog_9_method_38_code 8 = .ok (.getfield 74, 3) := by decide +kernel
theorem dd_M_putWord_11 : decode prog_9_method_38_code 11 = .ok (.aload_n 0, 1) := by decide +kernel
theorem dd_M_putWord_12 : decode prog_9_method_38_code 12 = .ok (.getfield 208, 3) := by decide +kernel
theorem dd_M_putWord_15 : decode prog_9_method_38_code 15 = .ok (.bipush 32, 2) := by decide +kernel
theorem dd_M_putWord_17 : decode prog_9_method_38_code 17 = .ok (.iastore, 1) := by decide +kernel
theorem dd_M_putWord_18 : decode prog_9_method_38_code 18 = .ok (.aload_n 0, 1) := by decide +kernel
theorem dd_M_putWord_19 : decode prog_9_method_38_code 19 = .ok (.dup, 1) := by decide +kernel
theorem dd_M_putWord_20 : decode prog_9_method_38_code 20 = .ok (.getfield 208, 3) := by decide +kernel
theorem dd_M_putWord_23 : decode prog_9_method_38_code 23 = .ok (.iconst 1, 1) := by decide +kernel
theorem dd_M_putWord_24 : decode prog_9_method_38_code 24 = .ok (.iadd, 1) := by decide +kernel
theorem dd_M_putWord_25 : decode prog_9_method_38_code 25 = .ok (.putfield 208, 3) := by decide +kernel
theorem dd_M_putWord_28 : decode prog_9_method_38_code 28 = .ok (.bipush 56, 2) := by decide +kernel
theorem dd_M_putWord_30 : decode prog_9_method_38_code 30 = .ok (.istore_n 3, 1) := by decide +kernel
theorem dd_M_putWord_31 : decode prog_9_method_38_code 31 = .ok (.iload_n 3, 1) := by decide +kernel
theorem dd_M_putWord_32 : decode prog_9_method_38_code 32 = .ok (.ifCond .lt 48, 3) := by decide +kernel
theorem dd_M_putWord_35 : decode prog_9_method_38_code 35 = .ok (.lload_n 1, 1) := by decide +kernel
theorem dd_M_putWord_36 : decode prog_9_method_38_code 36 = .ok (.iload_n 3, 1) := by decide +kernel
theorem dd_M_putWord_37 : decode prog_9_method_38_code 37 = .ok (.lshr, 1) := by decide +kernel
theorem dd_M_putWord_38 : decode prog_9_method_38_code 38 = .ok (.ldc2_w 90, 3) := by decide +kernel
theorem dd_M_putWord_41 : decode prog_9_method_38_code 41 = .ok (.land, 1) := by decide +kernel
theorem dd_M_putWord_42 : decode prog_9_method_38_code 42 = .ok (.l2i, 1) := by decide +kernel
theorem dd_M_putWord_43 : decode prog_9_method_38_code 43 = .ok (.istore 4, 2) := by decide +kernel
theorem dd_M_putWord_45 : decode prog_9_method_38_code 45 = .ok (.iload 4, 2) := by decide +kernel
theorem dd_M_putWord_47 : decode prog_9_method_38_code 47 = .ok (.ifCond .ne 6, 3) := by decide +kernel
theorem dd_M_putWord_50 : decode prog_9_method_38_code 50 = .ok (.goto 24, 3) := by decide +kernel
theorem dd_M_putWord_53 : decode prog_9_method_38_code 53 = .ok (.aload_n 0, 1) := by decide +kernel
theorem dd_M_putWord_54 : decode prog_9_method_38_code 54 = .ok (.getfield 74, 3) := by decide +kernel
theorem dd_M_putWord_57 : decode prog_9_method_38_code 57 = .ok (.aload_n 0, 1) := by decide +kernel
theorem dd_M_putWord_58 : decode prog_9_method_38_code 58 = .ok (.getfield 208, 3) := by decide +kernel
theorem dd_M_putWord_61 : decode prog_9_method_38_code 61 = .ok (.iload 4, 2) := by decide +kernel
theorem dd_M_putWord_63 : decode prog_9_method_38_code 63 = .ok (.iastore, 1) := by decide +kernel
theorem dd_M_putWord_64 : decode prog_9_method_38_code 64 = .ok (.aload_n 0, 1) := by decide +kernel
theorem dd_M_putWord_65 : decode prog_9_method_38_code 65 = .ok (.dup, 1) := by decide +kernel
theorem dd_M_putWord_66 : decode prog_9_method_38_code 66 = .ok (.getfield 208, 3) := by decide +kernel
theorem dd_M_putWord_69 : decode prog_9_method_38_code 69 = .ok (.iconst 1, 1) := by decide +kernel
theorem dd_M_putWord_70 : decode prog_9_method_38_code 70 = .ok (.iadd, 1) := by decide +kernel
theorem dd_M_putWord_71 : decode prog_9_method_38_code 71 = .ok (.putfield 208, 3) := by decide +kernel
theorem dd_M_putWord_74 : decode prog_9_method_38_code 74 = .ok (.iinc 3 (-8), 3) := by decide +kernel
theorem dd_M_putWord_77 : decode prog_9_method_38_code 77 = .ok (.goto (-46), 3) := by decide +kernel
theorem dd_M_putWord_80 : decode prog_9_method_38_code 80 = .ok (.return_, 1) := by decide +kernel
theorem dd_M_puts_0 : decode prog_9_method_40_code 0 = .ok (.aload_n 0, 1) := by decide +kernel
theorem dd_M_puts_1 : decode prog_9_method_40_code 1 = .ok (.getfield 77, 3) := by decide +kernel
theorem dd_M_puts_4 : decode prog_9_method_40_code 4 = .ok (.aload_n 0, 1) := by decide +kernel
theorem dd_M_puts_5 : decode prog_9_method_40_code 5 = .ok (.getfield 188, 3) := by decide +kernel
theorem dd_M_puts_8 : decode prog_9_method_40_code 8 = .ok (.iload_n 1, 1) := by decide +kernel
theorem dd_M_puts_9 : decode prog_9_method_40_code 9 = .ok (.iastore, 1) := by decide +kernel
theorem dd_M_puts_10 : decode prog_9_method_40_code 10 = .ok (.aload_n 0, 1) := by decide +kernel
theorem dd_M_puts_11 : decode prog_9_method_40_code 11 = .ok (.dup, 1) := by decide +kernel
theorem dd_M_puts_12 : decode prog_9_method_40_code 12 = .ok (.getfield 188, 3) := by decide +kernel
theorem dd_M_puts_15 : decode prog_9_method_40_code 15 = .ok (.iconst 1, 1) := by decide +kernel
theorem dd_M_puts_16 : decode prog_9_method_40_code 16 = .ok (.iadd, 1) := by decide +kernel
theorem dd_M_puts_17 : decode prog_9_method_40_code 17 = .ok (.putfield 188, 3) := by decide +kernel
theorem dd_M_puts_20 : decode prog_9_method_40_code 20 = .ok (.return_, 1) := by decide +kernel
theorem dd_M_read_0 : decode prog_9_method_28_code 0 = .ok (.aload_n 0, 1) := by decide +kernel
theorem dd_M_read_1 : decode prog_9_method_28_code 1 = .ok (.iconst 0, 1) := by decide +kernel
theorem dd_M_read_2 : decode prog_9_method_28_code 2 = .ok (.putfield 80, 3) := by decide +kernel
theorem dd_M_read_5 : decode prog_9_method_28_code 5 = .ok (.aload_n 0, 1) := by decide +kernel
theorem dd_M_read_6 : decode prog_9_method_28_code 6 = .ok (.iconst 0, 1) := by decide +kernel
theorem dd_M_read_7 : decode prog_9_method_28_code 7 = .ok (.putfield 122, 3) := by decide +kernel
theorem dd_M_read_10 : decode prog_9_method_28_code 10 = .ok (.aload_n 0, 1) := by decide +kernel
theorem dd_M_read_11 : decode prog_9_method_28_code 11 = .ok (.iconst 0, 1) := by decide +kernel
theorem dd_M_read_12 : decode prog_9_method_28_code 12 = .ok (.putfield 169, 3) := by decide +kernel
theorem dd_M_read_15 : decode prog_9_method_28_code 15 = .ok (.aload_n 0, 1) := by decide +kernel
theorem dd_M_read_16 : decode prog_9_method_28_code 16 = .ok (.iconst (-1), 1) := by decide +kernel
theorem dd_M_read_17 : decode prog_9_method_28_code 17 = .ok (.putfield 26, 3) := by decide +kernel
theorem dd_M_read_20 : decode prog_9_method_28_code 20 = .ok (.aload_n 0, 1) := by decide +kernel
theorem dd_M_read_21 : decode prog_9_method_28_code 21 = .ok (.invokevirtual 172, 3) := by decide +kernel
theorem dd_M_read_24 : decode prog_9_method_28_code 24 = .ok (.istore_n 1, 1) := by decide +kernel
theorem dd_M_read_25 : decode prog_9_method_28_code 25 = .ok (.aload_n 0, 1) := by decide +kernel
theorem dd_M_read_26 : decode prog_9_method_28_code 26 = .ok (.invokevirtual 176, 3) := by decide +kernel
theorem dd_M_read_29 : decode prog_9_method_28_code 29 = .ok (.iconst 1, 1) := by decide +kernel
theorem dd_M_read_30 : decode prog_9_method_28_code 30 = .ok (.istore_n 2, 1) := by decide +kernel
theorem dd_M_read_31 : decode prog_9_method_28_code 31 = .ok (.iload_n 2, 1) := by decide +kernel
theorem dd_M_read_32 : decode prog_9_method_28_code 32 = .ok (.aload_n 0, 1) := by decide +kernel
theorem dd_M_read_33 : decode prog_9_method_28_code 33 = .ok (.getfield 128, 3) := by decide +kernel
theorem dd_M_read_36 : decode prog_9_method_28_code 36 = .ok (.if_icmp .gt 17, 3) := by decide +kernel
theorem dd_M_read_39 : decode prog_9_method_28_code 39 = .ok (.aload_n 0, 1) := by decide +kernel
theorem dd_M_read_40 : decode prog_9_method_28_code 40 = .ok (.iload_n 2, 1) := by decide +kernel
theorem dd_M_read_41 : decode prog_9_method_28_code 41 = .ok (.invokevirtual 179, 3) := by decide +kernel
theorem dd_M_read_44 : decode prog_9_method_28_code 44 = .ok (.ifCond .eq 9, 3) := by decide +kernel
theorem dd_M_read_47 : decode prog_9_method_28_code 47 = .ok (.iinc 2 1, 3) := by decide +kernel
theorem dd_M_read_50 : decode prog_9_method_28_code 50 = .ok (.goto (-19), 3) := by decide +kernel
theorem dd_M_read_53 : decode prog_9_method_28_code 53 = .ok (.iload_n 2, 1) := by decide +kernel
theorem dd_M_read_54 : decode prog_9_method_28_code 54 = .ok (.aload_n 0, 1) := by decide +kernel
theorem dd_M_read_55 : decode prog_9_method_28_code 55 = .ok (.getfield 128, 3) := by decide +kernel
theorem dd_M_read_58 : decode prog_9_method_28_code 58 = .ok (.if_icmp .gt 19, 3) := by decide +kernel
theorem dd_M_read_61 : decode prog_9_method_28_code 61 = .ok (.aload_n 0, 1) := by decide +kernel
theorem dd_M_read_62 : decode prog_9_method_28_code 62 = .ok (.iconst 1, 1) := by decide +kernel
theorem dd_M_read_63 : decode prog_9_method_28_code 63 = .ok (.aload_n 0, 1) := by decide +kernel
theorem dd_M_read_64 : decode prog_9_method_28_code 64 = .ok (.getfield 33, 3) := by decide +kernel
theorem dd_M_read_67 : decode prog_9_method_28_code 67 = .ok (.iload_n 2, 1) := by decide +kernel
theorem dd_M_read_68 : decode prog_9_method_28_code 68 = .ok (.iconst 1, 1) := by decide +kernel
theorem dd_M_read_69 : decode prog_9_method_28_code 69 = .ok (.isub, 1) := by decide +kernel
theorem dd_M_read_70 : decode prog_9_method_28_code 70 = .ok (.iaload, 1) := by decide +kernel
theorem dd_M_read_71 : decode prog_9_method_28_code 71 = .ok (.invokevirtual 182, 3) := by decide +kernel
theorem dd_M_read_74 : decode prog_9_method_28_code 74 = .ok (.goto 43, 3) := by decide +kernel
theorem dd_M_read_77 : decode prog_9_method_28_code 77 = .ok (.iload_n 1, 1) := by decide +kernel
theorem dd_M_read_78 : decode prog_9_method_28_code 78 = .ok (.iconst (-1), 1) := by decide +kernel
theorem dd_M_read_79 : decode prog_9_method_28_code 79 = .ok (.if_icmp .eq 12, 3) := by decide +kernel
theorem dd_M_read_82 : decode prog_9_method_28_code 82 = .ok (.aload_n 0, 1) := by decide +kernel
theorem dd_M_read_83 : decode prog_9_method_28_code 83 = .ok (.iconst 2, 1) := by decide +kernel
theorem dd_M_read_84 : decode prog_9_method_28_code 84 = .ok (.iload_n 1, 1) := by decide +kernel
theorem dd_M_read_85 : decode prog_9_method_28_code 85 = .ok (.invokevirtual 182, 3) := by decide +kernel
theorem dd_M_read_88 : decode prog_9_method_28_code 88 = .ok (.goto 29, 3) := by decide +kernel
theorem dd_M_read_91 : decode prog_9_method_28_code 91 = .ok (.aload_n 0, 1) := by decide +kernel
theorem dd_M_read_92 : decode prog_9_method_28_code 92 = .ok (.getfield 36, 3) := by decide +kernel
theorem dd_M_read_95 : decode prog_9_method_28_code 95 = .ok (.iconst 0, 1) := by decide +kernel
theorem dd_M_read_96 : decode prog_9_method_28_code 96 = .ok (.iconst 0, 1) := by decide +kernel
theorem dd_M_read_97 : decode prog_9_method_28_code 97 = .ok (.aload_n 0, 1) := by decide +kernel
theorem dd_M_read_98 : decode prog_9_method_28_code 98 = .ok (.getfield 128, 3) := by decide +kernel
theorem dd_M_read_101 : decode prog_9_method_28_code 101 = .ok (.invokestatic 138, 3) := by decide +kernel
theorem dd_M_read_104 : decode prog_9_method_28_code 104 = .ok (.iaload, 1) := by decide +kernel
theorem dd_M_read_105 : decode prog_9_method_28_code 105 = .ok (.ifCond .ne 12, 3) := by decide +kernel
theorem dd_M_read_108 : decode prog_9_method_28_code 108 = .ok (.aload_n 0, 1) := by decide +kernel
theorem dd_M_read_109 : decode prog_9_method_28_code 109 = .ok (.iconst 1, 1) := by decide +kernel
theorem dd_M_read_110 : decode prog_9_method_28_code 110 = .ok (.aload_n 0, 1) := by decide +kernel
theorem dd_M_read_111 : decode prog_9_method_28_code 111 = .ok (.getfield 125, 3) := by decide +kernel
theorem dd_M_read_114 : decode prog_9_method_28_code 114 = .ok (.invokevirtual 182, 3) := by decide +kernel
theorem dd_M_read_117 : decode prog_9_method_28_code 117 = .ok (.aload_n 0, 1) := by decide +kernel
theorem dd_M_read_118 : decode prog_9_method_28_code 118 = .ok (.getfield 80, 3) := by decide +kernel
theorem dd_M_read_121 : decode prog_9_method_28_code 121 = .ok (.ifCond .le 5, 3) := by decide +kernel
theorem dd_M_read_124 : decode prog_9_method_28_code 124 = .ok (.iconst 0, 1) := by decide +kernel
theorem dd_M_read_125 : decode prog_9_method_28_code 125 = .ok (.ireturn, 1) := by decide +kernel
theorem dd_M_read_126 : decode prog_9_method_28_code 126 = .ok (.aload_n 0, 1) := by decide +kernel
theorem dd_M_read_127 : decode prog_9_method_28_code 127 = .ok (.getfield 36, 3) := by decide +kernel
theorem dd_M_read_130 : decode prog_9_method_28_code 130 = .ok (.iconst 0, 1) := by decide +kernel
theorem dd_M_read_131 : decode prog_9_method_28_code 131 = .ok (.iconst 0, 1) := by decide +kernel
theorem dd_M_read_132 : decode prog_9_method_28_code 132 = .ok (.aload_n 0, 1) := by decide +kernel
theorem dd_M_read_133 : decode prog_9_method_28_code 133 = .ok (.getfield 128, 3) := by decide +kernel
theorem dd_M_read_136 : decode prog_9_method_28_code 136 = .ok (.invokestatic 138, 3) := by decide +kernel
theorem dd_M_read_139 : decode prog_9_method_28_code 139 = .ok (.iaload, 1) := by decide +kernel
theorem dd_M_read_140 : decode prog_9_method_28_code 140 = .ok (.istore_n 3, 1) := by decide +kernel
theorem dd_M_read_141 : decode prog_9_method_28_code 141 = .ok (.iload_n 3, 1) := by decide +kernel
theorem dd_M_read_142 : decode prog_9_method_28_code 142 = .ok (.iconst 1, 1) := by decide +kernel
theorem dd_M_read_143 : decode prog_9_method_28_code 143 = .ok (.if_icmp .ne 7, 3) := by decide +kernel
theorem dd_M_read_146 : decode prog_9_method_28_code 146 = .ok (.aload_n 0, 1) := by decide +kernel
theorem dd_M_read_147 : decode prog_9_method_28_code 147 = .ok (.invokevirtual 185, 3) := by decide +kernel
theorem dd_M_read_150 : decode prog_9_method_28_code 150 = .ok (.iload_n 3, 1) := by decide +kernel
theorem dd_M_read_151 : decode prog_9_method_28_code 151 = .ok (.ireturn, 1) := by decide +kernel
theorem dd_M_sort_0 : decode prog_9_method_5_code 0 = .ok (.iload_n 0, 1) := by decide +kernel
theorem dd_M_sort_1 : decode prog_9_method_5_code 1 = .ok (.invokestatic 83, 3) := by decide +kernel
theorem dd_M_sort_4 : decode prog_9_method_5_code 4 = .ok (.ifCond .eq 5, 3) := by decide +kernel
theorem dd_M_sort_7 : decode prog_9_method_5_code 7 = .ok (.iconst 1, 1) := by decide +kernel
theorem dd_M_sort_8 : decode prog_9_method_5_code 8 = .ok (.ireturn, 1) := by decide +kernel
theorem dd_M_sort_9 : decode prog_9_method_5_code 9 = .ok (.iload_n 0, 1) := by decide +kernel
theorem dd_M_sort_10 : decode prog_9_method_5_code 10 = .ok (.invokestatic 87, 3) := by decide +kernel
theorem dd_M_sort_13 : decode prog_9_method_5_code 13 = .ok (.ifCond .eq 5, 3) := by decide +kernel
theorem dd_M_sort_16 : decode prog_9_method_5_code 16 = .ok (.iconst 2, 1) := by decide +kernel
theorem dd_M_sort_17 : decode prog_9_method_5_code 17 = .ok (.ireturn, 1) := by decide +kernel
theorem dd_M_sort_18 : decode prog_9_method_5_code 18 = .ok (.iload_n 0, 1) := by decide +kernel
theorem dd_M_sort_19 : decode prog_9_method_5_code 19 = .ok (.tableswitch 393 33 126 #[389, 393, 389, 389, 389, 389, 393, 391, 391, 389, 389, 391, 389, 389, 389, 393, 393, 393, 393, 393, 393, 393, 393, 393, 393, 389, 391, 389, 389, 389, 389, 389, 393, 393, 393, 393, 393, 393, 393, 393, 393, 393, 393, 393, 393, 393, 393, 393, 393, 393, 393, 393, 393, 393, 393, 393, 393, 393, 391, 393, 391, 389, 393, 393, 393, 393, 393, 393, 393, 393, 393, 393, 393, 393, 393, 393, 393, 393, 393, 393, 393, 393, 393, 393, 393, 393, 393, 393, 393, 393, 391, 389, 391, 389], 389) := by decide +kernel
theorem dd_M_sort_408 : decode prog_9_method_5_code 408 = .ok (.iconst 3, 1) := by decide +kernel
theorem dd_M_sort_409 : decode prog_9_method_5_code 409 = .ok (.ireturn, 1) := by decide +kernel
theorem dd_M_sort_410 : decode prog_9_method_5_code 410 = .ok (.iconst 4, 1) := by decide +kernel
theorem dd_M_sort_411 : decode prog_9_method_5_code 411 = .ok (.ireturn, 1) := by decide +kernel
theorem dd_M_sort_412 : decode prog_9_method_5_code 412 = .ok (.iconst 0, 1) := by decide +kernel
theorem dd_M_sort_413 : decode prog_9_method_5_code 413 = .ok (.ireturn, 1) := by decide +kernel
theorem dd_M_takeApart_0 : decode prog_9_method_39_code 0 = .ok (.aload_n 0, 1) := by decide +kernel
theorem dd_M_takeApart_1 : decode prog_9_method_39_code 1 = .ok (.getfield 50, 3) := by decide +kernel
theorem dd_M_takeApart_4 : decode prog_9_method_39_code 4 = .ok (.iload_n 1, 1) := by decide +kernel
theorem dd_M_takeApart_5 : decode prog_9_method_39_code 5 = .ok (.iaload, 1) := by decide +kernel
theorem dd_M_takeApart_6 : decode prog_9_method_39_code 6 = .ok (.iconst (-1), 1) := by decide +kernel
theorem dd_M_takeApart_7 : decode prog_9_method_39_code 7 = .ok (.if_icmp .ne 18, 3) := by decide +kernel
theorem dd_M_takeApart_10 : decode prog_9_method_39_code 10 = .ok (.aload_n 0, 1) := by decide +kernel
theorem dd_M_takeApart_11 : decode prog_9_method_39_code 11 = .ok (.sipush 500, 3) := by decide +kernel
theorem dd_M_takeApart_14 : decode prog_9_method_39_code 14 = .ok (.aload_n 0, 1) := by decide +kernel
theorem dd_M_takeApart_15 : decode prog_9_method_39_code 15 = .ok (.getfield 53, 3) := by decide +kernel
theorem dd_M_takeApart_18 : decode prog_9_method_39_code 18 = .ok (.iload_n 1, 1) := by decide +kernel
theorem dd_M_takeApart_19 : decode prog_9_method_39_code 19 = .ok (.iaload, 1) := by decide +kernel
theorem dd_M_takeApart_20 : decode prog_9_method_39_code 20 = .ok (.iadd, 1) := by decide +kernel
theorem dd_M_takeApart_21 : decode prog_9_method_39_code 21 = .ok (.invokevirtual 211, 3) := by decide +kernel
theorem dd_M_takeApart_24 : decode prog_9_method_39_code 24 = .ok (.return_, 1) := by decide +kernel
theorem dd_M_takeApart_25 : decode prog_9_method_39_code 25 = .ok (.aload_n 0, 1) := by decide +kernel
theorem dd_M_takeApart_26 : decode prog_9_method_39_code 26 = .ok (.getfield 50, 3) := by decide +kernel
theorem dd_M_takeApart_29 : decode prog_9_method_39_code 29 = .ok (.iload_n 1, 1) := by decide +kernel
theorem dd_M_takeApart_30 : decode prog_9_method_39_code 30 = .ok (.iaload, 1) := by decide +kernel
theorem dd_M_takeApart_31 : decode prog_9_method_39_code 31 = .ok (.bipush (-2), 2) := by decide +kernel
theorem dd_M_takeApart_33 : decode prog_9_method_39_code 33 = .ok (.if_icmp .ne 11, 3) := by decide +kernel
theorem dd_M_takeApart_36 : decode prog_9_method_39_code 36 = .ok (.aload_n 0, 1) := by decide +kernel
theorem dd_M_takeApart_37 : decode prog_9_method_39_code 37 = .ok (.iload_n 1, 1) := by decide +kernel
theorem dd_M_takeApart_38 : decode prog_9_method_39_code 38 = .ok (.iconst 1, 1) := by decide +kernel
theorem dd_M_takeApart_39 : decode prog_9_method_39_code 39 = .ok (.iadd, 1) := by decide +kernel
theorem dd_M_takeApart_40 : decode prog_9_method_39_code 40 = .ok (.invokevirtual 211, 3) := by decide +kernel
theorem dd_M_takeApart_43 : decode prog_9_method_39_code 43 = .ok (.return_, 1) := by decide +kernel
theorem dd_M_takeApart_44 : decode prog_9_method_39_code 44 = .ok (.aload_n 0, 1) := by decide +kernel
theorem dd_M_takeApart_45 : decode prog_9_method_39_code 45 = .ok (.getfield 188, 3) := by decide +kernel
theorem dd_M_takeApart_48 : decode prog_9_method_39_code 48 = .ok (.istore_n 2, 1) := by decide +kernel
theorem dd_M_takeApart_49 : decode prog_9_method_39_code 49 = .ok (.aload_n 0, 1) := by decide +kernel
theorem dd_M_takeApart_50 : decode prog_9_method_39_code 50 = .ok (.getfield 53, 3) := by decide +kernel
theorem dd_M_takeApart_53 : decode prog_9_method_39_code 53 = .ok (.iload_n 1, 1) := by decide +kernel
theorem dd_M_takeApart_54 : decode prog_9_method_39_code 54 = .ok (.iaload, 1) := by decide +kernel
theorem dd_M_takeApart_55 : decode prog_9_method_39_code 55 = .ok (.istore_n 3, 1) := by decide +kernel
theorem dd_M_takeApart_56 : decode prog_9_method_39_code 56 = .ok (.iconst 0, 1) := by decide +kernel
theorem dd_M_takeApart_57 : decode prog_9_method_39_code 57 = .ok (.istore 4, 2) := by decide +kernel
theorem dd_M_takeApart_59 : decode prog_9_method_39_code 59 = .ok (.iload 4, 2) := by decide +kernel
theorem dd_M_takeApart_61 : decode prog_9_method_39_code 61 = .ok (.aload_n 0, 1) := by decide +kernel
theorem dd_M_takeApart_62 : decode prog_9_method_39_code 62 = .ok (.getfield 17, 3) := by decide +kernel
theorem dd_M_takeApart_65 : decode prog_9_method_39_code 65 = .ok (.aload_n 0, 1) := by decide +kernel
theorem dd_M_takeApart_66 : decode prog_9_method_39_code 66 = .ok (.getfield 50, 3) := by decide +kernel
theorem dd_M_takeApart_69 : decode prog_9_method_39_code 69 = .ok (.iload_n 1, 1) := by decide +kernel
theorem dd_M_takeApart_70 : decode prog_9_method_39_code 70 = .ok (.iaload, 1) := by decide +kernel
theorem dd_M_takeApart_71 : decode prog_9_method_39_code 71 = .ok (.iaload, 1) := by decide +kernel
theorem dd_M_takeApart_72 : decode prog_9_method_39_code 72 = .ok (.if_icmp .ge 149, 3) := by decide +kernel
theorem dd_M_takeApart_75 : decode prog_9_method_39_code 75 = .ok (.aload_n 0, 1) := by decide +kernel
theorem dd_M_takeApart_76 : decode prog_9_method_39_code 76 = .ok (.getfield 7, 3) := by decide +kernel
theorem dd_M_takeApart_79 : decode prog_9_method_39_code 79 = .ok (.bipush 7, 2) := by decide +kernel
theorem dd_M_takeApart_81 : decode prog_9_method_39_code 81 = .ok (.aload_n 0, 1) := by decide +kernel
theorem dd_M_takeApart_82 : decode prog_9_method_39_code 82 = .ok (.getfield 50, 3) := by decide +kernel
theorem dd_M_takeApart_85 : decode prog_9_method_39_code 85 = .ok (.iload_n 1, 1) := by decide +kernel
theorem dd_M_takeApart_86 : decode prog_9_method_39_code 86 = .ok (.iaload, 1) := by decide +kernel
theorem dd_M_takeApart_87 : decode prog_9_method_39_code 87 = .ok (.imul, 1) := by decide +kernel
theorem dd_M_takeApart_88 : decode prog_9_method_39_code 88 = .ok (.iload 4, 2) := by decide +kernel
theorem dd_M_takeApart_90 : decode prog_9_method_39_code 90 = .ok (.iadd, 1) := by decide +kernel
theorem dd_M_takeApart_91 : decode prog_9_method_39_code 91 = .ok (.iaload, 1) := by decide +kernel
theorem dd_M_takeApart_92 : decode prog_9_method_39_code 92 = .ok (.istore 5, 2) := by decide +kernel
theorem dd_M_takeApart_94 : decode prog_9_method_39_code 94 = .ok (.iload 5, 2) := by decide +kernel
theorem dd_M_takeApart_96 : decode prog_9_method_39_code 96 = .ok (.iconst (-1), 1) := by decide +kernel
theorem dd_M_takeApart_97 : decode prog_9_method_39_code 97 = .ok (.if_icmp .ne 18, 3) := by decide +kernel
theorem dd_M_takeApart_100 : decode prog_9_method_39_code 100 = .ok (.aload_n 0, 1) := by decide +kernel
theorem dd_M_takeApart_101 : decode prog_9_method_39_code 101 = .ok (.sipush 500, 3) := by decide +kernel
theorem dd_M_takeApart_104 : decode prog_9_method_39_code 104 = .ok (.iload_n 3, 1) := by decide +kernel
theorem dd_M_takeApart_105 : decode prog_9_method_39_code 105 = .ok (.iadd, 1) := by decide +kernel
theorem dd_M_takeApart_106 : decode prog_9_method_39_code 106 = .ok (.invokevirtual 211, 3) := by decide +kernel
theorem dd_M_takeApart_109 : decode prog_9_method_39_code 109 = .ok (.iinc 3 1, 3) := by decide +kernel
theorem dd_M_takeApart_112 : decode prog_9_method_39_code 112 = .ok (.goto 103, 3) := by decide +kernel
theorem dd_M_takeApart_115 : decode prog_9_method_39_code 115 = .ok (.aload_n 0, 1) := by decide +kernel
theorem dd_M_takeApart_116 : decode prog_9_method_39_code 116 = .ok (.iload_n 1, 1) := by decide +kernel
theorem dd_M_takeApart_117 : decode prog_9_method_39_code 117 = .ok (.iload_n 3, 1) := by decide +kernel
theorem dd_M_takeApart_118 : decode prog_9_method_39_code 118 = .ok (.invokevirtual 214, 3) := by decide +kernel
theorem dd_M_takeApart_121 : decode prog_9_method_39_code 121 = .ok (.istore 6, 2) := by decide +kernel
theorem dd_M_takeApart_123 : decode prog_9_method_39_code 123 = .ok (.iload_n 3, 1) := by decide +kernel
theorem dd_M_takeApart_124 : decode prog_9_method_39_code 124 = .ok (.aload_n 0, 1) := by decide +kernel
theorem dd_M_takeApart_125 : decode prog_9_method_39_code 125 = .ok (.getfield 56, 3) := by decide +kernel
theorem dd_M_takeApart_128 : decode prog_9_method_39_code 128 = .ok (.iload 6, 2) := by decide +kernel
theorem dd_M_takeApart_130 : decode prog_9_method_39_code 130 = .ok (.iaload, 1) := by decide +kernel
theorem dd_M_takeApart_131 : decode prog_9_method_39_code 131 = .ok (.iadd, 1) := by decide +kernel
theorem dd_M_takeApart_132 : decode prog_9_method_39_code 132 = .ok (.istore_n 3, 1) := by decide +kernel
theorem dd_M_takeApart_133 : decode prog_9_method_39_code 133 = .ok (.aload_n 0, 1) := by decide +kernel
theorem dd_M_takeApart_134 : decode prog_9_method_39_code 134 = .ok (.getfield 50, 3) := by decide +kernel
theorem dd_M_takeApart_137 : decode prog_9_method_39_code 137 = .ok (.iload 6, 2) := by decide +kernel
theorem dd_M_takeApart_139 : decode prog_9_method_39_code 139 = .ok (.iaload, 1) := by decide +kernel
theorem dd_M_takeApart_140 : decode prog_9_method_39_code 140 = .ok (.bipush (-2), 2) := by decide +kernel
theorem dd_M_takeApart_142 : decode prog_9_method_39_code 142 = .ok (.if_icmp .ne 9, 3) := by decide +kernel
theorem dd_M_takeApart_145 : decode prog_9_method_39_code 145 = .ok (.iinc 6 1, 3) := by decide +kernel
theorem dd_M_takeApart_148 : decode prog_9_method_39_code 148 = .ok (.goto (-15), 3) := by decide +kernel
theorem dd_M_takeApart_151 : decode prog_9_method_39_code 151 = .ok (.aload_n 0, 1) := by decide +kernel
theorem dd_M_takeApart_152 : decode prog_9_method_39_code 152 = .ok (.getfield 50, 3) := by decide +kernel
theorem dd_M_takeApart_155 : decode prog_9_method_39_code 155 = .ok (.iload 6, 2) := by decide +kernel
theorem dd_M_takeApart_157 : decode prog_9_method_39_code 157 = .ok (.iaload, 1) := by decide +kernel
theorem dd_M_takeApart_158 : decode prog_9_method_39_code 158 = .ok (.ifCond .lt 24, 3) := by decide +kernel
theorem dd_M_takeApart_161 : decode prog_9_method_39_code 161 = .ok (.iload 5, 2) := by decide +kernel
theorem dd_M_takeApart_163 : decode prog_9_method_39_code 163 = .ok (.aload_n 0, 1) := by decide +kernel
theorem dd_M_takeApart_164 : decode prog_9_method_39_code 164 = .ok (.getfield 20, 3) := by decide +kernel
theorem dd_M_takeApart_167 : decode prog_9_method_39_code 167 = .ok (.aload_n 0, 1) := by decide +kernel
theorem dd_M_takeApart_168 : decode prog_9_method_39_code 168 = .ok (.getfield 50, 3) := by decide +kernel
theorem dd_M_takeApart_171 : decode prog_9_method_39_code 171 = .ok (.iload 6, 2) := by decide +kernel
theorem dd_M_takeApart_173 : decode prog_9_method_39_code 173 = .ok (.iaload, 1) := by decide +kernel
theorem dd_M_takeApart_174 : decode prog_9_method_39_code 174 = .ok (.iaload, 1) := by decide +kernel
theorem dd_M_takeApart_175 : decode prog_9_method_39_code 175 = .ok (.if_icmp .le 7, 3) := by decide +kernel
theorem dd_M_takeApart_178 : decode prog_9_method_39_code 178 = .ok (.iconst 1, 1) := by decide +kernel
theorem dd_M_takeApart_179 : decode prog_9_method_39_code 179 = .ok (.goto 4, 3) := by decide +kernel
theorem dd_M_takeApart_182 : decode prog_9_method_39_code 182 = .ok (.iconst 0, 1) := by decide +kernel
theorem dd_M_takeApart_183 : decode prog_9_method_39_code 183 = .ok (.istore 7, 2) := by decide +kernel
theorem dd_M_takeApart_185 : decode prog_9_method_39_code 185 = .ok (.iload 7, 2) := by decide +kernel
theorem dd_M_takeApart_187 : decode prog_9_method_39_code 187 = .ok (.ifCond .eq 10, 3) := by decide +kernel
theorem dd_M_takeApart_190 : decode prog_9_method_39_code 190 = .ok (.aload_n 0, 1) := by decide +kernel
theorem dd_M_takeApart_191 : decode prog_9_method_39_code 191 = .ok (.sipush 1000, 3) := by decide +kernel
theorem dd_M_takeApart_194 : decode prog_9_method_39_code 194 = .ok (.invokevirtual 211, 3) := by decide +kernel
theorem dd_M_takeApart_197 : decode prog_9_method_39_code 197 = .ok (.aload_n 0, 1) := by decide +kernel
theorem dd_M_takeApart_198 : decode prog_9_method_39_code 198 = .ok (.iload 6, 2) := by decide +kernel
theorem dd_M_takeApart_200 : decode prog_9_method_39_code 200 = .ok (.invokevirtual 211, 3) := by decide +kernel
theorem dd_M_takeApart_203 : decode prog_9_method_39_code 203 = .ok (.iload 7, 2) := by decide +kernel
theorem dd_M_takeApart_205 : decode prog_9_method_39_code 205 = .ok (.ifCond .eq 10, 3) := by decide +kernel
theorem dd_M_takeApart_208 : decode prog_9_method_39_code 208 = .ok (.aload_n 0, 1) := by decide +kernel
theorem dd_M_takeApart_209 : decode prog_9_method_39_code 209 = .ok (.sipush 1001, 3) := by decide +kernel
theorem dd_M_takeApart_212 : decode prog_9_method_39_code 212 = .ok (.invokevirtual 211, 3) := by decide +kernel
theorem dd_M_takeApart_215 : decode prog_9_method_39_code 215 = .ok (.iinc 4 1, 3) := by decide +kernel
theorem dd_M_takeApart_218 : decode prog_9_method_39_code 218 = .ok (.goto (-159), 3) := by decide +kernel
theorem dd_M_takeApart_221 : decode prog_9_method_39_code 221 = .ok (.iload_n 2, 1) := by decide +kernel
theorem dd_M_takeApart_222 : decode prog_9_method_39_code 222 = .ok (.istore 4, 2) := by decide +kernel
theorem dd_M_takeApart_224 : decode prog_9_method_39_code 224 = .ok (.aload_n 0, 1) := by decide +kernel
theorem dd_M_takeApart_225 : decode prog_9_method_39_code 225 = .ok (.getfield 188, 3) := by decide +kernel
theorem dd_M_takeApart_228 : decode prog_9_method_39_code 228 = .ok (.iconst 1, 1) := by decide +kernel
theorem dd_M_takeApart_229 : decode prog_9_method_39_code 229 = .ok (.isub, 1) := by decide +kernel
theorem dd_M_takeApart_230 : decode prog_9_method_39_code 230 = .ok (.istore 5, 2) := by decide +kernel
theorem dd_M_takeApart_232 : decode prog_9_method_39_code 232 = .ok (.iload 4, 2) := by decide +kernel
theorem dd_M_takeApart_234 : decode prog_9_method_39_code 234 = .ok (.iload 5, 2) := by decide +kernel
theorem dd_M_takeApart_236 : decode prog_9_method_39_code 236 = .ok (.if_icmp .ge 44, 3) := by decide +kernel
theorem dd_M_takeApart_239 : decode prog_9_method_39_code 239 = .ok (.aload_n 0, 1) := by decide +kernel
theorem dd_M_takeApart_240 : decode prog_9_method_39_code 240 = .ok (.getfield 77, 3) := by decide +kernel
theorem dd_M_takeApart_243 : decode prog_9_method_39_code 243 = .ok (.iload 4, 2) := by decide +kernel
theorem dd_M_takeApart_245 : decode prog_9_method_39_code 245 = .ok (.iaload, 1) := by decide +kernel
theorem dd_M_takeApart_246 : decode prog_9_method_39_code 246 = .ok (.istore 6, 2) := by decide +kernel
theorem dd_M_takeApart_248 : decode prog_9_method_39_code 248 = .ok (.aload_n 0, 1) := by decide +kernel
theorem dd_M_takeApart_249 : decode prog_9_method_39_code 249 = .ok (.getfield 77, 3) := by decide +kernel
theorem dd_M_takeApart_252 : decode prog_9_method_39_code 252 = .ok (.iload 4, 2) := by decide +kernel
theorem dd_M_takeApart_254 : decode prog_9_method_39_code 254 = .ok (.aload_n 0, 1) := by decide +kernel
theorem dd_M_takeApart_255 : decode prog_9_method_39_code 255 = .ok (.getfield 77, 3) := by decide +kernel
theorem dd_M_takeApart_258 : decode prog_9_method_39_code 258 = .ok (.iload 5, 2) := by decide +kernel
theorem dd_M_takeApart_260 : decode prog_9_method_39_code 260 = .ok (.iaload, 1) := by decide +kernel
theorem dd_M_takeApart_261 : decode prog_9_method_39_code 261 = .ok (.iastore, 1) := by decide +kernel
theorem dd_M_takeApart_262 : decode prog_9_method_39_code 262 = .ok (.aload_n 0, 1) := by decide +kernel
theorem dd_M_takeApart_263 : decode prog_9_method_39_code 263 = .ok (.getfield 77, 3) := by decide +kernel
theorem dd_M_takeApart_266 : decode prog_9_method_39_code 266 = .ok (.iload 5, 2) := by decide +kernel
theorem dd_M_takeApart_268 : decode prog_9_method_39_code 268 = .ok (.iload 6, 2) := by decide +kernel
theorem dd_M_takeApart_270 : decode prog_9_method_39_code 270 = .ok (.iastore, 1) := by decide +kernel
theorem dd_M_takeApart_271 : decode prog_9_method_39_code 271 = .ok (.iinc 4 1, 3) := by decide +kernel
theorem dd_M_takeApart_274 : decode prog_9_method_39_code 274 = .ok (.iinc 5 (-1), 3) := by decide +kernel
theorem dd_M_takeApart_277 : decode prog_9_method_39_code 277 = .ok (.goto (-45), 3) := by decide +kernel
theorem dd_M_takeApart_280 : decode prog_9_method_39_code 280 = .ok (.return_, 1) := by decide +kernel
theorem dd_M_takeWords_0 : decode prog_9_method_16_code 0 = .ok (.aload_n 0, 1) := by decide +kernel
theorem dd_M_takeWords_1 : decode prog_9_method_16_code 1 = .ok (.iconst 0, 1) := by decide +kernel
theorem dd_M_takeWords_2 : decode prog_9_method_16_code 2 = .ok (.putfield 128, 3) := by decide +kernel
theorem dd_M_takeWords_5 : decode prog_9_method_16_code 5 = .ok (.iconst 0, 1) := by decide +kernel
theorem dd_M_takeWords_6 : decode prog_9_method_16_code 6 = .ok (.istore_n 1, 1) := by decide +kernel
theorem dd_M_takeWords_7 : decode prog_9_method_16_code 7 = .ok (.iload_n 1, 1) := by decide +kernel
theorem dd_M_takeWords_8 : decode prog_9_method_16_code 8 = .ok (.aload_n 0, 1) := by decide +kernel
theorem dd_M_takeWords_9 : decode prog_9_method_16_code 9 = .ok (.getfield 125, 3) := by decide +kernel
theorem dd_M_takeWords_12 : decode prog_9_method_16_code 12 = .ok (.if_icmp .ge 170, 3) := by decide +kernel
theorem dd_M_takeWords_15 : decode prog_9_method_16_code 15 = .ok (.aload_n 0, 1) := by decide +kernel
theorem dd_M_takeWords_16 : decode prog_9_method_16_code 16 = .ok (.getfield 23, 3) := by decide +kernel
theorem dd_M_takeWords_19 : decode prog_9_method_16_code 19 = .ok (.iload_n 1, 1) := by decide +kernel
theorem dd_M_takeWords_20 : decode prog_9_method_16_code 20 = .ok (.iaload, 1) := by decide +kernel
theorem dd_M_takeWords_21 : decode prog_9_method_16_code 21 = .ok (.bipush 32, 2) := by decide +kernel
theorem dd_M_takeWords_23 : decode prog_9_method_16_code 23 = .ok (.if_icmp .eq 14, 3) := by decide +kernel
theorem dd_M_takeWords_26 : decode prog_9_method_16_code 26 = .ok (.aload_n 0, 1) := by decide +kernel
theorem dd_M_takeWords_27 : decode prog_9_method_16_code 27 = .ok (.getfield 23, 3) := by decide +kernel
theorem dd_M_takeWords_30 : decode prog_9_method_16_code 30 = .ok (.iload_n 1, 1) := by decide +kernel
theorem dd_M_takeWords_31 : decode prog_9_method_16_code 31 = .ok (.iaload, 1) := by decide +kernel
theorem dd_M_takeWords_32 : decode prog_9_method_16_code 32 = .ok (.bipush 10, 2) := by decide +kernel
theorem dd_M_takeWords_34 : decode prog_9_method_16_code 34 = .ok (.if_icmp .ne 9, 3) := by decide +kernel
theorem dd_M_takeWords_37 : decode prog_9_method_16_code 37 = .ok (.iinc 1 1, 3) := by decide +kernel
theorem dd_M_takeWords_40 : decode prog_9_method_16_code 40 = .ok (.goto (-33), 3) := by decide +kernel
theorem dd_M_takeWords_43 : decode prog_9_method_16_code 43 = .ok (.aload_n 0, 1) := by decide +kernel
theorem dd_M_takeWords_44 : decode prog_9_method_16_code 44 = .ok (.getfield 23, 3) := by decide +kernel
theorem dd_M_takeWords_47 : decode prog_9_method_16_code 47 = .ok (.iload_n 1, 1) := by decide +kernel
theorem dd_M_takeWords_48 : decode prog_9_method_16_code 48 = .ok (.iaload, 1) := by decide +kernel
theorem dd_M_takeWords_49 : decode prog_9_method_16_code 49 = .ok (.invokestatic 96, 3) := by decide +kernel
theorem dd_M_takeWords_52 : decode prog_9_method_16_code 52 = .ok (.istore_n 2, 1) := by decide +kernel
theorem dd_M_takeWords_53 : decode prog_9_method_16_code 53 = .ok (.iload_n 1, 1) := by decide +kernel
theorem dd_M_takeWords_54 : decode prog_9_method_16_code 54 = .ok (.iconst 1, 1) := by decide +kernel
theorem dd_M_takeWords_55 : decode prog_9_method_16_code 55 = .ok (.iadd, 1) := by decide +kernel
theorem dd_M_takeWords_56 : decode prog_9_method_16_code 56 = .ok (.istore_n 3, 1) := by decide +kernel
theorem dd_M_takeWords_57 : decode prog_9_method_16_code 57 = .ok (.iload_n 2, 1) := by decide +kernel
theorem dd_M_takeWords_58 : decode prog_9_method_16_code 58 = .ok (.iconst 4, 1) := by decide +kernel
theorem dd_M_takeWords_59 : decode prog_9_method_16_code 59 = .ok (.if_icmp .ge 30, 3) := by decide +kernel
theorem dd_M_takeWords_62 : decode prog_9_method_16_code 62 = .ok (.iload_n 3, 1) := by decide +kernel
theorem dd_M_takeWords_63 : decode prog_9_method_16_code 63 = .ok (.aload_n 0, 1) := by decide +kernel
theorem dd_M_takeWords_64 : decode prog_9_method_16_code 64 = .ok (.getfield 125, 3) := by decide +kernel
theorem dd_M_takeWords_67 : decode prog_9_method_16_code 67 = .ok (.if_icmp .ge 22, 3) := by decide +kernel
theorem dd_M_takeWords_70 : decode prog_9_method_16_code 70 = .ok (.aload_n 0, 1) := by decide +kernel
theorem dd_M_takeWords_71 : decode prog_9_method_16_code 71 = .ok (.getfield 23, 3) := by decide +kernel
theorem dd_M_takeWords_74 : decode prog_9_method_16_code 74 = .ok (.iload_n 3, 1) := by decide +kernel
theorem dd_M_takeWords_75 : decode prog_9_method_16_code 75 = .ok (.iaload, 1) := by decide +kernel
theorem dd_M_takeWords_76 : decode prog_9_method_16_code 76 = .ok (.invokestatic 96, 3) := by decide +kernel
theorem dd_M_takeWords_79 : decode prog_9_method_16_code 79 = .ok (.iload_n 2, 1) := by decide +kernel
theorem dd_M_takeWords_80 : decode prog_9_method_16_code 80 = .ok (.if_icmp .ne 9, 3) := by decide +kernel
theorem dd_M_takeWords_83 : decode prog_9_method_16_code 83 = .ok (.iinc 3 1, 3) := by decide +kernel
theorem dd_M_takeWords_86 : decode prog_9_method_16_code 86 = .ok (.goto (-29), 3) := by decide +kernel
theorem dd_M_takeWords_89 : decode prog_9_method_16_code 89 = .ok (.iload_n 2, 1) := by decide +kernel
theorem dd_M_takeWords_90 : decode prog_9_method_16_code 90 = .ok (.ifCond .eq 20, 3) := by decide +kernel
theorem dd_M_takeWords_93 : decode prog_9_method_16_code 93 = .ok (.iload_n 3, 1) := by decide +kernel
theorem dd_M_takeWords_94 : decode prog_9_method_16_code 94 = .ok (.iload_n 1, 1) := by decide +kernel
theorem dd_M_takeWords_95 : decode prog_9_method_16_code 95 = .ok (.isub, 1) := by decide +kernel
theorem dd_M_takeWords_96 : decode prog_9_method_16_code 96 = .ok (.bipush 8, 2) := by decide +kernel
theorem dd_M_takeWords_98 : decode prog_9_method_16_code 98 = .ok (.if_icmp .gt 12, 3) := by decide +kernel
theorem dd_M_takeWords_101 : decode prog_9_method_16_code 101 = .ok (.aload_n 0, 1) := by decide +kernel
theorem dd_M_takeWords_102 : decode prog_9_method_16_code 102 = .ok (.getfield 128, 3) := by decide +kernel
theorem dd_M_takeWords_105 : decode prog_9_method_16_code 105 = .ok (.bipush 30, 2) := by decide +kernel
theorem dd_M_takeWords_107 : decode prog_9_method_16_code 107 = .ok (.if_icmp .ne 5, 3) := by decide +kernel
theorem dd_M_takeWords_110 : decode prog_9_method_16_code 110 = .ok (.iload_n 1, 1) := by decide +kernel
theorem dd_M_takeWords_111 : decode prog_9_method_16_code 111 = .ok (.ireturn, 1) := by decide +kernel
theorem dd_M_takeWords_112 : decode prog_9_method_16_code 112 = .ok (.lconst 0, 1) := by decide +kernel
theorem dd_M_takeWords_113 : decode prog_9_method_16_code 113 = .ok (.lstore 4, 2) := by decide +kernel
theorem dd_M_takeWords_115 : decode prog_9_method_16_code 115 = .ok (.iload_n 1, 1) := by decide +kernel
theorem dd_M_takeWords_116 : decode prog_9_method_16_code 116 = .ok (.istore 6, 2) := by decide +kernel
theorem dd_M_takeWords_118 : decode prog_9_method_16_code 118 = .ok (.iload 6, 2) := by decide +kernel
theorem dd_M_takeWords_120 : decode prog_9_method_16_code 120 = .ok (.iload_n 3, 1) := by decide +kernel
theorem dd_M_takeWords_121 : decode prog_9_method_16_code 121 = .ok (.if_icmp .ge 25, 3) := by decide +kernel
theorem dd_M_takeWords_124 : decode prog_9_method_16_code 124 = .ok (.lload 4, 2) := by decide +kernel
theorem dd_M_takeWords_126 : decode prog_9_method_16_code 126 = .ok (.bipush 8, 2) := by decide +kernel
theorem dd_M_takeWords_128 : decode prog_9_method_16_code 128 = .ok (.lshl, 1) := by decide +kernel
theorem dd_M_takeWords_129 : decode prog_9_method_16_code 129 = .ok (.aload_n 0, 1) := by decide +kernel
theorem dd_M_takeWords_130 : decode prog_9_method_16_code 130 = .ok (.getfield 23, 3) := by decide +kernel
theorem dd_M_takeWords_133 : decode prog_9_method_16_code 133 = .ok (.iload 6, 2) := by decide +kernel
theorem dd_M_takeWords_135 : decode prog_9_method_16_code 135 = .ok (.iaload, 1) := by decide +kernel
theorem dd_M_takeWords_136 : decode prog_9_method_16_code 136 = .ok (.i2l, 1) := by decide +kernel
theorem dd_M_takeWords_137 : decode prog_9_method_16_code 137 = .ok (.lor, 1) := by decide +kernel
theorem dd_M_takeWords_138 : decode prog_9_method_16_code 138 = .ok (.lstore 4, 2) := by decide +kernel
theorem dd_M_takeWords_140 : decode prog_9_method_16_code 140 = .ok (.iinc 6 1, 3) := by decide +kernel
theorem dd_M_takeWords_143 : decode prog_9_method_16_code 143 = .ok (.goto (-25), 3) := by decide +kernel
theorem dd_M_takeWords_146 : decode prog_9_method_16_code 146 = .ok (.aload_n 0, 1) := by decide +kernel
theorem dd_M_takeWords_147 : decode prog_9_method_16_code 147 = .ok (.getfield 30, 3) := by decide +kernel
theorem dd_M_takeWords_150 : decode prog_9_method_16_code 150 = .ok (.aload_n 0, 1) := by decide +kernel
theorem dd_M_takeWords_151 : decode prog_9_method_16_code 151 = .ok (.getfield 128, 3) := by decide +kernel
theorem dd_M_takeWords_154 : decode prog_9_method_16_code 154 = .ok (.lload 4, 2) := by decide +kernel
theorem dd_M_takeWords_156 : decode prog_9_method_16_code 156 = .ok (.lastore, 1) := by decide +kernel
theorem dd_M_takeWords_157 : decode prog_9_method_16_code 157 = .ok (.aload_n 0, 1) := by decide +kernel
theorem dd_M_takeWords_158 : decode prog_9_method_16_code 158 = .ok (.getfield 33, 3) := by decide +kernel
theorem dd_M_takeWords_161 : decode prog_9_method_16_code 161 = .ok (.aload_n 0, 1) := by decide +kernel
theorem dd_M_takeWords_162 : decode prog_9_method_16_code 162 = .ok (.getfield 128, 3) := by decide +kernel
theorem dd_M_takeWords_165 : decode prog_9_method_16_code 165 = .ok (.iload_n 1, 1) := by decide +kernel
theorem dd_M_takeWords_166 : decode prog_9_method_16_code 166 = .ok (.iastore, 1) := by decide +kernel
theorem dd_M_takeWords_167 : decode prog_9_method_16_code 167 = .ok (.aload_n 0, 1) := by decide +kernel
theorem dd_M_takeWords_168 : decode prog_9_method_16_code 168 = .ok (.dup, 1) := by decide +kernel
theorem dd_M_takeWords_169 : decode prog_9_method_16_code 169 = .ok (.getfield 128, 3) := by decide +kernel
theorem dd_M_takeWords_172 : decode prog_9_method_16_code 172 = .ok (.iconst 1, 1) := by decide +kernel
theorem dd_M_takeWords_173 : decode prog_9_method_16_code 173 = .ok (.iadd, 1) := by decide +kernel
theorem dd_M_takeWords_174 : decode prog_9_method_16_code 174 = .ok (.putfield 128, 3) := by decide +kernel
theorem dd_M_takeWords_177 : decode prog_9_method_16_code 177 = .ok (.iload_n 3, 1) := by decide +kernel
theorem dd_M_takeWords_178 : decode prog_9_method_16_code 178 = .ok (.istore_n 1, 1) := by decide +kernel
theorem dd_M_takeWords_179 : decode prog_9_method_16_code 179 = .ok (.goto (-172), 3) := by decide +kernel
theorem dd_M_takeWords_182 : decode prog_9_method_16_code 182 = .ok (.iconst (-1), 1) := by decide +kernel
theorem dd_M_takeWords_183 : decode prog_9_method_16_code 183 = .ok (.ireturn, 1) := by decide +kernel
theorem dd_M_thrown_0 : decode prog_9_method_2_code 0 = .ok (.aload_n 0, 1) := by decide +kernel
theorem dd_M_thrown_1 : decode prog_9_method_2_code 1 = .ok (.getfield 80, 3) := by decide +kernel
theorem dd_M_thrown_4 : decode prog_9_method_2_code 4 = .ok (.ireturn, 1) := by decide +kernel
theorem dd_M_waysOf_0 : decode prog_9_method_21_code 0 = .ok (.bipush 7, 2) := by decide +kernel
theorem dd_M_waysOf_2 : decode prog_9_method_21_code 2 = .ok (.iload_n 1, 1) := by decide +kernel
theorem dd_M_waysOf_3 : decode prog_9_method_21_code 3 = .ok (.imul, 1) := by decide +kernel
theorem dd_M_waysOf_4 : decode prog_9_method_21_code 4 = .ok (.iload_n 2, 1) := by decide +kernel
theorem dd_M_waysOf_5 : decode prog_9_method_21_code 5 = .ok (.iadd, 1) := by decide +kernel
theorem dd_M_waysOf_6 : decode prog_9_method_21_code 6 = .ok (.istore 5, 2) := by decide +kernel
theorem dd_M_waysOf_8 : decode prog_9_method_21_code 8 = .ok (.iload_n 2, 1) := by decide +kernel
theorem dd_M_waysOf_9 : decode prog_9_method_21_code 9 = .ok (.aload_n 0, 1) := by decide +kernel
theorem dd_M_waysOf_10 : decode prog_9_method_21_code 10 = .ok (.getfield 17, 3) := by decide +kernel
theorem dd_M_waysOf_13 : decode prog_9_method_21_code 13 = .ok (.iload_n 1, 1) := by decide +kernel
theorem dd_M_waysOf_14 : decode prog_9_method_21_code 14 = .ok (.iaload, 1) := by decide +kernel
theorem dd_M_waysOf_15 : decode prog_9_method_21_code 15 = .ok (.if_icmp .ne 15, 3) := by decide +kernel
theorem dd_M_waysOf_18 : decode prog_9_method_21_code 18 = .ok (.iload_n 3, 1) := by decide +kernel
theorem dd_M_waysOf_19 : decode prog_9_method_21_code 19 = .ok (.iload 4, 2) := by decide +kernel
theorem dd_M_waysOf_21 : decode prog_9_method_21_code 21 = .ok (.if_icmp .ne 7, 3) := by decide +kernel
theorem dd_M_waysOf_24 : decode prog_9_method_21_code 24 = .ok (.iconst 1, 1) := by decide +kernel
theorem dd_M_waysOf_25 : decode prog_9_method_21_code 25 = .ok (.goto 4, 3) := by decide +kernel
theorem dd_M_waysOf_28 : decode prog_9_method_21_code 28 = .ok (.iconst 0, 1) := by decide +kernel
theorem dd_M_waysOf_29 : decode prog_9_method_21_code 29 = .ok (.ireturn, 1) := by decide +kernel
theorem dd_M_waysOf_30 : decode prog_9_method_21_code 30 = .ok (.aload_n 0, 1) := by decide +kernel
theorem dd_M_waysOf_31 : decode prog_9_method_21_code 31 = .ok (.getfield 7, 3) := by decide +kernel
theorem dd_M_waysOf_34 : decode prog_9_method_21_code 34 = .ok (.iload 5, 2) := by decide +kernel
theorem dd_M_waysOf_36 : decode prog_9_method_21_code 36 = .ok (.iaload, 1) := by decide +kernel
theorem dd_M_waysOf_37 : decode prog_9_method_21_code 37 = .ok (.iconst (-1), 1) := by decide +kernel
theorem dd_M_waysOf_38 : decode prog_9_method_21_code 38 = .ok (.if_icmp .ne 48, 3) := by decide +kernel
theorem dd_M_waysOf_41 : decode prog_9_method_21_code 41 = .ok (.iload_n 3, 1) := by decide +kernel
theorem dd_M_waysOf_42 : decode prog_9_method_21_code 42 = .ok (.iload 4, 2) := by decide +kernel
theorem dd_M_waysOf_44 : decode prog_9_method_21_code 44 = .ok (.if_icmp .ge 40, 3) := by decide +kernel
theorem dd_M_waysOf_47 : decode prog_9_method_21_code 47 = .ok (.aload_n 0, 1) := by decide +kernel
theorem dd_M_waysOf_48 : decode prog_9_method_21_code 48 = .ok (.getfield 30, 3) := by decide +kernel
theorem dd_M_waysOf_51 : decode prog_9_method_21_code 51 = .ok (.iload_n 3, 1) := by decide +kernel
theorem dd_M_waysOf_52 : decode prog_9_method_21_code 52 = .ok (.laload, 1) := by decide +kernel
theorem dd_M_waysOf_53 : decode prog_9_method_21_code 53 = .ok (.aload_n 0, 1) := by decide +kernel
theorem dd_M_waysOf_54 : decode prog_9_method_21_code 54 = .ok (.getfield 13, 3) := by decide +kernel
theorem dd_M_waysOf_57 : decode prog_9_method_21_code 57 = .ok (.iload 5, 2) := by decide +kernel
theorem dd_M_waysOf_59 : decode prog_9_method_21_code 59 = .ok (.laload, 1) := by decide +kernel
theorem dd_M_waysOf_60 : decode prog_9_method_21_code 60 = .ok (.lcmp, 1) := by decide +kernel
theorem dd_M_waysOf_61 : decode prog_9_method_21_code 61 = .ok (.ifCond .ne 23, 3) := by decide +kernel
theorem dd_M_waysOf_64 : decode prog_9_method_21_code 64 = .ok (.aload_n 0, 1) := by decide +kernel
theorem dd_M_waysOf_65 : decode prog_9_method_21_code 65 = .ok (.getfield 40, 3) := by decide +kernel
theorem dd_M_waysOf_68 : decode prog_9_method_21_code 68 = .ok (.iload 5, 2) := by decide +kernel
theorem dd_M_waysOf_70 : decode prog_9_method_21_code 70 = .ok (.iconst 1, 1) := by decide +kernel
theorem dd_M_waysOf_71 : decode prog_9_method_21_code 71 = .ok (.iadd, 1) := by decide +kernel
theorem dd_M_waysOf_72 : decode prog_9_method_21_code 72 = .ok (.iload_n 3, 1) := by decide +kernel
theorem dd_M_waysOf_73 : decode prog_9_method_21_code 73 = .ok (.iconst 1, 1) := by decide +kernel
theorem dd_M_waysOf_74 : decode prog_9_method_21_code 74 = .ok (.iadd, 1) := by decide +kernel
theorem dd_M_waysOf_75 : decode prog_9_method_21_code 75 = .ok (.iload 4, 2) := by decide +kernel
theorem dd_M_waysOf_77 : decode prog_9_method_21_code 77 = .ok (.invokestatic 138, 3) := by decide +kernel
theorem dd_M_waysOf_80 : decode prog_9_method_21_code 80 = .ok (.iaload, 1) := by decide +kernel
theorem dd_M_waysOf_81 : decode prog_9_method_21_code 81 = .ok (.goto 4, 3) := by decide +kernel
theorem dd_M_waysOf_84 : decode prog_9_method_21_code 84 = .ok (.iconst 0, 1) := by decide +kernel
theorem dd_M_waysOf_85 : decode prog_9_method_21_code 85 = .ok (.ireturn, 1) := by decide +kernel
theorem dd_M_waysOf_86 : decode prog_9_method_21_code 86 = .ok (.lconst 0, 1) := by decide +kernel
theorem dd_M_waysOf_87 : decode prog_9_method_21_code 87 = .ok (.lstore 6, 2) := by decide +kernel
theorem dd_M_waysOf_89 : decode prog_9_method_21_code 89 = .ok (.iload_n 3, 1) := by decide +kernel
theorem dd_M_waysOf_90 : decode prog_9_method_21_code 90 = .ok (.iconst 1, 1) := by decide +kernel
theorem dd_M_waysOf_91 : decode prog_9_method_21_code 91 = .ok (.iadd, 1) := by decide +kernel
theorem dd_M_waysOf_92 : decode prog_9_method_21_code 92 = .ok (.istore 8, 2) := by decide +kernel
theorem dd_M_waysOf_94 : decode prog_9_method_21_code 94 = .ok (.iload 8, 2) := by decide +kernel
theorem dd_M_waysOf_96 : decode prog_9_method_21_code 96 = .ok (.iload 4, 2) := by decide +kernel
theorem dd_M_waysOf_98 : decode prog_9_method_21_code 98 = .ok (.if_icmp .gt 55, 3) := by decide +kernel
theorem dd_M_waysOf_101 : decode prog_9_method_21_code 101 = .ok (.lload 6, 2) := by decide +kernel
theorem dd_M_waysOf_103 : decode prog_9_method_21_code 103 = .ok (.aload_n 0, 1) := by decide +kernel
theorem dd_M_waysOf_104 : decode prog_9_method_21_code 104 = .ok (.getfield 36, 3) := by decide +kernel
theorem dd_M_waysOf_107 : decode prog_9_method_21_code 107 = .ok (.aload_n 0, 1) := by decide +kernel
theorem dd_M_waysOf_108 : decode prog_9_method_21_code 108 = .ok (.getfield 7, 3) := by decide +kernel
theorem dd_M_waysOf_111 : decode prog_9_method_21_code 111 = .ok (.iload 5, 2) := by decide +kernel
theorem dd_M_waysOf_113 : decode prog_9_method_21_code 113 = .ok (.iaload, 1) := by decide +kernel
theorem dd_M_waysOf_114 : decode prog_9_method_21_code 114 = .ok (.iload_n 3, 1) := by decide +kernel
theorem dd_M_waysOf_115 : decode prog_9_method_21_code 115 = .ok (.iload 8, 2) := by decide +kernel
theorem dd_M_waysOf_117 : decode prog_9_method_21_code 117 = .ok (.invokestatic 138, 3) := by decide +kernel
theorem dd_M_waysOf_120 : decode prog_9_method_21_code 120 = .ok (.iaload, 1) := by decide +kernel
theorem dd_M_waysOf_121 : decode prog_9_method_21_code 121 = .ok (.i2l, 1) := by decide +kernel
theorem dd_M_waysOf_122 : decode prog_9_method_21_code 122 = .ok (.aload_n 0, 1) := by decide +kernel
theorem dd_M_waysOf_123 : decode prog_9_method_21_code 123 = .ok (.getfield 40, 3) := by decide +kernel
theorem dd_M_waysOf_126 : decode prog_9_method_21_code 126 = .ok (.iload 5, 2) := by decide +kernel
theorem dd_M_waysOf_128 : decode prog_9_method_21_code 128 = .ok (.iconst 1, 1) := by decide +kernel
theorem dd_M_waysOf_129 : decode prog_9_method_21_code 129 = .ok (.iadd, 1) := by decide +kernel
theorem dd_M_waysOf_130 : decode prog_9_method_21_code 130 = .ok (.iload 8, 2) := by decide +kernel
theorem dd_M_waysOf_132 : decode prog_9_method_21_code 132 = .ok (.iload 4, 2) := by decide +kernel
theorem dd_M_waysOf_134 : decode prog_9_method_21_code 134 = .ok (.invokestatic 138, 3) := by decide +kernel
theorem dd_M_waysOf_137 : decode prog_9_method_21_code 137 = .ok (.iaload, 1) := by decide +kernel
theorem dd_M_waysOf_138 : decode prog_9_method_21_code 138 = .ok (.i2l, 1) := by decide +kernel
theorem dd_M_waysOf_139 : decode prog_9_method_21_code 139 = .ok (.lmul, 1) := by decide +kernel
theorem dd_M_waysOf_140 : decode prog_9_method_21_code 140 = .ok (.ladd, 1) := by decide +kernel
theorem dd_M_waysOf_141 : decode prog_9_method_21_code 141 = .ok (.invokestatic 142, 3) := by decide +kernel
theorem dd_M_waysOf_144 : decode prog_9_method_21_code 144 = .ok (.i2l, 1) := by decide +kernel
theorem dd_M_waysOf_145 : decode prog_9_method_21_code 145 = .ok (.lstore 6, 2) := by decide +kernel
theorem dd_M_waysOf_147 : decode prog_9_method_21_code 147 = .ok (.iinc 8 1, 3) := by decide +kernel
theorem dd_M_waysOf_150 : decode prog_9_method_21_code 150 = .ok (.goto (-56), 3) := by decide +kernel
theorem dd_M_waysOf_153 : decode prog_9_method_21_code 153 = .ok (.lload 6, 2) := by decide +kernel
theorem dd_M_waysOf_155 : decode prog_9_method_21_code 155 = .ok (.l2i, 1) := by decide +kernel
theorem dd_M_waysOf_156 : decode prog_9_method_21_code 156 = .ok (.ireturn, 1) := by decide +kernel
theorem dd_M_word_0 : decode prog_9_method_12_code 0 = .ok (.lload_n 1, 1) := by decide +kernel
theorem dd_M_word_1 : decode prog_9_method_12_code 1 = .ok (.iload_n 3, 1) := by decide +kernel
theorem dd_M_word_2 : decode prog_9_method_12_code 2 = .ok (.invokestatic 110, 3) := by decide +kernel
end
section
theorem dd_M_word_5 : decode prog_9_method_12_code 5 = .ok (.ifCond .eq 31, 3) := by decide +kernel
theorem dd_M_word_8 : decode prog_9_method_12_code 8 = .ok (.lload_n 1, 1) := by decide +kernel
theorem dd_M_word_9 : decode prog_9_method_12_code 9 = .ok (.iload_n 3, 1) := by decide +kernel
theorem dd_M_word_10 : decode prog_9_method_12_code 10 = .ok (.invokestatic 114, 3) := by decide +kernel
theorem dd_M_word_13 : decode prog_9_method_12_code 13 = .ok (.ldc2_w 118, 3) := by decide +kernel
theorem dd_M_word_16 : decode prog_9_method_12_code 16 = .ok (.lcmp, 1) := by decide +kernel
theorem dd_M_word_17 : decode prog_9_method_12_code 17 = .ok (.ifCond .eq 19, 3) := by decide +kernel
theorem dd_M_word_20 : decode prog_9_method_12_code 20 = .ok (.lload_n 1, 1) := by decide +kernel
theorem dd_M_word_21 : decode prog_9_method_12_code 21 = .ok (.iload_n 3, 1) := by decide +kernel
theorem dd_M_word_22 : decode prog_9_method_12_code 22 = .ok (.invokestatic 114, 3) := by decide +kernel
theorem dd_M_word_25 : decode prog_9_method_12_code 25 = .ok (.ldc2_w 120, 3) := by decide +kernel
theorem dd_M_word_28 : decode prog_9_method_12_code 28 = .ok (.lcmp, 1) := by decide +kernel
theorem dd_M_word_29 : decode prog_9_method_12_code 29 = .ok (.ifCond .eq 7, 3) := by decide +kernel
theorem dd_M_word_32 : decode prog_9_method_12_code 32 = .ok (.iconst 1, 1) := by decide +kernel
theorem dd_M_word_33 : decode prog_9_method_12_code 33 = .ok (.goto 4, 3) := by decide +kernel
theorem dd_M_word_36 : decode prog_9_method_12_code 36 = .ok (.iconst 0, 1) := by decide +kernel
theorem dd_M_word_37 : decode prog_9_method_12_code 37 = .ok (.istore 4, 2) := by decide +kernel
theorem dd_M_word_39 : decode prog_9_method_12_code 39 = .ok (.aload_n 0, 1) := by decide +kernel
theorem dd_M_word_40 : decode prog_9_method_12_code 40 = .ok (.iload 4, 2) := by decide +kernel
theorem dd_M_word_42 : decode prog_9_method_12_code 42 = .ok (.ifCond .ne 7, 3) := by decide +kernel
theorem dd_M_word_45 : decode prog_9_method_12_code 45 = .ok (.iconst 1, 1) := by decide +kernel
theorem dd_M_word_46 : decode prog_9_method_12_code 46 = .ok (.goto 17, 3) := by decide +kernel
theorem dd_M_word_49 : decode prog_9_method_12_code 49 = .ok (.aload_n 0, 1) := by decide +kernel
theorem dd_M_word_50 : decode prog_9_method_12_code 50 = .ok (.getfield 103, 3) := by decide +kernel
theorem dd_M_word_53 : decode prog_9_method_12_code 53 = .ok (.bipush 6, 2) := by decide +kernel
theorem dd_M_word_55 : decode prog_9_method_12_code 55 = .ok (.if_icmp .ne 7, 3) := by decide +kernel
theorem dd_M_word_58 : decode prog_9_method_12_code 58 = .ok (.iconst 2, 1) := by decide +kernel
theorem dd_M_word_59 : decode prog_9_method_12_code 59 = .ok (.goto 4, 3) := by decide +kernel
theorem dd_M_word_62 : decode prog_9_method_12_code 62 = .ok (.iconst 0, 1) := by decide +kernel
theorem dd_M_word_63 : decode prog_9_method_12_code 63 = .ok (.putfield 80, 3) := by decide +kernel
theorem dd_M_word_66 : decode prog_9_method_12_code 66 = .ok (.aload_n 0, 1) := by decide +kernel
theorem dd_M_word_67 : decode prog_9_method_12_code 67 = .ok (.getfield 80, 3) := by decide +kernel
theorem dd_M_word_70 : decode prog_9_method_12_code 70 = .ok (.ifCond .le 7, 3) := by decide +kernel
theorem dd_M_word_73 : decode prog_9_method_12_code 73 = .ok (.iconst 0, 1) := by decide +kernel
theorem dd_M_word_74 : decode prog_9_method_12_code 74 = .ok (.goto 13, 3) := by decide +kernel
theorem dd_M_word_77 : decode prog_9_method_12_code 77 = .ok (.aload_n 0, 1) := by decide +kernel
theorem dd_M_word_78 : decode prog_9_method_12_code 78 = .ok (.iconst (-1), 1) := by decide +kernel
theorem dd_M_word_79 : decode prog_9_method_12_code 79 = .ok (.lload_n 1, 1) := by decide +kernel
theorem dd_M_word_80 : decode prog_9_method_12_code 80 = .ok (.iload_n 3, 1) := by decide +kernel
theorem dd_M_word_81 : decode prog_9_method_12_code 81 = .ok (.invokestatic 114, 3) := by decide +kernel
theorem dd_M_word_84 : decode prog_9_method_12_code 84 = .ok (.invokevirtual 106, 3) := by decide +kernel
theorem dd_M_word_87 : decode prog_9_method_12_code 87 = .ok (.ireturn, 1) := by decide +kernel
end
section
theorem dd_Chart_addTrees_0 : decode prog_2_method_18_code 0 = .ok (.aload_n 0, 1) := by decide +kernel
theorem dd_Chart_addTrees_1 : decode prog_2_method_18_code 1 = .ok (.getfield 18, 3) := by decide +kernel
theorem dd_Chart_addTrees_4 : decode prog_2_method_18_code 4 = .ok (.iload_n 1, 1) := by decide +kernel
theorem dd_Chart_addTrees_5 : decode prog_2_method_18_code 5 = .ok (.aload_n 0, 1) := by decide +kernel
theorem dd_Chart_addTrees_6 : decode prog_2_method_18_code 6 = .ok (.getfield 18, 3) := by decide +kernel
theorem dd_Chart_addTrees_9 : decode prog_2_method_18_code 9 = .ok (.iload_n 1, 1) := by decide +kernel
theorem dd_Chart_addTrees_10 : decode prog_2_method_18_code 10 = .ok (.iaload, 1) := by decide +kernel
theorem dd_Chart_addTrees_11 : decode prog_2_method_18_code 11 = .ok (.iload_n 2, 1) := by decide +kernel
theorem dd_Chart_addTrees_12 : decode prog_2_method_18_code 12 = .ok (.iadd, 1) := by decide +kernel
theorem dd_Chart_addTrees_13 : decode prog_2_method_18_code 13 = .ok (.ldc 119, 2) := by decide +kernel
theorem dd_Chart_addTrees_15 : decode prog_2_method_18_code 15 = .ok (.invokestatic 120, 3) := by decide +kernel
theorem dd_Chart_addTrees_18 : decode prog_2_method_18_code 18 = .ok (.iastore, 1) := by decide +kernel
theorem dd_Chart_addTrees_19 : decode prog_2_method_18_code 19 = .ok (.return_, 1) := by decide +kernel
theorem dd_Chart_cell_0 : decode prog_2_method_20_code 0 = .ok (.iload_n 2, 1) := by decide +kernel
theorem dd_Chart_cell_1 : decode prog_2_method_20_code 1 = .ok (.iload_n 2, 1) := by decide +kernel
theorem dd_Chart_cell_2 : decode prog_2_method_20_code 2 = .ok (.iconst 1, 1) := by decide +kernel
theorem dd_Chart_cell_3 : decode prog_2_method_20_code 3 = .ok (.isub, 1) := by decide +kernel
theorem dd_Chart_cell_4 : decode prog_2_method_20_code 4 = .ok (.imul, 1) := by decide +kernel
theorem dd_Chart_cell_5 : decode prog_2_method_20_code 5 = .ok (.iconst 2, 1) := by decide +kernel
theorem dd_Chart_cell_6 : decode prog_2_method_20_code 6 = .ok (.idiv, 1) := by decide +kernel
theorem dd_Chart_cell_7 : decode prog_2_method_20_code 7 = .ok (.iload_n 1, 1) := by decide +kernel
theorem dd_Chart_cell_8 : decode prog_2_method_20_code 8 = .ok (.iadd, 1) := by decide +kernel
theorem dd_Chart_cell_9 : decode prog_2_method_20_code 9 = .ok (.bipush 11, 2) := by decide +kernel
theorem dd_Chart_cell_11 : decode prog_2_method_20_code 11 = .ok (.imul, 1) := by decide +kernel
theorem dd_Chart_cell_12 : decode prog_2_method_20_code 12 = .ok (.iload_n 3, 1) := by decide +kernel
theorem dd_Chart_cell_13 : decode prog_2_method_20_code 13 = .ok (.iadd, 1) := by decide +kernel
theorem dd_Chart_cell_14 : decode prog_2_method_20_code 14 = .ok (.ireturn, 1) := by decide +kernel
theorem dd_Chart_complete_0 : decode prog_2_method_7_code 0 = .ok (.iload_n 1, 1) := by decide +kernel
theorem dd_Chart_complete_1 : decode prog_2_method_7_code 1 = .ok (.iconst 1, 1) := by decide +kernel
theorem dd_Chart_complete_2 : decode prog_2_method_7_code 2 = .ok (.isub, 1) := by decide +kernel
theorem dd_Chart_complete_3 : decode prog_2_method_7_code 3 = .ok (.istore_n 2, 1) := by decide +kernel
theorem dd_Chart_complete_4 : decode prog_2_method_7_code 4 = .ok (.iload_n 2, 1) := by decide +kernel
theorem dd_Chart_complete_5 : decode prog_2_method_7_code 5 = .ok (.ifCond .lt 28, 3) := by decide +kernel
theorem dd_Chart_complete_8 : decode prog_2_method_7_code 8 = .ok (.aload_n 0, 1) := by decide +kernel
theorem dd_Chart_complete_9 : decode prog_2_method_7_code 9 = .ok (.iload_n 2, 1) := by decide +kernel
theorem dd_Chart_complete_10 : decode prog_2_method_7_code 10 = .ok (.iload_n 1, 1) := by decide +kernel
theorem dd_Chart_complete_11 : decode prog_2_method_7_code 11 = .ok (.invokevirtual 44, 3) := by decide +kernel
theorem dd_Chart_complete_14 : decode prog_2_method_7_code 14 = .ok (.istore_n 3, 1) := by decide +kernel
theorem dd_Chart_complete_15 : decode prog_2_method_7_code 15 = .ok (.iload_n 3, 1) := by decide +kernel
theorem dd_Chart_complete_16 : decode prog_2_method_7_code 16 = .ok (.iconst (-1), 1) := by decide +kernel
theorem dd_Chart_complete_17 : decode prog_2_method_7_code 17 = .ok (.if_icmp .eq 10, 3) := by decide +kernel
theorem dd_Chart_complete_20 : decode prog_2_method_7_code 20 = .ok (.aload_n 0, 1) := by decide +kernel
theorem dd_Chart_complete_21 : decode prog_2_method_7_code 21 = .ok (.iload_n 2, 1) := by decide +kernel
theorem dd_Chart_complete_22 : decode prog_2_method_7_code 22 = .ok (.iload_n 1, 1) := by decide +kernel
theorem dd_Chart_complete_23 : decode prog_2_method_7_code 23 = .ok (.iload_n 3, 1) := by decide +kernel
theorem dd_Chart_complete_24 : decode prog_2_method_7_code 24 = .ok (.invokevirtual 64, 3) := by decide +kernel
theorem dd_Chart_complete_27 : decode prog_2_method_7_code 27 = .ok (.iinc 2 (-1), 3) := by decide +kernel
theorem dd_Chart_complete_30 : decode prog_2_method_7_code 30 = .ok (.goto (-26), 3) := by decide +kernel
theorem dd_Chart_complete_33 : decode prog_2_method_7_code 33 = .ok (.return_, 1) := by decide +kernel
theorem dd_Chart_countFirstHoles_0 : decode prog_2_method_19_code 0 = .ok (.iconst 0, 1) := by decide +kernel
theorem dd_Chart_countFirstHoles_1 : decode prog_2_method_19_code 1 = .ok (.istore_n 3, 1) := by decide +kernel
theorem dd_Chart_countFirstHoles_2 : decode prog_2_method_19_code 2 = .ok (.iload_n 3, 1) := by decide +kernel
theorem dd_Chart_countFirstHoles_3 : decode prog_2_method_19_code 3 = .ok (.aload_n 0, 1) := by decide +kernel
theorem dd_Chart_countFirstHoles_4 : decode prog_2_method_19_code 4 = .ok (.getfield 21, 3) := by decide +kernel
theorem dd_Chart_countFirstHoles_7 : decode prog_2_method_19_code 7 = .ok (.getfield 68, 3) := by decide +kernel
theorem dd_Chart_countFirstHoles_10 : decode prog_2_method_19_code 10 = .ok (.if_icmp .ge 60, 3) := by decide +kernel
theorem dd_Chart_countFirstHoles_13 : decode prog_2_method_19_code 13 = .ok (.iload_n 3, 1) := by decide +kernel
theorem dd_Chart_countFirstHoles_14 : decode prog_2_method_19_code 14 = .ok (.bipush 7, 2) := by decide +kernel
theorem dd_Chart_countFirstHoles_16 : decode prog_2_method_19_code 16 = .ok (.imul, 1) := by decide +kernel
theorem dd_Chart_countFirstHoles_17 : decode prog_2_method_19_code 17 = .ok (.istore 4, 2) := by decide +kernel
theorem dd_Chart_countFirstHoles_19 : decode prog_2_method_19_code 19 = .ok (.aload_n 0, 1) := by decide +kernel
theorem dd_Chart_countFirstHoles_20 : decode prog_2_method_19_code 20 = .ok (.getfield 21, 3) := by decide +kernel
theorem dd_Chart_countFirstHoles_23 : decode prog_2_method_19_code 23 = .ok (.getfield 82, 3) := by decide +kernel
theorem dd_Chart_countFirstHoles_26 : decode prog_2_method_19_code 26 = .ok (.iload 4, 2) := by decide +kernel
theorem dd_Chart_countFirstHoles_28 : decode prog_2_method_19_code 28 = .ok (.iaload, 1) := by decide +kernel
theorem dd_Chart_countFirstHoles_29 : decode prog_2_method_19_code 29 = .ok (.istore 5, 2) := by decide +kernel
theorem dd_Chart_countFirstHoles_31 : decode prog_2_method_19_code 31 = .ok (.iload 5, 2) := by decide +kernel
theorem dd_Chart_countFirstHoles_33 : decode prog_2_method_19_code 33 = .ok (.iconst (-1), 1) := by decide +kernel
theorem dd_Chart_countFirstHoles_34 : decode prog_2_method_19_code 34 = .ok (.if_icmp .eq 30, 3) := by decide +kernel
theorem dd_Chart_countFirstHoles_37 : decode prog_2_method_19_code 37 = .ok (.aload_n 0, 1) := by decide +kernel
theorem dd_Chart_countFirstHoles_38 : decode prog_2_method_19_code 38 = .ok (.getfield 15, 3) := by decide +kernel
theorem dd_Chart_countFirstHoles_41 : decode prog_2_method_19_code 41 = .ok (.iload_n 2, 1) := by decide +kernel
theorem dd_Chart_countFirstHoles_42 : decode prog_2_method_19_code 42 = .ok (.bipush 98, 2) := by decide +kernel
theorem dd_Chart_countFirstHoles_44 : decode prog_2_method_19_code 44 = .ok (.imul, 1) := by decide +kernel
theorem dd_Chart_countFirstHoles_45 : decode prog_2_method_19_code 45 = .ok (.iload 4, 2) := by decide +kernel
theorem dd_Chart_countFirstHoles_47 : decode prog_2_method_19_code 47 = .ok (.iadd, 1) := by decide +kernel
theorem dd_Chart_countFirstHoles_48 : decode prog_2_method_19_code 48 = .ok (.iconst 1, 1) := by decide +kernel
theorem dd_Chart_countFirstHoles_49 : decode prog_2_method_19_code 49 = .ok (.iadd, 1) := by decide +kernel
theorem dd_Chart_countFirstHoles_50 : decode prog_2_method_19_code 50 = .ok (.aload_n 0, 1) := by decide +kernel
theorem dd_Chart_countFirstHoles_51 : decode prog_2_method_19_code 51 = .ok (.getfield 18, 3) := by decide +kernel
theorem dd_Chart_countFirstHoles_54 : decode prog_2_method_19_code 54 = .ok (.aload_n 0, 1) := by decide +kernel
theorem dd_Chart_countFirstHoles_55 : decode prog_2_method_19_code 55 = .ok (.iload_n 1, 1) := by decide +kernel
theorem dd_Chart_countFirstHoles_56 : decode prog_2_method_19_code 56 = .ok (.iload_n 2, 1) := by decide +kernel
theorem dd_Chart_countFirstHoles_57 : decode prog_2_method_19_code 57 = .ok (.iload 5, 2) := by decide +kernel
theorem dd_Chart_countFirstHoles_59 : decode prog_2_method_19_code 59 = .ok (.invokevirtual 91, 3) := by decide +kernel
theorem dd_Chart_countFirstHoles_62 : decode prog_2_method_19_code 62 = .ok (.iaload, 1) := by decide +kernel
theorem dd_Chart_countFirstHoles_63 : decode prog_2_method_19_code 63 = .ok (.iastore, 1) := by decide +kernel
theorem dd_Chart_countFirstHoles_64 : decode prog_2_method_19_code 64 = .ok (.iinc 3 1, 3) := by decide +kernel
theorem dd_Chart_countFirstHoles_67 : decode prog_2_method_19_code 67 = .ok (.goto (-65), 3) := by decide +kernel
theorem dd_Chart_countFirstHoles_70 : decode prog_2_method_19_code 70 = .ok (.return_, 1) := by decide +kernel
theorem dd_Chart_countFrom_0 : decode prog_2_method_14_code 0 = .ok (.iconst 0, 1) := by decide +kernel
theorem dd_Chart_countFrom_1 : decode prog_2_method_14_code 1 = .ok (.istore_n 3, 1) := by decide +kernel
theorem dd_Chart_countFrom_2 : decode prog_2_method_14_code 2 = .ok (.iload_n 3, 1) := by decide +kernel
theorem dd_Chart_countFrom_3 : decode prog_2_method_14_code 3 = .ok (.aload_n 0, 1) := by decide +kernel
theorem dd_Chart_countFrom_4 : decode prog_2_method_14_code 4 = .ok (.getfield 21, 3) := by decide +kernel
theorem dd_Chart_countFrom_7 : decode prog_2_method_14_code 7 = .ok (.getfield 68, 3) := by decide +kernel
theorem dd_Chart_countFrom_10 : decode prog_2_method_14_code 10 = .ok (.if_icmp .ge 24, 3) := by decide +kernel
theorem dd_Chart_countFrom_13 : decode prog_2_method_14_code 13 = .ok (.aload_n 0, 1) := by decide +kernel
theorem dd_Chart_countFrom_14 : decode prog_2_method_14_code 14 = .ok (.getfield 15, 3) := by decide +kernel
theorem dd_Chart_countFrom_17 : decode prog_2_method_14_code 17 = .ok (.iload_n 1, 1) := by decide +kernel
theorem dd_Chart_countFrom_18 : decode prog_2_method_14_code 18 = .ok (.bipush 98, 2) := by decide +kernel
theorem dd_Chart_countFrom_20 : decode prog_2_method_14_code 20 = .ok (.imul, 1) := by decide +kernel
theorem dd_Chart_countFrom_21 : decode prog_2_method_14_code 21 = .ok (.iload_n 3, 1) := by decide +kernel
theorem dd_Chart_countFrom_22 : decode prog_2_method_14_code 22 = .ok (.bipush 7, 2) := by decide +kernel
theorem dd_Chart_countFrom_24 : decode prog_2_method_14_code 24 = .ok (.imul, 1) := by decide +kernel
theorem dd_Chart_countFrom_25 : decode prog_2_method_14_code 25 = .ok (.iadd, 1) := by decide +kernel
theorem dd_Chart_countFrom_26 : decode prog_2_method_14_code 26 = .ok (.iconst 1, 1) := by decide +kernel
theorem dd_Chart_countFrom_27 : decode prog_2_method_14_code 27 = .ok (.iastore, 1) := by decide +kernel
theorem dd_Chart_countFrom_28 : decode prog_2_method_14_code 28 = .ok (.iinc 3 1, 3) := by decide +kernel
theorem dd_Chart_countFrom_31 : decode prog_2_method_14_code 31 = .ok (.goto (-29), 3) := by decide +kernel
theorem dd_Chart_countFrom_34 : decode prog_2_method_14_code 34 = .ok (.iload_n 1, 1) := by decide +kernel
theorem dd_Chart_countFrom_35 : decode prog_2_method_14_code 35 = .ok (.iconst 1, 1) := by decide +kernel
theorem dd_Chart_countFrom_36 : decode prog_2_method_14_code 36 = .ok (.iadd, 1) := by decide +kernel
theorem dd_Chart_countFrom_37 : decode prog_2_method_14_code 37 = .ok (.istore_n 3, 1) := by decide +kernel
theorem dd_Chart_countFrom_38 : decode prog_2_method_14_code 38 = .ok (.iload_n 3, 1) := by decide +kernel
theorem dd_Chart_countFrom_39 : decode prog_2_method_14_code 39 = .ok (.iload_n 2, 1) := by decide +kernel
theorem dd_Chart_countFrom_40 : decode prog_2_method_14_code 40 = .ok (.if_icmp .gt 50, 3) := by decide +kernel
theorem dd_Chart_countFrom_43 : decode prog_2_method_14_code 43 = .ok (.iconst 0, 1) := by decide +kernel
theorem dd_Chart_countFrom_44 : decode prog_2_method_14_code 44 = .ok (.istore 4, 2) := by decide +kernel
theorem dd_Chart_countFrom_46 : decode prog_2_method_14_code 46 = .ok (.iload 4, 2) := by decide +kernel
theorem dd_Chart_countFrom_48 : decode prog_2_method_14_code 48 = .ok (.aload_n 0, 1) := by decide +kernel
theorem dd_Chart_countFrom_49 : decode prog_2_method_14_code 49 = .ok (.getfield 21, 3) := by decide +kernel
theorem dd_Chart_countFrom_52 : decode prog_2_method_14_code 52 = .ok (.getfield 68, 3) := by decide +kernel
theorem dd_Chart_countFrom_55 : decode prog_2_method_14_code 55 = .ok (.if_icmp .ge 17, 3) := by decide +kernel
theorem dd_Chart_countFrom_58 : decode prog_2_method_14_code 58 = .ok (.aload_n 0, 1) := by decide +kernel
theorem dd_Chart_countFrom_59 : decode prog_2_method_14_code 59 = .ok (.iload 4, 2) := by decide +kernel
theorem dd_Chart_countFrom_61 : decode prog_2_method_14_code 61 = .ok (.iload_n 1, 1) := by decide +kernel
theorem dd_Chart_countFrom_62 : decode prog_2_method_14_code 62 = .ok (.iload_n 3, 1) := by decide +kernel
theorem dd_Chart_countFrom_63 : decode prog_2_method_14_code 63 = .ok (.invokevirtual 95, 3) := by decide +kernel
theorem dd_Chart_countFrom_66 : decode prog_2_method_14_code 66 = .ok (.iinc 4 1, 3) := by decide +kernel
theorem dd_Chart_countFrom_69 : decode prog_2_method_14_code 69 = .ok (.goto (-23), 3) := by decide +kernel
theorem dd_Chart_countFrom_72 : decode prog_2_method_14_code 72 = .ok (.aload_n 0, 1) := by decide +kernel
theorem dd_Chart_countFrom_73 : decode prog_2_method_14_code 73 = .ok (.iload_n 1, 1) := by decide +kernel
theorem dd_Chart_countFrom_74 : decode prog_2_method_14_code 74 = .ok (.iload_n 3, 1) := by decide +kernel
theorem dd_Chart_countFrom_75 : decode prog_2_method_14_code 75 = .ok (.invokevirtual 98, 3) := by decide +kernel
theorem dd_Chart_countFrom_78 : decode prog_2_method_14_code 78 = .ok (.aload_n 0, 1) := by decide +kernel
theorem dd_Chart_countFrom_79 : decode prog_2_method_14_code 79 = .ok (.iload_n 1, 1) := by decide +kernel
theorem dd_Chart_countFrom_80 : decode prog_2_method_14_code 80 = .ok (.iload_n 3, 1) := by decide +kernel
theorem dd_Chart_countFrom_81 : decode prog_2_method_14_code 81 = .ok (.invokevirtual 101, 3) := by decide +kernel
theorem dd_Chart_countFrom_84 : decode prog_2_method_14_code 84 = .ok (.iinc 3 1, 3) := by decide +kernel
theorem dd_Chart_countFrom_87 : decode prog_2_method_14_code 87 = .ok (.goto (-49), 3) := by decide +kernel
theorem dd_Chart_countFrom_90 : decode prog_2_method_14_code 90 = .ok (.return_, 1) := by decide +kernel
theorem dd_Chart_countRule_0 : decode prog_2_method_15_code 0 = .ok (.iload_n 1, 1) := by decide +kernel
theorem dd_Chart_countRule_1 : decode prog_2_method_15_code 1 = .ok (.bipush 7, 2) := by decide +kernel
theorem dd_Chart_countRule_3 : decode prog_2_method_15_code 3 = .ok (.imul, 1) := by decide +kernel
theorem dd_Chart_countRule_4 : decode prog_2_method_15_code 4 = .ok (.istore 4, 2) := by decide +kernel
theorem dd_Chart_countRule_6 : decode prog_2_method_15_code 6 = .ok (.aload_n 0, 1) := by decide +kernel
theorem dd_Chart_countRule_7 : decode prog_2_method_15_code 7 = .ok (.getfield 21, 3) := by decide +kernel
theorem dd_Chart_countRule_10 : decode prog_2_method_15_code 10 = .ok (.iload_n 1, 1) := by decide +kernel
theorem dd_Chart_countRule_11 : decode prog_2_method_15_code 11 = .ok (.invokevirtual 75, 3) := by decide +kernel
theorem dd_Chart_countRule_14 : decode prog_2_method_15_code 14 = .ok (.istore 5, 2) := by decide +kernel
theorem dd_Chart_countRule_16 : decode prog_2_method_15_code 16 = .ok (.iload 4, 2) := by decide +kernel
theorem dd_Chart_countRule_18 : decode prog_2_method_15_code 18 = .ok (.iconst 1, 1) := by decide +kernel
theorem dd_Chart_countRule_19 : decode prog_2_method_15_code 19 = .ok (.iadd, 1) := by decide +kernel
theorem dd_Chart_countRule_20 : decode prog_2_method_15_code 20 = .ok (.istore 6, 2) := by decide +kernel
theorem dd_Chart_countRule_22 : decode prog_2_method_15_code 22 = .ok (.iload 6, 2) := by decide +kernel
theorem dd_Chart_countRule_24 : decode prog_2_method_15_code 24 = .ok (.iload 5, 2) := by decide +kernel
theorem dd_Chart_countRule_26 : decode prog_2_method_15_code 26 = .ok (.if_icmp .gt 104, 3) := by decide +kernel
theorem dd_Chart_countRule_29 : decode prog_2_method_15_code 29 = .ok (.aload_n 0, 1) := by decide +kernel
theorem dd_Chart_countRule_30 : decode prog_2_method_15_code 30 = .ok (.iload_n 2, 1) := by decide +kernel
theorem dd_Chart_countRule_31 : decode prog_2_method_15_code 31 = .ok (.iload_n 3, 1) := by decide +kernel
theorem dd_Chart_countRule_32 : decode prog_2_method_15_code 32 = .ok (.iload 6, 2) := by decide +kernel
theorem dd_Chart_countRule_34 : decode prog_2_method_15_code 34 = .ok (.invokevirtual 78, 3) := by decide +kernel
theorem dd_Chart_countRule_37 : decode prog_2_method_15_code 37 = .ok (.ifCond .eq 87, 3) := by decide +kernel
theorem dd_Chart_countRule_40 : decode prog_2_method_15_code 40 = .ok (.aload_n 0, 1) := by decide +kernel
theorem dd_Chart_countRule_41 : decode prog_2_method_15_code 41 = .ok (.getfield 21, 3) := by decide +kernel
theorem dd_Chart_countRule_44 : decode prog_2_method_15_code 44 = .ok (.getfield 82, 3) := by decide +kernel
theorem dd_Chart_countRule_47 : decode prog_2_method_15_code 47 = .ok (.iload 6, 2) := by decide +kernel
theorem dd_Chart_countRule_49 : decode prog_2_method_15_code 49 = .ok (.iconst 1, 1) := by decide +kernel
theorem dd_Chart_countRule_50 : decode prog_2_method_15_code 50 = .ok (.isub, 1) := by decide +kernel
theorem dd_Chart_countRule_51 : decode prog_2_method_15_code 51 = .ok (.iaload, 1) := by decide +kernel
theorem dd_Chart_countRule_52 : decode prog_2_method_15_code 52 = .ok (.istore 7, 2) := by decide +kernel
theorem dd_Chart_countRule_54 : decode prog_2_method_15_code 54 = .ok (.iload 7, 2) := by decide +kernel
theorem dd_Chart_countRule_56 : decode prog_2_method_15_code 56 = .ok (.iconst (-1), 1) := by decide +kernel
theorem dd_Chart_countRule_57 : decode prog_2_method_15_code 57 = .ok (.if_icmp .ne 34, 3) := by decide +kernel
theorem dd_Chart_countRule_60 : decode prog_2_method_15_code 60 = .ok (.aload_n 0, 1) := by decide +kernel
theorem dd_Chart_countRule_61 : decode prog_2_method_15_code 61 = .ok (.getfield 15, 3) := by decide +kernel
theorem dd_Chart_countRule_64 : decode prog_2_method_15_code 64 = .ok (.iload_n 3, 1) := by decide +kernel
theorem dd_Chart_countRule_65 : decode prog_2_method_15_code 65 = .ok (.bipush 98, 2) := by decide +kernel
theorem dd_Chart_countRule_67 : decode prog_2_method_15_code 67 = .ok (.imul, 1) := by decide +kernel
theorem dd_Chart_countRule_68 : decode prog_2_method_15_code 68 = .ok (.iload 6, 2) := by decide +kernel
theorem dd_Chart_countRule_70 : decode prog_2_method_15_code 70 = .ok (.iadd, 1) := by decide +kernel
theorem dd_Chart_countRule_71 : decode prog_2_method_15_code 71 = .ok (.aload_n 0, 1) := by decide +kernel
theorem dd_Chart_countRule_72 : decode prog_2_method_15_code 72 = .ok (.getfield 15, 3) := by decide +kernel
theorem dd_Chart_countRule_75 : decode prog_2_method_15_code 75 = .ok (.iload_n 3, 1) := by decide +kernel
theorem dd_Chart_countRule_76 : decode prog_2_method_15_code 76 = .ok (.iconst 1, 1) := by decide +kernel
theorem dd_Chart_countRule_77 : decode prog_2_method_15_code 77 = .ok (.isub, 1) := by decide +kernel
theorem dd_Chart_countRule_78 : decode prog_2_method_15_code 78 = .ok (.bipush 98, 2) := by decide +kernel
theorem dd_Chart_countRule_80 : decode prog_2_method_15_code 80 = .ok (.imul, 1) := by decide +kernel
theorem dd_Chart_countRule_81 : decode prog_2_method_15_code 81 = .ok (.iload 6, 2) := by decide +kernel
theorem dd_Chart_countRule_83 : decode prog_2_method_15_code 83 = .ok (.iadd, 1) := by decide +kernel
theorem dd_Chart_countRule_84 : decode prog_2_method_15_code 84 = .ok (.iconst 1, 1) := by decide +kernel
theorem dd_Chart_countRule_85 : decode prog_2_method_15_code 85 = .ok (.isub, 1) := by decide +kernel
theorem dd_Chart_countRule_86 : decode prog_2_method_15_code 86 = .ok (.iaload, 1) := by decide +kernel
theorem dd_Chart_countRule_87 : decode prog_2_method_15_code 87 = .ok (.iastore, 1) := by decide +kernel
theorem dd_Chart_countRule_88 : decode prog_2_method_15_code 88 = .ok (.goto 36, 3) := by decide +kernel
theorem dd_Chart_countRule_91 : decode prog_2_method_15_code 91 = .ok (.iload 6, 2) := by decide +kernel
theorem dd_Chart_countRule_93 : decode prog_2_method_15_code 93 = .ok (.iload 4, 2) := by decide +kernel
theorem dd_Chart_countRule_95 : decode prog_2_method_15_code 95 = .ok (.iconst 1, 1) := by decide +kernel
theorem dd_Chart_countRule_96 : decode prog_2_method_15_code 96 = .ok (.iadd, 1) := by decide +kernel
theorem dd_Chart_countRule_97 : decode prog_2_method_15_code 97 = .ok (.if_icmp .le 27, 3) := by decide +kernel
theorem dd_Chart_countRule_100 : decode prog_2_method_15_code 100 = .ok (.aload_n 0, 1) := by decide +kernel
theorem dd_Chart_countRule_101 : decode prog_2_method_15_code 101 = .ok (.getfield 15, 3) := by decide +kernel
theorem dd_Chart_countRule_104 : decode prog_2_method_15_code 104 = .ok (.iload_n 3, 1) := by decide +kernel
theorem dd_Chart_countRule_105 : decode prog_2_method_15_code 105 = .ok (.bipush 98, 2) := by decide +kernel
theorem dd_Chart_countRule_107 : decode prog_2_method_15_code 107 = .ok (.imul, 1) := by decide +kernel
theorem dd_Chart_countRule_108 : decode prog_2_method_15_code 108 = .ok (.iload 6, 2) := by decide +kernel
theorem dd_Chart_countRule_110 : decode prog_2_method_15_code 110 = .ok (.iadd, 1) := by decide +kernel
theorem dd_Chart_countRule_111 : decode prog_2_method_15_code 111 = .ok (.aload_n 0, 1) := by decide +kernel
theorem dd_Chart_countRule_112 : decode prog_2_method_15_code 112 = .ok (.iload 6, 2) := by decide +kernel
theorem dd_Chart_countRule_114 : decode prog_2_method_15_code 114 = .ok (.iconst 1, 1) := by decide +kernel
theorem dd_Chart_countRule_115 : decode prog_2_method_15_code 115 = .ok (.isub, 1) := by decide +kernel
theorem dd_Chart_countRule_116 : decode prog_2_method_15_code 116 = .ok (.iload 7, 2) := by decide +kernel
theorem dd_Chart_countRule_118 : decode prog_2_method_15_code 118 = .ok (.iload_n 2, 1) := by decide +kernel
theorem dd_Chart_countRule_119 : decode prog_2_method_15_code 119 = .ok (.iload_n 3, 1) := by decide +kernel
theorem dd_Chart_countRule_120 : decode prog_2_method_15_code 120 = .ok (.invokevirtual 104, 3) := by decide +kernel
theorem dd_Chart_countRule_123 : decode prog_2_method_15_code 123 = .ok (.iastore, 1) := by decide +kernel
theorem dd_Chart_countRule_124 : decode prog_2_method_15_code 124 = .ok (.iinc 6 1, 3) := by decide +kernel
theorem dd_Chart_countRule_127 : decode prog_2_method_15_code 127 = .ok (.goto (-105), 3) := by decide +kernel
theorem dd_Chart_countRule_130 : decode prog_2_method_15_code 130 = .ok (.return_, 1) := by decide +kernel
theorem dd_Chart_countSplits_0 : decode prog_2_method_16_code 0 = .ok (.lconst 0, 1) := by decide +kernel
theorem dd_Chart_countSplits_1 : decode prog_2_method_16_code 1 = .ok (.lstore 5, 2) := by decide +kernel
theorem dd_Chart_countSplits_3 : decode prog_2_method_16_code 3 = .ok (.iload_n 3, 1) := by decide +kernel
theorem dd_Chart_countSplits_4 : decode prog_2_method_16_code 4 = .ok (.iconst 1, 1) := by decide +kernel
theorem dd_Chart_countSplits_5 : decode prog_2_method_16_code 5 = .ok (.iadd, 1) := by decide +kernel
theorem dd_Chart_countSplits_6 : decode prog_2_method_16_code 6 = .ok (.istore 7, 2) := by decide +kernel
theorem dd_Chart_countSplits_8 : decode prog_2_method_16_code 8 = .ok (.iload 7, 2) := by decide +kernel
theorem dd_Chart_countSplits_10 : decode prog_2_method_16_code 10 = .ok (.iload 4, 2) := by decide +kernel
theorem dd_Chart_countSplits_12 : decode prog_2_method_16_code 12 = .ok (.if_icmp .ge 54, 3) := by decide +kernel
theorem dd_Chart_countSplits_15 : decode prog_2_method_16_code 15 = .ok (.aload_n 0, 1) := by decide +kernel
theorem dd_Chart_countSplits_16 : decode prog_2_method_16_code 16 = .ok (.iload_n 3, 1) := by decide +kernel
theorem dd_Chart_countSplits_17 : decode prog_2_method_16_code 17 = .ok (.iload 7, 2) := by decide +kernel
theorem dd_Chart_countSplits_19 : decode prog_2_method_16_code 19 = .ok (.iload_n 1, 1) := by decide +kernel
theorem dd_Chart_countSplits_20 : decode prog_2_method_16_code 20 = .ok (.invokevirtual 78, 3) := by decide +kernel
theorem dd_Chart_countSplits_23 : decode prog_2_method_16_code 23 = .ok (.ifCond .eq 37, 3) := by decide +kernel
theorem dd_Chart_countSplits_26 : decode prog_2_method_16_code 26 = .ok (.lload 5, 2) := by decide +kernel
theorem dd_Chart_countSplits_28 : decode prog_2_method_16_code 28 = .ok (.aload_n 0, 1) := by decide +kernel
theorem dd_Chart_countSplits_29 : decode prog_2_method_16_code 29 = .ok (.getfield 15, 3) := by decide +kernel
theorem dd_Chart_countSplits_32 : decode prog_2_method_16_code 32 = .ok (.iload 7, 2) := by decide +kernel
theorem dd_Chart_countSplits_34 : decode prog_2_method_16_code 34 = .ok (.bipush 98, 2) := by decide +kernel
theorem dd_Chart_countSplits_36 : decode prog_2_method_16_code 36 = .ok (.imul, 1) := by decide +kernel
theorem dd_Chart_countSplits_37 : decode prog_2_method_16_code 37 = .ok (.iload_n 1, 1) := by decide +kernel
theorem dd_Chart_countSplits_38 : decode prog_2_method_16_code 38 = .ok (.iadd, 1) := by decide +kernel
theorem dd_Chart_countSplits_39 : decode prog_2_method_16_code 39 = .ok (.iaload, 1) := by decide +kernel
theorem dd_Chart_countSplits_40 : decode prog_2_method_16_code 40 = .ok (.i2l, 1) := by decide +kernel
theorem dd_Chart_countSplits_41 : decode prog_2_method_16_code 41 = .ok (.aload_n 0, 1) := by decide +kernel
theorem dd_Chart_countSplits_42 : decode prog_2_method_16_code 42 = .ok (.getfield 18, 3) := by decide +kernel
theorem dd_Chart_countSplits_45 : decode prog_2_method_16_code 45 = .ok (.aload_n 0, 1) := by decide +kernel
theorem dd_Chart_countSplits_46 : decode prog_2_method_16_code 46 = .ok (.iload 7, 2) := by decide +kernel
theorem dd_Chart_countSplits_48 : decode prog_2_method_16_code 48 = .ok (.iload 4, 2) := by decide +kernel
theorem dd_Chart_countSplits_50 : decode prog_2_method_16_code 50 = .ok (.iload_n 2, 1) := by decide +kernel
theorem dd_Chart_countSplits_51 : decode prog_2_method_16_code 51 = .ok (.invokevirtual 91, 3) := by decide +kernel
theorem dd_Chart_countSplits_54 : decode prog_2_method_16_code 54 = .ok (.iaload, 1) := by decide +kernel
theorem dd_Chart_countSplits_55 : decode prog_2_method_16_code 55 = .ok (.i2l, 1) := by decide +kernel
theorem dd_Chart_countSplits_56 : decode prog_2_method_16_code 56 = .ok (.lmul, 1) := by decide +kernel
theorem dd_Chart_countSplits_57 : decode prog_2_method_16_code 57 = .ok (.ladd, 1) := by decide +kernel
theorem dd_Chart_countSplits_58 : decode prog_2_method_16_code 58 = .ok (.lstore 5, 2) := by decide +kernel
theorem dd_Chart_countSplits_60 : decode prog_2_method_16_code 60 = .ok (.iinc 7 1, 3) := by decide +kernel
theorem dd_Chart_countSplits_63 : decode prog_2_method_16_code 63 = .ok (.goto (-55), 3) := by decide +kernel
theorem dd_Chart_countSplits_66 : decode prog_2_method_16_code 66 = .ok (.lload 5, 2) := by decide +kernel
theorem dd_Chart_countSplits_68 : decode prog_2_method_16_code 68 = .ok (.ldc2_w 108, 3) := by decide +kernel
theorem dd_Chart_countSplits_71 : decode prog_2_method_16_code 71 = .ok (.invokestatic 110, 3) := by decide +kernel
theorem dd_Chart_countSplits_74 : decode prog_2_method_16_code 74 = .ok (.l2i, 1) := by decide +kernel
theorem dd_Chart_countSplits_75 : decode prog_2_method_16_code 75 = .ok (.ireturn, 1) := by decide +kernel
theorem dd_Chart_countTrees_0 : decode prog_2_method_13_code 0 = .ok (.iload_n 1, 1) := by decide +kernel
theorem dd_Chart_countTrees_1 : decode prog_2_method_13_code 1 = .ok (.iconst 1, 1) := by decide +kernel
theorem dd_Chart_countTrees_2 : decode prog_2_method_13_code 2 = .ok (.isub, 1) := by decide +kernel
theorem dd_Chart_countTrees_3 : decode prog_2_method_13_code 3 = .ok (.istore_n 2, 1) := by decide +kernel
theorem dd_Chart_countTrees_4 : decode prog_2_method_13_code 4 = .ok (.iload_n 2, 1) := by decide +kernel
theorem dd_Chart_countTrees_5 : decode prog_2_method_13_code 5 = .ok (.ifCond .lt 26, 3) := by decide +kernel
theorem dd_Chart_countTrees_8 : decode prog_2_method_13_code 8 = .ok (.aload_n 0, 1) := by decide +kernel
theorem dd_Chart_countTrees_9 : decode prog_2_method_13_code 9 = .ok (.iload_n 2, 1) := by decide +kernel
theorem dd_Chart_countTrees_10 : decode prog_2_method_13_code 10 = .ok (.iload_n 2, 1) := by decide +kernel
theorem dd_Chart_countTrees_11 : decode prog_2_method_13_code 11 = .ok (.bipush 7, 2) := by decide +kernel
theorem dd_Chart_countTrees_13 : decode prog_2_method_13_code 13 = .ok (.invokevirtual 78, 3) := by decide +kernel
theorem dd_Chart_countTrees_16 : decode prog_2_method_13_code 16 = .ok (.ifCond .eq 9, 3) := by decide +kernel
theorem dd_Chart_countTrees_19 : decode prog_2_method_13_code 19 = .ok (.aload_n 0, 1) := by decide +kernel
theorem dd_Chart_countTrees_20 : decode prog_2_method_13_code 20 = .ok (.iload_n 2, 1) := by decide +kernel
theorem dd_Chart_countTrees_21 : decode prog_2_method_13_code 21 = .ok (.iload_n 1, 1) := by decide +kernel
theorem dd_Chart_countTrees_22 : decode prog_2_method_13_code 22 = .ok (.invokevirtual 88, 3) := by decide +kernel
theorem dd_Chart_countTrees_25 : decode prog_2_method_13_code 25 = .ok (.iinc 2 (-1), 3) := by decide +kernel
theorem dd_Chart_countTrees_28 : decode prog_2_method_13_code 28 = .ok (.goto (-24), 3) := by decide +kernel
theorem dd_Chart_countTrees_31 : decode prog_2_method_13_code 31 = .ok (.iload_n 1, 1) := by decide +kernel
theorem dd_Chart_countTrees_32 : decode prog_2_method_13_code 32 = .ok (.iconst 1, 1) := by decide +kernel
theorem dd_Chart_countTrees_33 : decode prog_2_method_13_code 33 = .ok (.if_icmp .ge 7, 3) := by decide +kernel
theorem dd_Chart_countTrees_36 : decode prog_2_method_13_code 36 = .ok (.iconst 0, 1) := by decide +kernel
theorem dd_Chart_countTrees_37 : decode prog_2_method_13_code 37 = .ok (.goto 15, 3) := by decide +kernel
theorem dd_Chart_countTrees_40 : decode prog_2_method_13_code 40 = .ok (.aload_n 0, 1) := by decide +kernel
theorem dd_Chart_countTrees_41 : decode prog_2_method_13_code 41 = .ok (.getfield 18, 3) := by decide +kernel
theorem dd_Chart_countTrees_44 : decode prog_2_method_13_code 44 = .ok (.aload_n 0, 1) := by decide +kernel
theorem dd_Chart_countTrees_45 : decode prog_2_method_13_code 45 = .ok (.iconst 0, 1) := by decide +kernel
theorem dd_Chart_countTrees_46 : decode prog_2_method_13_code 46 = .ok (.iload_n 1, 1) := by decide +kernel
theorem dd_Chart_countTrees_47 : decode prog_2_method_13_code 47 = .ok (.iconst 0, 1) := by decide +kernel
theorem dd_Chart_countTrees_48 : decode prog_2_method_13_code 48 = .ok (.invokevirtual 91, 3) := by decide +kernel
theorem dd_Chart_countTrees_51 : decode prog_2_method_13_code 51 = .ok (.iaload, 1) := by decide +kernel
theorem dd_Chart_countTrees_52 : decode prog_2_method_13_code 52 = .ok (.ireturn, 1) := by decide +kernel
theorem dd_Chart_emptyRow_0 : decode prog_2_method_4_code 0 = .ok (.aload_n 0, 1) := by decide +kernel
theorem dd_Chart_emptyRow_1 : decode prog_2_method_4_code 1 = .ok (.getfield 9, 3) := by decide +kernel
theorem dd_Chart_emptyRow_4 : decode prog_2_method_4_code 4 = .ok (.iload_n 1, 1) := by decide +kernel
theorem dd_Chart_emptyRow_5 : decode prog_2_method_4_code 5 = .ok (.bipush 98, 2) := by decide +kernel
theorem dd_Chart_emptyRow_7 : decode prog_2_method_4_code 7 = .ok (.imul, 1) := by decide +kernel
theorem dd_Chart_emptyRow_8 : decode prog_2_method_4_code 8 = .ok (.iload_n 1, 1) := by decide +kernel
theorem dd_Chart_emptyRow_9 : decode prog_2_method_4_code 9 = .ok (.iconst 1, 1) := by decide +kernel
theorem dd_Chart_emptyRow_10 : decode prog_2_method_4_code 10 = .ok (.iadd, 1) := by decide +kernel
theorem dd_Chart_emptyRow_11 : decode prog_2_method_4_code 11 = .ok (.bipush 98, 2) := by decide +kernel
theorem dd_Chart_emptyRow_13 : decode prog_2_method_4_code 13 = .ok (.imul, 1) := by decide +kernel
theorem dd_Chart_emptyRow_14 : decode prog_2_method_4_code 14 = .ok (.iconst 0, 1) := by decide +kernel
theorem dd_Chart_emptyRow_15 : decode prog_2_method_4_code 15 = .ok (.invokestatic 48, 3) := by decide +kernel
theorem dd_Chart_emptyRow_18 : decode prog_2_method_4_code 18 = .ok (.return_, 1) := by decide +kernel
theorem dd_Chart_fillHoles_0 : decode prog_2_method_9_code 0 = .ok (.iload_n 1, 1) := by decide +kernel
theorem dd_Chart_fillHoles_1 : decode prog_2_method_9_code 1 = .ok (.bipush 98, 2) := by decide +kernel
theorem dd_Chart_fillHoles_3 : decode prog_2_method_9_code 3 = .ok (.imul, 1) := by decide +kernel
theorem dd_Chart_fillHoles_4 : decode prog_2_method_9_code 4 = .ok (.istore 4, 2) := by decide +kernel
theorem dd_Chart_fillHoles_6 : decode prog_2_method_9_code 6 = .ok (.iload_n 2, 1) := by decide +kernel
theorem dd_Chart_fillHoles_7 : decode prog_2_method_9_code 7 = .ok (.bipush 98, 2) := by decide +kernel
theorem dd_Chart_fillHoles_9 : decode prog_2_method_9_code 9 = .ok (.imul, 1) := by decide +kernel
theorem dd_Chart_fillHoles_10 : decode prog_2_method_9_code 10 = .ok (.istore 5, 2) := by decide +kernel
theorem dd_Chart_fillHoles_12 : decode prog_2_method_9_code 12 = .ok (.iconst 0, 1) := by decide +kernel
theorem dd_Chart_fillHoles_13 : decode prog_2_method_9_code 13 = .ok (.istore 6, 2) := by decide +kernel
theorem dd_Chart_fillHoles_15 : decode prog_2_method_9_code 15 = .ok (.iload 6, 2) := by decide +kernel
theorem dd_Chart_fillHoles_17 : decode prog_2_method_9_code 17 = .ok (.aload_n 0, 1) := by decide +kernel
theorem dd_Chart_fillHoles_18 : decode prog_2_method_9_code 18 = .ok (.getfield 21, 3) := by decide +kernel
theorem dd_Chart_fillHoles_21 : decode prog_2_method_9_code 21 = .ok (.invokevirtual 54, 3) := by decide +kernel
theorem dd_Chart_fillHoles_24 : decode prog_2_method_9_code 24 = .ok (.if_icmp .ge 58, 3) := by decide +kernel
theorem dd_Chart_fillHoles_27 : decode prog_2_method_9_code 27 = .ok (.aload_n 0, 1) := by decide +kernel
theorem dd_Chart_fillHoles_28 : decode prog_2_method_9_code 28 = .ok (.getfield 21, 3) := by decide +kernel
theorem dd_Chart_fillHoles_31 : decode prog_2_method_9_code 31 = .ok (.getfield 82, 3) := by decide +kernel
theorem dd_Chart_fillHoles_34 : decode prog_2_method_9_code 34 = .ok (.iload 6, 2) := by decide +kernel
theorem dd_Chart_fillHoles_36 : decode prog_2_method_9_code 36 = .ok (.iaload, 1) := by decide +kernel
theorem dd_Chart_fillHoles_37 : decode prog_2_method_9_code 37 = .ok (.istore 7, 2) := by decide +kernel
theorem dd_Chart_fillHoles_39 : decode prog_2_method_9_code 39 = .ok (.iload 7, 2) := by decide +kernel
theorem dd_Chart_fillHoles_41 : decode prog_2_method_9_code 41 = .ok (.iconst (-1), 1) := by decide +kernel
theorem dd_Chart_fillHoles_42 : decode prog_2_method_9_code 42 = .ok (.if_icmp .eq 34, 3) := by decide +kernel
theorem dd_Chart_fillHoles_45 : decode prog_2_method_9_code 45 = .ok (.iload 7, 2) := by decide +kernel
theorem dd_Chart_fillHoles_47 : decode prog_2_method_9_code 47 = .ok (.iload_n 3, 1) := by decide +kernel
theorem dd_Chart_fillHoles_48 : decode prog_2_method_9_code 48 = .ok (.if_icmp .gt 28, 3) := by decide +kernel
theorem dd_Chart_fillHoles_51 : decode prog_2_method_9_code 51 = .ok (.aload_n 0, 1) := by decide +kernel
theorem dd_Chart_fillHoles_52 : decode prog_2_method_9_code 52 = .ok (.getfield 9, 3) := by decide +kernel
theorem dd_Chart_fillHoles_55 : decode prog_2_method_9_code 55 = .ok (.iload 5, 2) := by decide +kernel
theorem dd_Chart_fillHoles_57 : decode prog_2_method_9_code 57 = .ok (.iload 6, 2) := by decide +kernel
theorem dd_Chart_fillHoles_59 : decode prog_2_method_9_code 59 = .ok (.iadd, 1) := by decide +kernel
theorem dd_Chart_fillHoles_60 : decode prog_2_method_9_code 60 = .ok (.iconst 1, 1) := by decide +kernel
theorem dd_Chart_fillHoles_61 : decode prog_2_method_9_code 61 = .ok (.iadd, 1) := by decide +kernel
theorem dd_Chart_fillHoles_62 : decode prog_2_method_9_code 62 = .ok (.dup2, 1) := by decide +kernel
theorem dd_Chart_fillHoles_63 : decode prog_2_method_9_code 63 = .ok (.iaload, 1) := by decide +kernel
theorem dd_Chart_fillHoles_64 : decode prog_2_method_9_code 64 = .ok (.aload_n 0, 1) := by decide +kernel
theorem dd_Chart_fillHoles_65 : decode prog_2_method_9_code 65 = .ok (.getfield 9, 3) := by decide +kernel
theorem dd_Chart_fillHoles_68 : decode prog_2_method_9_code 68 = .ok (.iload 4, 2) := by decide +kernel
theorem dd_Chart_fillHoles_70 : decode prog_2_method_9_code 70 = .ok (.iload 6, 2) := by decide +kernel
theorem dd_Chart_fillHoles_72 : decode prog_2_method_9_code 72 = .ok (.iadd, 1) := by decide +kernel
theorem dd_Chart_fillHoles_73 : decode prog_2_method_9_code 73 = .ok (.iaload, 1) := by decide +kernel
theorem dd_Chart_fillHoles_74 : decode prog_2_method_9_code 74 = .ok (.ior, 1) := by decide +kernel
theorem dd_Chart_fillHoles_75 : decode prog_2_method_9_code 75 = .ok (.iastore, 1) := by decide +kernel
theorem dd_Chart_fillHoles_76 : decode prog_2_method_9_code 76 = .ok (.iinc 6 1, 3) := by decide +kernel
theorem dd_Chart_fillHoles_79 : decode prog_2_method_9_code 79 = .ok (.goto (-64), 3) := by decide +kernel
theorem dd_Chart_fillHoles_82 : decode prog_2_method_9_code 82 = .ok (.return_, 1) := by decide +kernel
theorem dd_Chart_follow_0 : decode prog_2_method_2_code 0 = .ok (.aload_n 0, 1) := by decide +kernel
theorem dd_Chart_follow_1 : decode prog_2_method_2_code 1 = .ok (.iconst 0, 1) := by decide +kernel
theorem dd_Chart_follow_2 : decode prog_2_method_2_code 2 = .ok (.invokevirtual 25, 3) := by decide +kernel
theorem dd_Chart_follow_5 : decode prog_2_method_2_code 5 = .ok (.aload_n 0, 1) := by decide +kernel
theorem dd_Chart_follow_6 : decode prog_2_method_2_code 6 = .ok (.iconst 0, 1) := by decide +kernel
theorem dd_Chart_follow_7 : decode prog_2_method_2_code 7 = .ok (.iconst 0, 1) := by decide +kernel
theorem dd_Chart_follow_8 : decode prog_2_method_2_code 8 = .ok (.invokevirtual 29, 3) := by decide +kernel
theorem dd_Chart_follow_11 : decode prog_2_method_2_code 11 = .ok (.iconst 0, 1) := by decide +kernel
theorem dd_Chart_follow_12 : decode prog_2_method_2_code 12 = .ok (.istore_n 3, 1) := by decide +kernel
theorem dd_Chart_follow_13 : decode prog_2_method_2_code 13 = .ok (.iload_n 3, 1) := by decide +kernel
theorem dd_Chart_follow_14 : decode prog_2_method_2_code 14 = .ok (.iload_n 2, 1) := by decide +kernel
theorem dd_Chart_follow_15 : decode prog_2_method_2_code 15 = .ok (.if_icmp .ge 50, 3) := by decide +kernel
theorem dd_Chart_follow_18 : decode prog_2_method_2_code 18 = .ok (.aload_n 0, 1) := by decide +kernel
theorem dd_Chart_follow_19 : decode prog_2_method_2_code 19 = .ok (.iload_n 3, 1) := by decide +kernel
theorem dd_Chart_follow_20 : decode prog_2_method_2_code 20 = .ok (.iconst 1, 1) := by decide +kernel
theorem dd_Chart_follow_21 : decode prog_2_method_2_code 21 = .ok (.iadd, 1) := by decide +kernel
theorem dd_Chart_follow_22 : decode prog_2_method_2_code 22 = .ok (.invokevirtual 25, 3) := by decide +kernel
theorem dd_Chart_follow_25 : decode prog_2_method_2_code 25 = .ok (.aload_n 0, 1) := by decide +kernel
theorem dd_Chart_follow_26 : decode prog_2_method_2_code 26 = .ok (.iload_n 3, 1) := by decide +kernel
theorem dd_Chart_follow_27 : decode prog_2_method_2_code 27 = .ok (.aload_n 1, 1) := by decide +kernel
theorem dd_Chart_follow_28 : decode prog_2_method_2_code 28 = .ok (.iload_n 3, 1) := by decide +kernel
theorem dd_Chart_follow_29 : decode prog_2_method_2_code 29 = .ok (.laload, 1) := by decide +kernel
theorem dd_Chart_follow_30 : decode prog_2_method_2_code 30 = .ok (.invokevirtual 33, 3) := by decide +kernel
theorem dd_Chart_follow_33 : decode prog_2_method_2_code 33 = .ok (.ifCond .ne 5, 3) := by decide +kernel
theorem dd_Chart_follow_36 : decode prog_2_method_2_code 36 = .ok (.iload_n 3, 1) := by decide +kernel
theorem dd_Chart_follow_37 : decode prog_2_method_2_code 37 = .ok (.ireturn, 1) := by decide +kernel
theorem dd_Chart_follow_38 : decode prog_2_method_2_code 38 = .ok (.aload_n 0, 1) := by decide +kernel
theorem dd_Chart_follow_39 : decode prog_2_method_2_code 39 = .ok (.iload_n 3, 1) := by decide +kernel
theorem dd_Chart_follow_40 : decode prog_2_method_2_code 40 = .ok (.iconst 1, 1) := by decide +kernel
theorem dd_Chart_follow_41 : decode prog_2_method_2_code 41 = .ok (.iadd, 1) := by decide +kernel
theorem dd_Chart_follow_42 : decode prog_2_method_2_code 42 = .ok (.invokevirtual 37, 3) := by decide +kernel
theorem dd_Chart_follow_45 : decode prog_2_method_2_code 45 = .ok (.aload_n 0, 1) := by decide +kernel
theorem dd_Chart_follow_46 : decode prog_2_method_2_code 46 = .ok (.iload_n 3, 1) := by decide +kernel
theorem dd_Chart_follow_47 : decode prog_2_method_2_code 47 = .ok (.iconst 1, 1) := by decide +kernel
theorem dd_Chart_follow_48 : decode prog_2_method_2_code 48 = .ok (.iadd, 1) := by decide +kernel
theorem dd_Chart_follow_49 : decode prog_2_method_2_code 49 = .ok (.aload_n 0, 1) := by decide +kernel
theorem dd_Chart_follow_50 : decode prog_2_method_2_code 50 = .ok (.iload_n 3, 1) := by decide +kernel
theorem dd_Chart_follow_51 : decode prog_2_method_2_code 51 = .ok (.iconst 1, 1) := by decide +kernel
theorem dd_Chart_follow_52 : decode prog_2_method_2_code 52 = .ok (.iadd, 1) := by decide +kernel
theorem dd_Chart_follow_53 : decode prog_2_method_2_code 53 = .ok (.invokevirtual 40, 3) := by decide +kernel
theorem dd_Chart_follow_56 : decode prog_2_method_2_code 56 = .ok (.invokevirtual 29, 3) := by decide +kernel
theorem dd_Chart_follow_59 : decode prog_2_method_2_code 59 = .ok (.iinc 3 1, 3) := by decide +kernel
theorem dd_Chart_follow_62 : decode prog_2_method_2_code 62 = .ok (.goto (-49), 3) := by decide +kernel
theorem dd_Chart_follow_65 : decode prog_2_method_2_code 65 = .ok (.iload_n 2, 1) := by decide +kernel
theorem dd_Chart_follow_66 : decode prog_2_method_2_code 66 = .ok (.ireturn, 1) := by decide +kernel
theorem dd_Chart_highestTerm_0 : decode prog_2_method_8_code 0 = .ok (.iconst (-1), 1) := by decide +kernel
theorem dd_Chart_highestTerm_1 : decode prog_2_method_8_code 1 = .ok (.istore_n 3, 1) := by decide +kernel
theorem dd_Chart_highestTerm_2 : decode prog_2_method_8_code 2 = .ok (.iconst 0, 1) := by decide +kernel
theorem dd_Chart_highestTerm_3 : decode prog_2_method_8_code 3 = .ok (.istore 4, 2) := by decide +kernel
theorem dd_Chart_highestTerm_5 : decode prog_2_method_8_code 5 = .ok (.iload 4, 2) := by decide +kernel
theorem dd_Chart_highestTerm_7 : decode prog_2_method_8_code 7 = .ok (.aload_n 0, 1) := by decide +kernel
theorem dd_Chart_highestTerm_8 : decode prog_2_method_8_code 8 = .ok (.getfield 21, 3) := by decide +kernel
theorem dd_Chart_highestTerm_11 : decode prog_2_method_8_code 11 = .ok (.getfield 68, 3) := by decide +kernel
theorem dd_Chart_highestTerm_14 : decode prog_2_method_8_code 14 = .ok (.if_icmp .ge 52, 3) := by decide +kernel
theorem dd_Chart_highestTerm_17 : decode prog_2_method_8_code 17 = .ok (.aload_n 0, 1) := by decide +kernel
theorem dd_Chart_highestTerm_18 : decode prog_2_method_8_code 18 = .ok (.getfield 21, 3) := by decide +kernel
theorem dd_Chart_highestTerm_21 : decode prog_2_method_8_code 21 = .ok (.getfield 72, 3) := by decide +kernel
theorem dd_Chart_highestTerm_24 : decode prog_2_method_8_code 24 = .ok (.iload 4, 2) := by decide +kernel
theorem dd_Chart_highestTerm_26 : decode prog_2_method_8_code 26 = .ok (.iaload, 1) := by decide +kernel
theorem dd_Chart_highestTerm_27 : decode prog_2_method_8_code 27 = .ok (.iload_n 3, 1) := by decide +kernel
theorem dd_Chart_highestTerm_28 : decode prog_2_method_8_code 28 = .ok (.if_icmp .le 32, 3) := by decide +kernel
theorem dd_Chart_highestTerm_31 : decode prog_2_method_8_code 31 = .ok (.aload_n 0, 1) := by decide +kernel
theorem dd_Chart_highestTerm_32 : decode prog_2_method_8_code 32 = .ok (.iload_n 1, 1) := by decide +kernel
theorem dd_Chart_highestTerm_33 : decode prog_2_method_8_code 33 = .ok (.iload_n 2, 1) := by decide +kernel
theorem dd_Chart_highestTerm_34 : decode prog_2_method_8_code 34 = .ok (.aload_n 0, 1) := by decide +kernel
theorem dd_Chart_highestTerm_35 : decode prog_2_method_8_code 35 = .ok (.getfield 21, 3) := by decide +kernel
theorem dd_Chart_highestTerm_38 : decode prog_2_method_8_code 38 = .ok (.iload 4, 2) := by decide +kernel
theorem dd_Chart_highestTerm_40 : decode prog_2_method_8_code 40 = .ok (.invokevirtual 75, 3) := by decide +kernel
theorem dd_Chart_highestTerm_43 : decode prog_2_method_8_code 43 = .ok (.invokevirtual 78, 3) := by decide +kernel
theorem dd_Chart_highestTerm_46 : decode prog_2_method_8_code 46 = .ok (.ifCond .eq 14, 3) := by decide +kernel
theorem dd_Chart_highestTerm_49 : decode prog_2_method_8_code 49 = .ok (.aload_n 0, 1) := by decide +kernel
theorem dd_Chart_highestTerm_50 : decode prog_2_method_8_code 50 = .ok (.getfield 21, 3) := by decide +kernel
theorem dd_Chart_highestTerm_53 : decode prog_2_method_8_code 53 = .ok (.getfield 72, 3) := by decide +kernel
theorem dd_Chart_highestTerm_56 : decode prog_2_method_8_code 56 = .ok (.iload 4, 2) := by decide +kernel
theorem dd_Chart_highestTerm_58 : decode prog_2_method_8_code 58 = .ok (.iaload, 1) := by decide +kernel
theorem dd_Chart_highestTerm_59 : decode prog_2_method_8_code 59 = .ok (.istore_n 3, 1) := by decide +kernel
theorem dd_Chart_highestTerm_60 : decode prog_2_method_8_code 60 = .ok (.iinc 4 1, 3) := by decide +kernel
theorem dd_Chart_highestTerm_63 : decode prog_2_method_8_code 63 = .ok (.goto (-58), 3) := by decide +kernel
theorem dd_Chart_highestTerm_66 : decode prog_2_method_8_code 66 = .ok (.iload_n 3, 1) := by decide +kernel
theorem dd_Chart_highestTerm_67 : decode prog_2_method_8_code 67 = .ok (.ireturn, 1) := by decide +kernel
theorem dd_Chart_isReached_0 : decode prog_2_method_5_code 0 = .ok (.aload_n 0, 1) := by decide +kernel
theorem dd_Chart_isReached_1 : decode prog_2_method_5_code 1 = .ok (.getfield 9, 3) := by decide +kernel
theorem dd_Chart_isReached_4 : decode prog_2_method_5_code 4 = .ok (.iload_n 2, 1) := by decide +kernel
theorem dd_Chart_isReached_5 : decode prog_2_method_5_code 5 = .ok (.bipush 98, 2) := by decide +kernel
theorem dd_Chart_isReached_7 : decode prog_2_method_5_code 7 = .ok (.imul, 1) := by decide +kernel
theorem dd_Chart_isReached_8 : decode prog_2_method_5_code 8 = .ok (.iload_n 3, 1) := by decide +kernel
theorem dd_Chart_isReached_9 : decode prog_2_method_5_code 9 = .ok (.iadd, 1) := by decide +kernel
theorem dd_Chart_isReached_10 : decode prog_2_method_5_code 10 = .ok (.iaload, 1) := by decide +kernel
theorem dd_Chart_isReached_11 : decode prog_2_method_5_code 11 = .ok (.iload_n 1, 1) := by decide +kernel
theorem dd_Chart_isReached_12 : decode prog_2_method_5_code 12 = .ok (.iushr, 1) := by decide +kernel
theorem dd_Chart_isReached_13 : decode prog_2_method_5_code 13 = .ok (.iconst 1, 1) := by decide +kernel
theorem dd_Chart_isReached_14 : decode prog_2_method_5_code 14 = .ok (.iand, 1) := by decide +kernel
theorem dd_Chart_isReached_15 : decode prog_2_method_5_code 15 = .ok (.ifCond .eq 7, 3) := by decide +kernel
theorem dd_Chart_isReached_18 : decode prog_2_method_5_code 18 = .ok (.iconst 1, 1) := by decide +kernel
theorem dd_Chart_isReached_19 : decode prog_2_method_5_code 19 = .ok (.goto 4, 3) := by decide +kernel
theorem dd_Chart_isReached_22 : decode prog_2_method_5_code 22 = .ok (.iconst 0, 1) := by decide +kernel
theorem dd_Chart_isReached_23 : decode prog_2_method_5_code 23 = .ok (.ireturn, 1) := by decide +kernel
theorem dd_Chart_isWhole_0 : decode prog_2_method_3_code 0 = .ok (.aload_n 0, 1) := by decide +kernel
theorem dd_Chart_isWhole_1 : decode prog_2_method_3_code 1 = .ok (.iconst 0, 1) := by decide +kernel
theorem dd_Chart_isWhole_2 : decode prog_2_method_3_code 2 = .ok (.iload_n 1, 1) := by decide +kernel
theorem dd_Chart_isWhole_3 : decode prog_2_method_3_code 3 = .ok (.invokevirtual 44, 3) := by decide +kernel
theorem dd_Chart_isWhole_6 : decode prog_2_method_3_code 6 = .ok (.iconst (-1), 1) := by decide +kernel
theorem dd_Chart_isWhole_7 : decode prog_2_method_3_code 7 = .ok (.if_icmp .eq 7, 3) := by decide +kernel
theorem dd_Chart_isWhole_10 : decode prog_2_method_3_code 10 = .ok (.iconst 1, 1) := by decide +kernel
theorem dd_Chart_isWhole_11 : decode prog_2_method_3_code 11 = .ok (.goto 4, 3) := by decide +kernel
theorem dd_Chart_isWhole_14 : decode prog_2_method_3_code 14 = .ok (.iconst 0, 1) := by decide +kernel
theorem dd_Chart_isWhole_15 : decode prog_2_method_3_code 15 = .ok (.ireturn, 1) := by decide +kernel
theorem dd_Chart_leastFirstHole_0 : decode prog_2_method_12_code 0 = .ok (.iload_n 1, 1) := by decide +kernel
theorem dd_Chart_leastFirstHole_1 : decode prog_2_method_12_code 1 = .ok (.istore_n 2, 1) := by decide +kernel
theorem dd_Chart_leastFirstHole_2 : decode prog_2_method_12_code 2 = .ok (.iconst 2, 1) := by decide +kernel
theorem dd_Chart_leastFirstHole_3 : decode prog_2_method_12_code 3 = .ok (.istore_n 3, 1) := by decide +kernel
theorem dd_Chart_leastFirstHole_4 : decode prog_2_method_12_code 4 = .ok (.iload_n 3, 1) := by decide +kernel
theorem dd_Chart_leastFirstHole_5 : decode prog_2_method_12_code 5 = .ok (.aload_n 0, 1) := by decide +kernel
theorem dd_Chart_leastFirstHole_6 : decode prog_2_method_12_code 6 = .ok (.getfield 21, 3) := by decide +kernel
theorem dd_Chart_leastFirstHole_9 : decode prog_2_method_12_code 9 = .ok (.getfield 68, 3) := by decide +kernel
theorem dd_Chart_leastFirstHole_12 : decode prog_2_method_12_code 12 = .ok (.if_icmp .ge 51, 3) := by decide +kernel
theorem dd_Chart_leastFirstHole_15 : decode prog_2_method_12_code 15 = .ok (.aload_n 0, 1) := by decide +kernel
theorem dd_Chart_leastFirstHole_16 : decode prog_2_method_12_code 16 = .ok (.getfield 21, 3) := by decide +kernel
theorem dd_Chart_leastFirstHole_19 : decode prog_2_method_12_code 19 = .ok (.getfield 82, 3) := by decide +kernel
theorem dd_Chart_leastFirstHole_22 : decode prog_2_method_12_code 22 = .ok (.iload_n 3, 1) := by decide +kernel
theorem dd_Chart_leastFirstHole_23 : decode prog_2_method_12_code 23 = .ok (.bipush 7, 2) := by decide +kernel
theorem dd_Chart_leastFirstHole_25 : decode prog_2_method_12_code 25 = .ok (.imul, 1) := by decide +kernel
theorem dd_Chart_leastFirstHole_26 : decode prog_2_method_12_code 26 = .ok (.iaload, 1) := by decide +kernel
theorem dd_Chart_leastFirstHole_27 : decode prog_2_method_12_code 27 = .ok (.istore 4, 2) := by decide +kernel
theorem dd_Chart_leastFirstHole_29 : decode prog_2_method_12_code 29 = .ok (.aload_n 0, 1) := by decide +kernel
theorem dd_Chart_leastFirstHole_30 : decode prog_2_method_12_code 30 = .ok (.getfield 21, 3) := by decide +kernel
theorem dd_Chart_leastFirstHole_33 : decode prog_2_method_12_code 33 = .ok (.getfield 72, 3) := by decide +kernel
theorem dd_Chart_leastFirstHole_36 : decode prog_2_method_12_code 36 = .ok (.iload_n 3, 1) := by decide +kernel
theorem dd_Chart_leastFirstHole_37 : decode prog_2_method_12_code 37 = .ok (.iaload, 1) := by decide +kernel
theorem dd_Chart_leastFirstHole_38 : decode prog_2_method_12_code 38 = .ok (.iload_n 1, 1) := by decide +kernel
theorem dd_Chart_leastFirstHole_39 : decode prog_2_method_12_code 39 = .ok (.if_icmp .lt 18, 3) := by decide +kernel
theorem dd_Chart_leastFirstHole_42 : decode prog_2_method_12_code 42 = .ok (.iload 4, 2) := by decide +kernel
theorem dd_Chart_leastFirstHole_44 : decode prog_2_method_12_code 44 = .ok (.iconst (-1), 1) := by decide +kernel
theorem dd_Chart_leastFirstHole_45 : decode prog_2_method_12_code 45 = .ok (.if_icmp .eq 12, 3) := by decide +kernel
theorem dd_Chart_leastFirstHole_48 : decode prog_2_method_12_code 48 = .ok (.iload 4, 2) := by decide +kernel
theorem dd_Chart_leastFirstHole_50 : decode prog_2_method_12_code 50 = .ok (.iload_n 2, 1) := by decide +kernel
theorem dd_Chart_leastFirstHole_51 : decode prog_2_method_12_code 51 = .ok (.if_icmp .ge 6, 3) := by decide +kernel
theorem dd_Chart_leastFirstHole_54 : decode prog_2_method_12_code 54 = .ok (.iload 4, 2) := by decide +kernel
theorem dd_Chart_leastFirstHole_56 : decode prog_2_method_12_code 56 = .ok (.istore_n 2, 1) := by decide +kernel
theorem dd_Chart_leastFirstHole_57 : decode prog_2_method_12_code 57 = .ok (.iinc 3 1, 3) := by decide +kernel
theorem dd_Chart_leastFirstHole_60 : decode prog_2_method_12_code 60 = .ok (.goto (-56), 3) := by decide +kernel
theorem dd_Chart_leastFirstHole_63 : decode prog_2_method_12_code 63 = .ok (.iload_n 2, 1) := by decide +kernel
theorem dd_Chart_leastFirstHole_64 : decode prog_2_method_12_code 64 = .ok (.ireturn, 1) := by decide +kernel
theorem dd_Chart_leastWanted_0 : decode prog_2_method_10_code 0 = .ok (.bipush 11, 2) := by decide +kernel
theorem dd_Chart_leastWanted_2 : decode prog_2_method_10_code 2 = .ok (.istore_n 2, 1) := by decide +kernel
theorem dd_Chart_leastWanted_3 : decode prog_2_method_10_code 3 = .ok (.iconst 0, 1) := by decide +kernel
theorem dd_Chart_leastWanted_4 : decode prog_2_method_10_code 4 = .ok (.istore_n 3, 1) := by decide +kernel
theorem dd_Chart_leastWanted_5 : decode prog_2_method_10_code 5 = .ok (.iload_n 3, 1) := by decide +kernel
theorem dd_Chart_leastWanted_6 : decode prog_2_method_10_code 6 = .ok (.aload_n 0, 1) := by decide +kernel
theorem dd_Chart_leastWanted_7 : decode prog_2_method_10_code 7 = .ok (.getfield 21, 3) := by decide +kernel
theorem dd_Chart_leastWanted_10 : decode prog_2_method_10_code 10 = .ok (.invokevirtual 54, 3) := by decide +kernel
theorem dd_Chart_leastWanted_13 : decode prog_2_method_10_code 13 = .ok (.if_icmp .ge 49, 3) := by decide +kernel
theorem dd_Chart_leastWanted_16 : decode prog_2_method_10_code 16 = .ok (.aload_n 0, 1) := by decide +kernel
theorem dd_Chart_leastWanted_17 : decode prog_2_method_10_code 17 = .ok (.getfield 21, 3) := by decide +kernel
theorem dd_Chart_leastWanted_20 : decode prog_2_method_10_code 20 = .ok (.getfield 82, 3) := by decide +kernel
theorem dd_Chart_leastWanted_23 : decode prog_2_method_10_code 23 = .ok (.iload_n 3, 1) := by decide +kernel
theorem dd_Chart_leastWanted_24 : decode prog_2_method_10_code 24 = .ok (.iaload, 1) := by decide +kernel
theorem dd_Chart_leastWanted_25 : decode prog_2_method_10_code 25 = .ok (.istore 4, 2) := by decide +kernel
theorem dd_Chart_leastWanted_27 : decode prog_2_method_10_code 27 = .ok (.iload 4, 2) := by decide +kernel
theorem dd_Chart_leastWanted_29 : decode prog_2_method_10_code 29 = .ok (.iconst (-1), 1) := by decide +kernel
theorem dd_Chart_leastWanted_30 : decode prog_2_method_10_code 30 = .ok (.if_icmp .eq 26, 3) := by decide +kernel
theorem dd_Chart_leastWanted_33 : decode prog_2_method_10_code 33 = .ok (.iload 4, 2) := by decide +kernel
theorem dd_Chart_leastWanted_35 : decode prog_2_method_10_code 35 = .ok (.iload_n 2, 1) := by decide +kernel
theorem dd_Chart_leastWanted_36 : decode prog_2_method_10_code 36 = .ok (.if_icmp .ge 20, 3) := by decide +kernel
theorem dd_Chart_leastWanted_39 : decode prog_2_method_10_code 39 = .ok (.aload_n 0, 1) := by decide +kernel
theorem dd_Chart_leastWanted_40 : decode prog_2_method_10_code 40 = .ok (.getfield 9, 3) := by decide +kernel
theorem dd_Chart_leastWanted_43 : decode prog_2_method_10_code 43 = .ok (.iload_n 1, 1) := by decide +kernel
theorem dd_Chart_leastWanted_44 : decode prog_2_method_10_code 44 = .ok (.bipush 98, 2) := by decide +kernel
theorem dd_Chart_leastWanted_46 : decode prog_2_method_10_code 46 = .ok (.imul, 1) := by decide +kernel
theorem dd_Chart_leastWanted_47 : decode prog_2_method_10_code 47 = .ok (.iload_n 3, 1) := by decide +kernel
theorem dd_Chart_leastWanted_48 : decode prog_2_method_10_code 48 = .ok (.iadd, 1) := by decide +kernel
theorem dd_Chart_leastWanted_49 : decode prog_2_method_10_code 49 = .ok (.iaload, 1) := by decide +kernel
theorem dd_Chart_leastWanted_50 : decode prog_2_method_10_code 50 = .ok (.ifCond .eq 6, 3) := by decide +kernel
theorem dd_Chart_leastWanted_53 : decode prog_2_method_10_code 53 = .ok (.iload 4, 2) := by decide +kernel
theorem dd_Chart_leastWanted_55 : decode prog_2_method_10_code 55 = .ok (.istore_n 2, 1) := by decide +kernel
theorem dd_Chart_leastWanted_56 : decode prog_2_method_10_code 56 = .ok (.iinc 3 1, 3) := by decide +kernel
theorem dd_Chart_leastWanted_59 : decode prog_2_method_10_code 59 = .ok (.goto (-54), 3) := by decide +kernel
theorem dd_Chart_leastWanted_62 : decode prog_2_method_10_code 62 = .ok (.iload_n 2, 1) := by decide +kernel
theorem dd_Chart_leastWanted_63 : decode prog_2_method_10_code 63 = .ok (.ireturn, 1) := by decide +kernel
theorem dd_Chart_onlyRule_0 : decode prog_2_method_21_code 0 = .ok (.aload_n 0, 1) := by decide +kernel
theorem dd_Chart_onlyRule_1 : decode prog_2_method_21_code 1 = .ok (.getfield 21, 3) := by decide +kernel
theorem dd_Chart_onlyRule_4 : decode prog_2_method_21_code 4 = .ok (.getfield 68, 3) := by decide +kernel
theorem dd_Chart_onlyRule_7 : decode prog_2_method_21_code 7 = .ok (.iconst 1, 1) := by decide +kernel
theorem dd_Chart_onlyRule_8 : decode prog_2_method_21_code 8 = .ok (.isub, 1) := by decide +kernel
theorem dd_Chart_onlyRule_9 : decode prog_2_method_21_code 9 = .ok (.istore 4, 2) := by decide +kernel
theorem dd_Chart_onlyRule_11 : decode prog_2_method_21_code 11 = .ok (.iload 4, 2) := by decide +kernel
theorem dd_Chart_onlyRule_13 : decode prog_2_method_21_code 13 = .ok (.ifCond .le 44, 3) := by decide +kernel
theorem dd_Chart_onlyRule_16 : decode prog_2_method_21_code 16 = .ok (.aload_n 0, 1) := by decide +kernel
theorem dd_Chart_onlyRule_17 : decode prog_2_method_21_code 17 = .ok (.getfield 21, 3) := by decide +kernel
theorem dd_Chart_onlyRule_20 : decode prog_2_method_21_code 20 = .ok (.getfield 72, 3) := by decide +kernel
theorem dd_Chart_onlyRule_23 : decode prog_2_method_21_code 23 = .ok (.iload 4, 2) := by decide +kernel
theorem dd_Chart_onlyRule_25 : decode prog_2_method_21_code 25 = .ok (.iaload, 1) := by decide +kernel
theorem dd_Chart_onlyRule_26 : decode prog_2_method_21_code 26 = .ok (.iload_n 3, 1) := by decide +kernel
theorem dd_Chart_onlyRule_27 : decode prog_2_method_21_code 27 = .ok (.if_icmp .lt 24, 3) := by decide +kernel
theorem dd_Chart_onlyRule_30 : decode prog_2_method_21_code 30 = .ok (.aload_n 0, 1) := by decide +kernel
theorem dd_Chart_onlyRule_31 : decode prog_2_method_21_code 31 = .ok (.iload_n 1, 1) := by decide +kernel
theorem dd_Chart_onlyRule_32 : decode prog_2_method_21_code 32 = .ok (.iload_n 2, 1) := by decide +kernel
theorem dd_Chart_onlyRule_33 : decode prog_2_method_21_code 33 = .ok (.aload_n 0, 1) := by decide +kernel
theorem dd_Chart_onlyRule_34 : decode prog_2_method_21_code 34 = .ok (.getfield 21, 3) := by decide +kernel
theorem dd_Chart_onlyRule_37 : decode prog_2_method_21_code 37 = .ok (.iload 4, 2) := by decide +kernel
theorem dd_Chart_onlyRule_39 : decode prog_2_method_21_code 39 = .ok (.invokevirtual 75, 3) := by decide +kernel
theorem dd_Chart_onlyRule_42 : decode prog_2_method_21_code 42 = .ok (.invokevirtual 78, 3) := by decide +kernel
theorem dd_Chart_onlyRule_45 : decode prog_2_method_21_code 45 = .ok (.ifCond .eq 6, 3) := by decide +kernel
theorem dd_Chart_onlyRule_48 : decode prog_2_method_21_code 48 = .ok (.iload 4, 2) := by decide +kernel
theorem dd_Chart_onlyRule_50 : decode prog_2_method_21_code 50 = .ok (.ireturn, 1) := by decide +kernel
theorem dd_Chart_onlyRule_51 : decode prog_2_method_21_code 51 = .ok (.iinc 4 (-1), 3) := by decide +kernel
theorem dd_Chart_onlyRule_54 : decode prog_2_method_21_code 54 = .ok (.goto (-43), 3) := by decide +kernel
theorem dd_Chart_onlyRule_57 : decode prog_2_method_21_code 57 = .ok (.iconst 0, 1) := by decide +kernel
theorem dd_Chart_onlyRule_58 : decode prog_2_method_21_code 58 = .ok (.ireturn, 1) := by decide +kernel
theorem dd_Chart_onlySplit_0 : decode prog_2_method_22_code 0 = .ok (.aload_n 0, 1) := by decide +kernel
theorem dd_Chart_onlySplit_1 : decode prog_2_method_22_code 1 = .ok (.getfield 21, 3) := by decide +kernel
theorem dd_Chart_onlySplit_4 : decode prog_2_method_22_code 4 = .ok (.getfield 82, 3) := by decide +kernel
theorem dd_Chart_onlySplit_7 : decode prog_2_method_22_code 7 = .ok (.iload_n 1, 1) := by decide +kernel
theorem dd_Chart_onlySplit_8 : decode prog_2_method_22_code 8 = .ok (.iaload, 1) := by decide +kernel
theorem dd_Chart_onlySplit_9 : decode prog_2_method_22_code 9 = .ok (.istore 4, 2) := by decide +kernel
theorem dd_Chart_onlySplit_11 : decode prog_2_method_22_code 11 = .ok (.iload_n 3, 1) := by decide +kernel
theorem dd_Chart_onlySplit_12 : decode prog_2_method_22_code 12 = .ok (.iconst 1, 1) := by decide +kernel
theorem dd_Chart_onlySplit_13 : decode prog_2_method_22_code 13 = .ok (.isub, 1) := by decide +kernel
theorem dd_Chart_onlySplit_14 : decode prog_2_method_22_code 14 = .ok (.istore 5, 2) := by decide +kernel
theorem dd_Chart_onlySplit_16 : decode prog_2_method_22_code 16 = .ok (.iload 5, 2) := by decide +kernel
theorem dd_Chart_onlySplit_18 : decode prog_2_method_22_code 18 = .ok (.iload_n 2, 1) := by decide +kernel
theorem dd_Chart_onlySplit_19 : decode prog_2_method_22_code 19 = .ok (.if_icmp .le 40, 3) := by decide +kernel
theorem dd_Chart_onlySplit_22 : decode prog_2_method_22_code 22 = .ok (.aload_n 0, 1) := by decide +kernel
theorem dd_Chart_onlySplit_23 : decode prog_2_method_22_code 23 = .ok (.iload_n 2, 1) := by decide +kernel
theorem dd_Chart_onlySplit_24 : decode prog_2_method_22_code 24 = .ok (.iload 5, 2) := by decide +kernel
theorem dd_Chart_onlySplit_26 : decode prog_2_method_22_code 26 = .ok (.iload_n 1, 1) := by decide +kernel
theorem dd_Chart_onlySplit_27 : decode prog_2_method_22_code 27 = .ok (.invokevirtual 78, 3) := by decide +kernel
theorem dd_Chart_onlySplit_30 : decode prog_2_method_22_code 30 = .ok (.ifCond .eq 23, 3) := by decide +kernel
theorem dd_Chart_onlySplit_33 : decode prog_2_method_22_code 33 = .ok (.aload_n 0, 1) := by decide +kernel
theorem dd_Chart_onlySplit_34 : decode prog_2_method_22_code 34 = .ok (.getfield 18, 3) := by decide +kernel
theorem dd_Chart_onlySplit_37 : decode prog_2_method_22_code 37 = .ok (.aload_n 0, 1) := by decide +kernel
theorem dd_Chart_onlySplit_38 : decode prog_2_method_22_code 38 = .ok (.iload 5, 2) := by decide +kernel
theorem dd_Chart_onlySplit_40 : decode prog_2_method_22_code 40 = .ok (.iload_n 3, 1) := by decide +kernel
theorem dd_Chart_onlySplit_41 : decode prog_2_method_22_code 41 = .ok (.iload 4, 2) := by decide +kernel
theorem dd_Chart_onlySplit_43 : decode prog_2_method_22_code 43 = .ok (.invokevirtual 91, 3) := by decide +kernel
theorem dd_Chart_onlySplit_46 : decode prog_2_method_22_code 46 = .ok (.iaload, 1) := by decide +kernel
theorem dd_Chart_onlySplit_47 : decode prog_2_method_22_code 47 = .ok (.ifCond .le 6, 3) := by decide +kernel
theorem dd_Chart_onlySplit_50 : decode prog_2_method_22_code 50 = .ok (.iload 5, 2) := by decide +kernel
theorem dd_Chart_onlySplit_52 : decode prog_2_method_22_code 52 = .ok (.ireturn, 1) := by decide +kernel
theorem dd_Chart_onlySplit_53 : decode prog_2_method_22_code 53 = .ok (.iinc 5 (-1), 3) := by decide +kernel
theorem dd_Chart_onlySplit_56 : decode prog_2_method_22_code 56 = .ok (.goto (-40), 3) := by decide +kernel
theorem dd_Chart_onlySplit_59 : decode prog_2_method_22_code 59 = .ok (.iload_n 2, 1) := by decide +kernel
theorem dd_Chart_onlySplit_60 : decode prog_2_method_22_code 60 = .ok (.ireturn, 1) := by decide +kernel
theorem dd_Chart_predict_0 : decode prog_2_method_11_code 0 = .ok (.iload_n 2, 1) := by decide +kernel
theorem dd_Chart_predict_1 : decode prog_2_method_11_code 1 = .ok (.istore_n 3, 1) := by decide +kernel
theorem dd_Chart_predict_2 : decode prog_2_method_11_code 2 = .ok (.iconst 1, 1) := by decide +kernel
theorem dd_Chart_predict_3 : decode prog_2_method_11_code 3 = .ok (.istore 4, 2) := by decide +kernel
theorem dd_Chart_predict_5 : decode prog_2_method_11_code 5 = .ok (.iconst 0, 1) := by decide +kernel
theorem dd_Chart_predict_6 : decode prog_2_method_11_code 6 = .ok (.istore 5, 2) := by decide +kernel
theorem dd_Chart_predict_8 : decode prog_2_method_11_code 8 = .ok (.iload 5, 2) := by decide +kernel
theorem dd_Chart_predict_10 : decode prog_2_method_11_code 10 = .ok (.bipush 10, 2) := by decide +kernel
theorem dd_Chart_predict_12 : decode prog_2_method_11_code 12 = .ok (.if_icmp .gt 37, 3) := by decide +kernel
theorem dd_Chart_predict_15 : decode prog_2_method_11_code 15 = .ok (.iload 4, 2) := by decide +kernel
theorem dd_Chart_predict_17 : decode prog_2_method_11_code 17 = .ok (.ifCond .eq 32, 3) := by decide +kernel
theorem dd_Chart_predict_20 : decode prog_2_method_11_code 20 = .ok (.iload_n 3, 1) := by decide +kernel
theorem dd_Chart_predict_21 : decode prog_2_method_11_code 21 = .ok (.istore 6, 2) := by decide +kernel
theorem dd_Chart_predict_23 : decode prog_2_method_11_code 23 = .ok (.aload_n 0, 1) := by decide +kernel
theorem dd_Chart_predict_24 : decode prog_2_method_11_code 24 = .ok (.iload 6, 2) := by decide +kernel
theorem dd_Chart_predict_26 : decode prog_2_method_11_code 26 = .ok (.invokevirtual 85, 3) := by decide +kernel
theorem dd_Chart_predict_29 : decode prog_2_method_11_code 29 = .ok (.istore_n 3, 1) := by decide +kernel
theorem dd_Chart_predict_30 : decode prog_2_method_11_code 30 = .ok (.iload_n 3, 1) := by decide +kernel
theorem dd_Chart_predict_31 : decode prog_2_method_11_code 31 = .ok (.iload 6, 2) := by decide +kernel
theorem dd_Chart_predict_33 : decode prog_2_method_11_code 33 = .ok (.if_icmp .ge 7, 3) := by decide +kernel
theorem dd_Chart_predict_36 : decode prog_2_method_11_code 36 = .ok (.iconst 1, 1) := by decide +kernel
theorem dd_Chart_predict_37 : decode prog_2_method_11_code 37 = .ok (.goto 4, 3) := by decide +kernel
theorem dd_Chart_predict_40 : decode prog_2_method_11_code 40 = .ok (.iconst 0, 1) := by decide +kernel
theorem dd_Chart_predict_41 : decode prog_2_method_11_code 41 = .ok (.istore 4, 2) := by decide +kernel
theorem dd_Chart_predict_43 : decode prog_2_method_11_code 43 = .ok (.iinc 5 1, 3) := by decide +kernel
theorem dd_Chart_predict_46 : decode prog_2_method_11_code 46 = .ok (.goto (-38), 3) := by decide +kernel
theorem dd_Chart_predict_49 : decode prog_2_method_11_code 49 = .ok (.iconst 0, 1) := by decide +kernel
theorem dd_Chart_predict_50 : decode prog_2_method_11_code 50 = .ok (.istore 5, 2) := by decide +kernel
theorem dd_Chart_predict_52 : decode prog_2_method_11_code 52 = .ok (.iload 5, 2) := by decide +kernel
theorem dd_Chart_predict_54 : decode prog_2_method_11_code 54 = .ok (.aload_n 0, 1) := by decide +kernel
theorem dd_Chart_predict_55 : decode prog_2_method_11_code 55 = .ok (.getfield 21, 3) := by decide +kernel
theorem dd_Chart_predict_58 : decode prog_2_method_11_code 58 = .ok (.getfield 68, 3) := by decide +kernel
theorem dd_Chart_predict_61 : decode prog_2_method_11_code 61 = .ok (.if_icmp .ge 41, 3) := by decide +kernel
theorem dd_Chart_predict_64 : decode prog_2_method_11_code 64 = .ok (.aload_n 0, 1) := by decide +kernel
theorem dd_Chart_predict_65 : decode prog_2_method_11_code 65 = .ok (.getfield 21, 3) := by decide +kernel
theorem dd_Chart_predict_68 : decode prog_2_method_11_code 68 = .ok (.getfield 72, 3) := by decide +kernel
theorem dd_Chart_predict_71 : decode prog_2_method_11_code 71 = .ok (.iload 5, 2) := by decide +kernel
theorem dd_Chart_predict_73 : decode prog_2_method_11_code 73 = .ok (.iaload, 1) := by decide +kernel
theorem dd_Chart_predict_74 : decode prog_2_method_11_code 74 = .ok (.iload_n 3, 1) := by decide +kernel
theorem dd_Chart_predict_75 : decode prog_2_method_11_code 75 = .ok (.if_icmp .lt 21, 3) := by decide +kernel
theorem dd_Chart_predict_78 : decode prog_2_method_11_code 78 = .ok (.aload_n 0, 1) := by decide +kernel
theorem dd_Chart_predict_79 : decode prog_2_method_11_code 79 = .ok (.getfield 9, 3) := by decide +kernel
theorem dd_Chart_predict_82 : decode prog_2_method_11_code 82 = .ok (.iload_n 1, 1) := by decide +kernel
theorem dd_Chart_predict_83 : decode prog_2_method_11_code 83 = .ok (.bipush 98, 2) := by decide +kernel
theorem dd_Chart_predict_85 : decode prog_2_method_11_code 85 = .ok (.imul, 1) := by decide +kernel
theorem dd_Chart_predict_86 : decode prog_2_method_11_code 86 = .ok (.iload 5, 2) := by decide +kernel
theorem dd_Chart_predict_88 : decode prog_2_method_11_code 88 = .ok (.bipush 7, 2) := by decide +kernel
theorem dd_Chart_predict_90 : decode prog_2_method_11_code 90 = .ok (.imul, 1) := by decide +kernel
theorem dd_Chart_predict_91 : decode prog_2_method_11_code 91 = .ok (.iadd, 1) := by decide +kernel
theorem dd_Chart_predict_92 : decode prog_2_method_11_code 92 = .ok (.iconst 1, 1) := by decide +kernel
theorem dd_Chart_predict_93 : decode prog_2_method_11_code 93 = .ok (.iload_n 1, 1) := by decide +kernel
theorem dd_Chart_predict_94 : decode prog_2_method_11_code 94 = .ok (.ishl, 1) := by decide +kernel
theorem dd_Chart_predict_95 : decode prog_2_method_11_code 95 = .ok (.iastore, 1) := by decide +kernel
theorem dd_Chart_predict_96 : decode prog_2_method_11_code 96 = .ok (.iinc 5 1, 3) := by decide +kernel
theorem dd_Chart_predict_99 : decode prog_2_method_11_code 99 = .ok (.goto (-47), 3) := by decide +kernel
theorem dd_Chart_predict_102 : decode prog_2_method_11_code 102 = .ok (.return_, 1) := by decide +kernel
theorem dd_Chart_scan_0 : decode prog_2_method_6_code 0 = .ok (.iload_n 1, 1) := by decide +kernel
theorem dd_Chart_scan_1 : decode prog_2_method_6_code 1 = .ok (.bipush 98, 2) := by decide +kernel
theorem dd_Chart_scan_3 : decode prog_2_method_6_code 3 = .ok (.imul, 1) := by decide +kernel
theorem dd_Chart_scan_4 : decode prog_2_method_6_code 4 = .ok (.istore 4, 2) := by decide +kernel
theorem dd_Chart_scan_6 : decode prog_2_method_6_code 6 = .ok (.iload 4, 2) := by decide +kernel
theorem dd_Chart_scan_8 : decode prog_2_method_6_code 8 = .ok (.bipush 98, 2) := by decide +kernel
theorem dd_Chart_scan_10 : decode prog_2_method_6_code 10 = .ok (.iadd, 1) := by decide +kernel
theorem dd_Chart_scan_11 : decode prog_2_method_6_code 11 = .ok (.istore 5, 2) := by decide +kernel
theorem dd_Chart_scan_13 : decode prog_2_method_6_code 13 = .ok (.iconst 0, 1) := by decide +kernel
theorem dd_Chart_scan_14 : decode prog_2_method_6_code 14 = .ok (.istore 6, 2) := by decide +kernel
theorem dd_Chart_scan_16 : decode prog_2_method_6_code 16 = .ok (.iconst 0, 1) := by decide +kernel
theorem dd_Chart_scan_17 : decode prog_2_method_6_code 17 = .ok (.istore 7, 2) := by decide +kernel
theorem dd_Chart_scan_19 : decode prog_2_method_6_code 19 = .ok (.iload 7, 2) := by decide +kernel
theorem dd_Chart_scan_21 : decode prog_2_method_6_code 21 = .ok (.aload_n 0, 1) := by decide +kernel
theorem dd_Chart_scan_22 : decode prog_2_method_6_code 22 = .ok (.getfield 21, 3) := by decide +kernel
theorem dd_Chart_scan_25 : decode prog_2_method_6_code 25 = .ok (.invokevirtual 54, 3) := by decide +kernel
theorem dd_Chart_scan_28 : decode prog_2_method_6_code 28 = .ok (.if_icmp .ge 62, 3) := by decide +kernel
theorem dd_Chart_scan_31 : decode prog_2_method_6_code 31 = .ok (.aload_n 0, 1) := by decide +kernel
theorem dd_Chart_scan_32 : decode prog_2_method_6_code 32 = .ok (.getfield 9, 3) := by decide +kernel
theorem dd_Chart_scan_35 : decode prog_2_method_6_code 35 = .ok (.iload 4, 2) := by decide +kernel
theorem dd_Chart_scan_37 : decode prog_2_method_6_code 37 = .ok (.iload 7, 2) := by decide +kernel
theorem dd_Chart_scan_39 : decode prog_2_method_6_code 39 = .ok (.iadd, 1) := by decide +kernel
theorem dd_Chart_scan_40 : decode prog_2_method_6_code 40 = .ok (.iaload, 1) := by decide +kernel
theorem dd_Chart_scan_41 : decode prog_2_method_6_code 41 = .ok (.ifCond .eq 43, 3) := by decide +kernel
theorem dd_Chart_scan_44 : decode prog_2_method_6_code 44 = .ok (.aload_n 0, 1) := by decide +kernel
theorem dd_Chart_scan_45 : decode prog_2_method_6_code 45 = .ok (.getfield 21, 3) := by decide +kernel
theorem dd_Chart_scan_48 : decode prog_2_method_6_code 48 = .ok (.getfield 60, 3) := by decide +kernel
theorem dd_Chart_scan_51 : decode prog_2_method_6_code 51 = .ok (.iload 7, 2) := by decide +kernel
theorem dd_Chart_scan_53 : decode prog_2_method_6_code 53 = .ok (.laload, 1) := by decide +kernel
theorem dd_Chart_scan_54 : decode prog_2_method_6_code 54 = .ok (.lload_n 2, 1) := by decide +kernel
theorem dd_Chart_scan_55 : decode prog_2_method_6_code 55 = .ok (.lcmp, 1) := by decide +kernel
theorem dd_Chart_scan_56 : decode prog_2_method_6_code 56 = .ok (.ifCond .ne 28, 3) := by decide +kernel
theorem dd_Chart_scan_59 : decode prog_2_method_6_code 59 = .ok (.aload_n 0, 1) := by decide +kernel
theorem dd_Chart_scan_60 : decode prog_2_method_6_code 60 = .ok (.getfield 9, 3) := by decide +kernel
theorem dd_Chart_scan_63 : decode prog_2_method_6_code 63 = .ok (.iload 5, 2) := by decide +kernel
theorem dd_Chart_scan_65 : decode prog_2_method_6_code 65 = .ok (.iload 7, 2) := by decide +kernel
theorem dd_Chart_scan_67 : decode prog_2_method_6_code 67 = .ok (.iadd, 1) := by decide +kernel
theorem dd_Chart_scan_68 : decode prog_2_method_6_code 68 = .ok (.iconst 1, 1) := by decide +kernel
theorem dd_Chart_scan_69 : decode prog_2_method_6_code 69 = .ok (.iadd, 1) := by decide +kernel
theorem dd_Chart_scan_70 : decode prog_2_method_6_code 70 = .ok (.aload_n 0, 1) := by decide +kernel
theorem dd_Chart_scan_71 : decode prog_2_method_6_code 71 = .ok (.getfield 9, 3) := by decide +kernel
theorem dd_Chart_scan_74 : decode prog_2_method_6_code 74 = .ok (.iload 4, 2) := by decide +kernel
theorem dd_Chart_scan_76 : decode prog_2_method_6_code 76 = .ok (.iload 7, 2) := by decide +kernel
theorem dd_Chart_scan_78 : decode prog_2_method_6_code 78 = .ok (.iadd, 1) := by decide +kernel
theorem dd_Chart_scan_79 : decode prog_2_method_6_code 79 = .ok (.iaload, 1) := by decide +kernel
end
section
theorem dd_Chart_scan_80 : decode prog_2_method_6_code 80 = .ok (.iastore, 1) := by decide +kernel
theorem dd_Chart_scan_81 : decode prog_2_method_6_code 81 = .ok (.iconst 1, 1) := by decide +kernel
theorem dd_Chart_scan_82 : decode prog_2_method_6_code 82 = .ok (.istore 6, 2) := by decide +kernel
theorem dd_Chart_scan_84 : decode prog_2_method_6_code 84 = .ok (.iinc 7 1, 3) := by decide +kernel
theorem dd_Chart_scan_87 : decode prog_2_method_6_code 87 = .ok (.goto (-68), 3) := by decide +kernel
theorem dd_Chart_scan_90 : decode prog_2_method_6_code 90 = .ok (.iload 6, 2) := by decide +kernel
theorem dd_Chart_scan_92 : decode prog_2_method_6_code 92 = .ok (.ireturn, 1) := by decide +kernel
theorem dd_Chart_sumTerms_0 : decode prog_2_method_17_code 0 = .ok (.aload_n 0, 1) := by decide +kernel
theorem dd_Chart_sumTerms_1 : decode prog_2_method_17_code 1 = .ok (.iload_n 1, 1) := by decide +kernel
theorem dd_Chart_sumTerms_2 : decode prog_2_method_17_code 2 = .ok (.iload_n 2, 1) := by decide +kernel
theorem dd_Chart_sumTerms_3 : decode prog_2_method_17_code 3 = .ok (.iconst 0, 1) := by decide +kernel
theorem dd_Chart_sumTerms_4 : decode prog_2_method_17_code 4 = .ok (.invokevirtual 91, 3) := by decide +kernel
theorem dd_Chart_sumTerms_7 : decode prog_2_method_17_code 7 = .ok (.istore_n 3, 1) := by decide +kernel
theorem dd_Chart_sumTerms_8 : decode prog_2_method_17_code 8 = .ok (.iconst 0, 1) := by decide +kernel
theorem dd_Chart_sumTerms_9 : decode prog_2_method_17_code 9 = .ok (.istore 4, 2) := by decide +kernel
theorem dd_Chart_sumTerms_11 : decode prog_2_method_17_code 11 = .ok (.iload 4, 2) := by decide +kernel
theorem dd_Chart_sumTerms_13 : decode prog_2_method_17_code 13 = .ok (.bipush 10, 2) := by decide +kernel
theorem dd_Chart_sumTerms_15 : decode prog_2_method_17_code 15 = .ok (.if_icmp .gt 19, 3) := by decide +kernel
theorem dd_Chart_sumTerms_18 : decode prog_2_method_17_code 18 = .ok (.aload_n 0, 1) := by decide +kernel
theorem dd_Chart_sumTerms_19 : decode prog_2_method_17_code 19 = .ok (.getfield 18, 3) := by decide +kernel
theorem dd_Chart_sumTerms_22 : decode prog_2_method_17_code 22 = .ok (.iload_n 3, 1) := by decide +kernel
theorem dd_Chart_sumTerms_23 : decode prog_2_method_17_code 23 = .ok (.iload 4, 2) := by decide +kernel
theorem dd_Chart_sumTerms_25 : decode prog_2_method_17_code 25 = .ok (.iadd, 1) := by decide +kernel
theorem dd_Chart_sumTerms_26 : decode prog_2_method_17_code 26 = .ok (.iconst 0, 1) := by decide +kernel
theorem dd_Chart_sumTerms_27 : decode prog_2_method_17_code 27 = .ok (.iastore, 1) := by decide +kernel
theorem dd_Chart_sumTerms_28 : decode prog_2_method_17_code 28 = .ok (.iinc 4 1, 3) := by decide +kernel
theorem dd_Chart_sumTerms_31 : decode prog_2_method_17_code 31 = .ok (.goto (-20), 3) := by decide +kernel
theorem dd_Chart_sumTerms_34 : decode prog_2_method_17_code 34 = .ok (.iconst 0, 1) := by decide +kernel
theorem dd_Chart_sumTerms_35 : decode prog_2_method_17_code 35 = .ok (.istore 4, 2) := by decide +kernel
theorem dd_Chart_sumTerms_37 : decode prog_2_method_17_code 37 = .ok (.iload 4, 2) := by decide +kernel
theorem dd_Chart_sumTerms_39 : decode prog_2_method_17_code 39 = .ok (.aload_n 0, 1) := by decide +kernel
theorem dd_Chart_sumTerms_40 : decode prog_2_method_17_code 40 = .ok (.getfield 21, 3) := by decide +kernel
theorem dd_Chart_sumTerms_43 : decode prog_2_method_17_code 43 = .ok (.getfield 68, 3) := by decide +kernel
theorem dd_Chart_sumTerms_46 : decode prog_2_method_17_code 46 = .ok (.if_icmp .ge 59, 3) := by decide +kernel
theorem dd_Chart_sumTerms_49 : decode prog_2_method_17_code 49 = .ok (.aload_n 0, 1) := by decide +kernel
theorem dd_Chart_sumTerms_50 : decode prog_2_method_17_code 50 = .ok (.getfield 21, 3) := by decide +kernel
theorem dd_Chart_sumTerms_53 : decode prog_2_method_17_code 53 = .ok (.iload 4, 2) := by decide +kernel
theorem dd_Chart_sumTerms_55 : decode prog_2_method_17_code 55 = .ok (.invokevirtual 75, 3) := by decide +kernel
theorem dd_Chart_sumTerms_58 : decode prog_2_method_17_code 58 = .ok (.istore 5, 2) := by decide +kernel
theorem dd_Chart_sumTerms_60 : decode prog_2_method_17_code 60 = .ok (.aload_n 0, 1) := by decide +kernel
theorem dd_Chart_sumTerms_61 : decode prog_2_method_17_code 61 = .ok (.iload_n 1, 1) := by decide +kernel
theorem dd_Chart_sumTerms_62 : decode prog_2_method_17_code 62 = .ok (.iload_n 2, 1) := by decide +kernel
theorem dd_Chart_sumTerms_63 : decode prog_2_method_17_code 63 = .ok (.iload 5, 2) := by decide +kernel
theorem dd_Chart_sumTerms_65 : decode prog_2_method_17_code 65 = .ok (.invokevirtual 78, 3) := by decide +kernel
theorem dd_Chart_sumTerms_68 : decode prog_2_method_17_code 68 = .ok (.ifCond .eq 31, 3) := by decide +kernel
theorem dd_Chart_sumTerms_71 : decode prog_2_method_17_code 71 = .ok (.aload_n 0, 1) := by decide +kernel
theorem dd_Chart_sumTerms_72 : decode prog_2_method_17_code 72 = .ok (.iload_n 3, 1) := by decide +kernel
theorem dd_Chart_sumTerms_73 : decode prog_2_method_17_code 73 = .ok (.aload_n 0, 1) := by decide +kernel
theorem dd_Chart_sumTerms_74 : decode prog_2_method_17_code 74 = .ok (.getfield 21, 3) := by decide +kernel
theorem dd_Chart_sumTerms_77 : decode prog_2_method_17_code 77 = .ok (.getfield 72, 3) := by decide +kernel
theorem dd_Chart_sumTerms_80 : decode prog_2_method_17_code 80 = .ok (.iload 4, 2) := by decide +kernel
theorem dd_Chart_sumTerms_82 : decode prog_2_method_17_code 82 = .ok (.iaload, 1) := by decide +kernel
theorem dd_Chart_sumTerms_83 : decode prog_2_method_17_code 83 = .ok (.iadd, 1) := by decide +kernel
theorem dd_Chart_sumTerms_84 : decode prog_2_method_17_code 84 = .ok (.aload_n 0, 1) := by decide +kernel
theorem dd_Chart_sumTerms_85 : decode prog_2_method_17_code 85 = .ok (.getfield 15, 3) := by decide +kernel
theorem dd_Chart_sumTerms_88 : decode prog_2_method_17_code 88 = .ok (.iload_n 2, 1) := by decide +kernel
theorem dd_Chart_sumTerms_89 : decode prog_2_method_17_code 89 = .ok (.bipush 98, 2) := by decide +kernel
theorem dd_Chart_sumTerms_91 : decode prog_2_method_17_code 91 = .ok (.imul, 1) := by decide +kernel
theorem dd_Chart_sumTerms_92 : decode prog_2_method_17_code 92 = .ok (.iload 5, 2) := by decide +kernel
theorem dd_Chart_sumTerms_94 : decode prog_2_method_17_code 94 = .ok (.iadd, 1) := by decide +kernel
theorem dd_Chart_sumTerms_95 : decode prog_2_method_17_code 95 = .ok (.iaload, 1) := by decide +kernel
theorem dd_Chart_sumTerms_96 : decode prog_2_method_17_code 96 = .ok (.invokevirtual 116, 3) := by decide +kernel
theorem dd_Chart_sumTerms_99 : decode prog_2_method_17_code 99 = .ok (.iinc 4 1, 3) := by decide +kernel
theorem dd_Chart_sumTerms_102 : decode prog_2_method_17_code 102 = .ok (.goto (-65), 3) := by decide +kernel
theorem dd_Chart_sumTerms_105 : decode prog_2_method_17_code 105 = .ok (.bipush 9, 2) := by decide +kernel
theorem dd_Chart_sumTerms_107 : decode prog_2_method_17_code 107 = .ok (.istore 4, 2) := by decide +kernel
theorem dd_Chart_sumTerms_109 : decode prog_2_method_17_code 109 = .ok (.iload 4, 2) := by decide +kernel
theorem dd_Chart_sumTerms_111 : decode prog_2_method_17_code 111 = .ok (.ifCond .lt 28, 3) := by decide +kernel
theorem dd_Chart_sumTerms_114 : decode prog_2_method_17_code 114 = .ok (.aload_n 0, 1) := by decide +kernel
theorem dd_Chart_sumTerms_115 : decode prog_2_method_17_code 115 = .ok (.iload_n 3, 1) := by decide +kernel
theorem dd_Chart_sumTerms_116 : decode prog_2_method_17_code 116 = .ok (.iload 4, 2) := by decide +kernel
theorem dd_Chart_sumTerms_118 : decode prog_2_method_17_code 118 = .ok (.iadd, 1) := by decide +kernel
theorem dd_Chart_sumTerms_119 : decode prog_2_method_17_code 119 = .ok (.aload_n 0, 1) := by decide +kernel
theorem dd_Chart_sumTerms_120 : decode prog_2_method_17_code 120 = .ok (.getfield 18, 3) := by decide +kernel
theorem dd_Chart_sumTerms_123 : decode prog_2_method_17_code 123 = .ok (.iload_n 3, 1) := by decide +kernel
theorem dd_Chart_sumTerms_124 : decode prog_2_method_17_code 124 = .ok (.iload 4, 2) := by decide +kernel
theorem dd_Chart_sumTerms_126 : decode prog_2_method_17_code 126 = .ok (.iadd, 1) := by decide +kernel
theorem dd_Chart_sumTerms_127 : decode prog_2_method_17_code 127 = .ok (.iconst 1, 1) := by decide +kernel
theorem dd_Chart_sumTerms_128 : decode prog_2_method_17_code 128 = .ok (.iadd, 1) := by decide +kernel
theorem dd_Chart_sumTerms_129 : decode prog_2_method_17_code 129 = .ok (.iaload, 1) := by decide +kernel
theorem dd_Chart_sumTerms_130 : decode prog_2_method_17_code 130 = .ok (.invokevirtual 116, 3) := by decide +kernel
theorem dd_Chart_sumTerms_133 : decode prog_2_method_17_code 133 = .ok (.iinc 4 (-1), 3) := by decide +kernel
theorem dd_Chart_sumTerms_136 : decode prog_2_method_17_code 136 = .ok (.goto (-27), 3) := by decide +kernel
theorem dd_Chart_sumTerms_139 : decode prog_2_method_17_code 139 = .ok (.return_, 1) := by decide +kernel
end
section
theorem dd_Tree_await_0 : decode prog_7_method_4_code 0 = .ok (.aload_n 0, 1) := by decide +kernel
theorem dd_Tree_await_1 : decode prog_7_method_4_code 1 = .ok (.getfield 34, 3) := by decide +kernel
theorem dd_Tree_await_4 : decode prog_7_method_4_code 4 = .ok (.bipush 30, 2) := by decide +kernel
theorem dd_Tree_await_6 : decode prog_7_method_4_code 6 = .ok (.if_icmp .ge 54, 3) := by decide +kernel
theorem dd_Tree_await_9 : decode prog_7_method_4_code 9 = .ok (.aload_n 0, 1) := by decide +kernel
theorem dd_Tree_await_10 : decode prog_7_method_4_code 10 = .ok (.getfield 37, 3) := by decide +kernel
theorem dd_Tree_await_13 : decode prog_7_method_4_code 13 = .ok (.aload_n 0, 1) := by decide +kernel
theorem dd_Tree_await_14 : decode prog_7_method_4_code 14 = .ok (.getfield 34, 3) := by decide +kernel
theorem dd_Tree_await_17 : decode prog_7_method_4_code 17 = .ok (.iload_n 1, 1) := by decide +kernel
theorem dd_Tree_await_18 : decode prog_7_method_4_code 18 = .ok (.iastore, 1) := by decide +kernel
theorem dd_Tree_await_19 : decode prog_7_method_4_code 19 = .ok (.aload_n 0, 1) := by decide +kernel
theorem dd_Tree_await_20 : decode prog_7_method_4_code 20 = .ok (.getfield 40, 3) := by decide +kernel
theorem dd_Tree_await_23 : decode prog_7_method_4_code 23 = .ok (.aload_n 0, 1) := by decide +kernel
theorem dd_Tree_await_24 : decode prog_7_method_4_code 24 = .ok (.getfield 34, 3) := by decide +kernel
theorem dd_Tree_await_27 : decode prog_7_method_4_code 27 = .ok (.iload_n 2, 1) := by decide +kernel
theorem dd_Tree_await_28 : decode prog_7_method_4_code 28 = .ok (.iastore, 1) := by decide +kernel
theorem dd_Tree_await_29 : decode prog_7_method_4_code 29 = .ok (.aload_n 0, 1) := by decide +kernel
theorem dd_Tree_await_30 : decode prog_7_method_4_code 30 = .ok (.getfield 43, 3) := by decide +kernel
theorem dd_Tree_await_33 : decode prog_7_method_4_code 33 = .ok (.aload_n 0, 1) := by decide +kernel
theorem dd_Tree_await_34 : decode prog_7_method_4_code 34 = .ok (.getfield 34, 3) := by decide +kernel
theorem dd_Tree_await_37 : decode prog_7_method_4_code 37 = .ok (.iload_n 3, 1) := by decide +kernel
theorem dd_Tree_await_38 : decode prog_7_method_4_code 38 = .ok (.iastore, 1) := by decide +kernel
theorem dd_Tree_await_39 : decode prog_7_method_4_code 39 = .ok (.aload_n 0, 1) := by decide +kernel
theorem dd_Tree_await_40 : decode prog_7_method_4_code 40 = .ok (.getfield 46, 3) := by decide +kernel
theorem dd_Tree_await_43 : decode prog_7_method_4_code 43 = .ok (.aload_n 0, 1) := by decide +kernel
theorem dd_Tree_await_44 : decode prog_7_method_4_code 44 = .ok (.getfield 34, 3) := by decide +kernel
theorem dd_Tree_await_47 : decode prog_7_method_4_code 47 = .ok (.iload 4, 2) := by decide +kernel
theorem dd_Tree_await_49 : decode prog_7_method_4_code 49 = .ok (.iastore, 1) := by decide +kernel
theorem dd_Tree_await_50 : decode prog_7_method_4_code 50 = .ok (.aload_n 0, 1) := by decide +kernel
theorem dd_Tree_await_51 : decode prog_7_method_4_code 51 = .ok (.dup, 1) := by decide +kernel
theorem dd_Tree_await_52 : decode prog_7_method_4_code 52 = .ok (.getfield 34, 3) := by decide +kernel
theorem dd_Tree_await_55 : decode prog_7_method_4_code 55 = .ok (.iconst 1, 1) := by decide +kernel
theorem dd_Tree_await_56 : decode prog_7_method_4_code 56 = .ok (.iadd, 1) := by decide +kernel
theorem dd_Tree_await_57 : decode prog_7_method_4_code 57 = .ok (.putfield 34, 3) := by decide +kernel
theorem dd_Tree_await_60 : decode prog_7_method_4_code 60 = .ok (.return_, 1) := by decide +kernel
theorem dd_Tree_awaitHoles_0 : decode prog_7_method_6_code 0 = .ok (.aload_n 0, 1) := by decide +kernel
theorem dd_Tree_awaitHoles_1 : decode prog_7_method_6_code 1 = .ok (.getfield 15, 3) := by decide +kernel
theorem dd_Tree_awaitHoles_4 : decode prog_7_method_6_code 4 = .ok (.iload_n 1, 1) := by decide +kernel
theorem dd_Tree_awaitHoles_5 : decode prog_7_method_6_code 5 = .ok (.iaload, 1) := by decide +kernel
theorem dd_Tree_awaitHoles_6 : decode prog_7_method_6_code 6 = .ok (.bipush 7, 2) := by decide +kernel
theorem dd_Tree_awaitHoles_8 : decode prog_7_method_6_code 8 = .ok (.imul, 1) := by decide +kernel
theorem dd_Tree_awaitHoles_9 : decode prog_7_method_6_code 9 = .ok (.istore 4, 2) := by decide +kernel
theorem dd_Tree_awaitHoles_11 : decode prog_7_method_6_code 11 = .ok (.iconst 0, 1) := by decide +kernel
theorem dd_Tree_awaitHoles_12 : decode prog_7_method_6_code 12 = .ok (.istore 5, 2) := by decide +kernel
theorem dd_Tree_awaitHoles_14 : decode prog_7_method_6_code 14 = .ok (.iload_n 3, 1) := by decide +kernel
theorem dd_Tree_awaitHoles_15 : decode prog_7_method_6_code 15 = .ok (.istore 6, 2) := by decide +kernel
theorem dd_Tree_awaitHoles_17 : decode prog_7_method_6_code 17 = .ok (.aload_n 0, 1) := by decide +kernel
theorem dd_Tree_awaitHoles_18 : decode prog_7_method_6_code 18 = .ok (.getfield 49, 3) := by decide +kernel
theorem dd_Tree_awaitHoles_21 : decode prog_7_method_6_code 21 = .ok (.aload_n 0, 1) := by decide +kernel
theorem dd_Tree_awaitHoles_22 : decode prog_7_method_6_code 22 = .ok (.getfield 15, 3) := by decide +kernel
theorem dd_Tree_awaitHoles_25 : decode prog_7_method_6_code 25 = .ok (.iload_n 1, 1) := by decide +kernel
theorem dd_Tree_awaitHoles_26 : decode prog_7_method_6_code 26 = .ok (.iaload, 1) := by decide +kernel
theorem dd_Tree_awaitHoles_27 : decode prog_7_method_6_code 27 = .ok (.invokevirtual 74, 3) := by decide +kernel
theorem dd_Tree_awaitHoles_30 : decode prog_7_method_6_code 30 = .ok (.iconst 1, 1) := by decide +kernel
theorem dd_Tree_awaitHoles_31 : decode prog_7_method_6_code 31 = .ok (.isub, 1) := by decide +kernel
theorem dd_Tree_awaitHoles_32 : decode prog_7_method_6_code 32 = .ok (.istore 7, 2) := by decide +kernel
theorem dd_Tree_awaitHoles_34 : decode prog_7_method_6_code 34 = .ok (.iload 7, 2) := by decide +kernel
theorem dd_Tree_awaitHoles_36 : decode prog_7_method_6_code 36 = .ok (.iload 4, 2) := by decide +kernel
theorem dd_Tree_awaitHoles_38 : decode prog_7_method_6_code 38 = .ok (.if_icmp .lt 72, 3) := by decide +kernel
theorem dd_Tree_awaitHoles_41 : decode prog_7_method_6_code 41 = .ok (.aload_n 0, 1) := by decide +kernel
theorem dd_Tree_awaitHoles_42 : decode prog_7_method_6_code 42 = .ok (.getfield 49, 3) := by decide +kernel
theorem dd_Tree_awaitHoles_45 : decode prog_7_method_6_code 45 = .ok (.getfield 80, 3) := by decide +kernel
theorem dd_Tree_awaitHoles_48 : decode prog_7_method_6_code 48 = .ok (.iload 7, 2) := by decide +kernel
theorem dd_Tree_awaitHoles_50 : decode prog_7_method_6_code 50 = .ok (.iaload, 1) := by decide +kernel
theorem dd_Tree_awaitHoles_51 : decode prog_7_method_6_code 51 = .ok (.istore 8, 2) := by decide +kernel
theorem dd_Tree_awaitHoles_53 : decode prog_7_method_6_code 53 = .ok (.iload 8, 2) := by decide +kernel
theorem dd_Tree_awaitHoles_55 : decode prog_7_method_6_code 55 = .ok (.iconst (-1), 1) := by decide +kernel
theorem dd_Tree_awaitHoles_56 : decode prog_7_method_6_code 56 = .ok (.if_icmp .ne 10, 3) := by decide +kernel
theorem dd_Tree_awaitHoles_59 : decode prog_7_method_6_code 59 = .ok (.iload 6, 2) := by decide +kernel
theorem dd_Tree_awaitHoles_61 : decode prog_7_method_6_code 61 = .ok (.iconst 1, 1) := by decide +kernel
theorem dd_Tree_awaitHoles_62 : decode prog_7_method_6_code 62 = .ok (.isub, 1) := by decide +kernel
theorem dd_Tree_awaitHoles_63 : decode prog_7_method_6_code 63 = .ok (.goto 15, 3) := by decide +kernel
theorem dd_Tree_awaitHoles_66 : decode prog_7_method_6_code 66 = .ok (.aload_n 0, 1) := by decide +kernel
theorem dd_Tree_awaitHoles_67 : decode prog_7_method_6_code 67 = .ok (.getfield 53, 3) := by decide +kernel
theorem dd_Tree_awaitHoles_70 : decode prog_7_method_6_code 70 = .ok (.iload 7, 2) := by decide +kernel
theorem dd_Tree_awaitHoles_72 : decode prog_7_method_6_code 72 = .ok (.iload_n 2, 1) := by decide +kernel
theorem dd_Tree_awaitHoles_73 : decode prog_7_method_6_code 73 = .ok (.iload 6, 2) := by decide +kernel
theorem dd_Tree_awaitHoles_75 : decode prog_7_method_6_code 75 = .ok (.invokevirtual 83, 3) := by decide +kernel
theorem dd_Tree_awaitHoles_78 : decode prog_7_method_6_code 78 = .ok (.istore 9, 2) := by decide +kernel
theorem dd_Tree_awaitHoles_80 : decode prog_7_method_6_code 80 = .ok (.iload 8, 2) := by decide +kernel
theorem dd_Tree_awaitHoles_82 : decode prog_7_method_6_code 82 = .ok (.iconst (-1), 1) := by decide +kernel
theorem dd_Tree_awaitHoles_83 : decode prog_7_method_6_code 83 = .ok (.if_icmp .eq 17, 3) := by decide +kernel
theorem dd_Tree_awaitHoles_86 : decode prog_7_method_6_code 86 = .ok (.aload_n 0, 1) := by decide +kernel
theorem dd_Tree_awaitHoles_87 : decode prog_7_method_6_code 87 = .ok (.iload 9, 2) := by decide +kernel
theorem dd_Tree_awaitHoles_89 : decode prog_7_method_6_code 89 = .ok (.iload 6, 2) := by decide +kernel
theorem dd_Tree_awaitHoles_91 : decode prog_7_method_6_code 91 = .ok (.iload 8, 2) := by decide +kernel
theorem dd_Tree_awaitHoles_93 : decode prog_7_method_6_code 93 = .ok (.iload_n 1, 1) := by decide +kernel
theorem dd_Tree_awaitHoles_94 : decode prog_7_method_6_code 94 = .ok (.invokevirtual 57, 3) := by decide +kernel
theorem dd_Tree_awaitHoles_97 : decode prog_7_method_6_code 97 = .ok (.iinc 5 1, 3) := by decide +kernel
theorem dd_Tree_awaitHoles_100 : decode prog_7_method_6_code 100 = .ok (.iload 9, 2) := by decide +kernel
theorem dd_Tree_awaitHoles_102 : decode prog_7_method_6_code 102 = .ok (.istore 6, 2) := by decide +kernel
theorem dd_Tree_awaitHoles_104 : decode prog_7_method_6_code 104 = .ok (.iinc 7 (-1), 3) := by decide +kernel
theorem dd_Tree_awaitHoles_107 : decode prog_7_method_6_code 107 = .ok (.goto (-73), 3) := by decide +kernel
theorem dd_Tree_awaitHoles_110 : decode prog_7_method_6_code 110 = .ok (.iload 5, 2) := by decide +kernel
theorem dd_Tree_awaitHoles_112 : decode prog_7_method_6_code 112 = .ok (.ireturn, 1) := by decide +kernel
theorem dd_Tree_fell_0 : decode prog_7_method_2_code 0 = .ok (.aload_n 0, 1) := by decide +kernel
theorem dd_Tree_fell_1 : decode prog_7_method_2_code 1 = .ok (.iconst 0, 1) := by decide +kernel
theorem dd_Tree_fell_2 : decode prog_7_method_2_code 2 = .ok (.putfield 9, 3) := by decide +kernel
theorem dd_Tree_fell_5 : decode prog_7_method_2_code 5 = .ok (.return_, 1) := by decide +kernel
theorem dd_Tree_grow_0 : decode prog_7_method_3_code 0 = .ok (.aload_n 0, 1) := by decide +kernel
theorem dd_Tree_grow_1 : decode prog_7_method_3_code 1 = .ok (.iconst 0, 1) := by decide +kernel
theorem dd_Tree_grow_2 : decode prog_7_method_3_code 2 = .ok (.putfield 9, 3) := by decide +kernel
theorem dd_Tree_grow_5 : decode prog_7_method_3_code 5 = .ok (.aload_n 0, 1) := by decide +kernel
theorem dd_Tree_grow_6 : decode prog_7_method_3_code 6 = .ok (.iconst 0, 1) := by decide +kernel
theorem dd_Tree_grow_7 : decode prog_7_method_3_code 7 = .ok (.putfield 34, 3) := by decide +kernel
theorem dd_Tree_grow_10 : decode prog_7_method_3_code 10 = .ok (.aload_n 0, 1) := by decide +kernel
theorem dd_Tree_grow_11 : decode prog_7_method_3_code 11 = .ok (.iconst 0, 1) := by decide +kernel
theorem dd_Tree_grow_12 : decode prog_7_method_3_code 12 = .ok (.iload_n 1, 1) := by decide +kernel
theorem dd_Tree_grow_13 : decode prog_7_method_3_code 13 = .ok (.iconst 0, 1) := by decide +kernel
theorem dd_Tree_grow_14 : decode prog_7_method_3_code 14 = .ok (.iconst (-1), 1) := by decide +kernel
theorem dd_Tree_grow_15 : decode prog_7_method_3_code 15 = .ok (.invokevirtual 57, 3) := by decide +kernel
theorem dd_Tree_grow_18 : decode prog_7_method_3_code 18 = .ok (.iconst 0, 1) := by decide +kernel
theorem dd_Tree_grow_19 : decode prog_7_method_3_code 19 = .ok (.istore_n 2, 1) := by decide +kernel
theorem dd_Tree_grow_20 : decode prog_7_method_3_code 20 = .ok (.iload_n 2, 1) := by decide +kernel
theorem dd_Tree_grow_21 : decode prog_7_method_3_code 21 = .ok (.bipush 30, 2) := by decide +kernel
theorem dd_Tree_grow_23 : decode prog_7_method_3_code 23 = .ok (.if_icmp .ge 59, 3) := by decide +kernel
theorem dd_Tree_grow_26 : decode prog_7_method_3_code 26 = .ok (.aload_n 0, 1) := by decide +kernel
theorem dd_Tree_grow_27 : decode prog_7_method_3_code 27 = .ok (.getfield 34, 3) := by decide +kernel
theorem dd_Tree_grow_30 : decode prog_7_method_3_code 30 = .ok (.ifCond .le 52, 3) := by decide +kernel
theorem dd_Tree_grow_33 : decode prog_7_method_3_code 33 = .ok (.aload_n 0, 1) := by decide +kernel
theorem dd_Tree_grow_34 : decode prog_7_method_3_code 34 = .ok (.dup, 1) := by decide +kernel
theorem dd_Tree_grow_35 : decode prog_7_method_3_code 35 = .ok (.getfield 34, 3) := by decide +kernel
theorem dd_Tree_grow_38 : decode prog_7_method_3_code 38 = .ok (.iconst 1, 1) := by decide +kernel
theorem dd_Tree_grow_39 : decode prog_7_method_3_code 39 = .ok (.isub, 1) := by decide +kernel
theorem dd_Tree_grow_40 : decode prog_7_method_3_code 40 = .ok (.putfield 34, 3) := by decide +kernel
theorem dd_Tree_grow_43 : decode prog_7_method_3_code 43 = .ok (.aload_n 0, 1) := by decide +kernel
theorem dd_Tree_grow_44 : decode prog_7_method_3_code 44 = .ok (.iload_n 2, 1) := by decide +kernel
theorem dd_Tree_grow_45 : decode prog_7_method_3_code 45 = .ok (.aload_n 0, 1) := by decide +kernel
theorem dd_Tree_grow_46 : decode prog_7_method_3_code 46 = .ok (.getfield 37, 3) := by decide +kernel
theorem dd_Tree_grow_49 : decode prog_7_method_3_code 49 = .ok (.aload_n 0, 1) := by decide +kernel
theorem dd_Tree_grow_50 : decode prog_7_method_3_code 50 = .ok (.getfield 34, 3) := by decide +kernel
theorem dd_Tree_grow_53 : decode prog_7_method_3_code 53 = .ok (.iaload, 1) := by decide +kernel
theorem dd_Tree_grow_54 : decode prog_7_method_3_code 54 = .ok (.aload_n 0, 1) := by decide +kernel
theorem dd_Tree_grow_55 : decode prog_7_method_3_code 55 = .ok (.getfield 40, 3) := by decide +kernel
theorem dd_Tree_grow_58 : decode prog_7_method_3_code 58 = .ok (.aload_n 0, 1) := by decide +kernel
theorem dd_Tree_grow_59 : decode prog_7_method_3_code 59 = .ok (.getfield 34, 3) := by decide +kernel
theorem dd_Tree_grow_62 : decode prog_7_method_3_code 62 = .ok (.iaload, 1) := by decide +kernel
theorem dd_Tree_grow_63 : decode prog_7_method_3_code 63 = .ok (.invokevirtual 61, 3) := by decide +kernel
theorem dd_Tree_grow_66 : decode prog_7_method_3_code 66 = .ok (.aload_n 0, 1) := by decide +kernel
theorem dd_Tree_grow_67 : decode prog_7_method_3_code 67 = .ok (.dup, 1) := by decide +kernel
theorem dd_Tree_grow_68 : decode prog_7_method_3_code 68 = .ok (.getfield 9, 3) := by decide +kernel
theorem dd_Tree_grow_71 : decode prog_7_method_3_code 71 = .ok (.iconst 1, 1) := by decide +kernel
theorem dd_Tree_grow_72 : decode prog_7_method_3_code 72 = .ok (.iadd, 1) := by decide +kernel
theorem dd_Tree_grow_73 : decode prog_7_method_3_code 73 = .ok (.putfield 9, 3) := by decide +kernel
theorem dd_Tree_grow_76 : decode prog_7_method_3_code 76 = .ok (.iinc 2 1, 3) := by decide +kernel
theorem dd_Tree_grow_79 : decode prog_7_method_3_code 79 = .ok (.goto (-59), 3) := by decide +kernel
theorem dd_Tree_grow_82 : decode prog_7_method_3_code 82 = .ok (.return_, 1) := by decide +kernel
theorem dd_Tree_growNode_0 : decode prog_7_method_5_code 0 = .ok (.aload_n 0, 1) := by decide +kernel
theorem dd_Tree_growNode_1 : decode prog_7_method_5_code 1 = .ok (.getfield 15, 3) := by decide +kernel
theorem dd_Tree_growNode_4 : decode prog_7_method_5_code 4 = .ok (.iload_n 1, 1) := by decide +kernel
theorem dd_Tree_growNode_5 : decode prog_7_method_5_code 5 = .ok (.aload_n 0, 1) := by decide +kernel
theorem dd_Tree_growNode_6 : decode prog_7_method_5_code 6 = .ok (.getfield 53, 3) := by decide +kernel
theorem dd_Tree_growNode_9 : decode prog_7_method_5_code 9 = .ok (.iload_n 2, 1) := by decide +kernel
theorem dd_Tree_growNode_10 : decode prog_7_method_5_code 10 = .ok (.iload_n 3, 1) := by decide +kernel
theorem dd_Tree_growNode_11 : decode prog_7_method_5_code 11 = .ok (.aload_n 0, 1) := by decide +kernel
theorem dd_Tree_growNode_12 : decode prog_7_method_5_code 12 = .ok (.getfield 43, 3) := by decide +kernel
theorem dd_Tree_growNode_15 : decode prog_7_method_5_code 15 = .ok (.aload_n 0, 1) := by decide +kernel
theorem dd_Tree_growNode_16 : decode prog_7_method_5_code 16 = .ok (.getfield 34, 3) := by decide +kernel
theorem dd_Tree_growNode_19 : decode prog_7_method_5_code 19 = .ok (.iaload, 1) := by decide +kernel
theorem dd_Tree_growNode_20 : decode prog_7_method_5_code 20 = .ok (.invokevirtual 65, 3) := by decide +kernel
theorem dd_Tree_growNode_23 : decode prog_7_method_5_code 23 = .ok (.iastore, 1) := by decide +kernel
theorem dd_Tree_growNode_24 : decode prog_7_method_5_code 24 = .ok (.aload_n 0, 1) := by decide +kernel
theorem dd_Tree_growNode_25 : decode prog_7_method_5_code 25 = .ok (.getfield 22, 3) := by decide +kernel
theorem dd_Tree_growNode_28 : decode prog_7_method_5_code 28 = .ok (.iload_n 1, 1) := by decide +kernel
theorem dd_Tree_growNode_29 : decode prog_7_method_5_code 29 = .ok (.iload_n 2, 1) := by decide +kernel
theorem dd_Tree_growNode_30 : decode prog_7_method_5_code 30 = .ok (.iastore, 1) := by decide +kernel
theorem dd_Tree_growNode_31 : decode prog_7_method_5_code 31 = .ok (.aload_n 0, 1) := by decide +kernel
theorem dd_Tree_growNode_32 : decode prog_7_method_5_code 32 = .ok (.getfield 25, 3) := by decide +kernel
theorem dd_Tree_growNode_35 : decode prog_7_method_5_code 35 = .ok (.iload_n 1, 1) := by decide +kernel
theorem dd_Tree_growNode_36 : decode prog_7_method_5_code 36 = .ok (.iload_n 3, 1) := by decide +kernel
theorem dd_Tree_growNode_37 : decode prog_7_method_5_code 37 = .ok (.iload_n 2, 1) := by decide +kernel
theorem dd_Tree_growNode_38 : decode prog_7_method_5_code 38 = .ok (.isub, 1) := by decide +kernel
theorem dd_Tree_growNode_39 : decode prog_7_method_5_code 39 = .ok (.iastore, 1) := by decide +kernel
theorem dd_Tree_growNode_40 : decode prog_7_method_5_code 40 = .ok (.aload_n 0, 1) := by decide +kernel
theorem dd_Tree_growNode_41 : decode prog_7_method_5_code 41 = .ok (.getfield 28, 3) := by decide +kernel
theorem dd_Tree_growNode_44 : decode prog_7_method_5_code 44 = .ok (.iload_n 1, 1) := by decide +kernel
theorem dd_Tree_growNode_45 : decode prog_7_method_5_code 45 = .ok (.aload_n 0, 1) := by decide +kernel
theorem dd_Tree_growNode_46 : decode prog_7_method_5_code 46 = .ok (.getfield 46, 3) := by decide +kernel
theorem dd_Tree_growNode_49 : decode prog_7_method_5_code 49 = .ok (.aload_n 0, 1) := by decide +kernel
theorem dd_Tree_growNode_50 : decode prog_7_method_5_code 50 = .ok (.getfield 34, 3) := by decide +kernel
theorem dd_Tree_growNode_53 : decode prog_7_method_5_code 53 = .ok (.iaload, 1) := by decide +kernel
theorem dd_Tree_growNode_54 : decode prog_7_method_5_code 54 = .ok (.iastore, 1) := by decide +kernel
theorem dd_Tree_growNode_55 : decode prog_7_method_5_code 55 = .ok (.aload_n 0, 1) := by decide +kernel
theorem dd_Tree_growNode_56 : decode prog_7_method_5_code 56 = .ok (.getfield 31, 3) := by decide +kernel
theorem dd_Tree_growNode_59 : decode prog_7_method_5_code 59 = .ok (.iload_n 1, 1) := by decide +kernel
theorem dd_Tree_growNode_60 : decode prog_7_method_5_code 60 = .ok (.aload_n 0, 1) := by decide +kernel
theorem dd_Tree_growNode_61 : decode prog_7_method_5_code 61 = .ok (.getfield 43, 3) := by decide +kernel
theorem dd_Tree_growNode_64 : decode prog_7_method_5_code 64 = .ok (.aload_n 0, 1) := by decide +kernel
theorem dd_Tree_growNode_65 : decode prog_7_method_5_code 65 = .ok (.getfield 34, 3) := by decide +kernel
theorem dd_Tree_growNode_68 : decode prog_7_method_5_code 68 = .ok (.iaload, 1) := by decide +kernel
theorem dd_Tree_growNode_69 : decode prog_7_method_5_code 69 = .ok (.iastore, 1) := by decide +kernel
theorem dd_Tree_growNode_70 : decode prog_7_method_5_code 70 = .ok (.aload_n 0, 1) := by decide +kernel
theorem dd_Tree_growNode_71 : decode prog_7_method_5_code 71 = .ok (.getfield 19, 3) := by decide +kernel
theorem dd_Tree_growNode_74 : decode prog_7_method_5_code 74 = .ok (.iload_n 1, 1) := by decide +kernel
theorem dd_Tree_growNode_75 : decode prog_7_method_5_code 75 = .ok (.aload_n 0, 1) := by decide +kernel
theorem dd_Tree_growNode_76 : decode prog_7_method_5_code 76 = .ok (.iload_n 1, 1) := by decide +kernel
theorem dd_Tree_growNode_77 : decode prog_7_method_5_code 77 = .ok (.iload_n 2, 1) := by decide +kernel
theorem dd_Tree_growNode_78 : decode prog_7_method_5_code 78 = .ok (.iload_n 3, 1) := by decide +kernel
theorem dd_Tree_growNode_79 : decode prog_7_method_5_code 79 = .ok (.invokevirtual 71, 3) := by decide +kernel
theorem dd_Tree_growNode_82 : decode prog_7_method_5_code 82 = .ok (.iastore, 1) := by decide +kernel
theorem dd_Tree_growNode_83 : decode prog_7_method_5_code 83 = .ok (.return_, 1) := by decide +kernel
theorem dd_Tree_levelWithin_0 : decode prog_7_method_8_code 0 = .ok (.iload_n 1, 1) := by decide +kernel
theorem dd_Tree_levelWithin_1 : decode prog_7_method_8_code 1 = .ok (.istore_n 2, 1) := by decide +kernel
theorem dd_Tree_levelWithin_2 : decode prog_7_method_8_code 2 = .ok (.iload_n 2, 1) := by decide +kernel
theorem dd_Tree_levelWithin_3 : decode prog_7_method_8_code 3 = .ok (.aload_n 0, 1) := by decide +kernel
theorem dd_Tree_levelWithin_4 : decode prog_7_method_8_code 4 = .ok (.getfield 9, 3) := by decide +kernel
theorem dd_Tree_levelWithin_7 : decode prog_7_method_8_code 7 = .ok (.iconst 1, 1) := by decide +kernel
theorem dd_Tree_levelWithin_8 : decode prog_7_method_8_code 8 = .ok (.isub, 1) := by decide +kernel
theorem dd_Tree_levelWithin_9 : decode prog_7_method_8_code 9 = .ok (.if_icmp .ge 18, 3) := by decide +kernel
theorem dd_Tree_levelWithin_12 : decode prog_7_method_8_code 12 = .ok (.aload_n 0, 1) := by decide +kernel
theorem dd_Tree_levelWithin_13 : decode prog_7_method_8_code 13 = .ok (.getfield 15, 3) := by decide +kernel
theorem dd_Tree_levelWithin_16 : decode prog_7_method_8_code 16 = .ok (.iload_n 2, 1) := by decide +kernel
theorem dd_Tree_levelWithin_17 : decode prog_7_method_8_code 17 = .ok (.iaload, 1) := by decide +kernel
theorem dd_Tree_levelWithin_18 : decode prog_7_method_8_code 18 = .ok (.ifCond .ne 9, 3) := by decide +kernel
theorem dd_Tree_levelWithin_21 : decode prog_7_method_8_code 21 = .ok (.iinc 2 1, 3) := by decide +kernel
theorem dd_Tree_levelWithin_24 : decode prog_7_method_8_code 24 = .ok (.goto (-22), 3) := by decide +kernel
theorem dd_Tree_levelWithin_27 : decode prog_7_method_8_code 27 = .ok (.aload_n 0, 1) := by decide +kernel
theorem dd_Tree_levelWithin_28 : decode prog_7_method_8_code 28 = .ok (.getfield 49, 3) := by decide +kernel
theorem dd_Tree_levelWithin_31 : decode prog_7_method_8_code 31 = .ok (.getfield 89, 3) := by decide +kernel
theorem dd_Tree_levelWithin_34 : decode prog_7_method_8_code 34 = .ok (.aload_n 0, 1) := by decide +kernel
theorem dd_Tree_levelWithin_35 : decode prog_7_method_8_code 35 = .ok (.getfield 15, 3) := by decide +kernel
theorem dd_Tree_levelWithin_38 : decode prog_7_method_8_code 38 = .ok (.iload_n 2, 1) := by decide +kernel
theorem dd_Tree_levelWithin_39 : decode prog_7_method_8_code 39 = .ok (.iaload, 1) := by decide +kernel
theorem dd_Tree_levelWithin_40 : decode prog_7_method_8_code 40 = .ok (.iaload, 1) := by decide +kernel
theorem dd_Tree_levelWithin_41 : decode prog_7_method_8_code 41 = .ok (.ireturn, 1) := by decide +kernel
theorem dd_Tree_needlessBrackets_0 : decode prog_7_method_7_code 0 = .ok (.iconst 0, 1) := by decide +kernel
theorem dd_Tree_needlessBrackets_1 : decode prog_7_method_7_code 1 = .ok (.istore_n 1, 1) := by decide +kernel
theorem dd_Tree_needlessBrackets_2 : decode prog_7_method_7_code 2 = .ok (.iconst 0, 1) := by decide +kernel
theorem dd_Tree_needlessBrackets_3 : decode prog_7_method_7_code 3 = .ok (.istore_n 2, 1) := by decide +kernel
theorem dd_Tree_needlessBrackets_4 : decode prog_7_method_7_code 4 = .ok (.iload_n 2, 1) := by decide +kernel
theorem dd_Tree_needlessBrackets_5 : decode prog_7_method_7_code 5 = .ok (.aload_n 0, 1) := by decide +kernel
theorem dd_Tree_needlessBrackets_6 : decode prog_7_method_7_code 6 = .ok (.getfield 9, 3) := by decide +kernel
theorem dd_Tree_needlessBrackets_9 : decode prog_7_method_7_code 9 = .ok (.if_icmp .ge 61, 3) := by decide +kernel
theorem dd_Tree_needlessBrackets_12 : decode prog_7_method_7_code 12 = .ok (.aload_n 0, 1) := by decide +kernel
theorem dd_Tree_needlessBrackets_13 : decode prog_7_method_7_code 13 = .ok (.getfield 15, 3) := by decide +kernel
theorem dd_Tree_needlessBrackets_16 : decode prog_7_method_7_code 16 = .ok (.iload_n 2, 1) := by decide +kernel
theorem dd_Tree_needlessBrackets_17 : decode prog_7_method_7_code 17 = .ok (.iaload, 1) := by decide +kernel
theorem dd_Tree_needlessBrackets_18 : decode prog_7_method_7_code 18 = .ok (.ifCond .ne 46, 3) := by decide +kernel
theorem dd_Tree_needlessBrackets_21 : decode prog_7_method_7_code 21 = .ok (.aload_n 0, 1) := by decide +kernel
theorem dd_Tree_needlessBrackets_22 : decode prog_7_method_7_code 22 = .ok (.iload_n 2, 1) := by decide +kernel
theorem dd_Tree_needlessBrackets_23 : decode prog_7_method_7_code 23 = .ok (.invokevirtual 86, 3) := by decide +kernel
theorem dd_Tree_needlessBrackets_26 : decode prog_7_method_7_code 26 = .ok (.aload_n 0, 1) := by decide +kernel
theorem dd_Tree_needlessBrackets_27 : decode prog_7_method_7_code 27 = .ok (.getfield 31, 3) := by decide +kernel
theorem dd_Tree_needlessBrackets_30 : decode prog_7_method_7_code 30 = .ok (.iload_n 2, 1) := by decide +kernel
theorem dd_Tree_needlessBrackets_31 : decode prog_7_method_7_code 31 = .ok (.iaload, 1) := by decide +kernel
theorem dd_Tree_needlessBrackets_32 : decode prog_7_method_7_code 32 = .ok (.if_icmp .lt 32, 3) := by decide +kernel
theorem dd_Tree_needlessBrackets_35 : decode prog_7_method_7_code 35 = .ok (.iload_n 1, 1) := by decide +kernel
theorem dd_Tree_needlessBrackets_36 : decode prog_7_method_7_code 36 = .ok (.iconst 1, 1) := by decide +kernel
theorem dd_Tree_needlessBrackets_37 : decode prog_7_method_7_code 37 = .ok (.aload_n 0, 1) := by decide +kernel
theorem dd_Tree_needlessBrackets_38 : decode prog_7_method_7_code 38 = .ok (.getfield 22, 3) := by decide +kernel
theorem dd_Tree_needlessBrackets_41 : decode prog_7_method_7_code 41 = .ok (.iload_n 2, 1) := by decide +kernel
theorem dd_Tree_needlessBrackets_42 : decode prog_7_method_7_code 42 = .ok (.iaload, 1) := by decide +kernel
theorem dd_Tree_needlessBrackets_43 : decode prog_7_method_7_code 43 = .ok (.ishl, 1) := by decide +kernel
theorem dd_Tree_needlessBrackets_44 : decode prog_7_method_7_code 44 = .ok (.iconst 1, 1) := by decide +kernel
theorem dd_Tree_needlessBrackets_45 : decode prog_7_method_7_code 45 = .ok (.aload_n 0, 1) := by decide +kernel
theorem dd_Tree_needlessBrackets_46 : decode prog_7_method_7_code 46 = .ok (.getfield 22, 3) := by decide +kernel
theorem dd_Tree_needlessBrackets_49 : decode prog_7_method_7_code 49 = .ok (.iload_n 2, 1) := by decide +kernel
theorem dd_Tree_needlessBrackets_50 : decode prog_7_method_7_code 50 = .ok (.iaload, 1) := by decide +kernel
theorem dd_Tree_needlessBrackets_51 : decode prog_7_method_7_code 51 = .ok (.aload_n 0, 1) := by decide +kernel
theorem dd_Tree_needlessBrackets_52 : decode prog_7_method_7_code 52 = .ok (.getfield 25, 3) := by decide +kernel
theorem dd_Tree_needlessBrackets_55 : decode prog_7_method_7_code 55 = .ok (.iload_n 2, 1) := by decide +kernel
theorem dd_Tree_needlessBrackets_56 : decode prog_7_method_7_code 56 = .ok (.iaload, 1) := by decide +kernel
theorem dd_Tree_needlessBrackets_57 : decode prog_7_method_7_code 57 = .ok (.iadd, 1) := by decide +kernel
theorem dd_Tree_needlessBrackets_58 : decode prog_7_method_7_code 58 = .ok (.iconst 1, 1) := by decide +kernel
theorem dd_Tree_needlessBrackets_59 : decode prog_7_method_7_code 59 = .ok (.isub, 1) := by decide +kernel
theorem dd_Tree_needlessBrackets_60 : decode prog_7_method_7_code 60 = .ok (.ishl, 1) := by decide +kernel
theorem dd_Tree_needlessBrackets_61 : decode prog_7_method_7_code 61 = .ok (.ior, 1) := by decide +kernel
theorem dd_Tree_needlessBrackets_62 : decode prog_7_method_7_code 62 = .ok (.ior, 1) := by decide +kernel
theorem dd_Tree_needlessBrackets_63 : decode prog_7_method_7_code 63 = .ok (.istore_n 1, 1) := by decide +kernel
theorem dd_Tree_needlessBrackets_64 : decode prog_7_method_7_code 64 = .ok (.iinc 2 1, 3) := by decide +kernel
theorem dd_Tree_needlessBrackets_67 : decode prog_7_method_7_code 67 = .ok (.goto (-63), 3) := by decide +kernel
theorem dd_Tree_needlessBrackets_70 : decode prog_7_method_7_code 70 = .ok (.iload_n 1, 1) := by decide +kernel
theorem dd_Tree_needlessBrackets_71 : decode prog_7_method_7_code 71 = .ok (.ireturn, 1) := by decide +kernel
end
section
theorem dd_Grammar_dropHand_0 : decode prog_3_method_7_code 0 = .ok (.aload_n 0, 1) := by decide +kernel
theorem dd_Grammar_dropHand_1 : decode prog_3_method_7_code 1 = .ok (.getfield 9, 3) := by decide +kernel
theorem dd_Grammar_dropHand_4 : decode prog_3_method_7_code 4 = .ok (.aload_n 0, 1) := by decide +kernel
theorem dd_Grammar_dropHand_5 : decode prog_3_method_7_code 5 = .ok (.invokevirtual 47, 3) := by decide +kernel
theorem dd_Grammar_dropHand_8 : decode prog_3_method_7_code 8 = .ok (.aload_n 0, 1) := by decide +kernel
theorem dd_Grammar_dropHand_9 : decode prog_3_method_7_code 9 = .ok (.invokevirtual 47, 3) := by decide +kernel
theorem dd_Grammar_dropHand_12 : decode prog_3_method_7_code 12 = .ok (.bipush 7, 2) := by decide +kernel
theorem dd_Grammar_dropHand_14 : decode prog_3_method_7_code 14 = .ok (.iadd, 1) := by decide +kernel
theorem dd_Grammar_dropHand_15 : decode prog_3_method_7_code 15 = .ok (.iconst (-1), 1) := by decide +kernel
theorem dd_Grammar_dropHand_16 : decode prog_3_method_7_code 16 = .ok (.invokestatic 51, 3) := by decide +kernel
theorem dd_Grammar_dropHand_19 : decode prog_3_method_7_code 19 = .ok (.aload_n 0, 1) := by decide +kernel
theorem dd_Grammar_dropHand_20 : decode prog_3_method_7_code 20 = .ok (.getfield 15, 3) := by decide +kernel
theorem dd_Grammar_dropHand_23 : decode prog_3_method_7_code 23 = .ok (.aload_n 0, 1) := by decide +kernel
theorem dd_Grammar_dropHand_24 : decode prog_3_method_7_code 24 = .ok (.invokevirtual 47, 3) := by decide +kernel
theorem dd_Grammar_dropHand_27 : decode prog_3_method_7_code 27 = .ok (.aload_n 0, 1) := by decide +kernel
theorem dd_Grammar_dropHand_28 : decode prog_3_method_7_code 28 = .ok (.invokevirtual 47, 3) := by decide +kernel
theorem dd_Grammar_dropHand_31 : decode prog_3_method_7_code 31 = .ok (.bipush 7, 2) := by decide +kernel
theorem dd_Grammar_dropHand_33 : decode prog_3_method_7_code 33 = .ok (.iadd, 1) := by decide +kernel
theorem dd_Grammar_dropHand_34 : decode prog_3_method_7_code 34 = .ok (.ldc2_w 38, 3) := by decide +kernel
theorem dd_Grammar_dropHand_37 : decode prog_3_method_7_code 37 = .ok (.invokestatic 54, 3) := by decide +kernel
theorem dd_Grammar_dropHand_40 : decode prog_3_method_7_code 40 = .ok (.aload_n 0, 1) := by decide +kernel
theorem dd_Grammar_dropHand_41 : decode prog_3_method_7_code 41 = .ok (.iconst 0, 1) := by decide +kernel
theorem dd_Grammar_dropHand_42 : decode prog_3_method_7_code 42 = .ok (.putfield 29, 3) := by decide +kernel
theorem dd_Grammar_dropHand_45 : decode prog_3_method_7_code 45 = .ok (.return_, 1) := by decide +kernel
theorem dd_Grammar_handEndsInHole_0 : decode prog_3_method_4_code 0 = .ok (.aload_n 0, 1) := by decide +kernel
theorem dd_Grammar_handEndsInHole_1 : decode prog_3_method_4_code 1 = .ok (.getfield 29, 3) := by decide +kernel
theorem dd_Grammar_handEndsInHole_4 : decode prog_3_method_4_code 4 = .ok (.ifCond .le 27, 3) := by decide +kernel
theorem dd_Grammar_handEndsInHole_7 : decode prog_3_method_4_code 7 = .ok (.aload_n 0, 1) := by decide +kernel
theorem dd_Grammar_handEndsInHole_8 : decode prog_3_method_4_code 8 = .ok (.getfield 9, 3) := by decide +kernel
theorem dd_Grammar_handEndsInHole_11 : decode prog_3_method_4_code 11 = .ok (.aload_n 0, 1) := by decide +kernel
theorem dd_Grammar_handEndsInHole_12 : decode prog_3_method_4_code 12 = .ok (.invokevirtual 47, 3) := by decide +kernel
theorem dd_Grammar_handEndsInHole_15 : decode prog_3_method_4_code 15 = .ok (.aload_n 0, 1) := by decide +kernel
theorem dd_Grammar_handEndsInHole_16 : decode prog_3_method_4_code 16 = .ok (.getfield 29, 3) := by decide +kernel
theorem dd_Grammar_handEndsInHole_19 : decode prog_3_method_4_code 19 = .ok (.iadd, 1) := by decide +kernel
theorem dd_Grammar_handEndsInHole_20 : decode prog_3_method_4_code 20 = .ok (.iconst 1, 1) := by decide +kernel
theorem dd_Grammar_handEndsInHole_21 : decode prog_3_method_4_code 21 = .ok (.isub, 1) := by decide +kernel
theorem dd_Grammar_handEndsInHole_22 : decode prog_3_method_4_code 22 = .ok (.iaload, 1) := by decide +kernel
theorem dd_Grammar_handEndsInHole_23 : decode prog_3_method_4_code 23 = .ok (.iconst (-1), 1) := by decide +kernel
theorem dd_Grammar_handEndsInHole_24 : decode prog_3_method_4_code 24 = .ok (.if_icmp .eq 7, 3) := by decide +kernel
theorem dd_Grammar_handEndsInHole_27 : decode prog_3_method_4_code 27 = .ok (.iconst 1, 1) := by decide +kernel
theorem dd_Grammar_handEndsInHole_28 : decode prog_3_method_4_code 28 = .ok (.goto 4, 3) := by decide +kernel
theorem dd_Grammar_handEndsInHole_31 : decode prog_3_method_4_code 31 = .ok (.iconst 0, 1) := by decide +kernel
theorem dd_Grammar_handEndsInHole_32 : decode prog_3_method_4_code 32 = .ok (.ireturn, 1) := by decide +kernel
theorem dd_Grammar_handHasWord_0 : decode prog_3_method_5_code 0 = .ok (.iconst 0, 1) := by decide +kernel
theorem dd_Grammar_handHasWord_1 : decode prog_3_method_5_code 1 = .ok (.istore_n 1, 1) := by decide +kernel
theorem dd_Grammar_handHasWord_2 : decode prog_3_method_5_code 2 = .ok (.iload_n 1, 1) := by decide +kernel
theorem dd_Grammar_handHasWord_3 : decode prog_3_method_5_code 3 = .ok (.aload_n 0, 1) := by decide +kernel
theorem dd_Grammar_handHasWord_4 : decode prog_3_method_5_code 4 = .ok (.getfield 29, 3) := by decide +kernel
theorem dd_Grammar_handHasWord_7 : decode prog_3_method_5_code 7 = .ok (.if_icmp .ge 29, 3) := by decide +kernel
theorem dd_Grammar_handHasWord_10 : decode prog_3_method_5_code 10 = .ok (.aload_n 0, 1) := by decide +kernel
theorem dd_Grammar_handHasWord_11 : decode prog_3_method_5_code 11 = .ok (.getfield 15, 3) := by decide +kernel
theorem dd_Grammar_handHasWord_14 : decode prog_3_method_5_code 14 = .ok (.aload_n 0, 1) := by decide +kernel
theorem dd_Grammar_handHasWord_15 : decode prog_3_method_5_code 15 = .ok (.invokevirtual 47, 3) := by decide +kernel
theorem dd_Grammar_handHasWord_18 : decode prog_3_method_5_code 18 = .ok (.iload_n 1, 1) := by decide +kernel
theorem dd_Grammar_handHasWord_19 : decode prog_3_method_5_code 19 = .ok (.iadd, 1) := by decide +kernel
theorem dd_Grammar_handHasWord_20 : decode prog_3_method_5_code 20 = .ok (.laload, 1) := by decide +kernel
theorem dd_Grammar_handHasWord_21 : decode prog_3_method_5_code 21 = .ok (.ldc2_w 38, 3) := by decide +kernel
theorem dd_Grammar_handHasWord_24 : decode prog_3_method_5_code 24 = .ok (.lcmp, 1) := by decide +kernel
theorem dd_Grammar_handHasWord_25 : decode prog_3_method_5_code 25 = .ok (.ifCond .eq 5, 3) := by decide +kernel
theorem dd_Grammar_handHasWord_28 : decode prog_3_method_5_code 28 = .ok (.iconst 1, 1) := by decide +kernel
theorem dd_Grammar_handHasWord_29 : decode prog_3_method_5_code 29 = .ok (.ireturn, 1) := by decide +kernel
theorem dd_Grammar_handHasWord_30 : decode prog_3_method_5_code 30 = .ok (.iinc 1 1, 3) := by decide +kernel
theorem dd_Grammar_handHasWord_33 : decode prog_3_method_5_code 33 = .ok (.goto (-31), 3) := by decide +kernel
theorem dd_Grammar_handHasWord_36 : decode prog_3_method_5_code 36 = .ok (.iconst 0, 1) := by decide +kernel
theorem dd_Grammar_handHasWord_37 : decode prog_3_method_5_code 37 = .ok (.ireturn, 1) := by decide +kernel
theorem dd_Grammar_hasKey_0 : decode prog_3_method_9_code 0 = .ok (.bipush 14, 2) := by decide +kernel
theorem dd_Grammar_hasKey_2 : decode prog_3_method_9_code 2 = .ok (.istore_n 3, 1) := by decide +kernel
theorem dd_Grammar_hasKey_3 : decode prog_3_method_9_code 3 = .ok (.iload_n 3, 1) := by decide +kernel
theorem dd_Grammar_hasKey_4 : decode prog_3_method_9_code 4 = .ok (.aload_n 0, 1) := by decide +kernel
theorem dd_Grammar_hasKey_5 : decode prog_3_method_9_code 5 = .ok (.invokevirtual 47, 3) := by decide +kernel
theorem dd_Grammar_hasKey_8 : decode prog_3_method_9_code 8 = .ok (.if_icmp .ge 22, 3) := by decide +kernel
theorem dd_Grammar_hasKey_11 : decode prog_3_method_9_code 11 = .ok (.aload_n 0, 1) := by decide +kernel
theorem dd_Grammar_hasKey_12 : decode prog_3_method_9_code 12 = .ok (.getfield 15, 3) := by decide +kernel
theorem dd_Grammar_hasKey_15 : decode prog_3_method_9_code 15 = .ok (.iload_n 3, 1) := by decide +kernel
theorem dd_Grammar_hasKey_16 : decode prog_3_method_9_code 16 = .ok (.laload, 1) := by decide +kernel
theorem dd_Grammar_hasKey_17 : decode prog_3_method_9_code 17 = .ok (.lload_n 1, 1) := by decide +kernel
theorem dd_Grammar_hasKey_18 : decode prog_3_method_9_code 18 = .ok (.lcmp, 1) := by decide +kernel
theorem dd_Grammar_hasKey_19 : decode prog_3_method_9_code 19 = .ok (.ifCond .ne 5, 3) := by decide +kernel
theorem dd_Grammar_hasKey_22 : decode prog_3_method_9_code 22 = .ok (.iconst 1, 1) := by decide +kernel
theorem dd_Grammar_hasKey_23 : decode prog_3_method_9_code 23 = .ok (.ireturn, 1) := by decide +kernel
theorem dd_Grammar_hasKey_24 : decode prog_3_method_9_code 24 = .ok (.iinc 3 1, 3) := by decide +kernel
theorem dd_Grammar_hasKey_27 : decode prog_3_method_9_code 27 = .ok (.goto (-24), 3) := by decide +kernel
theorem dd_Grammar_hasKey_30 : decode prog_3_method_9_code 30 = .ok (.iconst 0, 1) := by decide +kernel
theorem dd_Grammar_hasKey_31 : decode prog_3_method_9_code 31 = .ok (.ireturn, 1) := by decide +kernel
theorem dd_Grammar_lastDot_0 : decode prog_3_method_3_code 0 = .ok (.iload_n 1, 1) := by decide +kernel
theorem dd_Grammar_lastDot_1 : decode prog_3_method_3_code 1 = .ok (.bipush 7, 2) := by decide +kernel
theorem dd_Grammar_lastDot_3 : decode prog_3_method_3_code 3 = .ok (.imul, 1) := by decide +kernel
theorem dd_Grammar_lastDot_4 : decode prog_3_method_3_code 4 = .ok (.aload_n 0, 1) := by decide +kernel
theorem dd_Grammar_lastDot_5 : decode prog_3_method_3_code 5 = .ok (.getfield 22, 3) := by decide +kernel
theorem dd_Grammar_lastDot_8 : decode prog_3_method_3_code 8 = .ok (.iload_n 1, 1) := by decide +kernel
theorem dd_Grammar_lastDot_9 : decode prog_3_method_3_code 9 = .ok (.iaload, 1) := by decide +kernel
theorem dd_Grammar_lastDot_10 : decode prog_3_method_3_code 10 = .ok (.iadd, 1) := by decide +kernel
theorem dd_Grammar_lastDot_11 : decode prog_3_method_3_code 11 = .ok (.ireturn, 1) := by decide +kernel
theorem dd_Grammar_makeRule_0 : decode prog_3_method_8_code 0 = .ok (.aload_n 0, 1) := by decide +kernel
theorem dd_Grammar_makeRule_1 : decode prog_3_method_8_code 1 = .ok (.getfield 25, 3) := by decide +kernel
theorem dd_Grammar_makeRule_4 : decode prog_3_method_8_code 4 = .ok (.istore_n 2, 1) := by decide +kernel
theorem dd_Grammar_makeRule_5 : decode prog_3_method_8_code 5 = .ok (.aload_n 0, 1) := by decide +kernel
theorem dd_Grammar_makeRule_6 : decode prog_3_method_8_code 6 = .ok (.getfield 19, 3) := by decide +kernel
theorem dd_Grammar_makeRule_9 : decode prog_3_method_8_code 9 = .ok (.iload_n 2, 1) := by decide +kernel
theorem dd_Grammar_makeRule_10 : decode prog_3_method_8_code 10 = .ok (.iload_n 1, 1) := by decide +kernel
theorem dd_Grammar_makeRule_11 : decode prog_3_method_8_code 11 = .ok (.iastore, 1) := by decide +kernel
theorem dd_Grammar_makeRule_12 : decode prog_3_method_8_code 12 = .ok (.aload_n 0, 1) := by decide +kernel
theorem dd_Grammar_makeRule_13 : decode prog_3_method_8_code 13 = .ok (.getfield 22, 3) := by decide +kernel
theorem dd_Grammar_makeRule_16 : decode prog_3_method_8_code 16 = .ok (.iload_n 2, 1) := by decide +kernel
theorem dd_Grammar_makeRule_17 : decode prog_3_method_8_code 17 = .ok (.aload_n 0, 1) := by decide +kernel
theorem dd_Grammar_makeRule_18 : decode prog_3_method_8_code 18 = .ok (.getfield 29, 3) := by decide +kernel
theorem dd_Grammar_makeRule_21 : decode prog_3_method_8_code 21 = .ok (.iastore, 1) := by decide +kernel
theorem dd_Grammar_makeRule_22 : decode prog_3_method_8_code 22 = .ok (.aload_n 0, 1) := by decide +kernel
theorem dd_Grammar_makeRule_23 : decode prog_3_method_8_code 23 = .ok (.dup, 1) := by decide +kernel
theorem dd_Grammar_makeRule_24 : decode prog_3_method_8_code 24 = .ok (.getfield 25, 3) := by decide +kernel
theorem dd_Grammar_makeRule_27 : decode prog_3_method_8_code 27 = .ok (.iconst 1, 1) := by decide +kernel
theorem dd_Grammar_makeRule_28 : decode prog_3_method_8_code 28 = .ok (.iadd, 1) := by decide +kernel
theorem dd_Grammar_makeRule_29 : decode prog_3_method_8_code 29 = .ok (.putfield 25, 3) := by decide +kernel
theorem dd_Grammar_makeRule_32 : decode prog_3_method_8_code 32 = .ok (.aload_n 0, 1) := by decide +kernel
theorem dd_Grammar_makeRule_33 : decode prog_3_method_8_code 33 = .ok (.iconst 0, 1) := by decide +kernel
theorem dd_Grammar_makeRule_34 : decode prog_3_method_8_code 34 = .ok (.putfield 29, 3) := by decide +kernel
theorem dd_Grammar_makeRule_37 : decode prog_3_method_8_code 37 = .ok (.iload_n 2, 1) := by decide +kernel
theorem dd_Grammar_makeRule_38 : decode prog_3_method_8_code 38 = .ok (.ireturn, 1) := by decide +kernel
theorem dd_Grammar_takePart_0 : decode prog_3_method_6_code 0 = .ok (.aload_n 0, 1) := by decide +kernel
theorem dd_Grammar_takePart_1 : decode prog_3_method_6_code 1 = .ok (.getfield 9, 3) := by decide +kernel
theorem dd_Grammar_takePart_4 : decode prog_3_method_6_code 4 = .ok (.aload_n 0, 1) := by decide +kernel
theorem dd_Grammar_takePart_5 : decode prog_3_method_6_code 5 = .ok (.invokevirtual 47, 3) := by decide +kernel
theorem dd_Grammar_takePart_8 : decode prog_3_method_6_code 8 = .ok (.aload_n 0, 1) := by decide +kernel
theorem dd_Grammar_takePart_9 : decode prog_3_method_6_code 9 = .ok (.getfield 29, 3) := by decide +kernel
theorem dd_Grammar_takePart_12 : decode prog_3_method_6_code 12 = .ok (.iadd, 1) := by decide +kernel
theorem dd_Grammar_takePart_13 : decode prog_3_method_6_code 13 = .ok (.iload_n 1, 1) := by decide +kernel
theorem dd_Grammar_takePart_14 : decode prog_3_method_6_code 14 = .ok (.iastore, 1) := by decide +kernel
theorem dd_Grammar_takePart_15 : decode prog_3_method_6_code 15 = .ok (.aload_n 0, 1) := by decide +kernel
theorem dd_Grammar_takePart_16 : decode prog_3_method_6_code 16 = .ok (.getfield 15, 3) := by decide +kernel
theorem dd_Grammar_takePart_19 : decode prog_3_method_6_code 19 = .ok (.aload_n 0, 1) := by decide +kernel
theorem dd_Grammar_takePart_20 : decode prog_3_method_6_code 20 = .ok (.invokevirtual 47, 3) := by decide +kernel
theorem dd_Grammar_takePart_23 : decode prog_3_method_6_code 23 = .ok (.aload_n 0, 1) := by decide +kernel
theorem dd_Grammar_takePart_24 : decode prog_3_method_6_code 24 = .ok (.getfield 29, 3) := by decide +kernel
theorem dd_Grammar_takePart_27 : decode prog_3_method_6_code 27 = .ok (.iadd, 1) := by decide +kernel
theorem dd_Grammar_takePart_28 : decode prog_3_method_6_code 28 = .ok (.lload_n 2, 1) := by decide +kernel
theorem dd_Grammar_takePart_29 : decode prog_3_method_6_code 29 = .ok (.lastore, 1) := by decide +kernel
theorem dd_Grammar_takePart_30 : decode prog_3_method_6_code 30 = .ok (.aload_n 0, 1) := by decide +kernel
theorem dd_Grammar_takePart_31 : decode prog_3_method_6_code 31 = .ok (.dup, 1) := by decide +kernel
theorem dd_Grammar_takePart_32 : decode prog_3_method_6_code 32 = .ok (.getfield 29, 3) := by decide +kernel
theorem dd_Grammar_takePart_35 : decode prog_3_method_6_code 35 = .ok (.iconst 1, 1) := by decide +kernel
theorem dd_Grammar_takePart_36 : decode prog_3_method_6_code 36 = .ok (.iadd, 1) := by decide +kernel
theorem dd_Grammar_takePart_37 : decode prog_3_method_6_code 37 = .ok (.putfield 29, 3) := by decide +kernel
theorem dd_Grammar_takePart_40 : decode prog_3_method_6_code 40 = .ok (.aload_n 0, 1) := by decide +kernel
theorem dd_Grammar_takePart_41 : decode prog_3_method_6_code 41 = .ok (.getfield 29, 3) := by decide +kernel
theorem dd_Grammar_takePart_44 : decode prog_3_method_6_code 44 = .ok (.ireturn, 1) := by decide +kernel
theorem dd_Grammar_usedDots_0 : decode prog_3_method_2_code 0 = .ok (.aload_n 0, 1) := by decide +kernel
theorem dd_Grammar_usedDots_1 : decode prog_3_method_2_code 1 = .ok (.getfield 25, 3) := by decide +kernel
theorem dd_Grammar_usedDots_4 : decode prog_3_method_2_code 4 = .ok (.bipush 7, 2) := by decide +kernel
theorem dd_Grammar_usedDots_6 : decode prog_3_method_2_code 6 = .ok (.imul, 1) := by decide +kernel
theorem dd_Grammar_usedDots_7 : decode prog_3_method_2_code 7 = .ok (.ireturn, 1) := by decide +kernel
end
section
theorem dd_Text_append_0 : decode prog_6_method_2_code 0 = .ok (.iload_n 3, 1) := by decide +kernel
theorem dd_Text_append_1 : decode prog_6_method_2_code 1 = .ok (.iconst 1, 1) := by decide +kernel
theorem dd_Text_append_2 : decode prog_6_method_2_code 2 = .ok (.isub, 1) := by decide +kernel
theorem dd_Text_append_3 : decode prog_6_method_2_code 3 = .ok (.istore 4, 2) := by decide +kernel
theorem dd_Text_append_5 : decode prog_6_method_2_code 5 = .ok (.iload 4, 2) := by decide +kernel
theorem dd_Text_append_7 : decode prog_6_method_2_code 7 = .ok (.ifCond .lt 35, 3) := by decide +kernel
theorem dd_Text_append_10 : decode prog_6_method_2_code 10 = .ok (.aload_n 0, 1) := by decide +kernel
theorem dd_Text_append_11 : decode prog_6_method_2_code 11 = .ok (.getfield 9, 3) := by decide +kernel
theorem dd_Text_append_14 : decode prog_6_method_2_code 14 = .ok (.aload_n 0, 1) := by decide +kernel
theorem dd_Text_append_15 : decode prog_6_method_2_code 15 = .ok (.getfield 15, 3) := by decide +kernel
theorem dd_Text_append_18 : decode prog_6_method_2_code 18 = .ok (.lload_n 1, 1) := by decide +kernel
theorem dd_Text_append_19 : decode prog_6_method_2_code 19 = .ok (.iload 4, 2) := by decide +kernel
theorem dd_Text_append_21 : decode prog_6_method_2_code 21 = .ok (.invokestatic 36, 3) := by decide +kernel
theorem dd_Text_append_24 : decode prog_6_method_2_code 24 = .ok (.i2b, 1) := by decide +kernel
theorem dd_Text_append_25 : decode prog_6_method_2_code 25 = .ok (.bastore, 1) := by decide +kernel
theorem dd_Text_append_26 : decode prog_6_method_2_code 26 = .ok (.aload_n 0, 1) := by decide +kernel
theorem dd_Text_append_27 : decode prog_6_method_2_code 27 = .ok (.dup, 1) := by decide +kernel
theorem dd_Text_append_28 : decode prog_6_method_2_code 28 = .ok (.getfield 15, 3) := by decide +kernel
theorem dd_Text_append_31 : decode prog_6_method_2_code 31 = .ok (.iconst 1, 1) := by decide +kernel
theorem dd_Text_append_32 : decode prog_6_method_2_code 32 = .ok (.iadd, 1) := by decide +kernel
theorem dd_Text_append_33 : decode prog_6_method_2_code 33 = .ok (.putfield 15, 3) := by decide +kernel
theorem dd_Text_append_36 : decode prog_6_method_2_code 36 = .ok (.iinc 4 (-1), 3) := by decide +kernel
theorem dd_Text_append_39 : decode prog_6_method_2_code 39 = .ok (.goto (-34), 3) := by decide +kernel
theorem dd_Text_append_42 : decode prog_6_method_2_code 42 = .ok (.return_, 1) := by decide +kernel
theorem dd_Text_cut_0 : decode prog_6_method_3_code 0 = .ok (.aload_n 0, 1) := by decide +kernel
theorem dd_Text_cut_1 : decode prog_6_method_3_code 1 = .ok (.iconst 0, 1) := by decide +kernel
theorem dd_Text_cut_2 : decode prog_6_method_3_code 2 = .ok (.putfield 30, 3) := by decide +kernel
theorem dd_Text_cut_5 : decode prog_6_method_3_code 5 = .ok (.aload_n 0, 1) := by decide +kernel
theorem dd_Text_cut_6 : decode prog_6_method_3_code 6 = .ok (.iconst (-1), 1) := by decide +kernel
theorem dd_Text_cut_7 : decode prog_6_method_3_code 7 = .ok (.putfield 33, 3) := by decide +kernel
theorem dd_Text_cut_10 : decode prog_6_method_3_code 10 = .ok (.iconst 0, 1) := by decide +kernel
theorem dd_Text_cut_11 : decode prog_6_method_3_code 11 = .ok (.istore_n 2, 1) := by decide +kernel
theorem dd_Text_cut_12 : decode prog_6_method_3_code 12 = .ok (.iconst 0, 1) := by decide +kernel
theorem dd_Text_cut_13 : decode prog_6_method_3_code 13 = .ok (.istore_n 3, 1) := by decide +kernel
theorem dd_Text_cut_14 : decode prog_6_method_3_code 14 = .ok (.iload_n 3, 1) := by decide +kernel
theorem dd_Text_cut_15 : decode prog_6_method_3_code 15 = .ok (.aload_n 0, 1) := by decide +kernel
theorem dd_Text_cut_16 : decode prog_6_method_3_code 16 = .ok (.getfield 15, 3) := by decide +kernel
theorem dd_Text_cut_19 : decode prog_6_method_3_code 19 = .ok (.if_icmp .ge 60, 3) := by decide +kernel
theorem dd_Text_cut_22 : decode prog_6_method_3_code 22 = .ok (.iload_n 2, 1) := by decide +kernel
theorem dd_Text_cut_23 : decode prog_6_method_3_code 23 = .ok (.aload_n 0, 1) := by decide +kernel
theorem dd_Text_cut_24 : decode prog_6_method_3_code 24 = .ok (.getfield 15, 3) := by decide +kernel
theorem dd_Text_cut_27 : decode prog_6_method_3_code 27 = .ok (.if_icmp .ge 52, 3) := by decide +kernel
theorem dd_Text_cut_30 : decode prog_6_method_3_code 30 = .ok (.aload_n 0, 1) := by decide +kernel
theorem dd_Text_cut_31 : decode prog_6_method_3_code 31 = .ok (.getfield 33, 3) := by decide +kernel
theorem dd_Text_cut_34 : decode prog_6_method_3_code 34 = .ok (.iconst (-1), 1) := by decide +kernel
theorem dd_Text_cut_35 : decode prog_6_method_3_code 35 = .ok (.if_icmp .ne 44, 3) := by decide +kernel
theorem dd_Text_cut_38 : decode prog_6_method_3_code 38 = .ok (.aload_n 0, 1) := by decide +kernel
theorem dd_Text_cut_39 : decode prog_6_method_3_code 39 = .ok (.iload_n 2, 1) := by decide +kernel
theorem dd_Text_cut_40 : decode prog_6_method_3_code 40 = .ok (.invokevirtual 42, 3) := by decide +kernel
theorem dd_Text_cut_43 : decode prog_6_method_3_code 43 = .ok (.istore 4, 2) := by decide +kernel
theorem dd_Text_cut_45 : decode prog_6_method_3_code 45 = .ok (.aload_n 0, 1) := by decide +kernel
theorem dd_Text_cut_46 : decode prog_6_method_3_code 46 = .ok (.iload_n 2, 1) := by decide +kernel
theorem dd_Text_cut_47 : decode prog_6_method_3_code 47 = .ok (.iload 4, 2) := by decide +kernel
theorem dd_Text_cut_49 : decode prog_6_method_3_code 49 = .ok (.invokevirtual 46, 3) := by decide +kernel
theorem dd_Text_cut_52 : decode prog_6_method_3_code 52 = .ok (.istore 5, 2) := by decide +kernel
theorem dd_Text_cut_54 : decode prog_6_method_3_code 54 = .ok (.iload 4, 2) := by decide +kernel
theorem dd_Text_cut_56 : decode prog_6_method_3_code 56 = .ok (.iconst 1, 1) := by decide +kernel
theorem dd_Text_cut_57 : decode prog_6_method_3_code 57 = .ok (.if_icmp .eq 13, 3) := by decide +kernel
theorem dd_Text_cut_60 : decode prog_6_method_3_code 60 = .ok (.aload_n 0, 1) := by decide +kernel
theorem dd_Text_cut_61 : decode prog_6_method_3_code 61 = .ok (.iload_n 2, 1) := by decide +kernel
theorem dd_Text_cut_62 : decode prog_6_method_3_code 62 = .ok (.iload 5, 2) := by decide +kernel
theorem dd_Text_cut_64 : decode prog_6_method_3_code 64 = .ok (.iload 4, 2) := by decide +kernel
theorem dd_Text_cut_66 : decode prog_6_method_3_code 66 = .ok (.aload_n 1, 1) := by decide +kernel
theorem dd_Text_cut_67 : decode prog_6_method_3_code 67 = .ok (.invokevirtual 50, 3) := by decide +kernel
theorem dd_Text_cut_70 : decode prog_6_method_3_code 70 = .ok (.iload 5, 2) := by decide +kernel
theorem dd_Text_cut_72 : decode prog_6_method_3_code 72 = .ok (.istore_n 2, 1) := by decide +kernel
theorem dd_Text_cut_73 : decode prog_6_method_3_code 73 = .ok (.iinc 3 1, 3) := by decide +kernel
theorem dd_Text_cut_76 : decode prog_6_method_3_code 76 = .ok (.goto (-62), 3) := by decide +kernel
theorem dd_Text_cut_79 : decode prog_6_method_3_code 79 = .ok (.return_, 1) := by decide +kernel
theorem dd_Text_endOfRow_0 : decode prog_6_method_5_code 0 = .ok (.iload_n 1, 1) := by decide +kernel
theorem dd_Text_endOfRow_1 : decode prog_6_method_5_code 1 = .ok (.iconst 1, 1) := by decide +kernel
theorem dd_Text_endOfRow_2 : decode prog_6_method_5_code 2 = .ok (.iadd, 1) := by decide +kernel
theorem dd_Text_endOfRow_3 : decode prog_6_method_5_code 3 = .ok (.istore_n 3, 1) := by decide +kernel
theorem dd_Text_endOfRow_4 : decode prog_6_method_5_code 4 = .ok (.iload_n 2, 1) := by decide +kernel
theorem dd_Text_endOfRow_5 : decode prog_6_method_5_code 5 = .ok (.iconst 5, 1) := by decide +kernel
theorem dd_Text_endOfRow_6 : decode prog_6_method_5_code 6 = .ok (.if_icmp .eq 26, 3) := by decide +kernel
theorem dd_Text_endOfRow_9 : decode prog_6_method_5_code 9 = .ok (.iload_n 3, 1) := by decide +kernel
theorem dd_Text_endOfRow_10 : decode prog_6_method_5_code 10 = .ok (.aload_n 0, 1) := by decide +kernel
theorem dd_Text_endOfRow_11 : decode prog_6_method_5_code 11 = .ok (.getfield 15, 3) := by decide +kernel
theorem dd_Text_endOfRow_14 : decode prog_6_method_5_code 14 = .ok (.if_icmp .ge 18, 3) := by decide +kernel
theorem dd_Text_endOfRow_17 : decode prog_6_method_5_code 17 = .ok (.aload_n 0, 1) := by decide +kernel
theorem dd_Text_endOfRow_18 : decode prog_6_method_5_code 18 = .ok (.iload_n 3, 1) := by decide +kernel
theorem dd_Text_endOfRow_19 : decode prog_6_method_5_code 19 = .ok (.invokevirtual 42, 3) := by decide +kernel
theorem dd_Text_endOfRow_22 : decode prog_6_method_5_code 22 = .ok (.iload_n 2, 1) := by decide +kernel
theorem dd_Text_endOfRow_23 : decode prog_6_method_5_code 23 = .ok (.if_icmp .ne 9, 3) := by decide +kernel
theorem dd_Text_endOfRow_26 : decode prog_6_method_5_code 26 = .ok (.iinc 3 1, 3) := by decide +kernel
theorem dd_Text_endOfRow_29 : decode prog_6_method_5_code 29 = .ok (.goto (-20), 3) := by decide +kernel
theorem dd_Text_endOfRow_32 : decode prog_6_method_5_code 32 = .ok (.iload_n 3, 1) := by decide +kernel
theorem dd_Text_endOfRow_33 : decode prog_6_method_5_code 33 = .ok (.ireturn, 1) := by decide +kernel
theorem dd_Text_kindAt_0 : decode prog_6_method_4_code 0 = .ok (.aload_n 0, 1) := by decide +kernel
theorem dd_Text_kindAt_1 : decode prog_6_method_4_code 1 = .ok (.getfield 9, 3) := by decide +kernel
theorem dd_Text_kindAt_4 : decode prog_6_method_4_code 4 = .ok (.iload_n 1, 1) := by decide +kernel
theorem dd_Text_kindAt_5 : decode prog_6_method_4_code 5 = .ok (.baload, 1) := by decide +kernel
theorem dd_Text_kindAt_6 : decode prog_6_method_4_code 6 = .ok (.sipush 255, 3) := by decide +kernel
theorem dd_Text_kindAt_9 : decode prog_6_method_4_code 9 = .ok (.iand, 1) := by decide +kernel
theorem dd_Text_kindAt_10 : decode prog_6_method_4_code 10 = .ok (.invokestatic 54, 3) := by decide +kernel
theorem dd_Text_kindAt_13 : decode prog_6_method_4_code 13 = .ok (.ireturn, 1) := by decide +kernel
theorem dd_Text_takeRow_0 : decode prog_6_method_6_code 0 = .ok (.iload_n 2, 1) := by decide +kernel
theorem dd_Text_takeRow_1 : decode prog_6_method_6_code 1 = .ok (.iload_n 1, 1) := by decide +kernel
theorem dd_Text_takeRow_2 : decode prog_6_method_6_code 2 = .ok (.isub, 1) := by decide +kernel
theorem dd_Text_takeRow_3 : decode prog_6_method_6_code 3 = .ok (.bipush 8, 2) := by decide +kernel
theorem dd_Text_takeRow_5 : decode prog_6_method_6_code 5 = .ok (.if_icmp .le 7, 3) := by decide +kernel
theorem dd_Text_takeRow_8 : decode prog_6_method_6_code 8 = .ok (.iconst 1, 1) := by decide +kernel
theorem dd_Text_takeRow_9 : decode prog_6_method_6_code 9 = .ok (.goto 4, 3) := by decide +kernel
theorem dd_Text_takeRow_12 : decode prog_6_method_6_code 12 = .ok (.iconst 0, 1) := by decide +kernel
theorem dd_Text_takeRow_13 : decode prog_6_method_6_code 13 = .ok (.istore 5, 2) := by decide +kernel
theorem dd_Text_takeRow_15 : decode prog_6_method_6_code 15 = .ok (.iload_n 3, 1) := by decide +kernel
theorem dd_Text_takeRow_16 : decode prog_6_method_6_code 16 = .ok (.ifCond .eq 17, 3) := by decide +kernel
theorem dd_Text_takeRow_19 : decode prog_6_method_6_code 19 = .ok (.iload 5, 2) := by decide +kernel
theorem dd_Text_takeRow_21 : decode prog_6_method_6_code 21 = .ok (.ifCond .ne 12, 3) := by decide +kernel
theorem dd_Text_takeRow_24 : decode prog_6_method_6_code 24 = .ok (.aload_n 0, 1) := by decide +kernel
theorem dd_Text_takeRow_25 : decode prog_6_method_6_code 25 = .ok (.getfield 30, 3) := by decide +kernel
theorem dd_Text_takeRow_28 : decode prog_6_method_6_code 28 = .ok (.bipush 30, 2) := by decide +kernel
theorem dd_Text_takeRow_30 : decode prog_6_method_6_code 30 = .ok (.if_icmp .lt 9, 3) := by decide +kernel
theorem dd_Text_takeRow_33 : decode prog_6_method_6_code 33 = .ok (.aload_n 0, 1) := by decide +kernel
theorem dd_Text_takeRow_34 : decode prog_6_method_6_code 34 = .ok (.iload_n 1, 1) := by decide +kernel
theorem dd_Text_takeRow_35 : decode prog_6_method_6_code 35 = .ok (.putfield 33, 3) := by decide +kernel
theorem dd_Text_takeRow_38 : decode prog_6_method_6_code 38 = .ok (.return_, 1) := by decide +kernel
theorem dd_Text_takeRow_39 : decode prog_6_method_6_code 39 = .ok (.lconst 0, 1) := by decide +kernel
theorem dd_Text_takeRow_40 : decode prog_6_method_6_code 40 = .ok (.lstore 6, 2) := by decide +kernel
theorem dd_Text_takeRow_42 : decode prog_6_method_6_code 42 = .ok (.iload_n 1, 1) := by decide +kernel
theorem dd_Text_takeRow_43 : decode prog_6_method_6_code 43 = .ok (.istore 8, 2) := by decide +kernel
theorem dd_Text_takeRow_45 : decode prog_6_method_6_code 45 = .ok (.iload 8, 2) := by decide +kernel
theorem dd_Text_takeRow_47 : decode prog_6_method_6_code 47 = .ok (.iload_n 2, 1) := by decide +kernel
theorem dd_Text_takeRow_48 : decode prog_6_method_6_code 48 = .ok (.if_icmp .ge 29, 3) := by decide +kernel
theorem dd_Text_takeRow_51 : decode prog_6_method_6_code 51 = .ok (.lload 6, 2) := by decide +kernel
theorem dd_Text_takeRow_53 : decode prog_6_method_6_code 53 = .ok (.bipush 8, 2) := by decide +kernel
theorem dd_Text_takeRow_55 : decode prog_6_method_6_code 55 = .ok (.lshl, 1) := by decide +kernel
theorem dd_Text_takeRow_56 : decode prog_6_method_6_code 56 = .ok (.aload_n 0, 1) := by decide +kernel
theorem dd_Text_takeRow_57 : decode prog_6_method_6_code 57 = .ok (.getfield 9, 3) := by decide +kernel
theorem dd_Text_takeRow_60 : decode prog_6_method_6_code 60 = .ok (.iload 8, 2) := by decide +kernel
theorem dd_Text_takeRow_62 : decode prog_6_method_6_code 62 = .ok (.baload, 1) := by decide +kernel
theorem dd_Text_takeRow_63 : decode prog_6_method_6_code 63 = .ok (.sipush 255, 3) := by decide +kernel
theorem dd_Text_takeRow_66 : decode prog_6_method_6_code 66 = .ok (.iand, 1) := by decide +kernel
theorem dd_Text_takeRow_67 : decode prog_6_method_6_code 67 = .ok (.i2l, 1) := by decide +kernel
theorem dd_Text_takeRow_68 : decode prog_6_method_6_code 68 = .ok (.lor, 1) := by decide +kernel
theorem dd_Text_takeRow_69 : decode prog_6_method_6_code 69 = .ok (.lstore 6, 2) := by decide +kernel
theorem dd_Text_takeRow_71 : decode prog_6_method_6_code 71 = .ok (.iinc 8 1, 3) := by decide +kernel
theorem dd_Text_takeRow_74 : decode prog_6_method_6_code 74 = .ok (.goto (-29), 3) := by decide +kernel
theorem dd_Text_takeRow_77 : decode prog_6_method_6_code 77 = .ok (.iload_n 3, 1) := by decide +kernel
theorem dd_Text_takeRow_78 : decode prog_6_method_6_code 78 = .ok (.iconst 2, 1) := by decide +kernel
theorem dd_Text_takeRow_79 : decode prog_6_method_6_code 79 = .ok (.if_icmp .eq 8, 3) := by decide +kernel
theorem dd_Text_takeRow_82 : decode prog_6_method_6_code 82 = .ok (.iload_n 3, 1) := by decide +kernel
theorem dd_Text_takeRow_83 : decode prog_6_method_6_code 83 = .ok (.iconst 3, 1) := by decide +kernel
theorem dd_Text_takeRow_84 : decode prog_6_method_6_code 84 = .ok (.if_icmp .ne 7, 3) := by decide +kernel
theorem dd_Text_takeRow_87 : decode prog_6_method_6_code 87 = .ok (.iconst 1, 1) := by decide +kernel
theorem dd_Text_takeRow_88 : decode prog_6_method_6_code 88 = .ok (.goto 4, 3) := by decide +kernel
theorem dd_Text_takeRow_91 : decode prog_6_method_6_code 91 = .ok (.iconst 0, 1) := by decide +kernel
theorem dd_Text_takeRow_92 : decode prog_6_method_6_code 92 = .ok (.istore 8, 2) := by decide +kernel
theorem dd_Text_takeRow_94 : decode prog_6_method_6_code 94 = .ok (.aload_n 0, 1) := by decide +kernel
theorem dd_Text_takeRow_95 : decode prog_6_method_6_code 95 = .ok (.getfield 19, 3) := by decide +kernel
theorem dd_Text_takeRow_98 : decode prog_6_method_6_code 98 = .ok (.aload_n 0, 1) := by decide +kernel
theorem dd_Text_takeRow_99 : decode prog_6_method_6_code 99 = .ok (.getfield 30, 3) := by decide +kernel
theorem dd_Text_takeRow_102 : decode prog_6_method_6_code 102 = .ok (.lload 6, 2) := by decide +kernel
theorem dd_Text_takeRow_104 : decode prog_6_method_6_code 104 = .ok (.lastore, 1) := by decide +kernel
theorem dd_Text_takeRow_105 : decode prog_6_method_6_code 105 = .ok (.aload_n 0, 1) := by decide +kernel
theorem dd_Text_takeRow_106 : decode prog_6_method_6_code 106 = .ok (.getfield 23, 3) := by decide +kernel
theorem dd_Text_takeRow_109 : decode prog_6_method_6_code 109 = .ok (.aload_n 0, 1) := by decide +kernel
theorem dd_Text_takeRow_110 : decode prog_6_method_6_code 110 = .ok (.getfield 30, 3) := by decide +kernel
theorem dd_Text_takeRow_113 : decode prog_6_method_6_code 113 = .ok (.iload 8, 2) := by decide +kernel
theorem dd_Text_takeRow_115 : decode prog_6_method_6_code 115 = .ok (.ifCond .eq 17, 3) := by decide +kernel
theorem dd_Text_takeRow_118 : decode prog_6_method_6_code 118 = .ok (.aload 4, 2) := by decide +kernel
theorem dd_Text_takeRow_120 : decode prog_6_method_6_code 120 = .ok (.lload 6, 2) := by decide +kernel
theorem dd_Text_takeRow_122 : decode prog_6_method_6_code 122 = .ok (.invokevirtual 57, 3) := by decide +kernel
theorem dd_Text_takeRow_125 : decode prog_6_method_6_code 125 = .ok (.ifCond .ne 7, 3) := by decide +kernel
theorem dd_Text_takeRow_128 : decode prog_6_method_6_code 128 = .ok (.lconst 0, 1) := by decide +kernel
theorem dd_Text_takeRow_129 : decode prog_6_method_6_code 129 = .ok (.goto 5, 3) := by decide +kernel
theorem dd_Text_takeRow_132 : decode prog_6_method_6_code 132 = .ok (.lload 6, 2) := by decide +kernel
theorem dd_Text_takeRow_134 : decode prog_6_method_6_code 134 = .ok (.lastore, 1) := by decide +kernel
theorem dd_Text_takeRow_135 : decode prog_6_method_6_code 135 = .ok (.aload_n 0, 1) := by decide +kernel
theorem dd_Text_takeRow_136 : decode prog_6_method_6_code 136 = .ok (.getfield 26, 3) := by decide +kernel
theorem dd_Text_takeRow_139 : decode prog_6_method_6_code 139 = .ok (.aload_n 0, 1) := by decide +kernel
theorem dd_Text_takeRow_140 : decode prog_6_method_6_code 140 = .ok (.getfield 30, 3) := by decide +kernel
theorem dd_Text_takeRow_143 : decode prog_6_method_6_code 143 = .ok (.iload_n 1, 1) := by decide +kernel
theorem dd_Text_takeRow_144 : decode prog_6_method_6_code 144 = .ok (.iastore, 1) := by decide +kernel
theorem dd_Text_takeRow_145 : decode prog_6_method_6_code 145 = .ok (.aload_n 0, 1) := by decide +kernel
theorem dd_Text_takeRow_146 : decode prog_6_method_6_code 146 = .ok (.dup, 1) := by decide +kernel
theorem dd_Text_takeRow_147 : decode prog_6_method_6_code 147 = .ok (.getfield 30, 3) := by decide +kernel
theorem dd_Text_takeRow_150 : decode prog_6_method_6_code 150 = .ok (.iconst 1, 1) := by decide +kernel
theorem dd_Text_takeRow_151 : decode prog_6_method_6_code 151 = .ok (.iadd, 1) := by decide +kernel
theorem dd_Text_takeRow_152 : decode prog_6_method_6_code 152 = .ok (.putfield 30, 3) := by decide +kernel
theorem dd_Text_takeRow_155 : decode prog_6_method_6_code 155 = .ok (.return_, 1) := by decide +kernel
end
section
theorem dd_Output_addByte_0 : decode prog_4_method_4_code 0 = .ok (.aload_n 0, 1) := by decide +kernel
theorem dd_Output_addByte_1 : decode prog_4_method_4_code 1 = .ok (.getfield 15, 3) := by decide +kernel
theorem dd_Output_addByte_4 : decode prog_4_method_4_code 4 = .ok (.aload_n 0, 1) := by decide +kernel
theorem dd_Output_addByte_5 : decode prog_4_method_4_code 5 = .ok (.getfield 9, 3) := by decide +kernel
theorem dd_Output_addByte_8 : decode prog_4_method_4_code 8 = .ok (.arraylength, 1) := by decide +kernel
theorem dd_Output_addByte_9 : decode prog_4_method_4_code 9 = .ok (.if_icmp .ge 24, 3) := by decide +kernel
theorem dd_Output_addByte_12 : decode prog_4_method_4_code 12 = .ok (.aload_n 0, 1) := by decide +kernel
theorem dd_Output_addByte_13 : decode prog_4_method_4_code 13 = .ok (.getfield 9, 3) := by decide +kernel
theorem dd_Output_addByte_16 : decode prog_4_method_4_code 16 = .ok (.aload_n 0, 1) := by decide +kernel
theorem dd_Output_addByte_17 : decode prog_4_method_4_code 17 = .ok (.getfield 15, 3) := by decide +kernel
theorem dd_Output_addByte_20 : decode prog_4_method_4_code 20 = .ok (.iload_n 1, 1) := by decide +kernel
theorem dd_Output_addByte_21 : decode prog_4_method_4_code 21 = .ok (.i2b, 1) := by decide +kernel
theorem dd_Output_addByte_22 : decode prog_4_method_4_code 22 = .ok (.bastore, 1) := by decide +kernel
theorem dd_Output_addByte_23 : decode prog_4_method_4_code 23 = .ok (.aload_n 0, 1) := by decide +kernel
theorem dd_Output_addByte_24 : decode prog_4_method_4_code 24 = .ok (.dup, 1) := by decide +kernel
theorem dd_Output_addByte_25 : decode prog_4_method_4_code 25 = .ok (.getfield 15, 3) := by decide +kernel
theorem dd_Output_addByte_28 : decode prog_4_method_4_code 28 = .ok (.iconst 1, 1) := by decide +kernel
theorem dd_Output_addByte_29 : decode prog_4_method_4_code 29 = .ok (.iadd, 1) := by decide +kernel
theorem dd_Output_addByte_30 : decode prog_4_method_4_code 30 = .ok (.putfield 15, 3) := by decide +kernel
theorem dd_Output_addByte_33 : decode prog_4_method_4_code 33 = .ok (.return_, 1) := by decide +kernel
theorem dd_Output_writeWord_0 : decode prog_4_method_3_code 0 = .ok (.bipush 7, 2) := by decide +kernel
theorem dd_Output_writeWord_2 : decode prog_4_method_3_code 2 = .ok (.istore_n 3, 1) := by decide +kernel
theorem dd_Output_writeWord_3 : decode prog_4_method_3_code 3 = .ok (.iload_n 3, 1) := by decide +kernel
theorem dd_Output_writeWord_4 : decode prog_4_method_3_code 4 = .ok (.ifCond .lt 27, 3) := by decide +kernel
theorem dd_Output_writeWord_7 : decode prog_4_method_3_code 7 = .ok (.lload_n 1, 1) := by decide +kernel
theorem dd_Output_writeWord_8 : decode prog_4_method_3_code 8 = .ok (.iload_n 3, 1) := by decide +kernel
theorem dd_Output_writeWord_9 : decode prog_4_method_3_code 9 = .ok (.invokestatic 36, 3) := by decide +kernel
theorem dd_Output_writeWord_12 : decode prog_4_method_3_code 12 = .ok (.istore 4, 2) := by decide +kernel
theorem dd_Output_writeWord_14 : decode prog_4_method_3_code 14 = .ok (.iload 4, 2) := by decide +kernel
theorem dd_Output_writeWord_16 : decode prog_4_method_3_code 16 = .ok (.ifCond .eq 9, 3) := by decide +kernel
theorem dd_Output_writeWord_19 : decode prog_4_method_3_code 19 = .ok (.aload_n 0, 1) := by decide +kernel
theorem dd_Output_writeWord_20 : decode prog_4_method_3_code 20 = .ok (.iload 4, 2) := by decide +kernel
theorem dd_Output_writeWord_22 : decode prog_4_method_3_code 22 = .ok (.invokevirtual 24, 3) := by decide +kernel
theorem dd_Output_writeWord_25 : decode prog_4_method_3_code 25 = .ok (.iinc 3 (-1), 3) := by decide +kernel
theorem dd_Output_writeWord_28 : decode prog_4_method_3_code 28 = .ok (.goto (-25), 3) := by decide +kernel
theorem dd_Output_writeWord_31 : decode prog_4_method_3_code 31 = .ok (.return_, 1) := by decide +kernel
theorem dd_Output_writeWords_0 : decode prog_4_method_2_code 0 = .ok (.aload_n 0, 1) := by decide +kernel
theorem dd_Output_writeWords_1 : decode prog_4_method_2_code 1 = .ok (.iconst 0, 1) := by decide +kernel
theorem dd_Output_writeWords_2 : decode prog_4_method_2_code 2 = .ok (.putfield 15, 3) := by decide +kernel
theorem dd_Output_writeWords_5 : decode prog_4_method_2_code 5 = .ok (.iconst 0, 1) := by decide +kernel
theorem dd_Output_writeWords_6 : decode prog_4_method_2_code 6 = .ok (.istore_n 3, 1) := by decide +kernel
theorem dd_Output_writeWords_7 : decode prog_4_method_2_code 7 = .ok (.iload_n 3, 1) := by decide +kernel
theorem dd_Output_writeWords_8 : decode prog_4_method_2_code 8 = .ok (.aload_n 1, 1) := by decide +kernel
theorem dd_Output_writeWords_9 : decode prog_4_method_2_code 9 = .ok (.getfield 19, 3) := by decide +kernel
theorem dd_Output_writeWords_12 : decode prog_4_method_2_code 12 = .ok (.if_icmp .ge 40, 3) := by decide +kernel
theorem dd_Output_writeWords_15 : decode prog_4_method_2_code 15 = .ok (.iload_n 2, 1) := by decide +kernel
theorem dd_Output_writeWords_16 : decode prog_4_method_2_code 16 = .ok (.iload_n 3, 1) := by decide +kernel
theorem dd_Output_writeWords_17 : decode prog_4_method_2_code 17 = .ok (.iushr, 1) := by decide +kernel
theorem dd_Output_writeWords_18 : decode prog_4_method_2_code 18 = .ok (.iconst 1, 1) := by decide +kernel
theorem dd_Output_writeWords_19 : decode prog_4_method_2_code 19 = .ok (.iand, 1) := by decide +kernel
theorem dd_Output_writeWords_20 : decode prog_4_method_2_code 20 = .ok (.ifCond .ne 26, 3) := by decide +kernel
theorem dd_Output_writeWords_23 : decode prog_4_method_2_code 23 = .ok (.aload_n 0, 1) := by decide +kernel
theorem dd_Output_writeWords_24 : decode prog_4_method_2_code 24 = .ok (.getfield 15, 3) := by decide +kernel
theorem dd_Output_writeWords_27 : decode prog_4_method_2_code 27 = .ok (.ifCond .le 9, 3) := by decide +kernel
theorem dd_Output_writeWords_30 : decode prog_4_method_2_code 30 = .ok (.aload_n 0, 1) := by decide +kernel
theorem dd_Output_writeWords_31 : decode prog_4_method_2_code 31 = .ok (.bipush 32, 2) := by decide +kernel
theorem dd_Output_writeWords_33 : decode prog_4_method_2_code 33 = .ok (.invokevirtual 24, 3) := by decide +kernel
theorem dd_Output_writeWords_36 : decode prog_4_method_2_code 36 = .ok (.aload_n 0, 1) := by decide +kernel
theorem dd_Output_writeWords_37 : decode prog_4_method_2_code 37 = .ok (.aload_n 1, 1) := by decide +kernel
theorem dd_Output_writeWords_38 : decode prog_4_method_2_code 38 = .ok (.getfield 28, 3) := by decide +kernel
theorem dd_Output_writeWords_41 : decode prog_4_method_2_code 41 = .ok (.iload_n 3, 1) := by decide +kernel
theorem dd_Output_writeWords_42 : decode prog_4_method_2_code 42 = .ok (.laload, 1) := by decide +kernel
theorem dd_Output_writeWords_43 : decode prog_4_method_2_code 43 = .ok (.invokevirtual 32, 3) := by decide +kernel
theorem dd_Output_writeWords_46 : decode prog_4_method_2_code 46 = .ok (.iinc 3 1, 3) := by decide +kernel
theorem dd_Output_writeWords_49 : decode prog_4_method_2_code 49 = .ok (.goto (-42), 3) := by decide +kernel
theorem dd_Output_writeWords_52 : decode prog_4_method_2_code 52 = .ok (.return_, 1) := by decide +kernel
end
section
theorem dd_Spelling_byteOf_0 : decode prog_5_method_3_code 0 = .ok (.lload_n 0, 1) := by decide +kernel
theorem dd_Spelling_byteOf_1 : decode prog_5_method_3_code 1 = .ok (.bipush 8, 2) := by decide +kernel
theorem dd_Spelling_byteOf_3 : decode prog_5_method_3_code 3 = .ok (.iload_n 2, 1) := by decide +kernel
theorem dd_Spelling_byteOf_4 : decode prog_5_method_3_code 4 = .ok (.imul, 1) := by decide +kernel
theorem dd_Spelling_byteOf_5 : decode prog_5_method_3_code 5 = .ok (.lushr, 1) := by decide +kernel
theorem dd_Spelling_byteOf_6 : decode prog_5_method_3_code 6 = .ok (.l2i, 1) := by decide +kernel
theorem dd_Spelling_byteOf_7 : decode prog_5_method_3_code 7 = .ok (.sipush 255, 3) := by decide +kernel
theorem dd_Spelling_byteOf_10 : decode prog_5_method_3_code 10 = .ok (.iand, 1) := by decide +kernel
theorem dd_Spelling_byteOf_11 : decode prog_5_method_3_code 11 = .ok (.ireturn, 1) := by decide +kernel
theorem dd_Spelling_isSpelled_0 : decode prog_5_method_5_code 0 = .ok (.iload_n 2, 1) := by decide +kernel
theorem dd_Spelling_isSpelled_1 : decode prog_5_method_5_code 1 = .ok (.iconst 1, 1) := by decide +kernel
theorem dd_Spelling_isSpelled_2 : decode prog_5_method_5_code 2 = .ok (.if_icmp .lt 9, 3) := by decide +kernel
theorem dd_Spelling_isSpelled_5 : decode prog_5_method_5_code 5 = .ok (.iload_n 2, 1) := by decide +kernel
theorem dd_Spelling_isSpelled_6 : decode prog_5_method_5_code 6 = .ok (.bipush 8, 2) := by decide +kernel
theorem dd_Spelling_isSpelled_8 : decode prog_5_method_5_code 8 = .ok (.if_icmp .le 5, 3) := by decide +kernel
theorem dd_Spelling_isSpelled_11 : decode prog_5_method_5_code 11 = .ok (.iconst 0, 1) := by decide +kernel
theorem dd_Spelling_isSpelled_12 : decode prog_5_method_5_code 12 = .ok (.ireturn, 1) := by decide +kernel
theorem dd_Spelling_isSpelled_13 : decode prog_5_method_5_code 13 = .ok (.lload_n 0, 1) := by decide +kernel
theorem dd_Spelling_isSpelled_14 : decode prog_5_method_5_code 14 = .ok (.iconst 0, 1) := by decide +kernel
theorem dd_Spelling_isSpelled_15 : decode prog_5_method_5_code 15 = .ok (.invokestatic 21, 3) := by decide +kernel
theorem dd_Spelling_isSpelled_18 : decode prog_5_method_5_code 18 = .ok (.invokestatic 25, 3) := by decide +kernel
theorem dd_Spelling_isSpelled_21 : decode prog_5_method_5_code 21 = .ok (.istore_n 3, 1) := by decide +kernel
theorem dd_Spelling_isSpelled_22 : decode prog_5_method_5_code 22 = .ok (.iload_n 3, 1) := by decide +kernel
theorem dd_Spelling_isSpelled_23 : decode prog_5_method_5_code 23 = .ok (.ifCond .eq 18, 3) := by decide +kernel
theorem dd_Spelling_isSpelled_26 : decode prog_5_method_5_code 26 = .ok (.iload_n 3, 1) := by decide +kernel
theorem dd_Spelling_isSpelled_27 : decode prog_5_method_5_code 27 = .ok (.iconst 1, 1) := by decide +kernel
theorem dd_Spelling_isSpelled_28 : decode prog_5_method_5_code 28 = .ok (.if_icmp .eq 13, 3) := by decide +kernel
theorem dd_Spelling_isSpelled_31 : decode prog_5_method_5_code 31 = .ok (.iload_n 3, 1) := by decide +kernel
theorem dd_Spelling_isSpelled_32 : decode prog_5_method_5_code 32 = .ok (.iconst 5, 1) := by decide +kernel
theorem dd_Spelling_isSpelled_33 : decode prog_5_method_5_code 33 = .ok (.if_icmp .ne 10, 3) := by decide +kernel
theorem dd_Spelling_isSpelled_36 : decode prog_5_method_5_code 36 = .ok (.iload_n 2, 1) := by decide +kernel
theorem dd_Spelling_isSpelled_37 : decode prog_5_method_5_code 37 = .ok (.iconst 1, 1) := by decide +kernel
theorem dd_Spelling_isSpelled_38 : decode prog_5_method_5_code 38 = .ok (.if_icmp .le 5, 3) := by decide +kernel
theorem dd_Spelling_isSpelled_41 : decode prog_5_method_5_code 41 = .ok (.iconst 0, 1) := by decide +kernel
theorem dd_Spelling_isSpelled_42 : decode prog_5_method_5_code 42 = .ok (.ireturn, 1) := by decide +kernel
theorem dd_Spelling_isSpelled_43 : decode prog_5_method_5_code 43 = .ok (.iconst 1, 1) := by decide +kernel
theorem dd_Spelling_isSpelled_44 : decode prog_5_method_5_code 44 = .ok (.istore 4, 2) := by decide +kernel
theorem dd_Spelling_isSpelled_46 : decode prog_5_method_5_code 46 = .ok (.iload 4, 2) := by decide +kernel
theorem dd_Spelling_isSpelled_48 : decode prog_5_method_5_code 48 = .ok (.iload_n 2, 1) := by decide +kernel
theorem dd_Spelling_isSpelled_49 : decode prog_5_method_5_code 49 = .ok (.if_icmp .ge 24, 3) := by decide +kernel
theorem dd_Spelling_isSpelled_52 : decode prog_5_method_5_code 52 = .ok (.lload_n 0, 1) := by decide +kernel
theorem dd_Spelling_isSpelled_53 : decode prog_5_method_5_code 53 = .ok (.iload 4, 2) := by decide +kernel
theorem dd_Spelling_isSpelled_55 : decode prog_5_method_5_code 55 = .ok (.invokestatic 21, 3) := by decide +kernel
theorem dd_Spelling_isSpelled_58 : decode prog_5_method_5_code 58 = .ok (.invokestatic 25, 3) := by decide +kernel
theorem dd_Spelling_isSpelled_61 : decode prog_5_method_5_code 61 = .ok (.iload_n 3, 1) := by decide +kernel
theorem dd_Spelling_isSpelled_62 : decode prog_5_method_5_code 62 = .ok (.if_icmp .eq 5, 3) := by decide +kernel
theorem dd_Spelling_isSpelled_65 : decode prog_5_method_5_code 65 = .ok (.iconst 0, 1) := by decide +kernel
theorem dd_Spelling_isSpelled_66 : decode prog_5_method_5_code 66 = .ok (.ireturn, 1) := by decide +kernel
theorem dd_Spelling_isSpelled_67 : decode prog_5_method_5_code 67 = .ok (.iinc 4 1, 3) := by decide +kernel
theorem dd_Spelling_isSpelled_70 : decode prog_5_method_5_code 70 = .ok (.goto (-24), 3) := by decide +kernel
theorem dd_Spelling_isSpelled_73 : decode prog_5_method_5_code 73 = .ok (.iconst 1, 1) := by decide +kernel
theorem dd_Spelling_isSpelled_74 : decode prog_5_method_5_code 74 = .ok (.ireturn, 1) := by decide +kernel
theorem dd_Spelling_kindOf_0 : decode prog_5_method_2_code 0 = .ok (.iload_n 0, 1) := by decide +kernel
theorem dd_Spelling_kindOf_1 : decode prog_5_method_2_code 1 = .ok (.bipush 32, 2) := by decide +kernel
theorem dd_Spelling_kindOf_3 : decode prog_5_method_2_code 3 = .ok (.if_icmp .eq 9, 3) := by decide +kernel
theorem dd_Spelling_kindOf_6 : decode prog_5_method_2_code 6 = .ok (.iload_n 0, 1) := by decide +kernel
theorem dd_Spelling_kindOf_7 : decode prog_5_method_2_code 7 = .ok (.bipush 10, 2) := by decide +kernel
theorem dd_Spelling_kindOf_9 : decode prog_5_method_2_code 9 = .ok (.if_icmp .ne 5, 3) := by decide +kernel
theorem dd_Spelling_kindOf_12 : decode prog_5_method_2_code 12 = .ok (.iconst 1, 1) := by decide +kernel
theorem dd_Spelling_kindOf_13 : decode prog_5_method_2_code 13 = .ok (.ireturn, 1) := by decide +kernel
theorem dd_Spelling_kindOf_14 : decode prog_5_method_2_code 14 = .ok (.iload_n 0, 1) := by decide +kernel
theorem dd_Spelling_kindOf_15 : decode prog_5_method_2_code 15 = .ok (.bipush 97, 2) := by decide +kernel
theorem dd_Spelling_kindOf_17 : decode prog_5_method_2_code 17 = .ok (.if_icmp .lt 9, 3) := by decide +kernel
theorem dd_Spelling_kindOf_20 : decode prog_5_method_2_code 20 = .ok (.iload_n 0, 1) := by decide +kernel
theorem dd_Spelling_kindOf_21 : decode prog_5_method_2_code 21 = .ok (.bipush 122, 2) := by decide +kernel
theorem dd_Spelling_kindOf_23 : decode prog_5_method_2_code 23 = .ok (.if_icmp .le 15, 3) := by decide +kernel
theorem dd_Spelling_kindOf_26 : decode prog_5_method_2_code 26 = .ok (.iload_n 0, 1) := by decide +kernel
theorem dd_Spelling_kindOf_27 : decode prog_5_method_2_code 27 = .ok (.bipush 65, 2) := by decide +kernel
theorem dd_Spelling_kindOf_29 : decode prog_5_method_2_code 29 = .ok (.if_icmp .lt 11, 3) := by decide +kernel
theorem dd_Spelling_kindOf_32 : decode prog_5_method_2_code 32 = .ok (.iload_n 0, 1) := by decide +kernel
theorem dd_Spelling_kindOf_33 : decode prog_5_method_2_code 33 = .ok (.bipush 90, 2) := by decide +kernel
theorem dd_Spelling_kindOf_35 : decode prog_5_method_2_code 35 = .ok (.if_icmp .gt 5, 3) := by decide +kernel
theorem dd_Spelling_kindOf_38 : decode prog_5_method_2_code 38 = .ok (.iconst 2, 1) := by decide +kernel
theorem dd_Spelling_kindOf_39 : decode prog_5_method_2_code 39 = .ok (.ireturn, 1) := by decide +kernel
theorem dd_Spelling_kindOf_40 : decode prog_5_method_2_code 40 = .ok (.iload_n 0, 1) := by decide +kernel
theorem dd_Spelling_kindOf_41 : decode prog_5_method_2_code 41 = .ok (.bipush 48, 2) := by decide +kernel
theorem dd_Spelling_kindOf_43 : decode prog_5_method_2_code 43 = .ok (.if_icmp .lt 11, 3) := by decide +kernel
theorem dd_Spelling_kindOf_46 : decode prog_5_method_2_code 46 = .ok (.iload_n 0, 1) := by decide +kernel
theorem dd_Spelling_kindOf_47 : decode prog_5_method_2_code 47 = .ok (.bipush 57, 2) := by decide +kernel
theorem dd_Spelling_kindOf_49 : decode prog_5_method_2_code 49 = .ok (.if_icmp .gt 5, 3) := by decide +kernel
theorem dd_Spelling_kindOf_52 : decode prog_5_method_2_code 52 = .ok (.iconst 3, 1) := by decide +kernel
theorem dd_Spelling_kindOf_53 : decode prog_5_method_2_code 53 = .ok (.ireturn, 1) := by decide +kernel
theorem dd_Spelling_kindOf_54 : decode prog_5_method_2_code 54 = .ok (.ldc 11, 2) := by decide +kernel
theorem dd_Spelling_kindOf_56 : decode prog_5_method_2_code 56 = .ok (.iload_n 0, 1) := by decide +kernel
theorem dd_Spelling_kindOf_57 : decode prog_5_method_2_code 57 = .ok (.i2c, 1) := by decide +kernel
theorem dd_Spelling_kindOf_58 : decode prog_5_method_2_code 58 = .ok (.invokevirtual 13, 3) := by decide +kernel
theorem dd_Spelling_kindOf_61 : decode prog_5_method_2_code 61 = .ok (.ifCond .lt 5, 3) := by decide +kernel
theorem dd_Spelling_kindOf_64 : decode prog_5_method_2_code 64 = .ok (.iconst 4, 1) := by decide +kernel
theorem dd_Spelling_kindOf_65 : decode prog_5_method_2_code 65 = .ok (.ireturn, 1) := by decide +kernel
theorem dd_Spelling_kindOf_66 : decode prog_5_method_2_code 66 = .ok (.ldc 19, 2) := by decide +kernel
theorem dd_Spelling_kindOf_68 : decode prog_5_method_2_code 68 = .ok (.iload_n 0, 1) := by decide +kernel
theorem dd_Spelling_kindOf_69 : decode prog_5_method_2_code 69 = .ok (.i2c, 1) := by decide +kernel
theorem dd_Spelling_kindOf_70 : decode prog_5_method_2_code 70 = .ok (.invokevirtual 13, 3) := by decide +kernel
theorem dd_Spelling_kindOf_73 : decode prog_5_method_2_code 73 = .ok (.ifCond .lt 7, 3) := by decide +kernel
theorem dd_Spelling_kindOf_76 : decode prog_5_method_2_code 76 = .ok (.iconst 5, 1) := by decide +kernel
theorem dd_Spelling_kindOf_77 : decode prog_5_method_2_code 77 = .ok (.goto 4, 3) := by decide +kernel
theorem dd_Spelling_kindOf_80 : decode prog_5_method_2_code 80 = .ok (.iconst 0, 1) := by decide +kernel
theorem dd_Spelling_kindOf_81 : decode prog_5_method_2_code 81 = .ok (.ireturn, 1) := by decide +kernel
theorem dd_Spelling_lowBytes_0 : decode prog_5_method_4_code 0 = .ok (.iload_n 2, 1) := by decide +kernel
theorem dd_Spelling_lowBytes_1 : decode prog_5_method_4_code 1 = .ok (.bipush 8, 2) := by decide +kernel
theorem dd_Spelling_lowBytes_3 : decode prog_5_method_4_code 3 = .ok (.if_icmp .lt 7, 3) := by decide +kernel
theorem dd_Spelling_lowBytes_6 : decode prog_5_method_4_code 6 = .ok (.lload_n 0, 1) := by decide +kernel
theorem dd_Spelling_lowBytes_7 : decode prog_5_method_4_code 7 = .ok (.goto 13, 3) := by decide +kernel
theorem dd_Spelling_lowBytes_10 : decode prog_5_method_4_code 10 = .ok (.lload_n 0, 1) := by decide +kernel
theorem dd_Spelling_lowBytes_11 : decode prog_5_method_4_code 11 = .ok (.lconst 1, 1) := by decide +kernel
theorem dd_Spelling_lowBytes_12 : decode prog_5_method_4_code 12 = .ok (.bipush 8, 2) := by decide +kernel
theorem dd_Spelling_lowBytes_14 : decode prog_5_method_4_code 14 = .ok (.iload_n 2, 1) := by decide +kernel
theorem dd_Spelling_lowBytes_15 : decode prog_5_method_4_code 15 = .ok (.imul, 1) := by decide +kernel
theorem dd_Spelling_lowBytes_16 : decode prog_5_method_4_code 16 = .ok (.lshl, 1) := by decide +kernel
theorem dd_Spelling_lowBytes_17 : decode prog_5_method_4_code 17 = .ok (.lconst 1, 1) := by decide +kernel
theorem dd_Spelling_lowBytes_18 : decode prog_5_method_4_code 18 = .ok (.lsub, 1) := by decide +kernel
theorem dd_Spelling_lowBytes_19 : decode prog_5_method_4_code 19 = .ok (.land, 1) := by decide +kernel
theorem dd_Spelling_lowBytes_20 : decode prog_5_method_4_code 20 = .ok (.lreturn, 1) := by decide +kernel
end
section
theorem dd_String_coder_0 : decode prog_19_method_152_code 0 = .ok (.getstatic 38, 3) := by decide +kernel
theorem dd_String_coder_3 : decode prog_19_method_152_code 3 = .ok (.ifCond .eq 10, 3) := by decide +kernel
theorem dd_String_coder_6 : decode prog_19_method_152_code 6 = .ok (.aload_n 0, 1) := by decide +kernel
theorem dd_String_coder_7 : decode prog_19_method_152_code 7 = .ok (.getfield 15, 3) := by decide +kernel
theorem dd_String_coder_10 : decode prog_19_method_152_code 10 = .ok (.goto 4, 3) := by decide +kernel
theorem dd_String_coder_13 : decode prog_19_method_152_code 13 = .ok (.iconst 1, 1) := by decide +kernel
theorem dd_String_coder_14 : decode prog_19_method_152_code 14 = .ok (.ireturn, 1) := by decide +kernel
theorem dd_String_indexOf_0 : decode prog_19_method_79_code 0 = .ok (.aload_n 0, 1) := by decide +kernel
theorem dd_String_indexOf_1 : decode prog_19_method_79_code 1 = .ok (.iload_n 1, 1) := by decide +kernel
theorem dd_String_indexOf_2 : decode prog_19_method_79_code 2 = .ok (.iconst 0, 1) := by decide +kernel
theorem dd_String_indexOf_3 : decode prog_19_method_79_code 3 = .ok (.invokevirtual 633, 3) := by decide +kernel
theorem dd_String_indexOf_6 : decode prog_19_method_79_code 6 = .ok (.ireturn, 1) := by decide +kernel
theorem dd_String_indexOf2_0 : decode prog_19_method_80_code 0 = .ok (.aload_n 0, 1) := by decide +kernel
theorem dd_String_indexOf2_1 : decode prog_19_method_80_code 1 = .ok (.invokevirtual 492, 3) := by decide +kernel
theorem dd_String_indexOf2_4 : decode prog_19_method_80_code 4 = .ok (.ifCond .eq 19, 3) := by decide +kernel
theorem dd_String_indexOf2_7 : decode prog_19_method_80_code 7 = .ok (.aload_n 0, 1) := by decide +kernel
theorem dd_String_indexOf2_8 : decode prog_19_method_80_code 8 = .ok (.getfield 9, 3) := by decide +kernel
theorem dd_String_indexOf2_11 : decode prog_19_method_80_code 11 = .ok (.iload_n 1, 1) := by decide +kernel
theorem dd_String_indexOf2_12 : decode prog_19_method_80_code 12 = .ok (.iload_n 2, 1) := by decide +kernel
theorem dd_String_indexOf2_13 : decode prog_19_method_80_code 13 = .ok (.aload_n 0, 1) := by decide +kernel
theorem dd_String_indexOf2_14 : decode prog_19_method_80_code 14 = .ok (.invokevirtual 505, 3) := by decide +kernel
theorem dd_String_indexOf2_17 : decode prog_19_method_80_code 17 = .ok (.invokestatic 637, 3) := by decide +kernel
theorem dd_String_indexOf2_20 : decode prog_19_method_80_code 20 = .ok (.goto 16, 3) := by decide +kernel
theorem dd_String_indexOf2_23 : decode prog_19_method_80_code 23 = .ok (.aload_n 0, 1) := by decide +kernel
theorem dd_String_indexOf2_24 : decode prog_19_method_80_code 24 = .ok (.getfield 9, 3) := by decide +kernel
theorem dd_String_indexOf2_27 : decode prog_19_method_80_code 27 = .ok (.iload_n 1, 1) := by decide +kernel
theorem dd_String_indexOf2_28 : decode prog_19_method_80_code 28 = .ok (.iload_n 2, 1) := by decide +kernel
theorem dd_String_indexOf2_29 : decode prog_19_method_80_code 29 = .ok (.aload_n 0, 1) := by decide +kernel
theorem dd_String_indexOf2_30 : decode prog_19_method_80_code 30 = .ok (.invokevirtual 505, 3) := by decide +kernel
theorem dd_String_indexOf2_33 : decode prog_19_method_80_code 33 = .ok (.invokestatic 640, 3) := by decide +kernel
theorem dd_String_indexOf2_36 : decode prog_19_method_80_code 36 = .ok (.ireturn, 1) := by decide +kernel
theorem dd_String_isLatin1_0 : decode prog_19_method_154_code 0 = .ok (.getstatic 38, 3) := by decide +kernel
theorem dd_String_isLatin1_3 : decode prog_19_method_154_code 3 = .ok (.ifCond .eq 14, 3) := by decide +kernel
theorem dd_String_isLatin1_6 : decode prog_19_method_154_code 6 = .ok (.aload_n 0, 1) := by decide +kernel
theorem dd_String_isLatin1_7 : decode prog_19_method_154_code 7 = .ok (.getfield 15, 3) := by decide +kernel
theorem dd_String_isLatin1_10 : decode prog_19_method_154_code 10 = .ok (.ifCond .ne 7, 3) := by decide +kernel
theorem dd_String_isLatin1_13 : decode prog_19_method_154_code 13 = .ok (.iconst 1, 1) := by decide +kernel
theorem dd_String_isLatin1_14 : decode prog_19_method_154_code 14 = .ok (.goto 4, 3) := by decide +kernel
theorem dd_String_isLatin1_17 : decode prog_19_method_154_code 17 = .ok (.iconst 0, 1) := by decide +kernel
theorem dd_String_isLatin1_18 : decode prog_19_method_154_code 18 = .ok (.ireturn, 1) := by decide +kernel
theorem dd_String_length_0 : decode prog_19_method_54_code 0 = .ok (.aload_n 0, 1) := by decide +kernel
theorem dd_String_length_1 : decode prog_19_method_54_code 1 = .ok (.getfield 9, 3) := by decide +kernel
theorem dd_String_length_4 : decode prog_19_method_54_code 4 = .ok (.arraylength, 1) := by decide +kernel
theorem dd_String_length_5 : decode prog_19_method_54_code 5 = .ok (.aload_n 0, 1) := by decide +kernel
theorem dd_String_length_6 : decode prog_19_method_54_code 6 = .ok (.invokevirtual 335, 3) := by decide +kernel
theorem dd_String_length_9 : decode prog_19_method_54_code 9 = .ok (.ishr, 1) := by decide +kernel
theorem dd_String_length_10 : decode prog_19_method_54_code 10 = .ok (.ireturn, 1) := by decide +kernel
theorem dd_StringLatin1_canEncode_0 : decode prog_21_method_4_code 0 = .ok (.iload_n 0, 1) := by decide +kernel
theorem dd_StringLatin1_canEncode_1 : decode prog_21_method_4_code 1 = .ok (.ifCond .lt 14, 3) := by decide +kernel
theorem dd_StringLatin1_canEncode_4 : decode prog_21_method_4_code 4 = .ok (.iload_n 0, 1) := by decide +kernel
theorem dd_StringLatin1_canEncode_5 : decode prog_21_method_4_code 5 = .ok (.sipush 255, 3) := by decide +kernel
theorem dd_StringLatin1_canEncode_8 : decode prog_21_method_4_code 8 = .ok (.if_icmp .gt 7, 3) := by decide +kernel
theorem dd_StringLatin1_canEncode_11 : decode prog_21_method_4_code 11 = .ok (.iconst 1, 1) := by decide +kernel
theorem dd_StringLatin1_canEncode_12 : decode prog_21_method_4_code 12 = .ok (.goto 4, 3) := by decide +kernel
theorem dd_StringLatin1_canEncode_15 : decode prog_21_method_4_code 15 = .ok (.iconst 0, 1) := by decide +kernel
theorem dd_StringLatin1_canEncode_16 : decode prog_21_method_4_code 16 = .ok (.ireturn, 1) := by decide +kernel
theorem dd_StringLatin1_indexOf_0 : decode prog_21_method_22_code 0 = .ok (.iload_n 1, 1) := by decide +kernel
theorem dd_StringLatin1_indexOf_1 : decode prog_21_method_22_code 1 = .ok (.invokestatic 88, 3) := by decide +kernel
theorem dd_StringLatin1_indexOf_4 : decode prog_21_method_22_code 4 = .ok (.ifCond .ne 5, 3) := by decide +kernel
theorem dd_StringLatin1_indexOf_7 : decode prog_21_method_22_code 7 = .ok (.iconst (-1), 1) := by decide +kernel
theorem dd_StringLatin1_indexOf_8 : decode prog_21_method_22_code 8 = .ok (.ireturn, 1) := by decide +kernel
theorem dd_StringLatin1_indexOf_9 : decode prog_21_method_22_code 9 = .ok (.iload_n 2, 1) := by decide +kernel
theorem dd_StringLatin1_indexOf_10 : decode prog_21_method_22_code 10 = .ok (.iconst 0, 1) := by decide +kernel
theorem dd_StringLatin1_indexOf_11 : decode prog_21_method_22_code 11 = .ok (.invokestatic 92, 3) := by decide +kernel
theorem dd_StringLatin1_indexOf_14 : decode prog_21_method_22_code 14 = .ok (.istore_n 2, 1) := by decide +kernel
theorem dd_StringLatin1_indexOf_15 : decode prog_21_method_22_code 15 = .ok (.iload_n 3, 1) := by decide +kernel
theorem dd_StringLatin1_indexOf_16 : decode prog_21_method_22_code 16 = .ok (.aload_n 0, 1) := by decide +kernel
theorem dd_StringLatin1_indexOf_17 : decode prog_21_method_22_code 17 = .ok (.arraylength, 1) := by decide +kernel
theorem dd_StringLatin1_indexOf_18 : decode prog_21_method_22_code 18 = .ok (.invokestatic 38, 3) := by decide +kernel
theorem dd_StringLatin1_indexOf_21 : decode prog_21_method_22_code 21 = .ok (.istore_n 3, 1) := by decide +kernel
theorem dd_StringLatin1_indexOf_22 : decode prog_21_method_22_code 22 = .ok (.iload_n 2, 1) := by decide +kernel
theorem dd_StringLatin1_indexOf_23 : decode prog_21_method_22_code 23 = .ok (.iload_n 3, 1) := by decide +kernel
theorem dd_StringLatin1_indexOf_24 : decode prog_21_method_22_code 24 = .ok (.if_icmp .lt 5, 3) := by decide +kernel
theorem dd_StringLatin1_indexOf_27 : decode prog_21_method_22_code 27 = .ok (.iconst (-1), 1) := by decide +kernel
theorem dd_StringLatin1_indexOf_28 : decode prog_21_method_22_code 28 = .ok (.ireturn, 1) := by decide +kernel
theorem dd_StringLatin1_indexOf_29 : decode prog_21_method_22_code 29 = .ok (.aload_n 0, 1) := by decide +kernel
theorem dd_StringLatin1_indexOf_30 : decode prog_21_method_22_code 30 = .ok (.iload_n 1, 1) := by decide +kernel
theorem dd_StringLatin1_indexOf_31 : decode prog_21_method_22_code 31 = .ok (.iload_n 2, 1) := by decide +kernel
theorem dd_StringLatin1_indexOf_32 : decode prog_21_method_22_code 32 = .ok (.iload_n 3, 1) := by decide +kernel
theorem dd_StringLatin1_indexOf_33 : decode prog_21_method_22_code 33 = .ok (.invokestatic 95, 3) := by decide +kernel
theorem dd_StringLatin1_indexOf_36 : decode prog_21_method_22_code 36 = .ok (.ireturn, 1) := by decide +kernel
theorem dd_StringLatin1_indexOfChar_0 : decode prog_21_method_23_code 0 = .ok (.iload_n 1, 1) := by decide +kernel
theorem dd_StringLatin1_indexOfChar_1 : decode prog_21_method_23_code 1 = .ok (.i2b, 1) := by decide +kernel
theorem dd_StringLatin1_indexOfChar_2 : decode prog_21_method_23_code 2 = .ok (.istore 4, 2) := by decide +kernel
theorem dd_StringLatin1_indexOfChar_4 : decode prog_21_method_23_code 4 = .ok (.iload_n 2, 1) := by decide +kernel
theorem dd_StringLatin1_indexOfChar_5 : decode prog_21_method_23_code 5 = .ok (.istore 5, 2) := by decide +kernel
theorem dd_StringLatin1_indexOfChar_7 : decode prog_21_method_23_code 7 = .ok (.iload 5, 2) := by decide +kernel
theorem dd_StringLatin1_indexOfChar_9 : decode prog_21_method_23_code 9 = .ok (.iload_n 3, 1) := by decide +kernel
theorem dd_StringLatin1_indexOfChar_10 : decode prog_21_method_23_code 10 = .ok (.if_icmp .ge 21, 3) := by decide +kernel
theorem dd_StringLatin1_indexOfChar_13 : decode prog_21_method_23_code 13 = .ok (.aload_n 0, 1) := by decide +kernel
theorem dd_StringLatin1_indexOfChar_14 : decode prog_21_method_23_code 14 = .ok (.iload 5, 2) := by decide +kernel
theorem dd_StringLatin1_indexOfChar_16 : decode prog_21_method_23_code 16 = .ok (.baload, 1) := by decide +kernel
theorem dd_StringLatin1_indexOfChar_17 : decode prog_21_method_23_code 17 = .ok (.iload 4, 2) := by decide +kernel
theorem dd_StringLatin1_indexOfChar_19 : decode prog_21_method_23_code 19 = .ok (.if_icmp .ne 6, 3) := by decide +kernel
theorem dd_StringLatin1_indexOfChar_22 : decode prog_21_method_23_code 22 = .ok (.iload 5, 2) := by decide +kernel
theorem dd_StringLatin1_indexOfChar_24 : decode prog_21_method_23_code 24 = .ok (.ireturn, 1) := by decide +kernel
theorem dd_StringLatin1_indexOfChar_25 : decode prog_21_method_23_code 25 = .ok (.iinc 5 1, 3) := by decide +kernel
theorem dd_StringLatin1_indexOfChar_28 : decode prog_21_method_23_code 28 = .ok (.goto (-21), 3) := by decide +kernel
theorem dd_StringLatin1_indexOfChar_31 : decode prog_21_method_23_code 31 = .ok (.iconst (-1), 1) := by decide +kernel
theorem dd_StringLatin1_indexOfChar_32 : decode prog_21_method_23_code 32 = .ok (.ireturn, 1) := by decide +kernel
theorem dd_Arrays_fill_0 : decode prog_25_method_104_code 0 = .ok (.aload_n 0, 1) := by decide +kernel
theorem dd_Arrays_fill_1 : decode prog_25_method_104_code 1 = .ok (.arraylength, 1) := by decide +kernel
theorem dd_Arrays_fill_2 : decode prog_25_method_104_code 2 = .ok (.iload_n 1, 1) := by decide +kernel
theorem dd_Arrays_fill_3 : decode prog_25_method_104_code 3 = .ok (.iload_n 2, 1) := by decide +kernel
theorem dd_Arrays_fill_4 : decode prog_25_method_104_code 4 = .ok (.invokestatic 13, 3) := by decide +kernel
theorem dd_Arrays_fill_7 : decode prog_25_method_104_code 7 = .ok (.iload_n 1, 1) := by decide +kernel
theorem dd_Arrays_fill_8 : decode prog_25_method_104_code 8 = .ok (.istore 4, 2) := by decide +kernel
theorem dd_Arrays_fill_10 : decode prog_25_method_104_code 10 = .ok (.iload 4, 2) := by decide +kernel
theorem dd_Arrays_fill_12 : decode prog_25_method_104_code 12 = .ok (.iload_n 2, 1) := by decide +kernel
theorem dd_Arrays_fill_13 : decode prog_25_method_104_code 13 = .ok (.if_icmp .ge 14, 3) := by decide +kernel
theorem dd_Arrays_fill_16 : decode prog_25_method_104_code 16 = .ok (.aload_n 0, 1) := by decide +kernel
theorem dd_Arrays_fill_17 : decode prog_25_method_104_code 17 = .ok (.iload 4, 2) := by decide +kernel
theorem dd_Arrays_fill_19 : decode prog_25_method_104_code 19 = .ok (.iload_n 3, 1) := by decide +kernel
theorem dd_Arrays_fill_20 : decode prog_25_method_104_code 20 = .ok (.iastore, 1) := by decide +kernel
theorem dd_Arrays_fill_21 : decode prog_25_method_104_code 21 = .ok (.iinc 4 1, 3) := by decide +kernel
theorem dd_Arrays_fill_24 : decode prog_25_method_104_code 24 = .ok (.goto (-14), 3) := by decide +kernel
theorem dd_Arrays_fill_27 : decode prog_25_method_104_code 27 = .ok (.return_, 1) := by decide +kernel
theorem dd_Arrays_fill2_0 : decode prog_25_method_102_code 0 = .ok (.aload_n 0, 1) := by decide +kernel
theorem dd_Arrays_fill2_1 : decode prog_25_method_102_code 1 = .ok (.arraylength, 1) := by decide +kernel
theorem dd_Arrays_fill2_2 : decode prog_25_method_102_code 2 = .ok (.iload_n 1, 1) := by decide +kernel
theorem dd_Arrays_fill2_3 : decode prog_25_method_102_code 3 = .ok (.iload_n 2, 1) := by decide +kernel
theorem dd_Arrays_fill2_4 : decode prog_25_method_102_code 4 = .ok (.invokestatic 13, 3) := by decide +kernel
theorem dd_Arrays_fill2_7 : decode prog_25_method_102_code 7 = .ok (.iload_n 1, 1) := by decide +kernel
theorem dd_Arrays_fill2_8 : decode prog_25_method_102_code 8 = .ok (.istore 5, 2) := by decide +kernel
theorem dd_Arrays_fill2_10 : decode prog_25_method_102_code 10 = .ok (.iload 5, 2) := by decide +kernel
theorem dd_Arrays_fill2_12 : decode prog_25_method_102_code 12 = .ok (.iload_n 2, 1) := by decide +kernel
theorem dd_Arrays_fill2_13 : decode prog_25_method_102_code 13 = .ok (.if_icmp .ge 14, 3) := by decide +kernel
theorem dd_Arrays_fill2_16 : decode prog_25_method_102_code 16 = .ok (.aload_n 0, 1) := by decide +kernel
theorem dd_Arrays_fill2_17 : decode prog_25_method_102_code 17 = .ok (.iload 5, 2) := by decide +kernel
theorem dd_Arrays_fill2_19 : decode prog_25_method_102_code 19 = .ok (.lload_n 3, 1) := by decide +kernel
theorem dd_Arrays_fill2_20 : decode prog_25_method_102_code 20 = .ok (.lastore, 1) := by decide +kernel
theorem dd_Arrays_fill2_21 : decode prog_25_method_102_code 21 = .ok (.iinc 5 1, 3) := by decide +kernel
theorem dd_Arrays_fill2_24 : decode prog_25_method_102_code 24 = .ok (.goto (-14), 3) := by decide +kernel
theorem dd_Arrays_fill2_27 : decode prog_25_method_102_code 27 = .ok (.return_, 1) := by decide +kernel
theorem dd_Arrays_rangeCheck_0 : decode prog_25_method_30_code 0 = .ok (.iload_n 1, 1) := by decide +kernel
theorem dd_Arrays_rangeCheck_1 : decode prog_25_method_30_code 1 = .ok (.iload_n 2, 1) := by decide +kernel
theorem dd_Arrays_rangeCheck_2 : decode prog_25_method_30_code 2 = .ok (.if_icmp .le 44, 3) := by decide +kernel
theorem dd_Arrays_rangeCheck_5 : decode prog_25_method_30_code 5 = .ok (.new 43, 3) := by decide +kernel
theorem dd_Arrays_rangeCheck_46 : decode prog_25_method_30_code 46 = .ok (.iload_n 1, 1) := by decide +kernel
theorem dd_Arrays_rangeCheck_47 : decode prog_25_method_30_code 47 = .ok (.ifCond .ge 12, 3) := by decide +kernel
theorem dd_Arrays_rangeCheck_50 : decode prog_25_method_30_code 50 = .ok (.new 68, 3) := by decide +kernel
theorem dd_Arrays_rangeCheck_59 : decode prog_25_method_30_code 59 = .ok (.iload_n 2, 1) := by decide +kernel
theorem dd_Arrays_rangeCheck_60 : decode prog_25_method_30_code 60 = .ok (.iload_n 0, 1) := by decide +kernel
theorem dd_Arrays_rangeCheck_61 : decode prog_25_method_30_code 61 = .ok (.if_icmp .le 12, 3) := by decide +kernel
theorem dd_Arrays_rangeCheck_64 : decode prog_25_method_30_code 64 = .ok (.new 68, 3) := by decide +kernel
theorem dd_Arrays_rangeCheck_73 : decode prog_25_method_30_code 73 = .ok (.return_, 1) := by decide +kernel
end
section
theorem dd_N_about_0 : decode prog_1_method_15_code 0 = .ok (.iload_n 1, 1) := by decide +kernel
theorem dd_N_about_1 : decode prog_1_method_15_code 1 = .ok (.tableswitch 77 0 4 #[35, 45, 53, 61, 69], 35) := by decide +kernel
theorem dd_N_about_36 : decode prog_1_method_15_code 36 = .ok (.aload_n 0, 1) := by decide +kernel
theorem dd_N_about_37 : decode prog_1_method_15_code 37 = .ok (.getfield 12, 3) := by decide +kernel
theorem dd_N_about_40 : decode prog_1_method_15_code 40 = .ok (.getfield 108, 3) := by decide +kernel
theorem dd_N_about_43 : decode prog_1_method_15_code 43 = .ok (.iconst 2, 1) := by decide +kernel
theorem dd_N_about_44 : decode prog_1_method_15_code 44 = .ok (.isub, 1) := by decide +kernel
theorem dd_N_about_45 : decode prog_1_method_15_code 45 = .ok (.ireturn, 1) := by decide +kernel
theorem dd_N_about_46 : decode prog_1_method_15_code 46 = .ok (.aload_n 0, 1) := by decide +kernel
theorem dd_N_about_47 : decode prog_1_method_15_code 47 = .ok (.getfield 12, 3) := by decide +kernel
theorem dd_N_about_50 : decode prog_1_method_15_code 50 = .ok (.getfield 68, 3) := by decide +kernel
theorem dd_N_about_53 : decode prog_1_method_15_code 53 = .ok (.ireturn, 1) := by decide +kernel
theorem dd_N_about_54 : decode prog_1_method_15_code 54 = .ok (.aload_n 0, 1) := by decide +kernel
theorem dd_N_about_55 : decode prog_1_method_15_code 55 = .ok (.getfield 19, 3) := by decide +kernel
theorem dd_N_about_58 : decode prog_1_method_15_code 58 = .ok (.getfield 120, 3) := by decide +kernel
theorem dd_N_about_61 : decode prog_1_method_15_code 61 = .ok (.ireturn, 1) := by decide +kernel
theorem dd_N_about_62 : decode prog_1_method_15_code 62 = .ok (.aload_n 0, 1) := by decide +kernel
theorem dd_N_about_63 : decode prog_1_method_15_code 63 = .ok (.getfield 37, 3) := by decide +kernel
theorem dd_N_about_66 : decode prog_1_method_15_code 66 = .ok (.getfield 168, 3) := by decide +kernel
theorem dd_N_about_69 : decode prog_1_method_15_code 69 = .ok (.ireturn, 1) := by decide +kernel
theorem dd_N_about_70 : decode prog_1_method_15_code 70 = .ok (.aload_n 0, 1) := by decide +kernel
theorem dd_N_about_71 : decode prog_1_method_15_code 71 = .ok (.getfield 44, 3) := by decide +kernel
theorem dd_N_about_74 : decode prog_1_method_15_code 74 = .ok (.getfield 198, 3) := by decide +kernel
theorem dd_N_about_77 : decode prog_1_method_15_code 77 = .ok (.ireturn, 1) := by decide +kernel
theorem dd_N_about_78 : decode prog_1_method_15_code 78 = .ok (.iconst (-1), 1) := by decide +kernel
theorem dd_N_about_79 : decode prog_1_method_15_code 79 = .ok (.ireturn, 1) := by decide +kernel
theorem dd_N_at_0 : decode prog_1_method_13_code 0 = .ok (.iload_n 1, 1) := by decide +kernel
theorem dd_N_at_1 : decode prog_1_method_13_code 1 = .ok (.ifCond .lt 14, 3) := by decide +kernel
theorem dd_N_at_4 : decode prog_1_method_13_code 4 = .ok (.iload_n 1, 1) := by decide +kernel
theorem dd_N_at_5 : decode prog_1_method_13_code 5 = .ok (.aload_n 0, 1) := by decide +kernel
theorem dd_N_at_6 : decode prog_1_method_13_code 6 = .ok (.getfield 44, 3) := by decide +kernel
theorem dd_N_at_9 : decode prog_1_method_13_code 9 = .ok (.getfield 198, 3) := by decide +kernel
theorem dd_N_at_12 : decode prog_1_method_13_code 12 = .ok (.if_icmp .lt 7, 3) := by decide +kernel
theorem dd_N_at_15 : decode prog_1_method_13_code 15 = .ok (.iconst (-1), 1) := by decide +kernel
theorem dd_N_at_16 : decode prog_1_method_13_code 16 = .ok (.goto 12, 3) := by decide +kernel
theorem dd_N_at_19 : decode prog_1_method_13_code 19 = .ok (.aload_n 0, 1) := by decide +kernel
theorem dd_N_at_20 : decode prog_1_method_13_code 20 = .ok (.getfield 44, 3) := by decide +kernel
theorem dd_N_at_23 : decode prog_1_method_13_code 23 = .ok (.getfield 199, 3) := by decide +kernel
theorem dd_N_at_26 : decode prog_1_method_13_code 26 = .ok (.iload_n 1, 1) := by decide +kernel
theorem dd_N_at_27 : decode prog_1_method_13_code 27 = .ok (.baload, 1) := by decide +kernel
theorem dd_N_at_28 : decode prog_1_method_13_code 28 = .ok (.ireturn, 1) := by decide +kernel
theorem dd_N_clear_0 : decode prog_1_method_6_code 0 = .ok (.aload_n 0, 1) := by decide +kernel
theorem dd_N_clear_1 : decode prog_1_method_6_code 1 = .ok (.getfield 19, 3) := by decide +kernel
theorem dd_N_clear_4 : decode prog_1_method_6_code 4 = .ok (.iconst 0, 1) := by decide +kernel
theorem dd_N_clear_5 : decode prog_1_method_6_code 5 = .ok (.putfield 120, 3) := by decide +kernel
theorem dd_N_clear_8 : decode prog_1_method_6_code 8 = .ok (.return_, 1) := by decide +kernel
theorem dd_N_fault_0 : decode prog_1_method_10_code 0 = .ok (.iload_n 1, 1) := by decide +kernel
theorem dd_N_fault_1 : decode prog_1_method_10_code 1 = .ok (.lookupswitch 37 #[(0, 27), (1, 32)], 27) := by decide +kernel
theorem dd_N_fault_28 : decode prog_1_method_10_code 28 = .ok (.aload_n 0, 1) := by decide +kernel
theorem dd_N_fault_29 : decode prog_1_method_10_code 29 = .ok (.getfield 48, 3) := by decide +kernel
theorem dd_N_fault_32 : decode prog_1_method_10_code 32 = .ok (.ireturn, 1) := by decide +kernel
theorem dd_N_fault_33 : decode prog_1_method_10_code 33 = .ok (.aload_n 0, 1) := by decide +kernel
theorem dd_N_fault_34 : decode prog_1_method_10_code 34 = .ok (.getfield 52, 3) := by decide +kernel
theorem dd_N_fault_37 : decode prog_1_method_10_code 37 = .ok (.ireturn, 1) := by decide +kernel
theorem dd_N_fault_38 : decode prog_1_method_10_code 38 = .ok (.iconst (-1), 1) := by decide +kernel
theorem dd_N_fault_39 : decode prog_1_method_10_code 39 = .ok (.ireturn, 1) := by decide +kernel
theorem dd_N_findFault_0 : decode prog_1_method_8_code 0 = .ok (.aload_n 0, 1) := by decide +kernel
theorem dd_N_findFault_1 : decode prog_1_method_8_code 1 = .ok (.getfield 28, 3) := by decide +kernel
theorem dd_N_findFault_4 : decode prog_1_method_8_code 4 = .ok (.aload_n 0, 1) := by decide +kernel
theorem dd_N_findFault_5 : decode prog_1_method_8_code 5 = .ok (.getfield 19, 3) := by decide +kernel
theorem dd_N_findFault_8 : decode prog_1_method_8_code 8 = .ok (.getfield 145, 3) := by decide +kernel
theorem dd_N_findFault_11 : decode prog_1_method_8_code 11 = .ok (.aload_n 0, 1) := by decide +kernel
theorem dd_N_findFault_12 : decode prog_1_method_8_code 12 = .ok (.getfield 19, 3) := by decide +kernel
theorem dd_N_findFault_15 : decode prog_1_method_8_code 15 = .ok (.getfield 135, 3) := by decide +kernel
theorem dd_N_findFault_18 : decode prog_1_method_8_code 18 = .ok (.invokevirtual 149, 3) := by decide +kernel
theorem dd_N_findFault_21 : decode prog_1_method_8_code 21 = .ok (.istore_n 1, 1) := by decide +kernel
theorem dd_N_findFault_22 : decode prog_1_method_8_code 22 = .ok (.iload_n 1, 1) := by decide +kernel
theorem dd_N_findFault_23 : decode prog_1_method_8_code 23 = .ok (.aload_n 0, 1) := by decide +kernel
theorem dd_N_findFault_24 : decode prog_1_method_8_code 24 = .ok (.getfield 19, 3) := by decide +kernel
theorem dd_N_findFault_27 : decode prog_1_method_8_code 27 = .ok (.getfield 135, 3) := by decide +kernel
theorem dd_N_findFault_30 : decode prog_1_method_8_code 30 = .ok (.if_icmp .ge 20, 3) := by decide +kernel
theorem dd_N_findFault_33 : decode prog_1_method_8_code 33 = .ok (.aload_n 0, 1) := by decide +kernel
theorem dd_N_findFault_34 : decode prog_1_method_8_code 34 = .ok (.iconst 1, 1) := by decide +kernel
theorem dd_N_findFault_35 : decode prog_1_method_8_code 35 = .ok (.aload_n 0, 1) := by decide +kernel
theorem dd_N_findFault_36 : decode prog_1_method_8_code 36 = .ok (.getfield 19, 3) := by decide +kernel
theorem dd_N_findFault_39 : decode prog_1_method_8_code 39 = .ok (.getfield 153, 3) := by decide +kernel
theorem dd_N_findFault_42 : decode prog_1_method_8_code 42 = .ok (.iload_n 1, 1) := by decide +kernel
theorem dd_N_findFault_43 : decode prog_1_method_8_code 43 = .ok (.iaload, 1) := by decide +kernel
theorem dd_N_findFault_44 : decode prog_1_method_8_code 44 = .ok (.invokevirtual 157, 3) := by decide +kernel
theorem dd_N_findFault_47 : decode prog_1_method_8_code 47 = .ok (.goto 67, 3) := by decide +kernel
theorem dd_N_findFault_50 : decode prog_1_method_8_code 50 = .ok (.aload_n 0, 1) := by decide +kernel
theorem dd_N_findFault_51 : decode prog_1_method_8_code 51 = .ok (.getfield 19, 3) := by decide +kernel
theorem dd_N_findFault_54 : decode prog_1_method_8_code 54 = .ok (.getfield 161, 3) := by decide +kernel
theorem dd_N_findFault_57 : decode prog_1_method_8_code 57 = .ok (.iconst (-1), 1) := by decide +kernel
theorem dd_N_findFault_58 : decode prog_1_method_8_code 58 = .ok (.if_icmp .eq 18, 3) := by decide +kernel
theorem dd_N_findFault_61 : decode prog_1_method_8_code 61 = .ok (.aload_n 0, 1) := by decide +kernel
theorem dd_N_findFault_62 : decode prog_1_method_8_code 62 = .ok (.iconst 2, 1) := by decide +kernel
theorem dd_N_findFault_63 : decode prog_1_method_8_code 63 = .ok (.aload_n 0, 1) := by decide +kernel
theorem dd_N_findFault_64 : decode prog_1_method_8_code 64 = .ok (.getfield 19, 3) := by decide +kernel
theorem dd_N_findFault_67 : decode prog_1_method_8_code 67 = .ok (.getfield 161, 3) := by decide +kernel
theorem dd_N_findFault_70 : decode prog_1_method_8_code 70 = .ok (.invokevirtual 157, 3) := by decide +kernel
theorem dd_N_findFault_73 : decode prog_1_method_8_code 73 = .ok (.goto 41, 3) := by decide +kernel
theorem dd_N_findFault_76 : decode prog_1_method_8_code 76 = .ok (.aload_n 0, 1) := by decide +kernel
theorem dd_N_findFault_77 : decode prog_1_method_8_code 77 = .ok (.getfield 28, 3) := by decide +kernel
theorem dd_N_findFault_80 : decode prog_1_method_8_code 80 = .ok (.aload_n 0, 1) := by decide +kernel
theorem dd_N_findFault_81 : decode prog_1_method_8_code 81 = .ok (.getfield 19, 3) := by decide +kernel
theorem dd_N_findFault_84 : decode prog_1_method_8_code 84 = .ok (.getfield 135, 3) := by decide +kernel
theorem dd_N_findFault_87 : decode prog_1_method_8_code 87 = .ok (.invokevirtual 164, 3) := by decide +kernel
theorem dd_N_findFault_90 : decode prog_1_method_8_code 90 = .ok (.ifCond .ne 18, 3) := by decide +kernel
theorem dd_N_findFault_93 : decode prog_1_method_8_code 93 = .ok (.aload_n 0, 1) := by decide +kernel
theorem dd_N_findFault_94 : decode prog_1_method_8_code 94 = .ok (.iconst 1, 1) := by decide +kernel
theorem dd_N_findFault_95 : decode prog_1_method_8_code 95 = .ok (.aload_n 0, 1) := by decide +kernel
theorem dd_N_findFault_96 : decode prog_1_method_8_code 96 = .ok (.getfield 19, 3) := by decide +kernel
theorem dd_N_findFault_99 : decode prog_1_method_8_code 99 = .ok (.getfield 120, 3) := by decide +kernel
theorem dd_N_findFault_102 : decode prog_1_method_8_code 102 = .ok (.invokevirtual 157, 3) := by decide +kernel
theorem dd_N_findFault_105 : decode prog_1_method_8_code 105 = .ok (.goto 9, 3) := by decide +kernel
theorem dd_N_findFault_108 : decode prog_1_method_8_code 108 = .ok (.aload_n 0, 1) := by decide +kernel
theorem dd_N_findFault_109 : decode prog_1_method_8_code 109 = .ok (.iconst 0, 1) := by decide +kernel
theorem dd_N_findFault_110 : decode prog_1_method_8_code 110 = .ok (.iconst (-1), 1) := by decide +kernel
theorem dd_N_findFault_111 : decode prog_1_method_8_code 111 = .ok (.invokevirtual 157, 3) := by decide +kernel
theorem dd_N_findFault_114 : decode prog_1_method_8_code 114 = .ok (.return_, 1) := by decide +kernel
theorem dd_N_isKey_0 : decode prog_1_method_14_code 0 = .ok (.lload_n 1, 1) := by decide +kernel
theorem dd_N_isKey_1 : decode prog_1_method_14_code 1 = .ok (.iload_n 3, 1) := by decide +kernel
theorem dd_N_isKey_2 : decode prog_1_method_14_code 2 = .ok (.invokestatic 82, 3) := by decide +kernel
theorem dd_N_isKey_5 : decode prog_1_method_14_code 5 = .ok (.ifCond .eq 22, 3) := by decide +kernel
theorem dd_N_isKey_8 : decode prog_1_method_14_code 8 = .ok (.aload_n 0, 1) := by decide +kernel
theorem dd_N_isKey_9 : decode prog_1_method_14_code 9 = .ok (.getfield 12, 3) := by decide +kernel
theorem dd_N_isKey_12 : decode prog_1_method_14_code 12 = .ok (.lload_n 1, 1) := by decide +kernel
theorem dd_N_isKey_13 : decode prog_1_method_14_code 13 = .ok (.iload_n 3, 1) := by decide +kernel
theorem dd_N_isKey_14 : decode prog_1_method_14_code 14 = .ok (.invokestatic 90, 3) := by decide +kernel
theorem dd_N_isKey_17 : decode prog_1_method_14_code 17 = .ok (.invokevirtual 203, 3) := by decide +kernel
theorem dd_N_isKey_20 : decode prog_1_method_14_code 20 = .ok (.ifCond .eq 7, 3) := by decide +kernel
theorem dd_N_isKey_23 : decode prog_1_method_14_code 23 = .ok (.iconst 1, 1) := by decide +kernel
theorem dd_N_isKey_24 : decode prog_1_method_14_code 24 = .ok (.goto 4, 3) := by decide +kernel
theorem dd_N_isKey_27 : decode prog_1_method_14_code 27 = .ok (.iconst 0, 1) := by decide +kernel
theorem dd_N_isKey_28 : decode prog_1_method_14_code 28 = .ok (.ireturn, 1) := by decide +kernel
theorem dd_N_noteFault_0 : decode prog_1_method_9_code 0 = .ok (.aload_n 0, 1) := by decide +kernel
theorem dd_N_noteFault_1 : decode prog_1_method_9_code 1 = .ok (.iload_n 1, 1) := by decide +kernel
theorem dd_N_noteFault_2 : decode prog_1_method_9_code 2 = .ok (.putfield 48, 3) := by decide +kernel
theorem dd_N_noteFault_5 : decode prog_1_method_9_code 5 = .ok (.aload_n 0, 1) := by decide +kernel
theorem dd_N_noteFault_6 : decode prog_1_method_9_code 6 = .ok (.iload_n 2, 1) := by decide +kernel
theorem dd_N_noteFault_7 : decode prog_1_method_9_code 7 = .ok (.putfield 52, 3) := by decide +kernel
theorem dd_N_noteFault_10 : decode prog_1_method_9_code 10 = .ok (.return_, 1) := by decide +kernel
theorem dd_N_put_0 : decode prog_1_method_5_code 0 = .ok (.iload_n 3, 1) := by decide +kernel
theorem dd_N_put_1 : decode prog_1_method_5_code 1 = .ok (.iconst 1, 1) := by decide +kernel
theorem dd_N_put_2 : decode prog_1_method_5_code 2 = .ok (.if_icmp .lt 24, 3) := by decide +kernel
theorem dd_N_put_5 : decode prog_1_method_5_code 5 = .ok (.iload_n 3, 1) := by decide +kernel
theorem dd_N_put_6 : decode prog_1_method_5_code 6 = .ok (.bipush 8, 2) := by decide +kernel
theorem dd_N_put_8 : decode prog_1_method_5_code 8 = .ok (.if_icmp .gt 18, 3) := by decide +kernel
theorem dd_N_put_11 : decode prog_1_method_5_code 11 = .ok (.iload_n 3, 1) := by decide +kernel
theorem dd_N_put_12 : decode prog_1_method_5_code 12 = .ok (.sipush 200, 3) := by decide +kernel
theorem dd_N_put_15 : decode prog_1_method_5_code 15 = .ok (.aload_n 0, 1) := by decide +kernel
theorem dd_N_put_16 : decode prog_1_method_5_code 16 = .ok (.getfield 19, 3) := by decide +kernel
theorem dd_N_put_19 : decode prog_1_method_5_code 19 = .ok (.getfield 120, 3) := by decide +kernel
theorem dd_N_put_22 : decode prog_1_method_5_code 22 = .ok (.isub, 1) := by decide +kernel
theorem dd_N_put_23 : decode prog_1_method_5_code 23 = .ok (.if_icmp .le 5, 3) := by decide +kernel
theorem dd_N_put_26 : decode prog_1_method_5_code 26 = .ok (.iconst 0, 1) := by decide +kernel
theorem dd_N_put_27 : decode prog_1_method_5_code 27 = .ok (.ireturn, 1) := by decide +kernel
theorem dd_N_put_28 : decode prog_1_method_5_code 28 = .ok (.aload_n 0, 1) := by decide +kernel
theorem dd_N_put_29 : decode prog_1_method_5_code 29 = .ok (.getfield 19, 3) := by decide +kernel
theorem dd_N_put_32 : decode prog_1_method_5_code 32 = .ok (.lload_n 1, 1) := by decide +kernel
theorem dd_N_put_33 : decode prog_1_method_5_code 33 = .ok (.iload_n 3, 1) := by decide +kernel
theorem dd_N_put_34 : decode prog_1_method_5_code 34 = .ok (.invokevirtual 123, 3) := by decide +kernel
theorem dd_N_put_37 : decode prog_1_method_5_code 37 = .ok (.iconst 1, 1) := by decide +kernel
theorem dd_N_put_38 : decode prog_1_method_5_code 38 = .ok (.ireturn, 1) := by decide +kernel
end
section
/-! numbers as Ints: np_i, np_l take any Int to the machine's int and long -/
abbrev np_S : Type := Nat → Int → Int
abbrev np_O : Type := Int × np_S
def np_i (x : Int) : Int32 := Int32.ofInt x
def np_l (x : Int) : Int64 := Int64.ofInt x
abbrev np_R (x : Int) : Prop := -2147483648 ≤ x ∧ x ≤ 2147483647
abbrev np_R6 (x : Int) : Prop := -9223372036854775808 ≤ x ∧ x ≤ 9223372036854775807
def np_ck {α : Type} (c : Prop) [Decidable c] (k : Option α) : Option α := if c then k else none
theorem np_ck_e {α : Type} {c : Prop} [Decidable c] {k : Option α} {o : α} (h : np_ck c k = some o) : c ∧ k = some o := by
  unfold np_ck at h
  split at h
  · exact ⟨by assumption, h⟩
  · cases h
theorem np_ck_i {α : Type} {c : Prop} [Decidable c] {k : Option α} (h : c) : np_ck c k = k := if_pos h
/-- the store with one place changed -/
def np_st (σ : np_S) (k : Nat) (j v : Int) : np_S := fun k2 => if k2 = k then (fun j2 => if j2 = j then v else σ k j2) else σ k2
theorem np_st_s (σ : np_S) (k : Nat) (j v : Int) : np_st σ k j v k j = v := by simp [np_st]
theorem np_st_n (σ : np_S) (k : Nat) {j j2 : Int} (v : Int) (h : j2 ≠ j) : np_st σ k j v k j2 = σ k j2 := by simp [np_st, h]
theorem np_st_k (σ : np_S) {k k2 : Nat} (j v : Int) (h : k2 ≠ k) : np_st σ k j v k2 = σ k2 := by simp [np_st, h]
def np_cmp (x y : Int) : Int := if y < x then 1 else if x = y then 0 else -1
def np_max (x y : Int) : Int := if x < y then y else x
def np_min (x y : Int) : Int := if y < x then y else x
def np_andi (x y : Int) : Int := (np_i x &&& np_i y).toInt
def np_ori (x y : Int) : Int := (np_i x ||| np_i y).toInt
def np_xori (x y : Int) : Int := (np_i x ^^^ np_i y).toInt
def np_shli (x y : Int) : Int := (np_i x <<< (np_i y &&& 31)).toInt
def np_shri (x y : Int) : Int := (np_i x >>> (np_i y &&& 31)).toInt
def np_ushri (x y : Int) : Int := ((np_i x).toUInt32 >>> ((np_i y).toUInt32 &&& Int32.toUInt32 31)).toInt32.toInt
def np_andl (x y : Int) : Int := (np_l x &&& np_l y).toInt
def np_orl (x y : Int) : Int := (np_l x ||| np_l y).toInt
def np_shll (x y : Int) : Int := (np_l x <<< ((np_i y).toInt64 &&& 63)).toInt
def np_shrl (x y : Int) : Int := (np_l x >>> ((np_i y).toInt64 &&& 63)).toInt
def np_ushrl (x y : Int) : Int := ((np_l x).toUInt64 >>> ((np_i y).toInt64.toUInt64 &&& Int64.toUInt64 63)).toInt64.toInt
theorem np_i_toInt (x : Int32) : np_i x.toInt = x := Int32.ofInt_toInt x
theorem np_l_toInt (x : Int64) : np_l x.toInt = x := Int64.ofInt_toInt x
theorem np_toInt {x : Int} (h : np_R x) : (np_i x).toInt = x := Int32.toInt_ofInt_of_le (by have := h.1; omega) (by have := h.2; omega)
theorem np_toInt6 {x : Int} (h : np_R6 x) : (np_l x).toInt = x := Int64.toInt_ofInt_of_le (by have := h.1; omega) (by have := h.2; omega)
theorem np_add (x y : Int) : np_i x + np_i y = np_i (x + y) := (Int32.ofInt_add x y).symm
theorem np_sub (x y : Int) : np_i x - np_i y = np_i (x - y) := (Int32.ofInt_sub x y).symm
theorem np_mul (x y : Int) : np_i x * np_i y = np_i (x * y) := (Int32.ofInt_mul x y).symm
theorem np_inc (x n : Int) : np_i x + Int32.ofInt n = np_i (x + n) := np_add x n
theorem np_addl (x y : Int) : np_l x + np_l y = np_l (x + y) := (Int64.ofInt_add x y).symm
theorem np_subl (x y : Int) : np_l x - np_l y = np_l (x - y) := (Int64.ofInt_sub x y).symm
theorem np_mull (x y : Int) : np_l x * np_l y = np_l (x * y) := (Int64.ofInt_mul x y).symm
theorem np_lt {x y : Int} (hx : np_R x) (hy : np_R y) : np_i x < np_i y ↔ x < y := by rw [Int32.lt_iff_toInt_lt, np_toInt hx, np_toInt hy]
theorem np_le {x y : Int} (hx : np_R x) (hy : np_R y) : np_i x ≤ np_i y ↔ x ≤ y := by rw [Int32.le_iff_toInt_le, np_toInt hx, np_toInt hy]
theorem np_eq {x y : Int} (hx : np_R x) (hy : np_R y) : np_i x = np_i y ↔ x = y := by rw [← Int32.toInt_inj, np_toInt hx, np_toInt hy]
theorem np_lt6 {x y : Int} (hx : np_R6 x) (hy : np_R6 y) : np_l x < np_l y ↔ x < y := by rw [Int64.lt_iff_toInt_lt, np_toInt6 hx, np_toInt6 hy]
theorem np_eq6 {x y : Int} (hx : np_R6 x) (hy : np_R6 y) : np_l x = np_l y ↔ x = y := by rw [← Int64.toInt_inj, np_toInt6 hx, np_toInt6 hy]
theorem np_0 : np_i 0 = 0 := rfl
theorem np_R0 : np_R 0 := by decide
theorem np_clamp {x : Int} (h0 : 0 ≤ x) (h : np_R x) : (np_i x).toNatClampNeg = x.toNat := by
  show (np_i x).toInt.toNat = x.toNat
  rw [np_toInt h]
theorem np_in {x : Int} {n : Nat} (h0 : 0 ≤ x) (h : x < n) (hn : n < 2147483648) : vp_in (np_i x) n := by
  have hR : np_R x := ⟨by omega, by omega⟩
  rw [vp_in_iff, np_toInt hR]
  exact ⟨h0, h⟩
theorem np_byte (x : Int) : (np_i x).toInt8.toInt32 = np_i (Int.bmod x 256) := by
  apply Int32.toInt_inj.mp
  have h1 : -128 ≤ Int.bmod x 256 := Int.le_bmod (by decide)
  have h2 : Int.bmod x 256 < 128 := Int.bmod_lt (by decide)
  rw [np_toInt ⟨by omega, by omega⟩]
  simp [np_i]
theorem np_nat (n : Nat) : np_i (n : Int) = nI n := by
  first | exact Int32.ofInt_eq_ofNat | rfl | simp [np_i, nI]
theorem np_char (x : Int) : ((np_i x).toUInt32 % 65536).toInt32 = np_i (x % 65536) := by
  rw [pk_char]
  have h : (np_i x).toBitVec.toNat % 65536 = (x % 65536).toNat := by
    simp only [np_i, Int32.toBitVec_ofInt, BitVec.toNat_ofInt]
    omega
  rw [h, ← np_nat, Int.toNat_of_nonneg (Int.emod_nonneg x (by decide))]
theorem np_l2i_e (x : Int) : (np_l x).toInt32 = np_i x := by
  simp [np_l, np_i]
theorem np_i2l_e {x : Int} (h : np_R x) : (np_i x).toInt64 = np_l x := by
  apply Int64.toInt_inj.mp
  rw [Int32.toInt_toInt64, np_toInt h, np_toInt6 ⟨by have := h.1; omega, by have := h.2; omega⟩]
theorem np_narI0 : True := trivial
theorem np_narI (x : Int) : narrow .int (.int (np_i x)) = .int (np_i x) := rfl
theorem np_fitI (x : Int) : fits .int (.int (np_i x)) = true := rfl
/-- what the heap holds from the start and nobody writes: the String constants of Spelling.kindOf -/
def np_sl : List Nat := [19, 8]
def np_sb : List (List Int32) := [[33, 35, 36, 37, 38, 42, 43, 45, 46, 47, 58, 60, 61, 62, 63, 64, 94, 124, 126], [40, 41, 91, 93, 123, 125, 44, 59]]
/-- a static field that holds a reference or null, in a cell that nobody writes -/
def np_Z (O f d : String) (A : Nat → Prop) (U : State) (H : Heap) : Prop := ∃ (c : ClassId) (k : Class) (i : Nat) (fd : Field) (a : Nat) (cell : Cell) (v : Value), U.vm.findClass O = some c ∧ U.fieldFound? O f d = some (c, k, i, fd) ∧ fd.isStatic = true ∧ k.statics = some a ∧ H[a]? = some cell ∧ cell.vm.isStatics = true ∧ cell.cls = c ∧ fd.slot < cell.slots.size ∧ k.staticTypes[fd.slot]? = some fd.type ∧ cell.slots[fd.slot]? = some v ∧ v.isRef = true ∧ ¬ A a
theorem np_Z.moved {O f d : String} {A : Nat → Prop} {u U : State} {H : Heap} (hvm : u.vm.Alike U.vm) (h : np_Z O f d A u H) : np_Z O f d A U H := by
  obtain ⟨c, k, i, fd, a, cell, v, h0, h1, h2, h3, h4, h5, h6, h7, h8, h9⟩ := h
  obtain ⟨k', hi', he⟩ := State.fieldFound?_setVm hvm h1
  exact ⟨c, k', i, fd, a, cell, v, by rw [hvm.findClass]; exact h0, hi', h2, by rw [he]; exact h3, h4, h5, h6, h7, by rw [he]; exact h8, h9⟩
theorem np_Z.kept {O f d : String} {A : Nat → Prop} {U : State} {H H1 : Heap} (h : np_Z O f d A U H) (hq : ∀ a : Nat, a < H.size → ¬ A a → H1[a]? = H[a]?) : np_Z O f d A U H1 := by
  obtain ⟨c, k, i, fd, a, cell, v, h0, h1, h2, h3, h4, h5, h6, h7, h8, h9, h10, h11⟩ := h
  exact ⟨c, k, i, fd, a, cell, v, h0, h1, h2, h3, by rw [hq a (Array.getElem?_eq_some_iff.mp h4).1 h11]; exact h4, h5, h6, h7, h8, h9, h10, h11⟩
theorem np_Z.narrow {O f d : String} {A B : Nat → Prop} {U : State} {H : Heap} (h : np_Z O f d A U H) (hAB : ∀ q, B q → A q) : np_Z O f d B U H := by
  obtain ⟨c, k, i, fd, a, cell, v, h0, h1, h2, h3, h4, h5, h6, h7, h8, h9, h10, h11⟩ := h
  exact ⟨c, k, i, fd, a, cell, v, h0, h1, h2, h3, h4, h5, h6, h7, h8, h9, h10, fun z => h11 (hAB a z)⟩
theorem np_Z.lays {O f d : String} {A : Nat → Prop} {U : State} {args : Array Value} (h : np_Z O f d A U U.heap) : (Cond.laysStatic O f d).before args U = true := by
  obtain ⟨c, k, i, fd, a, cell, v, h0, h1, h2, h3, h4, h5, h6, h7, h8, h9, h10, h11⟩ := h
  simp [Cond.before, Cond.holds, Cond.value, h0, h1, h2, h3, h4, h5, h6, h7, h8]
theorem np_Z.isRef {O f d : String} {A : Nat → Prop} {U : State} {args : Array Value} (h : np_Z O f d A U U.heap) : (Cond.isRef (.static O f d)).before args U = true := by
  obtain ⟨c, k, i, fd, a, cell, v, h0, h1, h2, h3, h4, h5, h6, h7, h8, h9, h10, h11⟩ := h
  have e : (Term.static O f d).eval args U none [] U = some v := by
    simp [Term.eval, State.fieldNamed?, h1, h2, h3, h4, h5, h9]
  cases v <;> simp [Value.isRef] at h10 <;> simp [Cond.before, Cond.holds, Cond.value, e]
/-- the texts of the class's own exceptions, by their entries -/
def np_msgs : List (Nat × String) := [(57, "a hole's level is 0 to 10"), (66, "a hole stands just ahead"), (73, "there are 6 parts in hand"), (88, "it is no word"), (98, "( and ) are no words of notations"), (106, "a level is 0 to 9 and one part is a word"), (111, "there are 12 notations"), (133, "the text has a fault"), (171, "no such node"), (188, "there is no tree")]
def np_E (gA : Nat → Nat) (A : Nat → Prop) (U : State) (H : Heap) : Prop :=
  vk_S 2 np_sl np_sb gA (fun i => gA (100 + i)) A U H ∧ vk_R "NotationParse$Spelling" 11 "!#$%&*+-./:<=>?@^|~" (gA 0) U ∧ vk_R "NotationParse$Spelling" 19 "()[]{},;" (gA 1) U ∧ va_Z "java/lang/String" "COMPACT_STRINGS" "Z" (.int 1) A U H ∧
  np_Z "java/lang/Throwable" "UNASSIGNED_STACK" "[Ljava/lang/StackTraceElement;" A U H ∧ np_Z "java/lang/Throwable" "SUPPRESSED_SENTINEL" "Ljava/util/List;" A U H ∧ ∀ q ∈ np_msgs, vk_R "NotationParse" q.1 q.2 (gA (200 + q.1)) U
/-- byte j of String constant i -/
def np_kb (i : Nat) (j : Int) : Int := ((np_sb.getD i []).getD j.toNat 0).toInt
theorem np_E.warm {gA : Nat → Nat} {A : Nat → Prop} {s U : State} {H : Heap} (hW : s.WarmedH U.vm) (h : np_E gA A s H) : np_E gA A U H := ⟨vk_S.moved hW.alike h.1, h.2.1.warm hW, h.2.2.1.warm hW, h.2.2.2.1.moved hW.alike, h.2.2.2.2.1.moved hW.alike, h.2.2.2.2.2.1.moved hW.alike, fun q hq => (h.2.2.2.2.2.2 q hq).warm hW⟩
theorem np_E.same {gA : Nat → Nat} {A : Nat → Prop} {u U : State} {H : Heap} (hv : U.vm = u.vm) (h : np_E gA A u H) : np_E gA A U H := by
  have hal : u.vm.Alike U.vm := by rw [hv]; exact Vm.Alike.refl _
  exact ⟨vk_S.moved hal h.1, h.2.1.same hv, h.2.2.1.same hv, h.2.2.2.1.moved hal, h.2.2.2.2.1.moved hal, h.2.2.2.2.2.1.moved hal, fun q hq => (h.2.2.2.2.2.2 q hq).same hv⟩
theorem np_E.kept {gA : Nat → Nat} {A : Nat → Prop} {U : State} {H H1 : Heap} (h : np_E gA A U H) (hq : ∀ a : Nat, a < H.size → ¬ A a → H1[a]? = H[a]?) : np_E gA A U H1 := ⟨h.1.kept hq, h.2.1, h.2.2.1, h.2.2.2.1.kept hq, h.2.2.2.2.1.kept hq, h.2.2.2.2.2.1.kept hq, h.2.2.2.2.2.2⟩
theorem np_E.narrow {gA : Nat → Nat} {A B : Nat → Prop} {U : State} {H : Heap} (h : np_E gA A U H) (hAB : ∀ q, B q → A q) : np_E gA B U H := ⟨h.1.narrow hAB, h.2.1, h.2.2.1, h.2.2.2.1.narrow hAB, h.2.2.2.2.1.narrow hAB, h.2.2.2.2.2.1.narrow hAB, h.2.2.2.2.2.2⟩
/-- what holds all through a method -/
def np_Cx (gA : Nat → Nat) (p : Program) (R : Room) (s : State) (m : MethodId) (args : Array Value) (c : Code) (D : va_G) (cl : List vw_C) (tys : List (ClassId × FieldType)) (A : Nat → Prop) (Ts : List Cond) (own : String) (cc : ByteArray) (nL : Nat) (rm : Room) : Prop :=
  (p.tables.exec = Jvm.exec ∧ c.code = cc ∧ c.maxLocals = nL ∧ s.vm.findClass own = some m.cls ∧ ∀ w ∈ Ts, w.before args s = true) ∧ va_K D cl tys s ∧ (∀ a, s.heap.size ≤ a → A a) ∧ R = rm ∧ np_E gA A s s.heap ∧ ∀ (a : Nat) (cell : Cell), A a → s.heap[a]? = some cell → cell.vm.isStatics = false
/-- the world: the store σ lies in the heap -/
def np_At (D : va_G) (cl : List vw_C) (A : Nat → Prop) (wd : np_S → va_W) (s : State) (σ : np_S) (H : Heap) (locs : List Loc) : Prop :=
  va_P D cl (wd σ) H ∧ va_D A (wd σ) ∧ va_S A s.heap H locs
abbrev np_ty (cA : Nat → ClassId) : List (ClassId × FieldType) := [(cA 0, .int), (cA 1, .long), (cA 2, .byte), (cA 3, .boolean)]
section NPR
variable {p : Program} {l : Launch} {e : Env} {R : Room} {s : State} {m : MethodId} {args : Array Value} {below : List Frame} {meth : Method} {c : Code} {H : Heap} {locs : List Loc} {cells slots : Nat} {Q : State → Prop}
variable {cc : ByteArray} {pc : Nat} {ls : Array Slot} {rest : List Value} {D : va_G} {cl : List vw_C} {tys : List (ClassId × FieldType)} {A : Nat → Prop} {Ts : List Cond} {own : String} {nL : Nat} {rm : Room} {wd : np_S → va_W} {σ : np_S} {gA : Nat → Nat}
theorem np_Cx.x (C : np_Cx gA p R s m args c D cl tys A Ts own cc nL rm) : p.tables.exec = Jvm.exec := C.1.1
theorem np_Cx.b (C : np_Cx gA p R s m args c D cl tys A Ts own cc nL rm) : c.code = cc := C.1.2.1
theorem np_Cx.ml (C : np_Cx gA p R s m args c D cl tys A Ts own cc nL rm) : c.maxLocals = nL := C.1.2.2.1
theorem np_Cx.o (C : np_Cx gA p R s m args c D cl tys A Ts own cc nL rm) : s.vm.findClass own = some m.cls := C.1.2.2.2.1
theorem np_Cx.t (C : np_Cx gA p R s m args c D cl tys A Ts own cc nL rm) : ∀ w ∈ Ts, w.before args s = true := C.1.2.2.2.2
theorem np_Cx.k (C : np_Cx gA p R s m args c D cl tys A Ts own cc nL rm) : va_K D cl tys s := C.2.1
theorem np_Cx.a (C : np_Cx gA p R s m args c D cl tys A Ts own cc nL rm) : ∀ a, s.heap.size ≤ a → A a := C.2.2.1
theorem np_Cx.r (C : np_Cx gA p R s m args c D cl tys A Ts own cc nL rm) : R = rm := C.2.2.2.1
theorem np_Cx.en (C : np_Cx gA p R s m args c D cl tys A Ts own cc nL rm) : np_E gA A s s.heap := C.2.2.2.2.1
theorem np_Cx.ns (C : np_Cx gA p R s m args c D cl tys A Ts own cc nL rm) : ∀ (a : Nat) (cell : Cell), A a → s.heap[a]? = some cell → cell.vm.isStatics = false := C.2.2.2.2.2
theorem np_iadd (C : np_Cx gA p R s m args c D cl tys A Ts own cc nL rm) {x y : Int} (hdg : decode cc pc = .ok (.iadd, 1)) (k : W p l e R s m args below meth c H locs cells slots Q (F0 m (pc + 1) ls (.int (np_i (x + y)) :: rest))) : W p l e R s m args below meth c H locs cells slots Q (F0 m pc ls (.int (np_i y) :: .int (np_i x) :: rest)) := lv_iadd C.x C.b hdg (by rw [np_add]; exact k)
theorem np_isub (C : np_Cx gA p R s m args c D cl tys A Ts own cc nL rm) {x y : Int} (hdg : decode cc pc = .ok (.isub, 1)) (k : W p l e R s m args below meth c H locs cells slots Q (F0 m (pc + 1) ls (.int (np_i (x - y)) :: rest))) : W p l e R s m args below meth c H locs cells slots Q (F0 m pc ls (.int (np_i y) :: .int (np_i x) :: rest)) := lv_isub C.x C.b hdg (by rw [np_sub]; exact k)
theorem np_imul (C : np_Cx gA p R s m args c D cl tys A Ts own cc nL rm) {x y : Int} (hdg : decode cc pc = .ok (.imul, 1)) (k : W p l e R s m args below meth c H locs cells slots Q (F0 m (pc + 1) ls (.int (np_i (x * y)) :: rest))) : W p l e R s m args below meth c H locs cells slots Q (F0 m pc ls (.int (np_i y) :: .int (np_i x) :: rest)) := lv_imul C.x C.b hdg (by rw [np_mul]; exact k)
theorem np_ladd (C : np_Cx gA p R s m args c D cl tys A Ts own cc nL rm) {x y : Int} (hdg : decode cc pc = .ok (.ladd, 1)) (k : W p l e R s m args below meth c H locs cells slots Q (F0 m (pc + 1) ls (.long (np_l (x + y)) :: rest))) : W p l e R s m args below meth c H locs cells slots Q (F0 m pc ls (.long (np_l y) :: .long (np_l x) :: rest)) := lv_ladd C.x C.b hdg (by rw [np_addl]; exact k)
theorem np_lsub (C : np_Cx gA p R s m args c D cl tys A Ts own cc nL rm) {x y : Int} (hdg : decode cc pc = .ok (.lsub, 1)) (k : W p l e R s m args below meth c H locs cells slots Q (F0 m (pc + 1) ls (.long (np_l (x - y)) :: rest))) : W p l e R s m args below meth c H locs cells slots Q (F0 m pc ls (.long (np_l y) :: .long (np_l x) :: rest)) := lv_lsub C.x C.b hdg (by rw [np_subl]; exact k)
theorem np_lmul (C : np_Cx gA p R s m args c D cl tys A Ts own cc nL rm) {x y : Int} (hdg : decode cc pc = .ok (.lmul, 1)) (k : W p l e R s m args below meth c H locs cells slots Q (F0 m (pc + 1) ls (.long (np_l (x * y)) :: rest))) : W p l e R s m args below meth c H locs cells slots Q (F0 m pc ls (.long (np_l y) :: .long (np_l x) :: rest)) := lv_lmul C.x C.b hdg (by rw [np_mull]; exact k)
theorem np_iand (C : np_Cx gA p R s m args c D cl tys A Ts own cc nL rm) {x y : Int} (hdg : decode cc pc = .ok (.iand, 1)) (k : W p l e R s m args below meth c H locs cells slots Q (F0 m (pc + 1) ls (.int (np_i (np_andi x y)) :: rest))) : W p l e R s m args below meth c H locs cells slots Q (F0 m pc ls (.int (np_i y) :: .int (np_i x) :: rest)) := lv_iand C.x C.b hdg (by unfold np_andi at k; rw [np_i_toInt] at k; exact k)
theorem np_ior (C : np_Cx gA p R s m args c D cl tys A Ts own cc nL rm) {x y : Int} (hdg : decode cc pc = .ok (.ior, 1)) (k : W p l e R s m args below meth c H locs cells slots Q (F0 m (pc + 1) ls (.int (np_i (np_ori x y)) :: rest))) : W p l e R s m args below meth c H locs cells slots Q (F0 m pc ls (.int (np_i y) :: .int (np_i x) :: rest)) := lv_ior C.x C.b hdg (by unfold np_ori at k; rw [np_i_toInt] at k; exact k)
theorem np_ixor (C : np_Cx gA p R s m args c D cl tys A Ts own cc nL rm) {x y : Int} (hdg : decode cc pc = .ok (.ixor, 1)) (k : W p l e R s m args below meth c H locs cells slots Q (F0 m (pc + 1) ls (.int (np_i (np_xori x y)) :: rest))) : W p l e R s m args below meth c H locs cells slots Q (F0 m pc ls (.int (np_i y) :: .int (np_i x) :: rest)) := lv_ixor C.x C.b hdg (by unfold np_xori at k; rw [np_i_toInt] at k; exact k)
theorem np_ishl (C : np_Cx gA p R s m args c D cl tys A Ts own cc nL rm) {x y : Int} (hdg : decode cc pc = .ok (.ishl, 1)) (k : W p l e R s m args below meth c H locs cells slots Q (F0 m (pc + 1) ls (.int (np_i (np_shli x y)) :: rest))) : W p l e R s m args below meth c H locs cells slots Q (F0 m pc ls (.int (np_i y) :: .int (np_i x) :: rest)) := lv_ishl C.x C.b hdg (by unfold np_shli at k; rw [np_i_toInt] at k; exact k)
theorem np_ishr (C : np_Cx gA p R s m args c D cl tys A Ts own cc nL rm) {x y : Int} (hdg : decode cc pc = .ok (.ishr, 1)) (k : W p l e R s m args below meth c H locs cells slots Q (F0 m (pc + 1) ls (.int (np_i (np_shri x y)) :: rest))) : W p l e R s m args below meth c H locs cells slots Q (F0 m pc ls (.int (np_i y) :: .int (np_i x) :: rest)) := lv_ishr C.x C.b hdg (by unfold np_shri at k; rw [np_i_toInt] at k; exact k)
theorem np_iushr (C : np_Cx gA p R s m args c D cl tys A Ts own cc nL rm) {x y : Int} (hdg : decode cc pc = .ok (.iushr, 1)) (k : W p l e R s m args below meth c H locs cells slots Q (F0 m (pc + 1) ls (.int (np_i (np_ushri x y)) :: rest))) : W p l e R s m args below meth c H locs cells slots Q (F0 m pc ls (.int (np_i y) :: .int (np_i x) :: rest)) := lv_iushr C.x C.b hdg rfl (by unfold np_ushri at k; rw [np_i_toInt] at k; exact k)
theorem np_land (C : np_Cx gA p R s m args c D cl tys A Ts own cc nL rm) {x y : Int} (hdg : decode cc pc = .ok (.land, 1)) (k : W p l e R s m args below meth c H locs cells slots Q (F0 m (pc + 1) ls (.long (np_l (np_andl x y)) :: rest))) : W p l e R s m args below meth c H locs cells slots Q (F0 m pc ls (.long (np_l y) :: .long (np_l x) :: rest)) := lv_land C.x C.b hdg (by unfold np_andl at k; rw [np_l_toInt] at k; exact k)
theorem np_lor (C : np_Cx gA p R s m args c D cl tys A Ts own cc nL rm) {x y : Int} (hdg : decode cc pc = .ok (.lor, 1)) (k : W p l e R s m args below meth c H locs cells slots Q (F0 m (pc + 1) ls (.long (np_l (np_orl x y)) :: rest))) : W p l e R s m args below meth c H locs cells slots Q (F0 m pc ls (.long (np_l y) :: .long (np_l x) :: rest)) := lv_lor C.x C.b hdg (by unfold np_orl at k; rw [np_l_toInt] at k; exact k)
theorem np_lshl (C : np_Cx gA p R s m args c D cl tys A Ts own cc nL rm) {x y : Int} (hdg : decode cc pc = .ok (.lshl, 1)) (k : W p l e R s m args below meth c H locs cells slots Q (F0 m (pc + 1) ls (.long (np_l (np_shll x y)) :: rest))) : W p l e R s m args below meth c H locs cells slots Q (F0 m pc ls (.int (np_i y) :: .long (np_l x) :: rest)) := lv_lshl C.x C.b hdg rfl (by unfold np_shll at k; rw [np_l_toInt] at k; exact k)
theorem np_lushr (C : np_Cx gA p R s m args c D cl tys A Ts own cc nL rm) {x y : Int} (hdg : decode cc pc = .ok (.lushr, 1)) (k : W p l e R s m args below meth c H locs cells slots Q (F0 m (pc + 1) ls (.long (np_l (np_ushrl x y)) :: rest))) : W p l e R s m args below meth c H locs cells slots Q (F0 m pc ls (.int (np_i y) :: .long (np_l x) :: rest)) := lv_lushr C.x C.b hdg rfl (by unfold np_ushrl at k; rw [np_l_toInt] at k; exact k)
theorem np_lshr (C : np_Cx gA p R s m args c D cl tys A Ts own cc nL rm) {x y : Int} (hdg : decode cc pc = .ok (.lshr, 1)) (k : W p l e R s m args below meth c H locs cells slots Q (F0 m (pc + 1) ls (.long (np_l (np_shrl x y)) :: rest))) : W p l e R s m args below meth c H locs cells slots Q (F0 m pc ls (.int (np_i y) :: .long (np_l x) :: rest)) := lv_lshr C.x C.b hdg rfl (by unfold np_shrl at k; rw [np_l_toInt] at k; exact k)
theorem np_l2i (C : np_Cx gA p R s m args c D cl tys A Ts own cc nL rm) {x : Int} (hdg : decode cc pc = .ok (.l2i, 1)) (k : W p l e R s m args below meth c H locs cells slots Q (F0 m (pc + 1) ls (.int (np_i x) :: rest))) : W p l e R s m args below meth c H locs cells slots Q (F0 m pc ls (.long (np_l x) :: rest)) := lv_l2i C.x C.b hdg (np_l2i_e x) k
theorem np_i2b (C : np_Cx gA p R s m args c D cl tys A Ts own cc nL rm) {x : Int} (hdg : decode cc pc = .ok (.i2b, 1)) (k : W p l e R s m args below meth c H locs cells slots Q (F0 m (pc + 1) ls (.int (np_i (Int.bmod x 256)) :: rest))) : W p l e R s m args below meth c H locs cells slots Q (F0 m pc ls (.int (np_i x) :: rest)) := lv_i2b C.x C.b hdg (np_byte x) k
theorem np_i2c (C : np_Cx gA p R s m args c D cl tys A Ts own cc nL rm) {x : Int} (hdg : decode cc pc = .ok (.i2c, 1)) (k : W p l e R s m args below meth c H locs cells slots Q (F0 m (pc + 1) ls (.int (np_i (x % 65536)) :: rest))) : W p l e R s m args below meth c H locs cells slots Q (F0 m pc ls (.int (np_i x) :: rest)) := lv_i2c C.x C.b hdg (np_char x) k
theorem np_i2l (C : np_Cx gA p R s m args c D cl tys A Ts own cc nL rm) {x : Int} (hdg : decode cc pc = .ok (.i2l, 1)) {α : Type} {f1 : Option α} {o : α} (hf : np_ck (np_R x) f1 = some o) (k : f1 = some o → W p l e R s m args below meth c H locs cells slots Q (F0 m (pc + 1) ls (.long (np_l x) :: rest))) : W p l e R s m args below meth c H locs cells slots Q (F0 m pc ls (.int (np_i x) :: rest)) := lv_i2l C.x C.b hdg (np_i2l_e (np_ck_e hf).1) (k (np_ck_e hf).2)
theorem np_idiv (C : np_Cx gA p R s m args c D cl tys A Ts own cc nL rm) {x y : Int} (hdg : decode cc pc = .ok (.idiv, 1)) {α : Type} {f1 : Option α} {o : α} (hf : np_ck (0 ≤ x ∧ np_R x ∧ 0 < y ∧ np_R y) f1 = some o) (k : f1 = some o → W p l e R s m args below meth c H locs cells slots Q (F0 m (pc + 1) ls (.int (np_i (x / y)) :: rest))) : W p l e R s m args below meth c H locs cells slots Q (F0 m pc ls (.int (np_i y) :: .int (np_i x) :: rest)) := by
  obtain ⟨⟨h1, h2, h3, h4⟩, hf2⟩ := np_ck_e hf
  refine lv_idiv C.x C.b hdg (fun h => ?_) ?_
  · have := (np_eq h4 np_R0).mp h
    omega
  · obtain ⟨a, rfl⟩ := Int.eq_ofNat_of_zero_le h1
    obtain ⟨d, rfl⟩ := Int.eq_ofNat_of_zero_le (Int.le_of_lt h3)
    have e : np_i (a : Int) / np_i (d : Int) = np_i ((a : Int) / (d : Int)) := by
      rw [np_nat, np_nat, pk_div (by have := h2.2; omega) (by omega) (by have := h4.2; omega), ← np_nat]
      rfl
    rw [e]
    exact k hf2
theorem np_lcmp (C : np_Cx gA p R s m args c D cl tys A Ts own cc nL rm) {x y : Int} (hdg : decode cc pc = .ok (.lcmp, 1)) {α : Type} {f1 : Option α} {o : α} (hf : np_ck (np_R6 x ∧ np_R6 y) f1 = some o) (k : f1 = some o → W p l e R s m args below meth c H locs cells slots Q (F0 m (pc + 1) ls (.int (np_i (np_cmp x y)) :: rest))) : W p l e R s m args below meth c H locs cells slots Q (F0 m pc ls (.long (np_l y) :: .long (np_l x) :: rest)) := by
  obtain ⟨⟨h1, h2⟩, hf⟩ := np_ck_e hf
  refine W.lcmp C.x C.b hdg ?_
  have e : lg_cmp (np_l x) (np_l y) = np_i (np_cmp x y) := by
    unfold lg_cmp np_cmp
    by_cases a : y < x
    · rw [if_pos ((np_lt6 h2 h1).mpr a), if_pos a]; rfl
    · rw [if_neg (fun q => a ((np_lt6 h2 h1).mp q)), if_neg a]
      by_cases b : x = y
      · rw [if_pos ((np_eq6 h1 h2).mpr b), if_pos b]; rfl
      · rw [if_neg (fun q => b ((np_eq6 h1 h2).mp q)), if_neg b]; rfl
  rw [e]
  exact k hf
theorem np_icmp_eq (C : np_Cx gA p R s m args c D cl tys A Ts own cc nL rm) {x y : Int} {off : Int} {tgt : Nat} (hdg : decode cc pc = .ok (.if_icmp .eq off, 3)) (ht : (pc : Int) + off = (tgt : Int)) {α : Type} {f1 f2 : Option α} {o : α} (hf : np_ck (np_R x ∧ np_R y) (if x = y then f1 else f2) = some o) (kt : x = y → f1 = some o → W p l e R s m args below meth c H locs cells slots Q (F0 m tgt ls rest)) (kf : ¬ (x = y) → f2 = some o → W p l e R s m args below meth c H locs cells slots Q (F0 m (pc + 3) ls rest)) : W p l e R s m args below meth c H locs cells slots Q (F0 m pc ls (.int (np_i y) :: .int (np_i x) :: rest)) := by
  obtain ⟨⟨h1, h2⟩, hf⟩ := np_ck_e hf
  have q := np_eq h1 h2
  refine lv_icmp_eq C.x C.b hdg ht (fun h => ?_) (fun h => ?_)
  · have h9 := q.mp h
    exact kt h9 (by rw [if_pos h9] at hf; exact hf)
  · have h9 : ¬ (x = y) := fun z => h (q.mpr z)
    exact kf h9 (by rw [if_neg h9] at hf; exact hf)
theorem np_if_eq (C : np_Cx gA p R s m args c D cl tys A Ts own cc nL rm) {x : Int} {off : Int} {tgt : Nat} (hdg : decode cc pc = .ok (.ifCond .eq off, 3)) (ht : (pc : Int) + off = (tgt : Int)) {α : Type} {f1 f2 : Option α} {o : α} (hf : np_ck (np_R x) (if x = 0 then f1 else f2) = some o) (kt : x = 0 → f1 = some o → W p l e R s m args below meth c H locs cells slots Q (F0 m tgt ls rest)) (kf : ¬ (x = 0) → f2 = some o → W p l e R s m args below meth c H locs cells slots Q (F0 m (pc + 3) ls rest)) : W p l e R s m args below meth c H locs cells slots Q (F0 m pc ls (.int (np_i x) :: rest)) := by
  obtain ⟨h1, hf⟩ := np_ck_e hf
  have h2 := np_R0
  have q := np_eq h1 h2
  refine lv_if_eq C.x C.b hdg ht (fun h => ?_) (fun h => ?_)
  · have h9 := q.mp h
    exact kt h9 (by rw [if_pos h9] at hf; exact hf)
  · have h9 : ¬ (x = 0) := fun z => h (q.mpr z)
    exact kf h9 (by rw [if_neg h9] at hf; exact hf)
theorem np_icmp_ne (C : np_Cx gA p R s m args c D cl tys A Ts own cc nL rm) {x y : Int} {off : Int} {tgt : Nat} (hdg : decode cc pc = .ok (.if_icmp .ne off, 3)) (ht : (pc : Int) + off = (tgt : Int)) {α : Type} {f1 f2 : Option α} {o : α} (hf : np_ck (np_R x ∧ np_R y) (if x ≠ y then f1 else f2) = some o) (kt : x ≠ y → f1 = some o → W p l e R s m args below meth c H locs cells slots Q (F0 m tgt ls rest)) (kf : ¬ (x ≠ y) → f2 = some o → W p l e R s m args below meth c H locs cells slots Q (F0 m (pc + 3) ls rest)) : W p l e R s m args below meth c H locs cells slots Q (F0 m pc ls (.int (np_i y) :: .int (np_i x) :: rest)) := by
  obtain ⟨⟨h1, h2⟩, hf⟩ := np_ck_e hf
  have q := not_congr (np_eq h1 h2)
  refine lv_icmp_ne C.x C.b hdg ht (fun h => ?_) (fun h => ?_)
  · have h9 := q.mp h
    exact kt h9 (by rw [if_pos h9] at hf; exact hf)
  · have h9 : ¬ (x ≠ y) := fun z => z ((np_eq h1 h2).mp h)
    exact kf h9 (by rw [if_neg h9] at hf; exact hf)
theorem np_if_ne (C : np_Cx gA p R s m args c D cl tys A Ts own cc nL rm) {x : Int} {off : Int} {tgt : Nat} (hdg : decode cc pc = .ok (.ifCond .ne off, 3)) (ht : (pc : Int) + off = (tgt : Int)) {α : Type} {f1 f2 : Option α} {o : α} (hf : np_ck (np_R x) (if x ≠ 0 then f1 else f2) = some o) (kt : x ≠ 0 → f1 = some o → W p l e R s m args below meth c H locs cells slots Q (F0 m tgt ls rest)) (kf : ¬ (x ≠ 0) → f2 = some o → W p l e R s m args below meth c H locs cells slots Q (F0 m (pc + 3) ls rest)) : W p l e R s m args below meth c H locs cells slots Q (F0 m pc ls (.int (np_i x) :: rest)) := by
  obtain ⟨h1, hf⟩ := np_ck_e hf
  have h2 := np_R0
  have q := not_congr (np_eq h1 h2)
  refine lv_if_ne C.x C.b hdg ht (fun h => ?_) (fun h => ?_)
  · have h9 := q.mp h
    exact kt h9 (by rw [if_pos h9] at hf; exact hf)
  · have h9 : ¬ (x ≠ 0) := fun z => z ((np_eq h1 h2).mp h)
    exact kf h9 (by rw [if_neg h9] at hf; exact hf)
theorem np_icmp_lt (C : np_Cx gA p R s m args c D cl tys A Ts own cc nL rm) {x y : Int} {off : Int} {tgt : Nat} (hdg : decode cc pc = .ok (.if_icmp .lt off, 3)) (ht : (pc : Int) + off = (tgt : Int)) {α : Type} {f1 f2 : Option α} {o : α} (hf : np_ck (np_R x ∧ np_R y) (if x < y then f1 else f2) = some o) (kt : x < y → f1 = some o → W p l e R s m args below meth c H locs cells slots Q (F0 m tgt ls rest)) (kf : ¬ (x < y) → f2 = some o → W p l e R s m args below meth c H locs cells slots Q (F0 m (pc + 3) ls rest)) : W p l e R s m args below meth c H locs cells slots Q (F0 m pc ls (.int (np_i y) :: .int (np_i x) :: rest)) := by
  obtain ⟨⟨h1, h2⟩, hf⟩ := np_ck_e hf
  have q := np_lt h1 h2
  refine lv_icmp_lt C.x C.b hdg ht (fun h => ?_) (fun h => ?_)
  · have h9 := q.mp h
    exact kt h9 (by rw [if_pos h9] at hf; exact hf)
  · have h9 : ¬ (x < y) := fun z => h (q.mpr z)
    exact kf h9 (by rw [if_neg h9] at hf; exact hf)
theorem np_if_lt (C : np_Cx gA p R s m args c D cl tys A Ts own cc nL rm) {x : Int} {off : Int} {tgt : Nat} (hdg : decode cc pc = .ok (.ifCond .lt off, 3)) (ht : (pc : Int) + off = (tgt : Int)) {α : Type} {f1 f2 : Option α} {o : α} (hf : np_ck (np_R x) (if x < 0 then f1 else f2) = some o) (kt : x < 0 → f1 = some o → W p l e R s m args below meth c H locs cells slots Q (F0 m tgt ls rest)) (kf : ¬ (x < 0) → f2 = some o → W p l e R s m args below meth c H locs cells slots Q (F0 m (pc + 3) ls rest)) : W p l e R s m args below meth c H locs cells slots Q (F0 m pc ls (.int (np_i x) :: rest)) := by
  obtain ⟨h1, hf⟩ := np_ck_e hf
  have h2 := np_R0
  have q := np_lt h1 h2
  refine lv_if_lt C.x C.b hdg ht (fun h => ?_) (fun h => ?_)
  · have h9 := q.mp h
    exact kt h9 (by rw [if_pos h9] at hf; exact hf)
  · have h9 : ¬ (x < 0) := fun z => h (q.mpr z)
    exact kf h9 (by rw [if_neg h9] at hf; exact hf)
theorem np_icmp_ge (C : np_Cx gA p R s m args c D cl tys A Ts own cc nL rm) {x y : Int} {off : Int} {tgt : Nat} (hdg : decode cc pc = .ok (.if_icmp .ge off, 3)) (ht : (pc : Int) + off = (tgt : Int)) {α : Type} {f1 f2 : Option α} {o : α} (hf : np_ck (np_R x ∧ np_R y) (if y ≤ x then f1 else f2) = some o) (kt : y ≤ x → f1 = some o → W p l e R s m args below meth c H locs cells slots Q (F0 m tgt ls rest)) (kf : ¬ (y ≤ x) → f2 = some o → W p l e R s m args below meth c H locs cells slots Q (F0 m (pc + 3) ls rest)) : W p l e R s m args below meth c H locs cells slots Q (F0 m pc ls (.int (np_i y) :: .int (np_i x) :: rest)) := by
  obtain ⟨⟨h1, h2⟩, hf⟩ := np_ck_e hf
  have q := np_le h2 h1
  refine lv_icmp_ge C.x C.b hdg ht (fun h => ?_) (fun h => ?_)
  · have h9 := q.mp h
    exact kt h9 (by rw [if_pos h9] at hf; exact hf)
  · have h9 : ¬ (y ≤ x) := fun z => h (q.mpr z)
    exact kf h9 (by rw [if_neg h9] at hf; exact hf)
theorem np_if_ge (C : np_Cx gA p R s m args c D cl tys A Ts own cc nL rm) {x : Int} {off : Int} {tgt : Nat} (hdg : decode cc pc = .ok (.ifCond .ge off, 3)) (ht : (pc : Int) + off = (tgt : Int)) {α : Type} {f1 f2 : Option α} {o : α} (hf : np_ck (np_R x) (if 0 ≤ x then f1 else f2) = some o) (kt : 0 ≤ x → f1 = some o → W p l e R s m args below meth c H locs cells slots Q (F0 m tgt ls rest)) (kf : ¬ (0 ≤ x) → f2 = some o → W p l e R s m args below meth c H locs cells slots Q (F0 m (pc + 3) ls rest)) : W p l e R s m args below meth c H locs cells slots Q (F0 m pc ls (.int (np_i x) :: rest)) := by
  obtain ⟨h1, hf⟩ := np_ck_e hf
  have h2 := np_R0
  have q := np_le h2 h1
  refine lv_if_ge C.x C.b hdg ht (fun h => ?_) (fun h => ?_)
  · have h9 := q.mp h
    exact kt h9 (by rw [if_pos h9] at hf; exact hf)
  · have h9 : ¬ (0 ≤ x) := fun z => h (q.mpr z)
    exact kf h9 (by rw [if_neg h9] at hf; exact hf)
theorem np_icmp_gt (C : np_Cx gA p R s m args c D cl tys A Ts own cc nL rm) {x y : Int} {off : Int} {tgt : Nat} (hdg : decode cc pc = .ok (.if_icmp .gt off, 3)) (ht : (pc : Int) + off = (tgt : Int)) {α : Type} {f1 f2 : Option α} {o : α} (hf : np_ck (np_R x ∧ np_R y) (if y < x then f1 else f2) = some o) (kt : y < x → f1 = some o → W p l e R s m args below meth c H locs cells slots Q (F0 m tgt ls rest)) (kf : ¬ (y < x) → f2 = some o → W p l e R s m args below meth c H locs cells slots Q (F0 m (pc + 3) ls rest)) : W p l e R s m args below meth c H locs cells slots Q (F0 m pc ls (.int (np_i y) :: .int (np_i x) :: rest)) := by
  obtain ⟨⟨h1, h2⟩, hf⟩ := np_ck_e hf
  have q := np_lt h2 h1
  refine lv_icmp_gt C.x C.b hdg ht (fun h => ?_) (fun h => ?_)
  · have h9 := q.mp h
    exact kt h9 (by rw [if_pos h9] at hf; exact hf)
  · have h9 : ¬ (y < x) := fun z => h (q.mpr z)
    exact kf h9 (by rw [if_neg h9] at hf; exact hf)
theorem np_if_gt (C : np_Cx gA p R s m args c D cl tys A Ts own cc nL rm) {x : Int} {off : Int} {tgt : Nat} (hdg : decode cc pc = .ok (.ifCond .gt off, 3)) (ht : (pc : Int) + off = (tgt : Int)) {α : Type} {f1 f2 : Option α} {o : α} (hf : np_ck (np_R x) (if 0 < x then f1 else f2) = some o) (kt : 0 < x → f1 = some o → W p l e R s m args below meth c H locs cells slots Q (F0 m tgt ls rest)) (kf : ¬ (0 < x) → f2 = some o → W p l e R s m args below meth c H locs cells slots Q (F0 m (pc + 3) ls rest)) : W p l e R s m args below meth c H locs cells slots Q (F0 m pc ls (.int (np_i x) :: rest)) := by
  obtain ⟨h1, hf⟩ := np_ck_e hf
  have h2 := np_R0
  have q := np_lt h2 h1
  refine lv_if_gt C.x C.b hdg ht (fun h => ?_) (fun h => ?_)
  · have h9 := q.mp h
    exact kt h9 (by rw [if_pos h9] at hf; exact hf)
  · have h9 : ¬ (0 < x) := fun z => h (q.mpr z)
    exact kf h9 (by rw [if_neg h9] at hf; exact hf)
theorem np_icmp_le (C : np_Cx gA p R s m args c D cl tys A Ts own cc nL rm) {x y : Int} {off : Int} {tgt : Nat} (hdg : decode cc pc = .ok (.if_icmp .le off, 3)) (ht : (pc : Int) + off = (tgt : Int)) {α : Type} {f1 f2 : Option α} {o : α} (hf : np_ck (np_R x ∧ np_R y) (if x ≤ y then f1 else f2) = some o) (kt : x ≤ y → f1 = some o → W p l e R s m args below meth c H locs cells slots Q (F0 m tgt ls rest)) (kf : ¬ (x ≤ y) → f2 = some o → W p l e R s m args below meth c H locs cells slots Q (F0 m (pc + 3) ls rest)) : W p l e R s m args below meth c H locs cells slots Q (F0 m pc ls (.int (np_i y) :: .int (np_i x) :: rest)) := by
  obtain ⟨⟨h1, h2⟩, hf⟩ := np_ck_e hf
  have q := np_le h1 h2
  refine lv_icmp_le C.x C.b hdg ht (fun h => ?_) (fun h => ?_)
  · have h9 := q.mp h
    exact kt h9 (by rw [if_pos h9] at hf; exact hf)
  · have h9 : ¬ (x ≤ y) := fun z => h (q.mpr z)
    exact kf h9 (by rw [if_neg h9] at hf; exact hf)
theorem np_if_le (C : np_Cx gA p R s m args c D cl tys A Ts own cc nL rm) {x : Int} {off : Int} {tgt : Nat} (hdg : decode cc pc = .ok (.ifCond .le off, 3)) (ht : (pc : Int) + off = (tgt : Int)) {α : Type} {f1 f2 : Option α} {o : α} (hf : np_ck (np_R x) (if x ≤ 0 then f1 else f2) = some o) (kt : x ≤ 0 → f1 = some o → W p l e R s m args below meth c H locs cells slots Q (F0 m tgt ls rest)) (kf : ¬ (x ≤ 0) → f2 = some o → W p l e R s m args below meth c H locs cells slots Q (F0 m (pc + 3) ls rest)) : W p l e R s m args below meth c H locs cells slots Q (F0 m pc ls (.int (np_i x) :: rest)) := by
  obtain ⟨h1, hf⟩ := np_ck_e hf
  have h2 := np_R0
  have q := np_le h1 h2
  refine lv_if_le C.x C.b hdg ht (fun h => ?_) (fun h => ?_)
  · have h9 := q.mp h
    exact kt h9 (by rw [if_pos h9] at hf; exact hf)
  · have h9 : ¬ (x ≤ 0) := fun z => h (q.mpr z)
    exact kf h9 (by rw [if_neg h9] at hf; exact hf)
theorem np_case {α : Type} {P : Prop} {x k : Int} {f1 f2 : Option α} {o : α} (hf : (if x = k then f1 else f2) = some o) (k1 : x = k → f1 = some o → P) (k2 : ¬ x = k → f2 = some o → P) : P := by
  by_cases h : x = k
  · exact k1 h (by rw [if_pos h] at hf; exact hf)
  · exact k2 h (by rw [if_neg h] at hf; exact hf)
theorem np_tswI (C : np_Cx gA p R s m args c D cl tys A Ts own cc nL rm) {dflt lo hi : Int} {offs : Array Int} {len : Nat} {x k : Int} {off : Int} {tgt : Nat} (hdg : decode cc pc = .ok (.tableswitch dflt lo hi offs, len)) (hx : x = k) (h1 : ¬ (np_i k).toInt < lo) (h2 : ¬ hi < (np_i k).toInt) (ho : offs[((np_i k).toInt - lo).toNat]? = some off) (ht : (pc : Int) + off = (tgt : Int)) (kk : W p l e R s m args below meth c H locs cells slots Q (F0 m tgt ls rest)) : W p l e R s m args below meth c H locs cells slots Q (F0 m pc ls (.int (np_i x) :: rest)) := by
  subst hx
  exact lv_tableIn C.x C.b hdg h1 h2 ho ht kk
theorem np_tswO (C : np_Cx gA p R s m args c D cl tys A Ts own cc nL rm) {dflt lo hi : Int} {offs : Array Int} {len : Nat} {x : Int} {tgt : Nat} (hdg : decode cc pc = .ok (.tableswitch dflt lo hi offs, len)) (hR : np_R x) (h : x < lo ∨ hi < x) (ht : (pc : Int) + dflt = (tgt : Int)) (kk : W p l e R s m args below meth c H locs cells slots Q (F0 m tgt ls rest)) : W p l e R s m args below meth c H locs cells slots Q (F0 m pc ls (.int (np_i x) :: rest)) :=
  lv_tableOut C.x C.b hdg (by rw [np_toInt hR]; exact h) ht kk
theorem np_lswI (C : np_Cx gA p R s m args c D cl tys A Ts own cc nL rm) {dflt : Int} {ps : Array (Int × Int)} {len : Nat} {x k : Int} {off : Int} {tgt : Nat} (hdg : decode cc pc = .ok (.lookupswitch dflt ps, len)) (hx : x = k) (hp : (ps.toList.zip (ps.toList.drop 1)).all (fun (a, next) => a.1 < next.1) = true) (ho : Op.lookupswitch.offset ps.toList dflt (np_i k).toInt = off) (ht : (pc : Int) + off = (tgt : Int)) (kk : W p l e R s m args below meth c H locs cells slots Q (F0 m tgt ls rest)) : W p l e R s m args below meth c H locs cells slots Q (F0 m pc ls (.int (np_i x) :: rest)) := by
  subst hx
  exact lv_lookup C.x C.b hdg hp ho ht kk
theorem np_losw : ∀ (r : List (Int × Int)) (d x : Int), (∀ q ∈ r, ¬ x = q.1) → Op.lookupswitch.offset r d x = d
  | [], d, x, _ => rfl
  | (a, o) :: r, d, x, h => by
    rw [Op.lookupswitch.offset_cons, if_neg (fun q => h (a, o) List.mem_cons_self q.symm)]
    exact np_losw r d x (fun q hq => h q (List.mem_cons_of_mem _ hq))
theorem np_lswO (C : np_Cx gA p R s m args c D cl tys A Ts own cc nL rm) {dflt : Int} {ps : Array (Int × Int)} {len : Nat} {x : Int} {tgt : Nat} (hdg : decode cc pc = .ok (.lookupswitch dflt ps, len)) (hR : np_R x) (hp : (ps.toList.zip (ps.toList.drop 1)).all (fun (a, next) => a.1 < next.1) = true) (h : ∀ q ∈ ps.toList, ¬ x = q.1) (ht : (pc : Int) + dflt = (tgt : Int)) (kk : W p l e R s m args below meth c H locs cells slots Q (F0 m tgt ls rest)) : W p l e R s m args below meth c H locs cells slots Q (F0 m pc ls (.int (np_i x) :: rest)) :=
  lv_lookup C.x C.b hdg hp (by rw [np_toInt hR]; exact np_losw _ _ _ h) ht kk
theorem np_ldc (C : np_Cx gA p R s m args c D cl tys A Ts own cc nL rm) {index : Nat} {v : Int} (hw : Jvm.Cond.constant own index (np_i v) ∈ Ts) (hdg : decode cc pc = .ok (.ldc index, 2)) (k : W p l e R s m args below meth c H locs cells slots Q (F0 m (pc + 2) ls (.int (np_i v) :: rest))) : W p l e R s m args below meth c H locs cells slots Q (F0 m pc ls rest) := lv_ldc C.x C.b C.o (C.t _ hw) hdg k
theorem np_ldc2 (C : np_Cx gA p R s m args c D cl tys A Ts own cc nL rm) {index : Nat} {v : Int} (hw : Jvm.Cond.constantLong own index (np_l v) ∈ Ts) (hdg : decode cc pc = .ok (.ldc2_w index, 3)) (k : W p l e R s m args below meth c H locs cells slots Q (F0 m (pc + 3) ls (.long (np_l v) :: rest))) : W p l e R s m args below meth c H locs cells slots Q (F0 m pc ls rest) := lv_ldc2 C.x C.b C.o (C.t _ hw) hdg k
theorem np_get (C : np_Cx gA p R s m args c D cl tys A Ts own cc nL rm) {ref Cn : String} {T : u_T} {N ci index a : Nat} {ws : va_W} {fs : List Value} {v : Value} (hin : ∀ w ∈ u_ws Cn T N, w ∈ Ts) (hP : va_P D cl ws H) (k : Nat) (he : ws[k]? = some (a, .inr (ci, fs))) (hc : cl[ci]? = some (Cn, T, N)) (j : Nat) (hj : j < N) (hw : Cond.fieldLink own index ref (T j).2.1 (T j).2.2.1 ∈ Ts) (hsame : (T j).1 = ref) (hv : fs[j]? = some v) (hdg : decode cc pc = .ok (.getfield index, 3)) (kk : W p l e R s m args below meth c H locs cells slots Q (F0 m (pc + 3) ls (v :: rest))) : W p l e R s m args below meth c H locs cells slots Q (F0 m pc ls (.ref a :: rest)) :=
  va_get C.x C.b C.t hin C.o C.k hP k he hc j hj (C.t _ hw) (fun x h => hsame ▸ h) hv hdg kk
theorem np_put (C : np_Cx gA p R s m args c D cl tys A Ts own cc nL rm) {ref Cn : String} {T : u_T} {N ci index a : Nat} {fs : List Value} {v : Value} {σ2 : np_S} (hin : ∀ w ∈ u_ws Cn T N, w ∈ Ts) (ty0 : Nat → FieldType) (hty : ∀ k, k < N → parseFieldDescriptor (T k).2.2.1 = some (ty0 k)) (hnm : ∀ a, a < N → ∀ b, b < N → a ≠ b → (T a).2.1 ≠ (T b).2.1) (hat : np_At D cl A wd s σ H locs) (k : Nat) (he : (wd σ)[k]? = some (a, .inr (ci, fs))) (hc : cl[ci]? = some (Cn, T, N)) (j : Nat) (hj : j < N) (hw : Cond.fieldLink own index ref (T j).2.1 (T j).2.2.1 ∈ Ts) (hsame : (T j).1 = ref) (hfin : (T j).2.2.2 = false) {ty : FieldType} (hd : parseFieldDescriptor (T j).2.2.1 = some ty) (hn : narrow ty v = v) (hfit : fits ty v = true) (hl : j < fs.length) (hset : (wd σ).set k (a, .inr (ci, fs.set j v)) = wd σ2) (hdg : decode cc pc = .ok (.putfield index, 3)) (kk : ∀ (H : Heap) (locs : List Loc), np_At D cl A wd s σ2 H locs → W p l e R s m args below meth c H locs cells slots Q (F0 m (pc + 3) ls rest)) : W p l e R s m args below meth c H locs cells slots Q (F0 m pc ls (v :: .ref a :: rest)) :=
  va_put C.x C.b C.t hin ty0 hty hnm C.o C.k hat.1 hat.2.1 hat.2.2 k he hc j hj (C.t _ hw) (fun x h => hsame ▸ h) hfin hd hn hfit hl hdg (fun H1 locs1 h1 h2 h3 => kk H1 locs1 ⟨hset ▸ h1, hset ▸ h2, h3⟩)
theorem np_iaload (C : np_Cx gA p R s m args c D cl tys A Ts own cc nL rm) {ws : va_W} {a n kk0 : Nat} {cA : ClassId} {j : Int} (hP : va_P D cl ws H) (k : Nat) (he : ws[k]? = some (a, .inl (cA, n, .inl (fun i => np_i (σ kk0 i))))) (t : Nat) (ht : tys[t]? = some (cA, .int)) (hn : n < 2147483648) (hdg : decode cc pc = .ok (.iaload, 1)) {α : Type} {f1 : Option α} {o : α} (hf : np_ck (0 ≤ j ∧ j < (n : Int)) f1 = some o) (kk : f1 = some o → W p l e R s m args below meth c H locs cells slots Q (F0 m (pc + 1) ls (.int (np_i (σ kk0 j)) :: rest))) : W p l e R s m args below meth c H locs cells slots Q (F0 m pc ls (.int (np_i j) :: .ref a :: rest)) := by
  obtain ⟨⟨h1, h2⟩, hf⟩ := np_ck_e hf
  refine va_iald C.x C.b C.k hP k t he ht (np_in h1 h2 hn) hdg ?_
  rw [np_clamp h1 ⟨by omega, by omega⟩, Int.toNat_of_nonneg h1]
  exact kk hf
theorem np_baload (C : np_Cx gA p R s m args c D cl tys A Ts own cc nL rm) {ws : va_W} {a n kk0 : Nat} {cA : ClassId} {j : Int} (hP : va_P D cl ws H) (k : Nat) (he : ws[k]? = some (a, .inl (cA, n, .inl (fun i => np_i (σ kk0 i))))) (t : Nat) (ht : tys[t]? = some (cA, .byte)) (hn : n < 2147483648) (hdg : decode cc pc = .ok (.baload, 1)) {α : Type} {f1 : Option α} {o : α} (hf : np_ck (0 ≤ j ∧ j < (n : Int)) f1 = some o) (kk : f1 = some o → W p l e R s m args below meth c H locs cells slots Q (F0 m (pc + 1) ls (.int (np_i (σ kk0 j)) :: rest))) : W p l e R s m args below meth c H locs cells slots Q (F0 m pc ls (.int (np_i j) :: .ref a :: rest)) := by
  obtain ⟨⟨h1, h2⟩, hf⟩ := np_ck_e hf
  refine va_bald C.x C.b C.k hP k t he ht (np_in h1 h2 hn) hdg ?_
  rw [np_clamp h1 ⟨by omega, by omega⟩, Int.toNat_of_nonneg h1]
  exact kk hf
theorem np_zaload (C : np_Cx gA p R s m args c D cl tys A Ts own cc nL rm) {ws : va_W} {a n kk0 : Nat} {cA : ClassId} {j : Int} (hP : va_P D cl ws H) (k : Nat) (he : ws[k]? = some (a, .inl (cA, n, .inl (fun i => np_i (σ kk0 i))))) (t : Nat) (ht : tys[t]? = some (cA, .boolean)) (hn : n < 2147483648) (hdg : decode cc pc = .ok (.baload, 1)) {α : Type} {f1 : Option α} {o : α} (hf : np_ck (0 ≤ j ∧ j < (n : Int)) f1 = some o) (kk : f1 = some o → W p l e R s m args below meth c H locs cells slots Q (F0 m (pc + 1) ls (.int (np_i (σ kk0 j)) :: rest))) : W p l e R s m args below meth c H locs cells slots Q (F0 m pc ls (.int (np_i j) :: .ref a :: rest)) := by
  obtain ⟨⟨h1, h2⟩, hf⟩ := np_ck_e hf
  refine va_zald C.x C.b C.k hP k t he ht (np_in h1 h2 hn) hdg ?_
  rw [np_clamp h1 ⟨by omega, by omega⟩, Int.toNat_of_nonneg h1]
  exact kk hf
theorem np_laload (C : np_Cx gA p R s m args c D cl tys A Ts own cc nL rm) {ws : va_W} {a n kk0 : Nat} {cA : ClassId} {j : Int} (hP : va_P D cl ws H) (k : Nat) (he : ws[k]? = some (a, .inl (cA, n, .inr (.inl (fun i => np_l (σ kk0 i)))))) (t : Nat) (ht : tys[t]? = some (cA, .long)) (hn : n < 2147483648) (hdg : decode cc pc = .ok (.laload, 1)) {α : Type} {f1 : Option α} {o : α} (hf : np_ck (0 ≤ j ∧ j < (n : Int)) f1 = some o) (kk : f1 = some o → W p l e R s m args below meth c H locs cells slots Q (F0 m (pc + 1) ls (.long (np_l (σ kk0 j)) :: rest))) : W p l e R s m args below meth c H locs cells slots Q (F0 m pc ls (.int (np_i j) :: .ref a :: rest)) := by
  obtain ⟨⟨h1, h2⟩, hf⟩ := np_ck_e hf
  refine va_lald C.x C.b C.k hP k t he ht (np_in h1 h2 hn) hdg ?_
  rw [np_clamp h1 ⟨by omega, by omega⟩, Int.toNat_of_nonneg h1]
  exact kk hf
theorem np_updI {f : Int → Int} {j v : Int} (h : 0 ≤ j) (hR : np_R j) : upd (fun i : Nat => np_i (f i)) (np_i j).toNatClampNeg (np_i v) = fun i : Nat => np_i (if (i : Int) = j then v else f i) := by
  funext i
  rw [np_clamp h hR]
  by_cases q : i = j.toNat
  · subst q
    rw [if_pos (by omega)]
    simp [upd]
  · rw [if_neg (by omega)]
    simp [upd, q]
theorem np_updL {f : Int → Int} {j v : Int} (h : 0 ≤ j) (hR : np_R j) : vp_updL (fun i : Nat => np_l (f i)) (np_i j).toNatClampNeg (np_l v) = fun i : Nat => np_l (if (i : Int) = j then v else f i) := by
  funext i
  rw [np_clamp h hR]
  by_cases q : i = j.toNat
  · subst q
    rw [if_pos (by omega)]
    simp [vp_updL]
  · rw [if_neg (by omega)]
    simp [vp_updL, q]
theorem np_iastore (C : np_Cx gA p R s m args c D cl tys A Ts own cc nL rm) {a n kk0 : Nat} {cA : ClassId} {j x : Int} {σ2 : np_S} (hat : np_At D cl A wd s σ H locs) (k : Nat) (he : (wd σ)[k]? = some (a, .inl (cA, n, .inl (fun i => np_i (σ kk0 i))))) (t : Nat) (ht : tys[t]? = some (cA, .int)) (hn : n < 2147483648) (hset : (wd σ).set k (a, .inl (cA, n, .inl (fun i : Nat => np_i (if (i : Int) = j then x else σ kk0 i)))) = wd σ2) (hdg : decode cc pc = .ok (.iastore, 1)) {α : Type} {f1 : Option α} {o : α} (hf : np_ck (0 ≤ j ∧ j < (n : Int)) f1 = some o) (kk : ∀ (H : Heap) (locs : List Loc), np_At D cl A wd s σ2 H locs → f1 = some o → W p l e R s m args below meth c H locs cells slots Q (F0 m (pc + 1) ls rest)) : W p l e R s m args below meth c H locs cells slots Q (F0 m pc ls (.int (np_i x) :: .int (np_i j) :: .ref a :: rest)) := by
  obtain ⟨⟨g1, g2⟩, hf⟩ := np_ck_e hf
  have hR : np_R j := ⟨by omega, by omega⟩
  refine va_iast C.x C.b C.k hat.1 hat.2.1 hat.2.2 k t he ht (np_in g1 g2 hn) hdg (fun H1 locs1 h1 h2 h3 => ?_)
  rw [np_updI g1 hR] at h1 h2
  exact kk H1 locs1 ⟨hset ▸ h1, hset ▸ h2, h3⟩ hf
theorem np_bastore (C : np_Cx gA p R s m args c D cl tys A Ts own cc nL rm) {a n kk0 : Nat} {cA : ClassId} {j x : Int} {σ2 : np_S} (hat : np_At D cl A wd s σ H locs) (k : Nat) (he : (wd σ)[k]? = some (a, .inl (cA, n, .inl (fun i => np_i (σ kk0 i))))) (t : Nat) (ht : tys[t]? = some (cA, .byte)) (hn : n < 2147483648) (hset : (wd σ).set k (a, .inl (cA, n, .inl (fun i : Nat => np_i (if (i : Int) = j then Int.bmod x 256 else σ kk0 i)))) = wd σ2) (hdg : decode cc pc = .ok (.bastore, 1)) {α : Type} {f1 : Option α} {o : α} (hf : np_ck (0 ≤ j ∧ j < (n : Int)) f1 = some o) (kk : ∀ (H : Heap) (locs : List Loc), np_At D cl A wd s σ2 H locs → f1 = some o → W p l e R s m args below meth c H locs cells slots Q (F0 m (pc + 1) ls rest)) : W p l e R s m args below meth c H locs cells slots Q (F0 m pc ls (.int (np_i x) :: .int (np_i j) :: .ref a :: rest)) := by
  obtain ⟨⟨g1, g2⟩, hf⟩ := np_ck_e hf
  have hR : np_R j := ⟨by omega, by omega⟩
  refine va_bast C.x C.b C.k hat.1 hat.2.1 hat.2.2 k t he ht (np_in g1 g2 hn) hdg (fun H1 locs1 h1 h2 h3 => ?_)
  rw [vp_nar_byte, np_byte] at h1 h2; rw [np_updI g1 hR] at h1 h2
  exact kk H1 locs1 ⟨hset ▸ h1, hset ▸ h2, h3⟩ hf
theorem np_lastore (C : np_Cx gA p R s m args c D cl tys A Ts own cc nL rm) {a n kk0 : Nat} {cA : ClassId} {j x : Int} {σ2 : np_S} (hat : np_At D cl A wd s σ H locs) (k : Nat) (he : (wd σ)[k]? = some (a, .inl (cA, n, .inr (.inl (fun i => np_l (σ kk0 i)))))) (t : Nat) (ht : tys[t]? = some (cA, .long)) (hn : n < 2147483648) (hset : (wd σ).set k (a, .inl (cA, n, .inr (.inl (fun i : Nat => np_l (if (i : Int) = j then x else σ kk0 i))))) = wd σ2) (hdg : decode cc pc = .ok (.lastore, 1)) {α : Type} {f1 : Option α} {o : α} (hf : np_ck (0 ≤ j ∧ j < (n : Int)) f1 = some o) (kk : ∀ (H : Heap) (locs : List Loc), np_At D cl A wd s σ2 H locs → f1 = some o → W p l e R s m args below meth c H locs cells slots Q (F0 m (pc + 1) ls rest)) : W p l e R s m args below meth c H locs cells slots Q (F0 m pc ls (.long (np_l x) :: .int (np_i j) :: .ref a :: rest)) := by
  obtain ⟨⟨g1, g2⟩, hf⟩ := np_ck_e hf
  have hR : np_R j := ⟨by omega, by omega⟩
  refine va_last C.x C.b C.k hat.1 hat.2.1 hat.2.2 k t he ht (np_in g1 g2 hn) hdg (fun H1 locs1 h1 h2 h3 => ?_)
  rw [np_updL g1 hR] at h1 h2
  exact kk H1 locs1 ⟨hset ▸ h1, hset ▸ h2, h3⟩ hf
theorem np_zastore (C : np_Cx gA p R s m args c D cl tys A Ts own cc nL rm) {a n kk0 : Nat} {cA : ClassId} {j x : Int} {σ2 : np_S} (hat : np_At D cl A wd s σ H locs) (k : Nat) (he : (wd σ)[k]? = some (a, .inl (cA, n, .inl (fun i => np_i (σ kk0 i))))) (t : Nat) (ht : tys[t]? = some (cA, .boolean)) (hn : n < 2147483648) (hset : (wd σ).set k (a, .inl (cA, n, .inl (fun i : Nat => np_i (if (i : Int) = j then x else σ kk0 i)))) = wd σ2) (hdg : decode cc pc = .ok (.bastore, 1)) {α : Type} {f1 : Option α} {o : α} (hf : np_ck ((0 ≤ j ∧ j < (n : Int)) ∧ (x = 0 ∨ x = 1)) f1 = some o) (kk : ∀ (H : Heap) (locs : List Loc), np_At D cl A wd s σ2 H locs → f1 = some o → W p l e R s m args below meth c H locs cells slots Q (F0 m (pc + 1) ls rest)) : W p l e R s m args below meth c H locs cells slots Q (F0 m pc ls (.int (np_i x) :: .int (np_i j) :: .ref a :: rest)) := by
  obtain ⟨⟨⟨g1, g2⟩, gx⟩, hf⟩ := np_ck_e hf
  have hR : np_R j := ⟨by omega, by omega⟩
  refine va_zast C.x C.b C.k hat.1 hat.2.1 hat.2.2 k t he ht (np_in g1 g2 hn) hdg (fun H1 locs1 h1 h2 h3 => ?_)
  have e : vp_nar .boolean (np_i x) = np_i x := by rcases gx with h | h <;> (subst h; decide +kernel)
  rw [e, np_updI g1 hR] at h1 h2
  exact kk H1 locs1 ⟨hset ▸ h1, hset ▸ h2, h3⟩ hf
theorem np_alen (C : np_Cx gA p R s m args c D cl tys A Ts own cc nL rm) {ws : va_W} {a : Nat} {n : Int} {cA : ClassId} {x : vp_A} {ty : FieldType} (hP : va_P D cl ws H) (k : Nat) (he : ws[k]? = some (a, .inl (cA, x))) (t : Nat) (ht : tys[t]? = some (cA, ty)) (hv : Int32.ofNat x.1 = np_i n) (hdg : decode cc pc = .ok (.arraylength, 1)) (kk : W p l e R s m args below meth c H locs cells slots Q (F0 m (pc + 1) ls (.int (np_i n) :: rest))) : W p l e R s m args below meth c H locs cells slots Q (F0 m pc ls (.ref a :: rest)) :=
  va_alen C.x C.b C.k hP k t he ht hv hdg kk
theorem np_getk (C : np_Cx gA p R s m args c D cl tys A Ts own cc nL rm) {n d : String} {index a : Nat} {v : Value} (hat : np_At D cl A wd s σ H locs) (hE : va_OF "java/lang/String" n d v a A s s.heap) (hw : Cond.fieldLink own index "java/lang/String" n d ∈ Ts) (hdg : decode cc pc = .ok (.getfield index, 3)) (kk : W p l e R s m args below meth c H locs cells slots Q (F0 m (pc + 3) ls (v :: rest))) : W p l e R s m args below meth c H locs cells slots Q (F0 m pc ls (.ref a :: rest)) :=
  vk_getf C.x C.b hE hat.2.2 C.o (C.t _ hw) (fun _ h => h) hdg kk
theorem np_gets (C : np_Cx gA p R s m args c D cl tys A Ts own cc nL rm) {n d cn : String} {index : Nat} {v : Value} (hat : np_At D cl A wd s σ H locs) (hZ : va_Z cn n d v A s s.heap) (hw : Cond.fieldLink own index cn n d ∈ Ts) (hdg : decode cc pc = .ok (.getstatic index, 3)) (kk : W p l e R s m args below meth c H locs cells slots Q (F0 m (pc + 3) ls (v :: rest))) : W p l e R s m args below meth c H locs cells slots Q (F0 m pc ls rest) :=
  va_gets C.x C.b hZ hat.2.2 C.o (C.t _ hw) (fun _ h => h) hdg kk
theorem np_kald (C : np_Cx gA p R s m args c D cl tys A Ts own cc nL rm) {a i n : Nat} {j : Int} {N : Nat} (hat : np_At D cl A wd s σ H locs) (hT : va_T .byte a N (fun j => .int ((np_sb.getD i []).getD j 0)) A s s.heap) (hN : N = n) (hn : n < 2147483648) (hdg : decode cc pc = .ok (.baload, 1)) {α : Type} {f1 : Option α} {o : α} (hf : np_ck (0 ≤ j ∧ j < (n : Int)) f1 = some o) (kk : f1 = some o → W p l e R s m args below meth c H locs cells slots Q (F0 m (pc + 1) ls (.int (np_i (np_kb i j)) :: rest))) : W p l e R s m args below meth c H locs cells slots Q (F0 m pc ls (.int (np_i j) :: .ref a :: rest)) := by
  subst hN
  obtain ⟨⟨h1, h2⟩, hf⟩ := np_ck_e hf
  refine va_tb C.x C.b hT hat.2.2 (np_in h1 h2 hn) rfl hdg ?_
  rw [np_clamp h1 ⟨by omega, by omega⟩]
  have k := kk hf
  unfold np_kb at k
  rw [np_i_toInt] at k
  exact k
theorem np_klen (C : np_Cx gA p R s m args c D cl tys A Ts own cc nL rm) {a N : Nat} {n : Int} {f : Nat → Value} (hat : np_At D cl A wd s σ H locs) (hT : va_T .byte a N f A s s.heap) (hv : Int32.ofNat N = np_i n) (hdg : decode cc pc = .ok (.arraylength, 1)) (kk : W p l e R s m args below meth c H locs cells slots Q (F0 m (pc + 1) ls (.int (np_i n) :: rest))) : W p l e R s m args below meth c H locs cells slots Q (F0 m pc ls (.ref a :: rest)) :=
  va_tlen C.x C.b hT hat.2.2 hv hdg kk
end NPR
end
section
/-- a contract's start: the whole world, holding σ -/
def np_Pre (gA : Nat → Nat) (D : va_G) (cl : List vw_C) (tys : List (ClassId × FieldType)) (wd : np_S → va_W) (σ : np_S) (sz : Nat) : State → Prop := fun U => U.heap.size = sz ∧ va_P D cl (wd σ) U.heap ∧ va_K D cl tys U ∧ va_D (fun _ => True) (wd σ) ∧ np_E gA (va_A (wd σ) sz) U U.heap
def np_B (D : va_G) (cl : List vw_C) (tys : List (ClassId × FieldType)) (A : Nat → Prop) (wd : np_S → va_W) : np_S → State → Prop := fun u t => va_P D cl (wd u) t.heap ∧ va_K D cl tys t ∧ va_D A (wd u)
/-- contracts: where the function fy answers o, the method answers o.1 and leaves the store o.2 -/
def np_Mi (gA : Nat → Nat) (l : Launch) (D : va_G) (cl : List vw_C) (tys : List (ClassId × FieldType)) (wd : np_S → va_W) (y : MethodName) (ws : List Cond) (rm : Room) (avs : List Value) (σ : np_S) (fy : Option np_O) : Prop :=
  ∀ (sz : Nat) (o : np_O), fy = some o → Met l y ws rm (va_Pc avs (np_Pre gA D cl tys wd σ sz)) (va_Qi (fun (r : Int32) (u : np_S) => r = np_i o.1 ∧ u = o.2) (np_B D cl tys (va_A (wd σ) sz) wd) (va_A (wd σ) sz)) 0 0 (va_A (wd σ) sz)
def np_Ml (gA : Nat → Nat) (l : Launch) (D : va_G) (cl : List vw_C) (tys : List (ClassId × FieldType)) (wd : np_S → va_W) (y : MethodName) (ws : List Cond) (rm : Room) (avs : List Value) (σ : np_S) (fy : Option np_O) : Prop :=
  ∀ (sz : Nat) (o : np_O), fy = some o → Met l y ws rm (va_Pc avs (np_Pre gA D cl tys wd σ sz)) (va_Ql (fun (r : Int64) (u : np_S) => r = np_l o.1 ∧ u = o.2) (np_B D cl tys (va_A (wd σ) sz) wd) (va_A (wd σ) sz)) 0 0 (va_A (wd σ) sz)
def np_Mv (gA : Nat → Nat) (l : Launch) (D : va_G) (cl : List vw_C) (tys : List (ClassId × FieldType)) (wd : np_S → va_W) (y : MethodName) (ws : List Cond) (rm : Room) (avs : List Value) (σ : np_S) (fy : Option np_O) : Prop :=
  ∀ (sz : Nat) (o : np_O), fy = some o → Met l y ws rm (va_Pc avs (np_Pre gA D cl tys wd σ sz)) (va_Qv (fun (u : np_S) => u = o.2) (np_B D cl tys (va_A (wd σ) sz) wd) (va_A (wd σ) sz)) 0 0 (va_A (wd σ) sz)
abbrev np_good (AL : List Cond) : Prop := ∀ w ∈ AL, (w.onTables && w.keeps) = true ∨ ∃ ty, w = .arrayClass ty
theorem np_goodIn {AL ws : List Cond} (hall : np_good AL) (h : ∀ w ∈ ws, w ∈ AL) : GoodIn AL ws := fun w hw => ⟨h w hw, hall w (h w hw)⟩
theorem np_blind {gA : Nat → Nat} {D : va_G} {cl : List vw_C} {tys : List (ClassId × FieldType)} {wd : np_S → va_W} {σ : np_S} {sz : Nat} {avs : List Value} : FrameBlind (va_Pc avs (np_Pre gA D cl tys wd σ sz)) := by
  intro a U g mk q
  obtain ⟨q0, q1, qP, qK, qD, qE⟩ := q
  exact ⟨q0, q1, qP, va_K.moved (u := U) (U := U.calling g mk a) (Vm.Alike.refl U.vm) qK, qD, np_E.same (u := U) rfl qE⟩
theorem np_noSt {D : va_G} {cl : List vw_C} {ws : va_W} {H : Heap} (hP : va_P D cl ws H) : ∀ (a : Nat) (cell : Cell), va_A ws H.size a → H[a]? = some cell → cell.vm.isStatics = false := by
  intro a cell hA hc
  rcases hA with ⟨k, e, hk⟩ | h
  · have h1 := hP k _ hk
    cases e with
    | inl x =>
      have h2 : H[a]? = some (vp_cell x.1 x.2) := h1
      cases h2.symm.trans hc
      obtain ⟨cA, n, f | f | f | f | f⟩ := x <;> rfl
    | inr x =>
      obtain ⟨r, -, cell2, q1, q2, q3, -⟩ := h1
      cases q1.symm.trans hc
      rw [q3]; rfl
  · have h2 := (Array.getElem?_eq_some_iff.mp hc).1
    omega
section NPC
variable {p : Program} {l : Launch} {e : Env} {R : Room} {s : State} {m : MethodId} {args : Array Value} {below : List Frame} {meth : Method} {c : Code} {H : Heap} {locs : List Loc} {cells slots : Nat} {Q : State → Prop}
variable {cc : ByteArray} {pc : Nat} {ls : Array Slot} {rest : List Value} {D : va_G} {cl : List vw_C} {tys : List (ClassId × FieldType)} {A : Nat → Prop} {Ts : List Cond} {own : String} {nL : Nat} {rm : Room} {wd : np_S → va_W} {σ : np_S} {gA : Nat → Nat}
theorem np_freeA (C : np_Cx gA p R s m args c D cl tys A Ts own cc nL rm) (hat : np_At D cl A wd s σ H locs) : ∀ q, va_A (wd σ) H.size q → A q := by
  intro q h
  rcases h with ⟨k, e, h⟩ | h
  · exact hat.2.1.2 k _ h
  · exact C.a q (Nat.le_trans hat.2.2.1 h)
theorem np_preU (C : np_Cx gA p R s m args c D cl tys A Ts own cc nL rm) (hat : np_At D cl A wd s σ H locs) {avs : List Value} : ∀ U : State, U.heap = H → s.WarmedH U.vm → va_Pc avs (np_Pre gA D cl tys wd σ H.size) avs.toArray U := fun U hU hW => ⟨rfl, by rw [hU], by rw [hU]; exact hat.1, va_K.moved hW.alike C.k, hat.2.1.weaken (fun _ _ _ _ => trivial), by rw [hU]; exact ((C.en.kept hat.2.2.2.1).narrow (np_freeA C hat)).warm hW⟩
theorem np_callVi (C : np_Cx gA p R s m args c D cl tys A Ts own cc nL rm) {y : MethodName} {bytes : ByteArray} {maxL index : Nat} {nA : Nat} {ret : Option FieldType} {rmy : Room} {As st : List Value} {a : Nat} {fy : Option np_O} (hM : np_Mi gA l D cl tys wd y (.code y bytes maxL ret :: Ts) rmy (.ref a :: As) σ fy) (hall : np_good Ts) (w1 : .methodLink own index y ∈ Ts) (w2 : .instanceMethod y ∈ Ts) (w3 : .selects y.cls y y ∈ Ts) (w4 : .initialized y.cls ∈ Ts) (w5 : .code y bytes maxL ret ∈ Ts) (hd : y.cls ≠ "java/lang/invoke/MethodHandle" ∧ y.cls ≠ "java/lang/invoke/VarHandle" ∧ (parseMethodDescriptor y.desc).map (fun d => d.parameters.length) = some nA) (hnA : As.length = nA) (hR : rmy.cells = 0 ∧ rmy.slots = 0 ∧ rmy.frames + 1 ≤ rm.frames ∧ 8 + (maxL + 11) + rmy.locals ≤ rm.locals) (hrecv : ∃ cell : Cell, H[a]? = some cell ∧ cell.vm.isStatics = false ∧ s.vm.findClass y.cls = some cell.cls) (hat : np_At D cl A wd s σ H locs) (hst : st = As.reverse ++ .ref a :: rest) (hls : ls.size = nL) (hrest : (rest.map fun v => v.category).sum ≤ 8) (hdg : decode cc pc = .ok (.invokevirtual index, 3)) {α : Type} {k : np_O → Option α} {o : α} (hf : fy.bind k = some o)
    (kk : ∀ (r : np_O) (H : Heap) (locs : List Loc), k r = some o → np_At D cl A wd s r.2 H locs → W p l e R s m args below meth c H locs 0 0 Q (F0 m (pc + 3) ls (.int (np_i r.1) :: rest))) : W p l e R s m args below meth c H locs 0 0 Q (F0 m pc ls st) := by
  obtain ⟨r, hfy, hfk⟩ := Option.bind_eq_some_iff.mp hf
  have hFc := np_freeA C hat
  subst hst
  have hRR : rmy.frames + 1 ≤ R.frames ∧ 8 + (maxL + 11) + rmy.locals ≤ R.locals := by rw [C.r]; exact hR.2.2
  have hG : ∀ w ∈ (.code y bytes maxL ret :: Ts), w ∈ Ts := fun w hw => by
    rcases List.mem_cons.mp hw with rfl | hw
    · exact w5
    · exact hw
  refine va_calli (va_runV (As := As) (rest := rest) C.1 (hM H.size r hfy) ⟨callB_of nA C.t (np_goodIn hall hG) rfl hR.1 hR.2.1 (C.t _ w4) (C.t _ w1) hd hRR, C.t _ w2, C.t _ w3⟩ ⟨np_blind, hrecv, np_preU C hat⟩ rfl hnA hls rfl (lv_room hrest) hdg ⟨Nat.zero_le _, Nat.zero_le _⟩) hat.2.2 (fun q _ h => hFc q h) hFc (fun r1 u t H1 locs ht hvm hw hB hz1 hk1 hS => ?_)
  obtain ⟨rfl, rfl⟩ := hw
  obtain ⟨hP1, hK1, hD1⟩ := hB
  rw [ht] at hP1
  exact kk r H1 locs hfk ⟨hP1, hD1.weaken (fun _ _ _ h => hFc _ h), hS⟩
theorem np_callSi (C : np_Cx gA p R s m args c D cl tys A Ts own cc nL rm) {y : MethodName} {bytes : ByteArray} {maxL index : Nat} {nA : Nat} {ret : Option FieldType} {rmy : Room} {As st : List Value} {fy : Option np_O} (hM : np_Mi gA l D cl tys wd y (.code y bytes maxL ret :: Ts) rmy As σ fy) (hall : np_good Ts) (w1 : .methodLink own index y ∈ Ts) (w2 : .static y ∈ Ts) (w4 : .initialized y.cls ∈ Ts) (w5 : .code y bytes maxL ret ∈ Ts) (hd : y.cls ≠ "java/lang/invoke/MethodHandle" ∧ y.cls ≠ "java/lang/invoke/VarHandle" ∧ (parseMethodDescriptor y.desc).map (fun d => d.parameters.length) = some nA) (hnA : As.length = nA) (hR : rmy.cells = 0 ∧ rmy.slots = 0 ∧ rmy.frames + 1 ≤ rm.frames ∧ 8 + (maxL + 11) + rmy.locals ≤ rm.locals) (hat : np_At D cl A wd s σ H locs) (hst : st = As.reverse ++ rest) (hls : ls.size = nL) (hrest : (rest.map fun v => v.category).sum ≤ 8) (hdg : decode cc pc = .ok (.invokestatic index, 3)) {α : Type} {k : np_O → Option α} {o : α} (hf : fy.bind k = some o)
    (kk : ∀ (r : np_O) (H : Heap) (locs : List Loc), k r = some o → np_At D cl A wd s r.2 H locs → W p l e R s m args below meth c H locs 0 0 Q (F0 m (pc + 3) ls (.int (np_i r.1) :: rest))) : W p l e R s m args below meth c H locs 0 0 Q (F0 m pc ls st) := by
  obtain ⟨r, hfy, hfk⟩ := Option.bind_eq_some_iff.mp hf
  have hFc := np_freeA C hat
  subst hst
  have hRR : rmy.frames + 1 ≤ R.frames ∧ 8 + (maxL + 11) + rmy.locals ≤ R.locals := by rw [C.r]; exact hR.2.2
  have hG : ∀ w ∈ (.code y bytes maxL ret :: Ts), w ∈ Ts := fun w hw => by
    rcases List.mem_cons.mp hw with rfl | hw
    · exact w5
    · exact hw
  refine va_calli (va_runS (As := As) (rest := rest) C.1 (hM H.size r hfy) ⟨callB_of nA C.t (np_goodIn hall hG) rfl hR.1 hR.2.1 (C.t _ w4) (C.t _ w1) hd hRR, C.t _ w2⟩ ⟨np_blind, np_preU C hat⟩ rfl hnA hls rfl (lv_room hrest) hdg ⟨Nat.zero_le _, Nat.zero_le _⟩) hat.2.2 (fun q _ h => hFc q h) hFc (fun r1 u t H1 locs ht hvm hw hB hz1 hk1 hS => ?_)
  obtain ⟨rfl, rfl⟩ := hw
  obtain ⟨hP1, hK1, hD1⟩ := hB
  rw [ht] at hP1
  exact kk r H1 locs hfk ⟨hP1, hD1.weaken (fun _ _ _ h => hFc _ h), hS⟩
theorem np_callVl (C : np_Cx gA p R s m args c D cl tys A Ts own cc nL rm) {y : MethodName} {bytes : ByteArray} {maxL index : Nat} {nA : Nat} {ret : Option FieldType} {rmy : Room} {As st : List Value} {a : Nat} {fy : Option np_O} (hM : np_Ml gA l D cl tys wd y (.code y bytes maxL ret :: Ts) rmy (.ref a :: As) σ fy) (hall : np_good Ts) (w1 : .methodLink own index y ∈ Ts) (w2 : .instanceMethod y ∈ Ts) (w3 : .selects y.cls y y ∈ Ts) (w4 : .initialized y.cls ∈ Ts) (w5 : .code y bytes maxL ret ∈ Ts) (hd : y.cls ≠ "java/lang/invoke/MethodHandle" ∧ y.cls ≠ "java/lang/invoke/VarHandle" ∧ (parseMethodDescriptor y.desc).map (fun d => d.parameters.length) = some nA) (hnA : As.length = nA) (hR : rmy.cells = 0 ∧ rmy.slots = 0 ∧ rmy.frames + 1 ≤ rm.frames ∧ 8 + (maxL + 11) + rmy.locals ≤ rm.locals) (hrecv : ∃ cell : Cell, H[a]? = some cell ∧ cell.vm.isStatics = false ∧ s.vm.findClass y.cls = some cell.cls) (hat : np_At D cl A wd s σ H locs) (hst : st = As.reverse ++ .ref a :: rest) (hls : ls.size = nL) (hrest : (rest.map fun v => v.category).sum ≤ 8) (hdg : decode cc pc = .ok (.invokevirtual index, 3)) {α : Type} {k : np_O → Option α} {o : α} (hf : fy.bind k = some o)
    (kk : ∀ (r : np_O) (H : Heap) (locs : List Loc), k r = some o → np_At D cl A wd s r.2 H locs → W p l e R s m args below meth c H locs 0 0 Q (F0 m (pc + 3) ls (.long (np_l r.1) :: rest))) : W p l e R s m args below meth c H locs 0 0 Q (F0 m pc ls st) := by
  obtain ⟨r, hfy, hfk⟩ := Option.bind_eq_some_iff.mp hf
  have hFc := np_freeA C hat
  subst hst
  have hRR : rmy.frames + 1 ≤ R.frames ∧ 8 + (maxL + 11) + rmy.locals ≤ R.locals := by rw [C.r]; exact hR.2.2
  have hG : ∀ w ∈ (.code y bytes maxL ret :: Ts), w ∈ Ts := fun w hw => by
    rcases List.mem_cons.mp hw with rfl | hw
    · exact w5
    · exact hw
  refine va_calll (va_runV (As := As) (rest := rest) C.1 (hM H.size r hfy) ⟨callB_of nA C.t (np_goodIn hall hG) rfl hR.1 hR.2.1 (C.t _ w4) (C.t _ w1) hd hRR, C.t _ w2, C.t _ w3⟩ ⟨np_blind, hrecv, np_preU C hat⟩ rfl hnA hls rfl (lv_room hrest) hdg ⟨Nat.zero_le _, Nat.zero_le _⟩) hat.2.2 (fun q _ h => hFc q h) hFc (fun r1 u t H1 locs ht hvm hw hB hz1 hk1 hS => ?_)
  obtain ⟨rfl, rfl⟩ := hw
  obtain ⟨hP1, hK1, hD1⟩ := hB
  rw [ht] at hP1
  exact kk r H1 locs hfk ⟨hP1, hD1.weaken (fun _ _ _ h => hFc _ h), hS⟩
theorem np_callSl (C : np_Cx gA p R s m args c D cl tys A Ts own cc nL rm) {y : MethodName} {bytes : ByteArray} {maxL index : Nat} {nA : Nat} {ret : Option FieldType} {rmy : Room} {As st : List Value} {fy : Option np_O} (hM : np_Ml gA l D cl tys wd y (.code y bytes maxL ret :: Ts) rmy As σ fy) (hall : np_good Ts) (w1 : .methodLink own index y ∈ Ts) (w2 : .static y ∈ Ts) (w4 : .initialized y.cls ∈ Ts) (w5 : .code y bytes maxL ret ∈ Ts) (hd : y.cls ≠ "java/lang/invoke/MethodHandle" ∧ y.cls ≠ "java/lang/invoke/VarHandle" ∧ (parseMethodDescriptor y.desc).map (fun d => d.parameters.length) = some nA) (hnA : As.length = nA) (hR : rmy.cells = 0 ∧ rmy.slots = 0 ∧ rmy.frames + 1 ≤ rm.frames ∧ 8 + (maxL + 11) + rmy.locals ≤ rm.locals) (hat : np_At D cl A wd s σ H locs) (hst : st = As.reverse ++ rest) (hls : ls.size = nL) (hrest : (rest.map fun v => v.category).sum ≤ 8) (hdg : decode cc pc = .ok (.invokestatic index, 3)) {α : Type} {k : np_O → Option α} {o : α} (hf : fy.bind k = some o)
    (kk : ∀ (r : np_O) (H : Heap) (locs : List Loc), k r = some o → np_At D cl A wd s r.2 H locs → W p l e R s m args below meth c H locs 0 0 Q (F0 m (pc + 3) ls (.long (np_l r.1) :: rest))) : W p l e R s m args below meth c H locs 0 0 Q (F0 m pc ls st) := by
  obtain ⟨r, hfy, hfk⟩ := Option.bind_eq_some_iff.mp hf
  have hFc := np_freeA C hat
  subst hst
  have hRR : rmy.frames + 1 ≤ R.frames ∧ 8 + (maxL + 11) + rmy.locals ≤ R.locals := by rw [C.r]; exact hR.2.2
  have hG : ∀ w ∈ (.code y bytes maxL ret :: Ts), w ∈ Ts := fun w hw => by
    rcases List.mem_cons.mp hw with rfl | hw
    · exact w5
    · exact hw
  refine va_calll (va_runS (As := As) (rest := rest) C.1 (hM H.size r hfy) ⟨callB_of nA C.t (np_goodIn hall hG) rfl hR.1 hR.2.1 (C.t _ w4) (C.t _ w1) hd hRR, C.t _ w2⟩ ⟨np_blind, np_preU C hat⟩ rfl hnA hls rfl (lv_room hrest) hdg ⟨Nat.zero_le _, Nat.zero_le _⟩) hat.2.2 (fun q _ h => hFc q h) hFc (fun r1 u t H1 locs ht hvm hw hB hz1 hk1 hS => ?_)
  obtain ⟨rfl, rfl⟩ := hw
  obtain ⟨hP1, hK1, hD1⟩ := hB
  rw [ht] at hP1
  exact kk r H1 locs hfk ⟨hP1, hD1.weaken (fun _ _ _ h => hFc _ h), hS⟩
theorem np_callVv (C : np_Cx gA p R s m args c D cl tys A Ts own cc nL rm) {y : MethodName} {bytes : ByteArray} {maxL index : Nat} {nA : Nat} {ret : Option FieldType} {rmy : Room} {As st : List Value} {a : Nat} {fy : Option np_O} (hM : np_Mv gA l D cl tys wd y (.code y bytes maxL ret :: Ts) rmy (.ref a :: As) σ fy) (hall : np_good Ts) (w1 : .methodLink own index y ∈ Ts) (w2 : .instanceMethod y ∈ Ts) (w3 : .selects y.cls y y ∈ Ts) (w4 : .initialized y.cls ∈ Ts) (w5 : .code y bytes maxL ret ∈ Ts) (hd : y.cls ≠ "java/lang/invoke/MethodHandle" ∧ y.cls ≠ "java/lang/invoke/VarHandle" ∧ (parseMethodDescriptor y.desc).map (fun d => d.parameters.length) = some nA) (hnA : As.length = nA) (hR : rmy.cells = 0 ∧ rmy.slots = 0 ∧ rmy.frames + 1 ≤ rm.frames ∧ 8 + (maxL + 11) + rmy.locals ≤ rm.locals) (hrecv : ∃ cell : Cell, H[a]? = some cell ∧ cell.vm.isStatics = false ∧ s.vm.findClass y.cls = some cell.cls) (hat : np_At D cl A wd s σ H locs) (hst : st = As.reverse ++ .ref a :: rest) (hls : ls.size = nL) (hrest : (rest.map fun v => v.category).sum ≤ 8) (hdg : decode cc pc = .ok (.invokevirtual index, 3)) {α : Type} {k : np_O → Option α} {o : α} (hf : fy.bind k = some o)
    (kk : ∀ (r : np_O) (H : Heap) (locs : List Loc), k r = some o → np_At D cl A wd s r.2 H locs → W p l e R s m args below meth c H locs 0 0 Q (F0 m (pc + 3) ls (rest))) : W p l e R s m args below meth c H locs 0 0 Q (F0 m pc ls st) := by
  obtain ⟨r, hfy, hfk⟩ := Option.bind_eq_some_iff.mp hf
  have hFc := np_freeA C hat
  subst hst
  have hRR : rmy.frames + 1 ≤ R.frames ∧ 8 + (maxL + 11) + rmy.locals ≤ R.locals := by rw [C.r]; exact hR.2.2
  have hG : ∀ w ∈ (.code y bytes maxL ret :: Ts), w ∈ Ts := fun w hw => by
    rcases List.mem_cons.mp hw with rfl | hw
    · exact w5
    · exact hw
  refine va_callv (va_runV (As := As) (rest := rest) C.1 (hM H.size r hfy) ⟨callB_of nA C.t (np_goodIn hall hG) rfl hR.1 hR.2.1 (C.t _ w4) (C.t _ w1) hd hRR, C.t _ w2, C.t _ w3⟩ ⟨np_blind, hrecv, np_preU C hat⟩ rfl hnA hls rfl (lv_room hrest) hdg ⟨Nat.zero_le _, Nat.zero_le _⟩) hat.2.2 (fun q _ h => hFc q h) hFc (fun u t H1 locs ht hvm hw hB hz1 hk1 hS => ?_)
  subst hw
  obtain ⟨hP1, hK1, hD1⟩ := hB
  rw [ht] at hP1
  exact kk r H1 locs hfk ⟨hP1, hD1.weaken (fun _ _ _ h => hFc _ h), hS⟩
theorem np_callSv (C : np_Cx gA p R s m args c D cl tys A Ts own cc nL rm) {y : MethodName} {bytes : ByteArray} {maxL index : Nat} {nA : Nat} {ret : Option FieldType} {rmy : Room} {As st : List Value} {fy : Option np_O} (hM : np_Mv gA l D cl tys wd y (.code y bytes maxL ret :: Ts) rmy As σ fy) (hall : np_good Ts) (w1 : .methodLink own index y ∈ Ts) (w2 : .static y ∈ Ts) (w4 : .initialized y.cls ∈ Ts) (w5 : .code y bytes maxL ret ∈ Ts) (hd : y.cls ≠ "java/lang/invoke/MethodHandle" ∧ y.cls ≠ "java/lang/invoke/VarHandle" ∧ (parseMethodDescriptor y.desc).map (fun d => d.parameters.length) = some nA) (hnA : As.length = nA) (hR : rmy.cells = 0 ∧ rmy.slots = 0 ∧ rmy.frames + 1 ≤ rm.frames ∧ 8 + (maxL + 11) + rmy.locals ≤ rm.locals) (hat : np_At D cl A wd s σ H locs) (hst : st = As.reverse ++ rest) (hls : ls.size = nL) (hrest : (rest.map fun v => v.category).sum ≤ 8) (hdg : decode cc pc = .ok (.invokestatic index, 3)) {α : Type} {k : np_O → Option α} {o : α} (hf : fy.bind k = some o)
    (kk : ∀ (r : np_O) (H : Heap) (locs : List Loc), k r = some o → np_At D cl A wd s r.2 H locs → W p l e R s m args below meth c H locs 0 0 Q (F0 m (pc + 3) ls (rest))) : W p l e R s m args below meth c H locs 0 0 Q (F0 m pc ls st) := by
  obtain ⟨r, hfy, hfk⟩ := Option.bind_eq_some_iff.mp hf
  have hFc := np_freeA C hat
  subst hst
  have hRR : rmy.frames + 1 ≤ R.frames ∧ 8 + (maxL + 11) + rmy.locals ≤ R.locals := by rw [C.r]; exact hR.2.2
  have hG : ∀ w ∈ (.code y bytes maxL ret :: Ts), w ∈ Ts := fun w hw => by
    rcases List.mem_cons.mp hw with rfl | hw
    · exact w5
    · exact hw
  refine va_callv (va_runS (As := As) (rest := rest) C.1 (hM H.size r hfy) ⟨callB_of nA C.t (np_goodIn hall hG) rfl hR.1 hR.2.1 (C.t _ w4) (C.t _ w1) hd hRR, C.t _ w2⟩ ⟨np_blind, np_preU C hat⟩ rfl hnA hls rfl (lv_room hrest) hdg ⟨Nat.zero_le _, Nat.zero_le _⟩) hat.2.2 (fun q _ h => hFc q h) hFc (fun u t H1 locs ht hvm hw hB hz1 hk1 hS => ?_)
  subst hw
  obtain ⟨hP1, hK1, hD1⟩ := hB
  rw [ht] at hP1
  exact kk r H1 locs hfk ⟨hP1, hD1.weaken (fun _ _ _ h => hFc _ h), hS⟩
theorem np_mmin (C : np_Cx gA p R s m args c D cl tys A Ts own cc nL rm) {index : Nat} {x y : Int} (w1 : .methodLink own index Lib.Math.min.name ∈ Ts) (w2 : .static Lib.Math.min.name ∈ Ts) (w3 : .initialized "java/lang/Math" ∈ Ts) (w4 : .code Lib.Math.min.name Lib.Math.min.code 2 (some .int) ∈ Ts) (hfr : 1 ≤ rm.frames) (hlo : (rest.map fun v => v.category).sum + 13 ≤ rm.locals) (hls : ls.size = nL) (hdg : decode cc pc = .ok (.invokestatic index, 3)) {α : Type} {f1 : Option α} {o : α} (hf : np_ck (np_R x ∧ np_R y) f1 = some o) (kk : f1 = some o → W p l e R s m args below meth c H locs 0 0 Q (F0 m (pc + 3) ls (.int (np_i (np_min x y)) :: rest))) : W p l e R s m args below meth c H locs 0 0 Q (F0 m pc ls (.int (np_i y) :: .int (np_i x) :: rest)) := by
  obtain ⟨⟨h1, h2⟩, hf⟩ := np_ck_e hf
  have hr := C.r
  refine va_mmin C.x C.b (C.ml.trans hls.symm) C.o (C.t _ w1) (C.t _ w2) (C.t _ w3) (C.t _ w4) (by rw [hr]; exact hfr) (by rw [hr]; exact hlo) (Nat.zero_le _) (Nat.zero_le _) hdg ?_
  have e : (if np_i y < np_i x then np_i y else np_i x) = np_i (np_min x y) := by
    unfold np_min
    by_cases a : y < x
    · rw [if_pos ((np_lt h2 h1).mpr a), if_pos a]
    · rw [if_neg (fun q => a ((np_lt h2 h1).mp q)), if_neg a]
  rw [e]
  exact kk hf
theorem np_mmax (C : np_Cx gA p R s m args c D cl tys A Ts own cc nL rm) {index : Nat} {x y : Int} (w1 : .methodLink own index Lib.Math.max.name ∈ Ts) (w2 : .static Lib.Math.max.name ∈ Ts) (w3 : .initialized "java/lang/Math" ∈ Ts) (w4 : .code Lib.Math.max.name Lib.Math.max.code 2 (some .int) ∈ Ts) (hfr : 1 ≤ rm.frames) (hlo : (rest.map fun v => v.category).sum + 13 ≤ rm.locals) (hls : ls.size = nL) (hdg : decode cc pc = .ok (.invokestatic index, 3)) {α : Type} {f1 : Option α} {o : α} (hf : np_ck (np_R x ∧ np_R y) f1 = some o) (kk : f1 = some o → W p l e R s m args below meth c H locs 0 0 Q (F0 m (pc + 3) ls (.int (np_i (np_max x y)) :: rest))) : W p l e R s m args below meth c H locs 0 0 Q (F0 m pc ls (.int (np_i y) :: .int (np_i x) :: rest)) := by
  obtain ⟨⟨h1, h2⟩, hf⟩ := np_ck_e hf
  have hr := C.r
  refine va_mmax C.x C.b (C.ml.trans hls.symm) C.o (C.t _ w1) (C.t _ w2) (C.t _ w3) (C.t _ w4) (by rw [hr]; exact hfr) (by rw [hr]; exact hlo) (Nat.zero_le _) (Nat.zero_le _) hdg ?_
  have e : (if np_i x < np_i y then np_i y else np_i x) = np_i (np_max x y) := by
    unfold np_max
    by_cases a : x < y
    · rw [if_pos ((np_lt h1 h2).mpr a), if_pos a]
    · rw [if_neg (fun q => a ((np_lt h1 h2).mp q)), if_neg a]
  rw [e]
  exact kk hf
theorem np_mmin_l (C : np_Cx gA p R s m args c D cl tys A Ts own cc nL rm) {index : Nat} {x y : Int} (w1 : .methodLink own index Lib.MathLoose.min_long.x ∈ Ts) (w2 : .static Lib.MathLoose.min_long.x ∈ Ts) (w3 : .initialized "java/lang/Math" ∈ Ts) (w4 : .code Lib.MathLoose.min_long.x Lib.MathLoose.min_long.code 4 (some .long) ∈ Ts) (hfr : 1 ≤ rm.frames) (hlo : (rest.map fun v => v.category).sum + 15 ≤ rm.locals) (hls : ls.size = nL) (hdg : decode cc pc = .ok (.invokestatic index, 3)) {α : Type} {f1 : Option α} {o : α} (hf : np_ck (np_R6 x ∧ np_R6 y) f1 = some o) (kk : f1 = some o → W p l e R s m args below meth c H locs 0 0 Q (F0 m (pc + 3) ls (.long (np_l (np_min x y)) :: rest))) : W p l e R s m args below meth c H locs 0 0 Q (F0 m pc ls (.long (np_l y) :: .long (np_l x) :: rest)) := by
  obtain ⟨⟨h1, h2⟩, hf⟩ := np_ck_e hf
  have hr := C.r
  refine va_mmin_long C.x C.b (C.ml.trans hls.symm) C.o (C.t _ w1) (C.t _ w2) (C.t _ w3) (C.t _ w4) (by rw [hr]; exact hfr) (by rw [hr]; exact hlo) (Nat.zero_le _) (Nat.zero_le _) hdg ?_
  have e : (if np_l y < np_l x then np_l y else np_l x) = np_l (np_min x y) := by
    unfold np_min
    by_cases a : y < x
    · rw [if_pos ((np_lt6 h2 h1).mpr a), if_pos a]
    · rw [if_neg (fun q => a ((np_lt6 h2 h1).mp q)), if_neg a]
  rw [e]
  exact kk hf
end NPC
theorem np_mki {gA : Nat → Nat} {l : Launch} {D : va_G} {cl : List vw_C} {tys : List (ClassId × FieldType)} {wd : np_S → va_W} {y : MethodName} {cc : ByteArray} {nL : Nat} {AL : List Cond} {rm : Room} {avs : List Value} {σ : np_S} {fy : Option np_O} (hy : plainName y.cls = true) (hlen : (lg_sl avs).length ≤ nL)
    (body : ∀ (o : np_O) (p : Program) (e : Env) (R : Room) (s : State) (m : MethodId) (args : Array Value) (below : List Frame) (meth : Method) (c : Code) (Q : State → Prop) (A : Nat → Prop) (ls : Array Slot), fy = some o → np_Cx gA p R s m args c D cl tys A AL y.cls cc nL rm →
      (∀ (pc : Nat) (ls : Array Slot) (H : Heap) (locs : List Loc) (v : Int) {σ2 : np_S}, decode cc pc = .ok (.ireturn, 1) → some (v, σ2) = some o → np_At D cl A wd s σ2 H locs → W p l e R s m args below meth c H locs 0 0 Q (F0 m pc ls [.int (np_i v)])) →
      np_At D cl A wd s σ s.heap [] → lv_has ls nL (lv_args 0 avs) → W p l e R s m args below meth c s.heap [] 0 0 Q (F0 m 0 ls [])) : np_Mi gA l D cl tys wd y (.code y cc nL (some .int) :: AL) rm avs σ fy := by
  intro sz o hfy
  refine Met.ofW (cc := cc) (maxL := nL) (ret := (some .int)) hy rfl ?_
  intro p e s m args below meth c s₁ B hml hv
  obtain ⟨rfl, hsz, hP, hK, hD0, hE⟩ := hv
  subst hsz
  have hts := atoms_spec (ws := .code y cc nL (some .int) :: AL) B.pre
  have hown : s.vm.findClass y.cls = some m.cls := findClass_of_methodNamed B.named
  have hlocks := B.notSynchronized
  rw [lg_entry_eq]
  have hC : np_Cx gA p (headSpec (.code y cc nL (some .int) :: AL) rm).room s m avs.toArray c D cl tys (va_A (wd σ) s.heap.size) AL y.cls cc nL rm := ⟨⟨B.exec, B.bytes, hml, hown, fun w hw => hts w (List.mem_cons_of_mem _ hw)⟩, hK, fun a h => Or.inr h, rfl, hE, np_noSt hP⟩
  refine body o p e _ s m _ below meth c _ (va_A (wd σ) s.heap.size) _ hfy hC (fun pc ls H locs v σ2 hdg ho hat => ?_) ⟨hP, hD0.self, va_S.rf⟩ (lv_entry avs hlen)
  have ho := Option.some.inj ho
  subst ho
  exact W.iret (v := np_i v) hC.x hC.b B.returns (fun t ht hW => ⟨⟨np_i v, σ2, rfl, ⟨rfl, rfl⟩, by rw [ht]; exact hat.1, va_K.moved hW.alike hK, hat.2.1⟩, hat.2.2.F ht⟩) hat.2.2.2.2 hdg hlocks
theorem np_mkz {gA : Nat → Nat} {l : Launch} {D : va_G} {cl : List vw_C} {tys : List (ClassId × FieldType)} {wd : np_S → va_W} {y : MethodName} {cc : ByteArray} {nL : Nat} {AL : List Cond} {rm : Room} {avs : List Value} {σ : np_S} {fy : Option np_O} (hy : plainName y.cls = true) (hlen : (lg_sl avs).length ≤ nL)
    (body : ∀ (o : np_O) (p : Program) (e : Env) (R : Room) (s : State) (m : MethodId) (args : Array Value) (below : List Frame) (meth : Method) (c : Code) (Q : State → Prop) (A : Nat → Prop) (ls : Array Slot), fy = some o → np_Cx gA p R s m args c D cl tys A AL y.cls cc nL rm →
      (∀ (pc : Nat) (ls : Array Slot) (H : Heap) (locs : List Loc) (v : Int) {σ2 : np_S}, decode cc pc = .ok (.ireturn, 1) → np_ck (v = 0 ∨ v = 1) (some (v, σ2)) = some o → np_At D cl A wd s σ2 H locs → W p l e R s m args below meth c H locs 0 0 Q (F0 m pc ls [.int (np_i v)])) →
      np_At D cl A wd s σ s.heap [] → lv_has ls nL (lv_args 0 avs) → W p l e R s m args below meth c s.heap [] 0 0 Q (F0 m 0 ls [])) : np_Mi gA l D cl tys wd y (.code y cc nL (some .boolean) :: AL) rm avs σ fy := by
  intro sz o hfy
  refine Met.ofW (cc := cc) (maxL := nL) (ret := (some .boolean)) hy rfl ?_
  intro p e s m args below meth c s₁ B hml hv
  obtain ⟨rfl, hsz, hP, hK, hD0, hE⟩ := hv
  subst hsz
  have hts := atoms_spec (ws := .code y cc nL (some .boolean) :: AL) B.pre
  have hown : s.vm.findClass y.cls = some m.cls := findClass_of_methodNamed B.named
  have hlocks := B.notSynchronized
  rw [lg_entry_eq]
  have hC : np_Cx gA p (headSpec (.code y cc nL (some .boolean) :: AL) rm).room s m avs.toArray c D cl tys (va_A (wd σ) s.heap.size) AL y.cls cc nL rm := ⟨⟨B.exec, B.bytes, hml, hown, fun w hw => hts w (List.mem_cons_of_mem _ hw)⟩, hK, fun a h => Or.inr h, rfl, hE, np_noSt hP⟩
  refine body o p e _ s m _ below meth c _ (va_A (wd σ) s.heap.size) _ hfy hC (fun pc ls H locs v σ2 hdg ho hat => ?_) ⟨hP, hD0.self, va_S.rf⟩ (lv_entry avs hlen)
  obtain ⟨hz, ho⟩ := np_ck_e ho
  have ho := Option.some.inj ho
  subst ho
  exact W.zret hC.x hC.b B.returns (by rcases hz with h | h <;> (subst h; decide +kernel)) (fun t ht hW => ⟨⟨np_i v, σ2, rfl, ⟨rfl, rfl⟩, by rw [ht]; exact hat.1, va_K.moved hW.alike hK, hat.2.1⟩, hat.2.2.F ht⟩) hat.2.2.2.2 hdg hlocks
theorem np_mkb {gA : Nat → Nat} {l : Launch} {D : va_G} {cl : List vw_C} {tys : List (ClassId × FieldType)} {wd : np_S → va_W} {y : MethodName} {cc : ByteArray} {nL : Nat} {AL : List Cond} {rm : Room} {avs : List Value} {σ : np_S} {fy : Option np_O} (hy : plainName y.cls = true) (hlen : (lg_sl avs).length ≤ nL)
    (body : ∀ (o : np_O) (p : Program) (e : Env) (R : Room) (s : State) (m : MethodId) (args : Array Value) (below : List Frame) (meth : Method) (c : Code) (Q : State → Prop) (A : Nat → Prop) (ls : Array Slot), fy = some o → np_Cx gA p R s m args c D cl tys A AL y.cls cc nL rm →
      (∀ (pc : Nat) (ls : Array Slot) (H : Heap) (locs : List Loc) (v : Int) {σ2 : np_S}, decode cc pc = .ok (.ireturn, 1) → np_ck (v = 0 ∨ v = 1) (some (v, σ2)) = some o → np_At D cl A wd s σ2 H locs → W p l e R s m args below meth c H locs 0 0 Q (F0 m pc ls [.int (np_i v)])) →
      np_At D cl A wd s σ s.heap [] → lv_has ls nL (lv_args 0 avs) → W p l e R s m args below meth c s.heap [] 0 0 Q (F0 m 0 ls [])) : np_Mi gA l D cl tys wd y (.code y cc nL (some .byte) :: AL) rm avs σ fy := by
  intro sz o hfy
  refine Met.ofW (cc := cc) (maxL := nL) (ret := (some .byte)) hy rfl ?_
  intro p e s m args below meth c s₁ B hml hv
  obtain ⟨rfl, hsz, hP, hK, hD0, hE⟩ := hv
  subst hsz
  have hts := atoms_spec (ws := .code y cc nL (some .byte) :: AL) B.pre
  have hown : s.vm.findClass y.cls = some m.cls := findClass_of_methodNamed B.named
  have hlocks := B.notSynchronized
  rw [lg_entry_eq]
  have hC : np_Cx gA p (headSpec (.code y cc nL (some .byte) :: AL) rm).room s m avs.toArray c D cl tys (va_A (wd σ) s.heap.size) AL y.cls cc nL rm := ⟨⟨B.exec, B.bytes, hml, hown, fun w hw => hts w (List.mem_cons_of_mem _ hw)⟩, hK, fun a h => Or.inr h, rfl, hE, np_noSt hP⟩
  refine body o p e _ s m _ below meth c _ (va_A (wd σ) s.heap.size) _ hfy hC (fun pc ls H locs v σ2 hdg ho hat => ?_) ⟨hP, hD0.self, va_S.rf⟩ (lv_entry avs hlen)
  obtain ⟨hz, ho⟩ := np_ck_e ho
  have ho := Option.some.inj ho
  subst ho
  exact W.zret hC.x hC.b B.returns (by rcases hz with h | h <;> (subst h; decide +kernel)) (fun t ht hW => ⟨⟨np_i v, σ2, rfl, ⟨rfl, rfl⟩, by rw [ht]; exact hat.1, va_K.moved hW.alike hK, hat.2.1⟩, hat.2.2.F ht⟩) hat.2.2.2.2 hdg hlocks
theorem np_mkl {gA : Nat → Nat} {l : Launch} {D : va_G} {cl : List vw_C} {tys : List (ClassId × FieldType)} {wd : np_S → va_W} {y : MethodName} {cc : ByteArray} {nL : Nat} {AL : List Cond} {rm : Room} {avs : List Value} {σ : np_S} {fy : Option np_O} (hy : plainName y.cls = true) (hlen : (lg_sl avs).length ≤ nL)
    (body : ∀ (o : np_O) (p : Program) (e : Env) (R : Room) (s : State) (m : MethodId) (args : Array Value) (below : List Frame) (meth : Method) (c : Code) (Q : State → Prop) (A : Nat → Prop) (ls : Array Slot), fy = some o → np_Cx gA p R s m args c D cl tys A AL y.cls cc nL rm →
      (∀ (pc : Nat) (ls : Array Slot) (H : Heap) (locs : List Loc) (v : Int) {σ2 : np_S}, decode cc pc = .ok (.lreturn, 1) → some (v, σ2) = some o → np_At D cl A wd s σ2 H locs → W p l e R s m args below meth c H locs 0 0 Q (F0 m pc ls [.long (np_l v)])) →
      np_At D cl A wd s σ s.heap [] → lv_has ls nL (lv_args 0 avs) → W p l e R s m args below meth c s.heap [] 0 0 Q (F0 m 0 ls [])) : np_Ml gA l D cl tys wd y (.code y cc nL (some .long) :: AL) rm avs σ fy := by
  intro sz o hfy
  refine Met.ofW (cc := cc) (maxL := nL) (ret := (some .long)) hy rfl ?_
  intro p e s m args below meth c s₁ B hml hv
  obtain ⟨rfl, hsz, hP, hK, hD0, hE⟩ := hv
  subst hsz
  have hts := atoms_spec (ws := .code y cc nL (some .long) :: AL) B.pre
  have hown : s.vm.findClass y.cls = some m.cls := findClass_of_methodNamed B.named
  have hlocks := B.notSynchronized
  rw [lg_entry_eq]
  have hC : np_Cx gA p (headSpec (.code y cc nL (some .long) :: AL) rm).room s m avs.toArray c D cl tys (va_A (wd σ) s.heap.size) AL y.cls cc nL rm := ⟨⟨B.exec, B.bytes, hml, hown, fun w hw => hts w (List.mem_cons_of_mem _ hw)⟩, hK, fun a h => Or.inr h, rfl, hE, np_noSt hP⟩
  refine body o p e _ s m _ below meth c _ (va_A (wd σ) s.heap.size) _ hfy hC (fun pc ls H locs v σ2 hdg ho hat => ?_) ⟨hP, hD0.self, va_S.rf⟩ (lv_entry avs hlen)
  have ho := Option.some.inj ho
  subst ho
  exact W.lret (v := np_l v) hC.x hC.b B.returns (fun t ht hW => ⟨⟨np_l v, σ2, rfl, ⟨rfl, rfl⟩, by rw [ht]; exact hat.1, va_K.moved hW.alike hK, hat.2.1⟩, hat.2.2.F ht⟩) hat.2.2.2.2 hdg hlocks
theorem np_mkv {gA : Nat → Nat} {l : Launch} {D : va_G} {cl : List vw_C} {tys : List (ClassId × FieldType)} {wd : np_S → va_W} {y : MethodName} {cc : ByteArray} {nL : Nat} {AL : List Cond} {rm : Room} {avs : List Value} {σ : np_S} {fy : Option np_O} (hy : plainName y.cls = true) (hlen : (lg_sl avs).length ≤ nL)
    (body : ∀ (o : np_O) (p : Program) (e : Env) (R : Room) (s : State) (m : MethodId) (args : Array Value) (below : List Frame) (meth : Method) (c : Code) (Q : State → Prop) (A : Nat → Prop) (ls : Array Slot), fy = some o → np_Cx gA p R s m args c D cl tys A AL y.cls cc nL rm →
      (∀ (pc : Nat) (ls : Array Slot) (H : Heap) (locs : List Loc) {σ2 : np_S}, decode cc pc = .ok (.return_, 1) → some ((0 : Int), σ2) = some o → np_At D cl A wd s σ2 H locs → W p l e R s m args below meth c H locs 0 0 Q (F0 m pc ls [])) →
      np_At D cl A wd s σ s.heap [] → lv_has ls nL (lv_args 0 avs) → W p l e R s m args below meth c s.heap [] 0 0 Q (F0 m 0 ls [])) : np_Mv gA l D cl tys wd y (.code y cc nL none :: AL) rm avs σ fy := by
  intro sz o hfy
  refine Met.ofW (cc := cc) (maxL := nL) (ret := none) hy rfl ?_
  intro p e s m args below meth c s₁ B hml hv
  obtain ⟨rfl, hsz, hP, hK, hD0, hE⟩ := hv
  subst hsz
  have hts := atoms_spec (ws := .code y cc nL none :: AL) B.pre
  have hown : s.vm.findClass y.cls = some m.cls := findClass_of_methodNamed B.named
  have hlocks := B.notSynchronized
  rw [lg_entry_eq]
  have hC : np_Cx gA p (headSpec (.code y cc nL none :: AL) rm).room s m avs.toArray c D cl tys (va_A (wd σ) s.heap.size) AL y.cls cc nL rm := ⟨⟨B.exec, B.bytes, hml, hown, fun w hw => hts w (List.mem_cons_of_mem _ hw)⟩, hK, fun a h => Or.inr h, rfl, hE, np_noSt hP⟩
  refine body o p e _ s m _ below meth c _ (va_A (wd σ) s.heap.size) _ hfy hC (fun pc ls H locs σ2 hdg ho hat => ?_) ⟨hP, hD0.self, va_S.rf⟩ (lv_entry avs hlen)
  have ho := Option.some.inj ho
  subst ho
  exact W.vret hC.x hC.b B.returns (fun t ht hW => ⟨⟨σ2, rfl, rfl, by rw [ht]; exact hat.1, va_K.moved hW.alike hK, hat.2.1⟩, hat.2.2.F ht⟩) hat.2.2.2.2 hdg hlocks
theorem np_allgood : np_good np_al := fun w hw => good_of_word (List.mem_filter.mp hw).2
end
section
def yy_N_hole : MethodName := ⟨"NotationParse", "hole", "(I)I"⟩
def yy_N_word : MethodName := ⟨"NotationParse", "word", "(JI)I"⟩
def yy_N_notation : MethodName := ⟨"NotationParse", "notation", "(I)I"⟩
def yy_Grammar_dropHand : MethodName := ⟨"NotationParse$Grammar", "dropHand", "()V"⟩
def yy_Grammar_usedDots : MethodName := ⟨"NotationParse$Grammar", "usedDots", "()I"⟩
def yy_Arrays_fill : MethodName := ⟨"java/util/Arrays", "fill", "([IIII)V"⟩
def yy_Arrays_rangeCheck : MethodName := ⟨"java/util/Arrays", "rangeCheck", "(III)V"⟩
def yy_Arrays_fill2 : MethodName := ⟨"java/util/Arrays", "fill", "([JIIJ)V"⟩
def yy_N_put : MethodName := ⟨"NotationParse", "put", "(JI)Z"⟩
def yy_Text_append : MethodName := ⟨"NotationParse$Text", "append", "(JI)V"⟩
def yy_Spelling_byteOf : MethodName := ⟨"NotationParse$Spelling", "byteOf", "(JI)I"⟩
def yy_N_clear : MethodName := ⟨"NotationParse", "clear", "()V"⟩
def yy_N_read : MethodName := ⟨"NotationParse", "read", "()I"⟩
def yy_Tree_fell : MethodName := ⟨"NotationParse$Tree", "fell", "()V"⟩
def yy_Text_cut : MethodName := ⟨"NotationParse$Text", "cut", "(LNotationParse$Grammar;)V"⟩
def yy_Text_kindAt : MethodName := ⟨"NotationParse$Text", "kindAt", "(I)I"⟩
def yy_Spelling_kindOf : MethodName := ⟨"NotationParse$Spelling", "kindOf", "(I)I"⟩
def yy_String_indexOf : MethodName := ⟨"java/lang/String", "indexOf", "(I)I"⟩
def yy_String_indexOf2 : MethodName := ⟨"java/lang/String", "indexOf", "(II)I"⟩
def yy_String_isLatin1 : MethodName := ⟨"java/lang/String", "isLatin1", "()Z"⟩
def yy_String_length : MethodName := ⟨"java/lang/String", "length", "()I"⟩
def yy_String_coder : MethodName := ⟨"java/lang/String", "coder", "()B"⟩
def yy_StringLatin1_indexOf : MethodName := ⟨"java/lang/StringLatin1", "indexOf", "([BIII)I"⟩
def yy_StringLatin1_canEncode : MethodName := ⟨"java/lang/StringLatin1", "canEncode", "(I)Z"⟩
def yy_StringLatin1_indexOfChar : MethodName := ⟨"java/lang/StringLatin1", "indexOfChar", "([BIII)I"⟩
def yy_Text_endOfRow : MethodName := ⟨"NotationParse$Text", "endOfRow", "(II)I"⟩
def yy_Text_takeRow : MethodName := ⟨"NotationParse$Text", "takeRow", "(IIILNotationParse$Grammar;)V"⟩
def yy_Grammar_hasKey : MethodName := ⟨"NotationParse$Grammar", "hasKey", "(J)Z"⟩
def yy_N_findFault : MethodName := ⟨"NotationParse", "findFault", "()V"⟩
def yy_Chart_follow : MethodName := ⟨"NotationParse$Chart", "follow", "([JI)I"⟩
def yy_Chart_emptyRow : MethodName := ⟨"NotationParse$Chart", "emptyRow", "(I)V"⟩
def yy_Chart_scan : MethodName := ⟨"NotationParse$Chart", "scan", "(IJ)Z"⟩
def yy_Chart_complete : MethodName := ⟨"NotationParse$Chart", "complete", "(I)V"⟩
def yy_Chart_highestTerm : MethodName := ⟨"NotationParse$Chart", "highestTerm", "(II)I"⟩
def yy_Grammar_lastDot : MethodName := ⟨"NotationParse$Grammar", "lastDot", "(I)I"⟩
def yy_Chart_isReached : MethodName := ⟨"NotationParse$Chart", "isReached", "(III)Z"⟩
def yy_Chart_fillHoles : MethodName := ⟨"NotationParse$Chart", "fillHoles", "(III)V"⟩
def yy_Chart_leastWanted : MethodName := ⟨"NotationParse$Chart", "leastWanted", "(I)I"⟩
def yy_Chart_predict : MethodName := ⟨"NotationParse$Chart", "predict", "(II)V"⟩
def yy_Chart_leastFirstHole : MethodName := ⟨"NotationParse$Chart", "leastFirstHole", "(I)I"⟩
def yy_Chart_isWhole : MethodName := ⟨"NotationParse$Chart", "isWhole", "(I)Z"⟩
def yy_N_noteFault : MethodName := ⟨"NotationParse", "noteFault", "(II)V"⟩
def yy_Chart_countTrees : MethodName := ⟨"NotationParse$Chart", "countTrees", "(I)I"⟩
def yy_Chart_cell : MethodName := ⟨"NotationParse$Chart", "cell", "(III)I"⟩
def yy_Chart_countFrom : MethodName := ⟨"NotationParse$Chart", "countFrom", "(II)V"⟩
def yy_Chart_sumTerms : MethodName := ⟨"NotationParse$Chart", "sumTerms", "(II)V"⟩
def yy_Chart_addTrees : MethodName := ⟨"NotationParse$Chart", "addTrees", "(II)V"⟩
def yy_Chart_countFirstHoles : MethodName := ⟨"NotationParse$Chart", "countFirstHoles", "(II)V"⟩
def yy_Chart_countRule : MethodName := ⟨"NotationParse$Chart", "countRule", "(III)V"⟩
def yy_Chart_countSplits : MethodName := ⟨"NotationParse$Chart", "countSplits", "(IIII)I"⟩
def yy_Tree_grow : MethodName := ⟨"NotationParse$Tree", "grow", "(I)V"⟩
def yy_Tree_growNode : MethodName := ⟨"NotationParse$Tree", "growNode", "(III)V"⟩
def yy_Chart_onlyRule : MethodName := ⟨"NotationParse$Chart", "onlyRule", "(III)I"⟩
def yy_Tree_awaitHoles : MethodName := ⟨"NotationParse$Tree", "awaitHoles", "(III)I"⟩
def yy_Tree_await : MethodName := ⟨"NotationParse$Tree", "await", "(IIII)V"⟩
def yy_Chart_onlySplit : MethodName := ⟨"NotationParse$Chart", "onlySplit", "(III)I"⟩
def yy_N_fault : MethodName := ⟨"NotationParse", "fault", "(I)I"⟩
def yy_N_node : MethodName := ⟨"NotationParse", "node", "(II)I"⟩
def yy_N_print : MethodName := ⟨"NotationParse", "print", "()I"⟩
def yy_Tree_needlessBrackets : MethodName := ⟨"NotationParse$Tree", "needlessBrackets", "()I"⟩
def yy_Tree_levelWithin : MethodName := ⟨"NotationParse$Tree", "levelWithin", "(I)I"⟩
def yy_Output_writeWords : MethodName := ⟨"NotationParse$Output", "writeWords", "(LNotationParse$Text;I)V"⟩
def yy_Output_writeWord : MethodName := ⟨"NotationParse$Output", "writeWord", "(J)V"⟩
def yy_Output_addByte : MethodName := ⟨"NotationParse$Output", "addByte", "(I)V"⟩
def yy_N_at : MethodName := ⟨"NotationParse", "at", "(I)I"⟩
def yy_N_isKey : MethodName := ⟨"NotationParse", "isKey", "(JI)Z"⟩
def yy_Spelling_isSpelled : MethodName := ⟨"NotationParse$Spelling", "isSpelled", "(JI)Z"⟩
def yy_Spelling_lowBytes : MethodName := ⟨"NotationParse$Spelling", "lowBytes", "(JI)J"⟩
def yy_N_about : MethodName := ⟨"NotationParse", "about", "(I)I"⟩
def yy_Grammar_handEndsInHole : MethodName := ⟨"NotationParse$Grammar", "handEndsInHole", "()Z"⟩
def yy_Grammar_handHasWord : MethodName := ⟨"NotationParse$Grammar", "handHasWord", "()Z"⟩
def yy_Grammar_takePart : MethodName := ⟨"NotationParse$Grammar", "takePart", "(IJ)I"⟩
def yy_Grammar_makeRule : MethodName := ⟨"NotationParse$Grammar", "makeRule", "(I)I"⟩
def yy_M_thrown : MethodName := ⟨"NotationParseModel", "thrown", "()I"⟩
def yy_M_isLetter : MethodName := ⟨"NotationParseModel", "isLetter", "(I)Z"⟩
def yy_M_isDigit : MethodName := ⟨"NotationParseModel", "isDigit", "(I)Z"⟩
def yy_M_sort : MethodName := ⟨"NotationParseModel", "sort", "(I)I"⟩
def yy_M_byteOf : MethodName := ⟨"NotationParseModel", "byteOf", "(JII)I"⟩
def yy_M_lowest : MethodName := ⟨"NotationParseModel", "lowest", "(JI)J"⟩
def yy_M_isWord : MethodName := ⟨"NotationParseModel", "isWord", "(JI)Z"⟩
def yy_M_isKeyWord : MethodName := ⟨"NotationParseModel", "isKeyWord", "(J)Z"⟩
def yy_M_part : MethodName := ⟨"NotationParseModel", "part", "(IJ)I"⟩
def yy_M_hole : MethodName := ⟨"NotationParseModel", "hole", "(I)I"⟩
def yy_M_word : MethodName := ⟨"NotationParseModel", "word", "(JI)I"⟩
def yy_M_notation : MethodName := ⟨"NotationParseModel", "notation", "(I)I"⟩
def yy_M_put : MethodName := ⟨"NotationParseModel", "put", "(JI)Z"⟩
def yy_M_clear : MethodName := ⟨"NotationParseModel", "clear", "()V"⟩
def yy_M_takeWords : MethodName := ⟨"NotationParseModel", "takeWords", "()I"⟩
def yy_M_isAtom : MethodName := ⟨"NotationParseModel", "isAtom", "(I)Z"⟩
def yy_M_is : MethodName := ⟨"NotationParseModel", "is", "(II)Z"⟩
def yy_M_less : MethodName := ⟨"NotationParseModel", "less", "(J)I"⟩
def yy_M_cell : MethodName := ⟨"NotationParseModel", "cell", "(III)I"⟩
def yy_M_waysOf : MethodName := ⟨"NotationParseModel", "waysOf", "(IIII)I"⟩
def yy_M_countTerms : MethodName := ⟨"NotationParseModel", "countTerms", "(II)V"⟩
def yy_M_count : MethodName := ⟨"NotationParseModel", "count", "()V"⟩
def yy_M_mayBegin : MethodName := ⟨"NotationParseModel", "mayBegin", "(IIII)Z"⟩
def yy_M_mayBeTerm : MethodName := ⟨"NotationParseModel", "mayBeTerm", "(III)Z"⟩
def yy_M_canBegin : MethodName := ⟨"NotationParseModel", "canBegin", "(I)Z"⟩
def yy_M_faulty : MethodName := ⟨"NotationParseModel", "faulty", "(II)V"⟩
def yy_M_read : MethodName := ⟨"NotationParseModel", "read", "()I"⟩
def yy_M_grow : MethodName := ⟨"NotationParseModel", "grow", "()V"⟩
def yy_M_fillHoles : MethodName := ⟨"NotationParseModel", "fillHoles", "(I)V"⟩
def yy_M_change : MethodName := ⟨"NotationParseModel", "change", "(II)V"⟩
def yy_M_later : MethodName := ⟨"NotationParseModel", "later", "(IIII)V"⟩
def yy_M_kindOf : MethodName := ⟨"NotationParseModel", "kindOf", "(III)I"⟩
def yy_M_fault : MethodName := ⟨"NotationParseModel", "fault", "(I)I"⟩
def yy_M_children : MethodName := ⟨"NotationParseModel", "children", "(I)I"⟩
def yy_M_node : MethodName := ⟨"NotationParseModel", "node", "(II)I"⟩
def yy_M_childAt : MethodName := ⟨"NotationParseModel", "childAt", "(II)I"⟩
def yy_M_putWord : MethodName := ⟨"NotationParseModel", "putWord", "(J)V"⟩
def yy_M_takeApart : MethodName := ⟨"NotationParseModel", "takeApart", "(I)V"⟩
def yy_M_puts : MethodName := ⟨"NotationParseModel", "puts", "(I)V"⟩
def yy_M_print : MethodName := ⟨"NotationParseModel", "print", "()I"⟩
def yy_M_at : MethodName := ⟨"NotationParseModel", "at", "(I)I"⟩
def yy_M_isKey : MethodName := ⟨"NotationParseModel", "isKey", "(JI)Z"⟩
def yy_M_about : MethodName := ⟨"NotationParseModel", "about", "(I)I"⟩
theorem tp_1 : Cond.selects "NotationParse$Text" ⟨"NotationParse$Text", "kindAt", "(I)I"⟩ ⟨"NotationParse$Text", "kindAt", "(I)I"⟩ ∈ np_al := List.mem_filter.mpr ⟨List.mem_append_left _ (List.mem_of_getElem? (i := 1) rfl), rfl⟩
theorem tp_2 : Cond.selects "NotationParse$Text" ⟨"NotationParse$Text", "endOfRow", "(II)I"⟩ ⟨"NotationParse$Text", "endOfRow", "(II)I"⟩ ∈ np_al := List.mem_filter.mpr ⟨List.mem_append_left _ (List.mem_of_getElem? (i := 2) rfl), rfl⟩
theorem tp_3 : Cond.selects "NotationParse$Text" ⟨"NotationParse$Text", "takeRow", "(IIILNotationParse$Grammar;)V"⟩ ⟨"NotationParse$Text", "takeRow", "(IIILNotationParse$Grammar;)V"⟩ ∈ np_al := List.mem_filter.mpr ⟨List.mem_append_left _ (List.mem_of_getElem? (i := 3) rfl), rfl⟩
theorem tp_4 : Cond.selects "NotationParse" ⟨"NotationParse", "findFault", "()V"⟩ ⟨"NotationParse", "findFault", "()V"⟩ ∈ np_al := List.mem_filter.mpr ⟨List.mem_append_left _ (List.mem_of_getElem? (i := 4) rfl), rfl⟩
theorem tp_5 : Cond.selects "NotationParse$Chart" ⟨"NotationParse$Chart", "emptyRow", "(I)V"⟩ ⟨"NotationParse$Chart", "emptyRow", "(I)V"⟩ ∈ np_al := List.mem_filter.mpr ⟨List.mem_append_left _ (List.mem_of_getElem? (i := 5) rfl), rfl⟩
theorem tp_6 : Cond.selects "NotationParse$Chart" ⟨"NotationParse$Chart", "predict", "(II)V"⟩ ⟨"NotationParse$Chart", "predict", "(II)V"⟩ ∈ np_al := List.mem_filter.mpr ⟨List.mem_append_left _ (List.mem_of_getElem? (i := 6) rfl), rfl⟩
theorem tp_7 : Cond.selects "NotationParse$Chart" ⟨"NotationParse$Chart", "leastFirstHole", "(I)I"⟩ ⟨"NotationParse$Chart", "leastFirstHole", "(I)I"⟩ ∈ np_al := List.mem_filter.mpr ⟨List.mem_append_left _ (List.mem_of_getElem? (i := 7) rfl), rfl⟩
theorem tp_8 : Cond.selects "NotationParse$Chart" ⟨"NotationParse$Chart", "scan", "(IJ)Z"⟩ ⟨"NotationParse$Chart", "scan", "(IJ)Z"⟩ ∈ np_al := List.mem_filter.mpr ⟨List.mem_append_left _ (List.mem_of_getElem? (i := 8) rfl), rfl⟩
theorem tp_9 : Cond.selects "NotationParse$Chart" ⟨"NotationParse$Chart", "complete", "(I)V"⟩ ⟨"NotationParse$Chart", "complete", "(I)V"⟩ ∈ np_al := List.mem_filter.mpr ⟨List.mem_append_left _ (List.mem_of_getElem? (i := 9) rfl), rfl⟩
theorem tp_10 : Cond.selects "NotationParse$Chart" ⟨"NotationParse$Chart", "highestTerm", "(II)I"⟩ ⟨"NotationParse$Chart", "highestTerm", "(II)I"⟩ ∈ np_al := List.mem_filter.mpr ⟨List.mem_append_left _ (List.mem_of_getElem? (i := 10) rfl), rfl⟩
theorem tp_11 : Cond.selects "NotationParse$Chart" ⟨"NotationParse$Chart", "isReached", "(III)Z"⟩ ⟨"NotationParse$Chart", "isReached", "(III)Z"⟩ ∈ np_al := List.mem_filter.mpr ⟨List.mem_append_left _ (List.mem_of_getElem? (i := 11) rfl), rfl⟩
theorem tp_12 : Cond.selects "NotationParse$Chart" ⟨"NotationParse$Chart", "fillHoles", "(III)V"⟩ ⟨"NotationParse$Chart", "fillHoles", "(III)V"⟩ ∈ np_al := List.mem_filter.mpr ⟨List.mem_append_left _ (List.mem_of_getElem? (i := 12) rfl), rfl⟩
theorem tp_13 : Cond.selects "NotationParse$Chart" ⟨"NotationParse$Chart", "leastWanted", "(I)I"⟩ ⟨"NotationParse$Chart", "leastWanted", "(I)I"⟩ ∈ np_al := List.mem_filter.mpr ⟨List.mem_append_left _ (List.mem_of_getElem? (i := 13) rfl), rfl⟩
theorem tp_14 : Cond.selects "NotationParse" ⟨"NotationParse", "noteFault", "(II)V"⟩ ⟨"NotationParse", "noteFault", "(II)V"⟩ ∈ np_al := List.mem_filter.mpr ⟨List.mem_append_left _ (List.mem_of_getElem? (i := 14) rfl), rfl⟩
theorem tp_15 : Cond.selects "NotationParse$Chart" ⟨"NotationParse$Chart", "countFrom", "(II)V"⟩ ⟨"NotationParse$Chart", "countFrom", "(II)V"⟩ ∈ np_al := List.mem_filter.mpr ⟨List.mem_append_left _ (List.mem_of_getElem? (i := 15) rfl), rfl⟩
theorem tp_16 : Cond.selects "NotationParse$Chart" ⟨"NotationParse$Chart", "countRule", "(III)V"⟩ ⟨"NotationParse$Chart", "countRule", "(III)V"⟩ ∈ np_al := List.mem_filter.mpr ⟨List.mem_append_left _ (List.mem_of_getElem? (i := 16) rfl), rfl⟩
theorem tp_17 : Cond.selects "NotationParse$Chart" ⟨"NotationParse$Chart", "countSplits", "(IIII)I"⟩ ⟨"NotationParse$Chart", "countSplits", "(IIII)I"⟩ ∈ np_al := List.mem_filter.mpr ⟨List.mem_append_left _ (List.mem_of_getElem? (i := 17) rfl), rfl⟩
theorem tp_18 : Cond.selects "NotationParse$Chart" ⟨"NotationParse$Chart", "cell", "(III)I"⟩ ⟨"NotationParse$Chart", "cell", "(III)I"⟩ ∈ np_al := List.mem_filter.mpr ⟨List.mem_append_left _ (List.mem_of_getElem? (i := 18) rfl), rfl⟩
theorem tp_19 : Cond.selects "NotationParse$Chart" ⟨"NotationParse$Chart", "sumTerms", "(II)V"⟩ ⟨"NotationParse$Chart", "sumTerms", "(II)V"⟩ ∈ np_al := List.mem_filter.mpr ⟨List.mem_append_left _ (List.mem_of_getElem? (i := 19) rfl), rfl⟩
theorem tp_20 : Cond.selects "NotationParse$Chart" ⟨"NotationParse$Chart", "addTrees", "(II)V"⟩ ⟨"NotationParse$Chart", "addTrees", "(II)V"⟩ ∈ np_al := List.mem_filter.mpr ⟨List.mem_append_left _ (List.mem_of_getElem? (i := 20) rfl), rfl⟩
theorem tp_21 : Cond.selects "NotationParse$Chart" ⟨"NotationParse$Chart", "countFirstHoles", "(II)V"⟩ ⟨"NotationParse$Chart", "countFirstHoles", "(II)V"⟩ ∈ np_al := List.mem_filter.mpr ⟨List.mem_append_left _ (List.mem_of_getElem? (i := 21) rfl), rfl⟩
theorem tp_22 : Cond.selects "NotationParse$Tree" ⟨"NotationParse$Tree", "await", "(IIII)V"⟩ ⟨"NotationParse$Tree", "await", "(IIII)V"⟩ ∈ np_al := List.mem_filter.mpr ⟨List.mem_append_left _ (List.mem_of_getElem? (i := 22) rfl), rfl⟩
theorem tp_23 : Cond.selects "NotationParse$Tree" ⟨"NotationParse$Tree", "growNode", "(III)V"⟩ ⟨"NotationParse$Tree", "growNode", "(III)V"⟩ ∈ np_al := List.mem_filter.mpr ⟨List.mem_append_left _ (List.mem_of_getElem? (i := 23) rfl), rfl⟩
theorem tp_24 : Cond.selects "NotationParse$Tree" ⟨"NotationParse$Tree", "awaitHoles", "(III)I"⟩ ⟨"NotationParse$Tree", "awaitHoles", "(III)I"⟩ ∈ np_al := List.mem_filter.mpr ⟨List.mem_append_left _ (List.mem_of_getElem? (i := 24) rfl), rfl⟩
theorem tp_25 : Cond.selects "NotationParse$Tree" ⟨"NotationParse$Tree", "levelWithin", "(I)I"⟩ ⟨"NotationParse$Tree", "levelWithin", "(I)I"⟩ ∈ np_al := List.mem_filter.mpr ⟨List.mem_append_left _ (List.mem_of_getElem? (i := 25) rfl), rfl⟩
theorem tp_26 : Cond.selects "NotationParse$Output" ⟨"NotationParse$Output", "addByte", "(I)V"⟩ ⟨"NotationParse$Output", "addByte", "(I)V"⟩ ∈ np_al := List.mem_filter.mpr ⟨List.mem_append_left _ (List.mem_of_getElem? (i := 26) rfl), rfl⟩
theorem tp_27 : Cond.selects "NotationParse$Output" ⟨"NotationParse$Output", "writeWord", "(J)V"⟩ ⟨"NotationParse$Output", "writeWord", "(J)V"⟩ ∈ np_al := List.mem_filter.mpr ⟨List.mem_append_left _ (List.mem_of_getElem? (i := 27) rfl), rfl⟩
theorem tp_28 : Cond.selects "NotationParseModel" ⟨"NotationParseModel", "part", "(IJ)I"⟩ ⟨"NotationParseModel", "part", "(IJ)I"⟩ ∈ np_al := List.mem_filter.mpr ⟨List.mem_append_left _ (List.mem_of_getElem? (i := 28) rfl), rfl⟩
theorem tp_29 : Cond.selects "NotationParseModel" ⟨"NotationParseModel", "takeWords", "()I"⟩ ⟨"NotationParseModel", "takeWords", "()I"⟩ ∈ np_al := List.mem_filter.mpr ⟨List.mem_append_left _ (List.mem_of_getElem? (i := 29) rfl), rfl⟩
theorem tp_30 : Cond.selects "NotationParseModel" ⟨"NotationParseModel", "count", "()V"⟩ ⟨"NotationParseModel", "count", "()V"⟩ ∈ np_al := List.mem_filter.mpr ⟨List.mem_append_left _ (List.mem_of_getElem? (i := 30) rfl), rfl⟩
theorem tp_31 : Cond.selects "NotationParseModel" ⟨"NotationParseModel", "waysOf", "(IIII)I"⟩ ⟨"NotationParseModel", "waysOf", "(IIII)I"⟩ ∈ np_al := List.mem_filter.mpr ⟨List.mem_append_left _ (List.mem_of_getElem? (i := 31) rfl), rfl⟩
theorem tp_32 : Cond.selects "NotationParseModel" ⟨"NotationParseModel", "countTerms", "(II)V"⟩ ⟨"NotationParseModel", "countTerms", "(II)V"⟩ ∈ np_al := List.mem_filter.mpr ⟨List.mem_append_left _ (List.mem_of_getElem? (i := 32) rfl), rfl⟩
theorem tp_33 : Cond.selects "NotationParseModel" ⟨"NotationParseModel", "isAtom", "(I)Z"⟩ ⟨"NotationParseModel", "isAtom", "(I)Z"⟩ ∈ np_al := List.mem_filter.mpr ⟨List.mem_append_left _ (List.mem_of_getElem? (i := 33) rfl), rfl⟩
theorem tp_34 : Cond.selects "NotationParseModel" ⟨"NotationParseModel", "isKeyWord", "(J)Z"⟩ ⟨"NotationParseModel", "isKeyWord", "(J)Z"⟩ ∈ np_al := List.mem_filter.mpr ⟨List.mem_append_left _ (List.mem_of_getElem? (i := 34) rfl), rfl⟩
theorem tp_35 : Cond.selects "NotationParseModel" ⟨"NotationParseModel", "is", "(II)Z"⟩ ⟨"NotationParseModel", "is", "(II)Z"⟩ ∈ np_al := List.mem_filter.mpr ⟨List.mem_append_left _ (List.mem_of_getElem? (i := 35) rfl), rfl⟩
theorem tp_36 : Cond.selects "NotationParseModel" ⟨"NotationParseModel", "canBegin", "(I)Z"⟩ ⟨"NotationParseModel", "canBegin", "(I)Z"⟩ ∈ np_al := List.mem_filter.mpr ⟨List.mem_append_left _ (List.mem_of_getElem? (i := 36) rfl), rfl⟩
theorem tp_37 : Cond.selects "NotationParseModel" ⟨"NotationParseModel", "mayBeTerm", "(III)Z"⟩ ⟨"NotationParseModel", "mayBeTerm", "(III)Z"⟩ ∈ np_al := List.mem_filter.mpr ⟨List.mem_append_left _ (List.mem_of_getElem? (i := 37) rfl), rfl⟩
theorem tp_38 : Cond.selects "NotationParseModel" ⟨"NotationParseModel", "mayBegin", "(IIII)Z"⟩ ⟨"NotationParseModel", "mayBegin", "(IIII)Z"⟩ ∈ np_al := List.mem_filter.mpr ⟨List.mem_append_left _ (List.mem_of_getElem? (i := 38) rfl), rfl⟩
theorem tp_39 : Cond.selects "NotationParseModel" ⟨"NotationParseModel", "faulty", "(II)V"⟩ ⟨"NotationParseModel", "faulty", "(II)V"⟩ ∈ np_al := List.mem_filter.mpr ⟨List.mem_append_left _ (List.mem_of_getElem? (i := 39) rfl), rfl⟩
theorem tp_40 : Cond.selects "NotationParseModel" ⟨"NotationParseModel", "grow", "()V"⟩ ⟨"NotationParseModel", "grow", "()V"⟩ ∈ np_al := List.mem_filter.mpr ⟨List.mem_append_left _ (List.mem_of_getElem? (i := 40) rfl), rfl⟩
theorem tp_41 : Cond.selects "NotationParseModel" ⟨"NotationParseModel", "later", "(IIII)V"⟩ ⟨"NotationParseModel", "later", "(IIII)V"⟩ ∈ np_al := List.mem_filter.mpr ⟨List.mem_append_left _ (List.mem_of_getElem? (i := 41) rfl), rfl⟩
theorem tp_42 : Cond.selects "NotationParseModel" ⟨"NotationParseModel", "kindOf", "(III)I"⟩ ⟨"NotationParseModel", "kindOf", "(III)I"⟩ ∈ np_al := List.mem_filter.mpr ⟨List.mem_append_left _ (List.mem_of_getElem? (i := 42) rfl), rfl⟩
theorem tp_43 : Cond.selects "NotationParseModel" ⟨"NotationParseModel", "fillHoles", "(I)V"⟩ ⟨"NotationParseModel", "fillHoles", "(I)V"⟩ ∈ np_al := List.mem_filter.mpr ⟨List.mem_append_left _ (List.mem_of_getElem? (i := 43) rfl), rfl⟩
theorem tp_44 : Cond.selects "NotationParseModel" ⟨"NotationParseModel", "change", "(II)V"⟩ ⟨"NotationParseModel", "change", "(II)V"⟩ ∈ np_al := List.mem_filter.mpr ⟨List.mem_append_left _ (List.mem_of_getElem? (i := 44) rfl), rfl⟩
theorem tp_45 : Cond.selects "NotationParseModel" ⟨"NotationParseModel", "children", "(I)I"⟩ ⟨"NotationParseModel", "children", "(I)I"⟩ ∈ np_al := List.mem_filter.mpr ⟨List.mem_append_left _ (List.mem_of_getElem? (i := 45) rfl), rfl⟩
theorem tp_46 : Cond.selects "NotationParseModel" ⟨"NotationParseModel", "puts", "(I)V"⟩ ⟨"NotationParseModel", "puts", "(I)V"⟩ ∈ np_al := List.mem_filter.mpr ⟨List.mem_append_left _ (List.mem_of_getElem? (i := 46) rfl), rfl⟩
theorem tp_47 : Cond.selects "NotationParseModel" ⟨"NotationParseModel", "putWord", "(J)V"⟩ ⟨"NotationParseModel", "putWord", "(J)V"⟩ ∈ np_al := List.mem_filter.mpr ⟨List.mem_append_left _ (List.mem_of_getElem? (i := 47) rfl), rfl⟩
theorem tp_48 : Cond.selects "NotationParseModel" ⟨"NotationParseModel", "takeApart", "(I)V"⟩ ⟨"NotationParseModel", "takeApart", "(I)V"⟩ ∈ np_al := List.mem_filter.mpr ⟨List.mem_append_left _ (List.mem_of_getElem? (i := 48) rfl), rfl⟩
theorem tp_49 : Cond.selects "NotationParseModel" ⟨"NotationParseModel", "childAt", "(II)I"⟩ ⟨"NotationParseModel", "childAt", "(II)I"⟩ ∈ np_al := List.mem_filter.mpr ⟨List.mem_append_left _ (List.mem_of_getElem? (i := 49) rfl), rfl⟩
theorem tw_1 : (Jvm.Cond.initialized "NotationParse") ∈ np_al := List.mem_filter.mpr ⟨List.mem_append_right _ (List.mem_append_left _ (List.mem_of_getElem? (i := 1) rfl)), rfl⟩
theorem tw_2 : (Jvm.Cond.initialized "NotationParse$Grammar") ∈ np_al := List.mem_filter.mpr ⟨List.mem_append_right _ (List.mem_append_left _ (List.mem_of_getElem? (i := 2) rfl)), rfl⟩
theorem tw_3 : (Jvm.Cond.initialized "java/util/Arrays") ∈ np_al := List.mem_filter.mpr ⟨List.mem_append_right _ (List.mem_append_left _ (List.mem_of_getElem? (i := 3) rfl)), rfl⟩
theorem tw_4 : (Jvm.Cond.initialized "NotationParse$Text") ∈ np_al := List.mem_filter.mpr ⟨List.mem_append_right _ (List.mem_append_left _ (List.mem_of_getElem? (i := 4) rfl)), rfl⟩
theorem tw_5 : (Jvm.Cond.initialized "NotationParse$Chart") ∈ np_al := List.mem_filter.mpr ⟨List.mem_append_right _ (List.mem_append_left _ (List.mem_of_getElem? (i := 5) rfl)), rfl⟩
theorem tw_6 : (Jvm.Cond.initialized "NotationParse$Tree") ∈ np_al := List.mem_filter.mpr ⟨List.mem_append_right _ (List.mem_append_left _ (List.mem_of_getElem? (i := 6) rfl)), rfl⟩
theorem tw_7 : (Jvm.Cond.initialized "NotationParse$Output") ∈ np_al := List.mem_filter.mpr ⟨List.mem_append_right _ (List.mem_append_left _ (List.mem_of_getElem? (i := 7) rfl)), rfl⟩
theorem tw_8 : (Jvm.Cond.initialized "NotationParseModel") ∈ np_al := List.mem_filter.mpr ⟨List.mem_append_right _ (List.mem_append_left _ (List.mem_of_getElem? (i := 8) rfl)), rfl⟩
theorem tw_14 : (Jvm.Cond.initialized "NotationParse$Spelling") ∈ np_al := List.mem_filter.mpr ⟨List.mem_append_right _ (List.mem_append_left _ (List.mem_of_getElem? (i := 14) rfl)), rfl⟩
theorem tw_15 : (Jvm.Cond.initialized "java/lang/String") ∈ np_al := List.mem_filter.mpr ⟨List.mem_append_right _ (List.mem_append_left _ (List.mem_of_getElem? (i := 15) rfl)), rfl⟩
theorem tw_16 : (Jvm.Cond.initialized "java/lang/StringLatin1") ∈ np_al := List.mem_filter.mpr ⟨List.mem_append_right _ (List.mem_append_left _ (List.mem_of_getElem? (i := 16) rfl)), rfl⟩
theorem tw_17 : (Jvm.Cond.initialized "java/lang/Math") ∈ np_al := List.mem_filter.mpr ⟨List.mem_append_right _ (List.mem_append_left _ (List.mem_of_getElem? (i := 17) rfl)), rfl⟩
theorem tw_44 : (Jvm.Cond.constantLong "NotationParse$Grammar" (38 : Nat) (-1 : Int64)) ∈ np_al := List.mem_filter.mpr ⟨List.mem_append_right _ (List.mem_append_left _ (List.mem_of_getElem? (i := 44) rfl)), rfl⟩
theorem tw_50 : (Jvm.Cond.fieldLink "NotationParse$Grammar" (9 : Nat) "NotationParse$Grammar" "holes" "[I") ∈ np_al := List.mem_filter.mpr ⟨List.mem_append_right _ (List.mem_append_left _ (List.mem_of_getElem? (i := 50) rfl)), rfl⟩
theorem tw_51 : (Jvm.Cond.fieldLink "NotationParse$Tree" (80 : Nat) "NotationParse$Grammar" "holes" "[I") ∈ np_al := List.mem_filter.mpr ⟨List.mem_append_right _ (List.mem_append_left _ (List.mem_of_getElem? (i := 51) rfl)), rfl⟩
theorem tw_52 : (Jvm.Cond.fieldLink "NotationParse$Chart" (82 : Nat) "NotationParse$Grammar" "holes" "[I") ∈ np_al := List.mem_filter.mpr ⟨List.mem_append_right _ (List.mem_append_left _ (List.mem_of_getElem? (i := 52) rfl)), rfl⟩
theorem tw_53 : (Jvm.Cond.fieldLink "NotationParse$Grammar" (15 : Nat) "NotationParse$Grammar" "words" "[J") ∈ np_al := List.mem_filter.mpr ⟨List.mem_append_right _ (List.mem_append_left _ (List.mem_of_getElem? (i := 53) rfl)), rfl⟩
theorem tw_54 : (Jvm.Cond.fieldLink "NotationParse$Chart" (60 : Nat) "NotationParse$Grammar" "words" "[J") ∈ np_al := List.mem_filter.mpr ⟨List.mem_append_right _ (List.mem_append_left _ (List.mem_of_getElem? (i := 54) rfl)), rfl⟩
theorem tw_55 : (Jvm.Cond.fieldLink "NotationParse$Grammar" (19 : Nat) "NotationParse$Grammar" "levels" "[I") ∈ np_al := List.mem_filter.mpr ⟨List.mem_append_right _ (List.mem_append_left _ (List.mem_of_getElem? (i := 55) rfl)), rfl⟩
theorem tw_56 : (Jvm.Cond.fieldLink "NotationParse$Chart" (72 : Nat) "NotationParse$Grammar" "levels" "[I") ∈ np_al := List.mem_filter.mpr ⟨List.mem_append_right _ (List.mem_append_left _ (List.mem_of_getElem? (i := 56) rfl)), rfl⟩
theorem tw_57 : (Jvm.Cond.fieldLink "NotationParse$Tree" (89 : Nat) "NotationParse$Grammar" "levels" "[I") ∈ np_al := List.mem_filter.mpr ⟨List.mem_append_right _ (List.mem_append_left _ (List.mem_of_getElem? (i := 57) rfl)), rfl⟩
theorem tw_58 : (Jvm.Cond.fieldLink "NotationParse$Grammar" (22 : Nat) "NotationParse$Grammar" "lengths" "[I") ∈ np_al := List.mem_filter.mpr ⟨List.mem_append_right _ (List.mem_append_left _ (List.mem_of_getElem? (i := 58) rfl)), rfl⟩
theorem tw_59 : (Jvm.Cond.fieldLink "NotationParse$Grammar" (25 : Nat) "NotationParse$Grammar" "rules" "I") ∈ np_al := List.mem_filter.mpr ⟨List.mem_append_right _ (List.mem_append_left _ (List.mem_of_getElem? (i := 59) rfl)), rfl⟩
theorem tw_60 : (Jvm.Cond.fieldLink "NotationParse" (108 : Nat) "NotationParse$Grammar" "rules" "I") ∈ np_al := List.mem_filter.mpr ⟨List.mem_append_right _ (List.mem_append_left _ (List.mem_of_getElem? (i := 60) rfl)), rfl⟩
theorem tw_61 : (Jvm.Cond.fieldLink "NotationParse$Chart" (68 : Nat) "NotationParse$Grammar" "rules" "I") ∈ np_al := List.mem_filter.mpr ⟨List.mem_append_right _ (List.mem_append_left _ (List.mem_of_getElem? (i := 61) rfl)), rfl⟩
theorem tw_62 : (Jvm.Cond.fieldLink "NotationParse$Grammar" (29 : Nat) "NotationParse$Grammar" "inHand" "I") ∈ np_al := List.mem_filter.mpr ⟨List.mem_append_right _ (List.mem_append_left _ (List.mem_of_getElem? (i := 62) rfl)), rfl⟩
theorem tw_63 : (Jvm.Cond.fieldLink "NotationParse" (68 : Nat) "NotationParse$Grammar" "inHand" "I") ∈ np_al := List.mem_filter.mpr ⟨List.mem_append_right _ (List.mem_append_left _ (List.mem_of_getElem? (i := 63) rfl)), rfl⟩
theorem tw_85 : (Jvm.Cond.fieldLink "NotationParse$Text" (9 : Nat) "NotationParse$Text" "bytes" "[B") ∈ np_al := List.mem_filter.mpr ⟨List.mem_append_right _ (List.mem_append_left _ (List.mem_of_getElem? (i := 85) rfl)), rfl⟩
theorem tw_86 : (Jvm.Cond.fieldLink "NotationParse$Text" (15 : Nat) "NotationParse$Text" "size" "I") ∈ np_al := List.mem_filter.mpr ⟨List.mem_append_right _ (List.mem_append_left _ (List.mem_of_getElem? (i := 86) rfl)), rfl⟩
theorem tw_87 : (Jvm.Cond.fieldLink "NotationParse" (120 : Nat) "NotationParse$Text" "size" "I") ∈ np_al := List.mem_filter.mpr ⟨List.mem_append_right _ (List.mem_append_left _ (List.mem_of_getElem? (i := 87) rfl)), rfl⟩
theorem tw_88 : (Jvm.Cond.fieldLink "NotationParse$Text" (19 : Nat) "NotationParse$Text" "codes" "[J") ∈ np_al := List.mem_filter.mpr ⟨List.mem_append_right _ (List.mem_append_left _ (List.mem_of_getElem? (i := 88) rfl)), rfl⟩
theorem tw_89 : (Jvm.Cond.fieldLink "NotationParse$Output" (28 : Nat) "NotationParse$Text" "codes" "[J") ∈ np_al := List.mem_filter.mpr ⟨List.mem_append_right _ (List.mem_append_left _ (List.mem_of_getElem? (i := 89) rfl)), rfl⟩
theorem tw_90 : (Jvm.Cond.fieldLink "NotationParse$Text" (23 : Nat) "NotationParse$Text" "tokens" "[J") ∈ np_al := List.mem_filter.mpr ⟨List.mem_append_right _ (List.mem_append_left _ (List.mem_of_getElem? (i := 90) rfl)), rfl⟩
theorem tw_91 : (Jvm.Cond.fieldLink "NotationParse" (145 : Nat) "NotationParse$Text" "tokens" "[J") ∈ np_al := List.mem_filter.mpr ⟨List.mem_append_right _ (List.mem_append_left _ (List.mem_of_getElem? (i := 91) rfl)), rfl⟩
theorem tw_92 : (Jvm.Cond.fieldLink "NotationParse$Text" (26 : Nat) "NotationParse$Text" "places" "[I") ∈ np_al := List.mem_filter.mpr ⟨List.mem_append_right _ (List.mem_append_left _ (List.mem_of_getElem? (i := 92) rfl)), rfl⟩
theorem tw_93 : (Jvm.Cond.fieldLink "NotationParse" (153 : Nat) "NotationParse$Text" "places" "[I") ∈ np_al := List.mem_filter.mpr ⟨List.mem_append_right _ (List.mem_append_left _ (List.mem_of_getElem? (i := 93) rfl)), rfl⟩
theorem tw_94 : (Jvm.Cond.fieldLink "NotationParse$Text" (30 : Nat) "NotationParse$Text" "words" "I") ∈ np_al := List.mem_filter.mpr ⟨List.mem_append_right _ (List.mem_append_left _ (List.mem_of_getElem? (i := 94) rfl)), rfl⟩
theorem tw_95 : (Jvm.Cond.fieldLink "NotationParse$Output" (19 : Nat) "NotationParse$Text" "words" "I") ∈ np_al := List.mem_filter.mpr ⟨List.mem_append_right _ (List.mem_append_left _ (List.mem_of_getElem? (i := 95) rfl)), rfl⟩
theorem tw_96 : (Jvm.Cond.fieldLink "NotationParse" (135 : Nat) "NotationParse$Text" "words" "I") ∈ np_al := List.mem_filter.mpr ⟨List.mem_append_right _ (List.mem_append_left _ (List.mem_of_getElem? (i := 96) rfl)), rfl⟩
theorem tw_97 : (Jvm.Cond.fieldLink "NotationParse$Text" (33 : Nat) "NotationParse$Text" "wrongPlace" "I") ∈ np_al := List.mem_filter.mpr ⟨List.mem_append_right _ (List.mem_append_left _ (List.mem_of_getElem? (i := 97) rfl)), rfl⟩
theorem tw_98 : (Jvm.Cond.fieldLink "NotationParse" (161 : Nat) "NotationParse$Text" "wrongPlace" "I") ∈ np_al := List.mem_filter.mpr ⟨List.mem_append_right _ (List.mem_append_left _ (List.mem_of_getElem? (i := 98) rfl)), rfl⟩
theorem tw_121 : (Jvm.Cond.fieldLink "NotationParse$Chart" (21 : Nat) "NotationParse$Chart" "grammar" "LNotationParse$Grammar;") ∈ np_al := List.mem_filter.mpr ⟨List.mem_append_right _ (List.mem_append_left _ (List.mem_of_getElem? (i := 121) rfl)), rfl⟩
theorem tw_122 : (Jvm.Cond.fieldLink "NotationParse$Chart" (9 : Nat) "NotationParse$Chart" "origins" "[I") ∈ np_al := List.mem_filter.mpr ⟨List.mem_append_right _ (List.mem_append_left _ (List.mem_of_getElem? (i := 122) rfl)), rfl⟩
theorem tw_123 : (Jvm.Cond.fieldLink "NotationParse$Chart" (15 : Nat) "NotationParse$Chart" "ways" "[I") ∈ np_al := List.mem_filter.mpr ⟨List.mem_append_right _ (List.mem_append_left _ (List.mem_of_getElem? (i := 123) rfl)), rfl⟩
theorem tw_124 : (Jvm.Cond.fieldLink "NotationParse$Chart" (18 : Nat) "NotationParse$Chart" "trees" "[I") ∈ np_al := List.mem_filter.mpr ⟨List.mem_append_right _ (List.mem_append_left _ (List.mem_of_getElem? (i := 124) rfl)), rfl⟩
theorem tw_140 : (Jvm.Cond.fieldLink "NotationParse$Tree" (49 : Nat) "NotationParse$Tree" "grammar" "LNotationParse$Grammar;") ∈ np_al := List.mem_filter.mpr ⟨List.mem_append_right _ (List.mem_append_left _ (List.mem_of_getElem? (i := 140) rfl)), rfl⟩
theorem tw_141 : (Jvm.Cond.fieldLink "NotationParse$Tree" (53 : Nat) "NotationParse$Tree" "chart" "LNotationParse$Chart;") ∈ np_al := List.mem_filter.mpr ⟨List.mem_append_right _ (List.mem_append_left _ (List.mem_of_getElem? (i := 141) rfl)), rfl⟩
theorem tw_142 : (Jvm.Cond.fieldLink "NotationParse$Tree" (9 : Nat) "NotationParse$Tree" "size" "I") ∈ np_al := List.mem_filter.mpr ⟨List.mem_append_right _ (List.mem_append_left _ (List.mem_of_getElem? (i := 142) rfl)), rfl⟩
theorem tw_143 : (Jvm.Cond.fieldLink "NotationParse" (168 : Nat) "NotationParse$Tree" "size" "I") ∈ np_al := List.mem_filter.mpr ⟨List.mem_append_right _ (List.mem_append_left _ (List.mem_of_getElem? (i := 143) rfl)), rfl⟩
theorem tw_144 : (Jvm.Cond.fieldLink "NotationParse$Tree" (15 : Nat) "NotationParse$Tree" "rules" "[I") ∈ np_al := List.mem_filter.mpr ⟨List.mem_append_right _ (List.mem_append_left _ (List.mem_of_getElem? (i := 144) rfl)), rfl⟩
theorem tw_146 : (Jvm.Cond.fieldLink "NotationParse$Tree" (19 : Nat) "NotationParse$Tree" "children" "[I") ∈ np_al := List.mem_filter.mpr ⟨List.mem_append_right _ (List.mem_append_left _ (List.mem_of_getElem? (i := 146) rfl)), rfl⟩
theorem tw_148 : (Jvm.Cond.fieldLink "NotationParse$Tree" (22 : Nat) "NotationParse$Tree" "firsts" "[I") ∈ np_al := List.mem_filter.mpr ⟨List.mem_append_right _ (List.mem_append_left _ (List.mem_of_getElem? (i := 148) rfl)), rfl⟩
theorem tw_150 : (Jvm.Cond.fieldLink "NotationParse$Tree" (25 : Nat) "NotationParse$Tree" "lengths" "[I") ∈ np_al := List.mem_filter.mpr ⟨List.mem_append_right _ (List.mem_append_left _ (List.mem_of_getElem? (i := 150) rfl)), rfl⟩
theorem tw_152 : (Jvm.Cond.fieldLink "NotationParse$Tree" (28 : Nat) "NotationParse$Tree" "holders" "[I") ∈ np_al := List.mem_filter.mpr ⟨List.mem_append_right _ (List.mem_append_left _ (List.mem_of_getElem? (i := 152) rfl)), rfl⟩
theorem tw_154 : (Jvm.Cond.fieldLink "NotationParse$Tree" (31 : Nat) "NotationParse$Tree" "wanted" "[I") ∈ np_al := List.mem_filter.mpr ⟨List.mem_append_right _ (List.mem_append_left _ (List.mem_of_getElem? (i := 154) rfl)), rfl⟩
theorem tw_155 : (Jvm.Cond.fieldLink "NotationParse$Tree" (34 : Nat) "NotationParse$Tree" "waiting" "I") ∈ np_al := List.mem_filter.mpr ⟨List.mem_append_right _ (List.mem_append_left _ (List.mem_of_getElem? (i := 155) rfl)), rfl⟩
theorem tw_156 : (Jvm.Cond.fieldLink "NotationParse$Tree" (37 : Nat) "NotationParse$Tree" "waitingFrom" "[I") ∈ np_al := List.mem_filter.mpr ⟨List.mem_append_right _ (List.mem_append_left _ (List.mem_of_getElem? (i := 156) rfl)), rfl⟩
theorem tw_157 : (Jvm.Cond.fieldLink "NotationParse$Tree" (40 : Nat) "NotationParse$Tree" "waitingTo" "[I") ∈ np_al := List.mem_filter.mpr ⟨List.mem_append_right _ (List.mem_append_left _ (List.mem_of_getElem? (i := 157) rfl)), rfl⟩
theorem tw_158 : (Jvm.Cond.fieldLink "NotationParse$Tree" (43 : Nat) "NotationParse$Tree" "waitingLevel" "[I") ∈ np_al := List.mem_filter.mpr ⟨List.mem_append_right _ (List.mem_append_left _ (List.mem_of_getElem? (i := 158) rfl)), rfl⟩
theorem tw_159 : (Jvm.Cond.fieldLink "NotationParse$Tree" (46 : Nat) "NotationParse$Tree" "waitingHolder" "[I") ∈ np_al := List.mem_filter.mpr ⟨List.mem_append_right _ (List.mem_append_left _ (List.mem_of_getElem? (i := 159) rfl)), rfl⟩
theorem tw_195 : (Jvm.Cond.fieldLink "NotationParse$Output" (9 : Nat) "NotationParse$Output" "bytes" "[B") ∈ np_al := List.mem_filter.mpr ⟨List.mem_append_right _ (List.mem_append_left _ (List.mem_of_getElem? (i := 195) rfl)), rfl⟩
theorem tw_196 : (Jvm.Cond.fieldLink "NotationParse" (199 : Nat) "NotationParse$Output" "bytes" "[B") ∈ np_al := List.mem_filter.mpr ⟨List.mem_append_right _ (List.mem_append_left _ (List.mem_of_getElem? (i := 196) rfl)), rfl⟩
theorem tw_197 : (Jvm.Cond.fieldLink "NotationParse$Output" (15 : Nat) "NotationParse$Output" "size" "I") ∈ np_al := List.mem_filter.mpr ⟨List.mem_append_right _ (List.mem_append_left _ (List.mem_of_getElem? (i := 197) rfl)), rfl⟩
theorem tw_198 : (Jvm.Cond.fieldLink "NotationParse" (198 : Nat) "NotationParse$Output" "size" "I") ∈ np_al := List.mem_filter.mpr ⟨List.mem_append_right _ (List.mem_append_left _ (List.mem_of_getElem? (i := 198) rfl)), rfl⟩
theorem tw_204 : (Jvm.Cond.fieldLink "NotationParse" (12 : Nat) "NotationParse" "grammar" "LNotationParse$Grammar;") ∈ np_al := List.mem_filter.mpr ⟨List.mem_append_right _ (List.mem_append_left _ (List.mem_of_getElem? (i := 204) rfl)), rfl⟩
theorem tw_205 : (Jvm.Cond.fieldLink "NotationParse" (19 : Nat) "NotationParse" "text" "LNotationParse$Text;") ∈ np_al := List.mem_filter.mpr ⟨List.mem_append_right _ (List.mem_append_left _ (List.mem_of_getElem? (i := 205) rfl)), rfl⟩
theorem tw_206 : (Jvm.Cond.fieldLink "NotationParse" (28 : Nat) "NotationParse" "chart" "LNotationParse$Chart;") ∈ np_al := List.mem_filter.mpr ⟨List.mem_append_right _ (List.mem_append_left _ (List.mem_of_getElem? (i := 206) rfl)), rfl⟩
theorem tw_207 : (Jvm.Cond.fieldLink "NotationParse" (37 : Nat) "NotationParse" "tree" "LNotationParse$Tree;") ∈ np_al := List.mem_filter.mpr ⟨List.mem_append_right _ (List.mem_append_left _ (List.mem_of_getElem? (i := 207) rfl)), rfl⟩
theorem tw_208 : (Jvm.Cond.fieldLink "NotationParse" (44 : Nat) "NotationParse" "output" "LNotationParse$Output;") ∈ np_al := List.mem_filter.mpr ⟨List.mem_append_right _ (List.mem_append_left _ (List.mem_of_getElem? (i := 208) rfl)), rfl⟩
theorem tw_209 : (Jvm.Cond.fieldLink "NotationParse" (48 : Nat) "NotationParse" "faultKind" "I") ∈ np_al := List.mem_filter.mpr ⟨List.mem_append_right _ (List.mem_append_left _ (List.mem_of_getElem? (i := 209) rfl)), rfl⟩
theorem tw_210 : (Jvm.Cond.fieldLink "NotationParse" (52 : Nat) "NotationParse" "faultPlace" "I") ∈ np_al := List.mem_filter.mpr ⟨List.mem_append_right _ (List.mem_append_left _ (List.mem_of_getElem? (i := 210) rfl)), rfl⟩
theorem tw_230 : (Jvm.Cond.methodLink "NotationParse" (123 : Nat) ({ cls := "NotationParse$Text", name := "append", desc := "(JI)V" } : Jvm.MethodName)) ∈ np_al := List.mem_filter.mpr ⟨List.mem_append_right _ (List.mem_append_left _ (List.mem_of_getElem? (i := 230) rfl)), rfl⟩
theorem tw_231 : (Jvm.Cond.instanceMethod ({ cls := "NotationParse$Text", name := "append", desc := "(JI)V" } : Jvm.MethodName)) ∈ np_al := List.mem_filter.mpr ⟨List.mem_append_right _ (List.mem_append_left _ (List.mem_of_getElem? (i := 231) rfl)), rfl⟩
theorem tw_232 : (Jvm.Cond.selects "NotationParse$Text" ({ cls := "NotationParse$Text", name := "append", desc := "(JI)V" } : Jvm.MethodName) ({ cls := "NotationParse$Text", name := "append", desc := "(JI)V" } : Jvm.MethodName)) ∈ np_al := List.mem_filter.mpr ⟨List.mem_append_right _ (List.mem_append_left _ (List.mem_of_getElem? (i := 232) rfl)), rfl⟩
theorem tw_233 : (Jvm.Cond.code ({ cls := "NotationParse$Text", name := "append", desc := "(JI)V" } : Jvm.MethodName) prog_6_method_2_code (5 : Nat) (Option.none : Option Jvm.ClassFile.FieldType)) ∈ np_al := List.mem_filter.mpr ⟨List.mem_append_right _ (List.mem_append_left _ (List.mem_of_getElem? (i := 233) rfl)), rfl⟩
theorem tw_234 : (Jvm.Cond.methodLink "NotationParse$Text" (36 : Nat) ({ cls := "NotationParse$Spelling", name := "byteOf", desc := "(JI)I" } : Jvm.MethodName)) ∈ np_al := List.mem_filter.mpr ⟨List.mem_append_right _ (List.mem_append_left _ (List.mem_of_getElem? (i := 234) rfl)), rfl⟩
theorem tw_235 : (Jvm.Cond.static ({ cls := "NotationParse$Spelling", name := "byteOf", desc := "(JI)I" } : Jvm.MethodName)) ∈ np_al := List.mem_filter.mpr ⟨List.mem_append_right _ (List.mem_append_left _ (List.mem_of_getElem? (i := 235) rfl)), rfl⟩
theorem tw_236 : (Jvm.Cond.code ({ cls := "NotationParse$Spelling", name := "byteOf", desc := "(JI)I" } : Jvm.MethodName) prog_5_method_3_code (3 : Nat) (Option.some Jvm.ClassFile.FieldType.int)) ∈ np_al := List.mem_filter.mpr ⟨List.mem_append_right _ (List.mem_append_left _ (List.mem_of_getElem? (i := 236) rfl)), rfl⟩
theorem tw_253 : (Jvm.Cond.methodLink "NotationParse" (82 : Nat) ({ cls := "NotationParse$Spelling", name := "isSpelled", desc := "(JI)Z" } : Jvm.MethodName)) ∈ np_al := List.mem_filter.mpr ⟨List.mem_append_right _ (List.mem_append_right _ (List.mem_append_left _ (List.mem_of_getElem? (i := 13) rfl))), rfl⟩
theorem tw_254 : (Jvm.Cond.static ({ cls := "NotationParse$Spelling", name := "isSpelled", desc := "(JI)Z" } : Jvm.MethodName)) ∈ np_al := List.mem_filter.mpr ⟨List.mem_append_right _ (List.mem_append_right _ (List.mem_append_left _ (List.mem_of_getElem? (i := 14) rfl))), rfl⟩
theorem tw_255 : (Jvm.Cond.code ({ cls := "NotationParse$Spelling", name := "isSpelled", desc := "(JI)Z" } : Jvm.MethodName) prog_5_method_5_code (5 : Nat) (Option.some Jvm.ClassFile.FieldType.boolean)) ∈ np_al := List.mem_filter.mpr ⟨List.mem_append_right _ (List.mem_append_right _ (List.mem_append_left _ (List.mem_of_getElem? (i := 15) rfl))), rfl⟩
theorem tw_256 : (Jvm.Cond.methodLink "NotationParse$Spelling" (21 : Nat) ({ cls := "NotationParse$Spelling", name := "byteOf", desc := "(JI)I" } : Jvm.MethodName)) ∈ np_al := List.mem_filter.mpr ⟨List.mem_append_right _ (List.mem_append_right _ (List.mem_append_left _ (List.mem_of_getElem? (i := 16) rfl))), rfl⟩
theorem tw_257 : (Jvm.Cond.methodLink "NotationParse$Spelling" (25 : Nat) ({ cls := "NotationParse$Spelling", name := "kindOf", desc := "(I)I" } : Jvm.MethodName)) ∈ np_al := List.mem_filter.mpr ⟨List.mem_append_right _ (List.mem_append_right _ (List.mem_append_left _ (List.mem_of_getElem? (i := 17) rfl))), rfl⟩
theorem tw_258 : (Jvm.Cond.static ({ cls := "NotationParse$Spelling", name := "kindOf", desc := "(I)I" } : Jvm.MethodName)) ∈ np_al := List.mem_filter.mpr ⟨List.mem_append_right _ (List.mem_append_right _ (List.mem_append_left _ (List.mem_of_getElem? (i := 18) rfl))), rfl⟩
theorem tw_259 : (Jvm.Cond.code ({ cls := "NotationParse$Spelling", name := "kindOf", desc := "(I)I" } : Jvm.MethodName) prog_5_method_2_code (1 : Nat) (Option.some Jvm.ClassFile.FieldType.int)) ∈ np_al := List.mem_filter.mpr ⟨List.mem_append_right _ (List.mem_append_right _ (List.mem_append_left _ (List.mem_of_getElem? (i := 19) rfl))), rfl⟩
theorem tw_261 : (Jvm.Cond.methodLink "NotationParse$Spelling" (13 : Nat) ({ cls := "java/lang/String", name := "indexOf", desc := "(I)I" } : Jvm.MethodName)) ∈ np_al := List.mem_filter.mpr ⟨List.mem_append_right _ (List.mem_append_right _ (List.mem_append_left _ (List.mem_of_getElem? (i := 21) rfl))), rfl⟩
theorem tw_262 : (Jvm.Cond.instanceMethod ({ cls := "java/lang/String", name := "indexOf", desc := "(I)I" } : Jvm.MethodName)) ∈ np_al := List.mem_filter.mpr ⟨List.mem_append_right _ (List.mem_append_right _ (List.mem_append_left _ (List.mem_of_getElem? (i := 22) rfl))), rfl⟩
theorem tw_263 : (Jvm.Cond.selects "java/lang/String" ({ cls := "java/lang/String", name := "indexOf", desc := "(I)I" } : Jvm.MethodName) ({ cls := "java/lang/String", name := "indexOf", desc := "(I)I" } : Jvm.MethodName)) ∈ np_al := List.mem_filter.mpr ⟨List.mem_append_right _ (List.mem_append_right _ (List.mem_append_left _ (List.mem_of_getElem? (i := 23) rfl))), rfl⟩
theorem tw_264 : (Jvm.Cond.code ({ cls := "java/lang/String", name := "indexOf", desc := "(I)I" } : Jvm.MethodName) prog_19_method_79_code (2 : Nat) (Option.some Jvm.ClassFile.FieldType.int)) ∈ np_al := List.mem_filter.mpr ⟨List.mem_append_right _ (List.mem_append_right _ (List.mem_append_left _ (List.mem_of_getElem? (i := 24) rfl))), rfl⟩
theorem tw_265 : (Jvm.Cond.methodLink "java/lang/String" (633 : Nat) ({ cls := "java/lang/String", name := "indexOf", desc := "(II)I" } : Jvm.MethodName)) ∈ np_al := List.mem_filter.mpr ⟨List.mem_append_right _ (List.mem_append_right _ (List.mem_append_left _ (List.mem_of_getElem? (i := 25) rfl))), rfl⟩
theorem tw_266 : (Jvm.Cond.instanceMethod ({ cls := "java/lang/String", name := "indexOf", desc := "(II)I" } : Jvm.MethodName)) ∈ np_al := List.mem_filter.mpr ⟨List.mem_append_right _ (List.mem_append_right _ (List.mem_append_left _ (List.mem_of_getElem? (i := 26) rfl))), rfl⟩
theorem tw_267 : (Jvm.Cond.selects "java/lang/String" ({ cls := "java/lang/String", name := "indexOf", desc := "(II)I" } : Jvm.MethodName) ({ cls := "java/lang/String", name := "indexOf", desc := "(II)I" } : Jvm.MethodName)) ∈ np_al := List.mem_filter.mpr ⟨List.mem_append_right _ (List.mem_append_right _ (List.mem_append_left _ (List.mem_of_getElem? (i := 27) rfl))), rfl⟩
theorem tw_268 : (Jvm.Cond.code ({ cls := "java/lang/String", name := "indexOf", desc := "(II)I" } : Jvm.MethodName) prog_19_method_80_code (3 : Nat) (Option.some Jvm.ClassFile.FieldType.int)) ∈ np_al := List.mem_filter.mpr ⟨List.mem_append_right _ (List.mem_append_right _ (List.mem_append_left _ (List.mem_of_getElem? (i := 28) rfl))), rfl⟩
theorem tw_269 : (Jvm.Cond.methodLink "java/lang/String" (492 : Nat) ({ cls := "java/lang/String", name := "isLatin1", desc := "()Z" } : Jvm.MethodName)) ∈ np_al := List.mem_filter.mpr ⟨List.mem_append_right _ (List.mem_append_right _ (List.mem_append_left _ (List.mem_of_getElem? (i := 29) rfl))), rfl⟩
theorem tw_270 : (Jvm.Cond.instanceMethod ({ cls := "java/lang/String", name := "isLatin1", desc := "()Z" } : Jvm.MethodName)) ∈ np_al := List.mem_filter.mpr ⟨List.mem_append_right _ (List.mem_append_right _ (List.mem_append_left _ (List.mem_of_getElem? (i := 30) rfl))), rfl⟩
theorem tw_271 : (Jvm.Cond.selects "java/lang/String" ({ cls := "java/lang/String", name := "isLatin1", desc := "()Z" } : Jvm.MethodName) ({ cls := "java/lang/String", name := "isLatin1", desc := "()Z" } : Jvm.MethodName)) ∈ np_al := List.mem_filter.mpr ⟨List.mem_append_right _ (List.mem_append_right _ (List.mem_append_left _ (List.mem_of_getElem? (i := 31) rfl))), rfl⟩
theorem tw_272 : (Jvm.Cond.code ({ cls := "java/lang/String", name := "isLatin1", desc := "()Z" } : Jvm.MethodName) prog_19_method_154_code (1 : Nat) (Option.some Jvm.ClassFile.FieldType.boolean)) ∈ np_al := List.mem_filter.mpr ⟨List.mem_append_right _ (List.mem_append_right _ (List.mem_append_left _ (List.mem_of_getElem? (i := 32) rfl))), rfl⟩
theorem tw_273 : (Jvm.Cond.fieldLink "java/lang/String" (38 : Nat) "java/lang/String" "COMPACT_STRINGS" "Z") ∈ np_al := List.mem_filter.mpr ⟨List.mem_append_right _ (List.mem_append_right _ (List.mem_append_left _ (List.mem_of_getElem? (i := 33) rfl))), rfl⟩
theorem tw_275 : (Jvm.Cond.methodLink "java/lang/String" (505 : Nat) ({ cls := "java/lang/String", name := "length", desc := "()I" } : Jvm.MethodName)) ∈ np_al := List.mem_filter.mpr ⟨List.mem_append_right _ (List.mem_append_right _ (List.mem_append_left _ (List.mem_of_getElem? (i := 35) rfl))), rfl⟩
theorem tw_276 : (Jvm.Cond.instanceMethod ({ cls := "java/lang/String", name := "length", desc := "()I" } : Jvm.MethodName)) ∈ np_al := List.mem_filter.mpr ⟨List.mem_append_right _ (List.mem_append_right _ (List.mem_append_left _ (List.mem_of_getElem? (i := 36) rfl))), rfl⟩
theorem tw_277 : (Jvm.Cond.selects "java/lang/String" ({ cls := "java/lang/String", name := "length", desc := "()I" } : Jvm.MethodName) ({ cls := "java/lang/String", name := "length", desc := "()I" } : Jvm.MethodName)) ∈ np_al := List.mem_filter.mpr ⟨List.mem_append_right _ (List.mem_append_right _ (List.mem_append_left _ (List.mem_of_getElem? (i := 37) rfl))), rfl⟩
theorem tw_278 : (Jvm.Cond.code ({ cls := "java/lang/String", name := "length", desc := "()I" } : Jvm.MethodName) prog_19_method_54_code (1 : Nat) (Option.some Jvm.ClassFile.FieldType.int)) ∈ np_al := List.mem_filter.mpr ⟨List.mem_append_right _ (List.mem_append_right _ (List.mem_append_left _ (List.mem_of_getElem? (i := 38) rfl))), rfl⟩
theorem tw_279 : (Jvm.Cond.methodLink "java/lang/String" (335 : Nat) ({ cls := "java/lang/String", name := "coder", desc := "()B" } : Jvm.MethodName)) ∈ np_al := List.mem_filter.mpr ⟨List.mem_append_right _ (List.mem_append_right _ (List.mem_append_left _ (List.mem_of_getElem? (i := 39) rfl))), rfl⟩
theorem tw_280 : (Jvm.Cond.instanceMethod ({ cls := "java/lang/String", name := "coder", desc := "()B" } : Jvm.MethodName)) ∈ np_al := List.mem_filter.mpr ⟨List.mem_append_right _ (List.mem_append_right _ (List.mem_append_left _ (List.mem_of_getElem? (i := 40) rfl))), rfl⟩
theorem tw_281 : (Jvm.Cond.selects "java/lang/String" ({ cls := "java/lang/String", name := "coder", desc := "()B" } : Jvm.MethodName) ({ cls := "java/lang/String", name := "coder", desc := "()B" } : Jvm.MethodName)) ∈ np_al := List.mem_filter.mpr ⟨List.mem_append_right _ (List.mem_append_right _ (List.mem_append_left _ (List.mem_of_getElem? (i := 41) rfl))), rfl⟩
theorem tw_282 : (Jvm.Cond.code ({ cls := "java/lang/String", name := "coder", desc := "()B" } : Jvm.MethodName) prog_19_method_152_code (1 : Nat) (Option.some Jvm.ClassFile.FieldType.byte)) ∈ np_al := List.mem_filter.mpr ⟨List.mem_append_right _ (List.mem_append_right _ (List.mem_append_left _ (List.mem_of_getElem? (i := 42) rfl))), rfl⟩
theorem tw_283 : (Jvm.Cond.methodLink "java/lang/String" (637 : Nat) ({ cls := "java/lang/StringLatin1", name := "indexOf", desc := "([BIII)I" } : Jvm.MethodName)) ∈ np_al := List.mem_filter.mpr ⟨List.mem_append_right _ (List.mem_append_right _ (List.mem_append_left _ (List.mem_of_getElem? (i := 43) rfl))), rfl⟩
theorem tw_284 : (Jvm.Cond.static ({ cls := "java/lang/StringLatin1", name := "indexOf", desc := "([BIII)I" } : Jvm.MethodName)) ∈ np_al := List.mem_filter.mpr ⟨List.mem_append_right _ (List.mem_append_right _ (List.mem_append_left _ (List.mem_of_getElem? (i := 44) rfl))), rfl⟩
theorem tw_285 : (Jvm.Cond.code ({ cls := "java/lang/StringLatin1", name := "indexOf", desc := "([BIII)I" } : Jvm.MethodName) prog_21_method_22_code (4 : Nat) (Option.some Jvm.ClassFile.FieldType.int)) ∈ np_al := List.mem_filter.mpr ⟨List.mem_append_right _ (List.mem_append_right _ (List.mem_append_left _ (List.mem_of_getElem? (i := 45) rfl))), rfl⟩
theorem tw_286 : (Jvm.Cond.methodLink "java/lang/StringLatin1" (88 : Nat) ({ cls := "java/lang/StringLatin1", name := "canEncode", desc := "(I)Z" } : Jvm.MethodName)) ∈ np_al := List.mem_filter.mpr ⟨List.mem_append_right _ (List.mem_append_right _ (List.mem_append_left _ (List.mem_of_getElem? (i := 46) rfl))), rfl⟩
theorem tw_287 : (Jvm.Cond.static ({ cls := "java/lang/StringLatin1", name := "canEncode", desc := "(I)Z" } : Jvm.MethodName)) ∈ np_al := List.mem_filter.mpr ⟨List.mem_append_right _ (List.mem_append_right _ (List.mem_append_left _ (List.mem_of_getElem? (i := 47) rfl))), rfl⟩
theorem tw_288 : (Jvm.Cond.code ({ cls := "java/lang/StringLatin1", name := "canEncode", desc := "(I)Z" } : Jvm.MethodName) prog_21_method_4_code (1 : Nat) (Option.some Jvm.ClassFile.FieldType.boolean)) ∈ np_al := List.mem_filter.mpr ⟨List.mem_append_right _ (List.mem_append_right _ (List.mem_append_left _ (List.mem_of_getElem? (i := 48) rfl))), rfl⟩
theorem tw_289 : (Jvm.Cond.methodLink "java/lang/StringLatin1" (92 : Nat) ({ cls := "java/lang/Math", name := "max", desc := "(II)I" } : Jvm.MethodName)) ∈ np_al := List.mem_filter.mpr ⟨List.mem_append_right _ (List.mem_append_right _ (List.mem_append_left _ (List.mem_of_getElem? (i := 49) rfl))), rfl⟩
theorem tw_290 : (Jvm.Cond.static ({ cls := "java/lang/Math", name := "max", desc := "(II)I" } : Jvm.MethodName)) ∈ np_al := List.mem_filter.mpr ⟨List.mem_append_right _ (List.mem_append_right _ (List.mem_append_left _ (List.mem_of_getElem? (i := 50) rfl))), rfl⟩
theorem tw_291 : (Jvm.Cond.code ({ cls := "java/lang/Math", name := "max", desc := "(II)I" } : Jvm.MethodName) prog_17_method_65_code (2 : Nat) (Option.some Jvm.ClassFile.FieldType.int)) ∈ np_al := List.mem_filter.mpr ⟨List.mem_append_right _ (List.mem_append_right _ (List.mem_append_left _ (List.mem_of_getElem? (i := 51) rfl))), rfl⟩
theorem tw_292 : (Jvm.Cond.methodLink "java/lang/StringLatin1" (38 : Nat) ({ cls := "java/lang/Math", name := "min", desc := "(II)I" } : Jvm.MethodName)) ∈ np_al := List.mem_filter.mpr ⟨List.mem_append_right _ (List.mem_append_right _ (List.mem_append_left _ (List.mem_of_getElem? (i := 52) rfl))), rfl⟩
theorem tw_293 : (Jvm.Cond.static ({ cls := "java/lang/Math", name := "min", desc := "(II)I" } : Jvm.MethodName)) ∈ np_al := List.mem_filter.mpr ⟨List.mem_append_right _ (List.mem_append_right _ (List.mem_append_left _ (List.mem_of_getElem? (i := 53) rfl))), rfl⟩
theorem tw_294 : (Jvm.Cond.code ({ cls := "java/lang/Math", name := "min", desc := "(II)I" } : Jvm.MethodName) prog_17_method_69_code (2 : Nat) (Option.some Jvm.ClassFile.FieldType.int)) ∈ np_al := List.mem_filter.mpr ⟨List.mem_append_right _ (List.mem_append_right _ (List.mem_append_left _ (List.mem_of_getElem? (i := 54) rfl))), rfl⟩
theorem tw_295 : (Jvm.Cond.methodLink "java/lang/StringLatin1" (95 : Nat) ({ cls := "java/lang/StringLatin1", name := "indexOfChar", desc := "([BIII)I" } : Jvm.MethodName)) ∈ np_al := List.mem_filter.mpr ⟨List.mem_append_right _ (List.mem_append_right _ (List.mem_append_left _ (List.mem_of_getElem? (i := 55) rfl))), rfl⟩
theorem tw_296 : (Jvm.Cond.static ({ cls := "java/lang/StringLatin1", name := "indexOfChar", desc := "([BIII)I" } : Jvm.MethodName)) ∈ np_al := List.mem_filter.mpr ⟨List.mem_append_right _ (List.mem_append_right _ (List.mem_append_left _ (List.mem_of_getElem? (i := 56) rfl))), rfl⟩
theorem tw_297 : (Jvm.Cond.code ({ cls := "java/lang/StringLatin1", name := "indexOfChar", desc := "([BIII)I" } : Jvm.MethodName) prog_21_method_23_code (6 : Nat) (Option.some Jvm.ClassFile.FieldType.int)) ∈ np_al := List.mem_filter.mpr ⟨List.mem_append_right _ (List.mem_append_right _ (List.mem_append_left _ (List.mem_of_getElem? (i := 57) rfl))), rfl⟩
theorem tw_348 : (Jvm.Cond.methodLink "NotationParse" (90 : Nat) ({ cls := "NotationParse$Spelling", name := "lowBytes", desc := "(JI)J" } : Jvm.MethodName)) ∈ np_al := List.mem_filter.mpr ⟨List.mem_append_right _ (List.mem_append_right _ (List.mem_append_left _ (List.mem_of_getElem? (i := 108) rfl))), rfl⟩
theorem tw_349 : (Jvm.Cond.static ({ cls := "NotationParse$Spelling", name := "lowBytes", desc := "(JI)J" } : Jvm.MethodName)) ∈ np_al := List.mem_filter.mpr ⟨List.mem_append_right _ (List.mem_append_right _ (List.mem_append_left _ (List.mem_of_getElem? (i := 109) rfl))), rfl⟩
theorem tw_350 : (Jvm.Cond.code ({ cls := "NotationParse$Spelling", name := "lowBytes", desc := "(JI)J" } : Jvm.MethodName) prog_5_method_4_code (3 : Nat) (Option.some Jvm.ClassFile.FieldType.long)) ∈ np_al := List.mem_filter.mpr ⟨List.mem_append_right _ (List.mem_append_right _ (List.mem_append_left _ (List.mem_of_getElem? (i := 110) rfl))), rfl⟩
theorem tw_351 : (Jvm.Cond.methodLink "NotationParse" (203 : Nat) ({ cls := "NotationParse$Grammar", name := "hasKey", desc := "(J)Z" } : Jvm.MethodName)) ∈ np_al := List.mem_filter.mpr ⟨List.mem_append_right _ (List.mem_append_right _ (List.mem_append_left _ (List.mem_of_getElem? (i := 111) rfl))), rfl⟩
theorem tw_352 : (Jvm.Cond.instanceMethod ({ cls := "NotationParse$Grammar", name := "hasKey", desc := "(J)Z" } : Jvm.MethodName)) ∈ np_al := List.mem_filter.mpr ⟨List.mem_append_right _ (List.mem_append_right _ (List.mem_append_left _ (List.mem_of_getElem? (i := 112) rfl))), rfl⟩
theorem tw_353 : (Jvm.Cond.selects "NotationParse$Grammar" ({ cls := "NotationParse$Grammar", name := "hasKey", desc := "(J)Z" } : Jvm.MethodName) ({ cls := "NotationParse$Grammar", name := "hasKey", desc := "(J)Z" } : Jvm.MethodName)) ∈ np_al := List.mem_filter.mpr ⟨List.mem_append_right _ (List.mem_append_right _ (List.mem_append_left _ (List.mem_of_getElem? (i := 113) rfl))), rfl⟩
theorem tw_354 : (Jvm.Cond.code ({ cls := "NotationParse$Grammar", name := "hasKey", desc := "(J)Z" } : Jvm.MethodName) prog_3_method_9_code (4 : Nat) (Option.some Jvm.ClassFile.FieldType.boolean)) ∈ np_al := List.mem_filter.mpr ⟨List.mem_append_right _ (List.mem_append_right _ (List.mem_append_left _ (List.mem_of_getElem? (i := 114) rfl))), rfl⟩
theorem tw_355 : (Jvm.Cond.methodLink "NotationParse$Grammar" (47 : Nat) ({ cls := "NotationParse$Grammar", name := "usedDots", desc := "()I" } : Jvm.MethodName)) ∈ np_al := List.mem_filter.mpr ⟨List.mem_append_right _ (List.mem_append_right _ (List.mem_append_left _ (List.mem_of_getElem? (i := 115) rfl))), rfl⟩
theorem tw_356 : (Jvm.Cond.instanceMethod ({ cls := "NotationParse$Grammar", name := "usedDots", desc := "()I" } : Jvm.MethodName)) ∈ np_al := List.mem_filter.mpr ⟨List.mem_append_right _ (List.mem_append_right _ (List.mem_append_left _ (List.mem_of_getElem? (i := 116) rfl))), rfl⟩
theorem tw_357 : (Jvm.Cond.selects "NotationParse$Grammar" ({ cls := "NotationParse$Grammar", name := "usedDots", desc := "()I" } : Jvm.MethodName) ({ cls := "NotationParse$Grammar", name := "usedDots", desc := "()I" } : Jvm.MethodName)) ∈ np_al := List.mem_filter.mpr ⟨List.mem_append_right _ (List.mem_append_right _ (List.mem_append_left _ (List.mem_of_getElem? (i := 117) rfl))), rfl⟩
theorem tw_358 : (Jvm.Cond.code ({ cls := "NotationParse$Grammar", name := "usedDots", desc := "()I" } : Jvm.MethodName) prog_3_method_2_code (1 : Nat) (Option.some Jvm.ClassFile.FieldType.int)) ∈ np_al := List.mem_filter.mpr ⟨List.mem_append_right _ (List.mem_append_right _ (List.mem_append_left _ (List.mem_of_getElem? (i := 118) rfl))), rfl⟩
theorem tw_487 : (Jvm.Cond.methodLink "NotationParse" (103 : Nat) ({ cls := "NotationParse$Grammar", name := "dropHand", desc := "()V" } : Jvm.MethodName)) ∈ np_al := List.mem_filter.mpr ⟨List.mem_append_right _ (List.mem_append_right _ (List.mem_append_right _ (List.mem_append_left _ (List.mem_of_getElem? (i := 7) rfl)))), rfl⟩
theorem tw_488 : (Jvm.Cond.instanceMethod ({ cls := "NotationParse$Grammar", name := "dropHand", desc := "()V" } : Jvm.MethodName)) ∈ np_al := List.mem_filter.mpr ⟨List.mem_append_right _ (List.mem_append_right _ (List.mem_append_right _ (List.mem_append_left _ (List.mem_of_getElem? (i := 8) rfl)))), rfl⟩
theorem tw_489 : (Jvm.Cond.selects "NotationParse$Grammar" ({ cls := "NotationParse$Grammar", name := "dropHand", desc := "()V" } : Jvm.MethodName) ({ cls := "NotationParse$Grammar", name := "dropHand", desc := "()V" } : Jvm.MethodName)) ∈ np_al := List.mem_filter.mpr ⟨List.mem_append_right _ (List.mem_append_right _ (List.mem_append_right _ (List.mem_append_left _ (List.mem_of_getElem? (i := 9) rfl)))), rfl⟩
theorem tw_490 : (Jvm.Cond.code ({ cls := "NotationParse$Grammar", name := "dropHand", desc := "()V" } : Jvm.MethodName) prog_3_method_7_code (1 : Nat) (Option.none : Option Jvm.ClassFile.FieldType)) ∈ np_al := List.mem_filter.mpr ⟨List.mem_append_right _ (List.mem_append_right _ (List.mem_append_right _ (List.mem_append_left _ (List.mem_of_getElem? (i := 10) rfl)))), rfl⟩
theorem tw_491 : (Jvm.Cond.methodLink "NotationParse$Grammar" (51 : Nat) ({ cls := "java/util/Arrays", name := "fill", desc := "([IIII)V" } : Jvm.MethodName)) ∈ np_al := List.mem_filter.mpr ⟨List.mem_append_right _ (List.mem_append_right _ (List.mem_append_right _ (List.mem_append_left _ (List.mem_of_getElem? (i := 11) rfl)))), rfl⟩
theorem tw_492 : (Jvm.Cond.static ({ cls := "java/util/Arrays", name := "fill", desc := "([IIII)V" } : Jvm.MethodName)) ∈ np_al := List.mem_filter.mpr ⟨List.mem_append_right _ (List.mem_append_right _ (List.mem_append_right _ (List.mem_append_left _ (List.mem_of_getElem? (i := 12) rfl)))), rfl⟩
theorem tw_493 : (Jvm.Cond.code ({ cls := "java/util/Arrays", name := "fill", desc := "([IIII)V" } : Jvm.MethodName) prog_25_method_104_code (5 : Nat) (Option.none : Option Jvm.ClassFile.FieldType)) ∈ np_al := List.mem_filter.mpr ⟨List.mem_append_right _ (List.mem_append_right _ (List.mem_append_right _ (List.mem_append_left _ (List.mem_of_getElem? (i := 13) rfl)))), rfl⟩
theorem tw_494 : (Jvm.Cond.methodLink "java/util/Arrays" (13 : Nat) ({ cls := "java/util/Arrays", name := "rangeCheck", desc := "(III)V" } : Jvm.MethodName)) ∈ np_al := List.mem_filter.mpr ⟨List.mem_append_right _ (List.mem_append_right _ (List.mem_append_right _ (List.mem_append_left _ (List.mem_of_getElem? (i := 14) rfl)))), rfl⟩
theorem tw_495 : (Jvm.Cond.static ({ cls := "java/util/Arrays", name := "rangeCheck", desc := "(III)V" } : Jvm.MethodName)) ∈ np_al := List.mem_filter.mpr ⟨List.mem_append_right _ (List.mem_append_right _ (List.mem_append_right _ (List.mem_append_left _ (List.mem_of_getElem? (i := 15) rfl)))), rfl⟩
theorem tw_496 : (Jvm.Cond.code ({ cls := "java/util/Arrays", name := "rangeCheck", desc := "(III)V" } : Jvm.MethodName) prog_25_method_30_code (3 : Nat) (Option.none : Option Jvm.ClassFile.FieldType)) ∈ np_al := List.mem_filter.mpr ⟨List.mem_append_right _ (List.mem_append_right _ (List.mem_append_right _ (List.mem_append_left _ (List.mem_of_getElem? (i := 16) rfl)))), rfl⟩
theorem tw_692 : (Jvm.Cond.fieldLink "java/lang/String" (9 : Nat) "java/lang/String" "value" "[B") ∈ np_al := List.mem_filter.mpr ⟨List.mem_append_right _ (List.mem_append_right _ (List.mem_append_right _ (List.mem_append_left _ (List.mem_of_getElem? (i := 212) rfl)))), rfl⟩
theorem tw_693 : (Jvm.Cond.fieldLink "java/lang/String" (15 : Nat) "java/lang/String" "coder" "B") ∈ np_al := List.mem_filter.mpr ⟨List.mem_append_right _ (List.mem_append_right _ (List.mem_append_right _ (List.mem_append_left _ (List.mem_of_getElem? (i := 213) rfl)))), rfl⟩
theorem tw_703 : (Jvm.Cond.methodLink "NotationParse$Grammar" (54 : Nat) ({ cls := "java/util/Arrays", name := "fill", desc := "([JIIJ)V" } : Jvm.MethodName)) ∈ np_al := List.mem_filter.mpr ⟨List.mem_append_right _ (List.mem_append_right _ (List.mem_append_right _ (List.mem_append_left _ (List.mem_of_getElem? (i := 223) rfl)))), rfl⟩
theorem tw_704 : (Jvm.Cond.static ({ cls := "java/util/Arrays", name := "fill", desc := "([JIIJ)V" } : Jvm.MethodName)) ∈ np_al := List.mem_filter.mpr ⟨List.mem_append_right _ (List.mem_append_right _ (List.mem_append_right _ (List.mem_append_left _ (List.mem_of_getElem? (i := 224) rfl)))), rfl⟩
theorem tw_705 : (Jvm.Cond.code ({ cls := "java/util/Arrays", name := "fill", desc := "([JIIJ)V" } : Jvm.MethodName) prog_25_method_102_code (6 : Nat) (Option.none : Option Jvm.ClassFile.FieldType)) ∈ np_al := List.mem_filter.mpr ⟨List.mem_append_right _ (List.mem_append_right _ (List.mem_append_right _ (List.mem_append_left _ (List.mem_of_getElem? (i := 225) rfl)))), rfl⟩
theorem tw_708 : (Jvm.Cond.methodLink "NotationParse" (113 : Nat) ({ cls := "NotationParse$Tree", name := "fell", desc := "()V" } : Jvm.MethodName)) ∈ np_al := List.mem_filter.mpr ⟨List.mem_append_right _ (List.mem_append_right _ (List.mem_append_right _ (List.mem_append_left _ (List.mem_of_getElem? (i := 228) rfl)))), rfl⟩
theorem tw_709 : (Jvm.Cond.instanceMethod ({ cls := "NotationParse$Tree", name := "fell", desc := "()V" } : Jvm.MethodName)) ∈ np_al := List.mem_filter.mpr ⟨List.mem_append_right _ (List.mem_append_right _ (List.mem_append_right _ (List.mem_append_left _ (List.mem_of_getElem? (i := 229) rfl)))), rfl⟩
theorem tw_710 : (Jvm.Cond.selects "NotationParse$Tree" ({ cls := "NotationParse$Tree", name := "fell", desc := "()V" } : Jvm.MethodName) ({ cls := "NotationParse$Tree", name := "fell", desc := "()V" } : Jvm.MethodName)) ∈ np_al := List.mem_filter.mpr ⟨List.mem_append_right _ (List.mem_append_right _ (List.mem_append_right _ (List.mem_append_left _ (List.mem_of_getElem? (i := 230) rfl)))), rfl⟩
theorem tw_711 : (Jvm.Cond.code ({ cls := "NotationParse$Tree", name := "fell", desc := "()V" } : Jvm.MethodName) prog_7_method_2_code (1 : Nat) (Option.none : Option Jvm.ClassFile.FieldType)) ∈ np_al := List.mem_filter.mpr ⟨List.mem_append_right _ (List.mem_append_right _ (List.mem_append_right _ (List.mem_append_left _ (List.mem_of_getElem? (i := 231) rfl)))), rfl⟩
theorem tw_723 : (Jvm.Cond.methodLink "NotationParse" (127 : Nat) ({ cls := "NotationParse$Text", name := "cut", desc := "(LNotationParse$Grammar;)V" } : Jvm.MethodName)) ∈ np_al := List.mem_filter.mpr ⟨List.mem_append_right _ (List.mem_append_right _ (List.mem_append_right _ (List.mem_append_right _ (List.mem_append_left _ (List.mem_of_getElem? (i := 3) rfl))))), rfl⟩
theorem tw_724 : (Jvm.Cond.instanceMethod ({ cls := "NotationParse$Text", name := "cut", desc := "(LNotationParse$Grammar;)V" } : Jvm.MethodName)) ∈ np_al := List.mem_filter.mpr ⟨List.mem_append_right _ (List.mem_append_right _ (List.mem_append_right _ (List.mem_append_right _ (List.mem_append_left _ (List.mem_of_getElem? (i := 4) rfl))))), rfl⟩
theorem tw_725 : (Jvm.Cond.selects "NotationParse$Text" ({ cls := "NotationParse$Text", name := "cut", desc := "(LNotationParse$Grammar;)V" } : Jvm.MethodName) ({ cls := "NotationParse$Text", name := "cut", desc := "(LNotationParse$Grammar;)V" } : Jvm.MethodName)) ∈ np_al := List.mem_filter.mpr ⟨List.mem_append_right _ (List.mem_append_right _ (List.mem_append_right _ (List.mem_append_right _ (List.mem_append_left _ (List.mem_of_getElem? (i := 5) rfl))))), rfl⟩
theorem tw_726 : (Jvm.Cond.code ({ cls := "NotationParse$Text", name := "cut", desc := "(LNotationParse$Grammar;)V" } : Jvm.MethodName) prog_6_method_3_code (6 : Nat) (Option.none : Option Jvm.ClassFile.FieldType)) ∈ np_al := List.mem_filter.mpr ⟨List.mem_append_right _ (List.mem_append_right _ (List.mem_append_right _ (List.mem_append_right _ (List.mem_append_left _ (List.mem_of_getElem? (i := 6) rfl))))), rfl⟩
theorem tw_727 : (Jvm.Cond.methodLink "NotationParse$Text" (42 : Nat) ({ cls := "NotationParse$Text", name := "kindAt", desc := "(I)I" } : Jvm.MethodName)) ∈ np_al := List.mem_filter.mpr ⟨List.mem_append_right _ (List.mem_append_right _ (List.mem_append_right _ (List.mem_append_right _ (List.mem_append_left _ (List.mem_of_getElem? (i := 7) rfl))))), rfl⟩
theorem tw_729 : (Jvm.Cond.instanceMethod ({ cls := "NotationParse$Text", name := "kindAt", desc := "(I)I" } : Jvm.MethodName)) ∈ np_al := List.mem_filter.mpr ⟨List.mem_append_right _ (List.mem_append_right _ (List.mem_append_right _ (List.mem_append_right _ (List.mem_append_left _ (List.mem_of_getElem? (i := 9) rfl))))), rfl⟩
theorem tw_730 : (Jvm.Cond.code ({ cls := "NotationParse$Text", name := "kindAt", desc := "(I)I" } : Jvm.MethodName) prog_6_method_4_code (2 : Nat) (Option.some Jvm.ClassFile.FieldType.int)) ∈ np_al := List.mem_filter.mpr ⟨List.mem_append_right _ (List.mem_append_right _ (List.mem_append_right _ (List.mem_append_right _ (List.mem_append_left _ (List.mem_of_getElem? (i := 10) rfl))))), rfl⟩
theorem tw_731 : (Jvm.Cond.methodLink "NotationParse$Text" (54 : Nat) ({ cls := "NotationParse$Spelling", name := "kindOf", desc := "(I)I" } : Jvm.MethodName)) ∈ np_al := List.mem_filter.mpr ⟨List.mem_append_right _ (List.mem_append_right _ (List.mem_append_right _ (List.mem_append_right _ (List.mem_append_left _ (List.mem_of_getElem? (i := 11) rfl))))), rfl⟩
theorem tw_732 : (Jvm.Cond.methodLink "NotationParse$Text" (46 : Nat) ({ cls := "NotationParse$Text", name := "endOfRow", desc := "(II)I" } : Jvm.MethodName)) ∈ np_al := List.mem_filter.mpr ⟨List.mem_append_right _ (List.mem_append_right _ (List.mem_append_right _ (List.mem_append_right _ (List.mem_append_left _ (List.mem_of_getElem? (i := 12) rfl))))), rfl⟩
theorem tw_734 : (Jvm.Cond.instanceMethod ({ cls := "NotationParse$Text", name := "endOfRow", desc := "(II)I" } : Jvm.MethodName)) ∈ np_al := List.mem_filter.mpr ⟨List.mem_append_right _ (List.mem_append_right _ (List.mem_append_right _ (List.mem_append_right _ (List.mem_append_left _ (List.mem_of_getElem? (i := 14) rfl))))), rfl⟩
theorem tw_735 : (Jvm.Cond.code ({ cls := "NotationParse$Text", name := "endOfRow", desc := "(II)I" } : Jvm.MethodName) prog_6_method_5_code (4 : Nat) (Option.some Jvm.ClassFile.FieldType.int)) ∈ np_al := List.mem_filter.mpr ⟨List.mem_append_right _ (List.mem_append_right _ (List.mem_append_right _ (List.mem_append_right _ (List.mem_append_left _ (List.mem_of_getElem? (i := 15) rfl))))), rfl⟩
theorem tw_736 : (Jvm.Cond.methodLink "NotationParse$Text" (50 : Nat) ({ cls := "NotationParse$Text", name := "takeRow", desc := "(IIILNotationParse$Grammar;)V" } : Jvm.MethodName)) ∈ np_al := List.mem_filter.mpr ⟨List.mem_append_right _ (List.mem_append_right _ (List.mem_append_right _ (List.mem_append_right _ (List.mem_append_left _ (List.mem_of_getElem? (i := 16) rfl))))), rfl⟩
theorem tw_738 : (Jvm.Cond.instanceMethod ({ cls := "NotationParse$Text", name := "takeRow", desc := "(IIILNotationParse$Grammar;)V" } : Jvm.MethodName)) ∈ np_al := List.mem_filter.mpr ⟨List.mem_append_right _ (List.mem_append_right _ (List.mem_append_right _ (List.mem_append_right _ (List.mem_append_left _ (List.mem_of_getElem? (i := 18) rfl))))), rfl⟩
theorem tw_739 : (Jvm.Cond.code ({ cls := "NotationParse$Text", name := "takeRow", desc := "(IIILNotationParse$Grammar;)V" } : Jvm.MethodName) prog_6_method_6_code (9 : Nat) (Option.none : Option Jvm.ClassFile.FieldType)) ∈ np_al := List.mem_filter.mpr ⟨List.mem_append_right _ (List.mem_append_right _ (List.mem_append_right _ (List.mem_append_right _ (List.mem_append_left _ (List.mem_of_getElem? (i := 19) rfl))))), rfl⟩
theorem tw_740 : (Jvm.Cond.methodLink "NotationParse$Text" (57 : Nat) ({ cls := "NotationParse$Grammar", name := "hasKey", desc := "(J)Z" } : Jvm.MethodName)) ∈ np_al := List.mem_filter.mpr ⟨List.mem_append_right _ (List.mem_append_right _ (List.mem_append_right _ (List.mem_append_right _ (List.mem_append_left _ (List.mem_of_getElem? (i := 20) rfl))))), rfl⟩
theorem tw_741 : (Jvm.Cond.methodLink "NotationParse" (130 : Nat) ({ cls := "NotationParse", name := "findFault", desc := "()V" } : Jvm.MethodName)) ∈ np_al := List.mem_filter.mpr ⟨List.mem_append_right _ (List.mem_append_right _ (List.mem_append_right _ (List.mem_append_right _ (List.mem_append_left _ (List.mem_of_getElem? (i := 21) rfl))))), rfl⟩
theorem tw_743 : (Jvm.Cond.instanceMethod ({ cls := "NotationParse", name := "findFault", desc := "()V" } : Jvm.MethodName)) ∈ np_al := List.mem_filter.mpr ⟨List.mem_append_right _ (List.mem_append_right _ (List.mem_append_right _ (List.mem_append_right _ (List.mem_append_left _ (List.mem_of_getElem? (i := 23) rfl))))), rfl⟩
theorem tw_744 : (Jvm.Cond.code ({ cls := "NotationParse", name := "findFault", desc := "()V" } : Jvm.MethodName) prog_1_method_8_code (2 : Nat) (Option.none : Option Jvm.ClassFile.FieldType)) ∈ np_al := List.mem_filter.mpr ⟨List.mem_append_right _ (List.mem_append_right _ (List.mem_append_right _ (List.mem_append_right _ (List.mem_append_left _ (List.mem_of_getElem? (i := 24) rfl))))), rfl⟩
theorem tw_745 : (Jvm.Cond.methodLink "NotationParse" (149 : Nat) ({ cls := "NotationParse$Chart", name := "follow", desc := "([JI)I" } : Jvm.MethodName)) ∈ np_al := List.mem_filter.mpr ⟨List.mem_append_right _ (List.mem_append_right _ (List.mem_append_right _ (List.mem_append_right _ (List.mem_append_left _ (List.mem_of_getElem? (i := 25) rfl))))), rfl⟩
theorem tw_746 : (Jvm.Cond.instanceMethod ({ cls := "NotationParse$Chart", name := "follow", desc := "([JI)I" } : Jvm.MethodName)) ∈ np_al := List.mem_filter.mpr ⟨List.mem_append_right _ (List.mem_append_right _ (List.mem_append_right _ (List.mem_append_right _ (List.mem_append_left _ (List.mem_of_getElem? (i := 26) rfl))))), rfl⟩
theorem tw_747 : (Jvm.Cond.selects "NotationParse$Chart" ({ cls := "NotationParse$Chart", name := "follow", desc := "([JI)I" } : Jvm.MethodName) ({ cls := "NotationParse$Chart", name := "follow", desc := "([JI)I" } : Jvm.MethodName)) ∈ np_al := List.mem_filter.mpr ⟨List.mem_append_right _ (List.mem_append_right _ (List.mem_append_right _ (List.mem_append_right _ (List.mem_append_left _ (List.mem_of_getElem? (i := 27) rfl))))), rfl⟩
theorem tw_748 : (Jvm.Cond.code ({ cls := "NotationParse$Chart", name := "follow", desc := "([JI)I" } : Jvm.MethodName) prog_2_method_2_code (4 : Nat) (Option.some Jvm.ClassFile.FieldType.int)) ∈ np_al := List.mem_filter.mpr ⟨List.mem_append_right _ (List.mem_append_right _ (List.mem_append_right _ (List.mem_append_right _ (List.mem_append_left _ (List.mem_of_getElem? (i := 28) rfl))))), rfl⟩
theorem tw_749 : (Jvm.Cond.methodLink "NotationParse$Chart" (25 : Nat) ({ cls := "NotationParse$Chart", name := "emptyRow", desc := "(I)V" } : Jvm.MethodName)) ∈ np_al := List.mem_filter.mpr ⟨List.mem_append_right _ (List.mem_append_right _ (List.mem_append_right _ (List.mem_append_right _ (List.mem_append_left _ (List.mem_of_getElem? (i := 29) rfl))))), rfl⟩
theorem tw_751 : (Jvm.Cond.instanceMethod ({ cls := "NotationParse$Chart", name := "emptyRow", desc := "(I)V" } : Jvm.MethodName)) ∈ np_al := List.mem_filter.mpr ⟨List.mem_append_right _ (List.mem_append_right _ (List.mem_append_right _ (List.mem_append_right _ (List.mem_append_left _ (List.mem_of_getElem? (i := 31) rfl))))), rfl⟩
theorem tw_752 : (Jvm.Cond.code ({ cls := "NotationParse$Chart", name := "emptyRow", desc := "(I)V" } : Jvm.MethodName) prog_2_method_4_code (2 : Nat) (Option.none : Option Jvm.ClassFile.FieldType)) ∈ np_al := List.mem_filter.mpr ⟨List.mem_append_right _ (List.mem_append_right _ (List.mem_append_right _ (List.mem_append_right _ (List.mem_append_left _ (List.mem_of_getElem? (i := 32) rfl))))), rfl⟩
theorem tw_753 : (Jvm.Cond.methodLink "NotationParse$Chart" (48 : Nat) ({ cls := "java/util/Arrays", name := "fill", desc := "([IIII)V" } : Jvm.MethodName)) ∈ np_al := List.mem_filter.mpr ⟨List.mem_append_right _ (List.mem_append_right _ (List.mem_append_right _ (List.mem_append_right _ (List.mem_append_left _ (List.mem_of_getElem? (i := 33) rfl))))), rfl⟩
theorem tw_754 : (Jvm.Cond.methodLink "NotationParse$Chart" (29 : Nat) ({ cls := "NotationParse$Chart", name := "predict", desc := "(II)V" } : Jvm.MethodName)) ∈ np_al := List.mem_filter.mpr ⟨List.mem_append_right _ (List.mem_append_right _ (List.mem_append_right _ (List.mem_append_right _ (List.mem_append_left _ (List.mem_of_getElem? (i := 34) rfl))))), rfl⟩
theorem tw_756 : (Jvm.Cond.instanceMethod ({ cls := "NotationParse$Chart", name := "predict", desc := "(II)V" } : Jvm.MethodName)) ∈ np_al := List.mem_filter.mpr ⟨List.mem_append_right _ (List.mem_append_right _ (List.mem_append_right _ (List.mem_append_right _ (List.mem_append_left _ (List.mem_of_getElem? (i := 36) rfl))))), rfl⟩
theorem tw_757 : (Jvm.Cond.code ({ cls := "NotationParse$Chart", name := "predict", desc := "(II)V" } : Jvm.MethodName) prog_2_method_11_code (7 : Nat) (Option.none : Option Jvm.ClassFile.FieldType)) ∈ np_al := List.mem_filter.mpr ⟨List.mem_append_right _ (List.mem_append_right _ (List.mem_append_right _ (List.mem_append_right _ (List.mem_append_left _ (List.mem_of_getElem? (i := 37) rfl))))), rfl⟩
theorem tw_758 : (Jvm.Cond.methodLink "NotationParse$Chart" (85 : Nat) ({ cls := "NotationParse$Chart", name := "leastFirstHole", desc := "(I)I" } : Jvm.MethodName)) ∈ np_al := List.mem_filter.mpr ⟨List.mem_append_right _ (List.mem_append_right _ (List.mem_append_right _ (List.mem_append_right _ (List.mem_append_left _ (List.mem_of_getElem? (i := 38) rfl))))), rfl⟩
theorem tw_760 : (Jvm.Cond.instanceMethod ({ cls := "NotationParse$Chart", name := "leastFirstHole", desc := "(I)I" } : Jvm.MethodName)) ∈ np_al := List.mem_filter.mpr ⟨List.mem_append_right _ (List.mem_append_right _ (List.mem_append_right _ (List.mem_append_right _ (List.mem_append_left _ (List.mem_of_getElem? (i := 40) rfl))))), rfl⟩
theorem tw_761 : (Jvm.Cond.code ({ cls := "NotationParse$Chart", name := "leastFirstHole", desc := "(I)I" } : Jvm.MethodName) prog_2_method_12_code (5 : Nat) (Option.some Jvm.ClassFile.FieldType.int)) ∈ np_al := List.mem_filter.mpr ⟨List.mem_append_right _ (List.mem_append_right _ (List.mem_append_right _ (List.mem_append_right _ (List.mem_append_left _ (List.mem_of_getElem? (i := 41) rfl))))), rfl⟩
theorem tw_762 : (Jvm.Cond.methodLink "NotationParse$Chart" (33 : Nat) ({ cls := "NotationParse$Chart", name := "scan", desc := "(IJ)Z" } : Jvm.MethodName)) ∈ np_al := List.mem_filter.mpr ⟨List.mem_append_right _ (List.mem_append_right _ (List.mem_append_right _ (List.mem_append_right _ (List.mem_append_left _ (List.mem_of_getElem? (i := 42) rfl))))), rfl⟩
theorem tw_764 : (Jvm.Cond.instanceMethod ({ cls := "NotationParse$Chart", name := "scan", desc := "(IJ)Z" } : Jvm.MethodName)) ∈ np_al := List.mem_filter.mpr ⟨List.mem_append_right _ (List.mem_append_right _ (List.mem_append_right _ (List.mem_append_right _ (List.mem_append_left _ (List.mem_of_getElem? (i := 44) rfl))))), rfl⟩
theorem tw_765 : (Jvm.Cond.code ({ cls := "NotationParse$Chart", name := "scan", desc := "(IJ)Z" } : Jvm.MethodName) prog_2_method_6_code (8 : Nat) (Option.some Jvm.ClassFile.FieldType.boolean)) ∈ np_al := List.mem_filter.mpr ⟨List.mem_append_right _ (List.mem_append_right _ (List.mem_append_right _ (List.mem_append_right _ (List.mem_append_left _ (List.mem_of_getElem? (i := 45) rfl))))), rfl⟩
theorem tw_766 : (Jvm.Cond.methodLink "NotationParse$Chart" (54 : Nat) ({ cls := "NotationParse$Grammar", name := "usedDots", desc := "()I" } : Jvm.MethodName)) ∈ np_al := List.mem_filter.mpr ⟨List.mem_append_right _ (List.mem_append_right _ (List.mem_append_right _ (List.mem_append_right _ (List.mem_append_left _ (List.mem_of_getElem? (i := 46) rfl))))), rfl⟩
theorem tw_767 : (Jvm.Cond.methodLink "NotationParse$Chart" (37 : Nat) ({ cls := "NotationParse$Chart", name := "complete", desc := "(I)V" } : Jvm.MethodName)) ∈ np_al := List.mem_filter.mpr ⟨List.mem_append_right _ (List.mem_append_right _ (List.mem_append_right _ (List.mem_append_right _ (List.mem_append_left _ (List.mem_of_getElem? (i := 47) rfl))))), rfl⟩
theorem tw_769 : (Jvm.Cond.instanceMethod ({ cls := "NotationParse$Chart", name := "complete", desc := "(I)V" } : Jvm.MethodName)) ∈ np_al := List.mem_filter.mpr ⟨List.mem_append_right _ (List.mem_append_right _ (List.mem_append_right _ (List.mem_append_right _ (List.mem_append_left _ (List.mem_of_getElem? (i := 49) rfl))))), rfl⟩
theorem tw_770 : (Jvm.Cond.code ({ cls := "NotationParse$Chart", name := "complete", desc := "(I)V" } : Jvm.MethodName) prog_2_method_7_code (4 : Nat) (Option.none : Option Jvm.ClassFile.FieldType)) ∈ np_al := List.mem_filter.mpr ⟨List.mem_append_right _ (List.mem_append_right _ (List.mem_append_right _ (List.mem_append_right _ (List.mem_append_left _ (List.mem_of_getElem? (i := 50) rfl))))), rfl⟩
theorem tw_771 : (Jvm.Cond.methodLink "NotationParse$Chart" (44 : Nat) ({ cls := "NotationParse$Chart", name := "highestTerm", desc := "(II)I" } : Jvm.MethodName)) ∈ np_al := List.mem_filter.mpr ⟨List.mem_append_right _ (List.mem_append_right _ (List.mem_append_right _ (List.mem_append_right _ (List.mem_append_left _ (List.mem_of_getElem? (i := 51) rfl))))), rfl⟩
theorem tw_773 : (Jvm.Cond.instanceMethod ({ cls := "NotationParse$Chart", name := "highestTerm", desc := "(II)I" } : Jvm.MethodName)) ∈ np_al := List.mem_filter.mpr ⟨List.mem_append_right _ (List.mem_append_right _ (List.mem_append_right _ (List.mem_append_right _ (List.mem_append_left _ (List.mem_of_getElem? (i := 53) rfl))))), rfl⟩
theorem tw_774 : (Jvm.Cond.code ({ cls := "NotationParse$Chart", name := "highestTerm", desc := "(II)I" } : Jvm.MethodName) prog_2_method_8_code (5 : Nat) (Option.some Jvm.ClassFile.FieldType.int)) ∈ np_al := List.mem_filter.mpr ⟨List.mem_append_right _ (List.mem_append_right _ (List.mem_append_right _ (List.mem_append_right _ (List.mem_append_left _ (List.mem_of_getElem? (i := 54) rfl))))), rfl⟩
theorem tw_775 : (Jvm.Cond.methodLink "NotationParse$Chart" (75 : Nat) ({ cls := "NotationParse$Grammar", name := "lastDot", desc := "(I)I" } : Jvm.MethodName)) ∈ np_al := List.mem_filter.mpr ⟨List.mem_append_right _ (List.mem_append_right _ (List.mem_append_right _ (List.mem_append_right _ (List.mem_append_left _ (List.mem_of_getElem? (i := 55) rfl))))), rfl⟩
theorem tw_776 : (Jvm.Cond.instanceMethod ({ cls := "NotationParse$Grammar", name := "lastDot", desc := "(I)I" } : Jvm.MethodName)) ∈ np_al := List.mem_filter.mpr ⟨List.mem_append_right _ (List.mem_append_right _ (List.mem_append_right _ (List.mem_append_right _ (List.mem_append_left _ (List.mem_of_getElem? (i := 56) rfl))))), rfl⟩
theorem tw_777 : (Jvm.Cond.selects "NotationParse$Grammar" ({ cls := "NotationParse$Grammar", name := "lastDot", desc := "(I)I" } : Jvm.MethodName) ({ cls := "NotationParse$Grammar", name := "lastDot", desc := "(I)I" } : Jvm.MethodName)) ∈ np_al := List.mem_filter.mpr ⟨List.mem_append_right _ (List.mem_append_right _ (List.mem_append_right _ (List.mem_append_right _ (List.mem_append_left _ (List.mem_of_getElem? (i := 57) rfl))))), rfl⟩
theorem tw_778 : (Jvm.Cond.code ({ cls := "NotationParse$Grammar", name := "lastDot", desc := "(I)I" } : Jvm.MethodName) prog_3_method_3_code (2 : Nat) (Option.some Jvm.ClassFile.FieldType.int)) ∈ np_al := List.mem_filter.mpr ⟨List.mem_append_right _ (List.mem_append_right _ (List.mem_append_right _ (List.mem_append_right _ (List.mem_append_left _ (List.mem_of_getElem? (i := 58) rfl))))), rfl⟩
theorem tw_779 : (Jvm.Cond.methodLink "NotationParse$Chart" (78 : Nat) ({ cls := "NotationParse$Chart", name := "isReached", desc := "(III)Z" } : Jvm.MethodName)) ∈ np_al := List.mem_filter.mpr ⟨List.mem_append_right _ (List.mem_append_right _ (List.mem_append_right _ (List.mem_append_right _ (List.mem_append_left _ (List.mem_of_getElem? (i := 59) rfl))))), rfl⟩
theorem tw_781 : (Jvm.Cond.instanceMethod ({ cls := "NotationParse$Chart", name := "isReached", desc := "(III)Z" } : Jvm.MethodName)) ∈ np_al := List.mem_filter.mpr ⟨List.mem_append_right _ (List.mem_append_right _ (List.mem_append_right _ (List.mem_append_right _ (List.mem_append_left _ (List.mem_of_getElem? (i := 61) rfl))))), rfl⟩
theorem tw_782 : (Jvm.Cond.code ({ cls := "NotationParse$Chart", name := "isReached", desc := "(III)Z" } : Jvm.MethodName) prog_2_method_5_code (4 : Nat) (Option.some Jvm.ClassFile.FieldType.boolean)) ∈ np_al := List.mem_filter.mpr ⟨List.mem_append_right _ (List.mem_append_right _ (List.mem_append_right _ (List.mem_append_right _ (List.mem_append_left _ (List.mem_of_getElem? (i := 62) rfl))))), rfl⟩
theorem tw_783 : (Jvm.Cond.methodLink "NotationParse$Chart" (64 : Nat) ({ cls := "NotationParse$Chart", name := "fillHoles", desc := "(III)V" } : Jvm.MethodName)) ∈ np_al := List.mem_filter.mpr ⟨List.mem_append_right _ (List.mem_append_right _ (List.mem_append_right _ (List.mem_append_right _ (List.mem_append_left _ (List.mem_of_getElem? (i := 63) rfl))))), rfl⟩
theorem tw_785 : (Jvm.Cond.instanceMethod ({ cls := "NotationParse$Chart", name := "fillHoles", desc := "(III)V" } : Jvm.MethodName)) ∈ np_al := List.mem_filter.mpr ⟨List.mem_append_right _ (List.mem_append_right _ (List.mem_append_right _ (List.mem_append_right _ (List.mem_append_left _ (List.mem_of_getElem? (i := 65) rfl))))), rfl⟩
theorem tw_786 : (Jvm.Cond.code ({ cls := "NotationParse$Chart", name := "fillHoles", desc := "(III)V" } : Jvm.MethodName) prog_2_method_9_code (8 : Nat) (Option.none : Option Jvm.ClassFile.FieldType)) ∈ np_al := List.mem_filter.mpr ⟨List.mem_append_right _ (List.mem_append_right _ (List.mem_append_right _ (List.mem_append_right _ (List.mem_append_left _ (List.mem_of_getElem? (i := 66) rfl))))), rfl⟩
theorem tw_787 : (Jvm.Cond.methodLink "NotationParse$Chart" (40 : Nat) ({ cls := "NotationParse$Chart", name := "leastWanted", desc := "(I)I" } : Jvm.MethodName)) ∈ np_al := List.mem_filter.mpr ⟨List.mem_append_right _ (List.mem_append_right _ (List.mem_append_right _ (List.mem_append_right _ (List.mem_append_left _ (List.mem_of_getElem? (i := 67) rfl))))), rfl⟩
theorem tw_789 : (Jvm.Cond.instanceMethod ({ cls := "NotationParse$Chart", name := "leastWanted", desc := "(I)I" } : Jvm.MethodName)) ∈ np_al := List.mem_filter.mpr ⟨List.mem_append_right _ (List.mem_append_right _ (List.mem_append_right _ (List.mem_append_right _ (List.mem_append_left _ (List.mem_of_getElem? (i := 69) rfl))))), rfl⟩
theorem tw_790 : (Jvm.Cond.code ({ cls := "NotationParse$Chart", name := "leastWanted", desc := "(I)I" } : Jvm.MethodName) prog_2_method_10_code (5 : Nat) (Option.some Jvm.ClassFile.FieldType.int)) ∈ np_al := List.mem_filter.mpr ⟨List.mem_append_right _ (List.mem_append_right _ (List.mem_append_right _ (List.mem_append_right _ (List.mem_append_left _ (List.mem_of_getElem? (i := 70) rfl))))), rfl⟩
theorem tw_791 : (Jvm.Cond.methodLink "NotationParse" (157 : Nat) ({ cls := "NotationParse", name := "noteFault", desc := "(II)V" } : Jvm.MethodName)) ∈ np_al := List.mem_filter.mpr ⟨List.mem_append_right _ (List.mem_append_right _ (List.mem_append_right _ (List.mem_append_right _ (List.mem_append_left _ (List.mem_of_getElem? (i := 71) rfl))))), rfl⟩
theorem tw_793 : (Jvm.Cond.instanceMethod ({ cls := "NotationParse", name := "noteFault", desc := "(II)V" } : Jvm.MethodName)) ∈ np_al := List.mem_filter.mpr ⟨List.mem_append_right _ (List.mem_append_right _ (List.mem_append_right _ (List.mem_append_right _ (List.mem_append_left _ (List.mem_of_getElem? (i := 73) rfl))))), rfl⟩
theorem tw_794 : (Jvm.Cond.code ({ cls := "NotationParse", name := "noteFault", desc := "(II)V" } : Jvm.MethodName) prog_1_method_9_code (3 : Nat) (Option.none : Option Jvm.ClassFile.FieldType)) ∈ np_al := List.mem_filter.mpr ⟨List.mem_append_right _ (List.mem_append_right _ (List.mem_append_right _ (List.mem_append_right _ (List.mem_append_left _ (List.mem_of_getElem? (i := 74) rfl))))), rfl⟩
theorem tw_795 : (Jvm.Cond.methodLink "NotationParse" (164 : Nat) ({ cls := "NotationParse$Chart", name := "isWhole", desc := "(I)Z" } : Jvm.MethodName)) ∈ np_al := List.mem_filter.mpr ⟨List.mem_append_right _ (List.mem_append_right _ (List.mem_append_right _ (List.mem_append_right _ (List.mem_append_left _ (List.mem_of_getElem? (i := 75) rfl))))), rfl⟩
theorem tw_796 : (Jvm.Cond.instanceMethod ({ cls := "NotationParse$Chart", name := "isWhole", desc := "(I)Z" } : Jvm.MethodName)) ∈ np_al := List.mem_filter.mpr ⟨List.mem_append_right _ (List.mem_append_right _ (List.mem_append_right _ (List.mem_append_right _ (List.mem_append_left _ (List.mem_of_getElem? (i := 76) rfl))))), rfl⟩
theorem tw_797 : (Jvm.Cond.selects "NotationParse$Chart" ({ cls := "NotationParse$Chart", name := "isWhole", desc := "(I)Z" } : Jvm.MethodName) ({ cls := "NotationParse$Chart", name := "isWhole", desc := "(I)Z" } : Jvm.MethodName)) ∈ np_al := List.mem_filter.mpr ⟨List.mem_append_right _ (List.mem_append_right _ (List.mem_append_right _ (List.mem_append_right _ (List.mem_append_left _ (List.mem_of_getElem? (i := 77) rfl))))), rfl⟩
theorem tw_798 : (Jvm.Cond.code ({ cls := "NotationParse$Chart", name := "isWhole", desc := "(I)Z" } : Jvm.MethodName) prog_2_method_3_code (2 : Nat) (Option.some Jvm.ClassFile.FieldType.boolean)) ∈ np_al := List.mem_filter.mpr ⟨List.mem_append_right _ (List.mem_append_right _ (List.mem_append_right _ (List.mem_append_right _ (List.mem_append_left _ (List.mem_of_getElem? (i := 78) rfl))))), rfl⟩
theorem tw_800 : (Jvm.Cond.methodLink "NotationParse" (138 : Nat) ({ cls := "NotationParse$Chart", name := "countTrees", desc := "(I)I" } : Jvm.MethodName)) ∈ np_al := List.mem_filter.mpr ⟨List.mem_append_right _ (List.mem_append_right _ (List.mem_append_right _ (List.mem_append_right _ (List.mem_append_left _ (List.mem_of_getElem? (i := 80) rfl))))), rfl⟩
theorem tw_801 : (Jvm.Cond.instanceMethod ({ cls := "NotationParse$Chart", name := "countTrees", desc := "(I)I" } : Jvm.MethodName)) ∈ np_al := List.mem_filter.mpr ⟨List.mem_append_right _ (List.mem_append_right _ (List.mem_append_right _ (List.mem_append_right _ (List.mem_append_left _ (List.mem_of_getElem? (i := 81) rfl))))), rfl⟩
theorem tw_802 : (Jvm.Cond.selects "NotationParse$Chart" ({ cls := "NotationParse$Chart", name := "countTrees", desc := "(I)I" } : Jvm.MethodName) ({ cls := "NotationParse$Chart", name := "countTrees", desc := "(I)I" } : Jvm.MethodName)) ∈ np_al := List.mem_filter.mpr ⟨List.mem_append_right _ (List.mem_append_right _ (List.mem_append_right _ (List.mem_append_right _ (List.mem_append_left _ (List.mem_of_getElem? (i := 82) rfl))))), rfl⟩
theorem tw_803 : (Jvm.Cond.code ({ cls := "NotationParse$Chart", name := "countTrees", desc := "(I)I" } : Jvm.MethodName) prog_2_method_13_code (3 : Nat) (Option.some Jvm.ClassFile.FieldType.int)) ∈ np_al := List.mem_filter.mpr ⟨List.mem_append_right _ (List.mem_append_right _ (List.mem_append_right _ (List.mem_append_right _ (List.mem_append_left _ (List.mem_of_getElem? (i := 83) rfl))))), rfl⟩
theorem tw_804 : (Jvm.Cond.methodLink "NotationParse$Chart" (88 : Nat) ({ cls := "NotationParse$Chart", name := "countFrom", desc := "(II)V" } : Jvm.MethodName)) ∈ np_al := List.mem_filter.mpr ⟨List.mem_append_right _ (List.mem_append_right _ (List.mem_append_right _ (List.mem_append_right _ (List.mem_append_left _ (List.mem_of_getElem? (i := 84) rfl))))), rfl⟩
theorem tw_806 : (Jvm.Cond.instanceMethod ({ cls := "NotationParse$Chart", name := "countFrom", desc := "(II)V" } : Jvm.MethodName)) ∈ np_al := List.mem_filter.mpr ⟨List.mem_append_right _ (List.mem_append_right _ (List.mem_append_right _ (List.mem_append_right _ (List.mem_append_left _ (List.mem_of_getElem? (i := 86) rfl))))), rfl⟩
theorem tw_807 : (Jvm.Cond.code ({ cls := "NotationParse$Chart", name := "countFrom", desc := "(II)V" } : Jvm.MethodName) prog_2_method_14_code (5 : Nat) (Option.none : Option Jvm.ClassFile.FieldType)) ∈ np_al := List.mem_filter.mpr ⟨List.mem_append_right _ (List.mem_append_right _ (List.mem_append_right _ (List.mem_append_right _ (List.mem_append_left _ (List.mem_of_getElem? (i := 87) rfl))))), rfl⟩
theorem tw_808 : (Jvm.Cond.methodLink "NotationParse$Chart" (95 : Nat) ({ cls := "NotationParse$Chart", name := "countRule", desc := "(III)V" } : Jvm.MethodName)) ∈ np_al := List.mem_filter.mpr ⟨List.mem_append_right _ (List.mem_append_right _ (List.mem_append_right _ (List.mem_append_right _ (List.mem_append_left _ (List.mem_of_getElem? (i := 88) rfl))))), rfl⟩
theorem tw_810 : (Jvm.Cond.instanceMethod ({ cls := "NotationParse$Chart", name := "countRule", desc := "(III)V" } : Jvm.MethodName)) ∈ np_al := List.mem_filter.mpr ⟨List.mem_append_right _ (List.mem_append_right _ (List.mem_append_right _ (List.mem_append_right _ (List.mem_append_left _ (List.mem_of_getElem? (i := 90) rfl))))), rfl⟩
theorem tw_811 : (Jvm.Cond.code ({ cls := "NotationParse$Chart", name := "countRule", desc := "(III)V" } : Jvm.MethodName) prog_2_method_15_code (8 : Nat) (Option.none : Option Jvm.ClassFile.FieldType)) ∈ np_al := List.mem_filter.mpr ⟨List.mem_append_right _ (List.mem_append_right _ (List.mem_append_right _ (List.mem_append_right _ (List.mem_append_left _ (List.mem_of_getElem? (i := 91) rfl))))), rfl⟩
theorem tw_812 : (Jvm.Cond.methodLink "NotationParse$Chart" (104 : Nat) ({ cls := "NotationParse$Chart", name := "countSplits", desc := "(IIII)I" } : Jvm.MethodName)) ∈ np_al := List.mem_filter.mpr ⟨List.mem_append_right _ (List.mem_append_right _ (List.mem_append_right _ (List.mem_append_right _ (List.mem_append_left _ (List.mem_of_getElem? (i := 92) rfl))))), rfl⟩
theorem tw_814 : (Jvm.Cond.instanceMethod ({ cls := "NotationParse$Chart", name := "countSplits", desc := "(IIII)I" } : Jvm.MethodName)) ∈ np_al := List.mem_filter.mpr ⟨List.mem_append_right _ (List.mem_append_right _ (List.mem_append_right _ (List.mem_append_right _ (List.mem_append_left _ (List.mem_of_getElem? (i := 94) rfl))))), rfl⟩
theorem tw_815 : (Jvm.Cond.code ({ cls := "NotationParse$Chart", name := "countSplits", desc := "(IIII)I" } : Jvm.MethodName) prog_2_method_16_code (8 : Nat) (Option.some Jvm.ClassFile.FieldType.int)) ∈ np_al := List.mem_filter.mpr ⟨List.mem_append_right _ (List.mem_append_right _ (List.mem_append_right _ (List.mem_append_right _ (List.mem_append_left _ (List.mem_of_getElem? (i := 95) rfl))))), rfl⟩
theorem tw_816 : (Jvm.Cond.methodLink "NotationParse$Chart" (91 : Nat) ({ cls := "NotationParse$Chart", name := "cell", desc := "(III)I" } : Jvm.MethodName)) ∈ np_al := List.mem_filter.mpr ⟨List.mem_append_right _ (List.mem_append_right _ (List.mem_append_right _ (List.mem_append_right _ (List.mem_append_left _ (List.mem_of_getElem? (i := 96) rfl))))), rfl⟩
theorem tw_818 : (Jvm.Cond.instanceMethod ({ cls := "NotationParse$Chart", name := "cell", desc := "(III)I" } : Jvm.MethodName)) ∈ np_al := List.mem_filter.mpr ⟨List.mem_append_right _ (List.mem_append_right _ (List.mem_append_right _ (List.mem_append_right _ (List.mem_append_left _ (List.mem_of_getElem? (i := 98) rfl))))), rfl⟩
theorem tw_819 : (Jvm.Cond.code ({ cls := "NotationParse$Chart", name := "cell", desc := "(III)I" } : Jvm.MethodName) prog_2_method_20_code (4 : Nat) (Option.some Jvm.ClassFile.FieldType.int)) ∈ np_al := List.mem_filter.mpr ⟨List.mem_append_right _ (List.mem_append_right _ (List.mem_append_right _ (List.mem_append_right _ (List.mem_append_left _ (List.mem_of_getElem? (i := 99) rfl))))), rfl⟩
theorem tw_820 : (Jvm.Cond.constantLong "NotationParse$Chart" (108 : Nat) (1000000 : Int64)) ∈ np_al := List.mem_filter.mpr ⟨List.mem_append_right _ (List.mem_append_right _ (List.mem_append_right _ (List.mem_append_right _ (List.mem_append_left _ (List.mem_of_getElem? (i := 100) rfl))))), rfl⟩
theorem tw_821 : (Jvm.Cond.methodLink "NotationParse$Chart" (110 : Nat) ({ cls := "java/lang/Math", name := "min", desc := "(JJ)J" } : Jvm.MethodName)) ∈ np_al := List.mem_filter.mpr ⟨List.mem_append_right _ (List.mem_append_right _ (List.mem_append_right _ (List.mem_append_right _ (List.mem_append_left _ (List.mem_of_getElem? (i := 101) rfl))))), rfl⟩
theorem tw_822 : (Jvm.Cond.static ({ cls := "java/lang/Math", name := "min", desc := "(JJ)J" } : Jvm.MethodName)) ∈ np_al := List.mem_filter.mpr ⟨List.mem_append_right _ (List.mem_append_right _ (List.mem_append_right _ (List.mem_append_right _ (List.mem_append_left _ (List.mem_of_getElem? (i := 102) rfl))))), rfl⟩
theorem tw_823 : (Jvm.Cond.code ({ cls := "java/lang/Math", name := "min", desc := "(JJ)J" } : Jvm.MethodName) prog_17_method_70_code (4 : Nat) (Option.some Jvm.ClassFile.FieldType.long)) ∈ np_al := List.mem_filter.mpr ⟨List.mem_append_right _ (List.mem_append_right _ (List.mem_append_right _ (List.mem_append_right _ (List.mem_append_left _ (List.mem_of_getElem? (i := 103) rfl))))), rfl⟩
theorem tw_824 : (Jvm.Cond.methodLink "NotationParse$Chart" (98 : Nat) ({ cls := "NotationParse$Chart", name := "sumTerms", desc := "(II)V" } : Jvm.MethodName)) ∈ np_al := List.mem_filter.mpr ⟨List.mem_append_right _ (List.mem_append_right _ (List.mem_append_right _ (List.mem_append_right _ (List.mem_append_left _ (List.mem_of_getElem? (i := 104) rfl))))), rfl⟩
theorem tw_826 : (Jvm.Cond.instanceMethod ({ cls := "NotationParse$Chart", name := "sumTerms", desc := "(II)V" } : Jvm.MethodName)) ∈ np_al := List.mem_filter.mpr ⟨List.mem_append_right _ (List.mem_append_right _ (List.mem_append_right _ (List.mem_append_right _ (List.mem_append_left _ (List.mem_of_getElem? (i := 106) rfl))))), rfl⟩
theorem tw_827 : (Jvm.Cond.code ({ cls := "NotationParse$Chart", name := "sumTerms", desc := "(II)V" } : Jvm.MethodName) prog_2_method_17_code (6 : Nat) (Option.none : Option Jvm.ClassFile.FieldType)) ∈ np_al := List.mem_filter.mpr ⟨List.mem_append_right _ (List.mem_append_right _ (List.mem_append_right _ (List.mem_append_right _ (List.mem_append_left _ (List.mem_of_getElem? (i := 107) rfl))))), rfl⟩
theorem tw_828 : (Jvm.Cond.methodLink "NotationParse$Chart" (116 : Nat) ({ cls := "NotationParse$Chart", name := "addTrees", desc := "(II)V" } : Jvm.MethodName)) ∈ np_al := List.mem_filter.mpr ⟨List.mem_append_right _ (List.mem_append_right _ (List.mem_append_right _ (List.mem_append_right _ (List.mem_append_left _ (List.mem_of_getElem? (i := 108) rfl))))), rfl⟩
theorem tw_830 : (Jvm.Cond.instanceMethod ({ cls := "NotationParse$Chart", name := "addTrees", desc := "(II)V" } : Jvm.MethodName)) ∈ np_al := List.mem_filter.mpr ⟨List.mem_append_right _ (List.mem_append_right _ (List.mem_append_right _ (List.mem_append_right _ (List.mem_append_left _ (List.mem_of_getElem? (i := 110) rfl))))), rfl⟩
theorem tw_831 : (Jvm.Cond.code ({ cls := "NotationParse$Chart", name := "addTrees", desc := "(II)V" } : Jvm.MethodName) prog_2_method_18_code (3 : Nat) (Option.none : Option Jvm.ClassFile.FieldType)) ∈ np_al := List.mem_filter.mpr ⟨List.mem_append_right _ (List.mem_append_right _ (List.mem_append_right _ (List.mem_append_right _ (List.mem_append_left _ (List.mem_of_getElem? (i := 111) rfl))))), rfl⟩
theorem tw_832 : (Jvm.Cond.constant "NotationParse$Chart" (119 : Nat) (1000000 : Int32)) ∈ np_al := List.mem_filter.mpr ⟨List.mem_append_right _ (List.mem_append_right _ (List.mem_append_right _ (List.mem_append_right _ (List.mem_append_left _ (List.mem_of_getElem? (i := 112) rfl))))), rfl⟩
theorem tw_833 : (Jvm.Cond.methodLink "NotationParse$Chart" (120 : Nat) ({ cls := "java/lang/Math", name := "min", desc := "(II)I" } : Jvm.MethodName)) ∈ np_al := List.mem_filter.mpr ⟨List.mem_append_right _ (List.mem_append_right _ (List.mem_append_right _ (List.mem_append_right _ (List.mem_append_left _ (List.mem_of_getElem? (i := 113) rfl))))), rfl⟩
theorem tw_834 : (Jvm.Cond.methodLink "NotationParse$Chart" (101 : Nat) ({ cls := "NotationParse$Chart", name := "countFirstHoles", desc := "(II)V" } : Jvm.MethodName)) ∈ np_al := List.mem_filter.mpr ⟨List.mem_append_right _ (List.mem_append_right _ (List.mem_append_right _ (List.mem_append_right _ (List.mem_append_left _ (List.mem_of_getElem? (i := 114) rfl))))), rfl⟩
theorem tw_836 : (Jvm.Cond.instanceMethod ({ cls := "NotationParse$Chart", name := "countFirstHoles", desc := "(II)V" } : Jvm.MethodName)) ∈ np_al := List.mem_filter.mpr ⟨List.mem_append_right _ (List.mem_append_right _ (List.mem_append_right _ (List.mem_append_right _ (List.mem_append_left _ (List.mem_of_getElem? (i := 116) rfl))))), rfl⟩
theorem tw_837 : (Jvm.Cond.code ({ cls := "NotationParse$Chart", name := "countFirstHoles", desc := "(II)V" } : Jvm.MethodName) prog_2_method_19_code (6 : Nat) (Option.none : Option Jvm.ClassFile.FieldType)) ∈ np_al := List.mem_filter.mpr ⟨List.mem_append_right _ (List.mem_append_right _ (List.mem_append_right _ (List.mem_append_right _ (List.mem_append_left _ (List.mem_of_getElem? (i := 117) rfl))))), rfl⟩
theorem tw_838 : (Jvm.Cond.methodLink "NotationParse" (141 : Nat) ({ cls := "NotationParse$Tree", name := "grow", desc := "(I)V" } : Jvm.MethodName)) ∈ np_al := List.mem_filter.mpr ⟨List.mem_append_right _ (List.mem_append_right _ (List.mem_append_right _ (List.mem_append_right _ (List.mem_append_left _ (List.mem_of_getElem? (i := 118) rfl))))), rfl⟩
theorem tw_839 : (Jvm.Cond.instanceMethod ({ cls := "NotationParse$Tree", name := "grow", desc := "(I)V" } : Jvm.MethodName)) ∈ np_al := List.mem_filter.mpr ⟨List.mem_append_right _ (List.mem_append_right _ (List.mem_append_right _ (List.mem_append_right _ (List.mem_append_left _ (List.mem_of_getElem? (i := 119) rfl))))), rfl⟩
theorem tw_840 : (Jvm.Cond.selects "NotationParse$Tree" ({ cls := "NotationParse$Tree", name := "grow", desc := "(I)V" } : Jvm.MethodName) ({ cls := "NotationParse$Tree", name := "grow", desc := "(I)V" } : Jvm.MethodName)) ∈ np_al := List.mem_filter.mpr ⟨List.mem_append_right _ (List.mem_append_right _ (List.mem_append_right _ (List.mem_append_right _ (List.mem_append_left _ (List.mem_of_getElem? (i := 120) rfl))))), rfl⟩
theorem tw_841 : (Jvm.Cond.code ({ cls := "NotationParse$Tree", name := "grow", desc := "(I)V" } : Jvm.MethodName) prog_7_method_3_code (3 : Nat) (Option.none : Option Jvm.ClassFile.FieldType)) ∈ np_al := List.mem_filter.mpr ⟨List.mem_append_right _ (List.mem_append_right _ (List.mem_append_right _ (List.mem_append_right _ (List.mem_append_left _ (List.mem_of_getElem? (i := 121) rfl))))), rfl⟩
theorem tw_842 : (Jvm.Cond.methodLink "NotationParse$Tree" (57 : Nat) ({ cls := "NotationParse$Tree", name := "await", desc := "(IIII)V" } : Jvm.MethodName)) ∈ np_al := List.mem_filter.mpr ⟨List.mem_append_right _ (List.mem_append_right _ (List.mem_append_right _ (List.mem_append_right _ (List.mem_append_left _ (List.mem_of_getElem? (i := 122) rfl))))), rfl⟩
theorem tw_844 : (Jvm.Cond.instanceMethod ({ cls := "NotationParse$Tree", name := "await", desc := "(IIII)V" } : Jvm.MethodName)) ∈ np_al := List.mem_filter.mpr ⟨List.mem_append_right _ (List.mem_append_right _ (List.mem_append_right _ (List.mem_append_right _ (List.mem_append_left _ (List.mem_of_getElem? (i := 124) rfl))))), rfl⟩
theorem tw_845 : (Jvm.Cond.code ({ cls := "NotationParse$Tree", name := "await", desc := "(IIII)V" } : Jvm.MethodName) prog_7_method_4_code (5 : Nat) (Option.none : Option Jvm.ClassFile.FieldType)) ∈ np_al := List.mem_filter.mpr ⟨List.mem_append_right _ (List.mem_append_right _ (List.mem_append_right _ (List.mem_append_right _ (List.mem_append_left _ (List.mem_of_getElem? (i := 125) rfl))))), rfl⟩
theorem tw_846 : (Jvm.Cond.methodLink "NotationParse$Tree" (61 : Nat) ({ cls := "NotationParse$Tree", name := "growNode", desc := "(III)V" } : Jvm.MethodName)) ∈ np_al := List.mem_filter.mpr ⟨List.mem_append_right _ (List.mem_append_right _ (List.mem_append_right _ (List.mem_append_right _ (List.mem_append_left _ (List.mem_of_getElem? (i := 126) rfl))))), rfl⟩
theorem tw_848 : (Jvm.Cond.instanceMethod ({ cls := "NotationParse$Tree", name := "growNode", desc := "(III)V" } : Jvm.MethodName)) ∈ np_al := List.mem_filter.mpr ⟨List.mem_append_right _ (List.mem_append_right _ (List.mem_append_right _ (List.mem_append_right _ (List.mem_append_left _ (List.mem_of_getElem? (i := 128) rfl))))), rfl⟩
theorem tw_849 : (Jvm.Cond.code ({ cls := "NotationParse$Tree", name := "growNode", desc := "(III)V" } : Jvm.MethodName) prog_7_method_5_code (4 : Nat) (Option.none : Option Jvm.ClassFile.FieldType)) ∈ np_al := List.mem_filter.mpr ⟨List.mem_append_right _ (List.mem_append_right _ (List.mem_append_right _ (List.mem_append_right _ (List.mem_append_left _ (List.mem_of_getElem? (i := 129) rfl))))), rfl⟩
theorem tw_850 : (Jvm.Cond.methodLink "NotationParse$Tree" (65 : Nat) ({ cls := "NotationParse$Chart", name := "onlyRule", desc := "(III)I" } : Jvm.MethodName)) ∈ np_al := List.mem_filter.mpr ⟨List.mem_append_right _ (List.mem_append_right _ (List.mem_append_right _ (List.mem_append_right _ (List.mem_append_left _ (List.mem_of_getElem? (i := 130) rfl))))), rfl⟩
theorem tw_851 : (Jvm.Cond.instanceMethod ({ cls := "NotationParse$Chart", name := "onlyRule", desc := "(III)I" } : Jvm.MethodName)) ∈ np_al := List.mem_filter.mpr ⟨List.mem_append_right _ (List.mem_append_right _ (List.mem_append_right _ (List.mem_append_right _ (List.mem_append_left _ (List.mem_of_getElem? (i := 131) rfl))))), rfl⟩
theorem tw_852 : (Jvm.Cond.selects "NotationParse$Chart" ({ cls := "NotationParse$Chart", name := "onlyRule", desc := "(III)I" } : Jvm.MethodName) ({ cls := "NotationParse$Chart", name := "onlyRule", desc := "(III)I" } : Jvm.MethodName)) ∈ np_al := List.mem_filter.mpr ⟨List.mem_append_right _ (List.mem_append_right _ (List.mem_append_right _ (List.mem_append_right _ (List.mem_append_left _ (List.mem_of_getElem? (i := 132) rfl))))), rfl⟩
theorem tw_853 : (Jvm.Cond.code ({ cls := "NotationParse$Chart", name := "onlyRule", desc := "(III)I" } : Jvm.MethodName) prog_2_method_21_code (5 : Nat) (Option.some Jvm.ClassFile.FieldType.int)) ∈ np_al := List.mem_filter.mpr ⟨List.mem_append_right _ (List.mem_append_right _ (List.mem_append_right _ (List.mem_append_right _ (List.mem_append_left _ (List.mem_of_getElem? (i := 133) rfl))))), rfl⟩
theorem tw_854 : (Jvm.Cond.methodLink "NotationParse$Tree" (71 : Nat) ({ cls := "NotationParse$Tree", name := "awaitHoles", desc := "(III)I" } : Jvm.MethodName)) ∈ np_al := List.mem_filter.mpr ⟨List.mem_append_right _ (List.mem_append_right _ (List.mem_append_right _ (List.mem_append_right _ (List.mem_append_left _ (List.mem_of_getElem? (i := 134) rfl))))), rfl⟩
theorem tw_856 : (Jvm.Cond.instanceMethod ({ cls := "NotationParse$Tree", name := "awaitHoles", desc := "(III)I" } : Jvm.MethodName)) ∈ np_al := List.mem_filter.mpr ⟨List.mem_append_right _ (List.mem_append_right _ (List.mem_append_right _ (List.mem_append_right _ (List.mem_append_left _ (List.mem_of_getElem? (i := 136) rfl))))), rfl⟩
theorem tw_857 : (Jvm.Cond.code ({ cls := "NotationParse$Tree", name := "awaitHoles", desc := "(III)I" } : Jvm.MethodName) prog_7_method_6_code (10 : Nat) (Option.some Jvm.ClassFile.FieldType.int)) ∈ np_al := List.mem_filter.mpr ⟨List.mem_append_right _ (List.mem_append_right _ (List.mem_append_right _ (List.mem_append_right _ (List.mem_append_left _ (List.mem_of_getElem? (i := 137) rfl))))), rfl⟩
theorem tw_858 : (Jvm.Cond.methodLink "NotationParse$Tree" (74 : Nat) ({ cls := "NotationParse$Grammar", name := "lastDot", desc := "(I)I" } : Jvm.MethodName)) ∈ np_al := List.mem_filter.mpr ⟨List.mem_append_right _ (List.mem_append_right _ (List.mem_append_right _ (List.mem_append_right _ (List.mem_append_left _ (List.mem_of_getElem? (i := 138) rfl))))), rfl⟩
theorem tw_859 : (Jvm.Cond.methodLink "NotationParse$Tree" (83 : Nat) ({ cls := "NotationParse$Chart", name := "onlySplit", desc := "(III)I" } : Jvm.MethodName)) ∈ np_al := List.mem_filter.mpr ⟨List.mem_append_right _ (List.mem_append_right _ (List.mem_append_right _ (List.mem_append_right _ (List.mem_append_left _ (List.mem_of_getElem? (i := 139) rfl))))), rfl⟩
theorem tw_860 : (Jvm.Cond.instanceMethod ({ cls := "NotationParse$Chart", name := "onlySplit", desc := "(III)I" } : Jvm.MethodName)) ∈ np_al := List.mem_filter.mpr ⟨List.mem_append_right _ (List.mem_append_right _ (List.mem_append_right _ (List.mem_append_right _ (List.mem_append_left _ (List.mem_of_getElem? (i := 140) rfl))))), rfl⟩
theorem tw_861 : (Jvm.Cond.selects "NotationParse$Chart" ({ cls := "NotationParse$Chart", name := "onlySplit", desc := "(III)I" } : Jvm.MethodName) ({ cls := "NotationParse$Chart", name := "onlySplit", desc := "(III)I" } : Jvm.MethodName)) ∈ np_al := List.mem_filter.mpr ⟨List.mem_append_right _ (List.mem_append_right _ (List.mem_append_right _ (List.mem_append_right _ (List.mem_append_left _ (List.mem_of_getElem? (i := 141) rfl))))), rfl⟩
theorem tw_862 : (Jvm.Cond.code ({ cls := "NotationParse$Chart", name := "onlySplit", desc := "(III)I" } : Jvm.MethodName) prog_2_method_22_code (6 : Nat) (Option.some Jvm.ClassFile.FieldType.int)) ∈ np_al := List.mem_filter.mpr ⟨List.mem_append_right _ (List.mem_append_right _ (List.mem_append_right _ (List.mem_append_right _ (List.mem_append_left _ (List.mem_of_getElem? (i := 142) rfl))))), rfl⟩
theorem tw_895 : (Jvm.Cond.methodLink "NotationParse" (190 : Nat) ({ cls := "NotationParse$Tree", name := "needlessBrackets", desc := "()I" } : Jvm.MethodName)) ∈ np_al := List.mem_filter.mpr ⟨List.mem_append_right _ (List.mem_append_right _ (List.mem_append_right _ (List.mem_append_right _ (List.mem_append_left _ (List.mem_of_getElem? (i := 175) rfl))))), rfl⟩
theorem tw_896 : (Jvm.Cond.instanceMethod ({ cls := "NotationParse$Tree", name := "needlessBrackets", desc := "()I" } : Jvm.MethodName)) ∈ np_al := List.mem_filter.mpr ⟨List.mem_append_right _ (List.mem_append_right _ (List.mem_append_right _ (List.mem_append_right _ (List.mem_append_left _ (List.mem_of_getElem? (i := 176) rfl))))), rfl⟩
theorem tw_897 : (Jvm.Cond.selects "NotationParse$Tree" ({ cls := "NotationParse$Tree", name := "needlessBrackets", desc := "()I" } : Jvm.MethodName) ({ cls := "NotationParse$Tree", name := "needlessBrackets", desc := "()I" } : Jvm.MethodName)) ∈ np_al := List.mem_filter.mpr ⟨List.mem_append_right _ (List.mem_append_right _ (List.mem_append_right _ (List.mem_append_right _ (List.mem_append_left _ (List.mem_of_getElem? (i := 177) rfl))))), rfl⟩
theorem tw_898 : (Jvm.Cond.code ({ cls := "NotationParse$Tree", name := "needlessBrackets", desc := "()I" } : Jvm.MethodName) prog_7_method_7_code (3 : Nat) (Option.some Jvm.ClassFile.FieldType.int)) ∈ np_al := List.mem_filter.mpr ⟨List.mem_append_right _ (List.mem_append_right _ (List.mem_append_right _ (List.mem_append_right _ (List.mem_append_left _ (List.mem_of_getElem? (i := 178) rfl))))), rfl⟩
theorem tw_899 : (Jvm.Cond.methodLink "NotationParse$Tree" (86 : Nat) ({ cls := "NotationParse$Tree", name := "levelWithin", desc := "(I)I" } : Jvm.MethodName)) ∈ np_al := List.mem_filter.mpr ⟨List.mem_append_right _ (List.mem_append_right _ (List.mem_append_right _ (List.mem_append_right _ (List.mem_append_left _ (List.mem_of_getElem? (i := 179) rfl))))), rfl⟩
theorem tw_901 : (Jvm.Cond.instanceMethod ({ cls := "NotationParse$Tree", name := "levelWithin", desc := "(I)I" } : Jvm.MethodName)) ∈ np_al := List.mem_filter.mpr ⟨List.mem_append_right _ (List.mem_append_right _ (List.mem_append_right _ (List.mem_append_right _ (List.mem_append_left _ (List.mem_of_getElem? (i := 181) rfl))))), rfl⟩
theorem tw_902 : (Jvm.Cond.code ({ cls := "NotationParse$Tree", name := "levelWithin", desc := "(I)I" } : Jvm.MethodName) prog_7_method_8_code (3 : Nat) (Option.some Jvm.ClassFile.FieldType.int)) ∈ np_al := List.mem_filter.mpr ⟨List.mem_append_right _ (List.mem_append_right _ (List.mem_append_right _ (List.mem_append_right _ (List.mem_append_left _ (List.mem_of_getElem? (i := 182) rfl))))), rfl⟩
theorem tw_903 : (Jvm.Cond.methodLink "NotationParse" (194 : Nat) ({ cls := "NotationParse$Output", name := "writeWords", desc := "(LNotationParse$Text;I)V" } : Jvm.MethodName)) ∈ np_al := List.mem_filter.mpr ⟨List.mem_append_right _ (List.mem_append_right _ (List.mem_append_right _ (List.mem_append_right _ (List.mem_append_left _ (List.mem_of_getElem? (i := 183) rfl))))), rfl⟩
theorem tw_904 : (Jvm.Cond.instanceMethod ({ cls := "NotationParse$Output", name := "writeWords", desc := "(LNotationParse$Text;I)V" } : Jvm.MethodName)) ∈ np_al := List.mem_filter.mpr ⟨List.mem_append_right _ (List.mem_append_right _ (List.mem_append_right _ (List.mem_append_right _ (List.mem_append_left _ (List.mem_of_getElem? (i := 184) rfl))))), rfl⟩
theorem tw_905 : (Jvm.Cond.selects "NotationParse$Output" ({ cls := "NotationParse$Output", name := "writeWords", desc := "(LNotationParse$Text;I)V" } : Jvm.MethodName) ({ cls := "NotationParse$Output", name := "writeWords", desc := "(LNotationParse$Text;I)V" } : Jvm.MethodName)) ∈ np_al := List.mem_filter.mpr ⟨List.mem_append_right _ (List.mem_append_right _ (List.mem_append_right _ (List.mem_append_right _ (List.mem_append_left _ (List.mem_of_getElem? (i := 185) rfl))))), rfl⟩
theorem tw_906 : (Jvm.Cond.code ({ cls := "NotationParse$Output", name := "writeWords", desc := "(LNotationParse$Text;I)V" } : Jvm.MethodName) prog_4_method_2_code (4 : Nat) (Option.none : Option Jvm.ClassFile.FieldType)) ∈ np_al := List.mem_filter.mpr ⟨List.mem_append_right _ (List.mem_append_right _ (List.mem_append_right _ (List.mem_append_right _ (List.mem_append_left _ (List.mem_of_getElem? (i := 186) rfl))))), rfl⟩
theorem tw_907 : (Jvm.Cond.methodLink "NotationParse$Output" (24 : Nat) ({ cls := "NotationParse$Output", name := "addByte", desc := "(I)V" } : Jvm.MethodName)) ∈ np_al := List.mem_filter.mpr ⟨List.mem_append_right _ (List.mem_append_right _ (List.mem_append_right _ (List.mem_append_right _ (List.mem_append_left _ (List.mem_of_getElem? (i := 187) rfl))))), rfl⟩
theorem tw_909 : (Jvm.Cond.instanceMethod ({ cls := "NotationParse$Output", name := "addByte", desc := "(I)V" } : Jvm.MethodName)) ∈ np_al := List.mem_filter.mpr ⟨List.mem_append_right _ (List.mem_append_right _ (List.mem_append_right _ (List.mem_append_right _ (List.mem_append_left _ (List.mem_of_getElem? (i := 189) rfl))))), rfl⟩
theorem tw_910 : (Jvm.Cond.code ({ cls := "NotationParse$Output", name := "addByte", desc := "(I)V" } : Jvm.MethodName) prog_4_method_4_code (2 : Nat) (Option.none : Option Jvm.ClassFile.FieldType)) ∈ np_al := List.mem_filter.mpr ⟨List.mem_append_right _ (List.mem_append_right _ (List.mem_append_right _ (List.mem_append_right _ (List.mem_append_left _ (List.mem_of_getElem? (i := 190) rfl))))), rfl⟩
theorem tw_911 : (Jvm.Cond.methodLink "NotationParse$Output" (32 : Nat) ({ cls := "NotationParse$Output", name := "writeWord", desc := "(J)V" } : Jvm.MethodName)) ∈ np_al := List.mem_filter.mpr ⟨List.mem_append_right _ (List.mem_append_right _ (List.mem_append_right _ (List.mem_append_right _ (List.mem_append_left _ (List.mem_of_getElem? (i := 191) rfl))))), rfl⟩
theorem tw_913 : (Jvm.Cond.instanceMethod ({ cls := "NotationParse$Output", name := "writeWord", desc := "(J)V" } : Jvm.MethodName)) ∈ np_al := List.mem_filter.mpr ⟨List.mem_append_right _ (List.mem_append_right _ (List.mem_append_right _ (List.mem_append_right _ (List.mem_append_left _ (List.mem_of_getElem? (i := 193) rfl))))), rfl⟩
theorem tw_914 : (Jvm.Cond.code ({ cls := "NotationParse$Output", name := "writeWord", desc := "(J)V" } : Jvm.MethodName) prog_4_method_3_code (5 : Nat) (Option.none : Option Jvm.ClassFile.FieldType)) ∈ np_al := List.mem_filter.mpr ⟨List.mem_append_right _ (List.mem_append_right _ (List.mem_append_right _ (List.mem_append_right _ (List.mem_append_left _ (List.mem_of_getElem? (i := 194) rfl))))), rfl⟩
theorem tw_915 : (Jvm.Cond.methodLink "NotationParse$Output" (36 : Nat) ({ cls := "NotationParse$Spelling", name := "byteOf", desc := "(JI)I" } : Jvm.MethodName)) ∈ np_al := List.mem_filter.mpr ⟨List.mem_append_right _ (List.mem_append_right _ (List.mem_append_right _ (List.mem_append_right _ (List.mem_append_left _ (List.mem_of_getElem? (i := 195) rfl))))), rfl⟩
theorem tw_923 : (Jvm.Cond.fieldLink "NotationParseModel" (80 : Nat) "NotationParseModel" "thrown" "I") ∈ np_al := List.mem_filter.mpr ⟨List.mem_append_right _ (List.mem_append_right _ (List.mem_append_right _ (List.mem_append_right _ (List.mem_append_left _ (List.mem_of_getElem? (i := 203) rfl))))), rfl⟩
theorem tw_924 : (Jvm.Cond.fieldLink "NotationParseModel" (103 : Nat) "NotationParseModel" "inHand" "I") ∈ np_al := List.mem_filter.mpr ⟨List.mem_append_right _ (List.mem_append_right _ (List.mem_append_right _ (List.mem_append_right _ (List.mem_append_left _ (List.mem_of_getElem? (i := 204) rfl))))), rfl⟩
theorem tw_925 : (Jvm.Cond.fieldLink "NotationParseModel" (100 : Nat) "NotationParseModel" "notations" "I") ∈ np_al := List.mem_filter.mpr ⟨List.mem_append_right _ (List.mem_append_right _ (List.mem_append_right _ (List.mem_append_right _ (List.mem_append_left _ (List.mem_of_getElem? (i := 205) rfl))))), rfl⟩
theorem tw_926 : (Jvm.Cond.fieldLink "NotationParseModel" (7 : Nat) "NotationParseModel" "holes" "[I") ∈ np_al := List.mem_filter.mpr ⟨List.mem_append_right _ (List.mem_append_right _ (List.mem_append_right _ (List.mem_append_right _ (List.mem_append_left _ (List.mem_of_getElem? (i := 206) rfl))))), rfl⟩
theorem tw_927 : (Jvm.Cond.fieldLink "NotationParseModel" (13 : Nat) "NotationParseModel" "partWords" "[J") ∈ np_al := List.mem_filter.mpr ⟨List.mem_append_right _ (List.mem_append_right _ (List.mem_append_right _ (List.mem_append_right _ (List.mem_append_left _ (List.mem_of_getElem? (i := 207) rfl))))), rfl⟩
theorem tw_928 : (Jvm.Cond.fieldLink "NotationParseModel" (17 : Nat) "NotationParseModel" "partMany" "[I") ∈ np_al := List.mem_filter.mpr ⟨List.mem_append_right _ (List.mem_append_right _ (List.mem_append_right _ (List.mem_append_right _ (List.mem_append_left _ (List.mem_of_getElem? (i := 208) rfl))))), rfl⟩
theorem tw_929 : (Jvm.Cond.fieldLink "NotationParseModel" (20 : Nat) "NotationParseModel" "level" "[I") ∈ np_al := List.mem_filter.mpr ⟨List.mem_append_right _ (List.mem_append_right _ (List.mem_append_right _ (List.mem_append_right _ (List.mem_append_left _ (List.mem_of_getElem? (i := 209) rfl))))), rfl⟩
theorem tw_930 : (Jvm.Cond.fieldLink "NotationParseModel" (23 : Nat) "NotationParseModel" "text" "[I") ∈ np_al := List.mem_filter.mpr ⟨List.mem_append_right _ (List.mem_append_right _ (List.mem_append_right _ (List.mem_append_right _ (List.mem_append_left _ (List.mem_of_getElem? (i := 210) rfl))))), rfl⟩
theorem tw_931 : (Jvm.Cond.fieldLink "NotationParseModel" (125 : Nat) "NotationParseModel" "size" "I") ∈ np_al := List.mem_filter.mpr ⟨List.mem_append_right _ (List.mem_append_right _ (List.mem_append_right _ (List.mem_append_right _ (List.mem_append_left _ (List.mem_of_getElem? (i := 211) rfl))))), rfl⟩
theorem tw_932 : (Jvm.Cond.fieldLink "NotationParseModel" (169 : Nat) "NotationParseModel" "fault" "I") ∈ np_al := List.mem_filter.mpr ⟨List.mem_append_right _ (List.mem_append_right _ (List.mem_append_right _ (List.mem_append_right _ (List.mem_append_left _ (List.mem_of_getElem? (i := 212) rfl))))), rfl⟩
theorem tw_933 : (Jvm.Cond.fieldLink "NotationParseModel" (26 : Nat) "NotationParseModel" "place" "I") ∈ np_al := List.mem_filter.mpr ⟨List.mem_append_right _ (List.mem_append_right _ (List.mem_append_right _ (List.mem_append_right _ (List.mem_append_left _ (List.mem_of_getElem? (i := 213) rfl))))), rfl⟩
theorem tw_934 : (Jvm.Cond.fieldLink "NotationParseModel" (128 : Nat) "NotationParseModel" "words" "I") ∈ np_al := List.mem_filter.mpr ⟨List.mem_append_right _ (List.mem_append_right _ (List.mem_append_right _ (List.mem_append_right _ (List.mem_append_left _ (List.mem_of_getElem? (i := 214) rfl))))), rfl⟩
theorem tw_935 : (Jvm.Cond.fieldLink "NotationParseModel" (30 : Nat) "NotationParseModel" "word" "[J") ∈ np_al := List.mem_filter.mpr ⟨List.mem_append_right _ (List.mem_append_right _ (List.mem_append_right _ (List.mem_append_right _ (List.mem_append_left _ (List.mem_of_getElem? (i := 215) rfl))))), rfl⟩
theorem tw_936 : (Jvm.Cond.fieldLink "NotationParseModel" (33 : Nat) "NotationParseModel" "from" "[I") ∈ np_al := List.mem_filter.mpr ⟨List.mem_append_right _ (List.mem_append_right _ (List.mem_append_right _ (List.mem_append_right _ (List.mem_append_left _ (List.mem_of_getElem? (i := 216) rfl))))), rfl⟩
theorem tw_937 : (Jvm.Cond.fieldLink "NotationParseModel" (36 : Nat) "NotationParseModel" "terms" "[I") ∈ np_al := List.mem_filter.mpr ⟨List.mem_append_right _ (List.mem_append_right _ (List.mem_append_right _ (List.mem_append_right _ (List.mem_append_left _ (List.mem_of_getElem? (i := 217) rfl))))), rfl⟩
theorem tw_938 : (Jvm.Cond.fieldLink "NotationParseModel" (40 : Nat) "NotationParseModel" "rows" "[I") ∈ np_al := List.mem_filter.mpr ⟨List.mem_append_right _ (List.mem_append_right _ (List.mem_append_right _ (List.mem_append_right _ (List.mem_append_left _ (List.mem_of_getElem? (i := 218) rfl))))), rfl⟩
theorem tw_939 : (Jvm.Cond.fieldLink "NotationParseModel" (43 : Nat) "NotationParseModel" "begins" "[Z") ∈ np_al := List.mem_filter.mpr ⟨List.mem_append_right _ (List.mem_append_right _ (List.mem_append_right _ (List.mem_append_right _ (List.mem_append_left _ (List.mem_of_getElem? (i := 219) rfl))))), rfl⟩
theorem tw_940 : (Jvm.Cond.fieldLink "NotationParseModel" (47 : Nat) "NotationParseModel" "beginsParts" "[Z") ∈ np_al := List.mem_filter.mpr ⟨List.mem_append_right _ (List.mem_append_right _ (List.mem_append_right _ (List.mem_append_right _ (List.mem_append_left _ (List.mem_of_getElem? (i := 220) rfl))))), rfl⟩
theorem tw_941 : (Jvm.Cond.fieldLink "NotationParseModel" (122 : Nat) "NotationParseModel" "nodes" "I") ∈ np_al := List.mem_filter.mpr ⟨List.mem_append_right _ (List.mem_append_right _ (List.mem_append_right _ (List.mem_append_right _ (List.mem_append_left _ (List.mem_of_getElem? (i := 221) rfl))))), rfl⟩
theorem tw_942 : (Jvm.Cond.fieldLink "NotationParseModel" (50 : Nat) "NotationParseModel" "kind" "[I") ∈ np_al := List.mem_filter.mpr ⟨List.mem_append_right _ (List.mem_append_right _ (List.mem_append_right _ (List.mem_append_right _ (List.mem_append_left _ (List.mem_of_getElem? (i := 222) rfl))))), rfl⟩
theorem tw_943 : (Jvm.Cond.fieldLink "NotationParseModel" (53 : Nat) "NotationParseModel" "first" "[I") ∈ np_al := List.mem_filter.mpr ⟨List.mem_append_right _ (List.mem_append_right _ (List.mem_append_right _ (List.mem_append_right _ (List.mem_append_left _ (List.mem_of_getElem? (i := 223) rfl))))), rfl⟩
theorem tw_944 : (Jvm.Cond.fieldLink "NotationParseModel" (56 : Nat) "NotationParseModel" "taken" "[I") ∈ np_al := List.mem_filter.mpr ⟨List.mem_append_right _ (List.mem_append_right _ (List.mem_append_right _ (List.mem_append_right _ (List.mem_append_left _ (List.mem_of_getElem? (i := 224) rfl))))), rfl⟩
theorem tw_945 : (Jvm.Cond.fieldLink "NotationParseModel" (59 : Nat) "NotationParseModel" "parent" "[I") ∈ np_al := List.mem_filter.mpr ⟨List.mem_append_right _ (List.mem_append_right _ (List.mem_append_right _ (List.mem_append_right _ (List.mem_append_left _ (List.mem_of_getElem? (i := 225) rfl))))), rfl⟩
theorem tw_946 : (Jvm.Cond.fieldLink "NotationParseModel" (62 : Nat) "NotationParseModel" "pileLevel" "[I") ∈ np_al := List.mem_filter.mpr ⟨List.mem_append_right _ (List.mem_append_right _ (List.mem_append_right _ (List.mem_append_right _ (List.mem_append_left _ (List.mem_of_getElem? (i := 226) rfl))))), rfl⟩
theorem tw_947 : (Jvm.Cond.fieldLink "NotationParseModel" (65 : Nat) "NotationParseModel" "pileFrom" "[I") ∈ np_al := List.mem_filter.mpr ⟨List.mem_append_right _ (List.mem_append_right _ (List.mem_append_right _ (List.mem_append_right _ (List.mem_append_left _ (List.mem_of_getElem? (i := 227) rfl))))), rfl⟩
theorem tw_948 : (Jvm.Cond.fieldLink "NotationParseModel" (68 : Nat) "NotationParseModel" "pileTo" "[I") ∈ np_al := List.mem_filter.mpr ⟨List.mem_append_right _ (List.mem_append_right _ (List.mem_append_right _ (List.mem_append_right _ (List.mem_append_left _ (List.mem_of_getElem? (i := 228) rfl))))), rfl⟩
theorem tw_949 : (Jvm.Cond.fieldLink "NotationParseModel" (71 : Nat) "NotationParseModel" "pileParent" "[I") ∈ np_al := List.mem_filter.mpr ⟨List.mem_append_right _ (List.mem_append_right _ (List.mem_append_right _ (List.mem_append_right _ (List.mem_append_left _ (List.mem_of_getElem? (i := 229) rfl))))), rfl⟩
theorem tw_950 : (Jvm.Cond.fieldLink "NotationParseModel" (188 : Nat) "NotationParseModel" "high" "I") ∈ np_al := List.mem_filter.mpr ⟨List.mem_append_right _ (List.mem_append_right _ (List.mem_append_right _ (List.mem_append_right _ (List.mem_append_left _ (List.mem_of_getElem? (i := 230) rfl))))), rfl⟩
theorem tw_951 : (Jvm.Cond.fieldLink "NotationParseModel" (208 : Nat) "NotationParseModel" "outMany" "I") ∈ np_al := List.mem_filter.mpr ⟨List.mem_append_right _ (List.mem_append_right _ (List.mem_append_right _ (List.mem_append_right _ (List.mem_append_left _ (List.mem_of_getElem? (i := 231) rfl))))), rfl⟩
theorem tw_952 : (Jvm.Cond.fieldLink "NotationParseModel" (74 : Nat) "NotationParseModel" "out" "[I") ∈ np_al := List.mem_filter.mpr ⟨List.mem_append_right _ (List.mem_append_right _ (List.mem_append_right _ (List.mem_append_right _ (List.mem_append_left _ (List.mem_of_getElem? (i := 232) rfl))))), rfl⟩
theorem tw_953 : (Jvm.Cond.fieldLink "NotationParseModel" (77 : Nat) "NotationParseModel" "todo" "[I") ∈ np_al := List.mem_filter.mpr ⟨List.mem_append_right _ (List.mem_append_right _ (List.mem_append_right _ (List.mem_append_right _ (List.mem_append_left _ (List.mem_of_getElem? (i := 233) rfl))))), rfl⟩
theorem tw_1026 : (Jvm.Cond.methodLink "NotationParseModel" (106 : Nat) ({ cls := "NotationParseModel", name := "part", desc := "(IJ)I" } : Jvm.MethodName)) ∈ np_al := List.mem_filter.mpr ⟨List.mem_append_right _ (List.mem_append_right _ (List.mem_append_right _ (List.mem_append_right _ (List.mem_append_right _ (List.mem_of_getElem? (i := 66) rfl))))), rfl⟩
theorem tw_1028 : (Jvm.Cond.instanceMethod ({ cls := "NotationParseModel", name := "part", desc := "(IJ)I" } : Jvm.MethodName)) ∈ np_al := List.mem_filter.mpr ⟨List.mem_append_right _ (List.mem_append_right _ (List.mem_append_right _ (List.mem_append_right _ (List.mem_append_right _ (List.mem_of_getElem? (i := 68) rfl))))), rfl⟩
theorem tw_1029 : (Jvm.Cond.code ({ cls := "NotationParseModel", name := "part", desc := "(IJ)I" } : Jvm.MethodName) prog_9_method_10_code (4 : Nat) (Option.some Jvm.ClassFile.FieldType.int)) ∈ np_al := List.mem_filter.mpr ⟨List.mem_append_right _ (List.mem_append_right _ (List.mem_append_right _ (List.mem_append_right _ (List.mem_append_right _ (List.mem_of_getElem? (i := 69) rfl))))), rfl⟩
theorem tw_1034 : (Jvm.Cond.methodLink "NotationParseModel" (110 : Nat) ({ cls := "NotationParseModel", name := "isWord", desc := "(JI)Z" } : Jvm.MethodName)) ∈ np_al := List.mem_filter.mpr ⟨List.mem_append_right _ (List.mem_append_right _ (List.mem_append_right _ (List.mem_append_right _ (List.mem_append_right _ (List.mem_of_getElem? (i := 74) rfl))))), rfl⟩
theorem tw_1035 : (Jvm.Cond.static ({ cls := "NotationParseModel", name := "isWord", desc := "(JI)Z" } : Jvm.MethodName)) ∈ np_al := List.mem_filter.mpr ⟨List.mem_append_right _ (List.mem_append_right _ (List.mem_append_right _ (List.mem_append_right _ (List.mem_append_right _ (List.mem_of_getElem? (i := 75) rfl))))), rfl⟩
theorem tw_1036 : (Jvm.Cond.code ({ cls := "NotationParseModel", name := "isWord", desc := "(JI)Z" } : Jvm.MethodName) prog_9_method_8_code (6 : Nat) (Option.some Jvm.ClassFile.FieldType.boolean)) ∈ np_al := List.mem_filter.mpr ⟨List.mem_append_right _ (List.mem_append_right _ (List.mem_append_right _ (List.mem_append_right _ (List.mem_append_right _ (List.mem_of_getElem? (i := 76) rfl))))), rfl⟩
theorem tw_1037 : (Jvm.Cond.methodLink "NotationParseModel" (92 : Nat) ({ cls := "NotationParseModel", name := "byteOf", desc := "(JII)I" } : Jvm.MethodName)) ∈ np_al := List.mem_filter.mpr ⟨List.mem_append_right _ (List.mem_append_right _ (List.mem_append_right _ (List.mem_append_right _ (List.mem_append_right _ (List.mem_of_getElem? (i := 77) rfl))))), rfl⟩
theorem tw_1038 : (Jvm.Cond.static ({ cls := "NotationParseModel", name := "byteOf", desc := "(JII)I" } : Jvm.MethodName)) ∈ np_al := List.mem_filter.mpr ⟨List.mem_append_right _ (List.mem_append_right _ (List.mem_append_right _ (List.mem_append_right _ (List.mem_append_right _ (List.mem_of_getElem? (i := 78) rfl))))), rfl⟩
theorem tw_1039 : (Jvm.Cond.code ({ cls := "NotationParseModel", name := "byteOf", desc := "(JII)I" } : Jvm.MethodName) prog_9_method_6_code (4 : Nat) (Option.some Jvm.ClassFile.FieldType.int)) ∈ np_al := List.mem_filter.mpr ⟨List.mem_append_right _ (List.mem_append_right _ (List.mem_append_right _ (List.mem_append_right _ (List.mem_append_right _ (List.mem_of_getElem? (i := 79) rfl))))), rfl⟩
theorem tw_1040 : (Jvm.Cond.constantLong "NotationParseModel" (90 : Nat) (255 : Int64)) ∈ np_al := List.mem_filter.mpr ⟨List.mem_append_right _ (List.mem_append_right _ (List.mem_append_right _ (List.mem_append_right _ (List.mem_append_right _ (List.mem_of_getElem? (i := 80) rfl))))), rfl⟩
theorem tw_1041 : (Jvm.Cond.methodLink "NotationParseModel" (96 : Nat) ({ cls := "NotationParseModel", name := "sort", desc := "(I)I" } : Jvm.MethodName)) ∈ np_al := List.mem_filter.mpr ⟨List.mem_append_right _ (List.mem_append_right _ (List.mem_append_right _ (List.mem_append_right _ (List.mem_append_right _ (List.mem_of_getElem? (i := 81) rfl))))), rfl⟩
theorem tw_1042 : (Jvm.Cond.static ({ cls := "NotationParseModel", name := "sort", desc := "(I)I" } : Jvm.MethodName)) ∈ np_al := List.mem_filter.mpr ⟨List.mem_append_right _ (List.mem_append_right _ (List.mem_append_right _ (List.mem_append_right _ (List.mem_append_right _ (List.mem_of_getElem? (i := 82) rfl))))), rfl⟩
theorem tw_1043 : (Jvm.Cond.code ({ cls := "NotationParseModel", name := "sort", desc := "(I)I" } : Jvm.MethodName) prog_9_method_5_code (1 : Nat) (Option.some Jvm.ClassFile.FieldType.int)) ∈ np_al := List.mem_filter.mpr ⟨List.mem_append_right _ (List.mem_append_right _ (List.mem_append_right _ (List.mem_append_right _ (List.mem_append_right _ (List.mem_of_getElem? (i := 83) rfl))))), rfl⟩
theorem tw_1044 : (Jvm.Cond.methodLink "NotationParseModel" (83 : Nat) ({ cls := "NotationParseModel", name := "isLetter", desc := "(I)Z" } : Jvm.MethodName)) ∈ np_al := List.mem_filter.mpr ⟨List.mem_append_right _ (List.mem_append_right _ (List.mem_append_right _ (List.mem_append_right _ (List.mem_append_right _ (List.mem_of_getElem? (i := 84) rfl))))), rfl⟩
theorem tw_1045 : (Jvm.Cond.static ({ cls := "NotationParseModel", name := "isLetter", desc := "(I)Z" } : Jvm.MethodName)) ∈ np_al := List.mem_filter.mpr ⟨List.mem_append_right _ (List.mem_append_right _ (List.mem_append_right _ (List.mem_append_right _ (List.mem_append_right _ (List.mem_of_getElem? (i := 85) rfl))))), rfl⟩
theorem tw_1046 : (Jvm.Cond.code ({ cls := "NotationParseModel", name := "isLetter", desc := "(I)Z" } : Jvm.MethodName) prog_9_method_3_code (1 : Nat) (Option.some Jvm.ClassFile.FieldType.boolean)) ∈ np_al := List.mem_filter.mpr ⟨List.mem_append_right _ (List.mem_append_right _ (List.mem_append_right _ (List.mem_append_right _ (List.mem_append_right _ (List.mem_of_getElem? (i := 86) rfl))))), rfl⟩
theorem tw_1047 : (Jvm.Cond.methodLink "NotationParseModel" (87 : Nat) ({ cls := "NotationParseModel", name := "isDigit", desc := "(I)Z" } : Jvm.MethodName)) ∈ np_al := List.mem_filter.mpr ⟨List.mem_append_right _ (List.mem_append_right _ (List.mem_append_right _ (List.mem_append_right _ (List.mem_append_right _ (List.mem_of_getElem? (i := 87) rfl))))), rfl⟩
theorem tw_1048 : (Jvm.Cond.static ({ cls := "NotationParseModel", name := "isDigit", desc := "(I)Z" } : Jvm.MethodName)) ∈ np_al := List.mem_filter.mpr ⟨List.mem_append_right _ (List.mem_append_right _ (List.mem_append_right _ (List.mem_append_right _ (List.mem_append_right _ (List.mem_of_getElem? (i := 88) rfl))))), rfl⟩
theorem tw_1049 : (Jvm.Cond.code ({ cls := "NotationParseModel", name := "isDigit", desc := "(I)Z" } : Jvm.MethodName) prog_9_method_4_code (1 : Nat) (Option.some Jvm.ClassFile.FieldType.boolean)) ∈ np_al := List.mem_filter.mpr ⟨List.mem_append_right _ (List.mem_append_right _ (List.mem_append_right _ (List.mem_append_right _ (List.mem_append_right _ (List.mem_of_getElem? (i := 89) rfl))))), rfl⟩
theorem tw_1050 : (Jvm.Cond.methodLink "NotationParseModel" (114 : Nat) ({ cls := "NotationParseModel", name := "lowest", desc := "(JI)J" } : Jvm.MethodName)) ∈ np_al := List.mem_filter.mpr ⟨List.mem_append_right _ (List.mem_append_right _ (List.mem_append_right _ (List.mem_append_right _ (List.mem_append_right _ (List.mem_of_getElem? (i := 90) rfl))))), rfl⟩
theorem tw_1051 : (Jvm.Cond.static ({ cls := "NotationParseModel", name := "lowest", desc := "(JI)J" } : Jvm.MethodName)) ∈ np_al := List.mem_filter.mpr ⟨List.mem_append_right _ (List.mem_append_right _ (List.mem_append_right _ (List.mem_append_right _ (List.mem_append_right _ (List.mem_of_getElem? (i := 91) rfl))))), rfl⟩
theorem tw_1052 : (Jvm.Cond.code ({ cls := "NotationParseModel", name := "lowest", desc := "(JI)J" } : Jvm.MethodName) prog_9_method_7_code (3 : Nat) (Option.some Jvm.ClassFile.FieldType.long)) ∈ np_al := List.mem_filter.mpr ⟨List.mem_append_right _ (List.mem_append_right _ (List.mem_append_right _ (List.mem_append_right _ (List.mem_append_right _ (List.mem_of_getElem? (i := 92) rfl))))), rfl⟩
theorem tw_1053 : (Jvm.Cond.constantLong "NotationParseModel" (118 : Nat) (40 : Int64)) ∈ np_al := List.mem_filter.mpr ⟨List.mem_append_right _ (List.mem_append_right _ (List.mem_append_right _ (List.mem_append_right _ (List.mem_append_right _ (List.mem_of_getElem? (i := 93) rfl))))), rfl⟩
theorem tw_1054 : (Jvm.Cond.constantLong "NotationParseModel" (120 : Nat) (41 : Int64)) ∈ np_al := List.mem_filter.mpr ⟨List.mem_append_right _ (List.mem_append_right _ (List.mem_append_right _ (List.mem_append_right _ (List.mem_append_right _ (List.mem_of_getElem? (i := 94) rfl))))), rfl⟩
theorem tw_1071 : (Jvm.Cond.methodLink "NotationParseModel" (172 : Nat) ({ cls := "NotationParseModel", name := "takeWords", desc := "()I" } : Jvm.MethodName)) ∈ np_al := List.mem_filter.mpr ⟨List.mem_append_right _ (List.mem_append_right _ (List.mem_append_right _ (List.mem_append_right _ (List.mem_append_right _ (List.mem_of_getElem? (i := 111) rfl))))), rfl⟩
theorem tw_1073 : (Jvm.Cond.instanceMethod ({ cls := "NotationParseModel", name := "takeWords", desc := "()I" } : Jvm.MethodName)) ∈ np_al := List.mem_filter.mpr ⟨List.mem_append_right _ (List.mem_append_right _ (List.mem_append_right _ (List.mem_append_right _ (List.mem_append_right _ (List.mem_of_getElem? (i := 113) rfl))))), rfl⟩
theorem tw_1074 : (Jvm.Cond.code ({ cls := "NotationParseModel", name := "takeWords", desc := "()I" } : Jvm.MethodName) prog_9_method_16_code (7 : Nat) (Option.some Jvm.ClassFile.FieldType.int)) ∈ np_al := List.mem_filter.mpr ⟨List.mem_append_right _ (List.mem_append_right _ (List.mem_append_right _ (List.mem_append_right _ (List.mem_append_right _ (List.mem_of_getElem? (i := 114) rfl))))), rfl⟩
theorem tw_1075 : (Jvm.Cond.methodLink "NotationParseModel" (176 : Nat) ({ cls := "NotationParseModel", name := "count", desc := "()V" } : Jvm.MethodName)) ∈ np_al := List.mem_filter.mpr ⟨List.mem_append_right _ (List.mem_append_right _ (List.mem_append_right _ (List.mem_append_right _ (List.mem_append_right _ (List.mem_of_getElem? (i := 115) rfl))))), rfl⟩
theorem tw_1077 : (Jvm.Cond.instanceMethod ({ cls := "NotationParseModel", name := "count", desc := "()V" } : Jvm.MethodName)) ∈ np_al := List.mem_filter.mpr ⟨List.mem_append_right _ (List.mem_append_right _ (List.mem_append_right _ (List.mem_append_right _ (List.mem_append_right _ (List.mem_of_getElem? (i := 117) rfl))))), rfl⟩
theorem tw_1078 : (Jvm.Cond.code ({ cls := "NotationParseModel", name := "count", desc := "()V" } : Jvm.MethodName) prog_9_method_23_code (6 : Nat) (Option.none : Option Jvm.ClassFile.FieldType)) ∈ np_al := List.mem_filter.mpr ⟨List.mem_append_right _ (List.mem_append_right _ (List.mem_append_right _ (List.mem_append_right _ (List.mem_append_right _ (List.mem_of_getElem? (i := 118) rfl))))), rfl⟩
theorem tw_1079 : (Jvm.Cond.methodLink "NotationParseModel" (138 : Nat) ({ cls := "NotationParseModel", name := "cell", desc := "(III)I" } : Jvm.MethodName)) ∈ np_al := List.mem_filter.mpr ⟨List.mem_append_right _ (List.mem_append_right _ (List.mem_append_right _ (List.mem_append_right _ (List.mem_append_right _ (List.mem_of_getElem? (i := 119) rfl))))), rfl⟩
theorem tw_1080 : (Jvm.Cond.static ({ cls := "NotationParseModel", name := "cell", desc := "(III)I" } : Jvm.MethodName)) ∈ np_al := List.mem_filter.mpr ⟨List.mem_append_right _ (List.mem_append_right _ (List.mem_append_right _ (List.mem_append_right _ (List.mem_append_right _ (List.mem_of_getElem? (i := 120) rfl))))), rfl⟩
theorem tw_1081 : (Jvm.Cond.code ({ cls := "NotationParseModel", name := "cell", desc := "(III)I" } : Jvm.MethodName) prog_9_method_20_code (3 : Nat) (Option.some Jvm.ClassFile.FieldType.int)) ∈ np_al := List.mem_filter.mpr ⟨List.mem_append_right _ (List.mem_append_right _ (List.mem_append_right _ (List.mem_append_right _ (List.mem_append_right _ (List.mem_of_getElem? (i := 121) rfl))))), rfl⟩
theorem tw_1082 : (Jvm.Cond.methodLink "NotationParseModel" (153 : Nat) ({ cls := "NotationParseModel", name := "waysOf", desc := "(IIII)I" } : Jvm.MethodName)) ∈ np_al := List.mem_filter.mpr ⟨List.mem_append_right _ (List.mem_append_right _ (List.mem_append_right _ (List.mem_append_right _ (List.mem_append_right _ (List.mem_of_getElem? (i := 122) rfl))))), rfl⟩
theorem tw_1084 : (Jvm.Cond.instanceMethod ({ cls := "NotationParseModel", name := "waysOf", desc := "(IIII)I" } : Jvm.MethodName)) ∈ np_al := List.mem_filter.mpr ⟨List.mem_append_right _ (List.mem_append_right _ (List.mem_append_right _ (List.mem_append_right _ (List.mem_append_right _ (List.mem_of_getElem? (i := 124) rfl))))), rfl⟩
theorem tw_1085 : (Jvm.Cond.code ({ cls := "NotationParseModel", name := "waysOf", desc := "(IIII)I" } : Jvm.MethodName) prog_9_method_21_code (9 : Nat) (Option.some Jvm.ClassFile.FieldType.int)) ∈ np_al := List.mem_filter.mpr ⟨List.mem_append_right _ (List.mem_append_right _ (List.mem_append_right _ (List.mem_append_right _ (List.mem_append_right _ (List.mem_of_getElem? (i := 125) rfl))))), rfl⟩
theorem tw_1086 : (Jvm.Cond.methodLink "NotationParseModel" (142 : Nat) ({ cls := "NotationParseModel", name := "less", desc := "(J)I" } : Jvm.MethodName)) ∈ np_al := List.mem_filter.mpr ⟨List.mem_append_right _ (List.mem_append_right _ (List.mem_append_right _ (List.mem_append_right _ (List.mem_append_right _ (List.mem_of_getElem? (i := 126) rfl))))), rfl⟩
theorem tw_1087 : (Jvm.Cond.static ({ cls := "NotationParseModel", name := "less", desc := "(J)I" } : Jvm.MethodName)) ∈ np_al := List.mem_filter.mpr ⟨List.mem_append_right _ (List.mem_append_right _ (List.mem_append_right _ (List.mem_append_right _ (List.mem_append_right _ (List.mem_of_getElem? (i := 127) rfl))))), rfl⟩
theorem tw_1088 : (Jvm.Cond.code ({ cls := "NotationParseModel", name := "less", desc := "(J)I" } : Jvm.MethodName) prog_9_method_19_code (2 : Nat) (Option.some Jvm.ClassFile.FieldType.int)) ∈ np_al := List.mem_filter.mpr ⟨List.mem_append_right _ (List.mem_append_right _ (List.mem_append_right _ (List.mem_append_right _ (List.mem_append_right _ (List.mem_of_getElem? (i := 128) rfl))))), rfl⟩
theorem tw_1089 : (Jvm.Cond.constantLong "NotationParseModel" (135 : Nat) (1000000 : Int64)) ∈ np_al := List.mem_filter.mpr ⟨List.mem_append_right _ (List.mem_append_right _ (List.mem_append_right _ (List.mem_append_right _ (List.mem_append_right _ (List.mem_of_getElem? (i := 129) rfl))))), rfl⟩
theorem tw_1090 : (Jvm.Cond.constant "NotationParseModel" (137 : Nat) (1000000 : Int32)) ∈ np_al := List.mem_filter.mpr ⟨List.mem_append_right _ (List.mem_append_right _ (List.mem_append_right _ (List.mem_append_right _ (List.mem_append_right _ (List.mem_of_getElem? (i := 130) rfl))))), rfl⟩
theorem tw_1091 : (Jvm.Cond.methodLink "NotationParseModel" (157 : Nat) ({ cls := "NotationParseModel", name := "countTerms", desc := "(II)V" } : Jvm.MethodName)) ∈ np_al := List.mem_filter.mpr ⟨List.mem_append_right _ (List.mem_append_right _ (List.mem_append_right _ (List.mem_append_right _ (List.mem_append_right _ (List.mem_of_getElem? (i := 131) rfl))))), rfl⟩
theorem tw_1093 : (Jvm.Cond.instanceMethod ({ cls := "NotationParseModel", name := "countTerms", desc := "(II)V" } : Jvm.MethodName)) ∈ np_al := List.mem_filter.mpr ⟨List.mem_append_right _ (List.mem_append_right _ (List.mem_append_right _ (List.mem_append_right _ (List.mem_append_right _ (List.mem_of_getElem? (i := 133) rfl))))), rfl⟩
theorem tw_1094 : (Jvm.Cond.code ({ cls := "NotationParseModel", name := "countTerms", desc := "(II)V" } : Jvm.MethodName) prog_9_method_22_code (7 : Nat) (Option.none : Option Jvm.ClassFile.FieldType)) ∈ np_al := List.mem_filter.mpr ⟨List.mem_append_right _ (List.mem_append_right _ (List.mem_append_right _ (List.mem_append_right _ (List.mem_append_right _ (List.mem_of_getElem? (i := 134) rfl))))), rfl⟩
theorem tw_1095 : (Jvm.Cond.methodLink "NotationParseModel" (146 : Nat) ({ cls := "NotationParseModel", name := "isAtom", desc := "(I)Z" } : Jvm.MethodName)) ∈ np_al := List.mem_filter.mpr ⟨List.mem_append_right _ (List.mem_append_right _ (List.mem_append_right _ (List.mem_append_right _ (List.mem_append_right _ (List.mem_of_getElem? (i := 135) rfl))))), rfl⟩
theorem tw_1097 : (Jvm.Cond.instanceMethod ({ cls := "NotationParseModel", name := "isAtom", desc := "(I)Z" } : Jvm.MethodName)) ∈ np_al := List.mem_filter.mpr ⟨List.mem_append_right _ (List.mem_append_right _ (List.mem_append_right _ (List.mem_append_right _ (List.mem_append_right _ (List.mem_of_getElem? (i := 137) rfl))))), rfl⟩
theorem tw_1098 : (Jvm.Cond.code ({ cls := "NotationParseModel", name := "isAtom", desc := "(I)Z" } : Jvm.MethodName) prog_9_method_17_code (3 : Nat) (Option.some Jvm.ClassFile.FieldType.boolean)) ∈ np_al := List.mem_filter.mpr ⟨List.mem_append_right _ (List.mem_append_right _ (List.mem_append_right _ (List.mem_append_right _ (List.mem_append_right _ (List.mem_of_getElem? (i := 138) rfl))))), rfl⟩
theorem tw_1099 : (Jvm.Cond.methodLink "NotationParseModel" (131 : Nat) ({ cls := "NotationParseModel", name := "isKeyWord", desc := "(J)Z" } : Jvm.MethodName)) ∈ np_al := List.mem_filter.mpr ⟨List.mem_append_right _ (List.mem_append_right _ (List.mem_append_right _ (List.mem_append_right _ (List.mem_append_right _ (List.mem_of_getElem? (i := 139) rfl))))), rfl⟩
theorem tw_1101 : (Jvm.Cond.instanceMethod ({ cls := "NotationParseModel", name := "isKeyWord", desc := "(J)Z" } : Jvm.MethodName)) ∈ np_al := List.mem_filter.mpr ⟨List.mem_append_right _ (List.mem_append_right _ (List.mem_append_right _ (List.mem_append_right _ (List.mem_append_right _ (List.mem_of_getElem? (i := 141) rfl))))), rfl⟩
theorem tw_1102 : (Jvm.Cond.code ({ cls := "NotationParseModel", name := "isKeyWord", desc := "(J)Z" } : Jvm.MethodName) prog_9_method_9_code (6 : Nat) (Option.some Jvm.ClassFile.FieldType.boolean)) ∈ np_al := List.mem_filter.mpr ⟨List.mem_append_right _ (List.mem_append_right _ (List.mem_append_right _ (List.mem_append_right _ (List.mem_append_right _ (List.mem_of_getElem? (i := 142) rfl))))), rfl⟩
theorem tw_1103 : (Jvm.Cond.methodLink "NotationParseModel" (149 : Nat) ({ cls := "NotationParseModel", name := "is", desc := "(II)Z" } : Jvm.MethodName)) ∈ np_al := List.mem_filter.mpr ⟨List.mem_append_right _ (List.mem_append_right _ (List.mem_append_right _ (List.mem_append_right _ (List.mem_append_right _ (List.mem_of_getElem? (i := 143) rfl))))), rfl⟩
theorem tw_1105 : (Jvm.Cond.instanceMethod ({ cls := "NotationParseModel", name := "is", desc := "(II)Z" } : Jvm.MethodName)) ∈ np_al := List.mem_filter.mpr ⟨List.mem_append_right _ (List.mem_append_right _ (List.mem_append_right _ (List.mem_append_right _ (List.mem_append_right _ (List.mem_of_getElem? (i := 145) rfl))))), rfl⟩
theorem tw_1106 : (Jvm.Cond.code ({ cls := "NotationParseModel", name := "is", desc := "(II)Z" } : Jvm.MethodName) prog_9_method_18_code (3 : Nat) (Option.some Jvm.ClassFile.FieldType.boolean)) ∈ np_al := List.mem_filter.mpr ⟨List.mem_append_right _ (List.mem_append_right _ (List.mem_append_right _ (List.mem_append_right _ (List.mem_append_right _ (List.mem_of_getElem? (i := 146) rfl))))), rfl⟩
theorem tw_1107 : (Jvm.Cond.methodLink "NotationParseModel" (179 : Nat) ({ cls := "NotationParseModel", name := "canBegin", desc := "(I)Z" } : Jvm.MethodName)) ∈ np_al := List.mem_filter.mpr ⟨List.mem_append_right _ (List.mem_append_right _ (List.mem_append_right _ (List.mem_append_right _ (List.mem_append_right _ (List.mem_of_getElem? (i := 147) rfl))))), rfl⟩
theorem tw_1109 : (Jvm.Cond.instanceMethod ({ cls := "NotationParseModel", name := "canBegin", desc := "(I)Z" } : Jvm.MethodName)) ∈ np_al := List.mem_filter.mpr ⟨List.mem_append_right _ (List.mem_append_right _ (List.mem_append_right _ (List.mem_append_right _ (List.mem_append_right _ (List.mem_of_getElem? (i := 149) rfl))))), rfl⟩
theorem tw_1110 : (Jvm.Cond.code ({ cls := "NotationParseModel", name := "canBegin", desc := "(I)Z" } : Jvm.MethodName) prog_9_method_26_code (5 : Nat) (Option.some Jvm.ClassFile.FieldType.boolean)) ∈ np_al := List.mem_filter.mpr ⟨List.mem_append_right _ (List.mem_append_right _ (List.mem_append_right _ (List.mem_append_right _ (List.mem_append_right _ (List.mem_of_getElem? (i := 150) rfl))))), rfl⟩
theorem tw_1111 : (Jvm.Cond.methodLink "NotationParseModel" (165 : Nat) ({ cls := "NotationParseModel", name := "mayBeTerm", desc := "(III)Z" } : Jvm.MethodName)) ∈ np_al := List.mem_filter.mpr ⟨List.mem_append_right _ (List.mem_append_right _ (List.mem_append_right _ (List.mem_append_right _ (List.mem_append_right _ (List.mem_of_getElem? (i := 151) rfl))))), rfl⟩
theorem tw_1113 : (Jvm.Cond.instanceMethod ({ cls := "NotationParseModel", name := "mayBeTerm", desc := "(III)Z" } : Jvm.MethodName)) ∈ np_al := List.mem_filter.mpr ⟨List.mem_append_right _ (List.mem_append_right _ (List.mem_append_right _ (List.mem_append_right _ (List.mem_append_right _ (List.mem_of_getElem? (i := 153) rfl))))), rfl⟩
theorem tw_1114 : (Jvm.Cond.code ({ cls := "NotationParseModel", name := "mayBeTerm", desc := "(III)Z" } : Jvm.MethodName) prog_9_method_25_code (6 : Nat) (Option.some Jvm.ClassFile.FieldType.boolean)) ∈ np_al := List.mem_filter.mpr ⟨List.mem_append_right _ (List.mem_append_right _ (List.mem_append_right _ (List.mem_append_right _ (List.mem_append_right _ (List.mem_of_getElem? (i := 154) rfl))))), rfl⟩
theorem tw_1115 : (Jvm.Cond.methodLink "NotationParseModel" (161 : Nat) ({ cls := "NotationParseModel", name := "mayBegin", desc := "(IIII)Z" } : Jvm.MethodName)) ∈ np_al := List.mem_filter.mpr ⟨List.mem_append_right _ (List.mem_append_right _ (List.mem_append_right _ (List.mem_append_right _ (List.mem_append_right _ (List.mem_of_getElem? (i := 155) rfl))))), rfl⟩
theorem tw_1117 : (Jvm.Cond.instanceMethod ({ cls := "NotationParseModel", name := "mayBegin", desc := "(IIII)Z" } : Jvm.MethodName)) ∈ np_al := List.mem_filter.mpr ⟨List.mem_append_right _ (List.mem_append_right _ (List.mem_append_right _ (List.mem_append_right _ (List.mem_append_right _ (List.mem_of_getElem? (i := 157) rfl))))), rfl⟩
theorem tw_1118 : (Jvm.Cond.code ({ cls := "NotationParseModel", name := "mayBegin", desc := "(IIII)Z" } : Jvm.MethodName) prog_9_method_24_code (8 : Nat) (Option.some Jvm.ClassFile.FieldType.boolean)) ∈ np_al := List.mem_filter.mpr ⟨List.mem_append_right _ (List.mem_append_right _ (List.mem_append_right _ (List.mem_append_right _ (List.mem_append_right _ (List.mem_of_getElem? (i := 158) rfl))))), rfl⟩
theorem tw_1119 : (Jvm.Cond.methodLink "NotationParseModel" (182 : Nat) ({ cls := "NotationParseModel", name := "faulty", desc := "(II)V" } : Jvm.MethodName)) ∈ np_al := List.mem_filter.mpr ⟨List.mem_append_right _ (List.mem_append_right _ (List.mem_append_right _ (List.mem_append_right _ (List.mem_append_right _ (List.mem_of_getElem? (i := 159) rfl))))), rfl⟩
theorem tw_1121 : (Jvm.Cond.instanceMethod ({ cls := "NotationParseModel", name := "faulty", desc := "(II)V" } : Jvm.MethodName)) ∈ np_al := List.mem_filter.mpr ⟨List.mem_append_right _ (List.mem_append_right _ (List.mem_append_right _ (List.mem_append_right _ (List.mem_append_right _ (List.mem_of_getElem? (i := 161) rfl))))), rfl⟩
theorem tw_1122 : (Jvm.Cond.code ({ cls := "NotationParseModel", name := "faulty", desc := "(II)V" } : Jvm.MethodName) prog_9_method_27_code (3 : Nat) (Option.none : Option Jvm.ClassFile.FieldType)) ∈ np_al := List.mem_filter.mpr ⟨List.mem_append_right _ (List.mem_append_right _ (List.mem_append_right _ (List.mem_append_right _ (List.mem_append_right _ (List.mem_of_getElem? (i := 162) rfl))))), rfl⟩
theorem tw_1123 : (Jvm.Cond.methodLink "NotationParseModel" (185 : Nat) ({ cls := "NotationParseModel", name := "grow", desc := "()V" } : Jvm.MethodName)) ∈ np_al := List.mem_filter.mpr ⟨List.mem_append_right _ (List.mem_append_right _ (List.mem_append_right _ (List.mem_append_right _ (List.mem_append_right _ (List.mem_of_getElem? (i := 163) rfl))))), rfl⟩
theorem tw_1125 : (Jvm.Cond.instanceMethod ({ cls := "NotationParseModel", name := "grow", desc := "()V" } : Jvm.MethodName)) ∈ np_al := List.mem_filter.mpr ⟨List.mem_append_right _ (List.mem_append_right _ (List.mem_append_right _ (List.mem_append_right _ (List.mem_append_right _ (List.mem_of_getElem? (i := 165) rfl))))), rfl⟩
theorem tw_1126 : (Jvm.Cond.code ({ cls := "NotationParseModel", name := "grow", desc := "()V" } : Jvm.MethodName) prog_9_method_31_code (2 : Nat) (Option.none : Option Jvm.ClassFile.FieldType)) ∈ np_al := List.mem_filter.mpr ⟨List.mem_append_right _ (List.mem_append_right _ (List.mem_append_right _ (List.mem_append_right _ (List.mem_append_right _ (List.mem_of_getElem? (i := 166) rfl))))), rfl⟩
theorem tw_1127 : (Jvm.Cond.methodLink "NotationParseModel" (191 : Nat) ({ cls := "NotationParseModel", name := "later", desc := "(IIII)V" } : Jvm.MethodName)) ∈ np_al := List.mem_filter.mpr ⟨List.mem_append_right _ (List.mem_append_right _ (List.mem_append_right _ (List.mem_append_right _ (List.mem_append_right _ (List.mem_of_getElem? (i := 167) rfl))))), rfl⟩
theorem tw_1129 : (Jvm.Cond.instanceMethod ({ cls := "NotationParseModel", name := "later", desc := "(IIII)V" } : Jvm.MethodName)) ∈ np_al := List.mem_filter.mpr ⟨List.mem_append_right _ (List.mem_append_right _ (List.mem_append_right _ (List.mem_append_right _ (List.mem_append_right _ (List.mem_of_getElem? (i := 169) rfl))))), rfl⟩
theorem tw_1130 : (Jvm.Cond.code ({ cls := "NotationParseModel", name := "later", desc := "(IIII)V" } : Jvm.MethodName) prog_9_method_30_code (5 : Nat) (Option.none : Option Jvm.ClassFile.FieldType)) ∈ np_al := List.mem_filter.mpr ⟨List.mem_append_right _ (List.mem_append_right _ (List.mem_append_right _ (List.mem_append_right _ (List.mem_append_right _ (List.mem_of_getElem? (i := 170) rfl))))), rfl⟩
theorem tw_1131 : (Jvm.Cond.methodLink "NotationParseModel" (195 : Nat) ({ cls := "NotationParseModel", name := "kindOf", desc := "(III)I" } : Jvm.MethodName)) ∈ np_al := List.mem_filter.mpr ⟨List.mem_append_right _ (List.mem_append_right _ (List.mem_append_right _ (List.mem_append_right _ (List.mem_append_right _ (List.mem_of_getElem? (i := 171) rfl))))), rfl⟩
theorem tw_1133 : (Jvm.Cond.instanceMethod ({ cls := "NotationParseModel", name := "kindOf", desc := "(III)I" } : Jvm.MethodName)) ∈ np_al := List.mem_filter.mpr ⟨List.mem_append_right _ (List.mem_append_right _ (List.mem_append_right _ (List.mem_append_right _ (List.mem_append_right _ (List.mem_of_getElem? (i := 173) rfl))))), rfl⟩
theorem tw_1134 : (Jvm.Cond.code ({ cls := "NotationParseModel", name := "kindOf", desc := "(III)I" } : Jvm.MethodName) prog_9_method_32_code (6 : Nat) (Option.some Jvm.ClassFile.FieldType.int)) ∈ np_al := List.mem_filter.mpr ⟨List.mem_append_right _ (List.mem_append_right _ (List.mem_append_right _ (List.mem_append_right _ (List.mem_append_right _ (List.mem_of_getElem? (i := 174) rfl))))), rfl⟩
theorem tw_1135 : (Jvm.Cond.methodLink "NotationParseModel" (198 : Nat) ({ cls := "NotationParseModel", name := "fillHoles", desc := "(I)V" } : Jvm.MethodName)) ∈ np_al := List.mem_filter.mpr ⟨List.mem_append_right _ (List.mem_append_right _ (List.mem_append_right _ (List.mem_append_right _ (List.mem_append_right _ (List.mem_of_getElem? (i := 175) rfl))))), rfl⟩
theorem tw_1137 : (Jvm.Cond.instanceMethod ({ cls := "NotationParseModel", name := "fillHoles", desc := "(I)V" } : Jvm.MethodName)) ∈ np_al := List.mem_filter.mpr ⟨List.mem_append_right _ (List.mem_append_right _ (List.mem_append_right _ (List.mem_append_right _ (List.mem_append_right _ (List.mem_of_getElem? (i := 177) rfl))))), rfl⟩
theorem tw_1138 : (Jvm.Cond.code ({ cls := "NotationParseModel", name := "fillHoles", desc := "(I)V" } : Jvm.MethodName) prog_9_method_33_code (8 : Nat) (Option.none : Option Jvm.ClassFile.FieldType)) ∈ np_al := List.mem_filter.mpr ⟨List.mem_append_right _ (List.mem_append_right _ (List.mem_append_right _ (List.mem_append_right _ (List.mem_append_right _ (List.mem_of_getElem? (i := 178) rfl))))), rfl⟩
theorem tw_1139 : (Jvm.Cond.methodLink "NotationParseModel" (202 : Nat) ({ cls := "NotationParseModel", name := "change", desc := "(II)V" } : Jvm.MethodName)) ∈ np_al := List.mem_filter.mpr ⟨List.mem_append_right _ (List.mem_append_right _ (List.mem_append_right _ (List.mem_append_right _ (List.mem_append_right _ (List.mem_of_getElem? (i := 179) rfl))))), rfl⟩
theorem tw_1141 : (Jvm.Cond.instanceMethod ({ cls := "NotationParseModel", name := "change", desc := "(II)V" } : Jvm.MethodName)) ∈ np_al := List.mem_filter.mpr ⟨List.mem_append_right _ (List.mem_append_right _ (List.mem_append_right _ (List.mem_append_right _ (List.mem_append_right _ (List.mem_of_getElem? (i := 181) rfl))))), rfl⟩
theorem tw_1142 : (Jvm.Cond.code ({ cls := "NotationParseModel", name := "change", desc := "(II)V" } : Jvm.MethodName) prog_9_method_34_code (6 : Nat) (Option.none : Option Jvm.ClassFile.FieldType)) ∈ np_al := List.mem_filter.mpr ⟨List.mem_append_right _ (List.mem_append_right _ (List.mem_append_right _ (List.mem_append_right _ (List.mem_append_right _ (List.mem_of_getElem? (i := 182) rfl))))), rfl⟩
theorem tw_1151 : (Jvm.Cond.methodLink "NotationParseModel" (205 : Nat) ({ cls := "NotationParseModel", name := "children", desc := "(I)I" } : Jvm.MethodName)) ∈ np_al := List.mem_filter.mpr ⟨List.mem_append_right _ (List.mem_append_right _ (List.mem_append_right _ (List.mem_append_right _ (List.mem_append_right _ (List.mem_of_getElem? (i := 191) rfl))))), rfl⟩
theorem tw_1153 : (Jvm.Cond.instanceMethod ({ cls := "NotationParseModel", name := "children", desc := "(I)I" } : Jvm.MethodName)) ∈ np_al := List.mem_filter.mpr ⟨List.mem_append_right _ (List.mem_append_right _ (List.mem_append_right _ (List.mem_append_right _ (List.mem_append_right _ (List.mem_of_getElem? (i := 193) rfl))))), rfl⟩
theorem tw_1154 : (Jvm.Cond.code ({ cls := "NotationParseModel", name := "children", desc := "(I)I" } : Jvm.MethodName) prog_9_method_35_code (4 : Nat) (Option.some Jvm.ClassFile.FieldType.int)) ∈ np_al := List.mem_filter.mpr ⟨List.mem_append_right _ (List.mem_append_right _ (List.mem_append_right _ (List.mem_append_right _ (List.mem_append_right _ (List.mem_of_getElem? (i := 194) rfl))))), rfl⟩
theorem tw_1159 : (Jvm.Cond.methodLink "NotationParseModel" (211 : Nat) ({ cls := "NotationParseModel", name := "puts", desc := "(I)V" } : Jvm.MethodName)) ∈ np_al := List.mem_filter.mpr ⟨List.mem_append_right _ (List.mem_append_right _ (List.mem_append_right _ (List.mem_append_right _ (List.mem_append_right _ (List.mem_of_getElem? (i := 199) rfl))))), rfl⟩
theorem tw_1161 : (Jvm.Cond.instanceMethod ({ cls := "NotationParseModel", name := "puts", desc := "(I)V" } : Jvm.MethodName)) ∈ np_al := List.mem_filter.mpr ⟨List.mem_append_right _ (List.mem_append_right _ (List.mem_append_right _ (List.mem_append_right _ (List.mem_append_right _ (List.mem_of_getElem? (i := 201) rfl))))), rfl⟩
theorem tw_1162 : (Jvm.Cond.code ({ cls := "NotationParseModel", name := "puts", desc := "(I)V" } : Jvm.MethodName) prog_9_method_40_code (2 : Nat) (Option.none : Option Jvm.ClassFile.FieldType)) ∈ np_al := List.mem_filter.mpr ⟨List.mem_append_right _ (List.mem_append_right _ (List.mem_append_right _ (List.mem_append_right _ (List.mem_append_right _ (List.mem_of_getElem? (i := 202) rfl))))), rfl⟩
theorem tw_1163 : (Jvm.Cond.methodLink "NotationParseModel" (218 : Nat) ({ cls := "NotationParseModel", name := "putWord", desc := "(J)V" } : Jvm.MethodName)) ∈ np_al := List.mem_filter.mpr ⟨List.mem_append_right _ (List.mem_append_right _ (List.mem_append_right _ (List.mem_append_right _ (List.mem_append_right _ (List.mem_of_getElem? (i := 203) rfl))))), rfl⟩
theorem tw_1165 : (Jvm.Cond.instanceMethod ({ cls := "NotationParseModel", name := "putWord", desc := "(J)V" } : Jvm.MethodName)) ∈ np_al := List.mem_filter.mpr ⟨List.mem_append_right _ (List.mem_append_right _ (List.mem_append_right _ (List.mem_append_right _ (List.mem_append_right _ (List.mem_of_getElem? (i := 205) rfl))))), rfl⟩
theorem tw_1166 : (Jvm.Cond.code ({ cls := "NotationParseModel", name := "putWord", desc := "(J)V" } : Jvm.MethodName) prog_9_method_38_code (5 : Nat) (Option.none : Option Jvm.ClassFile.FieldType)) ∈ np_al := List.mem_filter.mpr ⟨List.mem_append_right _ (List.mem_append_right _ (List.mem_append_right _ (List.mem_append_right _ (List.mem_append_right _ (List.mem_of_getElem? (i := 206) rfl))))), rfl⟩
theorem tw_1167 : (Jvm.Cond.methodLink "NotationParseModel" (222 : Nat) ({ cls := "NotationParseModel", name := "takeApart", desc := "(I)V" } : Jvm.MethodName)) ∈ np_al := List.mem_filter.mpr ⟨List.mem_append_right _ (List.mem_append_right _ (List.mem_append_right _ (List.mem_append_right _ (List.mem_append_right _ (List.mem_of_getElem? (i := 207) rfl))))), rfl⟩
theorem tw_1169 : (Jvm.Cond.instanceMethod ({ cls := "NotationParseModel", name := "takeApart", desc := "(I)V" } : Jvm.MethodName)) ∈ np_al := List.mem_filter.mpr ⟨List.mem_append_right _ (List.mem_append_right _ (List.mem_append_right _ (List.mem_append_right _ (List.mem_append_right _ (List.mem_of_getElem? (i := 209) rfl))))), rfl⟩
theorem tw_1170 : (Jvm.Cond.code ({ cls := "NotationParseModel", name := "takeApart", desc := "(I)V" } : Jvm.MethodName) prog_9_method_39_code (8 : Nat) (Option.none : Option Jvm.ClassFile.FieldType)) ∈ np_al := List.mem_filter.mpr ⟨List.mem_append_right _ (List.mem_append_right _ (List.mem_append_right _ (List.mem_append_right _ (List.mem_append_right _ (List.mem_of_getElem? (i := 210) rfl))))), rfl⟩
theorem tw_1171 : (Jvm.Cond.methodLink "NotationParseModel" (214 : Nat) ({ cls := "NotationParseModel", name := "childAt", desc := "(II)I" } : Jvm.MethodName)) ∈ np_al := List.mem_filter.mpr ⟨List.mem_append_right _ (List.mem_append_right _ (List.mem_append_right _ (List.mem_append_right _ (List.mem_append_right _ (List.mem_of_getElem? (i := 211) rfl))))), rfl⟩
theorem tw_1173 : (Jvm.Cond.instanceMethod ({ cls := "NotationParseModel", name := "childAt", desc := "(II)I" } : Jvm.MethodName)) ∈ np_al := List.mem_filter.mpr ⟨List.mem_append_right _ (List.mem_append_right _ (List.mem_append_right _ (List.mem_append_right _ (List.mem_append_right _ (List.mem_of_getElem? (i := 213) rfl))))), rfl⟩
theorem tw_1174 : (Jvm.Cond.code ({ cls := "NotationParseModel", name := "childAt", desc := "(II)I" } : Jvm.MethodName) prog_9_method_37_code (4 : Nat) (Option.some Jvm.ClassFile.FieldType.int)) ∈ np_al := List.mem_filter.mpr ⟨List.mem_append_right _ (List.mem_append_right _ (List.mem_append_right _ (List.mem_append_right _ (List.mem_append_right _ (List.mem_of_getElem? (i := 214) rfl))))), rfl⟩
def F_N : u_T := fun k => match k with
  | 0 => ("NotationParse", "grammar", "LNotationParse$Grammar;", true)
  | 1 => ("NotationParse", "text", "LNotationParse$Text;", true)
  | 2 => ("NotationParse", "chart", "LNotationParse$Chart;", true)
  | 3 => ("NotationParse", "tree", "LNotationParse$Tree;", true)
  | 4 => ("NotationParse", "output", "LNotationParse$Output;", true)
  | 5 => ("NotationParse", "faultKind", "I", false)
  | _ => ("NotationParse", "faultPlace", "I", false)
def t_N : Nat → FieldType := fun k => match k with
  | 0 => (.object "NotationParse$Grammar")
  | 1 => (.object "NotationParse$Text")
  | 2 => (.object "NotationParse$Chart")
  | 3 => (.object "NotationParse$Tree")
  | 4 => (.object "NotationParse$Output")
  | 5 => .int
  | _ => .int
theorem n_N : ∀ a, a < 7 → ∀ b, b < 7 → a ≠ b → (F_N a).2.1 ≠ (F_N b).2.1 := by decide +kernel
theorem tok_N : ∀ k, k < 7 → parseFieldDescriptor (F_N k).2.2.1 = some (t_N k) := by decide +kernel
theorem i_N : ∀ w ∈ u_ws "NotationParse" F_N 7, w ∈ np_al := np_subm [261, 263, 265, 267, 269, 271, 273] (by decide +kernel) (by decide +kernel)
def F_Grammar : u_T := fun k => match k with
  | 0 => ("NotationParse$Grammar", "holes", "[I", true)
  | 1 => ("NotationParse$Grammar", "words", "[J", true)
  | 2 => ("NotationParse$Grammar", "levels", "[I", true)
  | 3 => ("NotationParse$Grammar", "lengths", "[I", true)
  | 4 => ("NotationParse$Grammar", "rules", "I", false)
  | _ => ("NotationParse$Grammar", "inHand", "I", false)
def t_Grammar : Nat → FieldType := fun k => match k with
  | 0 => .array .int
  | 1 => .array .long
  | 2 => .array .int
  | 3 => .array .int
  | 4 => .int
  | _ => .int
theorem n_Grammar : ∀ a, a < 6 → ∀ b, b < 6 → a ≠ b → (F_Grammar a).2.1 ≠ (F_Grammar b).2.1 := by decide +kernel
theorem tok_Grammar : ∀ k, k < 6 → parseFieldDescriptor (F_Grammar k).2.2.1 = some (t_Grammar k) := by decide +kernel
theorem i_Grammar : ∀ w ∈ u_ws "NotationParse$Grammar" F_Grammar 6, w ∈ np_al := np_subm [114, 116, 118, 120, 122, 124] (by decide +kernel) (by decide +kernel)
def F_Text : u_T := fun k => match k with
  | 0 => ("NotationParse$Text", "bytes", "[B", true)
  | 1 => ("NotationParse$Text", "size", "I", false)
  | 2 => ("NotationParse$Text", "codes", "[J", true)
  | 3 => ("NotationParse$Text", "tokens", "[J", true)
  | 4 => ("NotationParse$Text", "places", "[I", true)
  | 5 => ("NotationParse$Text", "words", "I", false)
  | _ => ("NotationParse$Text", "wrongPlace", "I", false)
def t_Text : Nat → FieldType := fun k => match k with
  | 0 => .array .byte
  | 1 => .int
  | 2 => .array .long
  | 3 => .array .long
  | 4 => .array .int
  | 5 => .int
  | _ => .int
theorem n_Text : ∀ a, a < 7 → ∀ b, b < 7 → a ≠ b → (F_Text a).2.1 ≠ (F_Text b).2.1 := by decide +kernel
theorem tok_Text : ∀ k, k < 7 → parseFieldDescriptor (F_Text k).2.2.1 = some (t_Text k) := by decide +kernel
theorem i_Text : ∀ w ∈ u_ws "NotationParse$Text" F_Text 7, w ∈ np_al := np_subm [149, 151, 153, 155, 157, 159, 161] (by decide +kernel) (by decide +kernel)
def F_Chart : u_T := fun k => match k with
  | 0 => ("NotationParse$Chart", "grammar", "LNotationParse$Grammar;", true)
  | 1 => ("NotationParse$Chart", "origins", "[I", true)
  | 2 => ("NotationParse$Chart", "ways", "[I", true)
  | _ => ("NotationParse$Chart", "trees", "[I", true)
def t_Chart : Nat → FieldType := fun k => match k with
  | 0 => (.object "NotationParse$Grammar")
  | 1 => .array .int
  | 2 => .array .int
  | _ => .array .int
theorem n_Chart : ∀ a, a < 4 → ∀ b, b < 4 → a ≠ b → (F_Chart a).2.1 ≠ (F_Chart b).2.1 := by decide +kernel
theorem tok_Chart : ∀ k, k < 4 → parseFieldDescriptor (F_Chart k).2.2.1 = some (t_Chart k) := by decide +kernel
theorem i_Chart : ∀ w ∈ u_ws "NotationParse$Chart" F_Chart 4, w ∈ np_al := np_subm [175, 177, 179, 181] (by decide +kernel) (by decide +kernel)
def F_Tree : u_T := fun k => match k with
  | 0 => ("NotationParse$Tree", "grammar", "LNotationParse$Grammar;", true)
  | 1 => ("NotationParse$Tree", "chart", "LNotationParse$Chart;", true)
  | 2 => ("NotationParse$Tree", "size", "I", false)
  | 3 => ("NotationParse$Tree", "rules", "[I", true)
  | 4 => ("NotationParse$Tree", "children", "[I", true)
  | 5 => ("NotationParse$Tree", "firsts", "[I", true)
  | 6 => ("NotationParse$Tree", "lengths", "[I", true)
  | 7 => ("NotationParse$Tree", "holders", "[I", true)
  | 8 => ("NotationParse$Tree", "wanted", "[I", true)
  | 9 => ("NotationParse$Tree", "waiting", "I", false)
  | 10 => ("NotationParse$Tree", "waitingFrom", "[I", true)
  | 11 => ("NotationParse$Tree", "waitingTo", "[I", true)
  | 12 => ("NotationParse$Tree", "waitingLevel", "[I", true)
  | _ => ("NotationParse$Tree", "waitingHolder", "[I", true)
def t_Tree : Nat → FieldType := fun k => match k with
  | 0 => (.object "NotationParse$Grammar")
  | 1 => (.object "NotationParse$Chart")
  | 2 => .int
  | 3 => .array .int
  | 4 => .array .int
  | 5 => .array .int
  | 6 => .array .int
  | 7 => .array .int
  | 8 => .array .int
  | 9 => .int
  | 10 => .array .int
  | 11 => .array .int
  | 12 => .array .int
  | _ => .array .int
theorem n_Tree : ∀ a, a < 14 → ∀ b, b < 14 → a ≠ b → (F_Tree a).2.1 ≠ (F_Tree b).2.1 := by decide +kernel
theorem tok_Tree : ∀ k, k < 14 → parseFieldDescriptor (F_Tree k).2.2.1 = some (t_Tree k) := by decide +kernel
theorem i_Tree : ∀ w ∈ u_ws "NotationParse$Tree" F_Tree 14, w ∈ np_al := np_subm [210, 212, 214, 216, 218, 220, 222, 224, 226, 228, 230, 232, 234, 236] (by decide +kernel) (by decide +kernel)
def F_Output : u_T := fun k => match k with
  | 0 => ("NotationParse$Output", "bytes", "[B", true)
  | _ => ("NotationParse$Output", "size", "I", false)
def t_Output : Nat → FieldType := fun k => match k with
  | 0 => .array .byte
  | _ => .int
theorem n_Output : ∀ a, a < 2 → ∀ b, b < 2 → a ≠ b → (F_Output a).2.1 ≠ (F_Output b).2.1 := by decide +kernel
theorem tok_Output : ∀ k, k < 2 → parseFieldDescriptor (F_Output k).2.2.1 = some (t_Output k) := by decide +kernel
theorem i_Output : ∀ w ∈ u_ws "NotationParse$Output" F_Output 2, w ∈ np_al := np_subm [249, 251] (by decide +kernel) (by decide +kernel)
def F_M : u_T := fun k => match k with
  | 0 => ("NotationParseModel", "thrown", "I", false)
  | 1 => ("NotationParseModel", "inHand", "I", false)
  | 2 => ("NotationParseModel", "notations", "I", false)
  | 3 => ("NotationParseModel", "holes", "[I", true)
  | 4 => ("NotationParseModel", "partWords", "[J", true)
  | 5 => ("NotationParseModel", "partMany", "[I", true)
  | 6 => ("NotationParseModel", "level", "[I", true)
  | 7 => ("NotationParseModel", "text", "[I", true)
  | 8 => ("NotationParseModel", "size", "I", false)
  | 9 => ("NotationParseModel", "fault", "I", false)
  | 10 => ("NotationParseModel", "place", "I", false)
  | 11 => ("NotationParseModel", "words", "I", false)
  | 12 => ("NotationParseModel", "word", "[J", true)
  | 13 => ("NotationParseModel", "from", "[I", true)
  | 14 => ("NotationParseModel", "terms", "[I", true)
  | 15 => ("NotationParseModel", "rows", "[I", true)
  | 16 => ("NotationParseModel", "begins", "[Z", true)
  | 17 => ("NotationParseModel", "beginsParts", "[Z", true)
  | 18 => ("NotationParseModel", "nodes", "I", false)
  | 19 => ("NotationParseModel", "kind", "[I", true)
  | 20 => ("NotationParseModel", "first", "[I", true)
  | 21 => ("NotationParseModel", "taken", "[I", true)
  | 22 => ("NotationParseModel", "parent", "[I", true)
  | 23 => ("NotationParseModel", "pileLevel", "[I", true)
  | 24 => ("NotationParseModel", "pileFrom", "[I", true)
  | 25 => ("NotationParseModel", "pileTo", "[I", true)
  | 26 => ("NotationParseModel", "pileParent", "[I", true)
  | 27 => ("NotationParseModel", "high", "I", false)
  | 28 => ("NotationParseModel", "outMany", "I", false)
  | 29 => ("NotationParseModel", "out", "[I", true)
  | _ => ("NotationParseModel", "todo", "[I", true)
def t_M : Nat → FieldType := fun k => match k with
  | 0 => .int
  | 1 => .int
  | 2 => .int
  | 3 => .array .int
  | 4 => .array .long
  | 5 => .array .int
  | 6 => .array .int
  | 7 => .array .int
  | 8 => .int
  | 9 => .int
  | 10 => .int
  | 11 => .int
  | 12 => .array .long
  | 13 => .array .int
  | 14 => .array .int
  | 15 => .array .int
  | 16 => .array .boolean
  | 17 => .array .boolean
  | 18 => .int
  | 19 => .array .int
  | 20 => .array .int
  | 21 => .array .int
  | 22 => .array .int
  | 23 => .array .int
  | 24 => .array .int
  | 25 => .array .int
  | 26 => .array .int
  | 27 => .int
  | 28 => .int
  | 29 => .array .int
  | _ => .array .int
theorem n_M : ∀ a, a < 31 → ∀ b, b < 31 → a ≠ b → (F_M a).2.1 ≠ (F_M b).2.1 := by decide +kernel
theorem tok_M : ∀ k, k < 31 → parseFieldDescriptor (F_M k).2.2.1 = some (t_M k) := by decide +kernel
theorem i_M : ∀ w ∈ u_ws "NotationParseModel" F_M 31, w ∈ np_al := np_subm [1004, 1006, 1008, 1010, 1012, 1014, 1016, 1018, 1020, 1022, 1024, 1026, 1028, 1030, 1032, 1034, 1036, 1038, 1040, 1042, 1044, 1046, 1048, 1050, 1052, 1054, 1056, 1058, 1060, 1062, 1064] (by decide +kernel) (by decide +kernel)
abbrev np_cl : List vw_C := [("NotationParse", F_N, 7), ("NotationParse$Grammar", F_Grammar, 6), ("NotationParse$Text", F_Text, 7), ("NotationParse$Chart", F_Chart, 4), ("NotationParse$Tree", F_Tree, 14), ("NotationParse$Output", F_Output, 2), ("NotationParseModel", F_M, 31)]
end
section
def nc_wd (q : Nat → Nat) (cA : Nat → ClassId) (σ : np_S) : va_W := [
  (q 0, .inr (0, [.ref (q 1), .ref (q 6), .ref (q 11), .ref (q 15), .ref (q 26), .int (np_i (σ 0 5)), .int (np_i (σ 0 6))])),
  (q 1, .inr (1, [.ref (q 2), .ref (q 3), .ref (q 4), .ref (q 5), .int (np_i (σ 1 4)), .int (np_i (σ 1 5))])),
  (q 2, .inl (cA 0, 105, .inl (fun i => np_i (σ 2 i)))),
  (q 3, .inl (cA 1, 105, .inr (.inl (fun i => np_l (σ 3 i))))),
  (q 4, .inl (cA 0, 14, .inl (fun i => np_i (σ 4 i)))),
  (q 5, .inl (cA 0, 14, .inl (fun i => np_i (σ 5 i)))),
  (q 6, .inr (2, [.ref (q 7), .int (np_i (σ 6 1)), .ref (q 8), .ref (q 9), .ref (q 10), .int (np_i (σ 6 5)), .int (np_i (σ 6 6))])),
  (q 7, .inl (cA 2, 200, .inl (fun i => np_i (σ 7 i)))),
  (q 8, .inl (cA 1, 30, .inr (.inl (fun i => np_l (σ 8 i))))),
  (q 9, .inl (cA 1, 30, .inr (.inl (fun i => np_l (σ 9 i))))),
  (q 10, .inl (cA 0, 30, .inl (fun i => np_i (σ 10 i)))),
  (q 11, .inr (3, [.ref (q 1), .ref (q 12), .ref (q 13), .ref (q 14)])),
  (q 12, .inl (cA 0, 3038, .inl (fun i => np_i (σ 12 i)))),
  (q 13, .inl (cA 0, 3038, .inl (fun i => np_i (σ 13 i)))),
  (q 14, .inl (cA 0, 5115, .inl (fun i => np_i (σ 14 i)))),
  (q 15, .inr (4, [.ref (q 1), .ref (q 11), .int (np_i (σ 15 2)), .ref (q 16), .ref (q 17), .ref (q 18), .ref (q 19), .ref (q 20), .ref (q 21), .int (np_i (σ 15 9)), .ref (q 22), .ref (q 23), .ref (q 24), .ref (q 25)])),
  (q 16, .inl (cA 0, 30, .inl (fun i => np_i (σ 16 i)))),
  (q 17, .inl (cA 0, 30, .inl (fun i => np_i (σ 17 i)))),
  (q 18, .inl (cA 0, 30, .inl (fun i => np_i (σ 18 i)))),
  (q 19, .inl (cA 0, 30, .inl (fun i => np_i (σ 19 i)))),
  (q 20, .inl (cA 0, 30, .inl (fun i => np_i (σ 20 i)))),
  (q 21, .inl (cA 0, 30, .inl (fun i => np_i (σ 21 i)))),
  (q 22, .inl (cA 0, 30, .inl (fun i => np_i (σ 22 i)))),
  (q 23, .inl (cA 0, 30, .inl (fun i => np_i (σ 23 i)))),
  (q 24, .inl (cA 0, 30, .inl (fun i => np_i (σ 24 i)))),
  (q 25, .inl (cA 0, 30, .inl (fun i => np_i (σ 25 i)))),
  (q 26, .inr (5, [.ref (q 27), .int (np_i (σ 26 1))])),
  (q 27, .inl (cA 2, 230, .inl (fun i => np_i (σ 27 i))))]
section NCW
variable {q : Nat → Nat} {cA : Nat → ClassId}
theorem nc_o0 (σ : np_S) : (nc_wd q cA σ)[0]? = some (q 0, .inr (0, [.ref (q 1), .ref (q 6), .ref (q 11), .ref (q 15), .ref (q 26), .int (np_i (σ 0 5)), .int (np_i (σ 0 6))])) := rfl
theorem nc_s0_5 (σ : np_S) (x : Int) : (nc_wd q cA σ).set 0 (q 0, .inr (0, List.set [.ref (q 1), .ref (q 6), .ref (q 11), .ref (q 15), .ref (q 26), .int (np_i (σ 0 5)), .int (np_i (σ 0 6))] 5 (.int (np_i x)))) = nc_wd q cA (np_st σ 0 5 x) := rfl
theorem nc_s0_6 (σ : np_S) (x : Int) : (nc_wd q cA σ).set 0 (q 0, .inr (0, List.set [.ref (q 1), .ref (q 6), .ref (q 11), .ref (q 15), .ref (q 26), .int (np_i (σ 0 5)), .int (np_i (σ 0 6))] 6 (.int (np_i x)))) = nc_wd q cA (np_st σ 0 6 x) := rfl
theorem nc_o1 (σ : np_S) : (nc_wd q cA σ)[1]? = some (q 1, .inr (1, [.ref (q 2), .ref (q 3), .ref (q 4), .ref (q 5), .int (np_i (σ 1 4)), .int (np_i (σ 1 5))])) := rfl
theorem nc_s1_4 (σ : np_S) (x : Int) : (nc_wd q cA σ).set 1 (q 1, .inr (1, List.set [.ref (q 2), .ref (q 3), .ref (q 4), .ref (q 5), .int (np_i (σ 1 4)), .int (np_i (σ 1 5))] 4 (.int (np_i x)))) = nc_wd q cA (np_st σ 1 4 x) := rfl
theorem nc_s1_5 (σ : np_S) (x : Int) : (nc_wd q cA σ).set 1 (q 1, .inr (1, List.set [.ref (q 2), .ref (q 3), .ref (q 4), .ref (q 5), .int (np_i (σ 1 4)), .int (np_i (σ 1 5))] 5 (.int (np_i x)))) = nc_wd q cA (np_st σ 1 5 x) := rfl
theorem nc_a2 (σ : np_S) : (nc_wd q cA σ)[2]? = some (q 2, .inl (cA 0, 105, .inl (fun i => np_i (σ 2 i)))) := rfl
theorem nc_s2 (σ : np_S) (j x : Int) : (nc_wd q cA σ).set 2 (q 2, .inl (cA 0, 105, .inl (fun i : Nat => np_i (if (i : Int) = j then x else σ 2 i)))) = nc_wd q cA (np_st σ 2 j x) := rfl
theorem nc_a3 (σ : np_S) : (nc_wd q cA σ)[3]? = some (q 3, .inl (cA 1, 105, .inr (.inl (fun i => np_l (σ 3 i))))) := rfl
theorem nc_s3 (σ : np_S) (j x : Int) : (nc_wd q cA σ).set 3 (q 3, .inl (cA 1, 105, .inr (.inl (fun i : Nat => np_l (if (i : Int) = j then x else σ 3 i))))) = nc_wd q cA (np_st σ 3 j x) := rfl
theorem nc_a4 (σ : np_S) : (nc_wd q cA σ)[4]? = some (q 4, .inl (cA 0, 14, .inl (fun i => np_i (σ 4 i)))) := rfl
theorem nc_s4 (σ : np_S) (j x : Int) : (nc_wd q cA σ).set 4 (q 4, .inl (cA 0, 14, .inl (fun i : Nat => np_i (if (i : Int) = j then x else σ 4 i)))) = nc_wd q cA (np_st σ 4 j x) := rfl
theorem nc_a5 (σ : np_S) : (nc_wd q cA σ)[5]? = some (q 5, .inl (cA 0, 14, .inl (fun i => np_i (σ 5 i)))) := rfl
theorem nc_s5 (σ : np_S) (j x : Int) : (nc_wd q cA σ).set 5 (q 5, .inl (cA 0, 14, .inl (fun i : Nat => np_i (if (i : Int) = j then x else σ 5 i)))) = nc_wd q cA (np_st σ 5 j x) := rfl
theorem nc_o6 (σ : np_S) : (nc_wd q cA σ)[6]? = some (q 6, .inr (2, [.ref (q 7), .int (np_i (σ 6 1)), .ref (q 8), .ref (q 9), .ref (q 10), .int (np_i (σ 6 5)), .int (np_i (σ 6 6))])) := rfl
theorem nc_s6_1 (σ : np_S) (x : Int) : (nc_wd q cA σ).set 6 (q 6, .inr (2, List.set [.ref (q 7), .int (np_i (σ 6 1)), .ref (q 8), .ref (q 9), .ref (q 10), .int (np_i (σ 6 5)), .int (np_i (σ 6 6))] 1 (.int (np_i x)))) = nc_wd q cA (np_st σ 6 1 x) := rfl
theorem nc_s6_5 (σ : np_S) (x : Int) : (nc_wd q cA σ).set 6 (q 6, .inr (2, List.set [.ref (q 7), .int (np_i (σ 6 1)), .ref (q 8), .ref (q 9), .ref (q 10), .int (np_i (σ 6 5)), .int (np_i (σ 6 6))] 5 (.int (np_i x)))) = nc_wd q cA (np_st σ 6 5 x) := rfl
theorem nc_s6_6 (σ : np_S) (x : Int) : (nc_wd q cA σ).set 6 (q 6, .inr (2, List.set [.ref (q 7), .int (np_i (σ 6 1)), .ref (q 8), .ref (q 9), .ref (q 10), .int (np_i (σ 6 5)), .int (np_i (σ 6 6))] 6 (.int (np_i x)))) = nc_wd q cA (np_st σ 6 6 x) := rfl
theorem nc_a7 (σ : np_S) : (nc_wd q cA σ)[7]? = some (q 7, .inl (cA 2, 200, .inl (fun i => np_i (σ 7 i)))) := rfl
theorem nc_s7 (σ : np_S) (j x : Int) : (nc_wd q cA σ).set 7 (q 7, .inl (cA 2, 200, .inl (fun i : Nat => np_i (if (i : Int) = j then x else σ 7 i)))) = nc_wd q cA (np_st σ 7 j x) := rfl
theorem nc_a8 (σ : np_S) : (nc_wd q cA σ)[8]? = some (q 8, .inl (cA 1, 30, .inr (.inl (fun i => np_l (σ 8 i))))) := rfl
theorem nc_s8 (σ : np_S) (j x : Int) : (nc_wd q cA σ).set 8 (q 8, .inl (cA 1, 30, .inr (.inl (fun i : Nat => np_l (if (i : Int) = j then x else σ 8 i))))) = nc_wd q cA (np_st σ 8 j x) := rfl
theorem nc_a9 (σ : np_S) : (nc_wd q cA σ)[9]? = some (q 9, .inl (cA 1, 30, .inr (.inl (fun i => np_l (σ 9 i))))) := rfl
theorem nc_s9 (σ : np_S) (j x : Int) : (nc_wd q cA σ).set 9 (q 9, .inl (cA 1, 30, .inr (.inl (fun i : Nat => np_l (if (i : Int) = j then x else σ 9 i))))) = nc_wd q cA (np_st σ 9 j x) := rfl
theorem nc_a10 (σ : np_S) : (nc_wd q cA σ)[10]? = some (q 10, .inl (cA 0, 30, .inl (fun i => np_i (σ 10 i)))) := rfl
theorem nc_s10 (σ : np_S) (j x : Int) : (nc_wd q cA σ).set 10 (q 10, .inl (cA 0, 30, .inl (fun i : Nat => np_i (if (i : Int) = j then x else σ 10 i)))) = nc_wd q cA (np_st σ 10 j x) := rfl
theorem nc_o11 (σ : np_S) : (nc_wd q cA σ)[11]? = some (q 11, .inr (3, [.ref (q 1), .ref (q 12), .ref (q 13), .ref (q 14)])) := rfl
theorem nc_a12 (σ : np_S) : (nc_wd q cA σ)[12]? = some (q 12, .inl (cA 0, 3038, .inl (fun i => np_i (σ 12 i)))) := rfl
theorem nc_s12 (σ : np_S) (j x : Int) : (nc_wd q cA σ).set 12 (q 12, .inl (cA 0, 3038, .inl (fun i : Nat => np_i (if (i : Int) = j then x else σ 12 i)))) = nc_wd q cA (np_st σ 12 j x) := rfl
theorem nc_a13 (σ : np_S) : (nc_wd q cA σ)[13]? = some (q 13, .inl (cA 0, 3038, .inl (fun i => np_i (σ 13 i)))) := rfl
theorem nc_s13 (σ : np_S) (j x : Int) : (nc_wd q cA σ).set 13 (q 13, .inl (cA 0, 3038, .inl (fun i : Nat => np_i (if (i : Int) = j then x else σ 13 i)))) = nc_wd q cA (np_st σ 13 j x) := rfl
theorem nc_a14 (σ : np_S) : (nc_wd q cA σ)[14]? = some (q 14, .inl (cA 0, 5115, .inl (fun i => np_i (σ 14 i)))) := rfl
theorem nc_s14 (σ : np_S) (j x : Int) : (nc_wd q cA σ).set 14 (q 14, .inl (cA 0, 5115, .inl (fun i : Nat => np_i (if (i : Int) = j then x else σ 14 i)))) = nc_wd q cA (np_st σ 14 j x) := rfl
theorem nc_o15 (σ : np_S) : (nc_wd q cA σ)[15]? = some (q 15, .inr (4, [.ref (q 1), .ref (q 11), .int (np_i (σ 15 2)), .ref (q 16), .ref (q 17), .ref (q 18), .ref (q 19), .ref (q 20), .ref (q 21), .int (np_i (σ 15 9)), .ref (q 22), .ref (q 23), .ref (q 24), .ref (q 25)])) := rfl
theorem nc_s15_2 (σ : np_S) (x : Int) : (nc_wd q cA σ).set 15 (q 15, .inr (4, List.set [.ref (q 1), .ref (q 11), .int (np_i (σ 15 2)), .ref (q 16), .ref (q 17), .ref (q 18), .ref (q 19), .ref (q 20), .ref (q 21), .int (np_i (σ 15 9)), .ref (q 22), .ref (q 23), .ref (q 24), .ref (q 25)] 2 (.int (np_i x)))) = nc_wd q cA (np_st σ 15 2 x) := rfl
theorem nc_s15_9 (σ : np_S) (x : Int) : (nc_wd q cA σ).set 15 (q 15, .inr (4, List.set [.ref (q 1), .ref (q 11), .int (np_i (σ 15 2)), .ref (q 16), .ref (q 17), .ref (q 18), .ref (q 19), .ref (q 20), .ref (q 21), .int (np_i (σ 15 9)), .ref (q 22), .ref (q 23), .ref (q 24), .ref (q 25)] 9 (.int (np_i x)))) = nc_wd q cA (np_st σ 15 9 x) := rfl
theorem nc_a16 (σ : np_S) : (nc_wd q cA σ)[16]? = some (q 16, .inl (cA 0, 30, .inl (fun i => np_i (σ 16 i)))) := rfl
theorem nc_s16 (σ : np_S) (j x : Int) : (nc_wd q cA σ).set 16 (q 16, .inl (cA 0, 30, .inl (fun i : Nat => np_i (if (i : Int) = j then x else σ 16 i)))) = nc_wd q cA (np_st σ 16 j x) := rfl
theorem nc_a17 (σ : np_S) : (nc_wd q cA σ)[17]? = some (q 17, .inl (cA 0, 30, .inl (fun i => np_i (σ 17 i)))) := rfl
theorem nc_s17 (σ : np_S) (j x : Int) : (nc_wd q cA σ).set 17 (q 17, .inl (cA 0, 30, .inl (fun i : Nat => np_i (if (i : Int) = j then x else σ 17 i)))) = nc_wd q cA (np_st σ 17 j x) := rfl
theorem nc_a18 (σ : np_S) : (nc_wd q cA σ)[18]? = some (q 18, .inl (cA 0, 30, .inl (fun i => np_i (σ 18 i)))) := rfl
theorem nc_s18 (σ : np_S) (j x : Int) : (nc_wd q cA σ).set 18 (q 18, .inl (cA 0, 30, .inl (fun i : Nat => np_i (if (i : Int) = j then x else σ 18 i)))) = nc_wd q cA (np_st σ 18 j x) := rfl
theorem nc_a19 (σ : np_S) : (nc_wd q cA σ)[19]? = some (q 19, .inl (cA 0, 30, .inl (fun i => np_i (σ 19 i)))) := rfl
theorem nc_s19 (σ : np_S) (j x : Int) : (nc_wd q cA σ).set 19 (q 19, .inl (cA 0, 30, .inl (fun i : Nat => np_i (if (i : Int) = j then x else σ 19 i)))) = nc_wd q cA (np_st σ 19 j x) := rfl
theorem nc_a20 (σ : np_S) : (nc_wd q cA σ)[20]? = some (q 20, .inl (cA 0, 30, .inl (fun i => np_i (σ 20 i)))) := rfl
theorem nc_s20 (σ : np_S) (j x : Int) : (nc_wd q cA σ).set 20 (q 20, .inl (cA 0, 30, .inl (fun i : Nat => np_i (if (i : Int) = j then x else σ 20 i)))) = nc_wd q cA (np_st σ 20 j x) := rfl
theorem nc_a21 (σ : np_S) : (nc_wd q cA σ)[21]? = some (q 21, .inl (cA 0, 30, .inl (fun i => np_i (σ 21 i)))) := rfl
theorem nc_s21 (σ : np_S) (j x : Int) : (nc_wd q cA σ).set 21 (q 21, .inl (cA 0, 30, .inl (fun i : Nat => np_i (if (i : Int) = j then x else σ 21 i)))) = nc_wd q cA (np_st σ 21 j x) := rfl
theorem nc_a22 (σ : np_S) : (nc_wd q cA σ)[22]? = some (q 22, .inl (cA 0, 30, .inl (fun i => np_i (σ 22 i)))) := rfl
theorem nc_s22 (σ : np_S) (j x : Int) : (nc_wd q cA σ).set 22 (q 22, .inl (cA 0, 30, .inl (fun i : Nat => np_i (if (i : Int) = j then x else σ 22 i)))) = nc_wd q cA (np_st σ 22 j x) := rfl
theorem nc_a23 (σ : np_S) : (nc_wd q cA σ)[23]? = some (q 23, .inl (cA 0, 30, .inl (fun i => np_i (σ 23 i)))) := rfl
theorem nc_s23 (σ : np_S) (j x : Int) : (nc_wd q cA σ).set 23 (q 23, .inl (cA 0, 30, .inl (fun i : Nat => np_i (if (i : Int) = j then x else σ 23 i)))) = nc_wd q cA (np_st σ 23 j x) := rfl
theorem nc_a24 (σ : np_S) : (nc_wd q cA σ)[24]? = some (q 24, .inl (cA 0, 30, .inl (fun i => np_i (σ 24 i)))) := rfl
theorem nc_s24 (σ : np_S) (j x : Int) : (nc_wd q cA σ).set 24 (q 24, .inl (cA 0, 30, .inl (fun i : Nat => np_i (if (i : Int) = j then x else σ 24 i)))) = nc_wd q cA (np_st σ 24 j x) := rfl
theorem nc_a25 (σ : np_S) : (nc_wd q cA σ)[25]? = some (q 25, .inl (cA 0, 30, .inl (fun i => np_i (σ 25 i)))) := rfl
theorem nc_s25 (σ : np_S) (j x : Int) : (nc_wd q cA σ).set 25 (q 25, .inl (cA 0, 30, .inl (fun i : Nat => np_i (if (i : Int) = j then x else σ 25 i)))) = nc_wd q cA (np_st σ 25 j x) := rfl
theorem nc_o26 (σ : np_S) : (nc_wd q cA σ)[26]? = some (q 26, .inr (5, [.ref (q 27), .int (np_i (σ 26 1))])) := rfl
theorem nc_s26_1 (σ : np_S) (x : Int) : (nc_wd q cA σ).set 26 (q 26, .inr (5, List.set [.ref (q 27), .int (np_i (σ 26 1))] 1 (.int (np_i x)))) = nc_wd q cA (np_st σ 26 1 x) := rfl
theorem nc_a27 (σ : np_S) : (nc_wd q cA σ)[27]? = some (q 27, .inl (cA 2, 230, .inl (fun i => np_i (σ 27 i)))) := rfl
theorem nc_s27 (σ : np_S) (j x : Int) : (nc_wd q cA σ).set 27 (q 27, .inl (cA 2, 230, .inl (fun i : Nat => np_i (if (i : Int) = j then x else σ 27 i)))) = nc_wd q cA (np_st σ 27 j x) := rfl
end NCW
def nm_wd (q : Nat → Nat) (cA : Nat → ClassId) (σ : np_S) : va_W := [
  (q 0, .inr (6, [.int (np_i (σ 0 0)), .int (np_i (σ 0 1)), .int (np_i (σ 0 2)), .ref (q 1), .ref (q 2), .ref (q 3), .ref (q 4), .ref (q 5), .int (np_i (σ 0 8)), .int (np_i (σ 0 9)), .int (np_i (σ 0 10)), .int (np_i (σ 0 11)), .ref (q 6), .ref (q 7), .ref (q 8), .ref (q 9), .ref (q 10), .ref (q 11), .int (np_i (σ 0 18)), .ref (q 12), .ref (q 13), .ref (q 14), .ref (q 15), .ref (q 16), .ref (q 17), .ref (q 18), .ref (q 19), .int (np_i (σ 0 27)), .int (np_i (σ 0 28)), .ref (q 20), .ref (q 21)])),
  (q 1, .inl (cA 0, 91, .inl (fun i => np_i (σ 1 i)))),
  (q 2, .inl (cA 1, 91, .inr (.inl (fun i => np_l (σ 2 i))))),
  (q 3, .inl (cA 0, 12, .inl (fun i => np_i (σ 3 i)))),
  (q 4, .inl (cA 0, 12, .inl (fun i => np_i (σ 4 i)))),
  (q 5, .inl (cA 0, 200, .inl (fun i => np_i (σ 5 i)))),
  (q 6, .inl (cA 1, 31, .inr (.inl (fun i => np_l (σ 6 i))))),
  (q 7, .inl (cA 0, 31, .inl (fun i => np_i (σ 7 i)))),
  (q 8, .inl (cA 0, 10571, .inl (fun i => np_i (σ 8 i)))),
  (q 9, .inl (cA 0, 80724, .inl (fun i => np_i (σ 9 i)))),
  (q 10, .inl (cA 3, 341, .inl (fun i => np_i (σ 10 i)))),
  (q 11, .inl (cA 3, 2604, .inl (fun i => np_i (σ 11 i)))),
  (q 12, .inl (cA 0, 40, .inl (fun i => np_i (σ 12 i)))),
  (q 13, .inl (cA 0, 40, .inl (fun i => np_i (σ 13 i)))),
  (q 14, .inl (cA 0, 40, .inl (fun i => np_i (σ 14 i)))),
  (q 15, .inl (cA 0, 40, .inl (fun i => np_i (σ 15 i)))),
  (q 16, .inl (cA 0, 80, .inl (fun i => np_i (σ 16 i)))),
  (q 17, .inl (cA 0, 80, .inl (fun i => np_i (σ 17 i)))),
  (q 18, .inl (cA 0, 80, .inl (fun i => np_i (σ 18 i)))),
  (q 19, .inl (cA 0, 80, .inl (fun i => np_i (σ 19 i)))),
  (q 20, .inl (cA 0, 1200, .inl (fun i => np_i (σ 20 i)))),
  (q 21, .inl (cA 0, 400, .inl (fun i => np_i (σ 21 i))))]
section NMW
variable {q : Nat → Nat} {cA : Nat → ClassId}
theorem nm_o0 (σ : np_S) : (nm_wd q cA σ)[0]? = some (q 0, .inr (6, [.int (np_i (σ 0 0)), .int (np_i (σ 0 1)), .int (np_i (σ 0 2)), .ref (q 1), .ref (q 2), .ref (q 3), .ref (q 4), .ref (q 5), .int (np_i (σ 0 8)), .int (np_i (σ 0 9)), .int (np_i (σ 0 10)), .int (np_i (σ 0 11)), .ref (q 6), .ref (q 7), .ref (q 8), .ref (q 9), .ref (q 10), .ref (q 11), .int (np_i (σ 0 18)), .ref (q 12), .ref (q 13), .ref (q 14), .ref (q 15), .ref (q 16), .ref (q 17), .ref (q 18), .ref (q 19), .int (np_i (σ 0 27)), .int (np_i (σ 0 28)), .ref (q 20), .ref (q 21)])) := rfl
theorem nm_s0_0 (σ : np_S) (x : Int) : (nm_wd q cA σ).set 0 (q 0, .inr (6, List.set [.int (np_i (σ 0 0)), .int (np_i (σ 0 1)), .int (np_i (σ 0 2)), .ref (q 1), .ref (q 2), .ref (q 3), .ref (q 4), .ref (q 5), .int (np_i (σ 0 8)), .int (np_i (σ 0 9)), .int (np_i (σ 0 10)), .int (np_i (σ 0 11)), .ref (q 6), .ref (q 7), .ref (q 8), .ref (q 9), .ref (q 10), .ref (q 11), .int (np_i (σ 0 18)), .ref (q 12), .ref (q 13), .ref (q 14), .ref (q 15), .ref (q 16), .ref (q 17), .ref (q 18), .ref (q 19), .int (np_i (σ 0 27)), .int (np_i (σ 0 28)), .ref (q 20), .ref (q 21)] 0 (.int (np_i x)))) = nm_wd q cA (np_st σ 0 0 x) := rfl
theorem nm_s0_1 (σ : np_S) (x : Int) : (nm_wd q cA σ).set 0 (q 0, .inr (6, List.set [.int (np_i (σ 0 0)), .int (np_i (σ 0 1)), .int (np_i (σ 0 2)), .ref (q 1), .ref (q 2), .ref (q 3), .ref (q 4), .ref (q 5), .int (np_i (σ 0 8)), .int (np_i (σ 0 9)), .int (np_i (σ 0 10)), .int (np_i (σ 0 11)), .ref (q 6), .ref (q 7), .ref (q 8), .ref (q 9), .ref (q 10), .ref (q 11), .int (np_i (σ 0 18)), .ref (q 12), .ref (q 13), .ref (q 14), .ref (q 15), .ref (q 16), .ref (q 17), .ref (q 18), .ref (q 19), .int (np_i (σ 0 27)), .int (np_i (σ 0 28)), .ref (q 20), .ref (q 21)] 1 (.int (np_i x)))) = nm_wd q cA (np_st σ 0 1 x) := rfl
theorem nm_s0_2 (σ : np_S) (x : Int) : (nm_wd q cA σ).set 0 (q 0, .inr (6, List.set [.int (np_i (σ 0 0)), .int (np_i (σ 0 1)), .int (np_i (σ 0 2)), .ref (q 1), .ref (q 2), .ref (q 3), .ref (q 4), .ref (q 5), .int (np_i (σ 0 8)), .int (np_i (σ 0 9)), .int (np_i (σ 0 10)), .int (np_i (σ 0 11)), .ref (q 6), .ref (q 7), .ref (q 8), .ref (q 9), .ref (q 10), .ref (q 11), .int (np_i (σ 0 18)), .ref (q 12), .ref (q 13), .ref (q 14), .ref (q 15), .ref (q 16), .ref (q 17), .ref (q 18), .ref (q 19), .int (np_i (σ 0 27)), .int (np_i (σ 0 28)), .ref (q 20), .ref (q 21)] 2 (.int (np_i x)))) = nm_wd q cA (np_st σ 0 2 x) := rfl
theorem nm_s0_8 (σ : np_S) (x : Int) : (nm_wd q cA σ).set 0 (q 0, .inr (6, List.set [.int (np_i (σ 0 0)), .int (np_i (σ 0 1)), .int (np_i (σ 0 2)), .ref (q 1), .ref (q 2), .ref (q 3), .ref (q 4), .ref (q 5), .int (np_i (σ 0 8)), .int (np_i (σ 0 9)), .int (np_i (σ 0 10)), .int (np_i (σ 0 11)), .ref (q 6), .ref (q 7), .ref (q 8), .ref (q 9), .ref (q 10), .ref (q 11), .int (np_i (σ 0 18)), .ref (q 12), .ref (q 13), .ref (q 14), .ref (q 15), .ref (q 16), .ref (q 17), .ref (q 18), .ref (q 19), .int (np_i (σ 0 27)), .int (np_i (σ 0 28)), .ref (q 20), .ref (q 21)] 8 (.int (np_i x)))) = nm_wd q cA (np_st σ 0 8 x) := rfl
theorem nm_s0_9 (σ : np_S) (x : Int) : (nm_wd q cA σ).set 0 (q 0, .inr (6, List.set [.int (np_i (σ 0 0)), .int (np_i (σ 0 1)), .int (np_i (σ 0 2)), .ref (q 1), .ref (q 2), .ref (q 3), .ref (q 4), .ref (q 5), .int (np_i (σ 0 8)), .int (np_i (σ 0 9)), .int (np_i (σ 0 10)), .int (np_i (σ 0 11)), .ref (q 6), .ref (q 7), .ref (q 8), .ref (q 9), .ref (q 10), .ref (q 11), .int (np_i (σ 0 18)), .ref (q 12), .ref (q 13), .ref (q 14), .ref (q 15), .ref (q 16), .ref (q 17), .ref (q 18), .ref (q 19), .int (np_i (σ 0 27)), .int (np_i (σ 0 28)), .ref (q 20), .ref (q 21)] 9 (.int (np_i x)))) = nm_wd q cA (np_st σ 0 9 x) := rfl
theorem nm_s0_10 (σ : np_S) (x : Int) : (nm_wd q cA σ).set 0 (q 0, .inr (6, List.set [.int (np_i (σ 0 0)), .int (np_i (σ 0 1)), .int (np_i (σ 0 2)), .ref (q 1), .ref (q 2), .ref (q 3), .ref (q 4), .ref (q 5), .int (np_i (σ 0 8)), .int (np_i (σ 0 9)), .int (np_i (σ 0 10)), .int (np_i (σ 0 11)), .ref (q 6), .ref (q 7), .ref (q 8), .ref (q 9), .ref (q 10), .ref (q 11), .int (np_i (σ 0 18)), .ref (q 12), .ref (q 13), .ref (q 14), .ref (q 15), .ref (q 16), .ref (q 17), .ref (q 18), .ref (q 19), .int (np_i (σ 0 27)), .int (np_i (σ 0 28)), .ref (q 20), .ref (q 21)] 10 (.int (np_i x)))) = nm_wd q cA (np_st σ 0 10 x) := rfl
theorem nm_s0_11 (σ : np_S) (x : Int) : (nm_wd q cA σ).set 0 (q 0, .inr (6, List.set [.int (np_i (σ 0 0)), .int (np_i (σ 0 1)), .int (np_i (σ 0 2)), .ref (q 1), .ref (q 2), .ref (q 3), .ref (q 4), .ref (q 5), .int (np_i (σ 0 8)), .int (np_i (σ 0 9)), .int (np_i (σ 0 10)), .int (np_i (σ 0 11)), .ref (q 6), .ref (q 7), .ref (q 8), .ref (q 9), .ref (q 10), .ref (q 11), .int (np_i (σ 0 18)), .ref (q 12), .ref (q 13), .ref (q 14), .ref (q 15), .ref (q 16), .ref (q 17), .ref (q 18), .ref (q 19), .int (np_i (σ 0 27)), .int (np_i (σ 0 28)), .ref (q 20), .ref (q 21)] 11 (.int (np_i x)))) = nm_wd q cA (np_st σ 0 11 x) := rfl
theorem nm_s0_18 (σ : np_S) (x : Int) : (nm_wd q cA σ).set 0 (q 0, .inr (6, List.set [.int (np_i (σ 0 0)), .int (np_i (σ 0 1)), .int (np_i (σ 0 2)), .ref (q 1), .ref (q 2), .ref (q 3), .ref (q 4), .ref (q 5), .int (np_i (σ 0 8)), .int (np_i (σ 0 9)), .int (np_i (σ 0 10)), .int (np_i (σ 0 11)), .ref (q 6), .ref (q 7), .ref (q 8), .ref (q 9), .ref (q 10), .ref (q 11), .int (np_i (σ 0 18)), .ref (q 12), .ref (q 13), .ref (q 14), .ref (q 15), .ref (q 16), .ref (q 17), .ref (q 18), .ref (q 19), .int (np_i (σ 0 27)), .int (np_i (σ 0 28)), .ref (q 20), .ref (q 21)] 18 (.int (np_i x)))) = nm_wd q cA (np_st σ 0 18 x) := rfl
theorem nm_s0_27 (σ : np_S) (x : Int) : (nm_wd q cA σ).set 0 (q 0, .inr (6, List.set [.int (np_i (σ 0 0)), .int (np_i (σ 0 1)), .int (np_i (σ 0 2)), .ref (q 1), .ref (q 2), .ref (q 3), .ref (q 4), .ref (q 5), .int (np_i (σ 0 8)), .int (np_i (σ 0 9)), .int (np_i (σ 0 10)), .int (np_i (σ 0 11)), .ref (q 6), .ref (q 7), .ref (q 8), .ref (q 9), .ref (q 10), .ref (q 11), .int (np_i (σ 0 18)), .ref (q 12), .ref (q 13), .ref (q 14), .ref (q 15), .ref (q 16), .ref (q 17), .ref (q 18), .ref (q 19), .int (np_i (σ 0 27)), .int (np_i (σ 0 28)), .ref (q 20), .ref (q 21)] 27 (.int (np_i x)))) = nm_wd q cA (np_st σ 0 27 x) := rfl
theorem nm_s0_28 (σ : np_S) (x : Int) : (nm_wd q cA σ).set 0 (q 0, .inr (6, List.set [.int (np_i (σ 0 0)), .int (np_i (σ 0 1)), .int (np_i (σ 0 2)), .ref (q 1), .ref (q 2), .ref (q 3), .ref (q 4), .ref (q 5), .int (np_i (σ 0 8)), .int (np_i (σ 0 9)), .int (np_i (σ 0 10)), .int (np_i (σ 0 11)), .ref (q 6), .ref (q 7), .ref (q 8), .ref (q 9), .ref (q 10), .ref (q 11), .int (np_i (σ 0 18)), .ref (q 12), .ref (q 13), .ref (q 14), .ref (q 15), .ref (q 16), .ref (q 17), .ref (q 18), .ref (q 19), .int (np_i (σ 0 27)), .int (np_i (σ 0 28)), .ref (q 20), .ref (q 21)] 28 (.int (np_i x)))) = nm_wd q cA (np_st σ 0 28 x) := rfl
theorem nm_a1 (σ : np_S) : (nm_wd q cA σ)[1]? = some (q 1, .inl (cA 0, 91, .inl (fun i => np_i (σ 1 i)))) := rfl
theorem nm_s1 (σ : np_S) (j x : Int) : (nm_wd q cA σ).set 1 (q 1, .inl (cA 0, 91, .inl (fun i : Nat => np_i (if (i : Int) = j then x else σ 1 i)))) = nm_wd q cA (np_st σ 1 j x) := rfl
theorem nm_a2 (σ : np_S) : (nm_wd q cA σ)[2]? = some (q 2, .inl (cA 1, 91, .inr (.inl (fun i => np_l (σ 2 i))))) := rfl
theorem nm_s2 (σ : np_S) (j x : Int) : (nm_wd q cA σ).set 2 (q 2, .inl (cA 1, 91, .inr (.inl (fun i : Nat => np_l (if (i : Int) = j then x else σ 2 i))))) = nm_wd q cA (np_st σ 2 j x) := rfl
theorem nm_a3 (σ : np_S) : (nm_wd q cA σ)[3]? = some (q 3, .inl (cA 0, 12, .inl (fun i => np_i (σ 3 i)))) := rfl
theorem nm_s3 (σ : np_S) (j x : Int) : (nm_wd q cA σ).set 3 (q 3, .inl (cA 0, 12, .inl (fun i : Nat => np_i (if (i : Int) = j then x else σ 3 i)))) = nm_wd q cA (np_st σ 3 j x) := rfl
theorem nm_a4 (σ : np_S) : (nm_wd q cA σ)[4]? = some (q 4, .inl (cA 0, 12, .inl (fun i => np_i (σ 4 i)))) := rfl
theorem nm_s4 (σ : np_S) (j x : Int) : (nm_wd q cA σ).set 4 (q 4, .inl (cA 0, 12, .inl (fun i : Nat => np_i (if (i : Int) = j then x else σ 4 i)))) = nm_wd q cA (np_st σ 4 j x) := rfl
theorem nm_a5 (σ : np_S) : (nm_wd q cA σ)[5]? = some (q 5, .inl (cA 0, 200, .inl (fun i => np_i (σ 5 i)))) := rfl
theorem nm_s5 (σ : np_S) (j x : Int) : (nm_wd q cA σ).set 5 (q 5, .inl (cA 0, 200, .inl (fun i : Nat => np_i (if (i : Int) = j then x else σ 5 i)))) = nm_wd q cA (np_st σ 5 j x) := rfl
theorem nm_a6 (σ : np_S) : (nm_wd q cA σ)[6]? = some (q 6, .inl (cA 1, 31, .inr (.inl (fun i => np_l (σ 6 i))))) := rfl
theorem nm_s6 (σ : np_S) (j x : Int) : (nm_wd q cA σ).set 6 (q 6, .inl (cA 1, 31, .inr (.inl (fun i : Nat => np_l (if (i : Int) = j then x else σ 6 i))))) = nm_wd q cA (np_st σ 6 j x) := rfl
theorem nm_a7 (σ : np_S) : (nm_wd q cA σ)[7]? = some (q 7, .inl (cA 0, 31, .inl (fun i => np_i (σ 7 i)))) := rfl
theorem nm_s7 (σ : np_S) (j x : Int) : (nm_wd q cA σ).set 7 (q 7, .inl (cA 0, 31, .inl (fun i : Nat => np_i (if (i : Int) = j then x else σ 7 i)))) = nm_wd q cA (np_st σ 7 j x) := rfl
theorem nm_a8 (σ : np_S) : (nm_wd q cA σ)[8]? = some (q 8, .inl (cA 0, 10571, .inl (fun i => np_i (σ 8 i)))) := rfl
theorem nm_s8 (σ : np_S) (j x : Int) : (nm_wd q cA σ).set 8 (q 8, .inl (cA 0, 10571, .inl (fun i : Nat => np_i (if (i : Int) = j then x else σ 8 i)))) = nm_wd q cA (np_st σ 8 j x) := rfl
theorem nm_a9 (σ : np_S) : (nm_wd q cA σ)[9]? = some (q 9, .inl (cA 0, 80724, .inl (fun i => np_i (σ 9 i)))) := rfl
theorem nm_s9 (σ : np_S) (j x : Int) : (nm_wd q cA σ).set 9 (q 9, .inl (cA 0, 80724, .inl (fun i : Nat => np_i (if (i : Int) = j then x else σ 9 i)))) = nm_wd q cA (np_st σ 9 j x) := rfl
theorem nm_a10 (σ : np_S) : (nm_wd q cA σ)[10]? = some (q 10, .inl (cA 3, 341, .inl (fun i => np_i (σ 10 i)))) := rfl
theorem nm_s10 (σ : np_S) (j x : Int) : (nm_wd q cA σ).set 10 (q 10, .inl (cA 3, 341, .inl (fun i : Nat => np_i (if (i : Int) = j then x else σ 10 i)))) = nm_wd q cA (np_st σ 10 j x) := rfl
theorem nm_a11 (σ : np_S) : (nm_wd q cA σ)[11]? = some (q 11, .inl (cA 3, 2604, .inl (fun i => np_i (σ 11 i)))) := rfl
theorem nm_s11 (σ : np_S) (j x : Int) : (nm_wd q cA σ).set 11 (q 11, .inl (cA 3, 2604, .inl (fun i : Nat => np_i (if (i : Int) = j then x else σ 11 i)))) = nm_wd q cA (np_st σ 11 j x) := rfl
theorem nm_a12 (σ : np_S) : (nm_wd q cA σ)[12]? = some (q 12, .inl (cA 0, 40, .inl (fun i => np_i (σ 12 i)))) := rfl
theorem nm_s12 (σ : np_S) (j x : Int) : (nm_wd q cA σ).set 12 (q 12, .inl (cA 0, 40, .inl (fun i : Nat => np_i (if (i : Int) = j then x else σ 12 i)))) = nm_wd q cA (np_st σ 12 j x) := rfl
theorem nm_a13 (σ : np_S) : (nm_wd q cA σ)[13]? = some (q 13, .inl (cA 0, 40, .inl (fun i => np_i (σ 13 i)))) := rfl
theorem nm_s13 (σ : np_S) (j x : Int) : (nm_wd q cA σ).set 13 (q 13, .inl (cA 0, 40, .inl (fun i : Nat => np_i (if (i : Int) = j then x else σ 13 i)))) = nm_wd q cA (np_st σ 13 j x) := rfl
theorem nm_a14 (σ : np_S) : (nm_wd q cA σ)[14]? = some (q 14, .inl (cA 0, 40, .inl (fun i => np_i (σ 14 i)))) := rfl
theorem nm_s14 (σ : np_S) (j x : Int) : (nm_wd q cA σ).set 14 (q 14, .inl (cA 0, 40, .inl (fun i : Nat => np_i (if (i : Int) = j then x else σ 14 i)))) = nm_wd q cA (np_st σ 14 j x) := rfl
theorem nm_a15 (σ : np_S) : (nm_wd q cA σ)[15]? = some (q 15, .inl (cA 0, 40, .inl (fun i => np_i (σ 15 i)))) := rfl
theorem nm_s15 (σ : np_S) (j x : Int) : (nm_wd q cA σ).set 15 (q 15, .inl (cA 0, 40, .inl (fun i : Nat => np_i (if (i : Int) = j then x else σ 15 i)))) = nm_wd q cA (np_st σ 15 j x) := rfl
theorem nm_a16 (σ : np_S) : (nm_wd q cA σ)[16]? = some (q 16, .inl (cA 0, 80, .inl (fun i => np_i (σ 16 i)))) := rfl
theorem nm_s16 (σ : np_S) (j x : Int) : (nm_wd q cA σ).set 16 (q 16, .inl (cA 0, 80, .inl (fun i : Nat => np_i (if (i : Int) = j then x else σ 16 i)))) = nm_wd q cA (np_st σ 16 j x) := rfl
theorem nm_a17 (σ : np_S) : (nm_wd q cA σ)[17]? = some (q 17, .inl (cA 0, 80, .inl (fun i => np_i (σ 17 i)))) := rfl
theorem nm_s17 (σ : np_S) (j x : Int) : (nm_wd q cA σ).set 17 (q 17, .inl (cA 0, 80, .inl (fun i : Nat => np_i (if (i : Int) = j then x else σ 17 i)))) = nm_wd q cA (np_st σ 17 j x) := rfl
theorem nm_a18 (σ : np_S) : (nm_wd q cA σ)[18]? = some (q 18, .inl (cA 0, 80, .inl (fun i => np_i (σ 18 i)))) := rfl
theorem nm_s18 (σ : np_S) (j x : Int) : (nm_wd q cA σ).set 18 (q 18, .inl (cA 0, 80, .inl (fun i : Nat => np_i (if (i : Int) = j then x else σ 18 i)))) = nm_wd q cA (np_st σ 18 j x) := rfl
theorem nm_a19 (σ : np_S) : (nm_wd q cA σ)[19]? = some (q 19, .inl (cA 0, 80, .inl (fun i => np_i (σ 19 i)))) := rfl
theorem nm_s19 (σ : np_S) (j x : Int) : (nm_wd q cA σ).set 19 (q 19, .inl (cA 0, 80, .inl (fun i : Nat => np_i (if (i : Int) = j then x else σ 19 i)))) = nm_wd q cA (np_st σ 19 j x) := rfl
theorem nm_a20 (σ : np_S) : (nm_wd q cA σ)[20]? = some (q 20, .inl (cA 0, 1200, .inl (fun i => np_i (σ 20 i)))) := rfl
theorem nm_s20 (σ : np_S) (j x : Int) : (nm_wd q cA σ).set 20 (q 20, .inl (cA 0, 1200, .inl (fun i : Nat => np_i (if (i : Int) = j then x else σ 20 i)))) = nm_wd q cA (np_st σ 20 j x) := rfl
theorem nm_a21 (σ : np_S) : (nm_wd q cA σ)[21]? = some (q 21, .inl (cA 0, 400, .inl (fun i => np_i (σ 21 i)))) := rfl
theorem nm_s21 (σ : np_S) (j x : Int) : (nm_wd q cA σ).set 21 (q 21, .inl (cA 0, 400, .inl (fun i : Nat => np_i (if (i : Int) = j then x else σ 21 i)))) = nm_wd q cA (np_st σ 21 j x) := rfl
end NMW
end
section
def f_Grammar_usedDots  (σ : np_S) : Option np_O := some ((σ 1 4) * 7, σ)
def f_Arrays_rangeCheck  (x0 x1 x2 : Int) (σ : np_S) : Option np_O := np_ck (np_R x1 ∧ np_R x2) (if x1 ≤ x2 then (np_ck (np_R x1) (if (0 : Int) ≤ x1 then (np_ck (np_R x2 ∧ np_R x0) (if x2 ≤ x0 then (some (0, σ)) else (none))) else (none))) else (none))
def f_Arrays_fill_2_10_b  (k10 : (Int → Int → Int → np_S → Option np_O)) (x2 x3 x4 : Int) (σ : np_S) : Option np_O := np_ck (np_R x4 ∧ np_R x2) (if x2 ≤ x4 then (some (0, σ)) else (np_ck ((0 : Int) ≤ x4 ∧ x4 < 105) (k10 x2 x3 (x4 + 1) (np_st σ 2 x4 x3))))
def f_Arrays_fill_2_10  : Nat → Int → Int → Int → np_S → Option np_O
  | 0, _, _, _, _ => none
  | n + 1, x2, x3, x4, σ => f_Arrays_fill_2_10_b  (fun x2 x3 x4 σ => f_Arrays_fill_2_10  n x2 x3 x4 σ) x2 x3 x4 σ
def f_Arrays_fill_2  (x1 x2 x3 : Int) (σ : np_S) : Option np_O := (f_Arrays_rangeCheck 105 x1 x2 σ).bind (fun o1 => f_Arrays_fill_2_10 6000 x2 x3 x1 o1.2)
def f_Arrays_fill2_3_10_b  (k10 : (Int → Int → Int → np_S → Option np_O)) (x2 x3 x5 : Int) (σ : np_S) : Option np_O := np_ck (np_R x5 ∧ np_R x2) (if x2 ≤ x5 then (some (0, σ)) else (np_ck ((0 : Int) ≤ x5 ∧ x5 < 105) (k10 x2 x3 (x5 + 1) (np_st σ 3 x5 x3))))
def f_Arrays_fill2_3_10  : Nat → Int → Int → Int → np_S → Option np_O
  | 0, _, _, _, _ => none
  | n + 1, x2, x3, x5, σ => f_Arrays_fill2_3_10_b  (fun x2 x3 x5 σ => f_Arrays_fill2_3_10  n x2 x3 x5 σ) x2 x3 x5 σ
def f_Arrays_fill2_3  (x1 x2 x3 : Int) (σ : np_S) : Option np_O := (f_Arrays_rangeCheck 105 x1 x2 σ).bind (fun o1 => f_Arrays_fill2_3_10 6000 x2 x3 x1 o1.2)
def f_Grammar_dropHand  (σ : np_S) : Option np_O := (f_Grammar_usedDots σ).bind (fun o1 => (f_Grammar_usedDots o1.2).bind (fun o2 => (f_Arrays_fill_2 o1.1 (o2.1 + 7) ((-1)) o2.2).bind (fun o3 => (f_Grammar_usedDots o3.2).bind (fun o4 => (f_Grammar_usedDots o4.2).bind (fun o5 => (f_Arrays_fill2_3 o4.1 (o5.1 + 7) ((-1)) o5.2).bind (fun o6 => some (0, (np_st o6.2 1 5 0))))))))
def f_Spelling_byteOf  (x0 x2 : Int) (σ : np_S) : Option np_O := some (np_andi (np_ushrl x0 (8 * x2)) 255, σ)
def f_Text_append_5_b  (k5 : (Int → Int → np_S → Option np_O)) (x1 x4 : Int) (σ : np_S) : Option np_O := np_ck (np_R x4) (if x4 < 0 then (some (0, σ)) else ((f_Spelling_byteOf x1 x4 σ).bind (fun o1 => np_ck ((0 : Int) ≤ σ 6 1 ∧ σ 6 1 < 200) (k5 x1 (x4 + (-1)) (np_st (np_st o1.2 7 (σ 6 1) (Int.bmod (Int.bmod o1.1 256) 256)) 6 1 (((np_st o1.2 7 (σ 6 1) (Int.bmod (Int.bmod o1.1 256) 256)) 6 1) + 1))))))
def f_Text_append_5  : Nat → Int → Int → np_S → Option np_O
  | 0, _, _, _ => none
  | n + 1, x1, x4, σ => f_Text_append_5_b  (fun x1 x4 σ => f_Text_append_5  n x1 x4 σ) x1 x4 σ
def f_Text_append  (x1 x3 : Int) (σ : np_S) : Option np_O := f_Text_append_5 6000 x1 (x3 - 1) σ
def f_N_put_26  (σ : np_S) : Option np_O := np_ck ((0 : Int) = 0 ∨ (0 : Int) = 1) (some (0, σ))
def f_N_put  (x1 x3 : Int) (σ : np_S) : Option np_O := np_ck (np_R x3 ∧ np_R 1) (if x3 < 1 then (f_N_put_26 σ) else (np_ck (np_R x3 ∧ np_R 8) (if (8 : Int) < x3 then (f_N_put_26 σ) else (np_ck (np_R x3 ∧ np_R (200 - (σ 6 1))) (if x3 ≤ 200 - (σ 6 1) then ((f_Text_append x1 x3 σ).bind (fun o1 => np_ck ((1 : Int) = 0 ∨ (1 : Int) = 1) (some (1, o1.2)))) else (f_N_put_26 σ))))))
def f_N_clear  (σ : np_S) : Option np_O := some (0, (np_st σ 6 1 0))
def f_Tree_fell  (σ : np_S) : Option np_O := some (0, (np_st σ 15 2 0))
def f_String_isLatin1_k0_18  (t0 : Int) (σ : np_S) : Option np_O := np_ck (t0 = 0 ∨ t0 = 1) (some (t0, σ))
def f_String_isLatin1_k0_17  (σ : np_S) : Option np_O := f_String_isLatin1_k0_18 0 σ
def f_String_isLatin1_k0  (σ : np_S) : Option np_O := np_ck (np_R 1) (if (1 : Int) = 0 then (f_String_isLatin1_k0_17 σ) else (np_ck (np_R 0) (if (0 : Int) ≠ 0 then (f_String_isLatin1_k0_17 σ) else (f_String_isLatin1_k0_18 1 σ))))
def f_String_coder_k0_14  (t0 : Int) (σ : np_S) : Option np_O := np_ck (t0 = 0 ∨ t0 = 1) (some (t0, σ))
def f_String_coder_k0  (σ : np_S) : Option np_O := np_ck (np_R 1) (if (1 : Int) = 0 then (f_String_coder_k0_14 1 σ) else (f_String_coder_k0_14 0 σ))
def f_String_length_k0  (σ : np_S) : Option np_O := (f_String_coder_k0 σ).bind (fun o1 => some (np_shri 19 o1.1, o1.2))
def f_StringLatin1_canEncode_16  (t0 : Int) (σ : np_S) : Option np_O := np_ck (t0 = 0 ∨ t0 = 1) (some (t0, σ))
def f_StringLatin1_canEncode_15  (σ : np_S) : Option np_O := f_StringLatin1_canEncode_16 0 σ
def f_StringLatin1_canEncode  (x0 : Int) (σ : np_S) : Option np_O := np_ck (np_R x0) (if x0 < 0 then (f_StringLatin1_canEncode_15 σ) else (np_ck (np_R x0 ∧ np_R 255) (if (255 : Int) < x0 then (f_StringLatin1_canEncode_15 σ) else (f_StringLatin1_canEncode_16 1 σ))))
def f_StringLatin1_indexOfChar_kb0_7_b  (k7 : (Int → Int → Int → np_S → Option np_O)) (x3 x4 x5 : Int) (σ : np_S) : Option np_O := np_ck (np_R x5 ∧ np_R x3) (if x3 ≤ x5 then (some ((-1), σ)) else (np_ck ((0 : Int) ≤ x5 ∧ x5 < 19) (np_ck (np_R (np_kb 0 x5) ∧ np_R x4) (if np_kb 0 x5 ≠ x4 then (k7 x3 x4 (x5 + 1) σ) else (some (x5, σ))))))
def f_StringLatin1_indexOfChar_kb0_7  : Nat → Int → Int → Int → np_S → Option np_O
  | 0, _, _, _, _ => none
  | n + 1, x3, x4, x5, σ => f_StringLatin1_indexOfChar_kb0_7_b  (fun x3 x4 x5 σ => f_StringLatin1_indexOfChar_kb0_7  n x3 x4 x5 σ) x3 x4 x5 σ
def f_StringLatin1_indexOfChar_kb0  (x1 x2 x3 : Int) (σ : np_S) : Option np_O := f_StringLatin1_indexOfChar_kb0_7 6000 x3 (Int.bmod x1 256) x2 σ
def f_StringLatin1_indexOf_kb0  (x1 x2 x3 : Int) (σ : np_S) : Option np_O := (f_StringLatin1_canEncode x1 σ).bind (fun o1 => np_ck (np_R o1.1) (if o1.1 ≠ 0 then (np_ck (np_R x2 ∧ np_R 0) (np_ck (np_R x3 ∧ np_R 19) (np_ck (np_R (np_max x2 0) ∧ np_R (np_min x3 19)) (if np_max x2 0 < np_min x3 19 then ((f_StringLatin1_indexOfChar_kb0 x1 (np_max x2 0) (np_min x3 19) o1.2).bind (fun o2 => some (o2.1, o2.2))) else (some ((-1), o1.2)))))) else (some ((-1), o1.2))))
def f_String_indexOf2_k0_36  (t0 : Int) (σ : np_S) : Option np_O := some (t0, σ)
def f_String_indexOf2_k0  (x1 x2 : Int) (σ : np_S) : Option np_O := (f_String_isLatin1_k0 σ).bind (fun o1 => np_ck (np_R o1.1) (if o1.1 = 0 then ((f_String_length_k0 o1.2).bind (fun o2 => none)) else ((f_String_length_k0 o1.2).bind (fun o3 => (f_StringLatin1_indexOf_kb0 x1 x2 o3.1 o3.2).bind (fun o4 => f_String_indexOf2_k0_36 o4.1 o4.2)))))
def f_String_indexOf_k0  (x1 : Int) (σ : np_S) : Option np_O := (f_String_indexOf2_k0 x1 0 σ).bind (fun o1 => some (o1.1, o1.2))
def f_String_isLatin1_k1_18  (t0 : Int) (σ : np_S) : Option np_O := np_ck (t0 = 0 ∨ t0 = 1) (some (t0, σ))
def f_String_isLatin1_k1_17  (σ : np_S) : Option np_O := f_String_isLatin1_k1_18 0 σ
def f_String_isLatin1_k1  (σ : np_S) : Option np_O := np_ck (np_R 1) (if (1 : Int) = 0 then (f_String_isLatin1_k1_17 σ) else (np_ck (np_R 0) (if (0 : Int) ≠ 0 then (f_String_isLatin1_k1_17 σ) else (f_String_isLatin1_k1_18 1 σ))))
def f_String_coder_k1_14  (t0 : Int) (σ : np_S) : Option np_O := np_ck (t0 = 0 ∨ t0 = 1) (some (t0, σ))
def f_String_coder_k1  (σ : np_S) : Option np_O := np_ck (np_R 1) (if (1 : Int) = 0 then (f_String_coder_k1_14 1 σ) else (f_String_coder_k1_14 0 σ))
def f_String_length_k1  (σ : np_S) : Option np_O := (f_String_coder_k1 σ).bind (fun o1 => some (np_shri 8 o1.1, o1.2))
def f_StringLatin1_indexOfChar_kb1_7_b  (k7 : (Int → Int → Int → np_S → Option np_O)) (x3 x4 x5 : Int) (σ : np_S) : Option np_O := np_ck (np_R x5 ∧ np_R x3) (if x3 ≤ x5 then (some ((-1), σ)) else (np_ck ((0 : Int) ≤ x5 ∧ x5 < 8) (np_ck (np_R (np_kb 1 x5) ∧ np_R x4) (if np_kb 1 x5 ≠ x4 then (k7 x3 x4 (x5 + 1) σ) else (some (x5, σ))))))
def f_StringLatin1_indexOfChar_kb1_7  : Nat → Int → Int → Int → np_S → Option np_O
  | 0, _, _, _, _ => none
  | n + 1, x3, x4, x5, σ => f_StringLatin1_indexOfChar_kb1_7_b  (fun x3 x4 x5 σ => f_StringLatin1_indexOfChar_kb1_7  n x3 x4 x5 σ) x3 x4 x5 σ
def f_StringLatin1_indexOfChar_kb1  (x1 x2 x3 : Int) (σ : np_S) : Option np_O := f_StringLatin1_indexOfChar_kb1_7 6000 x3 (Int.bmod x1 256) x2 σ
def f_StringLatin1_indexOf_kb1  (x1 x2 x3 : Int) (σ : np_S) : Option np_O := (f_StringLatin1_canEncode x1 σ).bind (fun o1 => np_ck (np_R o1.1) (if o1.1 ≠ 0 then (np_ck (np_R x2 ∧ np_R 0) (np_ck (np_R x3 ∧ np_R 8) (np_ck (np_R (np_max x2 0) ∧ np_R (np_min x3 8)) (if np_max x2 0 < np_min x3 8 then ((f_StringLatin1_indexOfChar_kb1 x1 (np_max x2 0) (np_min x3 8) o1.2).bind (fun o2 => some (o2.1, o2.2))) else (some ((-1), o1.2)))))) else (some ((-1), o1.2))))
def f_String_indexOf2_k1_36  (t0 : Int) (σ : np_S) : Option np_O := some (t0, σ)
def f_String_indexOf2_k1  (x1 x2 : Int) (σ : np_S) : Option np_O := (f_String_isLatin1_k1 σ).bind (fun o1 => np_ck (np_R o1.1) (if o1.1 = 0 then ((f_String_length_k1 o1.2).bind (fun o2 => none)) else ((f_String_length_k1 o1.2).bind (fun o3 => (f_StringLatin1_indexOf_kb1 x1 x2 o3.1 o3.2).bind (fun o4 => f_String_indexOf2_k1_36 o4.1 o4.2)))))
def f_String_indexOf_k1  (x1 : Int) (σ : np_S) : Option np_O := (f_String_indexOf2_k1 x1 0 σ).bind (fun o1 => some (o1.1, o1.2))
def f_Spelling_kindOf_12  (σ : np_S) : Option np_O := some (1, σ)
def f_Spelling_kindOf_81  (t0 : Int) (σ : np_S) : Option np_O := some (t0, σ)
def f_Spelling_kindOf_54  (x0 : Int) (σ : np_S) : Option np_O := (f_String_indexOf_k0 (x0 % 65536) σ).bind (fun o1 => np_ck (np_R o1.1) (if o1.1 < 0 then ((f_String_indexOf_k1 (x0 % 65536) o1.2).bind (fun o2 => np_ck (np_R o2.1) (if o2.1 < 0 then (f_Spelling_kindOf_81 0 o2.2) else (f_Spelling_kindOf_81 5 o2.2)))) else (some (4, o1.2))))
def f_Spelling_kindOf_40  (x0 : Int) (σ : np_S) : Option np_O := np_ck (np_R x0 ∧ np_R 48) (if x0 < 48 then (f_Spelling_kindOf_54 x0 σ) else (np_ck (np_R x0 ∧ np_R 57) (if (57 : Int) < x0 then (f_Spelling_kindOf_54 x0 σ) else (some (3, σ)))))
def f_Spelling_kindOf_38  (σ : np_S) : Option np_O := some (2, σ)
def f_Spelling_kindOf_26  (x0 : Int) (σ : np_S) : Option np_O := np_ck (np_R x0 ∧ np_R 65) (if x0 < 65 then (f_Spelling_kindOf_40 x0 σ) else (np_ck (np_R x0 ∧ np_R 90) (if (90 : Int) < x0 then (f_Spelling_kindOf_40 x0 σ) else (f_Spelling_kindOf_38 σ))))
def f_Spelling_kindOf  (x0 : Int) (σ : np_S) : Option np_O := np_ck (np_R x0 ∧ np_R 32) (if x0 = 32 then (f_Spelling_kindOf_12 σ) else (np_ck (np_R x0 ∧ np_R 10) (if x0 ≠ 10 then (np_ck (np_R x0 ∧ np_R 97) (if x0 < 97 then (f_Spelling_kindOf_26 x0 σ) else (np_ck (np_R x0 ∧ np_R 122) (if x0 ≤ 122 then (f_Spelling_kindOf_38 σ) else (f_Spelling_kindOf_26 x0 σ))))) else (f_Spelling_kindOf_12 σ))))
def f_Text_kindAt  (x1 : Int) (σ : np_S) : Option np_O := np_ck ((0 : Int) ≤ x1 ∧ x1 < 200) ((f_Spelling_kindOf (np_andi (σ 7 x1) 255) σ).bind (fun o1 => some (o1.1, o1.2)))
def f_Text_endOfRow_32  (x3 : Int) (σ : np_S) : Option np_O := some (x3, σ)
def f_Text_endOfRow_9_b  (k9 : (Int → Int → np_S → Option np_O)) (x2 x3 : Int) (σ : np_S) : Option np_O := np_ck (np_R x3 ∧ np_R (σ 6 1)) (if σ 6 1 ≤ x3 then (f_Text_endOfRow_32 x3 σ) else ((f_Text_kindAt x3 σ).bind (fun o1 => np_ck (np_R o1.1 ∧ np_R x2) (if o1.1 ≠ x2 then (f_Text_endOfRow_32 x3 o1.2) else (k9 x2 (x3 + 1) o1.2)))))
def f_Text_endOfRow_9  : Nat → Int → Int → np_S → Option np_O
  | 0, _, _, _ => none
  | n + 1, x2, x3, σ => f_Text_endOfRow_9_b  (fun x2 x3 σ => f_Text_endOfRow_9  n x2 x3 σ) x2 x3 σ
def f_Text_endOfRow  (x1 x2 : Int) (σ : np_S) : Option np_O := np_ck (np_R x2 ∧ np_R 5) (if x2 = 5 then (f_Text_endOfRow_32 (x1 + 1) σ) else (f_Text_endOfRow_9 6000 x2 (x1 + 1) σ))
def f_Grammar_hasKey_3_b  (k3 : (Int → Int → np_S → Option np_O)) (x1 x3 : Int) (σ : np_S) : Option np_O := (f_Grammar_usedDots σ).bind (fun o1 => np_ck (np_R x3 ∧ np_R o1.1) (if o1.1 ≤ x3 then (np_ck ((0 : Int) = 0 ∨ (0 : Int) = 1) (some (0, o1.2))) else (np_ck ((0 : Int) ≤ x3 ∧ x3 < 105) (np_ck (np_R6 (o1.2 3 x3) ∧ np_R6 x1) (np_ck (np_R (np_cmp (o1.2 3 x3) x1)) (if np_cmp (o1.2 3 x3) x1 ≠ 0 then (k3 x1 (x3 + 1) o1.2) else (np_ck ((1 : Int) = 0 ∨ (1 : Int) = 1) (some (1, o1.2)))))))))
def f_Grammar_hasKey_3  : Nat → Int → Int → np_S → Option np_O
  | 0, _, _, _ => none
  | n + 1, x1, x3, σ => f_Grammar_hasKey_3_b  (fun x1 x3 σ => f_Grammar_hasKey_3  n x1 x3 σ) x1 x3 σ
def f_Grammar_hasKey  (x1 : Int) (σ : np_S) : Option np_O := f_Grammar_hasKey_3 6000 x1 14 σ
def f_Text_takeRow_33  (x1 : Int) (σ : np_S) : Option np_O := some (0, (np_st σ 6 6 x1))
def f_Text_takeRow_134  (x1 t1 t2 : Int) (σ : np_S) : Option np_O := np_ck ((0 : Int) ≤ t1 ∧ t1 < 30) (np_ck ((0 : Int) ≤ (np_st σ 9 t1 t2) 6 5 ∧ (np_st σ 9 t1 t2) 6 5 < 30) (some (0, (np_st (np_st (np_st σ 9 t1 t2) 10 ((np_st σ 9 t1 t2) 6 5) x1) 6 5 (((np_st (np_st σ 9 t1 t2) 10 ((np_st σ 9 t1 t2) 6 5) x1) 6 5) + 1)))))
def f_Text_takeRow_132  (x1 x6 t1 : Int) (σ : np_S) : Option np_O := f_Text_takeRow_134 x1 t1 x6 σ
def f_Text_takeRow_92  (x1 x6 t0 : Int) (σ : np_S) : Option np_O := np_ck ((0 : Int) ≤ σ 6 5 ∧ σ 6 5 < 30) (np_ck (np_R t0) (if t0 = 0 then (f_Text_takeRow_132 x1 x6 ((np_st σ 8 (σ 6 5) x6) 6 5) (np_st σ 8 (σ 6 5) x6)) else ((f_Grammar_hasKey x6 (np_st σ 8 (σ 6 5) x6)).bind (fun o1 => np_ck (np_R o1.1) (if o1.1 ≠ 0 then (f_Text_takeRow_132 x1 x6 ((np_st σ 8 (σ 6 5) x6) 6 5) o1.2) else (f_Text_takeRow_134 x1 ((np_st σ 8 (σ 6 5) x6) 6 5) 0 o1.2))))))
def f_Text_takeRow_87  (x1 x6 : Int) (σ : np_S) : Option np_O := f_Text_takeRow_92 x1 x6 1 σ
def f_Text_takeRow_45_b  (k45 : (Int → Int → Int → Int → Int → np_S → Option np_O)) (x1 x2 x3 x6 x8 : Int) (σ : np_S) : Option np_O := np_ck (np_R x8 ∧ np_R x2) (if x2 ≤ x8 then (np_ck (np_R x3 ∧ np_R 2) (if x3 = 2 then (f_Text_takeRow_87 x1 x6 σ) else (np_ck (np_R x3 ∧ np_R 3) (if x3 ≠ 3 then (f_Text_takeRow_92 x1 x6 0 σ) else (f_Text_takeRow_87 x1 x6 σ))))) else (np_ck ((0 : Int) ≤ x8 ∧ x8 < 200) (np_ck (np_R (np_andi (σ 7 x8) 255)) (k45 x1 x2 x3 (np_orl (np_shll x6 8) (np_andi (σ 7 x8) 255)) (x8 + 1) σ))))
def f_Text_takeRow_45  : Nat → Int → Int → Int → Int → Int → np_S → Option np_O
  | 0, _, _, _, _, _, _ => none
  | n + 1, x1, x2, x3, x6, x8, σ => f_Text_takeRow_45_b  (fun x1 x2 x3 x6 x8 σ => f_Text_takeRow_45  n x1 x2 x3 x6 x8 σ) x1 x2 x3 x6 x8 σ
def f_Text_takeRow_13  (x1 x2 x3 t0 : Int) (σ : np_S) : Option np_O := np_ck (np_R x3) (if x3 = 0 then (f_Text_takeRow_33 x1 σ) else (np_ck (np_R t0) (if t0 ≠ 0 then (f_Text_takeRow_33 x1 σ) else (np_ck (np_R (σ 6 5) ∧ np_R 30) (if σ 6 5 < 30 then (f_Text_takeRow_45 6000 x1 x2 x3 0 x1 σ) else (f_Text_takeRow_33 x1 σ))))))
def f_Text_takeRow  (x1 x2 x3 : Int) (σ : np_S) : Option np_O := np_ck (np_R (x2 - x1) ∧ np_R 8) (if x2 - x1 ≤ 8 then (f_Text_takeRow_13 x1 x2 x3 0 σ) else (f_Text_takeRow_13 x1 x2 x3 1 σ))
def f_Text_cut_79  (σ : np_S) : Option np_O := some (0, σ)
def f_Text_cut_70 (k14 : (Int → Int → np_S → Option np_O)) (x3 x5 : Int) (σ : np_S) : Option np_O := k14 x5 (x3 + 1) σ
def f_Text_cut_14_b  (k14 : (Int → Int → np_S → Option np_O)) (x2 x3 : Int) (σ : np_S) : Option np_O := np_ck (np_R x3 ∧ np_R (σ 6 1)) (if σ 6 1 ≤ x3 then (f_Text_cut_79 σ) else (np_ck (np_R x2 ∧ np_R (σ 6 1)) (if σ 6 1 ≤ x2 then (f_Text_cut_79 σ) else (np_ck (np_R (σ 6 6) ∧ np_R ((-1))) (if σ 6 6 ≠ (-1) then (f_Text_cut_79 σ) else ((f_Text_kindAt x2 σ).bind (fun o1 => (f_Text_endOfRow x2 o1.1 o1.2).bind (fun o2 => np_ck (np_R o1.1 ∧ np_R 1) (if o1.1 = 1 then (f_Text_cut_70 k14 x3 o2.1 o2.2) else ((f_Text_takeRow x2 o2.1 o1.1 o2.2).bind (fun o3 => f_Text_cut_70 k14 x3 o2.1 o3.2)))))))))))
def f_Text_cut_14  : Nat → Int → Int → np_S → Option np_O
  | 0, _, _, _ => none
  | n + 1, x2, x3, σ => f_Text_cut_14_b  (fun x2 x3 σ => f_Text_cut_14  n x2 x3 σ) x2 x3 σ
def f_Text_cut  (σ : np_S) : Option np_O := f_Text_cut_14 6000 0 0 (np_st (np_st σ 6 5 0) 6 6 ((-1)))
def f_Arrays_fill_12_10_b  (k10 : (Int → Int → Int → np_S → Option np_O)) (x2 x3 x4 : Int) (σ : np_S) : Option np_O := np_ck (np_R x4 ∧ np_R x2) (if x2 ≤ x4 then (some (0, σ)) else (np_ck ((0 : Int) ≤ x4 ∧ x4 < 3038) (k10 x2 x3 (x4 + 1) (np_st σ 12 x4 x3))))
def f_Arrays_fill_12_10  : Nat → Int → Int → Int → np_S → Option np_O
  | 0, _, _, _, _ => none
  | n + 1, x2, x3, x4, σ => f_Arrays_fill_12_10_b  (fun x2 x3 x4 σ => f_Arrays_fill_12_10  n x2 x3 x4 σ) x2 x3 x4 σ
def f_Arrays_fill_12  (x1 x2 x3 : Int) (σ : np_S) : Option np_O := (f_Arrays_rangeCheck 3038 x1 x2 σ).bind (fun o1 => f_Arrays_fill_12_10 6000 x2 x3 x1 o1.2)
def f_Chart_emptyRow  (x1 : Int) (σ : np_S) : Option np_O := (f_Arrays_fill_12 (x1 * 98) ((x1 + 1) * 98) 0 σ).bind (fun o1 => some (0, o1.2))
def f_Chart_scan_84 (k19 : (Int → Int → Int → Int → Int → np_S → Option np_O)) (x2 x4 x5 x6 x7 : Int) (σ : np_S) : Option np_O := k19 x2 x4 x5 x6 (x7 + 1) σ
def f_Chart_scan_19_b  (k19 : (Int → Int → Int → Int → Int → np_S → Option np_O)) (x2 x4 x5 x6 x7 : Int) (σ : np_S) : Option np_O := (f_Grammar_usedDots σ).bind (fun o1 => np_ck (np_R x7 ∧ np_R o1.1) (if o1.1 ≤ x7 then (np_ck (x6 = 0 ∨ x6 = 1) (some (x6, o1.2))) else (np_ck ((0 : Int) ≤ x4 + x7 ∧ x4 + x7 < 3038) (np_ck (np_R (o1.2 12 (x4 + x7))) (if o1.2 12 (x4 + x7) = 0 then (f_Chart_scan_84 k19 x2 x4 x5 x6 x7 o1.2) else (np_ck ((0 : Int) ≤ x7 ∧ x7 < 105) (np_ck (np_R6 (o1.2 3 x7) ∧ np_R6 x2) (np_ck (np_R (np_cmp (o1.2 3 x7) x2)) (if np_cmp (o1.2 3 x7) x2 ≠ 0 then (f_Chart_scan_84 k19 x2 x4 x5 x6 x7 o1.2) else (np_ck ((0 : Int) ≤ x4 + x7 ∧ x4 + x7 < 3038) (np_ck ((0 : Int) ≤ (x5 + x7) + 1 ∧ (x5 + x7) + 1 < 3038) (f_Chart_scan_84 k19 x2 x4 x5 1 x7 (np_st o1.2 12 ((x5 + x7) + 1) (o1.2 12 (x4 + x7)))))))))))))))
def f_Chart_scan_19  : Nat → Int → Int → Int → Int → Int → np_S → Option np_O
  | 0, _, _, _, _, _, _ => none
  | n + 1, x2, x4, x5, x6, x7, σ => f_Chart_scan_19_b  (fun x2 x4 x5 x6 x7 σ => f_Chart_scan_19  n x2 x4 x5 x6 x7 σ) x2 x4 x5 x6 x7 σ
def f_Chart_scan  (x1 x2 : Int) (σ : np_S) : Option np_O := f_Chart_scan_19 6000 x2 (x1 * 98) ((x1 * 98) + 98) 0 0 σ
def f_Grammar_lastDot  (x1 : Int) (σ : np_S) : Option np_O := np_ck ((0 : Int) ≤ x1 ∧ x1 < 14) (some ((x1 * 7) + (σ 5 x1), σ))
def f_Chart_isReached_23  (t0 : Int) (σ : np_S) : Option np_O := np_ck (t0 = 0 ∨ t0 = 1) (some (t0, σ))
def f_Chart_isReached  (x1 x2 x3 : Int) (σ : np_S) : Option np_O := np_ck ((0 : Int) ≤ (x2 * 98) + x3 ∧ (x2 * 98) + x3 < 3038) (np_ck (np_R (np_andi (np_ushri (σ 12 ((x2 * 98) + x3)) x1) 1)) (if np_andi (np_ushri (σ 12 ((x2 * 98) + x3)) x1) 1 = 0 then (f_Chart_isReached_23 0 σ) else (f_Chart_isReached_23 1 σ)))
def f_Chart_highestTerm_60 (k5 : (Int → Int → Int → Int → np_S → Option np_O)) (x1 x2 x3 x4 : Int) (σ : np_S) : Option np_O := k5 x1 x2 x3 (x4 + 1) σ
def f_Chart_highestTerm_5_b  (k5 : (Int → Int → Int → Int → np_S → Option np_O)) (x1 x2 x3 x4 : Int) (σ : np_S) : Option np_O := np_ck (np_R x4 ∧ np_R (σ 1 4)) (if σ 1 4 ≤ x4 then (some (x3, σ)) else (np_ck ((0 : Int) ≤ x4 ∧ x4 < 14) (np_ck (np_R (σ 4 x4) ∧ np_R x3) (if σ 4 x4 ≤ x3 then (f_Chart_highestTerm_60 k5 x1 x2 x3 x4 σ) else ((f_Grammar_lastDot x4 σ).bind (fun o1 => (f_Chart_isReached x1 x2 o1.1 o1.2).bind (fun o2 => np_ck (np_R o2.1) (if o2.1 = 0 then (f_Chart_highestTerm_60 k5 x1 x2 x3 x4 o2.2) else (np_ck ((0 : Int) ≤ x4 ∧ x4 < 14) (f_Chart_highestTerm_60 k5 x1 x2 (o2.2 4 x4) x4 o2.2))))))))))
def f_Chart_highestTerm_5  : Nat → Int → Int → Int → Int → np_S → Option np_O
  | 0, _, _, _, _, _ => none
  | n + 1, x1, x2, x3, x4, σ => f_Chart_highestTerm_5_b  (fun x1 x2 x3 x4 σ => f_Chart_highestTerm_5  n x1 x2 x3 x4 σ) x1 x2 x3 x4 σ
def f_Chart_highestTerm  (x1 x2 : Int) (σ : np_S) : Option np_O := f_Chart_highestTerm_5 6000 x1 x2 ((-1)) 0 σ
def f_Chart_fillHoles_76 (k15 : (Int → Int → Int → Int → np_S → Option np_O)) (x3 x4 x5 x6 : Int) (σ : np_S) : Option np_O := k15 x3 x4 x5 (x6 + 1) σ
def f_Chart_fillHoles_15_b  (k15 : (Int → Int → Int → Int → np_S → Option np_O)) (x3 x4 x5 x6 : Int) (σ : np_S) : Option np_O := (f_Grammar_usedDots σ).bind (fun o1 => np_ck (np_R x6 ∧ np_R o1.1) (if o1.1 ≤ x6 then (some (0, o1.2)) else (np_ck ((0 : Int) ≤ x6 ∧ x6 < 105) (np_ck (np_R (o1.2 2 x6) ∧ np_R ((-1))) (if o1.2 2 x6 = (-1) then (f_Chart_fillHoles_76 k15 x3 x4 x5 x6 o1.2) else (np_ck (np_R (o1.2 2 x6) ∧ np_R x3) (if x3 < o1.2 2 x6 then (f_Chart_fillHoles_76 k15 x3 x4 x5 x6 o1.2) else (np_ck ((0 : Int) ≤ (x5 + x6) + 1 ∧ (x5 + x6) + 1 < 3038) (np_ck ((0 : Int) ≤ x4 + x6 ∧ x4 + x6 < 3038) (np_ck ((0 : Int) ≤ (x5 + x6) + 1 ∧ (x5 + x6) + 1 < 3038) (f_Chart_fillHoles_76 k15 x3 x4 x5 x6 (np_st o1.2 12 ((x5 + x6) + 1) (np_ori (o1.2 12 ((x5 + x6) + 1)) (o1.2 12 (x4 + x6)))))))))))))))
def f_Chart_fillHoles_15  : Nat → Int → Int → Int → Int → np_S → Option np_O
  | 0, _, _, _, _, _ => none
  | n + 1, x3, x4, x5, x6, σ => f_Chart_fillHoles_15_b  (fun x3 x4 x5 x6 σ => f_Chart_fillHoles_15  n x3 x4 x5 x6 σ) x3 x4 x5 x6 σ
def f_Chart_fillHoles  (x1 x2 x3 : Int) (σ : np_S) : Option np_O := f_Chart_fillHoles_15 6000 x3 (x1 * 98) (x2 * 98) 0 σ
def f_Chart_complete_27 (k4 : (Int → Int → np_S → Option np_O)) (x1 x2 : Int) (σ : np_S) : Option np_O := k4 x1 (x2 + (-1)) σ
def f_Chart_complete_4_b  (k4 : (Int → Int → np_S → Option np_O)) (x1 x2 : Int) (σ : np_S) : Option np_O := np_ck (np_R x2) (if x2 < 0 then (some (0, σ)) else ((f_Chart_highestTerm x2 x1 σ).bind (fun o1 => np_ck (np_R o1.1 ∧ np_R ((-1))) (if o1.1 = (-1) then (f_Chart_complete_27 k4 x1 x2 o1.2) else ((f_Chart_fillHoles x2 x1 o1.1 o1.2).bind (fun o2 => f_Chart_complete_27 k4 x1 x2 o2.2))))))
def f_Chart_complete_4  : Nat → Int → Int → np_S → Option np_O
  | 0, _, _, _ => none
  | n + 1, x1, x2, σ => f_Chart_complete_4_b  (fun x1 x2 σ => f_Chart_complete_4  n x1 x2 σ) x1 x2 σ
def f_Chart_complete  (x1 : Int) (σ : np_S) : Option np_O := f_Chart_complete_4 6000 x1 (x1 - 1) σ
def f_Chart_leastWanted_56 (k5 : (Int → Int → Int → np_S → Option np_O)) (x1 x2 x3 : Int) (σ : np_S) : Option np_O := k5 x1 x2 (x3 + 1) σ
def f_Chart_leastWanted_5_b  (k5 : (Int → Int → Int → np_S → Option np_O)) (x1 x2 x3 : Int) (σ : np_S) : Option np_O := (f_Grammar_usedDots σ).bind (fun o1 => np_ck (np_R x3 ∧ np_R o1.1) (if o1.1 ≤ x3 then (some (x2, o1.2)) else (np_ck ((0 : Int) ≤ x3 ∧ x3 < 105) (np_ck (np_R (o1.2 2 x3) ∧ np_R ((-1))) (if o1.2 2 x3 = (-1) then (f_Chart_leastWanted_56 k5 x1 x2 x3 o1.2) else (np_ck (np_R (o1.2 2 x3) ∧ np_R x2) (if x2 ≤ o1.2 2 x3 then (f_Chart_leastWanted_56 k5 x1 x2 x3 o1.2) else (np_ck ((0 : Int) ≤ (x1 * 98) + x3 ∧ (x1 * 98) + x3 < 3038) (np_ck (np_R (o1.2 12 ((x1 * 98) + x3))) (if o1.2 12 ((x1 * 98) + x3) = 0 then (f_Chart_leastWanted_56 k5 x1 x2 x3 o1.2) else (f_Chart_leastWanted_56 k5 x1 (o1.2 2 x3) x3 o1.2)))))))))))
def f_Chart_leastWanted_5  : Nat → Int → Int → Int → np_S → Option np_O
  | 0, _, _, _, _ => none
  | n + 1, x1, x2, x3, σ => f_Chart_leastWanted_5_b  (fun x1 x2 x3 σ => f_Chart_leastWanted_5  n x1 x2 x3 σ) x1 x2 x3 σ
def f_Chart_leastWanted  (x1 : Int) (σ : np_S) : Option np_O := f_Chart_leastWanted_5 6000 x1 11 0 σ
def f_Chart_leastFirstHole_57 (k4 : (Int → Int → Int → np_S → Option np_O)) (x1 x2 x3 : Int) (σ : np_S) : Option np_O := k4 x1 x2 (x3 + 1) σ
def f_Chart_leastFirstHole_4_b  (k4 : (Int → Int → Int → np_S → Option np_O)) (x1 x2 x3 : Int) (σ : np_S) : Option np_O := np_ck (np_R x3 ∧ np_R (σ 1 4)) (if σ 1 4 ≤ x3 then (some (x2, σ)) else (np_ck ((0 : Int) ≤ x3 * 7 ∧ x3 * 7 < 105) (np_ck ((0 : Int) ≤ x3 ∧ x3 < 14) (np_ck (np_R (σ 4 x3) ∧ np_R x1) (if σ 4 x3 < x1 then (f_Chart_leastFirstHole_57 k4 x1 x2 x3 σ) else (np_ck (np_R (σ 2 (x3 * 7)) ∧ np_R ((-1))) (if σ 2 (x3 * 7) = (-1) then (f_Chart_leastFirstHole_57 k4 x1 x2 x3 σ) else (np_ck (np_R (σ 2 (x3 * 7)) ∧ np_R x2) (if x2 ≤ σ 2 (x3 * 7) then (f_Chart_leastFirstHole_57 k4 x1 x2 x3 σ) else (f_Chart_leastFirstHole_57 k4 x1 (σ 2 (x3 * 7)) x3 σ))))))))))
def f_Chart_leastFirstHole_4  : Nat → Int → Int → Int → np_S → Option np_O
  | 0, _, _, _, _ => none
  | n + 1, x1, x2, x3, σ => f_Chart_leastFirstHole_4_b  (fun x1 x2 x3 σ => f_Chart_leastFirstHole_4  n x1 x2 x3 σ) x1 x2 x3 σ
def f_Chart_leastFirstHole  (x1 : Int) (σ : np_S) : Option np_O := f_Chart_leastFirstHole_4 6000 x1 x1 2 σ
def f_Chart_predict_96 (k52 : (Int → Int → Int → np_S → Option np_O)) (x1 x3 x5 : Int) (σ : np_S) : Option np_O := k52 x1 x3 (x5 + 1) σ
def f_Chart_predict_52_b  (k52 : (Int → Int → Int → np_S → Option np_O)) (x1 x3 x5 : Int) (σ : np_S) : Option np_O := np_ck (np_R x5 ∧ np_R (σ 1 4)) (if σ 1 4 ≤ x5 then (some (0, σ)) else (np_ck ((0 : Int) ≤ x5 ∧ x5 < 14) (np_ck (np_R (σ 4 x5) ∧ np_R x3) (if σ 4 x5 < x3 then (f_Chart_predict_96 k52 x1 x3 x5 σ) else (np_ck ((0 : Int) ≤ (x1 * 98) + (x5 * 7) ∧ (x1 * 98) + (x5 * 7) < 3038) (f_Chart_predict_96 k52 x1 x3 x5 (np_st σ 12 ((x1 * 98) + (x5 * 7)) (np_shli 1 x1))))))))
def f_Chart_predict_52  : Nat → Int → Int → Int → np_S → Option np_O
  | 0, _, _, _, _ => none
  | n + 1, x1, x3, x5, σ => f_Chart_predict_52_b  (fun x1 x3 x5 σ => f_Chart_predict_52  n x1 x3 x5 σ) x1 x3 x5 σ
def f_Chart_predict_49  (x1 x3 : Int) (σ : np_S) : Option np_O := f_Chart_predict_52 6000 x1 x3 0 σ
def f_Chart_predict_41 (k8 : (Int → Int → Int → Int → np_S → Option np_O)) (x1 x3 x5 t0 : Int) (σ : np_S) : Option np_O := k8 x1 x3 t0 (x5 + 1) σ
def f_Chart_predict_8_b  (k8 : (Int → Int → Int → Int → np_S → Option np_O)) (x1 x3 x4 x5 : Int) (σ : np_S) : Option np_O := np_ck (np_R x5 ∧ np_R 10) (if (10 : Int) < x5 then (f_Chart_predict_49 x1 x3 σ) else (np_ck (np_R x4) (if x4 = 0 then (f_Chart_predict_49 x1 x3 σ) else ((f_Chart_leastFirstHole x3 σ).bind (fun o1 => np_ck (np_R o1.1 ∧ np_R x3) (if x3 ≤ o1.1 then (f_Chart_predict_41 k8 x1 o1.1 x5 0 o1.2) else (f_Chart_predict_41 k8 x1 o1.1 x5 1 o1.2)))))))
def f_Chart_predict_8  : Nat → Int → Int → Int → Int → np_S → Option np_O
  | 0, _, _, _, _, _ => none
  | n + 1, x1, x3, x4, x5, σ => f_Chart_predict_8_b  (fun x1 x3 x4 x5 σ => f_Chart_predict_8  n x1 x3 x4 x5 σ) x1 x3 x4 x5 σ
def f_Chart_predict  (x1 x2 : Int) (σ : np_S) : Option np_O := f_Chart_predict_8 6000 x1 x2 1 0 σ
def f_Chart_follow_13_b  (k13 : (Int → Int → np_S → Option np_O)) (x2 x3 : Int) (σ : np_S) : Option np_O := np_ck (np_R x3 ∧ np_R x2) (if x2 ≤ x3 then (some (x2, σ)) else ((f_Chart_emptyRow (x3 + 1) σ).bind (fun o1 => np_ck ((0 : Int) ≤ x3 ∧ x3 < 30) ((f_Chart_scan x3 (o1.2 9 x3) o1.2).bind (fun o2 => np_ck (np_R o2.1) (if o2.1 ≠ 0 then ((f_Chart_complete (x3 + 1) o2.2).bind (fun o3 => (f_Chart_leastWanted (x3 + 1) o3.2).bind (fun o4 => (f_Chart_predict (x3 + 1) o4.1 o4.2).bind (fun o5 => k13 x2 (x3 + 1) o5.2)))) else (some (x3, o2.2))))))))
def f_Chart_follow_13  : Nat → Int → Int → np_S → Option np_O
  | 0, _, _, _ => none
  | n + 1, x2, x3, σ => f_Chart_follow_13_b  (fun x2 x3 σ => f_Chart_follow_13  n x2 x3 σ) x2 x3 σ
def f_Chart_follow  (x2 : Int) (σ : np_S) : Option np_O := (f_Chart_emptyRow 0 σ).bind (fun o6 => (f_Chart_predict 0 0 o6.2).bind (fun o7 => f_Chart_follow_13 6000 x2 0 o7.2))
def f_Chart_isWhole_15  (t0 : Int) (σ : np_S) : Option np_O := np_ck (t0 = 0 ∨ t0 = 1) (some (t0, σ))
def f_Chart_isWhole  (x1 : Int) (σ : np_S) : Option np_O := (f_Chart_highestTerm 0 x1 σ).bind (fun o1 => np_ck (np_R o1.1 ∧ np_R ((-1))) (if o1.1 = (-1) then (f_Chart_isWhole_15 0 o1.2) else (f_Chart_isWhole_15 1 o1.2)))
def f_N_noteFault  (x1 x2 : Int) (σ : np_S) : Option np_O := some (0, (np_st (np_st σ 0 5 x1) 0 6 x2))
def f_N_findFault_114  (σ : np_S) : Option np_O := some (0, σ)
def f_N_findFault  (σ : np_S) : Option np_O := (f_Chart_follow (σ 6 5) σ).bind (fun o1 => np_ck (np_R o1.1 ∧ np_R (o1.2 6 5)) (if o1.2 6 5 ≤ o1.1 then (np_ck (np_R (o1.2 6 6) ∧ np_R ((-1))) (if o1.2 6 6 = (-1) then ((f_Chart_isWhole (o1.2 6 5) o1.2).bind (fun o2 => np_ck (np_R o2.1) (if o2.1 ≠ 0 then ((f_N_noteFault 0 ((-1)) o2.2).bind (fun o3 => f_N_findFault_114 o3.2)) else ((f_N_noteFault 1 (o2.2 6 1) o2.2).bind (fun o4 => f_N_findFault_114 o4.2))))) else ((f_N_noteFault 2 (o1.2 6 6) o1.2).bind (fun o5 => f_N_findFault_114 o5.2)))) else (np_ck ((0 : Int) ≤ o1.1 ∧ o1.1 < 30) ((f_N_noteFault 1 (o1.2 10 o1.1) o1.2).bind (fun o6 => f_N_findFault_114 o6.2)))))
def f_Chart_cell  (x1 x2 x3 : Int) (σ : np_S) : Option np_O := np_ck ((0 : Int) ≤ x2 * (x2 - 1) ∧ np_R (x2 * (x2 - 1)) ∧ (0 : Int) < 2 ∧ np_R 2) (some (((((x2 * (x2 - 1)) / 2) + x1) * 11) + x3, σ))
def f_Chart_addTrees  (x1 x2 : Int) (σ : np_S) : Option np_O := np_ck ((0 : Int) ≤ x1 ∧ x1 < 5115) (np_ck (np_R ((σ 14 x1) + x2) ∧ np_R 1000000) (np_ck ((0 : Int) ≤ x1 ∧ x1 < 5115) (some (0, (np_st σ 14 x1 (np_min ((σ 14 x1) + x2) 1000000))))))
def f_Chart_sumTerms_109_b  (k109 : (Int → Int → np_S → Option np_O)) (x3 x4 : Int) (σ : np_S) : Option np_O := np_ck (np_R x4) (if x4 < 0 then (some (0, σ)) else (np_ck ((0 : Int) ≤ (x3 + x4) + 1 ∧ (x3 + x4) + 1 < 5115) ((f_Chart_addTrees (x3 + x4) (σ 14 ((x3 + x4) + 1)) σ).bind (fun o1 => k109 x3 (x4 + (-1)) o1.2))))
def f_Chart_sumTerms_109  : Nat → Int → Int → np_S → Option np_O
  | 0, _, _, _ => none
  | n + 1, x3, x4, σ => f_Chart_sumTerms_109_b  (fun x3 x4 σ => f_Chart_sumTerms_109  n x3 x4 σ) x3 x4 σ
def f_Chart_sumTerms_99 (k37 : (Int → Int → Int → Int → np_S → Option np_O)) (x1 x2 x3 x4 : Int) (σ : np_S) : Option np_O := k37 x1 x2 x3 (x4 + 1) σ
def f_Chart_sumTerms_37_b  (k37 : (Int → Int → Int → Int → np_S → Option np_O)) (x1 x2 x3 x4 : Int) (σ : np_S) : Option np_O := np_ck (np_R x4 ∧ np_R (σ 1 4)) (if σ 1 4 ≤ x4 then (f_Chart_sumTerms_109 6000 x3 9 σ) else ((f_Grammar_lastDot x4 σ).bind (fun o2 => (f_Chart_isReached x1 x2 o2.1 o2.2).bind (fun o3 => np_ck (np_R o3.1) (if o3.1 = 0 then (f_Chart_sumTerms_99 k37 x1 x2 x3 x4 o3.2) else (np_ck ((0 : Int) ≤ x4 ∧ x4 < 14) (np_ck ((0 : Int) ≤ (x2 * 98) + o2.1 ∧ (x2 * 98) + o2.1 < 3038) ((f_Chart_addTrees (x3 + (o3.2 4 x4)) (o3.2 13 ((x2 * 98) + o2.1)) o3.2).bind (fun o4 => f_Chart_sumTerms_99 k37 x1 x2 x3 x4 o4.2)))))))))
def f_Chart_sumTerms_37  : Nat → Int → Int → Int → Int → np_S → Option np_O
  | 0, _, _, _, _, _ => none
  | n + 1, x1, x2, x3, x4, σ => f_Chart_sumTerms_37_b  (fun x1 x2 x3 x4 σ => f_Chart_sumTerms_37  n x1 x2 x3 x4 σ) x1 x2 x3 x4 σ
def f_Chart_sumTerms_11_b  (k11 : (Int → Int → Int → Int → np_S → Option np_O)) (x1 x2 x3 x4 : Int) (σ : np_S) : Option np_O := np_ck (np_R x4 ∧ np_R 10) (if (10 : Int) < x4 then (f_Chart_sumTerms_37 6000 x1 x2 x3 0 σ) else (np_ck ((0 : Int) ≤ x3 + x4 ∧ x3 + x4 < 5115) (k11 x1 x2 x3 (x4 + 1) (np_st σ 14 (x3 + x4) 0))))
def f_Chart_sumTerms_11  : Nat → Int → Int → Int → Int → np_S → Option np_O
  | 0, _, _, _, _, _ => none
  | n + 1, x1, x2, x3, x4, σ => f_Chart_sumTerms_11_b  (fun x1 x2 x3 x4 σ => f_Chart_sumTerms_11  n x1 x2 x3 x4 σ) x1 x2 x3 x4 σ
def f_Chart_sumTerms  (x1 x2 : Int) (σ : np_S) : Option np_O := (f_Chart_cell x1 x2 0 σ).bind (fun o5 => f_Chart_sumTerms_11 6000 x1 x2 o5.1 0 o5.2)
def f_Chart_countFirstHoles_64 (k2 : (Int → Int → Int → np_S → Option np_O)) (x1 x2 x3 : Int) (σ : np_S) : Option np_O := k2 x1 x2 (x3 + 1) σ
def f_Chart_countFirstHoles_2_b  (k2 : (Int → Int → Int → np_S → Option np_O)) (x1 x2 x3 : Int) (σ : np_S) : Option np_O := np_ck (np_R x3 ∧ np_R (σ 1 4)) (if σ 1 4 ≤ x3 then (some (0, σ)) else (np_ck ((0 : Int) ≤ x3 * 7 ∧ x3 * 7 < 105) (np_ck (np_R (σ 2 (x3 * 7)) ∧ np_R ((-1))) (if σ 2 (x3 * 7) = (-1) then (f_Chart_countFirstHoles_64 k2 x1 x2 x3 σ) else ((f_Chart_cell x1 x2 (σ 2 (x3 * 7)) σ).bind (fun o1 => np_ck ((0 : Int) ≤ o1.1 ∧ o1.1 < 5115) (np_ck ((0 : Int) ≤ ((x2 * 98) + (x3 * 7)) + 1 ∧ ((x2 * 98) + (x3 * 7)) + 1 < 3038) (f_Chart_countFirstHoles_64 k2 x1 x2 x3 (np_st o1.2 13 (((x2 * 98) + (x3 * 7)) + 1) (o1.2 14 o1.1))))))))))
def f_Chart_countFirstHoles_2  : Nat → Int → Int → Int → np_S → Option np_O
  | 0, _, _, _, _ => none
  | n + 1, x1, x2, x3, σ => f_Chart_countFirstHoles_2_b  (fun x1 x2 x3 σ => f_Chart_countFirstHoles_2  n x1 x2 x3 σ) x1 x2 x3 σ
def f_Chart_countFirstHoles  (x1 x2 : Int) (σ : np_S) : Option np_O := f_Chart_countFirstHoles_2 6000 x1 x2 0 σ
def f_Chart_countSplits_60 (k8 : (Int → Int → Int → Int → Int → Int → np_S → Option np_O)) (x1 x2 x3 x4 x5 x7 : Int) (σ : np_S) : Option np_O := k8 x1 x2 x3 x4 x5 (x7 + 1) σ
def f_Chart_countSplits_8_b  (k8 : (Int → Int → Int → Int → Int → Int → np_S → Option np_O)) (x1 x2 x3 x4 x5 x7 : Int) (σ : np_S) : Option np_O := np_ck (np_R x7 ∧ np_R x4) (if x4 ≤ x7 then (np_ck (np_R6 x5 ∧ np_R6 1000000) (some (np_min x5 1000000, σ))) else ((f_Chart_isReached x3 x7 x1 σ).bind (fun o1 => np_ck (np_R o1.1) (if o1.1 = 0 then (f_Chart_countSplits_60 k8 x1 x2 x3 x4 x5 x7 o1.2) else (np_ck ((0 : Int) ≤ (x7 * 98) + x1 ∧ (x7 * 98) + x1 < 3038) (np_ck (np_R (o1.2 13 ((x7 * 98) + x1))) ((f_Chart_cell x7 x4 x2 o1.2).bind (fun o2 => np_ck ((0 : Int) ≤ o2.1 ∧ o2.1 < 5115) (np_ck (np_R (o2.2 14 o2.1)) (f_Chart_countSplits_60 k8 x1 x2 x3 x4 (x5 + ((o1.2 13 ((x7 * 98) + x1)) * (o2.2 14 o2.1))) x7 o2.2))))))))))
def f_Chart_countSplits_8  : Nat → Int → Int → Int → Int → Int → Int → np_S → Option np_O
  | 0, _, _, _, _, _, _, _ => none
  | n + 1, x1, x2, x3, x4, x5, x7, σ => f_Chart_countSplits_8_b  (fun x1 x2 x3 x4 x5 x7 σ => f_Chart_countSplits_8  n x1 x2 x3 x4 x5 x7 σ) x1 x2 x3 x4 x5 x7 σ
def f_Chart_countSplits  (x1 x2 x3 x4 : Int) (σ : np_S) : Option np_O := f_Chart_countSplits_8 6000 x1 x2 x3 x4 0 (x3 + 1) σ
def f_Chart_countRule_124 (k22 : (Int → Int → Int → Int → Int → np_S → Option np_O)) (x2 x3 x4 x5 x6 : Int) (σ : np_S) : Option np_O := k22 x2 x3 x4 x5 (x6 + 1) σ
def f_Chart_countRule_22_b  (k22 : (Int → Int → Int → Int → Int → np_S → Option np_O)) (x2 x3 x4 x5 x6 : Int) (σ : np_S) : Option np_O := np_ck (np_R x6 ∧ np_R x5) (if x5 < x6 then (some (0, σ)) else ((f_Chart_isReached x2 x3 x6 σ).bind (fun o1 => np_ck (np_R o1.1) (if o1.1 = 0 then (f_Chart_countRule_124 k22 x2 x3 x4 x5 x6 o1.2) else (np_ck ((0 : Int) ≤ x6 - 1 ∧ x6 - 1 < 105) (np_ck (np_R (o1.2 2 (x6 - 1)) ∧ np_R ((-1))) (if o1.2 2 (x6 - 1) ≠ (-1) then (np_ck (np_R x6 ∧ np_R (x4 + 1)) (if x6 ≤ x4 + 1 then (f_Chart_countRule_124 k22 x2 x3 x4 x5 x6 o1.2) else ((f_Chart_countSplits (x6 - 1) (o1.2 2 (x6 - 1)) x2 x3 o1.2).bind (fun o2 => np_ck ((0 : Int) ≤ (x3 * 98) + x6 ∧ (x3 * 98) + x6 < 3038) (f_Chart_countRule_124 k22 x2 x3 x4 x5 x6 (np_st o2.2 13 ((x3 * 98) + x6) o2.1)))))) else (np_ck ((0 : Int) ≤ (((x3 - 1) * 98) + x6) - 1 ∧ (((x3 - 1) * 98) + x6) - 1 < 3038) (np_ck ((0 : Int) ≤ (x3 * 98) + x6 ∧ (x3 * 98) + x6 < 3038) (f_Chart_countRule_124 k22 x2 x3 x4 x5 x6 (np_st o1.2 13 ((x3 * 98) + x6) (o1.2 13 ((((x3 - 1) * 98) + x6) - 1)))))))))))))
def f_Chart_countRule_22  : Nat → Int → Int → Int → Int → Int → np_S → Option np_O
  | 0, _, _, _, _, _, _ => none
  | n + 1, x2, x3, x4, x5, x6, σ => f_Chart_countRule_22_b  (fun x2 x3 x4 x5 x6 σ => f_Chart_countRule_22  n x2 x3 x4 x5 x6 σ) x2 x3 x4 x5 x6 σ
def f_Chart_countRule  (x1 x2 x3 : Int) (σ : np_S) : Option np_O := (f_Grammar_lastDot x1 σ).bind (fun o3 => f_Chart_countRule_22 6000 x2 x3 (x1 * 7) o3.1 ((x1 * 7) + 1) o3.2)
def f_Chart_countFrom_46_b (k38 : (Int → Int → Int → np_S → Option np_O)) (k46 : (Int → Int → Int → Int → np_S → Option np_O)) (x1 x2 x3 x4 : Int) (σ : np_S) : Option np_O := np_ck (np_R x4 ∧ np_R (σ 1 4)) (if σ 1 4 ≤ x4 then ((f_Chart_sumTerms x1 x3 σ).bind (fun o1 => (f_Chart_countFirstHoles x1 x3 o1.2).bind (fun o2 => k38 x1 x2 (x3 + 1) o2.2))) else ((f_Chart_countRule x4 x1 x3 σ).bind (fun o3 => k46 x1 x2 x3 (x4 + 1) o3.2)))
def f_Chart_countFrom_46 (k38 : (Int → Int → Int → np_S → Option np_O)) : Nat → Int → Int → Int → Int → np_S → Option np_O
  | 0, _, _, _, _, _ => none
  | n + 1, x1, x2, x3, x4, σ => f_Chart_countFrom_46_b k38 (fun x1 x2 x3 x4 σ => f_Chart_countFrom_46 k38 n x1 x2 x3 x4 σ) x1 x2 x3 x4 σ
def f_Chart_countFrom_38_b  (k38 : (Int → Int → Int → np_S → Option np_O)) (x1 x2 x3 : Int) (σ : np_S) : Option np_O := np_ck (np_R x3 ∧ np_R x2) (if x2 < x3 then (some (0, σ)) else (f_Chart_countFrom_46 k38 6000 x1 x2 x3 0 σ))
def f_Chart_countFrom_38  : Nat → Int → Int → Int → np_S → Option np_O
  | 0, _, _, _, _ => none
  | n + 1, x1, x2, x3, σ => f_Chart_countFrom_38_b  (fun x1 x2 x3 σ => f_Chart_countFrom_38  n x1 x2 x3 σ) x1 x2 x3 σ
def f_Chart_countFrom_2_b  (k2 : (Int → Int → Int → np_S → Option np_O)) (x1 x2 x3 : Int) (σ : np_S) : Option np_O := np_ck (np_R x3 ∧ np_R (σ 1 4)) (if σ 1 4 ≤ x3 then (f_Chart_countFrom_38 6000 x1 x2 (x1 + 1) σ) else (np_ck ((0 : Int) ≤ (x1 * 98) + (x3 * 7) ∧ (x1 * 98) + (x3 * 7) < 3038) (k2 x1 x2 (x3 + 1) (np_st σ 13 ((x1 * 98) + (x3 * 7)) 1))))
def f_Chart_countFrom_2  : Nat → Int → Int → Int → np_S → Option np_O
  | 0, _, _, _, _ => none
  | n + 1, x1, x2, x3, σ => f_Chart_countFrom_2_b  (fun x1 x2 x3 σ => f_Chart_countFrom_2  n x1 x2 x3 σ) x1 x2 x3 σ
def f_Chart_countFrom  (x1 x2 : Int) (σ : np_S) : Option np_O := f_Chart_countFrom_2 6000 x1 x2 0 σ
def f_Chart_countTrees_52  (t0 : Int) (σ : np_S) : Option np_O := some (t0, σ)
def f_Chart_countTrees_25 (k4 : (Int → Int → np_S → Option np_O)) (x1 x2 : Int) (σ : np_S) : Option np_O := k4 x1 (x2 + (-1)) σ
def f_Chart_countTrees_4_b  (k4 : (Int → Int → np_S → Option np_O)) (x1 x2 : Int) (σ : np_S) : Option np_O := np_ck (np_R x2) (if x2 < 0 then (np_ck (np_R x1 ∧ np_R 1) (if (1 : Int) ≤ x1 then ((f_Chart_cell 0 x1 0 σ).bind (fun o1 => np_ck ((0 : Int) ≤ o1.1 ∧ o1.1 < 5115) (f_Chart_countTrees_52 (o1.2 14 o1.1) o1.2))) else (f_Chart_countTrees_52 0 σ))) else ((f_Chart_isReached x2 x2 7 σ).bind (fun o2 => np_ck (np_R o2.1) (if o2.1 = 0 then (f_Chart_countTrees_25 k4 x1 x2 o2.2) else ((f_Chart_countFrom x2 x1 o2.2).bind (fun o3 => f_Chart_countTrees_25 k4 x1 x2 o3.2))))))
def f_Chart_countTrees_4  : Nat → Int → Int → np_S → Option np_O
  | 0, _, _, _ => none
  | n + 1, x1, x2, σ => f_Chart_countTrees_4_b  (fun x1 x2 σ => f_Chart_countTrees_4  n x1 x2 σ) x1 x2 σ
def f_Chart_countTrees  (x1 : Int) (σ : np_S) : Option np_O := f_Chart_countTrees_4 6000 x1 (x1 - 1) σ
def f_Chart_onlyRule_51 (k11 : (Int → Int → Int → Int → np_S → Option np_O)) (x1 x2 x3 x4 : Int) (σ : np_S) : Option np_O := k11 x1 x2 x3 (x4 + (-1)) σ
def f_Chart_onlyRule_11_b  (k11 : (Int → Int → Int → Int → np_S → Option np_O)) (x1 x2 x3 x4 : Int) (σ : np_S) : Option np_O := np_ck (np_R x4) (if x4 ≤ 0 then (some (0, σ)) else (np_ck ((0 : Int) ≤ x4 ∧ x4 < 14) (np_ck (np_R (σ 4 x4) ∧ np_R x3) (if σ 4 x4 < x3 then (f_Chart_onlyRule_51 k11 x1 x2 x3 x4 σ) else ((f_Grammar_lastDot x4 σ).bind (fun o1 => (f_Chart_isReached x1 x2 o1.1 o1.2).bind (fun o2 => np_ck (np_R o2.1) (if o2.1 = 0 then (f_Chart_onlyRule_51 k11 x1 x2 x3 x4 o2.2) else (some (x4, o2.2))))))))))
def f_Chart_onlyRule_11  : Nat → Int → Int → Int → Int → np_S → Option np_O
  | 0, _, _, _, _, _ => none
  | n + 1, x1, x2, x3, x4, σ => f_Chart_onlyRule_11_b  (fun x1 x2 x3 x4 σ => f_Chart_onlyRule_11  n x1 x2 x3 x4 σ) x1 x2 x3 x4 σ
def f_Chart_onlyRule  (x1 x2 x3 : Int) (σ : np_S) : Option np_O := f_Chart_onlyRule_11 6000 x1 x2 x3 ((σ 1 4) - 1) σ
def f_Tree_await_60  (σ : np_S) : Option np_O := some (0, σ)
def f_Tree_await  (x1 x2 x3 x4 : Int) (σ : np_S) : Option np_O := np_ck (np_R (σ 15 9) ∧ np_R 30) (if (30 : Int) ≤ σ 15 9 then (f_Tree_await_60 σ) else (np_ck ((0 : Int) ≤ σ 15 9 ∧ σ 15 9 < 30) (np_ck ((0 : Int) ≤ (np_st σ 22 (σ 15 9) x1) 15 9 ∧ (np_st σ 22 (σ 15 9) x1) 15 9 < 30) (np_ck ((0 : Int) ≤ (np_st (np_st σ 22 (σ 15 9) x1) 23 ((np_st σ 22 (σ 15 9) x1) 15 9) x2) 15 9 ∧ (np_st (np_st σ 22 (σ 15 9) x1) 23 ((np_st σ 22 (σ 15 9) x1) 15 9) x2) 15 9 < 30) (np_ck ((0 : Int) ≤ (np_st (np_st (np_st σ 22 (σ 15 9) x1) 23 ((np_st σ 22 (σ 15 9) x1) 15 9) x2) 24 ((np_st (np_st σ 22 (σ 15 9) x1) 23 ((np_st σ 22 (σ 15 9) x1) 15 9) x2) 15 9) x3) 15 9 ∧ (np_st (np_st (np_st σ 22 (σ 15 9) x1) 23 ((np_st σ 22 (σ 15 9) x1) 15 9) x2) 24 ((np_st (np_st σ 22 (σ 15 9) x1) 23 ((np_st σ 22 (σ 15 9) x1) 15 9) x2) 15 9) x3) 15 9 < 30) (f_Tree_await_60 (np_st (np_st (np_st (np_st (np_st σ 22 (σ 15 9) x1) 23 ((np_st σ 22 (σ 15 9) x1) 15 9) x2) 24 ((np_st (np_st σ 22 (σ 15 9) x1) 23 ((np_st σ 22 (σ 15 9) x1) 15 9) x2) 15 9) x3) 25 ((np_st (np_st (np_st σ 22 (σ 15 9) x1) 23 ((np_st σ 22 (σ 15 9) x1) 15 9) x2) 24 ((np_st (np_st σ 22 (σ 15 9) x1) 23 ((np_st σ 22 (σ 15 9) x1) 15 9) x2) 15 9) x3) 15 9) x4) 15 9 (((np_st (np_st (np_st (np_st σ 22 (σ 15 9) x1) 23 ((np_st σ 22 (σ 15 9) x1) 15 9) x2) 24 ((np_st (np_st σ 22 (σ 15 9) x1) 23 ((np_st σ 22 (σ 15 9) x1) 15 9) x2) 15 9) x3) 25 ((np_st (np_st (np_st σ 22 (σ 15 9) x1) 23 ((np_st σ 22 (σ 15 9) x1) 15 9) x2) 24 ((np_st (np_st σ 22 (σ 15 9) x1) 23 ((np_st σ 22 (σ 15 9) x1) 15 9) x2) 15 9) x3) 15 9) x4) 15 9) + 1))))))))
def f_Chart_onlySplit_53 (k16 : (Int → Int → Int → Int → Int → np_S → Option np_O)) (x1 x2 x3 x4 x5 : Int) (σ : np_S) : Option np_O := k16 x1 x2 x3 x4 (x5 + (-1)) σ
def f_Chart_onlySplit_16_b  (k16 : (Int → Int → Int → Int → Int → np_S → Option np_O)) (x1 x2 x3 x4 x5 : Int) (σ : np_S) : Option np_O := np_ck (np_R x5 ∧ np_R x2) (if x5 ≤ x2 then (some (x2, σ)) else ((f_Chart_isReached x2 x5 x1 σ).bind (fun o1 => np_ck (np_R o1.1) (if o1.1 = 0 then (f_Chart_onlySplit_53 k16 x1 x2 x3 x4 x5 o1.2) else ((f_Chart_cell x5 x3 x4 o1.2).bind (fun o2 => np_ck ((0 : Int) ≤ o2.1 ∧ o2.1 < 5115) (np_ck (np_R (o2.2 14 o2.1)) (if o2.2 14 o2.1 ≤ 0 then (f_Chart_onlySplit_53 k16 x1 x2 x3 x4 x5 o2.2) else (some (x5, o2.2))))))))))
def f_Chart_onlySplit_16  : Nat → Int → Int → Int → Int → Int → np_S → Option np_O
  | 0, _, _, _, _, _, _ => none
  | n + 1, x1, x2, x3, x4, x5, σ => f_Chart_onlySplit_16_b  (fun x1 x2 x3 x4 x5 σ => f_Chart_onlySplit_16  n x1 x2 x3 x4 x5 σ) x1 x2 x3 x4 x5 σ
def f_Chart_onlySplit  (x1 x2 x3 : Int) (σ : np_S) : Option np_O := np_ck ((0 : Int) ≤ x1 ∧ x1 < 105) (f_Chart_onlySplit_16 6000 x1 x2 x3 (σ 2 x1) (x3 - 1) σ)
def f_Tree_awaitHoles_100 (k34 : (Int → Int → Int → Int → Int → Int → np_S → Option np_O)) (x1 x2 x4 x5 x7 x9 : Int) (σ : np_S) : Option np_O := k34 x1 x2 x4 x5 x9 (x7 + (-1)) σ
def f_Tree_awaitHoles_78 (k34 : (Int → Int → Int → Int → Int → Int → np_S → Option np_O)) (x1 x2 x4 x5 x6 x7 x8 t0 : Int) (σ : np_S) : Option np_O := np_ck (np_R x8 ∧ np_R ((-1))) (if x8 = (-1) then (f_Tree_awaitHoles_100 k34 x1 x2 x4 x5 x7 t0 σ) else ((f_Tree_await t0 x6 x8 x1 σ).bind (fun o1 => f_Tree_awaitHoles_100 k34 x1 x2 x4 (x5 + 1) x7 t0 o1.2)))
def f_Tree_awaitHoles_34_b  (k34 : (Int → Int → Int → Int → Int → Int → np_S → Option np_O)) (x1 x2 x4 x5 x6 x7 : Int) (σ : np_S) : Option np_O := np_ck (np_R x7 ∧ np_R x4) (if x7 < x4 then (some (x5, σ)) else (np_ck ((0 : Int) ≤ x7 ∧ x7 < 105) (np_ck (np_R (σ 2 x7) ∧ np_R ((-1))) (if σ 2 x7 ≠ (-1) then ((f_Chart_onlySplit x7 x2 x6 σ).bind (fun o2 => f_Tree_awaitHoles_78 k34 x1 x2 x4 x5 x6 x7 (σ 2 x7) o2.1 o2.2)) else (f_Tree_awaitHoles_78 k34 x1 x2 x4 x5 x6 x7 (σ 2 x7) (x6 - 1) σ)))))
def f_Tree_awaitHoles_34  : Nat → Int → Int → Int → Int → Int → Int → np_S → Option np_O
  | 0, _, _, _, _, _, _, _ => none
  | n + 1, x1, x2, x4, x5, x6, x7, σ => f_Tree_awaitHoles_34_b  (fun x1 x2 x4 x5 x6 x7 σ => f_Tree_awaitHoles_34  n x1 x2 x4 x5 x6 x7 σ) x1 x2 x4 x5 x6 x7 σ
def f_Tree_awaitHoles  (x1 x2 x3 : Int) (σ : np_S) : Option np_O := np_ck ((0 : Int) ≤ x1 ∧ x1 < 30) (np_ck ((0 : Int) ≤ x1 ∧ x1 < 30) ((f_Grammar_lastDot (σ 16 x1) σ).bind (fun o3 => f_Tree_awaitHoles_34 6000 x1 x2 ((σ 16 x1) * 7) 0 x3 (o3.1 - 1) o3.2)))
def f_Tree_growNode  (x1 x2 x3 : Int) (σ : np_S) : Option np_O := np_ck ((0 : Int) ≤ σ 15 9 ∧ σ 15 9 < 30) ((f_Chart_onlyRule x2 x3 (σ 24 (σ 15 9)) σ).bind (fun o1 => np_ck ((0 : Int) ≤ x1 ∧ x1 < 30) (np_ck ((0 : Int) ≤ x1 ∧ x1 < 30) (np_ck ((0 : Int) ≤ x1 ∧ x1 < 30) (np_ck ((0 : Int) ≤ (np_st (np_st (np_st o1.2 16 x1 o1.1) 18 x1 x2) 19 x1 (x3 - x2)) 15 9 ∧ (np_st (np_st (np_st o1.2 16 x1 o1.1) 18 x1 x2) 19 x1 (x3 - x2)) 15 9 < 30) (np_ck ((0 : Int) ≤ x1 ∧ x1 < 30) (np_ck ((0 : Int) ≤ (np_st (np_st (np_st (np_st o1.2 16 x1 o1.1) 18 x1 x2) 19 x1 (x3 - x2)) 20 x1 ((np_st (np_st (np_st o1.2 16 x1 o1.1) 18 x1 x2) 19 x1 (x3 - x2)) 25 ((np_st (np_st (np_st o1.2 16 x1 o1.1) 18 x1 x2) 19 x1 (x3 - x2)) 15 9))) 15 9 ∧ (np_st (np_st (np_st (np_st o1.2 16 x1 o1.1) 18 x1 x2) 19 x1 (x3 - x2)) 20 x1 ((np_st (np_st (np_st o1.2 16 x1 o1.1) 18 x1 x2) 19 x1 (x3 - x2)) 25 ((np_st (np_st (np_st o1.2 16 x1 o1.1) 18 x1 x2) 19 x1 (x3 - x2)) 15 9))) 15 9 < 30) (np_ck ((0 : Int) ≤ x1 ∧ x1 < 30) ((f_Tree_awaitHoles x1 x2 x3 (np_st (np_st (np_st (np_st (np_st o1.2 16 x1 o1.1) 18 x1 x2) 19 x1 (x3 - x2)) 20 x1 ((np_st (np_st (np_st o1.2 16 x1 o1.1) 18 x1 x2) 19 x1 (x3 - x2)) 25 ((np_st (np_st (np_st o1.2 16 x1 o1.1) 18 x1 x2) 19 x1 (x3 - x2)) 15 9))) 21 x1 ((np_st (np_st (np_st (np_st o1.2 16 x1 o1.1) 18 x1 x2) 19 x1 (x3 - x2)) 20 x1 ((np_st (np_st (np_st o1.2 16 x1 o1.1) 18 x1 x2) 19 x1 (x3 - x2)) 25 ((np_st (np_st (np_st o1.2 16 x1 o1.1) 18 x1 x2) 19 x1 (x3 - x2)) 15 9))) 24 ((np_st (np_st (np_st (np_st o1.2 16 x1 o1.1) 18 x1 x2) 19 x1 (x3 - x2)) 20 x1 ((np_st (np_st (np_st o1.2 16 x1 o1.1) 18 x1 x2) 19 x1 (x3 - x2)) 25 ((np_st (np_st (np_st o1.2 16 x1 o1.1) 18 x1 x2) 19 x1 (x3 - x2)) 15 9))) 15 9)))).bind (fun o2 => np_ck ((0 : Int) ≤ x1 ∧ x1 < 30) (some (0, (np_st o2.2 17 x1 o2.1)))))))))))))
def f_Tree_grow_82  (σ : np_S) : Option np_O := some (0, σ)
def f_Tree_grow_20_b  (k20 : (Int → np_S → Option np_O)) (x2 : Int) (σ : np_S) : Option np_O := np_ck (np_R x2 ∧ np_R 30) (if (30 : Int) ≤ x2 then (f_Tree_grow_82 σ) else (np_ck (np_R (σ 15 9)) (if σ 15 9 ≤ 0 then (f_Tree_grow_82 σ) else (np_ck ((0 : Int) ≤ (np_st σ 15 9 ((σ 15 9) - 1)) 15 9 ∧ (np_st σ 15 9 ((σ 15 9) - 1)) 15 9 < 30) (np_ck ((0 : Int) ≤ (np_st σ 15 9 ((σ 15 9) - 1)) 15 9 ∧ (np_st σ 15 9 ((σ 15 9) - 1)) 15 9 < 30) ((f_Tree_growNode x2 ((np_st σ 15 9 ((σ 15 9) - 1)) 22 ((np_st σ 15 9 ((σ 15 9) - 1)) 15 9)) ((np_st σ 15 9 ((σ 15 9) - 1)) 23 ((np_st σ 15 9 ((σ 15 9) - 1)) 15 9)) (np_st σ 15 9 ((σ 15 9) - 1))).bind (fun o1 => k20 (x2 + 1) (np_st o1.2 15 2 ((o1.2 15 2) + 1)))))))))
def f_Tree_grow_20  : Nat → Int → np_S → Option np_O
  | 0, _, _ => none
  | n + 1, x2, σ => f_Tree_grow_20_b  (fun x2 σ => f_Tree_grow_20  n x2 σ) x2 σ
def f_Tree_grow  (x1 : Int) (σ : np_S) : Option np_O := (f_Tree_await 0 x1 0 ((-1)) (np_st (np_st σ 15 2 0) 15 9 0)).bind (fun o2 => f_Tree_grow_20 6000 0 o2.2)
def f_N_fault  (x1 : Int) (σ : np_S) : Option np_O := np_ck (np_R x1) (if x1 = 0 then (some (σ 0 5, σ)) else (if x1 = 1 then (some (σ 0 6, σ)) else (some ((-1), σ))))
def f_Tree_levelWithin_27  (x2 : Int) (σ : np_S) : Option np_O := np_ck ((0 : Int) ≤ x2 ∧ x2 < 30) (np_ck ((0 : Int) ≤ σ 16 x2 ∧ σ 16 x2 < 14) (some (σ 4 (σ 16 x2), σ)))
def f_Tree_levelWithin_2_b  (k2 : (Int → np_S → Option np_O)) (x2 : Int) (σ : np_S) : Option np_O := np_ck (np_R x2 ∧ np_R ((σ 15 2) - 1)) (if (σ 15 2) - 1 ≤ x2 then (f_Tree_levelWithin_27 x2 σ) else (np_ck ((0 : Int) ≤ x2 ∧ x2 < 30) (np_ck (np_R (σ 16 x2)) (if σ 16 x2 ≠ 0 then (f_Tree_levelWithin_27 x2 σ) else (k2 (x2 + 1) σ)))))
def f_Tree_levelWithin_2  : Nat → Int → np_S → Option np_O
  | 0, _, _ => none
  | n + 1, x2, σ => f_Tree_levelWithin_2_b  (fun x2 σ => f_Tree_levelWithin_2  n x2 σ) x2 σ
def f_Tree_levelWithin  (x1 : Int) (σ : np_S) : Option np_O := f_Tree_levelWithin_2 6000 x1 σ
def f_Tree_needlessBrackets_64 (k4 : (Int → Int → np_S → Option np_O)) (x1 x2 : Int) (σ : np_S) : Option np_O := k4 x1 (x2 + 1) σ
def f_Tree_needlessBrackets_4_b  (k4 : (Int → Int → np_S → Option np_O)) (x1 x2 : Int) (σ : np_S) : Option np_O := np_ck (np_R x2 ∧ np_R (σ 15 2)) (if σ 15 2 ≤ x2 then (some (x1, σ)) else (np_ck ((0 : Int) ≤ x2 ∧ x2 < 30) (np_ck (np_R (σ 16 x2)) (if σ 16 x2 ≠ 0 then (f_Tree_needlessBrackets_64 k4 x1 x2 σ) else ((f_Tree_levelWithin x2 σ).bind (fun o1 => np_ck ((0 : Int) ≤ x2 ∧ x2 < 30) (np_ck (np_R o1.1 ∧ np_R (o1.2 21 x2)) (if o1.1 < o1.2 21 x2 then (f_Tree_needlessBrackets_64 k4 x1 x2 o1.2) else (np_ck ((0 : Int) ≤ x2 ∧ x2 < 30) (np_ck ((0 : Int) ≤ x2 ∧ x2 < 30) (np_ck ((0 : Int) ≤ x2 ∧ x2 < 30) (f_Tree_needlessBrackets_64 k4 (np_ori x1 (np_ori (np_shli 1 (o1.2 18 x2)) (np_shli 1 (((o1.2 18 x2) + (o1.2 19 x2)) - 1)))) x2 o1.2))))))))))))
def f_Tree_needlessBrackets_4  : Nat → Int → Int → np_S → Option np_O
  | 0, _, _, _ => none
  | n + 1, x1, x2, σ => f_Tree_needlessBrackets_4_b  (fun x1 x2 σ => f_Tree_needlessBrackets_4  n x1 x2 σ) x1 x2 σ
def f_Tree_needlessBrackets  (σ : np_S) : Option np_O := f_Tree_needlessBrackets_4 6000 0 0 σ
def f_Output_addByte_33  (σ : np_S) : Option np_O := some (0, σ)
def f_Output_addByte  (x1 : Int) (σ : np_S) : Option np_O := np_ck (np_R (σ 26 1) ∧ np_R 230) (if (230 : Int) ≤ σ 26 1 then (f_Output_addByte_33 σ) else (np_ck ((0 : Int) ≤ σ 26 1 ∧ σ 26 1 < 230) (f_Output_addByte_33 (np_st (np_st σ 27 (σ 26 1) (Int.bmod (Int.bmod x1 256) 256)) 26 1 (((np_st σ 27 (σ 26 1) (Int.bmod (Int.bmod x1 256) 256)) 26 1) + 1)))))
def f_Output_writeWord_25 (k3 : (Int → Int → np_S → Option np_O)) (x1 x3 : Int) (σ : np_S) : Option np_O := k3 x1 (x3 + (-1)) σ
def f_Output_writeWord_3_b  (k3 : (Int → Int → np_S → Option np_O)) (x1 x3 : Int) (σ : np_S) : Option np_O := np_ck (np_R x3) (if x3 < 0 then (some (0, σ)) else ((f_Spelling_byteOf x1 x3 σ).bind (fun o1 => np_ck (np_R o1.1) (if o1.1 = 0 then (f_Output_writeWord_25 k3 x1 x3 o1.2) else ((f_Output_addByte o1.1 o1.2).bind (fun o2 => f_Output_writeWord_25 k3 x1 x3 o2.2))))))
def f_Output_writeWord_3  : Nat → Int → Int → np_S → Option np_O
  | 0, _, _, _ => none
  | n + 1, x1, x3, σ => f_Output_writeWord_3_b  (fun x1 x3 σ => f_Output_writeWord_3  n x1 x3 σ) x1 x3 σ
def f_Output_writeWord  (x1 : Int) (σ : np_S) : Option np_O := f_Output_writeWord_3 6000 x1 7 σ
def f_Output_writeWords_46 (k7 : (Int → Int → np_S → Option np_O)) (x2 x3 : Int) (σ : np_S) : Option np_O := k7 x2 (x3 + 1) σ
def f_Output_writeWords_36 (k7 : (Int → Int → np_S → Option np_O)) (x2 x3 : Int) (σ : np_S) : Option np_O := np_ck ((0 : Int) ≤ x3 ∧ x3 < 30) ((f_Output_writeWord (σ 8 x3) σ).bind (fun o1 => f_Output_writeWords_46 k7 x2 x3 o1.2))
def f_Output_writeWords_7_b  (k7 : (Int → Int → np_S → Option np_O)) (x2 x3 : Int) (σ : np_S) : Option np_O := np_ck (np_R x3 ∧ np_R (σ 6 5)) (if σ 6 5 ≤ x3 then (some (0, σ)) else (np_ck (np_R (np_andi (np_ushri x2 x3) 1)) (if np_andi (np_ushri x2 x3) 1 ≠ 0 then (f_Output_writeWords_46 k7 x2 x3 σ) else (np_ck (np_R (σ 26 1)) (if σ 26 1 ≤ 0 then (f_Output_writeWords_36 k7 x2 x3 σ) else ((f_Output_addByte 32 σ).bind (fun o2 => f_Output_writeWords_36 k7 x2 x3 o2.2)))))))
def f_Output_writeWords_7  : Nat → Int → Int → np_S → Option np_O
  | 0, _, _, _ => none
  | n + 1, x2, x3, σ => f_Output_writeWords_7_b  (fun x2 x3 σ => f_Output_writeWords_7  n x2 x3 σ) x2 x3 σ
def f_Output_writeWords  (x2 : Int) (σ : np_S) : Option np_O := f_Output_writeWords_7 6000 x2 0 (np_st σ 26 1 0)
def f_N_at_28  (t0 : Int) (σ : np_S) : Option np_O := some (t0, σ)
def f_N_at_15  (σ : np_S) : Option np_O := f_N_at_28 ((-1)) σ
def f_N_at  (x1 : Int) (σ : np_S) : Option np_O := np_ck (np_R x1) (if x1 < 0 then (f_N_at_15 σ) else (np_ck (np_R x1 ∧ np_R (σ 26 1)) (if x1 < σ 26 1 then (np_ck ((0 : Int) ≤ x1 ∧ x1 < 230) (f_N_at_28 (σ 27 x1) σ)) else (f_N_at_15 σ))))
def f_Spelling_isSpelled_11  (σ : np_S) : Option np_O := np_ck ((0 : Int) = 0 ∨ (0 : Int) = 1) (some (0, σ))
def f_Spelling_isSpelled_41  (σ : np_S) : Option np_O := np_ck ((0 : Int) = 0 ∨ (0 : Int) = 1) (some (0, σ))
def f_Spelling_isSpelled_46_b  (k46 : (Int → Int → Int → Int → np_S → Option np_O)) (x0 x2 x3 x4 : Int) (σ : np_S) : Option np_O := np_ck (np_R x4 ∧ np_R x2) (if x2 ≤ x4 then (np_ck ((1 : Int) = 0 ∨ (1 : Int) = 1) (some (1, σ))) else ((f_Spelling_byteOf x0 x4 σ).bind (fun o1 => (f_Spelling_kindOf o1.1 o1.2).bind (fun o2 => np_ck (np_R o2.1 ∧ np_R x3) (if o2.1 = x3 then (k46 x0 x2 x3 (x4 + 1) o2.2) else (np_ck ((0 : Int) = 0 ∨ (0 : Int) = 1) (some (0, o2.2))))))))
def f_Spelling_isSpelled_46  : Nat → Int → Int → Int → Int → np_S → Option np_O
  | 0, _, _, _, _, _ => none
  | n + 1, x0, x2, x3, x4, σ => f_Spelling_isSpelled_46_b  (fun x0 x2 x3 x4 σ => f_Spelling_isSpelled_46  n x0 x2 x3 x4 σ) x0 x2 x3 x4 σ
def f_Spelling_isSpelled_43  (x0 x2 x3 : Int) (σ : np_S) : Option np_O := f_Spelling_isSpelled_46 6000 x0 x2 x3 1 σ
def f_Spelling_isSpelled  (x0 x2 : Int) (σ : np_S) : Option np_O := np_ck (np_R x2 ∧ np_R 1) (if x2 < 1 then (f_Spelling_isSpelled_11 σ) else (np_ck (np_R x2 ∧ np_R 8) (if x2 ≤ 8 then ((f_Spelling_byteOf x0 0 σ).bind (fun o3 => (f_Spelling_kindOf o3.1 o3.2).bind (fun o4 => np_ck (np_R o4.1) (if o4.1 = 0 then (f_Spelling_isSpelled_41 o4.2) else (np_ck (np_R o4.1 ∧ np_R 1) (if o4.1 = 1 then (f_Spelling_isSpelled_41 o4.2) else (np_ck (np_R o4.1 ∧ np_R 5) (if o4.1 ≠ 5 then (f_Spelling_isSpelled_43 x0 x2 o4.1 o4.2) else (np_ck (np_R x2 ∧ np_R 1) (if x2 ≤ 1 then (f_Spelling_isSpelled_43 x0 x2 o4.1 o4.2) else (f_Spelling_isSpelled_41 o4.2))))))))))) else (f_Spelling_isSpelled_11 σ))))
def f_Spelling_lowBytes_20  (t0 : Int) (σ : np_S) : Option np_O := some (t0, σ)
def f_Spelling_lowBytes  (x0 x2 : Int) (σ : np_S) : Option np_O := np_ck (np_R x2 ∧ np_R 8) (if x2 < 8 then (f_Spelling_lowBytes_20 (np_andl x0 ((np_shll 1 (8 * x2)) - 1)) σ) else (f_Spelling_lowBytes_20 x0 σ))
def f_N_isKey_28  (t0 : Int) (σ : np_S) : Option np_O := np_ck (t0 = 0 ∨ t0 = 1) (some (t0, σ))
def f_N_isKey_27  (σ : np_S) : Option np_O := f_N_isKey_28 0 σ
def f_N_isKey  (x1 x3 : Int) (σ : np_S) : Option np_O := (f_Spelling_isSpelled x1 x3 σ).bind (fun o1 => np_ck (np_R o1.1) (if o1.1 = 0 then (f_N_isKey_27 o1.2) else ((f_Spelling_lowBytes x1 x3 o1.2).bind (fun o2 => (f_Grammar_hasKey o2.1 o2.2).bind (fun o3 => np_ck (np_R o3.1) (if o3.1 = 0 then (f_N_isKey_27 o3.2) else (f_N_isKey_28 1 o3.2)))))))
def f_N_about  (x1 : Int) (σ : np_S) : Option np_O := np_ck (np_R x1) (if x1 = 0 then (some ((σ 1 4) - 2, σ)) else (if x1 = 1 then (some (σ 1 5, σ)) else (if x1 = 2 then (some (σ 6 1, σ)) else (if x1 = 3 then (some (σ 15 2, σ)) else (if x1 = 4 then (some (σ 26 1, σ)) else (some ((-1), σ)))))))
def f_Grammar_handEndsInHole_32  (t0 : Int) (σ : np_S) : Option np_O := np_ck (t0 = 0 ∨ t0 = 1) (some (t0, σ))
def f_Grammar_handEndsInHole_31  (σ : np_S) : Option np_O := f_Grammar_handEndsInHole_32 0 σ
def f_Grammar_handEndsInHole  (σ : np_S) : Option np_O := np_ck (np_R (σ 1 5)) (if σ 1 5 ≤ 0 then (f_Grammar_handEndsInHole_31 σ) else ((f_Grammar_usedDots σ).bind (fun o1 => np_ck ((0 : Int) ≤ (o1.1 + (o1.2 1 5)) - 1 ∧ (o1.1 + (o1.2 1 5)) - 1 < 105) (np_ck (np_R (o1.2 2 ((o1.1 + (o1.2 1 5)) - 1)) ∧ np_R ((-1))) (if o1.2 2 ((o1.1 + (o1.2 1 5)) - 1) = (-1) then (f_Grammar_handEndsInHole_31 o1.2) else (f_Grammar_handEndsInHole_32 1 o1.2))))))
def f_Grammar_handHasWord_2_b  (k2 : (Int → np_S → Option np_O)) (x1 : Int) (σ : np_S) : Option np_O := np_ck (np_R x1 ∧ np_R (σ 1 5)) (if σ 1 5 ≤ x1 then (np_ck ((0 : Int) = 0 ∨ (0 : Int) = 1) (some (0, σ))) else ((f_Grammar_usedDots σ).bind (fun o1 => np_ck ((0 : Int) ≤ o1.1 + x1 ∧ o1.1 + x1 < 105) (np_ck (np_R6 (o1.2 3 (o1.1 + x1)) ∧ np_R6 ((-1))) (np_ck (np_R (np_cmp (o1.2 3 (o1.1 + x1)) ((-1)))) (if np_cmp (o1.2 3 (o1.1 + x1)) ((-1)) = 0 then (k2 (x1 + 1) o1.2) else (np_ck ((1 : Int) = 0 ∨ (1 : Int) = 1) (some (1, o1.2)))))))))
def f_Grammar_handHasWord_2  : Nat → Int → np_S → Option np_O
  | 0, _, _ => none
  | n + 1, x1, σ => f_Grammar_handHasWord_2_b  (fun x1 σ => f_Grammar_handHasWord_2  n x1 σ) x1 σ
def f_Grammar_handHasWord  (σ : np_S) : Option np_O := f_Grammar_handHasWord_2 6000 0 σ
def f_Grammar_takePart  (x1 x2 : Int) (σ : np_S) : Option np_O := (f_Grammar_usedDots σ).bind (fun o1 => np_ck ((0 : Int) ≤ o1.1 + (o1.2 1 5) ∧ o1.1 + (o1.2 1 5) < 105) ((f_Grammar_usedDots (np_st o1.2 2 (o1.1 + (o1.2 1 5)) x1)).bind (fun o2 => np_ck ((0 : Int) ≤ o2.1 + (o2.2 1 5) ∧ o2.1 + (o2.2 1 5) < 105) (some ((np_st (np_st o2.2 3 (o2.1 + (o2.2 1 5)) x2) 1 5 (((np_st o2.2 3 (o2.1 + (o2.2 1 5)) x2) 1 5) + 1)) 1 5, (np_st (np_st o2.2 3 (o2.1 + (o2.2 1 5)) x2) 1 5 (((np_st o2.2 3 (o2.1 + (o2.2 1 5)) x2) 1 5) + 1)))))))
def f_Grammar_makeRule  (x1 : Int) (σ : np_S) : Option np_O := np_ck ((0 : Int) ≤ σ 1 4 ∧ σ 1 4 < 14) (np_ck ((0 : Int) ≤ σ 1 4 ∧ σ 1 4 < 14) (some (σ 1 4, (np_st (np_st (np_st (np_st σ 4 (σ 1 4) x1) 5 (σ 1 4) ((np_st σ 4 (σ 1 4) x1) 1 5)) 1 4 (((np_st (np_st σ 4 (σ 1 4) x1) 5 (σ 1 4) ((np_st σ 4 (σ 1 4) x1) 1 5)) 1 4) + 1)) 1 5 0))))
def f_M_thrown  (σ : np_S) : Option np_O := some (σ 0 0, σ)
def f_M_isLetter_29  (t0 : Int) (σ : np_S) : Option np_O := np_ck (t0 = 0 ∨ t0 = 1) (some (t0, σ))
def f_M_isLetter_28  (σ : np_S) : Option np_O := f_M_isLetter_29 0 σ
def f_M_isLetter_24  (σ : np_S) : Option np_O := f_M_isLetter_29 1 σ
def f_M_isLetter_12  (x0 : Int) (σ : np_S) : Option np_O := np_ck (np_R x0 ∧ np_R 65) (if x0 < 65 then (f_M_isLetter_28 σ) else (np_ck (np_R x0 ∧ np_R 90) (if (90 : Int) < x0 then (f_M_isLetter_28 σ) else (f_M_isLetter_24 σ))))
def f_M_isLetter  (x0 : Int) (σ : np_S) : Option np_O := np_ck (np_R x0 ∧ np_R 97) (if x0 < 97 then (f_M_isLetter_12 x0 σ) else (np_ck (np_R x0 ∧ np_R 122) (if x0 ≤ 122 then (f_M_isLetter_24 σ) else (f_M_isLetter_12 x0 σ))))
def f_M_isDigit_17  (t0 : Int) (σ : np_S) : Option np_O := np_ck (t0 = 0 ∨ t0 = 1) (some (t0, σ))
def f_M_isDigit_16  (σ : np_S) : Option np_O := f_M_isDigit_17 0 σ
def f_M_isDigit  (x0 : Int) (σ : np_S) : Option np_O := np_ck (np_R x0 ∧ np_R 48) (if x0 < 48 then (f_M_isDigit_16 σ) else (np_ck (np_R x0 ∧ np_R 57) (if (57 : Int) < x0 then (f_M_isDigit_16 σ) else (f_M_isDigit_17 1 σ))))
def f_M_sort  (x0 : Int) (σ : np_S) : Option np_O := (f_M_isLetter x0 σ).bind (fun o1 => np_ck (np_R o1.1) (if o1.1 = 0 then ((f_M_isDigit x0 o1.2).bind (fun o2 => np_ck (np_R o2.1) (if o2.1 = 0 then (np_ck (np_R x0) (if x0 = 33 then (some (3, o2.2)) else (if x0 = 34 then (some (0, o2.2)) else (if x0 = 35 then (some (3, o2.2)) else (if x0 = 36 then (some (3, o2.2)) else (if x0 = 37 then (some (3, o2.2)) else (if x0 = 38 then (some (3, o2.2)) else (if x0 = 39 then (some (0, o2.2)) else (if x0 = 40 then (some (4, o2.2)) else (if x0 = 41 then (some (4, o2.2)) else (if x0 = 42 then (some (3, o2.2)) else (if x0 = 43 then (some (3, o2.2)) else (if x0 = 44 then (some (4, o2.2)) else (if x0 = 45 then (some (3, o2.2)) else (if x0 = 46 then (some (3, o2.2)) else (if x0 = 47 then (some (3, o2.2)) else (if x0 = 48 then (some (0, o2.2)) else (if x0 = 49 then (some (0, o2.2)) else (if x0 = 50 then (some (0, o2.2)) else (if x0 = 51 then (some (0, o2.2)) else (if x0 = 52 then (some (0, o2.2)) else (if x0 = 53 then (some (0, o2.2)) else (if x0 = 54 then (some (0, o2.2)) else (if x0 = 55 then (some (0, o2.2)) else (if x0 = 56 then (some (0, o2.2)) else (if x0 = 57 then (some (0, o2.2)) else (if x0 = 58 then (some (3, o2.2)) else (if x0 = 59 then (some (4, o2.2)) else (if x0 = 60 then (some (3, o2.2)) else (if x0 = 61 then (some (3, o2.2)) else (if x0 = 62 then (some (3, o2.2)) else (if x0 = 63 then (some (3, o2.2)) else (if x0 = 64 then (some (3, o2.2)) else (if x0 = 65 then (some (0, o2.2)) else (if x0 = 66 then (some (0, o2.2)) else (if x0 = 67 then (some (0, o2.2)) else (if x0 = 68 then (some (0, o2.2)) else (if x0 = 69 then (some (0, o2.2)) else (if x0 = 70 then (some (0, o2.2)) else (if x0 = 71 then (some (0, o2.2)) else (if x0 = 72 then (some (0, o2.2)) else (if x0 = 73 then (some (0, o2.2)) else (if x0 = 74 then (some (0, o2.2)) else (if x0 = 75 then (some (0, o2.2)) else (if x0 = 76 then (some (0, o2.2)) else (if x0 = 77 then (some (0, o2.2)) else (if x0 = 78 then (some (0, o2.2)) else (if x0 = 79 then (some (0, o2.2)) else (if x0 = 80 then (some (0, o2.2)) else (if x0 = 81 then (some (0, o2.2)) else (if x0 = 82 then (some (0, o2.2)) else (if x0 = 83 then (some (0, o2.2)) else (if x0 = 84 then (some (0, o2.2)) else (if x0 = 85 then (some (0, o2.2)) else (if x0 = 86 then (some (0, o2.2)) else (if x0 = 87 then (some (0, o2.2)) else (if x0 = 88 then (some (0, o2.2)) else (if x0 = 89 then (some (0, o2.2)) else (if x0 = 90 then (some (0, o2.2)) else (if x0 = 91 then (some (4, o2.2)) else (if x0 = 92 then (some (0, o2.2)) else (if x0 = 93 then (some (4, o2.2)) else (if x0 = 94 then (some (3, o2.2)) else (if x0 = 95 then (some (0, o2.2)) else (if x0 = 96 then (some (0, o2.2)) else (if x0 = 97 then (some (0, o2.2)) else (if x0 = 98 then (some (0, o2.2)) else (if x0 = 99 then (some (0, o2.2)) else (if x0 = 100 then (some (0, o2.2)) else (if x0 = 101 then (some (0, o2.2)) else (if x0 = 102 then (some (0, o2.2)) else (if x0 = 103 then (some (0, o2.2)) else (if x0 = 104 then (some (0, o2.2)) else (if x0 = 105 then (some (0, o2.2)) else (if x0 = 106 then (some (0, o2.2)) else (if x0 = 107 then (some (0, o2.2)) else (if x0 = 108 then (some (0, o2.2)) else (if x0 = 109 then (some (0, o2.2)) else (if x0 = 110 then (some (0, o2.2)) else (if x0 = 111 then (some (0, o2.2)) else (if x0 = 112 then (some (0, o2.2)) else (if x0 = 113 then (some (0, o2.2)) else (if x0 = 114 then (some (0, o2.2)) else (if x0 = 115 then (some (0, o2.2)) else (if x0 = 116 then (some (0, o2.2)) else (if x0 = 117 then (some (0, o2.2)) else (if x0 = 118 then (some (0, o2.2)) else (if x0 = 119 then (some (0, o2.2)) else (if x0 = 120 then (some (0, o2.2)) else (if x0 = 121 then (some (0, o2.2)) else (if x0 = 122 then (some (0, o2.2)) else (if x0 = 123 then (some (4, o2.2)) else (if x0 = 124 then (some (3, o2.2)) else (if x0 = 125 then (some (4, o2.2)) else (if x0 = 126 then (some (3, o2.2)) else (some (0, o2.2))))))))))))))))))))))))))))))))))))))))))))))))))))))))))))))))))))))))))))))))))))))))))))))))) else (some (2, o2.2))))) else (some (1, o1.2))))
def f_M_byteOf  (x0 x2 x3 : Int) (σ : np_S) : Option np_O := some (np_andl (np_shrl x0 (8 * ((x2 - 1) - x3))) 255, σ)
def f_M_lowest_20  (t0 : Int) (σ : np_S) : Option np_O := some (t0, σ)
def f_M_lowest  (x0 x2 : Int) (σ : np_S) : Option np_O := np_ck (np_R x2 ∧ np_R 8) (if x2 ≠ 8 then (f_M_lowest_20 (np_andl x0 ((np_shll 1 (8 * x2)) - 1)) σ) else (f_M_lowest_20 x0 σ))
def f_M_isWord_11  (σ : np_S) : Option np_O := np_ck ((0 : Int) = 0 ∨ (0 : Int) = 1) (some (0, σ))
def f_M_isWord_77 (k47 : (Int → Int → Int → Int → Int → np_S → Option np_O)) (x0 x2 x3 x5 t0 : Int) (σ : np_S) : Option np_O := k47 x0 x2 x3 t0 (x5 + 1) σ
def f_M_isWord_76 (k47 : (Int → Int → Int → Int → Int → np_S → Option np_O)) (x0 x2 x3 x5 : Int) (σ : np_S) : Option np_O := f_M_isWord_77 k47 x0 x2 x3 x5 0 σ
def f_M_isWord_47_b  (k47 : (Int → Int → Int → Int → Int → np_S → Option np_O)) (x0 x2 x3 x4 x5 : Int) (σ : np_S) : Option np_O := np_ck (np_R x5 ∧ np_R x2) (if x2 ≤ x5 then (np_ck (x4 = 0 ∨ x4 = 1) (some (x4, σ))) else (np_ck (np_R x4) (if x4 = 0 then (f_M_isWord_76 k47 x0 x2 x3 x5 σ) else ((f_M_byteOf x0 x2 x5 σ).bind (fun o1 => (f_M_sort o1.1 o1.2).bind (fun o2 => np_ck (np_R o2.1 ∧ np_R x3) (if o2.1 ≠ x3 then (f_M_isWord_76 k47 x0 x2 x3 x5 o2.2) else (f_M_isWord_77 k47 x0 x2 x3 x5 1 o2.2))))))))
def f_M_isWord_47  : Nat → Int → Int → Int → Int → Int → np_S → Option np_O
  | 0, _, _, _, _, _, _ => none
  | n + 1, x0, x2, x3, x4, x5, σ => f_M_isWord_47_b  (fun x0 x2 x3 x4 x5 σ => f_M_isWord_47  n x0 x2 x3 x4 x5 σ) x0 x2 x3 x4 x5 σ
def f_M_isWord_42  (x0 x2 x3 t0 : Int) (σ : np_S) : Option np_O := f_M_isWord_47 6000 x0 x2 x3 t0 1 σ
def f_M_isWord_41  (x0 x2 x3 : Int) (σ : np_S) : Option np_O := f_M_isWord_42 x0 x2 x3 0 σ
def f_M_isWord_37  (x0 x2 x3 : Int) (σ : np_S) : Option np_O := f_M_isWord_42 x0 x2 x3 1 σ
def f_M_isWord  (x0 x2 : Int) (σ : np_S) : Option np_O := np_ck (np_R x2 ∧ np_R 1) (if x2 < 1 then (f_M_isWord_11 σ) else (np_ck (np_R x2 ∧ np_R 8) (if x2 ≤ 8 then ((f_M_byteOf x0 x2 0 σ).bind (fun o3 => (f_M_sort o3.1 o3.2).bind (fun o4 => np_ck (np_R o4.1) (if o4.1 ≤ 0 then (f_M_isWord_41 x0 x2 o4.1 o4.2) else (np_ck (np_R o4.1 ∧ np_R 4) (if o4.1 < 4 then (f_M_isWord_37 x0 x2 o4.1 o4.2) else (np_ck (np_R x2 ∧ np_R 1) (if x2 ≠ 1 then (f_M_isWord_41 x0 x2 o4.1 o4.2) else (f_M_isWord_37 x0 x2 o4.1 o4.2))))))))) else (f_M_isWord_11 σ))))
def f_M_isKeyWord_73 (k5 : (Int → Int → Int → np_S → Option np_O)) (k17 : (Int → Int → Int → Int → np_S → Option np_O)) (x1 x4 x5 t0 : Int) (σ : np_S) : Option np_O := k17 x1 t0 x4 (x5 + 1) σ
def f_M_isKeyWord_68 (k5 : (Int → Int → Int → np_S → Option np_O)) (k17 : (Int → Int → Int → Int → np_S → Option np_O)) (x1 x4 x5 : Int) (σ : np_S) : Option np_O := f_M_isKeyWord_73 k5 k17 x1 x4 x5 1 σ
def f_M_isKeyWord_72 (k5 : (Int → Int → Int → np_S → Option np_O)) (k17 : (Int → Int → Int → Int → np_S → Option np_O)) (x1 x4 x5 : Int) (σ : np_S) : Option np_O := f_M_isKeyWord_73 k5 k17 x1 x4 x5 0 σ
def f_M_isKeyWord_17_b (k5 : (Int → Int → Int → np_S → Option np_O)) (k17 : (Int → Int → Int → Int → np_S → Option np_O)) (x1 x3 x4 x5 : Int) (σ : np_S) : Option np_O := np_ck ((0 : Int) ≤ x4 ∧ x4 < 12) (np_ck (np_R x5 ∧ np_R (σ 3 x4)) (if σ 3 x4 ≤ x5 then (k5 x1 x3 (x4 + 1) σ) else (np_ck (np_R x3) (if x3 ≠ 0 then (f_M_isKeyWord_68 k5 k17 x1 x4 x5 σ) else (np_ck ((0 : Int) ≤ (7 * x4) + x5 ∧ (7 * x4) + x5 < 91) (np_ck (np_R (σ 1 ((7 * x4) + x5)) ∧ np_R ((-1))) (if σ 1 ((7 * x4) + x5) ≠ (-1) then (f_M_isKeyWord_72 k5 k17 x1 x4 x5 σ) else (np_ck ((0 : Int) ≤ (7 * x4) + x5 ∧ (7 * x4) + x5 < 91) (np_ck (np_R6 (σ 2 ((7 * x4) + x5)) ∧ np_R6 x1) (np_ck (np_R (np_cmp (σ 2 ((7 * x4) + x5)) x1)) (if np_cmp (σ 2 ((7 * x4) + x5)) x1 ≠ 0 then (f_M_isKeyWord_72 k5 k17 x1 x4 x5 σ) else (f_M_isKeyWord_68 k5 k17 x1 x4 x5 σ))))))))))))
def f_M_isKeyWord_17 (k5 : (Int → Int → Int → np_S → Option np_O)) : Nat → Int → Int → Int → Int → np_S → Option np_O
  | 0, _, _, _, _, _ => none
  | n + 1, x1, x3, x4, x5, σ => f_M_isKeyWord_17_b k5 (fun x1 x3 x4 x5 σ => f_M_isKeyWord_17 k5 n x1 x3 x4 x5 σ) x1 x3 x4 x5 σ
def f_M_isKeyWord_5_b  (k5 : (Int → Int → Int → np_S → Option np_O)) (x1 x3 x4 : Int) (σ : np_S) : Option np_O := np_ck (np_R x4 ∧ np_R (σ 0 2)) (if σ 0 2 ≤ x4 then (np_ck (x3 = 0 ∨ x3 = 1) (some (x3, σ))) else (f_M_isKeyWord_17 k5 6000 x1 x3 x4 0 σ))
def f_M_isKeyWord_5  : Nat → Int → Int → Int → np_S → Option np_O
  | 0, _, _, _, _ => none
  | n + 1, x1, x3, x4, σ => f_M_isKeyWord_5_b  (fun x1 x3 x4 σ => f_M_isKeyWord_5  n x1 x3 x4 σ) x1 x3 x4 σ
def f_M_isKeyWord  (x1 : Int) (σ : np_S) : Option np_O := f_M_isKeyWord_5 6000 x1 0 0 σ
def f_M_part  (x1 x2 : Int) (σ : np_S) : Option np_O := np_ck ((0 : Int) ≤ 84 + (σ 0 1) ∧ 84 + (σ 0 1) < 91) (np_ck ((0 : Int) ≤ 84 + ((np_st σ 1 (84 + (σ 0 1)) x1) 0 1) ∧ 84 + ((np_st σ 1 (84 + (σ 0 1)) x1) 0 1) < 91) (some ((np_st (np_st (np_st σ 1 (84 + (σ 0 1)) x1) 2 (84 + ((np_st σ 1 (84 + (σ 0 1)) x1) 0 1)) x2) 0 1 (((np_st (np_st σ 1 (84 + (σ 0 1)) x1) 2 (84 + ((np_st σ 1 (84 + (σ 0 1)) x1) 0 1)) x2) 0 1) + 1)) 0 1, (np_st (np_st (np_st σ 1 (84 + (σ 0 1)) x1) 2 (84 + ((np_st σ 1 (84 + (σ 0 1)) x1) 0 1)) x2) 0 1 (((np_st (np_st σ 1 (84 + (σ 0 1)) x1) 2 (84 + ((np_st σ 1 (84 + (σ 0 1)) x1) 0 1)) x2) 0 1) + 1)))))
def f_M_hole_84  (t0 : Int) (σ : np_S) : Option np_O := some (t0, σ)
def f_M_hole_64  (x1 t1 : Int) (σ : np_S) : Option np_O := np_ck (np_R ((np_st σ 0 0 t1) 0 0)) (if (np_st σ 0 0 t1) 0 0 ≤ 0 then ((f_M_part x1 0 (np_st σ 0 0 t1)).bind (fun o1 => f_M_hole_84 o1.1 o1.2)) else (f_M_hole_84 0 (np_st σ 0 0 t1)))
def f_M_hole_46  (x1 : Int) (σ : np_S) : Option np_O := f_M_hole_64 x1 1 σ
def f_M_hole_30  (x1 t0 : Int) (σ : np_S) : Option np_O := np_ck (np_R x1) (if x1 < 0 then (f_M_hole_46 x1 σ) else (np_ck (np_R x1 ∧ np_R 10) (if (10 : Int) < x1 then (f_M_hole_46 x1 σ) else (np_ck (np_R t0) (if t0 = 0 then (np_ck (np_R (σ 0 1) ∧ np_R 6) (if σ 0 1 ≠ 6 then (f_M_hole_64 x1 0 σ) else (f_M_hole_64 x1 2 σ))) else (f_M_hole_46 x1 σ))))))
def f_M_hole_29  (x1 : Int) (σ : np_S) : Option np_O := f_M_hole_30 x1 0 σ
def f_M_hole  (x1 : Int) (σ : np_S) : Option np_O := np_ck (np_R (σ 0 1)) (if σ 0 1 ≤ 0 then (f_M_hole_29 x1 σ) else (np_ck ((0 : Int) ≤ (84 + (σ 0 1)) - 1 ∧ (84 + (σ 0 1)) - 1 < 91) (np_ck (np_R (σ 1 ((84 + (σ 0 1)) - 1)) ∧ np_R ((-1))) (if σ 1 ((84 + (σ 0 1)) - 1) = (-1) then (f_M_hole_29 x1 σ) else (f_M_hole_30 x1 1 σ)))))
def f_M_word_87  (t0 : Int) (σ : np_S) : Option np_O := some (t0, σ)
def f_M_word_63  (x1 x3 t1 : Int) (σ : np_S) : Option np_O := np_ck (np_R ((np_st σ 0 0 t1) 0 0)) (if (np_st σ 0 0 t1) 0 0 ≤ 0 then ((f_M_lowest x1 x3 (np_st σ 0 0 t1)).bind (fun o1 => (f_M_part ((-1)) o1.1 o1.2).bind (fun o2 => f_M_word_87 o2.1 o2.2))) else (f_M_word_87 0 (np_st σ 0 0 t1)))
def f_M_word_37  (x1 x3 t0 : Int) (σ : np_S) : Option np_O := np_ck (np_R t0) (if t0 ≠ 0 then (np_ck (np_R (σ 0 1) ∧ np_R 6) (if σ 0 1 ≠ 6 then (f_M_word_63 x1 x3 0 σ) else (f_M_word_63 x1 x3 2 σ))) else (f_M_word_63 x1 x3 1 σ))
def f_M_word_36  (x1 x3 : Int) (σ : np_S) : Option np_O := f_M_word_37 x1 x3 0 σ
def f_M_word  (x1 x3 : Int) (σ : np_S) : Option np_O := (f_M_isWord x1 x3 σ).bind (fun o3 => np_ck (np_R o3.1) (if o3.1 = 0 then (f_M_word_36 x1 x3 o3.2) else ((f_M_lowest x1 x3 o3.2).bind (fun o4 => np_ck (np_R6 o4.1 ∧ np_R6 40) (np_ck (np_R (np_cmp o4.1 40)) (if np_cmp o4.1 40 = 0 then (f_M_word_36 x1 x3 o4.2) else ((f_M_lowest x1 x3 o4.2).bind (fun o5 => np_ck (np_R6 o5.1 ∧ np_R6 41) (np_ck (np_R (np_cmp o5.1 41)) (if np_cmp o5.1 41 = 0 then (f_M_word_36 x1 x3 o5.2) else (f_M_word_37 x1 x3 1 o5.2)))))))))))
def f_M_notation_101_b  (k101 : (Int → Int → np_S → Option np_O)) (x1 x3 : Int) (σ : np_S) : Option np_O := np_ck (np_R x3 ∧ np_R (σ 0 1)) (if σ 0 1 ≤ x3 then (np_ck ((0 : Int) ≤ σ 0 2 ∧ σ 0 2 < 12) (np_ck ((0 : Int) ≤ (np_st σ 3 (σ 0 2) (σ 0 1)) 0 2 ∧ (np_st σ 3 (σ 0 2) (σ 0 1)) 0 2 < 12) (some (((np_st (np_st (np_st (np_st (np_st σ 3 (σ 0 2) (σ 0 1)) 4 ((np_st σ 3 (σ 0 2) (σ 0 1)) 0 2) x1) 0 2 (((np_st (np_st σ 3 (σ 0 2) (σ 0 1)) 4 ((np_st σ 3 (σ 0 2) (σ 0 1)) 0 2) x1) 0 2) + 1)) 0 1 0) 0 18 0) 0 2) - 1, (np_st (np_st (np_st (np_st (np_st σ 3 (σ 0 2) (σ 0 1)) 4 ((np_st σ 3 (σ 0 2) (σ 0 1)) 0 2) x1) 0 2 (((np_st (np_st σ 3 (σ 0 2) (σ 0 1)) 4 ((np_st σ 3 (σ 0 2) (σ 0 1)) 0 2) x1) 0 2) + 1)) 0 1 0) 0 18 0))))) else (np_ck ((0 : Int) ≤ 84 + x3 ∧ 84 + x3 < 91) (np_ck ((0 : Int) ≤ (7 * (σ 0 2)) + x3 ∧ (7 * (σ 0 2)) + x3 < 91) (np_ck ((0 : Int) ≤ 84 + x3 ∧ 84 + x3 < 91) (np_ck ((0 : Int) ≤ (7 * ((np_st σ 1 ((7 * (σ 0 2)) + x3) (σ 1 (84 + x3))) 0 2)) + x3 ∧ (7 * ((np_st σ 1 ((7 * (σ 0 2)) + x3) (σ 1 (84 + x3))) 0 2)) + x3 < 91) (k101 x1 (x3 + 1) (np_st (np_st σ 1 ((7 * (σ 0 2)) + x3) (σ 1 (84 + x3))) 2 ((7 * ((np_st σ 1 ((7 * (σ 0 2)) + x3) (σ 1 (84 + x3))) 0 2)) + x3) ((np_st σ 1 ((7 * (σ 0 2)) + x3) (σ 1 (84 + x3))) 2 (84 + x3)))))))))
def f_M_notation_101  : Nat → Int → Int → np_S → Option np_O
  | 0, _, _, _ => none
  | n + 1, x1, x3, σ => f_M_notation_101_b  (fun x1 x3 σ => f_M_notation_101  n x1 x3 σ) x1 x3 σ
def f_M_notation_90  (x1 : Int) (σ : np_S) : Option np_O := np_ck (np_R (σ 0 0)) (if σ 0 0 ≤ 0 then (f_M_notation_101 6000 x1 0 σ) else (some (0, σ)))
def f_M_notation_74  (x1 t1 : Int) (σ : np_S) : Option np_O := np_ck (np_R ((np_st σ 0 0 t1) 0 0) ∧ np_R 1) (if (np_st σ 0 0 t1) 0 0 ≠ 1 then (f_M_notation_90 x1 (np_st σ 0 0 t1)) else (f_M_notation_90 x1 (np_st (np_st σ 0 0 t1) 0 1 0)))
def f_M_notation_56  (x1 : Int) (σ : np_S) : Option np_O := f_M_notation_74 x1 1 σ
def f_M_notation_34 (k4 : (Int → Int → Int → np_S → Option np_O)) (x1 x3 t0 : Int) (σ : np_S) : Option np_O := k4 x1 t0 (x3 + 1) σ
def f_M_notation_29 (k4 : (Int → Int → Int → np_S → Option np_O)) (x1 x3 : Int) (σ : np_S) : Option np_O := f_M_notation_34 k4 x1 x3 1 σ
def f_M_notation_4_b  (k4 : (Int → Int → Int → np_S → Option np_O)) (x1 x2 x3 : Int) (σ : np_S) : Option np_O := np_ck (np_R x3 ∧ np_R (σ 0 1)) (if σ 0 1 ≤ x3 then (np_ck (np_R x1) (if x1 < 0 then (f_M_notation_56 x1 σ) else (np_ck (np_R x1 ∧ np_R 9) (if (9 : Int) < x1 then (f_M_notation_56 x1 σ) else (np_ck (np_R x2) (if x2 ≠ 0 then (np_ck (np_R (σ 0 2) ∧ np_R 12) (if σ 0 2 ≠ 12 then (f_M_notation_74 x1 0 σ) else (f_M_notation_74 x1 2 σ))) else (f_M_notation_56 x1 σ))))))) else (np_ck (np_R x2) (if x2 ≠ 0 then (f_M_notation_29 k4 x1 x3 σ) else (np_ck ((0 : Int) ≤ 84 + x3 ∧ 84 + x3 < 91) (np_ck (np_R (σ 1 (84 + x3)) ∧ np_R ((-1))) (if σ 1 (84 + x3) ≠ (-1) then (f_M_notation_34 k4 x1 x3 0 σ) else (f_M_notation_29 k4 x1 x3 σ)))))))
def f_M_notation_4  : Nat → Int → Int → Int → np_S → Option np_O
  | 0, _, _, _, _ => none
  | n + 1, x1, x2, x3, σ => f_M_notation_4_b  (fun x1 x2 x3 σ => f_M_notation_4  n x1 x2 x3 σ) x1 x2 x3 σ
def f_M_notation  (x1 : Int) (σ : np_S) : Option np_O := f_M_notation_4 6000 x1 0 0 σ
def f_M_put_28  (σ : np_S) : Option np_O := np_ck ((0 : Int) = 0 ∨ (0 : Int) = 1) (some (0, σ))
def f_M_put_33_b  (k33 : (Int → Int → Int → np_S → Option np_O)) (x1 x3 x4 : Int) (σ : np_S) : Option np_O := np_ck (np_R x4 ∧ np_R x3) (if x3 ≤ x4 then (np_ck ((1 : Int) = 0 ∨ (1 : Int) = 1) (some (1, (np_st σ 0 8 ((σ 0 8) + x3))))) else ((f_M_byteOf x1 x3 x4 σ).bind (fun o1 => np_ck ((0 : Int) ≤ (σ 0 8) + x4 ∧ (σ 0 8) + x4 < 200) (k33 x1 x3 (x4 + 1) (np_st o1.2 5 ((σ 0 8) + x4) o1.1)))))
def f_M_put_33  : Nat → Int → Int → Int → np_S → Option np_O
  | 0, _, _, _, _ => none
  | n + 1, x1, x3, x4, σ => f_M_put_33_b  (fun x1 x3 x4 σ => f_M_put_33  n x1 x3 x4 σ) x1 x3 x4 σ
def f_M_put  (x1 x3 : Int) (σ : np_S) : Option np_O := np_ck (np_R x3 ∧ np_R 1) (if x3 < 1 then (f_M_put_28 (np_st σ 0 0 0)) else (np_ck (np_R x3 ∧ np_R 8) (if (8 : Int) < x3 then (f_M_put_28 (np_st σ 0 0 0)) else (np_ck (np_R (((np_st σ 0 0 0) 0 8) + x3) ∧ np_R 200) (if ((np_st σ 0 0 0) 0 8) + x3 ≤ 200 then (f_M_put_33 6000 x1 x3 0 (np_st σ 0 0 0)) else (f_M_put_28 (np_st σ 0 0 0)))))))
def f_M_clear  (σ : np_S) : Option np_O := some (0, (np_st (np_st σ 0 0 0) 0 8 0))
def f_M_takeWords_37 (k7 : (Int → np_S → Option np_O)) (x1 : Int) (σ : np_S) : Option np_O := k7 (x1 + 1) σ
def f_M_takeWords_110  (x1 : Int) (σ : np_S) : Option np_O := some (x1, σ)
def f_M_takeWords_118_b (k7 : (Int → np_S → Option np_O)) (k118 : (Int → Int → Int → Int → np_S → Option np_O)) (x1 x3 x4 x6 : Int) (σ : np_S) : Option np_O := np_ck (np_R x6 ∧ np_R x3) (if x3 ≤ x6 then (np_ck ((0 : Int) ≤ σ 0 11 ∧ σ 0 11 < 31) (np_ck ((0 : Int) ≤ (np_st σ 6 (σ 0 11) x4) 0 11 ∧ (np_st σ 6 (σ 0 11) x4) 0 11 < 31) (k7 x3 (np_st (np_st (np_st σ 6 (σ 0 11) x4) 7 ((np_st σ 6 (σ 0 11) x4) 0 11) x1) 0 11 (((np_st (np_st σ 6 (σ 0 11) x4) 7 ((np_st σ 6 (σ 0 11) x4) 0 11) x1) 0 11) + 1))))) else (np_ck ((0 : Int) ≤ x6 ∧ x6 < 200) (np_ck (np_R (σ 5 x6)) (k118 x1 x3 (np_orl (np_shll x4 8) (σ 5 x6)) (x6 + 1) σ))))
def f_M_takeWords_118 (k7 : (Int → np_S → Option np_O)) : Nat → Int → Int → Int → Int → np_S → Option np_O
  | 0, _, _, _, _, _ => none
  | n + 1, x1, x3, x4, x6, σ => f_M_takeWords_118_b k7 (fun x1 x3 x4 x6 σ => f_M_takeWords_118 k7 n x1 x3 x4 x6 σ) x1 x3 x4 x6 σ
def f_M_takeWords_89 (k7 : (Int → np_S → Option np_O)) (x1 x2 x3 : Int) (σ : np_S) : Option np_O := np_ck (np_R x2) (if x2 = 0 then (f_M_takeWords_110 x1 σ) else (np_ck (np_R (x3 - x1) ∧ np_R 8) (if (8 : Int) < x3 - x1 then (f_M_takeWords_110 x1 σ) else (np_ck (np_R (σ 0 11) ∧ np_R 30) (if σ 0 11 ≠ 30 then (f_M_takeWords_118 k7 6000 x1 x3 0 x1 σ) else (f_M_takeWords_110 x1 σ))))))
def f_M_takeWords_57_b (k7 : (Int → np_S → Option np_O)) (k57 : (Int → Int → Int → np_S → Option np_O)) (x1 x2 x3 : Int) (σ : np_S) : Option np_O := np_ck (np_R x2 ∧ np_R 4) (if (4 : Int) ≤ x2 then (f_M_takeWords_89 k7 x1 x2 x3 σ) else (np_ck (np_R x3 ∧ np_R (σ 0 8)) (if σ 0 8 ≤ x3 then (f_M_takeWords_89 k7 x1 x2 x3 σ) else (np_ck ((0 : Int) ≤ x3 ∧ x3 < 200) ((f_M_sort (σ 5 x3) σ).bind (fun o1 => np_ck (np_R o1.1 ∧ np_R x2) (if o1.1 ≠ x2 then (f_M_takeWords_89 k7 x1 x2 x3 o1.2) else (k57 x1 x2 (x3 + 1) o1.2))))))))
def f_M_takeWords_57 (k7 : (Int → np_S → Option np_O)) : Nat → Int → Int → Int → np_S → Option np_O
  | 0, _, _, _, _ => none
  | n + 1, x1, x2, x3, σ => f_M_takeWords_57_b k7 (fun x1 x2 x3 σ => f_M_takeWords_57 k7 n x1 x2 x3 σ) x1 x2 x3 σ
def f_M_takeWords_7_b  (k7 : (Int → np_S → Option np_O)) (x1 : Int) (σ : np_S) : Option np_O := np_ck (np_R x1 ∧ np_R (σ 0 8)) (if σ 0 8 ≤ x1 then (some ((-1), σ)) else (np_ck ((0 : Int) ≤ x1 ∧ x1 < 200) (np_ck (np_R (σ 5 x1) ∧ np_R 32) (if σ 5 x1 = 32 then (f_M_takeWords_37 k7 x1 σ) else (np_ck ((0 : Int) ≤ x1 ∧ x1 < 200) (np_ck (np_R (σ 5 x1) ∧ np_R 10) (if σ 5 x1 ≠ 10 then (np_ck ((0 : Int) ≤ x1 ∧ x1 < 200) ((f_M_sort (σ 5 x1) σ).bind (fun o2 => f_M_takeWords_57 k7 6000 x1 o2.1 (x1 + 1) o2.2))) else (f_M_takeWords_37 k7 x1 σ))))))))
def f_M_takeWords_7  : Nat → Int → np_S → Option np_O
  | 0, _, _ => none
  | n + 1, x1, σ => f_M_takeWords_7_b  (fun x1 σ => f_M_takeWords_7  n x1 σ) x1 σ
def f_M_takeWords  (σ : np_S) : Option np_O := f_M_takeWords_7 6000 0 (np_st σ 0 11 0)
def f_M_isAtom_42  (t0 : Int) (σ : np_S) : Option np_O := np_ck (t0 = 0 ∨ t0 = 1) (some (t0, σ))
def f_M_isAtom_41  (σ : np_S) : Option np_O := f_M_isAtom_42 0 σ
def f_M_isAtom  (x1 : Int) (σ : np_S) : Option np_O := np_ck ((0 : Int) ≤ x1 ∧ x1 < 31) ((f_M_sort (np_andl (σ 6 x1) 255) σ).bind (fun o1 => np_ck (np_R o1.1) (if o1.1 ≤ 0 then (f_M_isAtom_41 o1.2) else (np_ck (np_R o1.1 ∧ np_R 3) (if (3 : Int) ≤ o1.1 then (f_M_isAtom_41 o1.2) else (np_ck ((0 : Int) ≤ x1 ∧ x1 < 31) ((f_M_isKeyWord (o1.2 6 x1) o1.2).bind (fun o2 => np_ck (np_R o2.1) (if o2.1 ≠ 0 then (f_M_isAtom_41 o2.2) else (f_M_isAtom_42 1 o2.2))))))))))
def f_M_is_25  (t0 : Int) (σ : np_S) : Option np_O := np_ck (t0 = 0 ∨ t0 = 1) (some (t0, σ))
def f_M_is_24  (σ : np_S) : Option np_O := f_M_is_25 0 σ
def f_M_is  (x1 x2 : Int) (σ : np_S) : Option np_O := np_ck (np_R x1 ∧ np_R (σ 0 11)) (if σ 0 11 ≤ x1 then (f_M_is_24 σ) else (np_ck ((0 : Int) ≤ x1 ∧ x1 < 31) (np_ck (np_R x2) (np_ck (np_R6 (σ 6 x1) ∧ np_R6 x2) (np_ck (np_R (np_cmp (σ 6 x1) x2)) (if np_cmp (σ 6 x1) x2 ≠ 0 then (f_M_is_24 σ) else (f_M_is_25 1 σ)))))))
def f_M_less_15  (t0 : Int) (σ : np_S) : Option np_O := some (t0, σ)
def f_M_less  (x0 : Int) (σ : np_S) : Option np_O := np_ck (np_R6 x0 ∧ np_R6 1000000) (np_ck (np_R (np_cmp x0 1000000)) (if np_cmp x0 1000000 ≤ 0 then (f_M_less_15 x0 σ) else (f_M_less_15 1000000 σ)))
def f_M_cell  (x0 x1 x2 : Int) (σ : np_S) : Option np_O := some ((((x0 * 31) + x1) * 31) + x2, σ)
def f_M_waysOf_94_b  (k94 : (Int → Int → Int → Int → Int → np_S → Option np_O)) (x3 x4 x5 x6 x8 : Int) (σ : np_S) : Option np_O := np_ck (np_R x8 ∧ np_R x4) (if x4 < x8 then (some (x6, σ)) else (np_ck ((0 : Int) ≤ x5 ∧ x5 < 91) ((f_M_cell (σ 1 x5) x3 x8 σ).bind (fun o1 => np_ck ((0 : Int) ≤ o1.1 ∧ o1.1 < 10571) (np_ck (np_R (o1.2 8 o1.1)) ((f_M_cell (x5 + 1) x8 x4 o1.2).bind (fun o2 => np_ck ((0 : Int) ≤ o2.1 ∧ o2.1 < 80724) (np_ck (np_R (o2.2 9 o2.1)) ((f_M_less (x6 + ((o1.2 8 o1.1) * (o2.2 9 o2.1))) o2.2).bind (fun o3 => np_ck (np_R o3.1) (k94 x3 x4 x5 o3.1 (x8 + 1) o3.2)))))))))))
def f_M_waysOf_94  : Nat → Int → Int → Int → Int → Int → np_S → Option np_O
  | 0, _, _, _, _, _, _ => none
  | n + 1, x3, x4, x5, x6, x8, σ => f_M_waysOf_94_b  (fun x3 x4 x5 x6 x8 σ => f_M_waysOf_94  n x3 x4 x5 x6 x8 σ) x3 x4 x5 x6 x8 σ
def f_M_waysOf_85  (t0 : Int) (σ : np_S) : Option np_O := some (t0, σ)
def f_M_waysOf_84  (σ : np_S) : Option np_O := f_M_waysOf_85 0 σ
def f_M_waysOf_29  (t0 : Int) (σ : np_S) : Option np_O := some (t0, σ)
def f_M_waysOf  (x1 x2 x3 x4 : Int) (σ : np_S) : Option np_O := np_ck ((0 : Int) ≤ x1 ∧ x1 < 12) (np_ck (np_R x2 ∧ np_R (σ 3 x1)) (if x2 ≠ σ 3 x1 then (np_ck ((0 : Int) ≤ (7 * x1) + x2 ∧ (7 * x1) + x2 < 91) (np_ck (np_R (σ 1 ((7 * x1) + x2)) ∧ np_R ((-1))) (if σ 1 ((7 * x1) + x2) ≠ (-1) then (f_M_waysOf_94 6000 x3 x4 ((7 * x1) + x2) 0 (x3 + 1) σ) else (np_ck (np_R x3 ∧ np_R x4) (if x4 ≤ x3 then (f_M_waysOf_84 σ) else (np_ck ((0 : Int) ≤ x3 ∧ x3 < 31) (np_ck ((0 : Int) ≤ (7 * x1) + x2 ∧ (7 * x1) + x2 < 91) (np_ck (np_R6 (σ 6 x3) ∧ np_R6 (σ 2 ((7 * x1) + x2))) (np_ck (np_R (np_cmp (σ 6 x3) (σ 2 ((7 * x1) + x2)))) (if np_cmp (σ 6 x3) (σ 2 ((7 * x1) + x2)) ≠ 0 then (f_M_waysOf_84 σ) else ((f_M_cell (((7 * x1) + x2) + 1) (x3 + 1) x4 σ).bind (fun o4 => np_ck ((0 : Int) ≤ o4.1 ∧ o4.1 < 80724) (f_M_waysOf_85 (o4.2 9 o4.1) o4.2))))))))))))) else (np_ck (np_R x3 ∧ np_R x4) (if x3 ≠ x4 then (f_M_waysOf_29 0 σ) else (f_M_waysOf_29 1 σ)))))
def f_M_countTerms_124 (k2 : (Int → Int → Int → np_S → Option np_O)) (k83 : (Int → Int → Int → Int → Int → np_S → Option np_O)) (x1 x2 x3 x4 x6 : Int) (σ : np_S) : Option np_O := k83 x1 x2 x3 x4 (x6 + 1) σ
def f_M_countTerms_83_b (k2 : (Int → Int → Int → np_S → Option np_O)) (k83 : (Int → Int → Int → Int → Int → np_S → Option np_O)) (x1 x2 x3 x4 x6 : Int) (σ : np_S) : Option np_O := np_ck (np_R x6 ∧ np_R (σ 0 2)) (if σ 0 2 ≤ x6 then ((f_M_cell x3 x1 x2 σ).bind (fun o1 => (f_M_less x4 o1.2).bind (fun o2 => np_ck ((0 : Int) ≤ o1.1 ∧ o1.1 < 10571) (k2 x1 x2 (x3 + 1) (np_st o2.2 8 o1.1 o2.1))))) else (np_ck ((0 : Int) ≤ x6 ∧ x6 < 12) (np_ck (np_R (σ 4 x6) ∧ np_R x3) (if σ 4 x6 < x3 then (f_M_countTerms_124 k2 k83 x1 x2 x3 x4 x6 σ) else ((f_M_cell (7 * x6) x1 x2 σ).bind (fun o3 => np_ck ((0 : Int) ≤ o3.1 ∧ o3.1 < 80724) (np_ck (np_R (o3.2 9 o3.1)) (f_M_countTerms_124 k2 k83 x1 x2 x3 (x4 + (o3.2 9 o3.1)) x6 o3.2))))))))
def f_M_countTerms_83 (k2 : (Int → Int → Int → np_S → Option np_O)) : Nat → Int → Int → Int → Int → Int → np_S → Option np_O
  | 0, _, _, _, _, _, _ => none
  | n + 1, x1, x2, x3, x4, x6, σ => f_M_countTerms_83_b k2 (fun x1 x2 x3 x4 x6 σ => f_M_countTerms_83 k2 n x1 x2 x3 x4 x6 σ) x1 x2 x3 x4 x6 σ
def f_M_countTerms_80 (k2 : (Int → Int → Int → np_S → Option np_O)) (x1 x2 x3 x4 : Int) (σ : np_S) : Option np_O := f_M_countTerms_83 k2 6000 x1 x2 x3 x4 0 σ
def f_M_countTerms_28 (k2 : (Int → Int → Int → np_S → Option np_O)) (x1 x2 x3 t0 : Int) (σ : np_S) : Option np_O := np_ck (np_R x2 ∧ np_R (x1 + 2)) (if x2 ≤ x1 + 2 then (f_M_countTerms_80 k2 x1 x2 x3 t0 σ) else ((f_M_is x1 40 σ).bind (fun o4 => np_ck (np_R o4.1) (if o4.1 = 0 then (f_M_countTerms_80 k2 x1 x2 x3 t0 o4.2) else ((f_M_is (x2 - 1) 41 o4.2).bind (fun o5 => np_ck (np_R o5.1) (if o5.1 = 0 then (f_M_countTerms_80 k2 x1 x2 x3 t0 o5.2) else ((f_M_cell 0 (x1 + 1) (x2 - 1) o5.2).bind (fun o6 => np_ck ((0 : Int) ≤ o6.1 ∧ o6.1 < 10571) (np_ck (np_R (o6.2 8 o6.1)) (f_M_countTerms_80 k2 x1 x2 x3 (t0 + (o6.2 8 o6.1)) o6.2)))))))))))
def f_M_countTerms_27 (k2 : (Int → Int → Int → np_S → Option np_O)) (x1 x2 x3 : Int) (σ : np_S) : Option np_O := f_M_countTerms_28 k2 x1 x2 x3 0 σ
def f_M_countTerms_2_b  (k2 : (Int → Int → Int → np_S → Option np_O)) (x1 x2 x3 : Int) (σ : np_S) : Option np_O := np_ck (np_R x3 ∧ np_R 11) (if (11 : Int) ≤ x3 then (some (0, σ)) else (np_ck (np_R x2 ∧ np_R (x1 + 1)) (if x2 ≠ x1 + 1 then (f_M_countTerms_27 k2 x1 x2 x3 σ) else ((f_M_isAtom x1 σ).bind (fun o7 => np_ck (np_R o7.1) (if o7.1 = 0 then (f_M_countTerms_27 k2 x1 x2 x3 o7.2) else (f_M_countTerms_28 k2 x1 x2 x3 1 o7.2)))))))
def f_M_countTerms_2  : Nat → Int → Int → Int → np_S → Option np_O
  | 0, _, _, _, _ => none
  | n + 1, x1, x2, x3, σ => f_M_countTerms_2_b  (fun x1 x2 x3 σ => f_M_countTerms_2  n x1 x2 x3 σ) x1 x2 x3 σ
def f_M_countTerms  (x1 x2 : Int) (σ : np_S) : Option np_O := f_M_countTerms_2 6000 x1 x2 0 σ
def f_M_count_129_b (k24 : (Int → np_S → Option np_O)) (k34 : (Int → Int → np_S → Option np_O)) (k111 : (Int → Int → Int → Int → np_S → Option np_O)) (k129 : (Int → Int → Int → Int → Int → np_S → Option np_O)) (x1 x2 x3 x4 x5 : Int) (σ : np_S) : Option np_O := np_ck (np_R x5) (if x5 ≤ 0 then (k111 x1 x2 x3 (x4 + 1) σ) else ((f_M_cell ((7 * x4) + x5) x2 x3 σ).bind (fun o1 => (f_M_waysOf x4 x5 x2 x3 o1.2).bind (fun o2 => np_ck ((0 : Int) ≤ o1.1 ∧ o1.1 < 80724) (k129 x1 x2 x3 x4 (x5 + (-1)) (np_st o2.2 9 o1.1 o2.1))))))
def f_M_count_129 (k24 : (Int → np_S → Option np_O)) (k34 : (Int → Int → np_S → Option np_O)) (k111 : (Int → Int → Int → Int → np_S → Option np_O)) : Nat → Int → Int → Int → Int → Int → np_S → Option np_O
  | 0, _, _, _, _, _, _ => none
  | n + 1, x1, x2, x3, x4, x5, σ => f_M_count_129_b k24 k34 k111 (fun x1 x2 x3 x4 x5 σ => f_M_count_129 k24 k34 k111 n x1 x2 x3 x4 x5 σ) x1 x2 x3 x4 x5 σ
def f_M_count_111_b (k24 : (Int → np_S → Option np_O)) (k34 : (Int → Int → np_S → Option np_O)) (k111 : (Int → Int → Int → Int → np_S → Option np_O)) (x1 x2 x3 x4 : Int) (σ : np_S) : Option np_O := np_ck (np_R x4 ∧ np_R (σ 0 2)) (if σ 0 2 ≤ x4 then (k34 x1 (x2 + 1) σ) else (np_ck ((0 : Int) ≤ x4 ∧ x4 < 12) (f_M_count_129 k24 k34 k111 6000 x1 x2 x3 x4 (σ 3 x4) σ)))
def f_M_count_111 (k24 : (Int → np_S → Option np_O)) (k34 : (Int → Int → np_S → Option np_O)) : Nat → Int → Int → Int → Int → np_S → Option np_O
  | 0, _, _, _, _, _ => none
  | n + 1, x1, x2, x3, x4, σ => f_M_count_111_b k24 k34 (fun x1 x2 x3 x4 σ => f_M_count_111 k24 k34 n x1 x2 x3 x4 σ) x1 x2 x3 x4 σ
def f_M_count_108 (k24 : (Int → np_S → Option np_O)) (k34 : (Int → Int → np_S → Option np_O)) (x1 x2 x3 : Int) (σ : np_S) : Option np_O := f_M_count_111 k24 k34 6000 x1 x2 x3 0 σ
def f_M_count_91 (k24 : (Int → np_S → Option np_O)) (k34 : (Int → Int → np_S → Option np_O)) (k51 : (Int → Int → Int → Int → np_S → Option np_O)) (x1 x2 x3 x4 t1 t2 : Int) (σ : np_S) : Option np_O := np_ck ((0 : Int) ≤ t1 ∧ t1 < 80724) (k51 x1 x2 x3 (x4 + 1) (np_st σ 9 t1 t2))
def f_M_count_51_b (k24 : (Int → np_S → Option np_O)) (k34 : (Int → Int → np_S → Option np_O)) (k51 : (Int → Int → Int → Int → np_S → Option np_O)) (x1 x2 x3 x4 : Int) (σ : np_S) : Option np_O := np_ck (np_R x4 ∧ np_R (σ 0 2)) (if σ 0 2 ≤ x4 then (np_ck (np_R x1) (if x1 ≤ 0 then (f_M_count_108 k24 k34 x1 x2 x3 σ) else ((f_M_countTerms x2 x3 σ).bind (fun o3 => f_M_count_108 k24 k34 x1 x2 x3 o3.2)))) else ((f_M_cell (7 * x4) x2 x3 σ).bind (fun o4 => np_ck (np_R x1) (if x1 ≠ 0 then ((f_M_waysOf x4 0 x2 x3 o4.2).bind (fun o5 => f_M_count_91 k24 k34 k51 x1 x2 x3 x4 o4.1 o5.1 o5.2)) else (f_M_count_91 k24 k34 k51 x1 x2 x3 x4 o4.1 0 o4.2)))))
def f_M_count_51 (k24 : (Int → np_S → Option np_O)) (k34 : (Int → Int → np_S → Option np_O)) : Nat → Int → Int → Int → Int → np_S → Option np_O
  | 0, _, _, _, _, _ => none
  | n + 1, x1, x2, x3, x4, σ => f_M_count_51_b k24 k34 (fun x1 x2 x3 x4 σ => f_M_count_51 k24 k34 n x1 x2 x3 x4 σ) x1 x2 x3 x4 σ
def f_M_count_34_b (k24 : (Int → np_S → Option np_O)) (k34 : (Int → Int → np_S → Option np_O)) (x1 x2 : Int) (σ : np_S) : Option np_O := np_ck (np_R (x2 + x1) ∧ np_R (σ 0 11)) (if σ 0 11 < x2 + x1 then (k24 (x1 + 1) σ) else (f_M_count_51 k24 k34 6000 x1 x2 (x2 + x1) 0 σ))
def f_M_count_34 (k24 : (Int → np_S → Option np_O)) : Nat → Int → Int → np_S → Option np_O
  | 0, _, _, _ => none
  | n + 1, x1, x2, σ => f_M_count_34_b k24 (fun x1 x2 σ => f_M_count_34 k24 n x1 x2 σ) x1 x2 σ
def f_M_count_24_b  (k24 : (Int → np_S → Option np_O)) (x1 : Int) (σ : np_S) : Option np_O := np_ck (np_R x1 ∧ np_R (σ 0 11)) (if σ 0 11 < x1 then (some (0, σ)) else (f_M_count_34 k24 6000 x1 0 σ))
def f_M_count_24  : Nat → Int → np_S → Option np_O
  | 0, _, _ => none
  | n + 1, x1, σ => f_M_count_24_b  (fun x1 σ => f_M_count_24  n x1 σ) x1 σ
def f_M_count_2_b  (k2 : (Int → np_S → Option np_O)) (x1 : Int) (σ : np_S) : Option np_O := np_ck (np_R x1 ∧ np_R 10571) (if (10571 : Int) ≤ x1 then (f_M_count_24 6000 0 σ) else (np_ck ((0 : Int) ≤ x1 ∧ x1 < 10571) (k2 (x1 + 1) (np_st σ 8 x1 0))))
def f_M_count_2  : Nat → Int → np_S → Option np_O
  | 0, _, _ => none
  | n + 1, x1, σ => f_M_count_2_b  (fun x1 σ => f_M_count_2  n x1 σ) x1 σ
def f_M_count  (σ : np_S) : Option np_O := f_M_count_2 6000 0 σ
def f_M_mayBegin_161 (k105 : (Int → Int → Int → Int → Int → np_S → Option np_O)) (x3 x4 x5 x7 t0 : Int) (σ : np_S) : Option np_O := k105 x3 x4 x5 t0 (x7 + 1) σ
def f_M_mayBegin_156 (k105 : (Int → Int → Int → Int → Int → np_S → Option np_O)) (x3 x4 x5 x7 : Int) (σ : np_S) : Option np_O := f_M_mayBegin_161 k105 x3 x4 x5 x7 1 σ
def f_M_mayBegin_160 (k105 : (Int → Int → Int → Int → Int → np_S → Option np_O)) (x3 x4 x5 x7 : Int) (σ : np_S) : Option np_O := f_M_mayBegin_161 k105 x3 x4 x5 x7 0 σ
def f_M_mayBegin_105_b  (k105 : (Int → Int → Int → Int → Int → np_S → Option np_O)) (x3 x4 x5 x6 x7 : Int) (σ : np_S) : Option np_O := np_ck (np_R x7 ∧ np_R x4) (if x4 < x7 then (np_ck (x6 = 0 ∨ x6 = 1) (some (x6, σ))) else (np_ck (np_R x6) (if x6 ≠ 0 then (f_M_mayBegin_156 k105 x3 x4 x5 x7 σ) else (np_ck ((0 : Int) ≤ x5 ∧ x5 < 91) ((f_M_cell (σ 1 x5) x3 x7 σ).bind (fun o1 => np_ck ((0 : Int) ≤ o1.1 ∧ o1.1 < 10571) (np_ck (np_R (o1.2 8 o1.1)) (if o1.2 8 o1.1 ≤ 0 then (f_M_mayBegin_160 k105 x3 x4 x5 x7 o1.2) else (np_ck ((0 : Int) ≤ (31 * (x5 + 1)) + x7 ∧ (31 * (x5 + 1)) + x7 < 2604) (np_ck (np_R (o1.2 11 ((31 * (x5 + 1)) + x7))) (if o1.2 11 ((31 * (x5 + 1)) + x7) = 0 then (f_M_mayBegin_160 k105 x3 x4 x5 x7 o1.2) else (f_M_mayBegin_156 k105 x3 x4 x5 x7 o1.2))))))))))))
def f_M_mayBegin_105  : Nat → Int → Int → Int → Int → Int → np_S → Option np_O
  | 0, _, _, _, _, _, _ => none
  | n + 1, x3, x4, x5, x6, x7, σ => f_M_mayBegin_105_b  (fun x3 x4 x5 x6 x7 σ => f_M_mayBegin_105  n x3 x4 x5 x6 x7 σ) x3 x4 x5 x6 x7 σ
def f_M_mayBegin_80  (t0 : Int) (σ : np_S) : Option np_O := np_ck (t0 = 0 ∨ t0 = 1) (some (t0, σ))
def f_M_mayBegin_79  (σ : np_S) : Option np_O := f_M_mayBegin_80 0 σ
def f_M_mayBegin  (x1 x2 x3 x4 : Int) (σ : np_S) : Option np_O := np_ck (np_R x3 ∧ np_R x4) (if x3 ≠ x4 then (np_ck ((0 : Int) ≤ x1 ∧ x1 < 12) (np_ck (np_R x2 ∧ np_R (σ 3 x1)) (if x2 ≠ σ 3 x1 then (np_ck ((0 : Int) ≤ (7 * x1) + x2 ∧ (7 * x1) + x2 < 91) (np_ck (np_R (σ 1 ((7 * x1) + x2)) ∧ np_R ((-1))) (if σ 1 ((7 * x1) + x2) ≠ (-1) then (np_ck ((0 : Int) ≤ (7 * x1) + x2 ∧ (7 * x1) + x2 < 91) (np_ck ((0 : Int) ≤ (31 * (σ 1 ((7 * x1) + x2))) + x3 ∧ (31 * (σ 1 ((7 * x1) + x2))) + x3 < 341) (f_M_mayBegin_105 6000 x3 x4 ((7 * x1) + x2) (σ 10 ((31 * (σ 1 ((7 * x1) + x2))) + x3)) (x3 + 1) σ))) else (np_ck ((0 : Int) ≤ x3 ∧ x3 < 31) (np_ck ((0 : Int) ≤ (7 * x1) + x2 ∧ (7 * x1) + x2 < 91) (np_ck (np_R6 (σ 6 x3) ∧ np_R6 (σ 2 ((7 * x1) + x2))) (np_ck (np_R (np_cmp (σ 6 x3) (σ 2 ((7 * x1) + x2)))) (if np_cmp (σ 6 x3) (σ 2 ((7 * x1) + x2)) ≠ 0 then (f_M_mayBegin_79 σ) else (np_ck ((0 : Int) ≤ ((31 * (((7 * x1) + x2) + 1)) + x3) + 1 ∧ ((31 * (((7 * x1) + x2) + 1)) + x3) + 1 < 2604) (np_ck (np_R (σ 11 (((31 * (((7 * x1) + x2) + 1)) + x3) + 1))) (if σ 11 (((31 * (((7 * x1) + x2) + 1)) + x3) + 1) = 0 then (f_M_mayBegin_79 σ) else (f_M_mayBegin_80 1 σ)))))))))))) else (np_ck ((0 : Int) = 0 ∨ (0 : Int) = 1) (some (0, σ)))))) else (np_ck ((1 : Int) = 0 ∨ (1 : Int) = 1) (some (1, σ))))
def f_M_mayBeTerm_149 (k107 : (Int → Int → Int → Int → Int → np_S → Option np_O)) (x1 x2 x3 x5 t0 : Int) (σ : np_S) : Option np_O := k107 x1 x2 x3 t0 (x5 + 1) σ
def f_M_mayBeTerm_144 (k107 : (Int → Int → Int → Int → Int → np_S → Option np_O)) (x1 x2 x3 x5 : Int) (σ : np_S) : Option np_O := f_M_mayBeTerm_149 k107 x1 x2 x3 x5 1 σ
def f_M_mayBeTerm_148 (k107 : (Int → Int → Int → Int → Int → np_S → Option np_O)) (x1 x2 x3 x5 : Int) (σ : np_S) : Option np_O := f_M_mayBeTerm_149 k107 x1 x2 x3 x5 0 σ
def f_M_mayBeTerm_107_b  (k107 : (Int → Int → Int → Int → Int → np_S → Option np_O)) (x1 x2 x3 x4 x5 : Int) (σ : np_S) : Option np_O := np_ck (np_R x5 ∧ np_R (σ 0 2)) (if σ 0 2 ≤ x5 then (np_ck (x4 = 0 ∨ x4 = 1) (some (x4, σ))) else (np_ck (np_R x4) (if x4 ≠ 0 then (f_M_mayBeTerm_144 k107 x1 x2 x3 x5 σ) else (np_ck ((0 : Int) ≤ x5 ∧ x5 < 12) (np_ck (np_R (σ 4 x5) ∧ np_R x1) (if σ 4 x5 < x1 then (f_M_mayBeTerm_148 k107 x1 x2 x3 x5 σ) else ((f_M_mayBegin x5 0 x2 x3 σ).bind (fun o1 => np_ck (np_R o1.1) (if o1.1 = 0 then (f_M_mayBeTerm_148 k107 x1 x2 x3 x5 o1.2) else (f_M_mayBeTerm_144 k107 x1 x2 x3 x5 o1.2))))))))))
def f_M_mayBeTerm_107  : Nat → Int → Int → Int → Int → Int → np_S → Option np_O
  | 0, _, _, _, _, _, _ => none
  | n + 1, x1, x2, x3, x4, x5, σ => f_M_mayBeTerm_107_b  (fun x1 x2 x3 x4 x5 σ => f_M_mayBeTerm_107  n x1 x2 x3 x4 x5 σ) x1 x2 x3 x4 x5 σ
def f_M_mayBeTerm_104  (x1 x2 x3 x4 : Int) (σ : np_S) : Option np_O := f_M_mayBeTerm_107 6000 x1 x2 x3 x4 0 σ
def f_M_mayBeTerm_102  (x1 x2 x3 t0 : Int) (σ : np_S) : Option np_O := f_M_mayBeTerm_104 x1 x2 x3 t0 σ
def f_M_mayBeTerm_97  (x1 x2 x3 : Int) (σ : np_S) : Option np_O := f_M_mayBeTerm_102 x1 x2 x3 1 σ
def f_M_mayBeTerm_101  (x1 x2 x3 : Int) (σ : np_S) : Option np_O := f_M_mayBeTerm_102 x1 x2 x3 0 σ
def f_M_mayBeTerm_53  (x1 x2 x3 t0 : Int) (σ : np_S) : Option np_O := np_ck (np_R t0) (if t0 ≠ 0 then (f_M_mayBeTerm_97 x1 x2 x3 σ) else ((f_M_is (x3 - 1) 41 σ).bind (fun o2 => np_ck (np_R o2.1) (if o2.1 = 0 then (f_M_mayBeTerm_101 x1 x2 x3 o2.2) else (np_ck (np_R x3 ∧ np_R (x2 + 2)) (if x3 ≤ x2 + 2 then (f_M_mayBeTerm_101 x1 x2 x3 o2.2) else ((f_M_cell 0 (x2 + 1) (x3 - 1) o2.2).bind (fun o3 => np_ck ((0 : Int) ≤ o3.1 ∧ o3.1 < 10571) (np_ck (np_R (o3.2 8 o3.1)) (if o3.2 8 o3.1 ≤ 0 then (f_M_mayBeTerm_101 x1 x2 x3 o3.2) else (f_M_mayBeTerm_97 x1 x2 x3 o3.2)))))))))))
def f_M_mayBeTerm_48  (x1 x2 x3 : Int) (σ : np_S) : Option np_O := f_M_mayBeTerm_53 x1 x2 x3 1 σ
def f_M_mayBeTerm_20  (x1 x2 x3 t0 : Int) (σ : np_S) : Option np_O := (f_M_is x2 40 σ).bind (fun o4 => np_ck (np_R o4.1) (if o4.1 = 0 then (f_M_mayBeTerm_104 x1 x2 x3 t0 o4.2) else (np_ck (np_R t0) (if t0 ≠ 0 then (f_M_mayBeTerm_48 x1 x2 x3 o4.2) else (np_ck ((0 : Int) ≤ x2 + 1 ∧ x2 + 1 < 341) (np_ck (np_R (o4.2 10 (x2 + 1))) (if o4.2 10 (x2 + 1) = 0 then (f_M_mayBeTerm_53 x1 x2 x3 0 o4.2) else (f_M_mayBeTerm_48 x1 x2 x3 o4.2))))))))
def f_M_mayBeTerm_19  (x1 x2 x3 : Int) (σ : np_S) : Option np_O := f_M_mayBeTerm_20 x1 x2 x3 0 σ
def f_M_mayBeTerm  (x1 x2 x3 : Int) (σ : np_S) : Option np_O := np_ck (np_R x3 ∧ np_R (x2 + 1)) (if x3 ≠ x2 + 1 then (f_M_mayBeTerm_19 x1 x2 x3 σ) else ((f_M_isAtom x2 σ).bind (fun o5 => np_ck (np_R o5.1) (if o5.1 = 0 then (f_M_mayBeTerm_19 x1 x2 x3 o5.2) else (f_M_mayBeTerm_20 x1 x2 x3 1 o5.2)))))
def f_M_canBegin_192_b (k125 : (Int → Int → np_S → Option np_O)) (k181 : (Int → Int → Int → np_S → Option np_O)) (k192 : (Int → Int → Int → Int → np_S → Option np_O)) (x1 x2 x3 x4 : Int) (σ : np_S) : Option np_O := np_ck ((0 : Int) ≤ x3 ∧ x3 < 12) (np_ck (np_R x4 ∧ np_R (σ 3 x3)) (if σ 3 x3 < x4 then (k181 x1 x2 (x3 + 1) σ) else ((f_M_mayBegin x3 x4 x2 x1 σ).bind (fun o1 => np_ck (((0 : Int) ≤ (31 * ((7 * x3) + x4)) + x2 ∧ (31 * ((7 * x3) + x4)) + x2 < 2604) ∧ (o1.1 = 0 ∨ o1.1 = 1)) (k192 x1 x2 x3 (x4 + 1) (np_st o1.2 11 ((31 * ((7 * x3) + x4)) + x2) o1.1))))))
def f_M_canBegin_192 (k125 : (Int → Int → np_S → Option np_O)) (k181 : (Int → Int → Int → np_S → Option np_O)) : Nat → Int → Int → Int → Int → np_S → Option np_O
  | 0, _, _, _, _, _ => none
  | n + 1, x1, x2, x3, x4, σ => f_M_canBegin_192_b k125 k181 (fun x1 x2 x3 x4 σ => f_M_canBegin_192 k125 k181 n x1 x2 x3 x4 σ) x1 x2 x3 x4 σ
def f_M_canBegin_181_b (k125 : (Int → Int → np_S → Option np_O)) (k181 : (Int → Int → Int → np_S → Option np_O)) (x1 x2 x3 : Int) (σ : np_S) : Option np_O := np_ck (np_R x3 ∧ np_R (σ 0 2)) (if σ 0 2 ≤ x3 then (k125 x1 (x2 + (-1)) σ) else (f_M_canBegin_192 k125 k181 6000 x1 x2 x3 0 σ))
def f_M_canBegin_181 (k125 : (Int → Int → np_S → Option np_O)) : Nat → Int → Int → Int → np_S → Option np_O
  | 0, _, _, _, _ => none
  | n + 1, x1, x2, x3, σ => f_M_canBegin_181_b k125 (fun x1 x2 x3 σ => f_M_canBegin_181 k125 n x1 x2 x3 σ) x1 x2 x3 σ
def f_M_canBegin_140_b (k125 : (Int → Int → np_S → Option np_O)) (k131 : (Int → Int → Int → np_S → Option np_O)) (k140 : (Int → Int → Int → Int → np_S → Option np_O)) (x1 x2 x3 x4 : Int) (σ : np_S) : Option np_O := np_ck (np_R x4 ∧ np_R 11) (if (11 : Int) ≤ x4 then (k131 x1 x2 (x3 + 1) σ) else ((f_M_mayBeTerm x4 x2 x1 σ).bind (fun o2 => np_ck (((0 : Int) ≤ (31 * x4) + x2 ∧ (31 * x4) + x2 < 341) ∧ (o2.1 = 0 ∨ o2.1 = 1)) (k140 x1 x2 x3 (x4 + 1) (np_st o2.2 10 ((31 * x4) + x2) o2.1)))))
def f_M_canBegin_140 (k125 : (Int → Int → np_S → Option np_O)) (k131 : (Int → Int → Int → np_S → Option np_O)) : Nat → Int → Int → Int → Int → np_S → Option np_O
  | 0, _, _, _, _, _ => none
  | n + 1, x1, x2, x3, x4, σ => f_M_canBegin_140_b k125 k131 (fun x1 x2 x3 x4 σ => f_M_canBegin_140 k125 k131 n x1 x2 x3 x4 σ) x1 x2 x3 x4 σ
def f_M_canBegin_131_b (k125 : (Int → Int → np_S → Option np_O)) (k131 : (Int → Int → Int → np_S → Option np_O)) (x1 x2 x3 : Int) (σ : np_S) : Option np_O := np_ck (np_R x3 ∧ np_R 11) (if (11 : Int) ≤ x3 then (f_M_canBegin_181 k125 6000 x1 x2 0 σ) else (f_M_canBegin_140 k125 k131 6000 x1 x2 x3 0 σ))
def f_M_canBegin_131 (k125 : (Int → Int → np_S → Option np_O)) : Nat → Int → Int → Int → np_S → Option np_O
  | 0, _, _, _, _ => none
  | n + 1, x1, x2, x3, σ => f_M_canBegin_131_b k125 (fun x1 x2 x3 σ => f_M_canBegin_131 k125 n x1 x2 x3 σ) x1 x2 x3 σ
def f_M_canBegin_125_b  (k125 : (Int → Int → np_S → Option np_O)) (x1 x2 : Int) (σ : np_S) : Option np_O := np_ck (np_R x2) (if x2 < 0 then (np_ck ((0 : Int) ≤ 0 ∧ (0 : Int) < 341) (np_ck (σ 10 0 = 0 ∨ σ 10 0 = 1) (some (σ 10 0, σ)))) else (f_M_canBegin_131 k125 6000 x1 x2 0 σ))
def f_M_canBegin_125  : Nat → Int → Int → np_S → Option np_O
  | 0, _, _, _ => none
  | n + 1, x1, x2, σ => f_M_canBegin_125_b  (fun x1 x2 σ => f_M_canBegin_125  n x1 x2 σ) x1 x2 σ
def f_M_canBegin_82_b (k72 : (Int → Int → np_S → Option np_O)) (k82 : (Int → Int → Int → np_S → Option np_O)) (x1 x2 x3 : Int) (σ : np_S) : Option np_O := np_ck ((0 : Int) ≤ x2 ∧ x2 < 12) (np_ck (np_R x3 ∧ np_R (σ 3 x2)) (if σ 3 x2 < x3 then (k72 x1 (x2 + 1) σ) else (np_ck (((0 : Int) ≤ (31 * ((7 * x2) + x3)) + x1 ∧ (31 * ((7 * x2) + x3)) + x1 < 2604) ∧ ((1 : Int) = 0 ∨ (1 : Int) = 1)) (k82 x1 x2 (x3 + 1) (np_st σ 11 ((31 * ((7 * x2) + x3)) + x1) 1)))))
def f_M_canBegin_82 (k72 : (Int → Int → np_S → Option np_O)) : Nat → Int → Int → Int → np_S → Option np_O
  | 0, _, _, _, _ => none
  | n + 1, x1, x2, x3, σ => f_M_canBegin_82_b k72 (fun x1 x2 x3 σ => f_M_canBegin_82 k72 n x1 x2 x3 σ) x1 x2 x3 σ
def f_M_canBegin_72_b  (k72 : (Int → Int → np_S → Option np_O)) (x1 x2 : Int) (σ : np_S) : Option np_O := np_ck (np_R x2 ∧ np_R (σ 0 2)) (if σ 0 2 ≤ x2 then (f_M_canBegin_125 6000 x1 (x1 - 1) σ) else (f_M_canBegin_82 k72 6000 x1 x2 0 σ))
def f_M_canBegin_72  : Nat → Int → Int → np_S → Option np_O
  | 0, _, _, _ => none
  | n + 1, x1, x2, σ => f_M_canBegin_72_b  (fun x1 x2 σ => f_M_canBegin_72  n x1 x2 σ) x1 x2 σ
def f_M_canBegin_46_b  (k46 : (Int → Int → np_S → Option np_O)) (x1 x2 : Int) (σ : np_S) : Option np_O := np_ck (np_R x2 ∧ np_R 11) (if (11 : Int) ≤ x2 then (f_M_canBegin_72 6000 x1 0 σ) else (np_ck (((0 : Int) ≤ (31 * x2) + x1 ∧ (31 * x2) + x1 < 341) ∧ ((1 : Int) = 0 ∨ (1 : Int) = 1)) (k46 x1 (x2 + 1) (np_st σ 10 ((31 * x2) + x1) 1))))
def f_M_canBegin_46  : Nat → Int → Int → np_S → Option np_O
  | 0, _, _, _ => none
  | n + 1, x1, x2, σ => f_M_canBegin_46_b  (fun x1 x2 σ => f_M_canBegin_46  n x1 x2 σ) x1 x2 σ
def f_M_canBegin_24_b  (k24 : (Int → Int → np_S → Option np_O)) (x1 x2 : Int) (σ : np_S) : Option np_O := np_ck (np_R x2 ∧ np_R 341) (if (341 : Int) ≤ x2 then (f_M_canBegin_46 6000 x1 0 σ) else (np_ck (((0 : Int) ≤ x2 ∧ x2 < 341) ∧ ((0 : Int) = 0 ∨ (0 : Int) = 1)) (k24 x1 (x2 + 1) (np_st σ 10 x2 0))))
def f_M_canBegin_24  : Nat → Int → Int → np_S → Option np_O
  | 0, _, _, _ => none
  | n + 1, x1, x2, σ => f_M_canBegin_24_b  (fun x1 x2 σ => f_M_canBegin_24  n x1 x2 σ) x1 x2 σ
def f_M_canBegin_2_b  (k2 : (Int → Int → np_S → Option np_O)) (x1 x2 : Int) (σ : np_S) : Option np_O := np_ck (np_R x2 ∧ np_R 2604) (if (2604 : Int) ≤ x2 then (f_M_canBegin_24 6000 x1 0 σ) else (np_ck (((0 : Int) ≤ x2 ∧ x2 < 2604) ∧ ((0 : Int) = 0 ∨ (0 : Int) = 1)) (k2 x1 (x2 + 1) (np_st σ 11 x2 0))))
def f_M_canBegin_2  : Nat → Int → Int → np_S → Option np_O
  | 0, _, _, _ => none
  | n + 1, x1, x2, σ => f_M_canBegin_2_b  (fun x1 x2 σ => f_M_canBegin_2  n x1 x2 σ) x1 x2 σ
def f_M_canBegin  (x1 : Int) (σ : np_S) : Option np_O := f_M_canBegin_2 6000 x1 0 σ
def f_M_faulty  (x1 x2 : Int) (σ : np_S) : Option np_O := some (0, (np_st (np_st (np_st σ 0 9 x1) 0 10 x2) 0 0 1))
def f_M_change  (x1 x2 : Int) (σ : np_S) : Option np_O := np_ck ((0 : Int) ≤ x1 ∧ x1 < 80) (np_ck ((0 : Int) ≤ x1 ∧ x1 < 80) (np_ck ((0 : Int) ≤ x1 ∧ x1 < 80) (np_ck ((0 : Int) ≤ x2 ∧ x2 < 80) (np_ck ((0 : Int) ≤ x1 ∧ x1 < 80) (np_ck ((0 : Int) ≤ x2 ∧ x2 < 80) (np_ck ((0 : Int) ≤ x1 ∧ x1 < 80) (np_ck ((0 : Int) ≤ x2 ∧ x2 < 80) (np_ck ((0 : Int) ≤ x1 ∧ x1 < 80) (np_ck ((0 : Int) ≤ x2 ∧ x2 < 80) (np_ck ((0 : Int) ≤ x2 ∧ x2 < 80) (np_ck ((0 : Int) ≤ x2 ∧ x2 < 80) (some (0, (np_st (np_st (np_st (np_st (np_st (np_st σ 16 x1 (σ 16 x2)) 17 x1 ((np_st σ 16 x1 (σ 16 x2)) 17 x2)) 18 x1 ((np_st (np_st σ 16 x1 (σ 16 x2)) 17 x1 ((np_st σ 16 x1 (σ 16 x2)) 17 x2)) 18 x2)) 16 x2 (σ 16 x1)) 17 x2 (σ 17 x1)) 18 x2 (σ 18 x1)))))))))))))))
def f_M_later  (x1 x2 x3 x4 : Int) (σ : np_S) : Option np_O := np_ck ((0 : Int) ≤ σ 0 27 ∧ σ 0 27 < 80) (np_ck ((0 : Int) ≤ (np_st σ 16 (σ 0 27) x1) 0 27 ∧ (np_st σ 16 (σ 0 27) x1) 0 27 < 80) (np_ck ((0 : Int) ≤ (np_st (np_st σ 16 (σ 0 27) x1) 17 ((np_st σ 16 (σ 0 27) x1) 0 27) x2) 0 27 ∧ (np_st (np_st σ 16 (σ 0 27) x1) 17 ((np_st σ 16 (σ 0 27) x1) 0 27) x2) 0 27 < 80) (np_ck ((0 : Int) ≤ (np_st (np_st (np_st σ 16 (σ 0 27) x1) 17 ((np_st σ 16 (σ 0 27) x1) 0 27) x2) 18 ((np_st (np_st σ 16 (σ 0 27) x1) 17 ((np_st σ 16 (σ 0 27) x1) 0 27) x2) 0 27) x3) 0 27 ∧ (np_st (np_st (np_st σ 16 (σ 0 27) x1) 17 ((np_st σ 16 (σ 0 27) x1) 0 27) x2) 18 ((np_st (np_st σ 16 (σ 0 27) x1) 17 ((np_st σ 16 (σ 0 27) x1) 0 27) x2) 0 27) x3) 0 27 < 80) (some (0, (np_st (np_st (np_st (np_st (np_st σ 16 (σ 0 27) x1) 17 ((np_st σ 16 (σ 0 27) x1) 0 27) x2) 18 ((np_st (np_st σ 16 (σ 0 27) x1) 17 ((np_st σ 16 (σ 0 27) x1) 0 27) x2) 0 27) x3) 19 ((np_st (np_st (np_st σ 16 (σ 0 27) x1) 17 ((np_st σ 16 (σ 0 27) x1) 0 27) x2) 18 ((np_st (np_st σ 16 (σ 0 27) x1) 17 ((np_st σ 16 (σ 0 27) x1) 0 27) x2) 0 27) x3) 0 27) x4) 0 27 (((np_st (np_st (np_st (np_st σ 16 (σ 0 27) x1) 17 ((np_st σ 16 (σ 0 27) x1) 0 27) x2) 18 ((np_st (np_st σ 16 (σ 0 27) x1) 17 ((np_st σ 16 (σ 0 27) x1) 0 27) x2) 0 27) x3) 19 ((np_st (np_st (np_st σ 16 (σ 0 27) x1) 17 ((np_st σ 16 (σ 0 27) x1) 0 27) x2) 18 ((np_st (np_st σ 16 (σ 0 27) x1) 17 ((np_st σ 16 (σ 0 27) x1) 0 27) x2) 0 27) x3) 0 27) x4) 0 27) + 1)))))))
def f_M_fillHoles_168_b  (k168 : (Int → Int → np_S → Option np_O)) (x5 x6 : Int) (σ : np_S) : Option np_O := np_ck (np_R x5 ∧ np_R x6) (if x6 ≤ x5 then (some (0, σ)) else ((f_M_change x5 x6 σ).bind (fun o1 => k168 (x5 + 1) (x6 + (-1)) o1.2)))
def f_M_fillHoles_168  : Nat → Int → Int → np_S → Option np_O
  | 0, _, _, _ => none
  | n + 1, x5, x6, σ => f_M_fillHoles_168_b  (fun x5 x6 σ => f_M_fillHoles_168  n x5 x6 σ) x5 x6 σ
def f_M_fillHoles_148 (k30 : (Int → Int → Int → Int → Int → np_S → Option np_O)) (x1 x2 x4 x5 x7 : Int) (σ : np_S) : Option np_O := k30 x1 x2 x7 x4 (x5 + 1) σ
def f_M_fillHoles_122 (k30 : (Int → Int → Int → Int → Int → np_S → Option np_O)) (x1 x2 x3 x4 x5 x6 x7 : Int) (σ : np_S) : Option np_O := np_ck ((0 : Int) ≤ x6 ∧ x6 < 91) (np_ck (np_R (σ 1 x6) ∧ np_R ((-1))) (if σ 1 x6 = (-1) then (f_M_fillHoles_148 k30 x1 x2 x4 x5 x7 σ) else (np_ck ((0 : Int) ≤ x6 ∧ x6 < 91) ((f_M_later (σ 1 x6) x3 x7 x1 σ).bind (fun o2 => f_M_fillHoles_148 k30 x1 x2 x4 x5 x7 o2.2)))))
def f_M_fillHoles_116 (k30 : (Int → Int → Int → Int → Int → np_S → Option np_O)) (k65 : (Int → Int → Int → Int → Int → Int → Int → np_S → Option np_O)) (x1 x2 x3 x4 x5 x6 x7 : Int) (σ : np_S) : Option np_O := k65 x1 x2 x3 x4 x5 x6 (x7 + 1) σ
def f_M_fillHoles_65_b (k30 : (Int → Int → Int → Int → Int → np_S → Option np_O)) (k65 : (Int → Int → Int → Int → Int → Int → Int → np_S → Option np_O)) (x1 x2 x3 x4 x5 x6 x7 : Int) (σ : np_S) : Option np_O := np_ck ((0 : Int) ≤ x6 ∧ x6 < 91) (np_ck (np_R (σ 1 x6) ∧ np_R ((-1))) (if σ 1 x6 = (-1) then (f_M_fillHoles_122 k30 x1 x2 x3 x4 x5 x6 x7 σ) else (np_ck ((0 : Int) ≤ x6 ∧ x6 < 91) ((f_M_cell (σ 1 x6) x3 x7 σ).bind (fun o3 => np_ck ((0 : Int) ≤ o3.1 ∧ o3.1 < 10571) (np_ck (np_R (o3.2 8 o3.1)) (if o3.2 8 o3.1 = 0 then (f_M_fillHoles_116 k30 k65 x1 x2 x3 x4 x5 x6 x7 o3.2) else ((f_M_cell (x6 + 1) x7 x4 o3.2).bind (fun o4 => np_ck ((0 : Int) ≤ o4.1 ∧ o4.1 < 80724) (np_ck (np_R (o4.2 9 o4.1)) (if o4.2 9 o4.1 ≠ 0 then (f_M_fillHoles_122 k30 x1 x2 x3 x4 x5 x6 x7 o4.2) else (f_M_fillHoles_116 k30 k65 x1 x2 x3 x4 x5 x6 x7 o4.2))))))))))))
def f_M_fillHoles_65 (k30 : (Int → Int → Int → Int → Int → np_S → Option np_O)) : Nat → Int → Int → Int → Int → Int → Int → Int → np_S → Option np_O
  | 0, _, _, _, _, _, _, _, _ => none
  | n + 1, x1, x2, x3, x4, x5, x6, x7, σ => f_M_fillHoles_65_b k30 (fun x1 x2 x3 x4 x5 x6 x7 σ => f_M_fillHoles_65 k30 n x1 x2 x3 x4 x5 x6 x7 σ) x1 x2 x3 x4 x5 x6 x7 σ
def f_M_fillHoles_30_b  (k30 : (Int → Int → Int → Int → Int → np_S → Option np_O)) (x1 x2 x3 x4 x5 : Int) (σ : np_S) : Option np_O := np_ck ((0 : Int) ≤ x1 ∧ x1 < 40) (np_ck ((0 : Int) ≤ σ 12 x1 ∧ σ 12 x1 < 12) (np_ck (np_R x5 ∧ np_R (σ 3 (σ 12 x1))) (if σ 3 (σ 12 x1) ≤ x5 then (f_M_fillHoles_168 6000 x2 ((σ 0 27) - 1) σ) else (np_ck ((0 : Int) ≤ x1 ∧ x1 < 40) (f_M_fillHoles_65 k30 6000 x1 x2 x3 x4 x5 ((7 * (σ 12 x1)) + x5) (x3 + 1) σ)))))
def f_M_fillHoles_30  : Nat → Int → Int → Int → Int → Int → np_S → Option np_O
  | 0, _, _, _, _, _, _ => none
  | n + 1, x1, x2, x3, x4, x5, σ => f_M_fillHoles_30_b  (fun x1 x2 x3 x4 x5 σ => f_M_fillHoles_30  n x1 x2 x3 x4 x5 σ) x1 x2 x3 x4 x5 σ
def f_M_fillHoles  (x1 : Int) (σ : np_S) : Option np_O := np_ck ((0 : Int) ≤ x1 ∧ x1 < 40) (np_ck ((0 : Int) ≤ x1 ∧ x1 < 40) (np_ck ((0 : Int) ≤ x1 ∧ x1 < 40) (f_M_fillHoles_30 6000 x1 (σ 0 27) (σ 13 x1) ((σ 13 x1) + (σ 14 x1)) 0 σ)))
def f_M_kindOf_76  (t0 : Int) (σ : np_S) : Option np_O := some (t0, σ)
def f_M_kindOf_74  (x4 : Int) (σ : np_S) : Option np_O := f_M_kindOf_76 x4 σ
def f_M_kindOf_49 (k7 : (Int → Int → Int → Int → Int → np_S → Option np_O)) (x1 x2 x3 x4 x5 : Int) (σ : np_S) : Option np_O := k7 x1 x2 x3 x4 (x5 + 1) σ
def f_M_kindOf_7_b  (k7 : (Int → Int → Int → Int → Int → np_S → Option np_O)) (x1 x2 x3 x4 x5 : Int) (σ : np_S) : Option np_O := np_ck (np_R x5 ∧ np_R (σ 0 2)) (if σ 0 2 ≤ x5 then (np_ck (np_R x3 ∧ np_R (x2 + 1)) (if x3 ≠ x2 + 1 then (f_M_kindOf_74 x4 σ) else ((f_M_isAtom x2 σ).bind (fun o1 => np_ck (np_R o1.1) (if o1.1 = 0 then (f_M_kindOf_74 x4 o1.2) else (f_M_kindOf_76 ((-1)) o1.2)))))) else (np_ck ((0 : Int) ≤ x5 ∧ x5 < 12) (np_ck (np_R (σ 4 x5) ∧ np_R x1) (if σ 4 x5 < x1 then (f_M_kindOf_49 k7 x1 x2 x3 x4 x5 σ) else ((f_M_cell (7 * x5) x2 x3 σ).bind (fun o2 => np_ck ((0 : Int) ≤ o2.1 ∧ o2.1 < 80724) (np_ck (np_R (o2.2 9 o2.1)) (if o2.2 9 o2.1 ≤ 0 then (f_M_kindOf_49 k7 x1 x2 x3 x4 x5 o2.2) else (f_M_kindOf_49 k7 x1 x2 x3 x5 x5 o2.2)))))))))
def f_M_kindOf_7  : Nat → Int → Int → Int → Int → Int → np_S → Option np_O
  | 0, _, _, _, _, _, _ => none
  | n + 1, x1, x2, x3, x4, x5, σ => f_M_kindOf_7_b  (fun x1 x2 x3 x4 x5 σ => f_M_kindOf_7  n x1 x2 x3 x4 x5 σ) x1 x2 x3 x4 x5 σ
def f_M_kindOf  (x1 x2 x3 : Int) (σ : np_S) : Option np_O := f_M_kindOf_7 6000 x1 x2 x3 ((-2)) 0 σ
def f_M_grow_191 (k16 : (np_S → Option np_O)) (σ : np_S) : Option np_O := k16 σ
def f_M_grow_177 (k16 : (np_S → Option np_O)) (x1 : Int) (σ : np_S) : Option np_O := np_ck ((0 : Int) ≤ x1 ∧ x1 < 40) (np_ck (np_R (σ 12 x1)) (if σ 12 x1 < 0 then (f_M_grow_191 k16 σ) else ((f_M_fillHoles x1 σ).bind (fun o1 => f_M_grow_191 k16 o1.2))))
def f_M_grow_16_b  (k16 : (np_S → Option np_O)) (σ : np_S) : Option np_O := np_ck (np_R (σ 0 27)) (if σ 0 27 ≤ 0 then (some (0, σ)) else (np_ck ((0 : Int) ≤ (np_st (np_st σ 0 27 ((σ 0 27) - 1)) 0 18 (((np_st σ 0 27 ((σ 0 27) - 1)) 0 18) + 1)) 0 27 ∧ (np_st (np_st σ 0 27 ((σ 0 27) - 1)) 0 18 (((np_st σ 0 27 ((σ 0 27) - 1)) 0 18) + 1)) 0 27 < 80) (np_ck ((0 : Int) ≤ (np_st σ 0 27 ((σ 0 27) - 1)) 0 18 ∧ (np_st σ 0 27 ((σ 0 27) - 1)) 0 18 < 40) (np_ck ((0 : Int) ≤ (np_st (np_st (np_st σ 0 27 ((σ 0 27) - 1)) 0 18 (((np_st σ 0 27 ((σ 0 27) - 1)) 0 18) + 1)) 13 ((np_st σ 0 27 ((σ 0 27) - 1)) 0 18) ((np_st (np_st σ 0 27 ((σ 0 27) - 1)) 0 18 (((np_st σ 0 27 ((σ 0 27) - 1)) 0 18) + 1)) 17 ((np_st (np_st σ 0 27 ((σ 0 27) - 1)) 0 18 (((np_st σ 0 27 ((σ 0 27) - 1)) 0 18) + 1)) 0 27))) 0 27 ∧ (np_st (np_st (np_st σ 0 27 ((σ 0 27) - 1)) 0 18 (((np_st σ 0 27 ((σ 0 27) - 1)) 0 18) + 1)) 13 ((np_st σ 0 27 ((σ 0 27) - 1)) 0 18) ((np_st (np_st σ 0 27 ((σ 0 27) - 1)) 0 18 (((np_st σ 0 27 ((σ 0 27) - 1)) 0 18) + 1)) 17 ((np_st (np_st σ 0 27 ((σ 0 27) - 1)) 0 18 (((np_st σ 0 27 ((σ 0 27) - 1)) 0 18) + 1)) 0 27))) 0 27 < 80) (np_ck ((0 : Int) ≤ (np_st (np_st (np_st σ 0 27 ((σ 0 27) - 1)) 0 18 (((np_st σ 0 27 ((σ 0 27) - 1)) 0 18) + 1)) 13 ((np_st σ 0 27 ((σ 0 27) - 1)) 0 18) ((np_st (np_st σ 0 27 ((σ 0 27) - 1)) 0 18 (((np_st σ 0 27 ((σ 0 27) - 1)) 0 18) + 1)) 17 ((np_st (np_st σ 0 27 ((σ 0 27) - 1)) 0 18 (((np_st σ 0 27 ((σ 0 27) - 1)) 0 18) + 1)) 0 27))) 0 27 ∧ (np_st (np_st (np_st σ 0 27 ((σ 0 27) - 1)) 0 18 (((np_st σ 0 27 ((σ 0 27) - 1)) 0 18) + 1)) 13 ((np_st σ 0 27 ((σ 0 27) - 1)) 0 18) ((np_st (np_st σ 0 27 ((σ 0 27) - 1)) 0 18 (((np_st σ 0 27 ((σ 0 27) - 1)) 0 18) + 1)) 17 ((np_st (np_st σ 0 27 ((σ 0 27) - 1)) 0 18 (((np_st σ 0 27 ((σ 0 27) - 1)) 0 18) + 1)) 0 27))) 0 27 < 80) (np_ck ((0 : Int) ≤ (np_st σ 0 27 ((σ 0 27) - 1)) 0 18 ∧ (np_st σ 0 27 ((σ 0 27) - 1)) 0 18 < 40) (np_ck ((0 : Int) ≤ (np_st (np_st (np_st (np_st σ 0 27 ((σ 0 27) - 1)) 0 18 (((np_st σ 0 27 ((σ 0 27) - 1)) 0 18) + 1)) 13 ((np_st σ 0 27 ((σ 0 27) - 1)) 0 18) ((np_st (np_st σ 0 27 ((σ 0 27) - 1)) 0 18 (((np_st σ 0 27 ((σ 0 27) - 1)) 0 18) + 1)) 17 ((np_st (np_st σ 0 27 ((σ 0 27) - 1)) 0 18 (((np_st σ 0 27 ((σ 0 27) - 1)) 0 18) + 1)) 0 27))) 14 ((np_st σ 0 27 ((σ 0 27) - 1)) 0 18) (((np_st (np_st (np_st σ 0 27 ((σ 0 27) - 1)) 0 18 (((np_st σ 0 27 ((σ 0 27) - 1)) 0 18) + 1)) 13 ((np_st σ 0 27 ((σ 0 27) - 1)) 0 18) ((np_st (np_st σ 0 27 ((σ 0 27) - 1)) 0 18 (((np_st σ 0 27 ((σ 0 27) - 1)) 0 18) + 1)) 17 ((np_st (np_st σ 0 27 ((σ 0 27) - 1)) 0 18 (((np_st σ 0 27 ((σ 0 27) - 1)) 0 18) + 1)) 0 27))) 18 ((np_st (np_st (np_st σ 0 27 ((σ 0 27) - 1)) 0 18 (((np_st σ 0 27 ((σ 0 27) - 1)) 0 18) + 1)) 13 ((np_st σ 0 27 ((σ 0 27) - 1)) 0 18) ((np_st (np_st σ 0 27 ((σ 0 27) - 1)) 0 18 (((np_st σ 0 27 ((σ 0 27) - 1)) 0 18) + 1)) 17 ((np_st (np_st σ 0 27 ((σ 0 27) - 1)) 0 18 (((np_st σ 0 27 ((σ 0 27) - 1)) 0 18) + 1)) 0 27))) 0 27)) - ((np_st (np_st (np_st σ 0 27 ((σ 0 27) - 1)) 0 18 (((np_st σ 0 27 ((σ 0 27) - 1)) 0 18) + 1)) 13 ((np_st σ 0 27 ((σ 0 27) - 1)) 0 18) ((np_st (np_st σ 0 27 ((σ 0 27) - 1)) 0 18 (((np_st σ 0 27 ((σ 0 27) - 1)) 0 18) + 1)) 17 ((np_st (np_st σ 0 27 ((σ 0 27) - 1)) 0 18 (((np_st σ 0 27 ((σ 0 27) - 1)) 0 18) + 1)) 0 27))) 17 ((np_st (np_st (np_st σ 0 27 ((σ 0 27) - 1)) 0 18 (((np_st σ 0 27 ((σ 0 27) - 1)) 0 18) + 1)) 13 ((np_st σ 0 27 ((σ 0 27) - 1)) 0 18) ((np_st (np_st σ 0 27 ((σ 0 27) - 1)) 0 18 (((np_st σ 0 27 ((σ 0 27) - 1)) 0 18) + 1)) 17 ((np_st (np_st σ 0 27 ((σ 0 27) - 1)) 0 18 (((np_st σ 0 27 ((σ 0 27) - 1)) 0 18) + 1)) 0 27))) 0 27)))) 0 27 ∧ (np_st (np_st (np_st (np_st σ 0 27 ((σ 0 27) - 1)) 0 18 (((np_st σ 0 27 ((σ 0 27) - 1)) 0 18) + 1)) 13 ((np_st σ 0 27 ((σ 0 27) - 1)) 0 18) ((np_st (np_st σ 0 27 ((σ 0 27) - 1)) 0 18 (((np_st σ 0 27 ((σ 0 27) - 1)) 0 18) + 1)) 17 ((np_st (np_st σ 0 27 ((σ 0 27) - 1)) 0 18 (((np_st σ 0 27 ((σ 0 27) - 1)) 0 18) + 1)) 0 27))) 14 ((np_st σ 0 27 ((σ 0 27) - 1)) 0 18) (((np_st (np_st (np_st σ 0 27 ((σ 0 27) - 1)) 0 18 (((np_st σ 0 27 ((σ 0 27) - 1)) 0 18) + 1)) 13 ((np_st σ 0 27 ((σ 0 27) - 1)) 0 18) ((np_st (np_st σ 0 27 ((σ 0 27) - 1)) 0 18 (((np_st σ 0 27 ((σ 0 27) - 1)) 0 18) + 1)) 17 ((np_st (np_st σ 0 27 ((σ 0 27) - 1)) 0 18 (((np_st σ 0 27 ((σ 0 27) - 1)) 0 18) + 1)) 0 27))) 18 ((np_st (np_st (np_st σ 0 27 ((σ 0 27) - 1)) 0 18 (((np_st σ 0 27 ((σ 0 27) - 1)) 0 18) + 1)) 13 ((np_st σ 0 27 ((σ 0 27) - 1)) 0 18) ((np_st (np_st σ 0 27 ((σ 0 27) - 1)) 0 18 (((np_st σ 0 27 ((σ 0 27) - 1)) 0 18) + 1)) 17 ((np_st (np_st σ 0 27 ((σ 0 27) - 1)) 0 18 (((np_st σ 0 27 ((σ 0 27) - 1)) 0 18) + 1)) 0 27))) 0 27)) - ((np_st (np_st (np_st σ 0 27 ((σ 0 27) - 1)) 0 18 (((np_st σ 0 27 ((σ 0 27) - 1)) 0 18) + 1)) 13 ((np_st σ 0 27 ((σ 0 27) - 1)) 0 18) ((np_st (np_st σ 0 27 ((σ 0 27) - 1)) 0 18 (((np_st σ 0 27 ((σ 0 27) - 1)) 0 18) + 1)) 17 ((np_st (np_st σ 0 27 ((σ 0 27) - 1)) 0 18 (((np_st σ 0 27 ((σ 0 27) - 1)) 0 18) + 1)) 0 27))) 17 ((np_st (np_st (np_st σ 0 27 ((σ 0 27) - 1)) 0 18 (((np_st σ 0 27 ((σ 0 27) - 1)) 0 18) + 1)) 13 ((np_st σ 0 27 ((σ 0 27) - 1)) 0 18) ((np_st (np_st σ 0 27 ((σ 0 27) - 1)) 0 18 (((np_st σ 0 27 ((σ 0 27) - 1)) 0 18) + 1)) 17 ((np_st (np_st σ 0 27 ((σ 0 27) - 1)) 0 18 (((np_st σ 0 27 ((σ 0 27) - 1)) 0 18) + 1)) 0 27))) 0 27)))) 0 27 < 80) (np_ck ((0 : Int) ≤ (np_st σ 0 27 ((σ 0 27) - 1)) 0 18 ∧ (np_st σ 0 27 ((σ 0 27) - 1)) 0 18 < 40) (np_ck ((0 : Int) ≤ (np_st (np_st (np_st (np_st (np_st σ 0 27 ((σ 0 27) - 1)) 0 18 (((np_st σ 0 27 ((σ 0 27) - 1)) 0 18) + 1)) 13 ((np_st σ 0 27 ((σ 0 27) - 1)) 0 18) ((np_st (np_st σ 0 27 ((σ 0 27) - 1)) 0 18 (((np_st σ 0 27 ((σ 0 27) - 1)) 0 18) + 1)) 17 ((np_st (np_st σ 0 27 ((σ 0 27) - 1)) 0 18 (((np_st σ 0 27 ((σ 0 27) - 1)) 0 18) + 1)) 0 27))) 14 ((np_st σ 0 27 ((σ 0 27) - 1)) 0 18) (((np_st (np_st (np_st σ 0 27 ((σ 0 27) - 1)) 0 18 (((np_st σ 0 27 ((σ 0 27) - 1)) 0 18) + 1)) 13 ((np_st σ 0 27 ((σ 0 27) - 1)) 0 18) ((np_st (np_st σ 0 27 ((σ 0 27) - 1)) 0 18 (((np_st σ 0 27 ((σ 0 27) - 1)) 0 18) + 1)) 17 ((np_st (np_st σ 0 27 ((σ 0 27) - 1)) 0 18 (((np_st σ 0 27 ((σ 0 27) - 1)) 0 18) + 1)) 0 27))) 18 ((np_st (np_st (np_st σ 0 27 ((σ 0 27) - 1)) 0 18 (((np_st σ 0 27 ((σ 0 27) - 1)) 0 18) + 1)) 13 ((np_st σ 0 27 ((σ 0 27) - 1)) 0 18) ((np_st (np_st σ 0 27 ((σ 0 27) - 1)) 0 18 (((np_st σ 0 27 ((σ 0 27) - 1)) 0 18) + 1)) 17 ((np_st (np_st σ 0 27 ((σ 0 27) - 1)) 0 18 (((np_st σ 0 27 ((σ 0 27) - 1)) 0 18) + 1)) 0 27))) 0 27)) - ((np_st (np_st (np_st σ 0 27 ((σ 0 27) - 1)) 0 18 (((np_st σ 0 27 ((σ 0 27) - 1)) 0 18) + 1)) 13 ((np_st σ 0 27 ((σ 0 27) - 1)) 0 18) ((np_st (np_st σ 0 27 ((σ 0 27) - 1)) 0 18 (((np_st σ 0 27 ((σ 0 27) - 1)) 0 18) + 1)) 17 ((np_st (np_st σ 0 27 ((σ 0 27) - 1)) 0 18 (((np_st σ 0 27 ((σ 0 27) - 1)) 0 18) + 1)) 0 27))) 17 ((np_st (np_st (np_st σ 0 27 ((σ 0 27) - 1)) 0 18 (((np_st σ 0 27 ((σ 0 27) - 1)) 0 18) + 1)) 13 ((np_st σ 0 27 ((σ 0 27) - 1)) 0 18) ((np_st (np_st σ 0 27 ((σ 0 27) - 1)) 0 18 (((np_st σ 0 27 ((σ 0 27) - 1)) 0 18) + 1)) 17 ((np_st (np_st σ 0 27 ((σ 0 27) - 1)) 0 18 (((np_st σ 0 27 ((σ 0 27) - 1)) 0 18) + 1)) 0 27))) 0 27)))) 15 ((np_st σ 0 27 ((σ 0 27) - 1)) 0 18) ((np_st (np_st (np_st (np_st σ 0 27 ((σ 0 27) - 1)) 0 18 (((np_st σ 0 27 ((σ 0 27) - 1)) 0 18) + 1)) 13 ((np_st σ 0 27 ((σ 0 27) - 1)) 0 18) ((np_st (np_st σ 0 27 ((σ 0 27) - 1)) 0 18 (((np_st σ 0 27 ((σ 0 27) - 1)) 0 18) + 1)) 17 ((np_st (np_st σ 0 27 ((σ 0 27) - 1)) 0 18 (((np_st σ 0 27 ((σ 0 27) - 1)) 0 18) + 1)) 0 27))) 14 ((np_st σ 0 27 ((σ 0 27) - 1)) 0 18) (((np_st (np_st (np_st σ 0 27 ((σ 0 27) - 1)) 0 18 (((np_st σ 0 27 ((σ 0 27) - 1)) 0 18) + 1)) 13 ((np_st σ 0 27 ((σ 0 27) - 1)) 0 18) ((np_st (np_st σ 0 27 ((σ 0 27) - 1)) 0 18 (((np_st σ 0 27 ((σ 0 27) - 1)) 0 18) + 1)) 17 ((np_st (np_st σ 0 27 ((σ 0 27) - 1)) 0 18 (((np_st σ 0 27 ((σ 0 27) - 1)) 0 18) + 1)) 0 27))) 18 ((np_st (np_st (np_st σ 0 27 ((σ 0 27) - 1)) 0 18 (((np_st σ 0 27 ((σ 0 27) - 1)) 0 18) + 1)) 13 ((np_st σ 0 27 ((σ 0 27) - 1)) 0 18) ((np_st (np_st σ 0 27 ((σ 0 27) - 1)) 0 18 (((np_st σ 0 27 ((σ 0 27) - 1)) 0 18) + 1)) 17 ((np_st (np_st σ 0 27 ((σ 0 27) - 1)) 0 18 (((np_st σ 0 27 ((σ 0 27) - 1)) 0 18) + 1)) 0 27))) 0 27)) - ((np_st (np_st (np_st σ 0 27 ((σ 0 27) - 1)) 0 18 (((np_st σ 0 27 ((σ 0 27) - 1)) 0 18) + 1)) 13 ((np_st σ 0 27 ((σ 0 27) - 1)) 0 18) ((np_st (np_st σ 0 27 ((σ 0 27) - 1)) 0 18 (((np_st σ 0 27 ((σ 0 27) - 1)) 0 18) + 1)) 17 ((np_st (np_st σ 0 27 ((σ 0 27) - 1)) 0 18 (((np_st σ 0 27 ((σ 0 27) - 1)) 0 18) + 1)) 0 27))) 17 ((np_st (np_st (np_st σ 0 27 ((σ 0 27) - 1)) 0 18 (((np_st σ 0 27 ((σ 0 27) - 1)) 0 18) + 1)) 13 ((np_st σ 0 27 ((σ 0 27) - 1)) 0 18) ((np_st (np_st σ 0 27 ((σ 0 27) - 1)) 0 18 (((np_st σ 0 27 ((σ 0 27) - 1)) 0 18) + 1)) 17 ((np_st (np_st σ 0 27 ((σ 0 27) - 1)) 0 18 (((np_st σ 0 27 ((σ 0 27) - 1)) 0 18) + 1)) 0 27))) 0 27)))) 19 ((np_st (np_st (np_st (np_st σ 0 27 ((σ 0 27) - 1)) 0 18 (((np_st σ 0 27 ((σ 0 27) - 1)) 0 18) + 1)) 13 ((np_st σ 0 27 ((σ 0 27) - 1)) 0 18) ((np_st (np_st σ 0 27 ((σ 0 27) - 1)) 0 18 (((np_st σ 0 27 ((σ 0 27) - 1)) 0 18) + 1)) 17 ((np_st (np_st σ 0 27 ((σ 0 27) - 1)) 0 18 (((np_st σ 0 27 ((σ 0 27) - 1)) 0 18) + 1)) 0 27))) 14 ((np_st σ 0 27 ((σ 0 27) - 1)) 0 18) (((np_st (np_st (np_st σ 0 27 ((σ 0 27) - 1)) 0 18 (((np_st σ 0 27 ((σ 0 27) - 1)) 0 18) + 1)) 13 ((np_st σ 0 27 ((σ 0 27) - 1)) 0 18) ((np_st (np_st σ 0 27 ((σ 0 27) - 1)) 0 18 (((np_st σ 0 27 ((σ 0 27) - 1)) 0 18) + 1)) 17 ((np_st (np_st σ 0 27 ((σ 0 27) - 1)) 0 18 (((np_st σ 0 27 ((σ 0 27) - 1)) 0 18) + 1)) 0 27))) 18 ((np_st (np_st (np_st σ 0 27 ((σ 0 27) - 1)) 0 18 (((np_st σ 0 27 ((σ 0 27) - 1)) 0 18) + 1)) 13 ((np_st σ 0 27 ((σ 0 27) - 1)) 0 18) ((np_st (np_st σ 0 27 ((σ 0 27) - 1)) 0 18 (((np_st σ 0 27 ((σ 0 27) - 1)) 0 18) + 1)) 17 ((np_st (np_st σ 0 27 ((σ 0 27) - 1)) 0 18 (((np_st σ 0 27 ((σ 0 27) - 1)) 0 18) + 1)) 0 27))) 0 27)) - ((np_st (np_st (np_st σ 0 27 ((σ 0 27) - 1)) 0 18 (((np_st σ 0 27 ((σ 0 27) - 1)) 0 18) + 1)) 13 ((np_st σ 0 27 ((σ 0 27) - 1)) 0 18) ((np_st (np_st σ 0 27 ((σ 0 27) - 1)) 0 18 (((np_st σ 0 27 ((σ 0 27) - 1)) 0 18) + 1)) 17 ((np_st (np_st σ 0 27 ((σ 0 27) - 1)) 0 18 (((np_st σ 0 27 ((σ 0 27) - 1)) 0 18) + 1)) 0 27))) 17 ((np_st (np_st (np_st σ 0 27 ((σ 0 27) - 1)) 0 18 (((np_st σ 0 27 ((σ 0 27) - 1)) 0 18) + 1)) 13 ((np_st σ 0 27 ((σ 0 27) - 1)) 0 18) ((np_st (np_st σ 0 27 ((σ 0 27) - 1)) 0 18 (((np_st σ 0 27 ((σ 0 27) - 1)) 0 18) + 1)) 17 ((np_st (np_st σ 0 27 ((σ 0 27) - 1)) 0 18 (((np_st σ 0 27 ((σ 0 27) - 1)) 0 18) + 1)) 0 27))) 0 27)))) 0 27))) 0 27 ∧ (np_st (np_st (np_st (np_st (np_st σ 0 27 ((σ 0 27) - 1)) 0 18 (((np_st σ 0 27 ((σ 0 27) - 1)) 0 18) + 1)) 13 ((np_st σ 0 27 ((σ 0 27) - 1)) 0 18) ((np_st (np_st σ 0 27 ((σ 0 27) - 1)) 0 18 (((np_st σ 0 27 ((σ 0 27) - 1)) 0 18) + 1)) 17 ((np_st (np_st σ 0 27 ((σ 0 27) - 1)) 0 18 (((np_st σ 0 27 ((σ 0 27) - 1)) 0 18) + 1)) 0 27))) 14 ((np_st σ 0 27 ((σ 0 27) - 1)) 0 18) (((np_st (np_st (np_st σ 0 27 ((σ 0 27) - 1)) 0 18 (((np_st σ 0 27 ((σ 0 27) - 1)) 0 18) + 1)) 13 ((np_st σ 0 27 ((σ 0 27) - 1)) 0 18) ((np_st (np_st σ 0 27 ((σ 0 27) - 1)) 0 18 (((np_st σ 0 27 ((σ 0 27) - 1)) 0 18) + 1)) 17 ((np_st (np_st σ 0 27 ((σ 0 27) - 1)) 0 18 (((np_st σ 0 27 ((σ 0 27) - 1)) 0 18) + 1)) 0 27))) 18 ((np_st (np_st (np_st σ 0 27 ((σ 0 27) - 1)) 0 18 (((np_st σ 0 27 ((σ 0 27) - 1)) 0 18) + 1)) 13 ((np_st σ 0 27 ((σ 0 27) - 1)) 0 18) ((np_st (np_st σ 0 27 ((σ 0 27) - 1)) 0 18 (((np_st σ 0 27 ((σ 0 27) - 1)) 0 18) + 1)) 17 ((np_st (np_st σ 0 27 ((σ 0 27) - 1)) 0 18 (((np_st σ 0 27 ((σ 0 27) - 1)) 0 18) + 1)) 0 27))) 0 27)) - ((np_st (np_st (np_st σ 0 27 ((σ 0 27) - 1)) 0 18 (((np_st σ 0 27 ((σ 0 27) - 1)) 0 18) + 1)) 13 ((np_st σ 0 27 ((σ 0 27) - 1)) 0 18) ((np_st (np_st σ 0 27 ((σ 0 27) - 1)) 0 18 (((np_st σ 0 27 ((σ 0 27) - 1)) 0 18) + 1)) 17 ((np_st (np_st σ 0 27 ((σ 0 27) - 1)) 0 18 (((np_st σ 0 27 ((σ 0 27) - 1)) 0 18) + 1)) 0 27))) 17 ((np_st (np_st (np_st σ 0 27 ((σ 0 27) - 1)) 0 18 (((np_st σ 0 27 ((σ 0 27) - 1)) 0 18) + 1)) 13 ((np_st σ 0 27 ((σ 0 27) - 1)) 0 18) ((np_st (np_st σ 0 27 ((σ 0 27) - 1)) 0 18 (((np_st σ 0 27 ((σ 0 27) - 1)) 0 18) + 1)) 17 ((np_st (np_st σ 0 27 ((σ 0 27) - 1)) 0 18 (((np_st σ 0 27 ((σ 0 27) - 1)) 0 18) + 1)) 0 27))) 0 27)))) 15 ((np_st σ 0 27 ((σ 0 27) - 1)) 0 18) ((np_st (np_st (np_st (np_st σ 0 27 ((σ 0 27) - 1)) 0 18 (((np_st σ 0 27 ((σ 0 27) - 1)) 0 18) + 1)) 13 ((np_st σ 0 27 ((σ 0 27) - 1)) 0 18) ((np_st (np_st σ 0 27 ((σ 0 27) - 1)) 0 18 (((np_st σ 0 27 ((σ 0 27) - 1)) 0 18) + 1)) 17 ((np_st (np_st σ 0 27 ((σ 0 27) - 1)) 0 18 (((np_st σ 0 27 ((σ 0 27) - 1)) 0 18) + 1)) 0 27))) 14 ((np_st σ 0 27 ((σ 0 27) - 1)) 0 18) (((np_st (np_st (np_st σ 0 27 ((σ 0 27) - 1)) 0 18 (((np_st σ 0 27 ((σ 0 27) - 1)) 0 18) + 1)) 13 ((np_st σ 0 27 ((σ 0 27) - 1)) 0 18) ((np_st (np_st σ 0 27 ((σ 0 27) - 1)) 0 18 (((np_st σ 0 27 ((σ 0 27) - 1)) 0 18) + 1)) 17 ((np_st (np_st σ 0 27 ((σ 0 27) - 1)) 0 18 (((np_st σ 0 27 ((σ 0 27) - 1)) 0 18) + 1)) 0 27))) 18 ((np_st (np_st (np_st σ 0 27 ((σ 0 27) - 1)) 0 18 (((np_st σ 0 27 ((σ 0 27) - 1)) 0 18) + 1)) 13 ((np_st σ 0 27 ((σ 0 27) - 1)) 0 18) ((np_st (np_st σ 0 27 ((σ 0 27) - 1)) 0 18 (((np_st σ 0 27 ((σ 0 27) - 1)) 0 18) + 1)) 17 ((np_st (np_st σ 0 27 ((σ 0 27) - 1)) 0 18 (((np_st σ 0 27 ((σ 0 27) - 1)) 0 18) + 1)) 0 27))) 0 27)) - ((np_st (np_st (np_st σ 0 27 ((σ 0 27) - 1)) 0 18 (((np_st σ 0 27 ((σ 0 27) - 1)) 0 18) + 1)) 13 ((np_st σ 0 27 ((σ 0 27) - 1)) 0 18) ((np_st (np_st σ 0 27 ((σ 0 27) - 1)) 0 18 (((np_st σ 0 27 ((σ 0 27) - 1)) 0 18) + 1)) 17 ((np_st (np_st σ 0 27 ((σ 0 27) - 1)) 0 18 (((np_st σ 0 27 ((σ 0 27) - 1)) 0 18) + 1)) 0 27))) 17 ((np_st (np_st (np_st σ 0 27 ((σ 0 27) - 1)) 0 18 (((np_st σ 0 27 ((σ 0 27) - 1)) 0 18) + 1)) 13 ((np_st σ 0 27 ((σ 0 27) - 1)) 0 18) ((np_st (np_st σ 0 27 ((σ 0 27) - 1)) 0 18 (((np_st σ 0 27 ((σ 0 27) - 1)) 0 18) + 1)) 17 ((np_st (np_st σ 0 27 ((σ 0 27) - 1)) 0 18 (((np_st σ 0 27 ((σ 0 27) - 1)) 0 18) + 1)) 0 27))) 0 27)))) 19 ((np_st (np_st (np_st (np_st σ 0 27 ((σ 0 27) - 1)) 0 18 (((np_st σ 0 27 ((σ 0 27) - 1)) 0 18) + 1)) 13 ((np_st σ 0 27 ((σ 0 27) - 1)) 0 18) ((np_st (np_st σ 0 27 ((σ 0 27) - 1)) 0 18 (((np_st σ 0 27 ((σ 0 27) - 1)) 0 18) + 1)) 17 ((np_st (np_st σ 0 27 ((σ 0 27) - 1)) 0 18 (((np_st σ 0 27 ((σ 0 27) - 1)) 0 18) + 1)) 0 27))) 14 ((np_st σ 0 27 ((σ 0 27) - 1)) 0 18) (((np_st (np_st (np_st σ 0 27 ((σ 0 27) - 1)) 0 18 (((np_st σ 0 27 ((σ 0 27) - 1)) 0 18) + 1)) 13 ((np_st σ 0 27 ((σ 0 27) - 1)) 0 18) ((np_st (np_st σ 0 27 ((σ 0 27) - 1)) 0 18 (((np_st σ 0 27 ((σ 0 27) - 1)) 0 18) + 1)) 17 ((np_st (np_st σ 0 27 ((σ 0 27) - 1)) 0 18 (((np_st σ 0 27 ((σ 0 27) - 1)) 0 18) + 1)) 0 27))) 18 ((np_st (np_st (np_st σ 0 27 ((σ 0 27) - 1)) 0 18 (((np_st σ 0 27 ((σ 0 27) - 1)) 0 18) + 1)) 13 ((np_st σ 0 27 ((σ 0 27) - 1)) 0 18) ((np_st (np_st σ 0 27 ((σ 0 27) - 1)) 0 18 (((np_st σ 0 27 ((σ 0 27) - 1)) 0 18) + 1)) 17 ((np_st (np_st σ 0 27 ((σ 0 27) - 1)) 0 18 (((np_st σ 0 27 ((σ 0 27) - 1)) 0 18) + 1)) 0 27))) 0 27)) - ((np_st (np_st (np_st σ 0 27 ((σ 0 27) - 1)) 0 18 (((np_st σ 0 27 ((σ 0 27) - 1)) 0 18) + 1)) 13 ((np_st σ 0 27 ((σ 0 27) - 1)) 0 18) ((np_st (np_st σ 0 27 ((σ 0 27) - 1)) 0 18 (((np_st σ 0 27 ((σ 0 27) - 1)) 0 18) + 1)) 17 ((np_st (np_st σ 0 27 ((σ 0 27) - 1)) 0 18 (((np_st σ 0 27 ((σ 0 27) - 1)) 0 18) + 1)) 0 27))) 17 ((np_st (np_st (np_st σ 0 27 ((σ 0 27) - 1)) 0 18 (((np_st σ 0 27 ((σ 0 27) - 1)) 0 18) + 1)) 13 ((np_st σ 0 27 ((σ 0 27) - 1)) 0 18) ((np_st (np_st σ 0 27 ((σ 0 27) - 1)) 0 18 (((np_st σ 0 27 ((σ 0 27) - 1)) 0 18) + 1)) 17 ((np_st (np_st σ 0 27 ((σ 0 27) - 1)) 0 18 (((np_st σ 0 27 ((σ 0 27) - 1)) 0 18) + 1)) 0 27))) 0 27)))) 0 27))) 0 27 < 80) (np_ck ((0 : Int) ≤ (np_st σ 0 27 ((σ 0 27) - 1)) 0 18 ∧ (np_st σ 0 27 ((σ 0 27) - 1)) 0 18 < 40) (np_ck ((0 : Int) ≤ (np_st (np_st (np_st (np_st (np_st σ 0 27 ((σ 0 27) - 1)) 0 18 (((np_st σ 0 27 ((σ 0 27) - 1)) 0 18) + 1)) 13 ((np_st σ 0 27 ((σ 0 27) - 1)) 0 18) ((np_st (np_st σ 0 27 ((σ 0 27) - 1)) 0 18 (((np_st σ 0 27 ((σ 0 27) - 1)) 0 18) + 1)) 17 ((np_st (np_st σ 0 27 ((σ 0 27) - 1)) 0 18 (((np_st σ 0 27 ((σ 0 27) - 1)) 0 18) + 1)) 0 27))) 14 ((np_st σ 0 27 ((σ 0 27) - 1)) 0 18) (((np_st (np_st (np_st σ 0 27 ((σ 0 27) - 1)) 0 18 (((np_st σ 0 27 ((σ 0 27) - 1)) 0 18) + 1)) 13 ((np_st σ 0 27 ((σ 0 27) - 1)) 0 18) ((np_st (np_st σ 0 27 ((σ 0 27) - 1)) 0 18 (((np_st σ 0 27 ((σ 0 27) - 1)) 0 18) + 1)) 17 ((np_st (np_st σ 0 27 ((σ 0 27) - 1)) 0 18 (((np_st σ 0 27 ((σ 0 27) - 1)) 0 18) + 1)) 0 27))) 18 ((np_st (np_st (np_st σ 0 27 ((σ 0 27) - 1)) 0 18 (((np_st σ 0 27 ((σ 0 27) - 1)) 0 18) + 1)) 13 ((np_st σ 0 27 ((σ 0 27) - 1)) 0 18) ((np_st (np_st σ 0 27 ((σ 0 27) - 1)) 0 18 (((np_st σ 0 27 ((σ 0 27) - 1)) 0 18) + 1)) 17 ((np_st (np_st σ 0 27 ((σ 0 27) - 1)) 0 18 (((np_st σ 0 27 ((σ 0 27) - 1)) 0 18) + 1)) 0 27))) 0 27)) - ((np_st (np_st (np_st σ 0 27 ((σ 0 27) - 1)) 0 18 (((np_st σ 0 27 ((σ 0 27) - 1)) 0 18) + 1)) 13 ((np_st σ 0 27 ((σ 0 27) - 1)) 0 18) ((np_st (np_st σ 0 27 ((σ 0 27) - 1)) 0 18 (((np_st σ 0 27 ((σ 0 27) - 1)) 0 18) + 1)) 17 ((np_st (np_st σ 0 27 ((σ 0 27) - 1)) 0 18 (((np_st σ 0 27 ((σ 0 27) - 1)) 0 18) + 1)) 0 27))) 17 ((np_st (np_st (np_st σ 0 27 ((σ 0 27) - 1)) 0 18 (((np_st σ 0 27 ((σ 0 27) - 1)) 0 18) + 1)) 13 ((np_st σ 0 27 ((σ 0 27) - 1)) 0 18) ((np_st (np_st σ 0 27 ((σ 0 27) - 1)) 0 18 (((np_st σ 0 27 ((σ 0 27) - 1)) 0 18) + 1)) 17 ((np_st (np_st σ 0 27 ((σ 0 27) - 1)) 0 18 (((np_st σ 0 27 ((σ 0 27) - 1)) 0 18) + 1)) 0 27))) 0 27)))) 15 ((np_st σ 0 27 ((σ 0 27) - 1)) 0 18) ((np_st (np_st (np_st (np_st σ 0 27 ((σ 0 27) - 1)) 0 18 (((np_st σ 0 27 ((σ 0 27) - 1)) 0 18) + 1)) 13 ((np_st σ 0 27 ((σ 0 27) - 1)) 0 18) ((np_st (np_st σ 0 27 ((σ 0 27) - 1)) 0 18 (((np_st σ 0 27 ((σ 0 27) - 1)) 0 18) + 1)) 17 ((np_st (np_st σ 0 27 ((σ 0 27) - 1)) 0 18 (((np_st σ 0 27 ((σ 0 27) - 1)) 0 18) + 1)) 0 27))) 14 ((np_st σ 0 27 ((σ 0 27) - 1)) 0 18) (((np_st (np_st (np_st σ 0 27 ((σ 0 27) - 1)) 0 18 (((np_st σ 0 27 ((σ 0 27) - 1)) 0 18) + 1)) 13 ((np_st σ 0 27 ((σ 0 27) - 1)) 0 18) ((np_st (np_st σ 0 27 ((σ 0 27) - 1)) 0 18 (((np_st σ 0 27 ((σ 0 27) - 1)) 0 18) + 1)) 17 ((np_st (np_st σ 0 27 ((σ 0 27) - 1)) 0 18 (((np_st σ 0 27 ((σ 0 27) - 1)) 0 18) + 1)) 0 27))) 18 ((np_st (np_st (np_st σ 0 27 ((σ 0 27) - 1)) 0 18 (((np_st σ 0 27 ((σ 0 27) - 1)) 0 18) + 1)) 13 ((np_st σ 0 27 ((σ 0 27) - 1)) 0 18) ((np_st (np_st σ 0 27 ((σ 0 27) - 1)) 0 18 (((np_st σ 0 27 ((σ 0 27) - 1)) 0 18) + 1)) 17 ((np_st (np_st σ 0 27 ((σ 0 27) - 1)) 0 18 (((np_st σ 0 27 ((σ 0 27) - 1)) 0 18) + 1)) 0 27))) 0 27)) - ((np_st (np_st (np_st σ 0 27 ((σ 0 27) - 1)) 0 18 (((np_st σ 0 27 ((σ 0 27) - 1)) 0 18) + 1)) 13 ((np_st σ 0 27 ((σ 0 27) - 1)) 0 18) ((np_st (np_st σ 0 27 ((σ 0 27) - 1)) 0 18 (((np_st σ 0 27 ((σ 0 27) - 1)) 0 18) + 1)) 17 ((np_st (np_st σ 0 27 ((σ 0 27) - 1)) 0 18 (((np_st σ 0 27 ((σ 0 27) - 1)) 0 18) + 1)) 0 27))) 17 ((np_st (np_st (np_st σ 0 27 ((σ 0 27) - 1)) 0 18 (((np_st σ 0 27 ((σ 0 27) - 1)) 0 18) + 1)) 13 ((np_st σ 0 27 ((σ 0 27) - 1)) 0 18) ((np_st (np_st σ 0 27 ((σ 0 27) - 1)) 0 18 (((np_st σ 0 27 ((σ 0 27) - 1)) 0 18) + 1)) 17 ((np_st (np_st σ 0 27 ((σ 0 27) - 1)) 0 18 (((np_st σ 0 27 ((σ 0 27) - 1)) 0 18) + 1)) 0 27))) 0 27)))) 19 ((np_st (np_st (np_st (np_st σ 0 27 ((σ 0 27) - 1)) 0 18 (((np_st σ 0 27 ((σ 0 27) - 1)) 0 18) + 1)) 13 ((np_st σ 0 27 ((σ 0 27) - 1)) 0 18) ((np_st (np_st σ 0 27 ((σ 0 27) - 1)) 0 18 (((np_st σ 0 27 ((σ 0 27) - 1)) 0 18) + 1)) 17 ((np_st (np_st σ 0 27 ((σ 0 27) - 1)) 0 18 (((np_st σ 0 27 ((σ 0 27) - 1)) 0 18) + 1)) 0 27))) 14 ((np_st σ 0 27 ((σ 0 27) - 1)) 0 18) (((np_st (np_st (np_st σ 0 27 ((σ 0 27) - 1)) 0 18 (((np_st σ 0 27 ((σ 0 27) - 1)) 0 18) + 1)) 13 ((np_st σ 0 27 ((σ 0 27) - 1)) 0 18) ((np_st (np_st σ 0 27 ((σ 0 27) - 1)) 0 18 (((np_st σ 0 27 ((σ 0 27) - 1)) 0 18) + 1)) 17 ((np_st (np_st σ 0 27 ((σ 0 27) - 1)) 0 18 (((np_st σ 0 27 ((σ 0 27) - 1)) 0 18) + 1)) 0 27))) 18 ((np_st (np_st (np_st σ 0 27 ((σ 0 27) - 1)) 0 18 (((np_st σ 0 27 ((σ 0 27) - 1)) 0 18) + 1)) 13 ((np_st σ 0 27 ((σ 0 27) - 1)) 0 18) ((np_st (np_st σ 0 27 ((σ 0 27) - 1)) 0 18 (((np_st σ 0 27 ((σ 0 27) - 1)) 0 18) + 1)) 17 ((np_st (np_st σ 0 27 ((σ 0 27) - 1)) 0 18 (((np_st σ 0 27 ((σ 0 27) - 1)) 0 18) + 1)) 0 27))) 0 27)) - ((np_st (np_st (np_st σ 0 27 ((σ 0 27) - 1)) 0 18 (((np_st σ 0 27 ((σ 0 27) - 1)) 0 18) + 1)) 13 ((np_st σ 0 27 ((σ 0 27) - 1)) 0 18) ((np_st (np_st σ 0 27 ((σ 0 27) - 1)) 0 18 (((np_st σ 0 27 ((σ 0 27) - 1)) 0 18) + 1)) 17 ((np_st (np_st σ 0 27 ((σ 0 27) - 1)) 0 18 (((np_st σ 0 27 ((σ 0 27) - 1)) 0 18) + 1)) 0 27))) 17 ((np_st (np_st (np_st σ 0 27 ((σ 0 27) - 1)) 0 18 (((np_st σ 0 27 ((σ 0 27) - 1)) 0 18) + 1)) 13 ((np_st σ 0 27 ((σ 0 27) - 1)) 0 18) ((np_st (np_st σ 0 27 ((σ 0 27) - 1)) 0 18 (((np_st σ 0 27 ((σ 0 27) - 1)) 0 18) + 1)) 17 ((np_st (np_st σ 0 27 ((σ 0 27) - 1)) 0 18 (((np_st σ 0 27 ((σ 0 27) - 1)) 0 18) + 1)) 0 27))) 0 27)))) 0 27))) 0 27 ∧ (np_st (np_st (np_st (np_st (np_st σ 0 27 ((σ 0 27) - 1)) 0 18 (((np_st σ 0 27 ((σ 0 27) - 1)) 0 18) + 1)) 13 ((np_st σ 0 27 ((σ 0 27) - 1)) 0 18) ((np_st (np_st σ 0 27 ((σ 0 27) - 1)) 0 18 (((np_st σ 0 27 ((σ 0 27) - 1)) 0 18) + 1)) 17 ((np_st (np_st σ 0 27 ((σ 0 27) - 1)) 0 18 (((np_st σ 0 27 ((σ 0 27) - 1)) 0 18) + 1)) 0 27))) 14 ((np_st σ 0 27 ((σ 0 27) - 1)) 0 18) (((np_st (np_st (np_st σ 0 27 ((σ 0 27) - 1)) 0 18 (((np_st σ 0 27 ((σ 0 27) - 1)) 0 18) + 1)) 13 ((np_st σ 0 27 ((σ 0 27) - 1)) 0 18) ((np_st (np_st σ 0 27 ((σ 0 27) - 1)) 0 18 (((np_st σ 0 27 ((σ 0 27) - 1)) 0 18) + 1)) 17 ((np_st (np_st σ 0 27 ((σ 0 27) - 1)) 0 18 (((np_st σ 0 27 ((σ 0 27) - 1)) 0 18) + 1)) 0 27))) 18 ((np_st (np_st (np_st σ 0 27 ((σ 0 27) - 1)) 0 18 (((np_st σ 0 27 ((σ 0 27) - 1)) 0 18) + 1)) 13 ((np_st σ 0 27 ((σ 0 27) - 1)) 0 18) ((np_st (np_st σ 0 27 ((σ 0 27) - 1)) 0 18 (((np_st σ 0 27 ((σ 0 27) - 1)) 0 18) + 1)) 17 ((np_st (np_st σ 0 27 ((σ 0 27) - 1)) 0 18 (((np_st σ 0 27 ((σ 0 27) - 1)) 0 18) + 1)) 0 27))) 0 27)) - ((np_st (np_st (np_st σ 0 27 ((σ 0 27) - 1)) 0 18 (((np_st σ 0 27 ((σ 0 27) - 1)) 0 18) + 1)) 13 ((np_st σ 0 27 ((σ 0 27) - 1)) 0 18) ((np_st (np_st σ 0 27 ((σ 0 27) - 1)) 0 18 (((np_st σ 0 27 ((σ 0 27) - 1)) 0 18) + 1)) 17 ((np_st (np_st σ 0 27 ((σ 0 27) - 1)) 0 18 (((np_st σ 0 27 ((σ 0 27) - 1)) 0 18) + 1)) 0 27))) 17 ((np_st (np_st (np_st σ 0 27 ((σ 0 27) - 1)) 0 18 (((np_st σ 0 27 ((σ 0 27) - 1)) 0 18) + 1)) 13 ((np_st σ 0 27 ((σ 0 27) - 1)) 0 18) ((np_st (np_st σ 0 27 ((σ 0 27) - 1)) 0 18 (((np_st σ 0 27 ((σ 0 27) - 1)) 0 18) + 1)) 17 ((np_st (np_st σ 0 27 ((σ 0 27) - 1)) 0 18 (((np_st σ 0 27 ((σ 0 27) - 1)) 0 18) + 1)) 0 27))) 0 27)))) 15 ((np_st σ 0 27 ((σ 0 27) - 1)) 0 18) ((np_st (np_st (np_st (np_st σ 0 27 ((σ 0 27) - 1)) 0 18 (((np_st σ 0 27 ((σ 0 27) - 1)) 0 18) + 1)) 13 ((np_st σ 0 27 ((σ 0 27) - 1)) 0 18) ((np_st (np_st σ 0 27 ((σ 0 27) - 1)) 0 18 (((np_st σ 0 27 ((σ 0 27) - 1)) 0 18) + 1)) 17 ((np_st (np_st σ 0 27 ((σ 0 27) - 1)) 0 18 (((np_st σ 0 27 ((σ 0 27) - 1)) 0 18) + 1)) 0 27))) 14 ((np_st σ 0 27 ((σ 0 27) - 1)) 0 18) (((np_st (np_st (np_st σ 0 27 ((σ 0 27) - 1)) 0 18 (((np_st σ 0 27 ((σ 0 27) - 1)) 0 18) + 1)) 13 ((np_st σ 0 27 ((σ 0 27) - 1)) 0 18) ((np_st (np_st σ 0 27 ((σ 0 27) - 1)) 0 18 (((np_st σ 0 27 ((σ 0 27) - 1)) 0 18) + 1)) 17 ((np_st (np_st σ 0 27 ((σ 0 27) - 1)) 0 18 (((np_st σ 0 27 ((σ 0 27) - 1)) 0 18) + 1)) 0 27))) 18 ((np_st (np_st (np_st σ 0 27 ((σ 0 27) - 1)) 0 18 (((np_st σ 0 27 ((σ 0 27) - 1)) 0 18) + 1)) 13 ((np_st σ 0 27 ((σ 0 27) - 1)) 0 18) ((np_st (np_st σ 0 27 ((σ 0 27) - 1)) 0 18 (((np_st σ 0 27 ((σ 0 27) - 1)) 0 18) + 1)) 17 ((np_st (np_st σ 0 27 ((σ 0 27) - 1)) 0 18 (((np_st σ 0 27 ((σ 0 27) - 1)) 0 18) + 1)) 0 27))) 0 27)) - ((np_st (np_st (np_st σ 0 27 ((σ 0 27) - 1)) 0 18 (((np_st σ 0 27 ((σ 0 27) - 1)) 0 18) + 1)) 13 ((np_st σ 0 27 ((σ 0 27) - 1)) 0 18) ((np_st (np_st σ 0 27 ((σ 0 27) - 1)) 0 18 (((np_st σ 0 27 ((σ 0 27) - 1)) 0 18) + 1)) 17 ((np_st (np_st σ 0 27 ((σ 0 27) - 1)) 0 18 (((np_st σ 0 27 ((σ 0 27) - 1)) 0 18) + 1)) 0 27))) 17 ((np_st (np_st (np_st σ 0 27 ((σ 0 27) - 1)) 0 18 (((np_st σ 0 27 ((σ 0 27) - 1)) 0 18) + 1)) 13 ((np_st σ 0 27 ((σ 0 27) - 1)) 0 18) ((np_st (np_st σ 0 27 ((σ 0 27) - 1)) 0 18 (((np_st σ 0 27 ((σ 0 27) - 1)) 0 18) + 1)) 17 ((np_st (np_st σ 0 27 ((σ 0 27) - 1)) 0 18 (((np_st σ 0 27 ((σ 0 27) - 1)) 0 18) + 1)) 0 27))) 0 27)))) 19 ((np_st (np_st (np_st (np_st σ 0 27 ((σ 0 27) - 1)) 0 18 (((np_st σ 0 27 ((σ 0 27) - 1)) 0 18) + 1)) 13 ((np_st σ 0 27 ((σ 0 27) - 1)) 0 18) ((np_st (np_st σ 0 27 ((σ 0 27) - 1)) 0 18 (((np_st σ 0 27 ((σ 0 27) - 1)) 0 18) + 1)) 17 ((np_st (np_st σ 0 27 ((σ 0 27) - 1)) 0 18 (((np_st σ 0 27 ((σ 0 27) - 1)) 0 18) + 1)) 0 27))) 14 ((np_st σ 0 27 ((σ 0 27) - 1)) 0 18) (((np_st (np_st (np_st σ 0 27 ((σ 0 27) - 1)) 0 18 (((np_st σ 0 27 ((σ 0 27) - 1)) 0 18) + 1)) 13 ((np_st σ 0 27 ((σ 0 27) - 1)) 0 18) ((np_st (np_st σ 0 27 ((σ 0 27) - 1)) 0 18 (((np_st σ 0 27 ((σ 0 27) - 1)) 0 18) + 1)) 17 ((np_st (np_st σ 0 27 ((σ 0 27) - 1)) 0 18 (((np_st σ 0 27 ((σ 0 27) - 1)) 0 18) + 1)) 0 27))) 18 ((np_st (np_st (np_st σ 0 27 ((σ 0 27) - 1)) 0 18 (((np_st σ 0 27 ((σ 0 27) - 1)) 0 18) + 1)) 13 ((np_st σ 0 27 ((σ 0 27) - 1)) 0 18) ((np_st (np_st σ 0 27 ((σ 0 27) - 1)) 0 18 (((np_st σ 0 27 ((σ 0 27) - 1)) 0 18) + 1)) 17 ((np_st (np_st σ 0 27 ((σ 0 27) - 1)) 0 18 (((np_st σ 0 27 ((σ 0 27) - 1)) 0 18) + 1)) 0 27))) 0 27)) - ((np_st (np_st (np_st σ 0 27 ((σ 0 27) - 1)) 0 18 (((np_st σ 0 27 ((σ 0 27) - 1)) 0 18) + 1)) 13 ((np_st σ 0 27 ((σ 0 27) - 1)) 0 18) ((np_st (np_st σ 0 27 ((σ 0 27) - 1)) 0 18 (((np_st σ 0 27 ((σ 0 27) - 1)) 0 18) + 1)) 17 ((np_st (np_st σ 0 27 ((σ 0 27) - 1)) 0 18 (((np_st σ 0 27 ((σ 0 27) - 1)) 0 18) + 1)) 0 27))) 17 ((np_st (np_st (np_st σ 0 27 ((σ 0 27) - 1)) 0 18 (((np_st σ 0 27 ((σ 0 27) - 1)) 0 18) + 1)) 13 ((np_st σ 0 27 ((σ 0 27) - 1)) 0 18) ((np_st (np_st σ 0 27 ((σ 0 27) - 1)) 0 18 (((np_st σ 0 27 ((σ 0 27) - 1)) 0 18) + 1)) 17 ((np_st (np_st σ 0 27 ((σ 0 27) - 1)) 0 18 (((np_st σ 0 27 ((σ 0 27) - 1)) 0 18) + 1)) 0 27))) 0 27)))) 0 27))) 0 27 < 80) ((f_M_kindOf ((np_st (np_st (np_st (np_st (np_st σ 0 27 ((σ 0 27) - 1)) 0 18 (((np_st σ 0 27 ((σ 0 27) - 1)) 0 18) + 1)) 13 ((np_st σ 0 27 ((σ 0 27) - 1)) 0 18) ((np_st (np_st σ 0 27 ((σ 0 27) - 1)) 0 18 (((np_st σ 0 27 ((σ 0 27) - 1)) 0 18) + 1)) 17 ((np_st (np_st σ 0 27 ((σ 0 27) - 1)) 0 18 (((np_st σ 0 27 ((σ 0 27) - 1)) 0 18) + 1)) 0 27))) 14 ((np_st σ 0 27 ((σ 0 27) - 1)) 0 18) (((np_st (np_st (np_st σ 0 27 ((σ 0 27) - 1)) 0 18 (((np_st σ 0 27 ((σ 0 27) - 1)) 0 18) + 1)) 13 ((np_st σ 0 27 ((σ 0 27) - 1)) 0 18) ((np_st (np_st σ 0 27 ((σ 0 27) - 1)) 0 18 (((np_st σ 0 27 ((σ 0 27) - 1)) 0 18) + 1)) 17 ((np_st (np_st σ 0 27 ((σ 0 27) - 1)) 0 18 (((np_st σ 0 27 ((σ 0 27) - 1)) 0 18) + 1)) 0 27))) 18 ((np_st (np_st (np_st σ 0 27 ((σ 0 27) - 1)) 0 18 (((np_st σ 0 27 ((σ 0 27) - 1)) 0 18) + 1)) 13 ((np_st σ 0 27 ((σ 0 27) - 1)) 0 18) ((np_st (np_st σ 0 27 ((σ 0 27) - 1)) 0 18 (((np_st σ 0 27 ((σ 0 27) - 1)) 0 18) + 1)) 17 ((np_st (np_st σ 0 27 ((σ 0 27) - 1)) 0 18 (((np_st σ 0 27 ((σ 0 27) - 1)) 0 18) + 1)) 0 27))) 0 27)) - ((np_st (np_st (np_st σ 0 27 ((σ 0 27) - 1)) 0 18 (((np_st σ 0 27 ((σ 0 27) - 1)) 0 18) + 1)) 13 ((np_st σ 0 27 ((σ 0 27) - 1)) 0 18) ((np_st (np_st σ 0 27 ((σ 0 27) - 1)) 0 18 (((np_st σ 0 27 ((σ 0 27) - 1)) 0 18) + 1)) 17 ((np_st (np_st σ 0 27 ((σ 0 27) - 1)) 0 18 (((np_st σ 0 27 ((σ 0 27) - 1)) 0 18) + 1)) 0 27))) 17 ((np_st (np_st (np_st σ 0 27 ((σ 0 27) - 1)) 0 18 (((np_st σ 0 27 ((σ 0 27) - 1)) 0 18) + 1)) 13 ((np_st σ 0 27 ((σ 0 27) - 1)) 0 18) ((np_st (np_st σ 0 27 ((σ 0 27) - 1)) 0 18 (((np_st σ 0 27 ((σ 0 27) - 1)) 0 18) + 1)) 17 ((np_st (np_st σ 0 27 ((σ 0 27) - 1)) 0 18 (((np_st σ 0 27 ((σ 0 27) - 1)) 0 18) + 1)) 0 27))) 0 27)))) 15 ((np_st σ 0 27 ((σ 0 27) - 1)) 0 18) ((np_st (np_st (np_st (np_st σ 0 27 ((σ 0 27) - 1)) 0 18 (((np_st σ 0 27 ((σ 0 27) - 1)) 0 18) + 1)) 13 ((np_st σ 0 27 ((σ 0 27) - 1)) 0 18) ((np_st (np_st σ 0 27 ((σ 0 27) - 1)) 0 18 (((np_st σ 0 27 ((σ 0 27) - 1)) 0 18) + 1)) 17 ((np_st (np_st σ 0 27 ((σ 0 27) - 1)) 0 18 (((np_st σ 0 27 ((σ 0 27) - 1)) 0 18) + 1)) 0 27))) 14 ((np_st σ 0 27 ((σ 0 27) - 1)) 0 18) (((np_st (np_st (np_st σ 0 27 ((σ 0 27) - 1)) 0 18 (((np_st σ 0 27 ((σ 0 27) - 1)) 0 18) + 1)) 13 ((np_st σ 0 27 ((σ 0 27) - 1)) 0 18) ((np_st (np_st σ 0 27 ((σ 0 27) - 1)) 0 18 (((np_st σ 0 27 ((σ 0 27) - 1)) 0 18) + 1)) 17 ((np_st (np_st σ 0 27 ((σ 0 27) - 1)) 0 18 (((np_st σ 0 27 ((σ 0 27) - 1)) 0 18) + 1)) 0 27))) 18 ((np_st (np_st (np_st σ 0 27 ((σ 0 27) - 1)) 0 18 (((np_st σ 0 27 ((σ 0 27) - 1)) 0 18) + 1)) 13 ((np_st σ 0 27 ((σ 0 27) - 1)) 0 18) ((np_st (np_st σ 0 27 ((σ 0 27) - 1)) 0 18 (((np_st σ 0 27 ((σ 0 27) - 1)) 0 18) + 1)) 17 ((np_st (np_st σ 0 27 ((σ 0 27) - 1)) 0 18 (((np_st σ 0 27 ((σ 0 27) - 1)) 0 18) + 1)) 0 27))) 0 27)) - ((np_st (np_st (np_st σ 0 27 ((σ 0 27) - 1)) 0 18 (((np_st σ 0 27 ((σ 0 27) - 1)) 0 18) + 1)) 13 ((np_st σ 0 27 ((σ 0 27) - 1)) 0 18) ((np_st (np_st σ 0 27 ((σ 0 27) - 1)) 0 18 (((np_st σ 0 27 ((σ 0 27) - 1)) 0 18) + 1)) 17 ((np_st (np_st σ 0 27 ((σ 0 27) - 1)) 0 18 (((np_st σ 0 27 ((σ 0 27) - 1)) 0 18) + 1)) 0 27))) 17 ((np_st (np_st (np_st σ 0 27 ((σ 0 27) - 1)) 0 18 (((np_st σ 0 27 ((σ 0 27) - 1)) 0 18) + 1)) 13 ((np_st σ 0 27 ((σ 0 27) - 1)) 0 18) ((np_st (np_st σ 0 27 ((σ 0 27) - 1)) 0 18 (((np_st σ 0 27 ((σ 0 27) - 1)) 0 18) + 1)) 17 ((np_st (np_st σ 0 27 ((σ 0 27) - 1)) 0 18 (((np_st σ 0 27 ((σ 0 27) - 1)) 0 18) + 1)) 0 27))) 0 27)))) 19 ((np_st (np_st (np_st (np_st σ 0 27 ((σ 0 27) - 1)) 0 18 (((np_st σ 0 27 ((σ 0 27) - 1)) 0 18) + 1)) 13 ((np_st σ 0 27 ((σ 0 27) - 1)) 0 18) ((np_st (np_st σ 0 27 ((σ 0 27) - 1)) 0 18 (((np_st σ 0 27 ((σ 0 27) - 1)) 0 18) + 1)) 17 ((np_st (np_st σ 0 27 ((σ 0 27) - 1)) 0 18 (((np_st σ 0 27 ((σ 0 27) - 1)) 0 18) + 1)) 0 27))) 14 ((np_st σ 0 27 ((σ 0 27) - 1)) 0 18) (((np_st (np_st (np_st σ 0 27 ((σ 0 27) - 1)) 0 18 (((np_st σ 0 27 ((σ 0 27) - 1)) 0 18) + 1)) 13 ((np_st σ 0 27 ((σ 0 27) - 1)) 0 18) ((np_st (np_st σ 0 27 ((σ 0 27) - 1)) 0 18 (((np_st σ 0 27 ((σ 0 27) - 1)) 0 18) + 1)) 17 ((np_st (np_st σ 0 27 ((σ 0 27) - 1)) 0 18 (((np_st σ 0 27 ((σ 0 27) - 1)) 0 18) + 1)) 0 27))) 18 ((np_st (np_st (np_st σ 0 27 ((σ 0 27) - 1)) 0 18 (((np_st σ 0 27 ((σ 0 27) - 1)) 0 18) + 1)) 13 ((np_st σ 0 27 ((σ 0 27) - 1)) 0 18) ((np_st (np_st σ 0 27 ((σ 0 27) - 1)) 0 18 (((np_st σ 0 27 ((σ 0 27) - 1)) 0 18) + 1)) 17 ((np_st (np_st σ 0 27 ((σ 0 27) - 1)) 0 18 (((np_st σ 0 27 ((σ 0 27) - 1)) 0 18) + 1)) 0 27))) 0 27)) - ((np_st (np_st (np_st σ 0 27 ((σ 0 27) - 1)) 0 18 (((np_st σ 0 27 ((σ 0 27) - 1)) 0 18) + 1)) 13 ((np_st σ 0 27 ((σ 0 27) - 1)) 0 18) ((np_st (np_st σ 0 27 ((σ 0 27) - 1)) 0 18 (((np_st σ 0 27 ((σ 0 27) - 1)) 0 18) + 1)) 17 ((np_st (np_st σ 0 27 ((σ 0 27) - 1)) 0 18 (((np_st σ 0 27 ((σ 0 27) - 1)) 0 18) + 1)) 0 27))) 17 ((np_st (np_st (np_st σ 0 27 ((σ 0 27) - 1)) 0 18 (((np_st σ 0 27 ((σ 0 27) - 1)) 0 18) + 1)) 13 ((np_st σ 0 27 ((σ 0 27) - 1)) 0 18) ((np_st (np_st σ 0 27 ((σ 0 27) - 1)) 0 18 (((np_st σ 0 27 ((σ 0 27) - 1)) 0 18) + 1)) 17 ((np_st (np_st σ 0 27 ((σ 0 27) - 1)) 0 18 (((np_st σ 0 27 ((σ 0 27) - 1)) 0 18) + 1)) 0 27))) 0 27)))) 0 27))) 16 ((np_st (np_st (np_st (np_st (np_st σ 0 27 ((σ 0 27) - 1)) 0 18 (((np_st σ 0 27 ((σ 0 27) - 1)) 0 18) + 1)) 13 ((np_st σ 0 27 ((σ 0 27) - 1)) 0 18) ((np_st (np_st σ 0 27 ((σ 0 27) - 1)) 0 18 (((np_st σ 0 27 ((σ 0 27) - 1)) 0 18) + 1)) 17 ((np_st (np_st σ 0 27 ((σ 0 27) - 1)) 0 18 (((np_st σ 0 27 ((σ 0 27) - 1)) 0 18) + 1)) 0 27))) 14 ((np_st σ 0 27 ((σ 0 27) - 1)) 0 18) (((np_st (np_st (np_st σ 0 27 ((σ 0 27) - 1)) 0 18 (((np_st σ 0 27 ((σ 0 27) - 1)) 0 18) + 1)) 13 ((np_st σ 0 27 ((σ 0 27) - 1)) 0 18) ((np_st (np_st σ 0 27 ((σ 0 27) - 1)) 0 18 (((np_st σ 0 27 ((σ 0 27) - 1)) 0 18) + 1)) 17 ((np_st (np_st σ 0 27 ((σ 0 27) - 1)) 0 18 (((np_st σ 0 27 ((σ 0 27) - 1)) 0 18) + 1)) 0 27))) 18 ((np_st (np_st (np_st σ 0 27 ((σ 0 27) - 1)) 0 18 (((np_st σ 0 27 ((σ 0 27) - 1)) 0 18) + 1)) 13 ((np_st σ 0 27 ((σ 0 27) - 1)) 0 18) ((np_st (np_st σ 0 27 ((σ 0 27) - 1)) 0 18 (((np_st σ 0 27 ((σ 0 27) - 1)) 0 18) + 1)) 17 ((np_st (np_st σ 0 27 ((σ 0 27) - 1)) 0 18 (((np_st σ 0 27 ((σ 0 27) - 1)) 0 18) + 1)) 0 27))) 0 27)) - ((np_st (np_st (np_st σ 0 27 ((σ 0 27) - 1)) 0 18 (((np_st σ 0 27 ((σ 0 27) - 1)) 0 18) + 1)) 13 ((np_st σ 0 27 ((σ 0 27) - 1)) 0 18) ((np_st (np_st σ 0 27 ((σ 0 27) - 1)) 0 18 (((np_st σ 0 27 ((σ 0 27) - 1)) 0 18) + 1)) 17 ((np_st (np_st σ 0 27 ((σ 0 27) - 1)) 0 18 (((np_st σ 0 27 ((σ 0 27) - 1)) 0 18) + 1)) 0 27))) 17 ((np_st (np_st (np_st σ 0 27 ((σ 0 27) - 1)) 0 18 (((np_st σ 0 27 ((σ 0 27) - 1)) 0 18) + 1)) 13 ((np_st σ 0 27 ((σ 0 27) - 1)) 0 18) ((np_st (np_st σ 0 27 ((σ 0 27) - 1)) 0 18 (((np_st σ 0 27 ((σ 0 27) - 1)) 0 18) + 1)) 17 ((np_st (np_st σ 0 27 ((σ 0 27) - 1)) 0 18 (((np_st σ 0 27 ((σ 0 27) - 1)) 0 18) + 1)) 0 27))) 0 27)))) 15 ((np_st σ 0 27 ((σ 0 27) - 1)) 0 18) ((np_st (np_st (np_st (np_st σ 0 27 ((σ 0 27) - 1)) 0 18 (((np_st σ 0 27 ((σ 0 27) - 1)) 0 18) + 1)) 13 ((np_st σ 0 27 ((σ 0 27) - 1)) 0 18) ((np_st (np_st σ 0 27 ((σ 0 27) - 1)) 0 18 (((np_st σ 0 27 ((σ 0 27) - 1)) 0 18) + 1)) 17 ((np_st (np_st σ 0 27 ((σ 0 27) - 1)) 0 18 (((np_st σ 0 27 ((σ 0 27) - 1)) 0 18) + 1)) 0 27))) 14 ((np_st σ 0 27 ((σ 0 27) - 1)) 0 18) (((np_st (np_st (np_st σ 0 27 ((σ 0 27) - 1)) 0 18 (((np_st σ 0 27 ((σ 0 27) - 1)) 0 18) + 1)) 13 ((np_st σ 0 27 ((σ 0 27) - 1)) 0 18) ((np_st (np_st σ 0 27 ((σ 0 27) - 1)) 0 18 (((np_st σ 0 27 ((σ 0 27) - 1)) 0 18) + 1)) 17 ((np_st (np_st σ 0 27 ((σ 0 27) - 1)) 0 18 (((np_st σ 0 27 ((σ 0 27) - 1)) 0 18) + 1)) 0 27))) 18 ((np_st (np_st (np_st σ 0 27 ((σ 0 27) - 1)) 0 18 (((np_st σ 0 27 ((σ 0 27) - 1)) 0 18) + 1)) 13 ((np_st σ 0 27 ((σ 0 27) - 1)) 0 18) ((np_st (np_st σ 0 27 ((σ 0 27) - 1)) 0 18 (((np_st σ 0 27 ((σ 0 27) - 1)) 0 18) + 1)) 17 ((np_st (np_st σ 0 27 ((σ 0 27) - 1)) 0 18 (((np_st σ 0 27 ((σ 0 27) - 1)) 0 18) + 1)) 0 27))) 0 27)) - ((np_st (np_st (np_st σ 0 27 ((σ 0 27) - 1)) 0 18 (((np_st σ 0 27 ((σ 0 27) - 1)) 0 18) + 1)) 13 ((np_st σ 0 27 ((σ 0 27) - 1)) 0 18) ((np_st (np_st σ 0 27 ((σ 0 27) - 1)) 0 18 (((np_st σ 0 27 ((σ 0 27) - 1)) 0 18) + 1)) 17 ((np_st (np_st σ 0 27 ((σ 0 27) - 1)) 0 18 (((np_st σ 0 27 ((σ 0 27) - 1)) 0 18) + 1)) 0 27))) 17 ((np_st (np_st (np_st σ 0 27 ((σ 0 27) - 1)) 0 18 (((np_st σ 0 27 ((σ 0 27) - 1)) 0 18) + 1)) 13 ((np_st σ 0 27 ((σ 0 27) - 1)) 0 18) ((np_st (np_st σ 0 27 ((σ 0 27) - 1)) 0 18 (((np_st σ 0 27 ((σ 0 27) - 1)) 0 18) + 1)) 17 ((np_st (np_st σ 0 27 ((σ 0 27) - 1)) 0 18 (((np_st σ 0 27 ((σ 0 27) - 1)) 0 18) + 1)) 0 27))) 0 27)))) 19 ((np_st (np_st (np_st (np_st σ 0 27 ((σ 0 27) - 1)) 0 18 (((np_st σ 0 27 ((σ 0 27) - 1)) 0 18) + 1)) 13 ((np_st σ 0 27 ((σ 0 27) - 1)) 0 18) ((np_st (np_st σ 0 27 ((σ 0 27) - 1)) 0 18 (((np_st σ 0 27 ((σ 0 27) - 1)) 0 18) + 1)) 17 ((np_st (np_st σ 0 27 ((σ 0 27) - 1)) 0 18 (((np_st σ 0 27 ((σ 0 27) - 1)) 0 18) + 1)) 0 27))) 14 ((np_st σ 0 27 ((σ 0 27) - 1)) 0 18) (((np_st (np_st (np_st σ 0 27 ((σ 0 27) - 1)) 0 18 (((np_st σ 0 27 ((σ 0 27) - 1)) 0 18) + 1)) 13 ((np_st σ 0 27 ((σ 0 27) - 1)) 0 18) ((np_st (np_st σ 0 27 ((σ 0 27) - 1)) 0 18 (((np_st σ 0 27 ((σ 0 27) - 1)) 0 18) + 1)) 17 ((np_st (np_st σ 0 27 ((σ 0 27) - 1)) 0 18 (((np_st σ 0 27 ((σ 0 27) - 1)) 0 18) + 1)) 0 27))) 18 ((np_st (np_st (np_st σ 0 27 ((σ 0 27) - 1)) 0 18 (((np_st σ 0 27 ((σ 0 27) - 1)) 0 18) + 1)) 13 ((np_st σ 0 27 ((σ 0 27) - 1)) 0 18) ((np_st (np_st σ 0 27 ((σ 0 27) - 1)) 0 18 (((np_st σ 0 27 ((σ 0 27) - 1)) 0 18) + 1)) 17 ((np_st (np_st σ 0 27 ((σ 0 27) - 1)) 0 18 (((np_st σ 0 27 ((σ 0 27) - 1)) 0 18) + 1)) 0 27))) 0 27)) - ((np_st (np_st (np_st σ 0 27 ((σ 0 27) - 1)) 0 18 (((np_st σ 0 27 ((σ 0 27) - 1)) 0 18) + 1)) 13 ((np_st σ 0 27 ((σ 0 27) - 1)) 0 18) ((np_st (np_st σ 0 27 ((σ 0 27) - 1)) 0 18 (((np_st σ 0 27 ((σ 0 27) - 1)) 0 18) + 1)) 17 ((np_st (np_st σ 0 27 ((σ 0 27) - 1)) 0 18 (((np_st σ 0 27 ((σ 0 27) - 1)) 0 18) + 1)) 0 27))) 17 ((np_st (np_st (np_st σ 0 27 ((σ 0 27) - 1)) 0 18 (((np_st σ 0 27 ((σ 0 27) - 1)) 0 18) + 1)) 13 ((np_st σ 0 27 ((σ 0 27) - 1)) 0 18) ((np_st (np_st σ 0 27 ((σ 0 27) - 1)) 0 18 (((np_st σ 0 27 ((σ 0 27) - 1)) 0 18) + 1)) 17 ((np_st (np_st σ 0 27 ((σ 0 27) - 1)) 0 18 (((np_st σ 0 27 ((σ 0 27) - 1)) 0 18) + 1)) 0 27))) 0 27)))) 0 27))) 0 27)) ((np_st (np_st (np_st (np_st (np_st σ 0 27 ((σ 0 27) - 1)) 0 18 (((np_st σ 0 27 ((σ 0 27) - 1)) 0 18) + 1)) 13 ((np_st σ 0 27 ((σ 0 27) - 1)) 0 18) ((np_st (np_st σ 0 27 ((σ 0 27) - 1)) 0 18 (((np_st σ 0 27 ((σ 0 27) - 1)) 0 18) + 1)) 17 ((np_st (np_st σ 0 27 ((σ 0 27) - 1)) 0 18 (((np_st σ 0 27 ((σ 0 27) - 1)) 0 18) + 1)) 0 27))) 14 ((np_st σ 0 27 ((σ 0 27) - 1)) 0 18) (((np_st (np_st (np_st σ 0 27 ((σ 0 27) - 1)) 0 18 (((np_st σ 0 27 ((σ 0 27) - 1)) 0 18) + 1)) 13 ((np_st σ 0 27 ((σ 0 27) - 1)) 0 18) ((np_st (np_st σ 0 27 ((σ 0 27) - 1)) 0 18 (((np_st σ 0 27 ((σ 0 27) - 1)) 0 18) + 1)) 17 ((np_st (np_st σ 0 27 ((σ 0 27) - 1)) 0 18 (((np_st σ 0 27 ((σ 0 27) - 1)) 0 18) + 1)) 0 27))) 18 ((np_st (np_st (np_st σ 0 27 ((σ 0 27) - 1)) 0 18 (((np_st σ 0 27 ((σ 0 27) - 1)) 0 18) + 1)) 13 ((np_st σ 0 27 ((σ 0 27) - 1)) 0 18) ((np_st (np_st σ 0 27 ((σ 0 27) - 1)) 0 18 (((np_st σ 0 27 ((σ 0 27) - 1)) 0 18) + 1)) 17 ((np_st (np_st σ 0 27 ((σ 0 27) - 1)) 0 18 (((np_st σ 0 27 ((σ 0 27) - 1)) 0 18) + 1)) 0 27))) 0 27)) - ((np_st (np_st (np_st σ 0 27 ((σ 0 27) - 1)) 0 18 (((np_st σ 0 27 ((σ 0 27) - 1)) 0 18) + 1)) 13 ((np_st σ 0 27 ((σ 0 27) - 1)) 0 18) ((np_st (np_st σ 0 27 ((σ 0 27) - 1)) 0 18 (((np_st σ 0 27 ((σ 0 27) - 1)) 0 18) + 1)) 17 ((np_st (np_st σ 0 27 ((σ 0 27) - 1)) 0 18 (((np_st σ 0 27 ((σ 0 27) - 1)) 0 18) + 1)) 0 27))) 17 ((np_st (np_st (np_st σ 0 27 ((σ 0 27) - 1)) 0 18 (((np_st σ 0 27 ((σ 0 27) - 1)) 0 18) + 1)) 13 ((np_st σ 0 27 ((σ 0 27) - 1)) 0 18) ((np_st (np_st σ 0 27 ((σ 0 27) - 1)) 0 18 (((np_st σ 0 27 ((σ 0 27) - 1)) 0 18) + 1)) 17 ((np_st (np_st σ 0 27 ((σ 0 27) - 1)) 0 18 (((np_st σ 0 27 ((σ 0 27) - 1)) 0 18) + 1)) 0 27))) 0 27)))) 15 ((np_st σ 0 27 ((σ 0 27) - 1)) 0 18) ((np_st (np_st (np_st (np_st σ 0 27 ((σ 0 27) - 1)) 0 18 (((np_st σ 0 27 ((σ 0 27) - 1)) 0 18) + 1)) 13 ((np_st σ 0 27 ((σ 0 27) - 1)) 0 18) ((np_st (np_st σ 0 27 ((σ 0 27) - 1)) 0 18 (((np_st σ 0 27 ((σ 0 27) - 1)) 0 18) + 1)) 17 ((np_st (np_st σ 0 27 ((σ 0 27) - 1)) 0 18 (((np_st σ 0 27 ((σ 0 27) - 1)) 0 18) + 1)) 0 27))) 14 ((np_st σ 0 27 ((σ 0 27) - 1)) 0 18) (((np_st (np_st (np_st σ 0 27 ((σ 0 27) - 1)) 0 18 (((np_st σ 0 27 ((σ 0 27) - 1)) 0 18) + 1)) 13 ((np_st σ 0 27 ((σ 0 27) - 1)) 0 18) ((np_st (np_st σ 0 27 ((σ 0 27) - 1)) 0 18 (((np_st σ 0 27 ((σ 0 27) - 1)) 0 18) + 1)) 17 ((np_st (np_st σ 0 27 ((σ 0 27) - 1)) 0 18 (((np_st σ 0 27 ((σ 0 27) - 1)) 0 18) + 1)) 0 27))) 18 ((np_st (np_st (np_st σ 0 27 ((σ 0 27) - 1)) 0 18 (((np_st σ 0 27 ((σ 0 27) - 1)) 0 18) + 1)) 13 ((np_st σ 0 27 ((σ 0 27) - 1)) 0 18) ((np_st (np_st σ 0 27 ((σ 0 27) - 1)) 0 18 (((np_st σ 0 27 ((σ 0 27) - 1)) 0 18) + 1)) 17 ((np_st (np_st σ 0 27 ((σ 0 27) - 1)) 0 18 (((np_st σ 0 27 ((σ 0 27) - 1)) 0 18) + 1)) 0 27))) 0 27)) - ((np_st (np_st (np_st σ 0 27 ((σ 0 27) - 1)) 0 18 (((np_st σ 0 27 ((σ 0 27) - 1)) 0 18) + 1)) 13 ((np_st σ 0 27 ((σ 0 27) - 1)) 0 18) ((np_st (np_st σ 0 27 ((σ 0 27) - 1)) 0 18 (((np_st σ 0 27 ((σ 0 27) - 1)) 0 18) + 1)) 17 ((np_st (np_st σ 0 27 ((σ 0 27) - 1)) 0 18 (((np_st σ 0 27 ((σ 0 27) - 1)) 0 18) + 1)) 0 27))) 17 ((np_st (np_st (np_st σ 0 27 ((σ 0 27) - 1)) 0 18 (((np_st σ 0 27 ((σ 0 27) - 1)) 0 18) + 1)) 13 ((np_st σ 0 27 ((σ 0 27) - 1)) 0 18) ((np_st (np_st σ 0 27 ((σ 0 27) - 1)) 0 18 (((np_st σ 0 27 ((σ 0 27) - 1)) 0 18) + 1)) 17 ((np_st (np_st σ 0 27 ((σ 0 27) - 1)) 0 18 (((np_st σ 0 27 ((σ 0 27) - 1)) 0 18) + 1)) 0 27))) 0 27)))) 19 ((np_st (np_st (np_st (np_st σ 0 27 ((σ 0 27) - 1)) 0 18 (((np_st σ 0 27 ((σ 0 27) - 1)) 0 18) + 1)) 13 ((np_st σ 0 27 ((σ 0 27) - 1)) 0 18) ((np_st (np_st σ 0 27 ((σ 0 27) - 1)) 0 18 (((np_st σ 0 27 ((σ 0 27) - 1)) 0 18) + 1)) 17 ((np_st (np_st σ 0 27 ((σ 0 27) - 1)) 0 18 (((np_st σ 0 27 ((σ 0 27) - 1)) 0 18) + 1)) 0 27))) 14 ((np_st σ 0 27 ((σ 0 27) - 1)) 0 18) (((np_st (np_st (np_st σ 0 27 ((σ 0 27) - 1)) 0 18 (((np_st σ 0 27 ((σ 0 27) - 1)) 0 18) + 1)) 13 ((np_st σ 0 27 ((σ 0 27) - 1)) 0 18) ((np_st (np_st σ 0 27 ((σ 0 27) - 1)) 0 18 (((np_st σ 0 27 ((σ 0 27) - 1)) 0 18) + 1)) 17 ((np_st (np_st σ 0 27 ((σ 0 27) - 1)) 0 18 (((np_st σ 0 27 ((σ 0 27) - 1)) 0 18) + 1)) 0 27))) 18 ((np_st (np_st (np_st σ 0 27 ((σ 0 27) - 1)) 0 18 (((np_st σ 0 27 ((σ 0 27) - 1)) 0 18) + 1)) 13 ((np_st σ 0 27 ((σ 0 27) - 1)) 0 18) ((np_st (np_st σ 0 27 ((σ 0 27) - 1)) 0 18 (((np_st σ 0 27 ((σ 0 27) - 1)) 0 18) + 1)) 17 ((np_st (np_st σ 0 27 ((σ 0 27) - 1)) 0 18 (((np_st σ 0 27 ((σ 0 27) - 1)) 0 18) + 1)) 0 27))) 0 27)) - ((np_st (np_st (np_st σ 0 27 ((σ 0 27) - 1)) 0 18 (((np_st σ 0 27 ((σ 0 27) - 1)) 0 18) + 1)) 13 ((np_st σ 0 27 ((σ 0 27) - 1)) 0 18) ((np_st (np_st σ 0 27 ((σ 0 27) - 1)) 0 18 (((np_st σ 0 27 ((σ 0 27) - 1)) 0 18) + 1)) 17 ((np_st (np_st σ 0 27 ((σ 0 27) - 1)) 0 18 (((np_st σ 0 27 ((σ 0 27) - 1)) 0 18) + 1)) 0 27))) 17 ((np_st (np_st (np_st σ 0 27 ((σ 0 27) - 1)) 0 18 (((np_st σ 0 27 ((σ 0 27) - 1)) 0 18) + 1)) 13 ((np_st σ 0 27 ((σ 0 27) - 1)) 0 18) ((np_st (np_st σ 0 27 ((σ 0 27) - 1)) 0 18 (((np_st σ 0 27 ((σ 0 27) - 1)) 0 18) + 1)) 17 ((np_st (np_st σ 0 27 ((σ 0 27) - 1)) 0 18 (((np_st σ 0 27 ((σ 0 27) - 1)) 0 18) + 1)) 0 27))) 0 27)))) 0 27))) 13 ((np_st σ 0 27 ((σ 0 27) - 1)) 0 18)) ((np_st (np_st (np_st (np_st (np_st σ 0 27 ((σ 0 27) - 1)) 0 18 (((np_st σ 0 27 ((σ 0 27) - 1)) 0 18) + 1)) 13 ((np_st σ 0 27 ((σ 0 27) - 1)) 0 18) ((np_st (np_st σ 0 27 ((σ 0 27) - 1)) 0 18 (((np_st σ 0 27 ((σ 0 27) - 1)) 0 18) + 1)) 17 ((np_st (np_st σ 0 27 ((σ 0 27) - 1)) 0 18 (((np_st σ 0 27 ((σ 0 27) - 1)) 0 18) + 1)) 0 27))) 14 ((np_st σ 0 27 ((σ 0 27) - 1)) 0 18) (((np_st (np_st (np_st σ 0 27 ((σ 0 27) - 1)) 0 18 (((np_st σ 0 27 ((σ 0 27) - 1)) 0 18) + 1)) 13 ((np_st σ 0 27 ((σ 0 27) - 1)) 0 18) ((np_st (np_st σ 0 27 ((σ 0 27) - 1)) 0 18 (((np_st σ 0 27 ((σ 0 27) - 1)) 0 18) + 1)) 17 ((np_st (np_st σ 0 27 ((σ 0 27) - 1)) 0 18 (((np_st σ 0 27 ((σ 0 27) - 1)) 0 18) + 1)) 0 27))) 18 ((np_st (np_st (np_st σ 0 27 ((σ 0 27) - 1)) 0 18 (((np_st σ 0 27 ((σ 0 27) - 1)) 0 18) + 1)) 13 ((np_st σ 0 27 ((σ 0 27) - 1)) 0 18) ((np_st (np_st σ 0 27 ((σ 0 27) - 1)) 0 18 (((np_st σ 0 27 ((σ 0 27) - 1)) 0 18) + 1)) 17 ((np_st (np_st σ 0 27 ((σ 0 27) - 1)) 0 18 (((np_st σ 0 27 ((σ 0 27) - 1)) 0 18) + 1)) 0 27))) 0 27)) - ((np_st (np_st (np_st σ 0 27 ((σ 0 27) - 1)) 0 18 (((np_st σ 0 27 ((σ 0 27) - 1)) 0 18) + 1)) 13 ((np_st σ 0 27 ((σ 0 27) - 1)) 0 18) ((np_st (np_st σ 0 27 ((σ 0 27) - 1)) 0 18 (((np_st σ 0 27 ((σ 0 27) - 1)) 0 18) + 1)) 17 ((np_st (np_st σ 0 27 ((σ 0 27) - 1)) 0 18 (((np_st σ 0 27 ((σ 0 27) - 1)) 0 18) + 1)) 0 27))) 17 ((np_st (np_st (np_st σ 0 27 ((σ 0 27) - 1)) 0 18 (((np_st σ 0 27 ((σ 0 27) - 1)) 0 18) + 1)) 13 ((np_st σ 0 27 ((σ 0 27) - 1)) 0 18) ((np_st (np_st σ 0 27 ((σ 0 27) - 1)) 0 18 (((np_st σ 0 27 ((σ 0 27) - 1)) 0 18) + 1)) 17 ((np_st (np_st σ 0 27 ((σ 0 27) - 1)) 0 18 (((np_st σ 0 27 ((σ 0 27) - 1)) 0 18) + 1)) 0 27))) 0 27)))) 15 ((np_st σ 0 27 ((σ 0 27) - 1)) 0 18) ((np_st (np_st (np_st (np_st σ 0 27 ((σ 0 27) - 1)) 0 18 (((np_st σ 0 27 ((σ 0 27) - 1)) 0 18) + 1)) 13 ((np_st σ 0 27 ((σ 0 27) - 1)) 0 18) ((np_st (np_st σ 0 27 ((σ 0 27) - 1)) 0 18 (((np_st σ 0 27 ((σ 0 27) - 1)) 0 18) + 1)) 17 ((np_st (np_st σ 0 27 ((σ 0 27) - 1)) 0 18 (((np_st σ 0 27 ((σ 0 27) - 1)) 0 18) + 1)) 0 27))) 14 ((np_st σ 0 27 ((σ 0 27) - 1)) 0 18) (((np_st (np_st (np_st σ 0 27 ((σ 0 27) - 1)) 0 18 (((np_st σ 0 27 ((σ 0 27) - 1)) 0 18) + 1)) 13 ((np_st σ 0 27 ((σ 0 27) - 1)) 0 18) ((np_st (np_st σ 0 27 ((σ 0 27) - 1)) 0 18 (((np_st σ 0 27 ((σ 0 27) - 1)) 0 18) + 1)) 17 ((np_st (np_st σ 0 27 ((σ 0 27) - 1)) 0 18 (((np_st σ 0 27 ((σ 0 27) - 1)) 0 18) + 1)) 0 27))) 18 ((np_st (np_st (np_st σ 0 27 ((σ 0 27) - 1)) 0 18 (((np_st σ 0 27 ((σ 0 27) - 1)) 0 18) + 1)) 13 ((np_st σ 0 27 ((σ 0 27) - 1)) 0 18) ((np_st (np_st σ 0 27 ((σ 0 27) - 1)) 0 18 (((np_st σ 0 27 ((σ 0 27) - 1)) 0 18) + 1)) 17 ((np_st (np_st σ 0 27 ((σ 0 27) - 1)) 0 18 (((np_st σ 0 27 ((σ 0 27) - 1)) 0 18) + 1)) 0 27))) 0 27)) - ((np_st (np_st (np_st σ 0 27 ((σ 0 27) - 1)) 0 18 (((np_st σ 0 27 ((σ 0 27) - 1)) 0 18) + 1)) 13 ((np_st σ 0 27 ((σ 0 27) - 1)) 0 18) ((np_st (np_st σ 0 27 ((σ 0 27) - 1)) 0 18 (((np_st σ 0 27 ((σ 0 27) - 1)) 0 18) + 1)) 17 ((np_st (np_st σ 0 27 ((σ 0 27) - 1)) 0 18 (((np_st σ 0 27 ((σ 0 27) - 1)) 0 18) + 1)) 0 27))) 17 ((np_st (np_st (np_st σ 0 27 ((σ 0 27) - 1)) 0 18 (((np_st σ 0 27 ((σ 0 27) - 1)) 0 18) + 1)) 13 ((np_st σ 0 27 ((σ 0 27) - 1)) 0 18) ((np_st (np_st σ 0 27 ((σ 0 27) - 1)) 0 18 (((np_st σ 0 27 ((σ 0 27) - 1)) 0 18) + 1)) 17 ((np_st (np_st σ 0 27 ((σ 0 27) - 1)) 0 18 (((np_st σ 0 27 ((σ 0 27) - 1)) 0 18) + 1)) 0 27))) 0 27)))) 19 ((np_st (np_st (np_st (np_st σ 0 27 ((σ 0 27) - 1)) 0 18 (((np_st σ 0 27 ((σ 0 27) - 1)) 0 18) + 1)) 13 ((np_st σ 0 27 ((σ 0 27) - 1)) 0 18) ((np_st (np_st σ 0 27 ((σ 0 27) - 1)) 0 18 (((np_st σ 0 27 ((σ 0 27) - 1)) 0 18) + 1)) 17 ((np_st (np_st σ 0 27 ((σ 0 27) - 1)) 0 18 (((np_st σ 0 27 ((σ 0 27) - 1)) 0 18) + 1)) 0 27))) 14 ((np_st σ 0 27 ((σ 0 27) - 1)) 0 18) (((np_st (np_st (np_st σ 0 27 ((σ 0 27) - 1)) 0 18 (((np_st σ 0 27 ((σ 0 27) - 1)) 0 18) + 1)) 13 ((np_st σ 0 27 ((σ 0 27) - 1)) 0 18) ((np_st (np_st σ 0 27 ((σ 0 27) - 1)) 0 18 (((np_st σ 0 27 ((σ 0 27) - 1)) 0 18) + 1)) 17 ((np_st (np_st σ 0 27 ((σ 0 27) - 1)) 0 18 (((np_st σ 0 27 ((σ 0 27) - 1)) 0 18) + 1)) 0 27))) 18 ((np_st (np_st (np_st σ 0 27 ((σ 0 27) - 1)) 0 18 (((np_st σ 0 27 ((σ 0 27) - 1)) 0 18) + 1)) 13 ((np_st σ 0 27 ((σ 0 27) - 1)) 0 18) ((np_st (np_st σ 0 27 ((σ 0 27) - 1)) 0 18 (((np_st σ 0 27 ((σ 0 27) - 1)) 0 18) + 1)) 17 ((np_st (np_st σ 0 27 ((σ 0 27) - 1)) 0 18 (((np_st σ 0 27 ((σ 0 27) - 1)) 0 18) + 1)) 0 27))) 0 27)) - ((np_st (np_st (np_st σ 0 27 ((σ 0 27) - 1)) 0 18 (((np_st σ 0 27 ((σ 0 27) - 1)) 0 18) + 1)) 13 ((np_st σ 0 27 ((σ 0 27) - 1)) 0 18) ((np_st (np_st σ 0 27 ((σ 0 27) - 1)) 0 18 (((np_st σ 0 27 ((σ 0 27) - 1)) 0 18) + 1)) 17 ((np_st (np_st σ 0 27 ((σ 0 27) - 1)) 0 18 (((np_st σ 0 27 ((σ 0 27) - 1)) 0 18) + 1)) 0 27))) 17 ((np_st (np_st (np_st σ 0 27 ((σ 0 27) - 1)) 0 18 (((np_st σ 0 27 ((σ 0 27) - 1)) 0 18) + 1)) 13 ((np_st σ 0 27 ((σ 0 27) - 1)) 0 18) ((np_st (np_st σ 0 27 ((σ 0 27) - 1)) 0 18 (((np_st σ 0 27 ((σ 0 27) - 1)) 0 18) + 1)) 17 ((np_st (np_st σ 0 27 ((σ 0 27) - 1)) 0 18 (((np_st σ 0 27 ((σ 0 27) - 1)) 0 18) + 1)) 0 27))) 0 27)))) 0 27))) 18 ((np_st (np_st (np_st (np_st (np_st σ 0 27 ((σ 0 27) - 1)) 0 18 (((np_st σ 0 27 ((σ 0 27) - 1)) 0 18) + 1)) 13 ((np_st σ 0 27 ((σ 0 27) - 1)) 0 18) ((np_st (np_st σ 0 27 ((σ 0 27) - 1)) 0 18 (((np_st σ 0 27 ((σ 0 27) - 1)) 0 18) + 1)) 17 ((np_st (np_st σ 0 27 ((σ 0 27) - 1)) 0 18 (((np_st σ 0 27 ((σ 0 27) - 1)) 0 18) + 1)) 0 27))) 14 ((np_st σ 0 27 ((σ 0 27) - 1)) 0 18) (((np_st (np_st (np_st σ 0 27 ((σ 0 27) - 1)) 0 18 (((np_st σ 0 27 ((σ 0 27) - 1)) 0 18) + 1)) 13 ((np_st σ 0 27 ((σ 0 27) - 1)) 0 18) ((np_st (np_st σ 0 27 ((σ 0 27) - 1)) 0 18 (((np_st σ 0 27 ((σ 0 27) - 1)) 0 18) + 1)) 17 ((np_st (np_st σ 0 27 ((σ 0 27) - 1)) 0 18 (((np_st σ 0 27 ((σ 0 27) - 1)) 0 18) + 1)) 0 27))) 18 ((np_st (np_st (np_st σ 0 27 ((σ 0 27) - 1)) 0 18 (((np_st σ 0 27 ((σ 0 27) - 1)) 0 18) + 1)) 13 ((np_st σ 0 27 ((σ 0 27) - 1)) 0 18) ((np_st (np_st σ 0 27 ((σ 0 27) - 1)) 0 18 (((np_st σ 0 27 ((σ 0 27) - 1)) 0 18) + 1)) 17 ((np_st (np_st σ 0 27 ((σ 0 27) - 1)) 0 18 (((np_st σ 0 27 ((σ 0 27) - 1)) 0 18) + 1)) 0 27))) 0 27)) - ((np_st (np_st (np_st σ 0 27 ((σ 0 27) - 1)) 0 18 (((np_st σ 0 27 ((σ 0 27) - 1)) 0 18) + 1)) 13 ((np_st σ 0 27 ((σ 0 27) - 1)) 0 18) ((np_st (np_st σ 0 27 ((σ 0 27) - 1)) 0 18 (((np_st σ 0 27 ((σ 0 27) - 1)) 0 18) + 1)) 17 ((np_st (np_st σ 0 27 ((σ 0 27) - 1)) 0 18 (((np_st σ 0 27 ((σ 0 27) - 1)) 0 18) + 1)) 0 27))) 17 ((np_st (np_st (np_st σ 0 27 ((σ 0 27) - 1)) 0 18 (((np_st σ 0 27 ((σ 0 27) - 1)) 0 18) + 1)) 13 ((np_st σ 0 27 ((σ 0 27) - 1)) 0 18) ((np_st (np_st σ 0 27 ((σ 0 27) - 1)) 0 18 (((np_st σ 0 27 ((σ 0 27) - 1)) 0 18) + 1)) 17 ((np_st (np_st σ 0 27 ((σ 0 27) - 1)) 0 18 (((np_st σ 0 27 ((σ 0 27) - 1)) 0 18) + 1)) 0 27))) 0 27)))) 15 ((np_st σ 0 27 ((σ 0 27) - 1)) 0 18) ((np_st (np_st (np_st (np_st σ 0 27 ((σ 0 27) - 1)) 0 18 (((np_st σ 0 27 ((σ 0 27) - 1)) 0 18) + 1)) 13 ((np_st σ 0 27 ((σ 0 27) - 1)) 0 18) ((np_st (np_st σ 0 27 ((σ 0 27) - 1)) 0 18 (((np_st σ 0 27 ((σ 0 27) - 1)) 0 18) + 1)) 17 ((np_st (np_st σ 0 27 ((σ 0 27) - 1)) 0 18 (((np_st σ 0 27 ((σ 0 27) - 1)) 0 18) + 1)) 0 27))) 14 ((np_st σ 0 27 ((σ 0 27) - 1)) 0 18) (((np_st (np_st (np_st σ 0 27 ((σ 0 27) - 1)) 0 18 (((np_st σ 0 27 ((σ 0 27) - 1)) 0 18) + 1)) 13 ((np_st σ 0 27 ((σ 0 27) - 1)) 0 18) ((np_st (np_st σ 0 27 ((σ 0 27) - 1)) 0 18 (((np_st σ 0 27 ((σ 0 27) - 1)) 0 18) + 1)) 17 ((np_st (np_st σ 0 27 ((σ 0 27) - 1)) 0 18 (((np_st σ 0 27 ((σ 0 27) - 1)) 0 18) + 1)) 0 27))) 18 ((np_st (np_st (np_st σ 0 27 ((σ 0 27) - 1)) 0 18 (((np_st σ 0 27 ((σ 0 27) - 1)) 0 18) + 1)) 13 ((np_st σ 0 27 ((σ 0 27) - 1)) 0 18) ((np_st (np_st σ 0 27 ((σ 0 27) - 1)) 0 18 (((np_st σ 0 27 ((σ 0 27) - 1)) 0 18) + 1)) 17 ((np_st (np_st σ 0 27 ((σ 0 27) - 1)) 0 18 (((np_st σ 0 27 ((σ 0 27) - 1)) 0 18) + 1)) 0 27))) 0 27)) - ((np_st (np_st (np_st σ 0 27 ((σ 0 27) - 1)) 0 18 (((np_st σ 0 27 ((σ 0 27) - 1)) 0 18) + 1)) 13 ((np_st σ 0 27 ((σ 0 27) - 1)) 0 18) ((np_st (np_st σ 0 27 ((σ 0 27) - 1)) 0 18 (((np_st σ 0 27 ((σ 0 27) - 1)) 0 18) + 1)) 17 ((np_st (np_st σ 0 27 ((σ 0 27) - 1)) 0 18 (((np_st σ 0 27 ((σ 0 27) - 1)) 0 18) + 1)) 0 27))) 17 ((np_st (np_st (np_st σ 0 27 ((σ 0 27) - 1)) 0 18 (((np_st σ 0 27 ((σ 0 27) - 1)) 0 18) + 1)) 13 ((np_st σ 0 27 ((σ 0 27) - 1)) 0 18) ((np_st (np_st σ 0 27 ((σ 0 27) - 1)) 0 18 (((np_st σ 0 27 ((σ 0 27) - 1)) 0 18) + 1)) 17 ((np_st (np_st σ 0 27 ((σ 0 27) - 1)) 0 18 (((np_st σ 0 27 ((σ 0 27) - 1)) 0 18) + 1)) 0 27))) 0 27)))) 19 ((np_st (np_st (np_st (np_st σ 0 27 ((σ 0 27) - 1)) 0 18 (((np_st σ 0 27 ((σ 0 27) - 1)) 0 18) + 1)) 13 ((np_st σ 0 27 ((σ 0 27) - 1)) 0 18) ((np_st (np_st σ 0 27 ((σ 0 27) - 1)) 0 18 (((np_st σ 0 27 ((σ 0 27) - 1)) 0 18) + 1)) 17 ((np_st (np_st σ 0 27 ((σ 0 27) - 1)) 0 18 (((np_st σ 0 27 ((σ 0 27) - 1)) 0 18) + 1)) 0 27))) 14 ((np_st σ 0 27 ((σ 0 27) - 1)) 0 18) (((np_st (np_st (np_st σ 0 27 ((σ 0 27) - 1)) 0 18 (((np_st σ 0 27 ((σ 0 27) - 1)) 0 18) + 1)) 13 ((np_st σ 0 27 ((σ 0 27) - 1)) 0 18) ((np_st (np_st σ 0 27 ((σ 0 27) - 1)) 0 18 (((np_st σ 0 27 ((σ 0 27) - 1)) 0 18) + 1)) 17 ((np_st (np_st σ 0 27 ((σ 0 27) - 1)) 0 18 (((np_st σ 0 27 ((σ 0 27) - 1)) 0 18) + 1)) 0 27))) 18 ((np_st (np_st (np_st σ 0 27 ((σ 0 27) - 1)) 0 18 (((np_st σ 0 27 ((σ 0 27) - 1)) 0 18) + 1)) 13 ((np_st σ 0 27 ((σ 0 27) - 1)) 0 18) ((np_st (np_st σ 0 27 ((σ 0 27) - 1)) 0 18 (((np_st σ 0 27 ((σ 0 27) - 1)) 0 18) + 1)) 17 ((np_st (np_st σ 0 27 ((σ 0 27) - 1)) 0 18 (((np_st σ 0 27 ((σ 0 27) - 1)) 0 18) + 1)) 0 27))) 0 27)) - ((np_st (np_st (np_st σ 0 27 ((σ 0 27) - 1)) 0 18 (((np_st σ 0 27 ((σ 0 27) - 1)) 0 18) + 1)) 13 ((np_st σ 0 27 ((σ 0 27) - 1)) 0 18) ((np_st (np_st σ 0 27 ((σ 0 27) - 1)) 0 18 (((np_st σ 0 27 ((σ 0 27) - 1)) 0 18) + 1)) 17 ((np_st (np_st σ 0 27 ((σ 0 27) - 1)) 0 18 (((np_st σ 0 27 ((σ 0 27) - 1)) 0 18) + 1)) 0 27))) 17 ((np_st (np_st (np_st σ 0 27 ((σ 0 27) - 1)) 0 18 (((np_st σ 0 27 ((σ 0 27) - 1)) 0 18) + 1)) 13 ((np_st σ 0 27 ((σ 0 27) - 1)) 0 18) ((np_st (np_st σ 0 27 ((σ 0 27) - 1)) 0 18 (((np_st σ 0 27 ((σ 0 27) - 1)) 0 18) + 1)) 17 ((np_st (np_st σ 0 27 ((σ 0 27) - 1)) 0 18 (((np_st σ 0 27 ((σ 0 27) - 1)) 0 18) + 1)) 0 27))) 0 27)))) 0 27))) 0 27)) (np_st (np_st (np_st (np_st (np_st σ 0 27 ((σ 0 27) - 1)) 0 18 (((np_st σ 0 27 ((σ 0 27) - 1)) 0 18) + 1)) 13 ((np_st σ 0 27 ((σ 0 27) - 1)) 0 18) ((np_st (np_st σ 0 27 ((σ 0 27) - 1)) 0 18 (((np_st σ 0 27 ((σ 0 27) - 1)) 0 18) + 1)) 17 ((np_st (np_st σ 0 27 ((σ 0 27) - 1)) 0 18 (((np_st σ 0 27 ((σ 0 27) - 1)) 0 18) + 1)) 0 27))) 14 ((np_st σ 0 27 ((σ 0 27) - 1)) 0 18) (((np_st (np_st (np_st σ 0 27 ((σ 0 27) - 1)) 0 18 (((np_st σ 0 27 ((σ 0 27) - 1)) 0 18) + 1)) 13 ((np_st σ 0 27 ((σ 0 27) - 1)) 0 18) ((np_st (np_st σ 0 27 ((σ 0 27) - 1)) 0 18 (((np_st σ 0 27 ((σ 0 27) - 1)) 0 18) + 1)) 17 ((np_st (np_st σ 0 27 ((σ 0 27) - 1)) 0 18 (((np_st σ 0 27 ((σ 0 27) - 1)) 0 18) + 1)) 0 27))) 18 ((np_st (np_st (np_st σ 0 27 ((σ 0 27) - 1)) 0 18 (((np_st σ 0 27 ((σ 0 27) - 1)) 0 18) + 1)) 13 ((np_st σ 0 27 ((σ 0 27) - 1)) 0 18) ((np_st (np_st σ 0 27 ((σ 0 27) - 1)) 0 18 (((np_st σ 0 27 ((σ 0 27) - 1)) 0 18) + 1)) 17 ((np_st (np_st σ 0 27 ((σ 0 27) - 1)) 0 18 (((np_st σ 0 27 ((σ 0 27) - 1)) 0 18) + 1)) 0 27))) 0 27)) - ((np_st (np_st (np_st σ 0 27 ((σ 0 27) - 1)) 0 18 (((np_st σ 0 27 ((σ 0 27) - 1)) 0 18) + 1)) 13 ((np_st σ 0 27 ((σ 0 27) - 1)) 0 18) ((np_st (np_st σ 0 27 ((σ 0 27) - 1)) 0 18 (((np_st σ 0 27 ((σ 0 27) - 1)) 0 18) + 1)) 17 ((np_st (np_st σ 0 27 ((σ 0 27) - 1)) 0 18 (((np_st σ 0 27 ((σ 0 27) - 1)) 0 18) + 1)) 0 27))) 17 ((np_st (np_st (np_st σ 0 27 ((σ 0 27) - 1)) 0 18 (((np_st σ 0 27 ((σ 0 27) - 1)) 0 18) + 1)) 13 ((np_st σ 0 27 ((σ 0 27) - 1)) 0 18) ((np_st (np_st σ 0 27 ((σ 0 27) - 1)) 0 18 (((np_st σ 0 27 ((σ 0 27) - 1)) 0 18) + 1)) 17 ((np_st (np_st σ 0 27 ((σ 0 27) - 1)) 0 18 (((np_st σ 0 27 ((σ 0 27) - 1)) 0 18) + 1)) 0 27))) 0 27)))) 15 ((np_st σ 0 27 ((σ 0 27) - 1)) 0 18) ((np_st (np_st (np_st (np_st σ 0 27 ((σ 0 27) - 1)) 0 18 (((np_st σ 0 27 ((σ 0 27) - 1)) 0 18) + 1)) 13 ((np_st σ 0 27 ((σ 0 27) - 1)) 0 18) ((np_st (np_st σ 0 27 ((σ 0 27) - 1)) 0 18 (((np_st σ 0 27 ((σ 0 27) - 1)) 0 18) + 1)) 17 ((np_st (np_st σ 0 27 ((σ 0 27) - 1)) 0 18 (((np_st σ 0 27 ((σ 0 27) - 1)) 0 18) + 1)) 0 27))) 14 ((np_st σ 0 27 ((σ 0 27) - 1)) 0 18) (((np_st (np_st (np_st σ 0 27 ((σ 0 27) - 1)) 0 18 (((np_st σ 0 27 ((σ 0 27) - 1)) 0 18) + 1)) 13 ((np_st σ 0 27 ((σ 0 27) - 1)) 0 18) ((np_st (np_st σ 0 27 ((σ 0 27) - 1)) 0 18 (((np_st σ 0 27 ((σ 0 27) - 1)) 0 18) + 1)) 17 ((np_st (np_st σ 0 27 ((σ 0 27) - 1)) 0 18 (((np_st σ 0 27 ((σ 0 27) - 1)) 0 18) + 1)) 0 27))) 18 ((np_st (np_st (np_st σ 0 27 ((σ 0 27) - 1)) 0 18 (((np_st σ 0 27 ((σ 0 27) - 1)) 0 18) + 1)) 13 ((np_st σ 0 27 ((σ 0 27) - 1)) 0 18) ((np_st (np_st σ 0 27 ((σ 0 27) - 1)) 0 18 (((np_st σ 0 27 ((σ 0 27) - 1)) 0 18) + 1)) 17 ((np_st (np_st σ 0 27 ((σ 0 27) - 1)) 0 18 (((np_st σ 0 27 ((σ 0 27) - 1)) 0 18) + 1)) 0 27))) 0 27)) - ((np_st (np_st (np_st σ 0 27 ((σ 0 27) - 1)) 0 18 (((np_st σ 0 27 ((σ 0 27) - 1)) 0 18) + 1)) 13 ((np_st σ 0 27 ((σ 0 27) - 1)) 0 18) ((np_st (np_st σ 0 27 ((σ 0 27) - 1)) 0 18 (((np_st σ 0 27 ((σ 0 27) - 1)) 0 18) + 1)) 17 ((np_st (np_st σ 0 27 ((σ 0 27) - 1)) 0 18 (((np_st σ 0 27 ((σ 0 27) - 1)) 0 18) + 1)) 0 27))) 17 ((np_st (np_st (np_st σ 0 27 ((σ 0 27) - 1)) 0 18 (((np_st σ 0 27 ((σ 0 27) - 1)) 0 18) + 1)) 13 ((np_st σ 0 27 ((σ 0 27) - 1)) 0 18) ((np_st (np_st σ 0 27 ((σ 0 27) - 1)) 0 18 (((np_st σ 0 27 ((σ 0 27) - 1)) 0 18) + 1)) 17 ((np_st (np_st σ 0 27 ((σ 0 27) - 1)) 0 18 (((np_st σ 0 27 ((σ 0 27) - 1)) 0 18) + 1)) 0 27))) 0 27)))) 19 ((np_st (np_st (np_st (np_st σ 0 27 ((σ 0 27) - 1)) 0 18 (((np_st σ 0 27 ((σ 0 27) - 1)) 0 18) + 1)) 13 ((np_st σ 0 27 ((σ 0 27) - 1)) 0 18) ((np_st (np_st σ 0 27 ((σ 0 27) - 1)) 0 18 (((np_st σ 0 27 ((σ 0 27) - 1)) 0 18) + 1)) 17 ((np_st (np_st σ 0 27 ((σ 0 27) - 1)) 0 18 (((np_st σ 0 27 ((σ 0 27) - 1)) 0 18) + 1)) 0 27))) 14 ((np_st σ 0 27 ((σ 0 27) - 1)) 0 18) (((np_st (np_st (np_st σ 0 27 ((σ 0 27) - 1)) 0 18 (((np_st σ 0 27 ((σ 0 27) - 1)) 0 18) + 1)) 13 ((np_st σ 0 27 ((σ 0 27) - 1)) 0 18) ((np_st (np_st σ 0 27 ((σ 0 27) - 1)) 0 18 (((np_st σ 0 27 ((σ 0 27) - 1)) 0 18) + 1)) 17 ((np_st (np_st σ 0 27 ((σ 0 27) - 1)) 0 18 (((np_st σ 0 27 ((σ 0 27) - 1)) 0 18) + 1)) 0 27))) 18 ((np_st (np_st (np_st σ 0 27 ((σ 0 27) - 1)) 0 18 (((np_st σ 0 27 ((σ 0 27) - 1)) 0 18) + 1)) 13 ((np_st σ 0 27 ((σ 0 27) - 1)) 0 18) ((np_st (np_st σ 0 27 ((σ 0 27) - 1)) 0 18 (((np_st σ 0 27 ((σ 0 27) - 1)) 0 18) + 1)) 17 ((np_st (np_st σ 0 27 ((σ 0 27) - 1)) 0 18 (((np_st σ 0 27 ((σ 0 27) - 1)) 0 18) + 1)) 0 27))) 0 27)) - ((np_st (np_st (np_st σ 0 27 ((σ 0 27) - 1)) 0 18 (((np_st σ 0 27 ((σ 0 27) - 1)) 0 18) + 1)) 13 ((np_st σ 0 27 ((σ 0 27) - 1)) 0 18) ((np_st (np_st σ 0 27 ((σ 0 27) - 1)) 0 18 (((np_st σ 0 27 ((σ 0 27) - 1)) 0 18) + 1)) 17 ((np_st (np_st σ 0 27 ((σ 0 27) - 1)) 0 18 (((np_st σ 0 27 ((σ 0 27) - 1)) 0 18) + 1)) 0 27))) 17 ((np_st (np_st (np_st σ 0 27 ((σ 0 27) - 1)) 0 18 (((np_st σ 0 27 ((σ 0 27) - 1)) 0 18) + 1)) 13 ((np_st σ 0 27 ((σ 0 27) - 1)) 0 18) ((np_st (np_st σ 0 27 ((σ 0 27) - 1)) 0 18 (((np_st σ 0 27 ((σ 0 27) - 1)) 0 18) + 1)) 17 ((np_st (np_st σ 0 27 ((σ 0 27) - 1)) 0 18 (((np_st σ 0 27 ((σ 0 27) - 1)) 0 18) + 1)) 0 27))) 0 27)))) 0 27)))).bind (fun o2 => np_ck ((0 : Int) ≤ (np_st σ 0 27 ((σ 0 27) - 1)) 0 18 ∧ (np_st σ 0 27 ((σ 0 27) - 1)) 0 18 < 40) (np_ck ((0 : Int) ≤ (np_st σ 0 27 ((σ 0 27) - 1)) 0 18 ∧ (np_st σ 0 27 ((σ 0 27) - 1)) 0 18 < 40) (np_ck (np_R ((np_st o2.2 12 ((np_st σ 0 27 ((σ 0 27) - 1)) 0 18) o2.1) 12 ((np_st σ 0 27 ((σ 0 27) - 1)) 0 18)) ∧ np_R ((-2))) (if (np_st o2.2 12 ((np_st σ 0 27 ((σ 0 27) - 1)) 0 18) o2.1) 12 ((np_st σ 0 27 ((σ 0 27) - 1)) 0 18) ≠ (-2) then (f_M_grow_177 k16 ((np_st σ 0 27 ((σ 0 27) - 1)) 0 18) (np_st o2.2 12 ((np_st σ 0 27 ((σ 0 27) - 1)) 0 18) o2.1)) else (np_ck ((0 : Int) ≤ (np_st σ 0 27 ((σ 0 27) - 1)) 0 18 ∧ (np_st σ 0 27 ((σ 0 27) - 1)) 0 18 < 40) (np_ck ((0 : Int) ≤ (np_st σ 0 27 ((σ 0 27) - 1)) 0 18 ∧ (np_st σ 0 27 ((σ 0 27) - 1)) 0 18 < 40) (np_ck ((0 : Int) ≤ (np_st σ 0 27 ((σ 0 27) - 1)) 0 18 ∧ (np_st σ 0 27 ((σ 0 27) - 1)) 0 18 < 40) ((f_M_later 0 (((np_st o2.2 12 ((np_st σ 0 27 ((σ 0 27) - 1)) 0 18) o2.1) 13 ((np_st σ 0 27 ((σ 0 27) - 1)) 0 18)) + 1) ((((np_st o2.2 12 ((np_st σ 0 27 ((σ 0 27) - 1)) 0 18) o2.1) 13 ((np_st σ 0 27 ((σ 0 27) - 1)) 0 18)) + ((np_st o2.2 12 ((np_st σ 0 27 ((σ 0 27) - 1)) 0 18) o2.1) 14 ((np_st σ 0 27 ((σ 0 27) - 1)) 0 18))) - 1) ((np_st σ 0 27 ((σ 0 27) - 1)) 0 18) (np_st o2.2 12 ((np_st σ 0 27 ((σ 0 27) - 1)) 0 18) o2.1)).bind (fun o3 => f_M_grow_177 k16 ((np_st σ 0 27 ((σ 0 27) - 1)) 0 18) o3.2)))))))))))))))))))))
def f_M_grow_16  : Nat → np_S → Option np_O
  | 0, _ => none
  | n + 1, σ => f_M_grow_16_b  (fun σ => f_M_grow_16  n σ) σ
def f_M_grow  (σ : np_S) : Option np_O := (f_M_later 0 0 ((np_st σ 0 27 0) 0 11) ((-1)) (np_st σ 0 27 0)).bind (fun o4 => f_M_grow_16 6000 o4.2)
def f_M_read_150  (x3 : Int) (σ : np_S) : Option np_O := some (x3, σ)
def f_M_read_117  (σ : np_S) : Option np_O := np_ck (np_R (σ 0 0)) (if σ 0 0 ≤ 0 then ((f_M_cell 0 0 (σ 0 11) σ).bind (fun o1 => np_ck ((0 : Int) ≤ o1.1 ∧ o1.1 < 10571) (np_ck (np_R (o1.2 8 o1.1) ∧ np_R 1) (if o1.2 8 o1.1 ≠ 1 then (f_M_read_150 (o1.2 8 o1.1) o1.2) else ((f_M_grow o1.2).bind (fun o2 => f_M_read_150 (o1.2 8 o1.1) o2.2)))))) else (some (0, σ)))
def f_M_read_53  (x1 x2 : Int) (σ : np_S) : Option np_O := np_ck (np_R x2 ∧ np_R (σ 0 11)) (if σ 0 11 < x2 then (np_ck (np_R x1 ∧ np_R ((-1))) (if x1 = (-1) then ((f_M_cell 0 0 (σ 0 11) σ).bind (fun o3 => np_ck ((0 : Int) ≤ o3.1 ∧ o3.1 < 10571) (np_ck (np_R (o3.2 8 o3.1)) (if o3.2 8 o3.1 ≠ 0 then (f_M_read_117 o3.2) else ((f_M_faulty 1 (o3.2 0 8) o3.2).bind (fun o4 => f_M_read_117 o4.2)))))) else ((f_M_faulty 2 x1 σ).bind (fun o5 => f_M_read_117 o5.2)))) else (np_ck ((0 : Int) ≤ x2 - 1 ∧ x2 - 1 < 31) ((f_M_faulty 1 (σ 7 (x2 - 1)) σ).bind (fun o6 => f_M_read_117 o6.2))))
def f_M_read_31_b  (k31 : (Int → Int → np_S → Option np_O)) (x1 x2 : Int) (σ : np_S) : Option np_O := np_ck (np_R x2 ∧ np_R (σ 0 11)) (if σ 0 11 < x2 then (f_M_read_53 x1 x2 σ) else ((f_M_canBegin x2 σ).bind (fun o7 => np_ck (np_R o7.1) (if o7.1 = 0 then (f_M_read_53 x1 x2 o7.2) else (k31 x1 (x2 + 1) o7.2)))))
def f_M_read_31  : Nat → Int → Int → np_S → Option np_O
  | 0, _, _, _ => none
  | n + 1, x1, x2, σ => f_M_read_31_b  (fun x1 x2 σ => f_M_read_31  n x1 x2 σ) x1 x2 σ
def f_M_read  (σ : np_S) : Option np_O := (f_M_takeWords (np_st (np_st (np_st (np_st σ 0 0 0) 0 18 0) 0 9 0) 0 10 ((-1)))).bind (fun o8 => (f_M_count o8.2).bind (fun o9 => f_M_read_31 6000 o8.1 1 o9.2))
def f_M_fault_29  (t0 : Int) (σ : np_S) : Option np_O := some (t0, σ)
def f_M_fault  (x1 : Int) (σ : np_S) : Option np_O := np_ck (np_R x1) (if x1 ≠ 0 then (np_ck (np_R x1 ∧ np_R 1) (if x1 ≠ 1 then (f_M_fault_29 ((-1)) (np_st σ 0 0 0)) else (f_M_fault_29 ((np_st σ 0 0 0) 0 10) (np_st σ 0 0 0)))) else (f_M_fault_29 ((np_st σ 0 0 0) 0 9) (np_st σ 0 0 0)))
def f_M_children_30 (k6 : (Int → Int → Int → np_S → Option np_O)) (x1 x3 t0 t1 : Int) (σ : np_S) : Option np_O := k6 x1 (t0 + t1) (x3 + 1) σ
def f_M_children_6_b  (k6 : (Int → Int → Int → np_S → Option np_O)) (x1 x2 x3 : Int) (σ : np_S) : Option np_O := np_ck (np_R x3 ∧ np_R (σ 0 18)) (if σ 0 18 ≤ x3 then (some (x2, σ)) else (np_ck ((0 : Int) ≤ x3 ∧ x3 < 40) (np_ck (np_R (σ 15 x3) ∧ np_R x1) (if σ 15 x3 ≠ x1 then (f_M_children_30 k6 x1 x3 x2 0 σ) else (f_M_children_30 k6 x1 x3 x2 1 σ)))))
def f_M_children_6  : Nat → Int → Int → Int → np_S → Option np_O
  | 0, _, _, _, _ => none
  | n + 1, x1, x2, x3, σ => f_M_children_6_b  (fun x1 x2 x3 σ => f_M_children_6  n x1 x2 x3 σ) x1 x2 x3 σ
def f_M_children  (x1 : Int) (σ : np_S) : Option np_O := f_M_children_6 6000 x1 0 (x1 + 1) σ
def f_M_node_18  (x1 x2 t1 : Int) (σ : np_S) : Option np_O := np_ck (np_R ((np_st σ 0 0 t1) 0 0)) (if (np_st σ 0 0 t1) 0 0 ≤ 0 then (np_ck (np_R x2) (if x2 = 0 then (np_ck ((0 : Int) ≤ x1 ∧ x1 < 40) (some ((np_st σ 0 0 t1) 12 x1, (np_st σ 0 0 t1)))) else (if x2 = 1 then ((f_M_children x1 (np_st σ 0 0 t1)).bind (fun o1 => some (o1.1, o1.2))) else (if x2 = 2 then (np_ck ((0 : Int) ≤ x1 ∧ x1 < 40) (np_ck ((0 : Int) ≤ (np_st σ 0 0 t1) 13 x1 ∧ (np_st σ 0 0 t1) 13 x1 < 31) (some ((np_st σ 0 0 t1) 7 ((np_st σ 0 0 t1) 13 x1), (np_st σ 0 0 t1))))) else (if x2 = 3 then (np_ck ((0 : Int) ≤ x1 ∧ x1 < 40) (some ((np_st σ 0 0 t1) 14 x1, (np_st σ 0 0 t1)))) else (if x2 = 4 then (np_ck ((0 : Int) ≤ x1 ∧ x1 < 40) (some ((np_st σ 0 0 t1) 15 x1, (np_st σ 0 0 t1)))) else (some ((-3), (np_st σ 0 0 t1))))))))) else (some (0, (np_st σ 0 0 t1))))
def f_M_node_13  (x1 x2 : Int) (σ : np_S) : Option np_O := f_M_node_18 x1 x2 1 σ
def f_M_node  (x1 x2 : Int) (σ : np_S) : Option np_O := np_ck (np_R x1) (if x1 < 0 then (f_M_node_13 x1 x2 σ) else (np_ck (np_R x1 ∧ np_R (σ 0 18)) (if x1 < σ 0 18 then (f_M_node_18 x1 x2 0 σ) else (f_M_node_13 x1 x2 σ))))
def f_M_childAt_24 (k4 : (Int → Int → Int → np_S → Option np_O)) (x1 x2 x3 : Int) (σ : np_S) : Option np_O := k4 x1 x2 (x3 + 1) σ
def f_M_childAt_4_b  (k4 : (Int → Int → Int → np_S → Option np_O)) (x1 x2 x3 : Int) (σ : np_S) : Option np_O := np_ck ((0 : Int) ≤ x3 ∧ x3 < 40) (np_ck (np_R (σ 15 x3) ∧ np_R x1) (if σ 15 x3 ≠ x1 then (f_M_childAt_24 k4 x1 x2 x3 σ) else (np_ck ((0 : Int) ≤ x3 ∧ x3 < 40) (np_ck (np_R (σ 13 x3) ∧ np_R x2) (if σ 13 x3 = x2 then (some (x3, σ)) else (f_M_childAt_24 k4 x1 x2 x3 σ))))))
def f_M_childAt_4  : Nat → Int → Int → Int → np_S → Option np_O
  | 0, _, _, _, _ => none
  | n + 1, x1, x2, x3, σ => f_M_childAt_4_b  (fun x1 x2 x3 σ => f_M_childAt_4  n x1 x2 x3 σ) x1 x2 x3 σ
def f_M_childAt  (x1 x2 : Int) (σ : np_S) : Option np_O := f_M_childAt_4 6000 x1 x2 (x1 + 1) σ
def f_M_putWord_74 (k31 : (Int → Int → np_S → Option np_O)) (x1 x3 : Int) (σ : np_S) : Option np_O := k31 x1 (x3 + (-8)) σ
def f_M_putWord_31_b  (k31 : (Int → Int → np_S → Option np_O)) (x1 x3 : Int) (σ : np_S) : Option np_O := np_ck (np_R x3) (if x3 < 0 then (some (0, σ)) else (np_ck (np_R (np_andl (np_shrl x1 x3) 255)) (if np_andl (np_shrl x1 x3) 255 ≠ 0 then (np_ck ((0 : Int) ≤ σ 0 28 ∧ σ 0 28 < 1200) (f_M_putWord_74 k31 x1 x3 (np_st (np_st σ 20 (σ 0 28) (np_andl (np_shrl x1 x3) 255)) 0 28 (((np_st σ 20 (σ 0 28) (np_andl (np_shrl x1 x3) 255)) 0 28) + 1)))) else (f_M_putWord_74 k31 x1 x3 σ))))
def f_M_putWord_31  : Nat → Int → Int → np_S → Option np_O
  | 0, _, _, _ => none
  | n + 1, x1, x3, σ => f_M_putWord_31_b  (fun x1 x3 σ => f_M_putWord_31  n x1 x3 σ) x1 x3 σ
def f_M_putWord_28  (x1 : Int) (σ : np_S) : Option np_O := f_M_putWord_31 6000 x1 56 σ
def f_M_putWord  (x1 : Int) (σ : np_S) : Option np_O := np_ck (np_R (σ 0 28)) (if σ 0 28 ≤ 0 then (f_M_putWord_28 x1 σ) else (np_ck ((0 : Int) ≤ σ 0 28 ∧ σ 0 28 < 1200) (f_M_putWord_28 x1 (np_st (np_st σ 20 (σ 0 28) 32) 0 28 (((np_st σ 20 (σ 0 28) 32) 0 28) + 1)))))
def f_M_puts  (x1 : Int) (σ : np_S) : Option np_O := np_ck ((0 : Int) ≤ σ 0 27 ∧ σ 0 27 < 400) (some (0, (np_st (np_st σ 21 (σ 0 27) x1) 0 27 (((np_st σ 21 (σ 0 27) x1) 0 27) + 1))))
def f_M_takeApart_232_b  (k232 : (Int → Int → np_S → Option np_O)) (x4 x5 : Int) (σ : np_S) : Option np_O := np_ck (np_R x4 ∧ np_R x5) (if x5 ≤ x4 then (some (0, σ)) else (np_ck ((0 : Int) ≤ x4 ∧ x4 < 400) (np_ck ((0 : Int) ≤ x5 ∧ x5 < 400) (np_ck ((0 : Int) ≤ x4 ∧ x4 < 400) (np_ck ((0 : Int) ≤ x5 ∧ x5 < 400) (k232 (x4 + 1) (x5 + (-1)) (np_st (np_st σ 21 x4 (σ 21 x5)) 21 x5 (σ 21 x4))))))))
def f_M_takeApart_232  : Nat → Int → Int → np_S → Option np_O
  | 0, _, _, _ => none
  | n + 1, x4, x5, σ => f_M_takeApart_232_b  (fun x4 x5 σ => f_M_takeApart_232  n x4 x5 σ) x4 x5 σ
def f_M_takeApart_215 (k59 : (Int → Int → Int → Int → np_S → Option np_O)) (x1 x2 x3 x4 : Int) (σ : np_S) : Option np_O := k59 x1 x2 x3 (x4 + 1) σ
def f_M_takeApart_197 (k59 : (Int → Int → Int → Int → np_S → Option np_O)) (x1 x2 x3 x4 x6 x7 : Int) (σ : np_S) : Option np_O := (f_M_puts x6 σ).bind (fun o1 => np_ck (np_R x7) (if x7 = 0 then (f_M_takeApart_215 k59 x1 x2 x3 x4 o1.2) else ((f_M_puts 1001 o1.2).bind (fun o2 => f_M_takeApart_215 k59 x1 x2 x3 x4 o2.2))))
def f_M_takeApart_183 (k59 : (Int → Int → Int → Int → np_S → Option np_O)) (x1 x2 x3 x4 x6 t0 : Int) (σ : np_S) : Option np_O := np_ck (np_R t0) (if t0 = 0 then (f_M_takeApart_197 k59 x1 x2 x3 x4 x6 t0 σ) else ((f_M_puts 1000 σ).bind (fun o3 => f_M_takeApart_197 k59 x1 x2 x3 x4 x6 t0 o3.2)))
def f_M_takeApart_182 (k59 : (Int → Int → Int → Int → np_S → Option np_O)) (x1 x2 x3 x4 x6 : Int) (σ : np_S) : Option np_O := f_M_takeApart_183 k59 x1 x2 x3 x4 x6 0 σ
def f_M_takeApart_133_b (k59 : (Int → Int → Int → Int → np_S → Option np_O)) (k133 : (Int → Int → Int → Int → Int → Int → np_S → Option np_O)) (x1 x2 x3 x4 x5 x6 : Int) (σ : np_S) : Option np_O := np_ck ((0 : Int) ≤ x6 ∧ x6 < 40) (np_ck (np_R (σ 12 x6) ∧ np_R ((-2))) (if σ 12 x6 ≠ (-2) then (np_ck ((0 : Int) ≤ x6 ∧ x6 < 40) (np_ck (np_R (σ 12 x6)) (if σ 12 x6 < 0 then (f_M_takeApart_182 k59 x1 x2 x3 x4 x6 σ) else (np_ck ((0 : Int) ≤ x6 ∧ x6 < 40) (np_ck ((0 : Int) ≤ σ 12 x6 ∧ σ 12 x6 < 12) (np_ck (np_R x5 ∧ np_R (σ 4 (σ 12 x6))) (if x5 ≤ σ 4 (σ 12 x6) then (f_M_takeApart_182 k59 x1 x2 x3 x4 x6 σ) else (f_M_takeApart_183 k59 x1 x2 x3 x4 x6 1 σ)))))))) else (k133 x1 x2 x3 x4 x5 (x6 + 1) σ)))
def f_M_takeApart_133 (k59 : (Int → Int → Int → Int → np_S → Option np_O)) : Nat → Int → Int → Int → Int → Int → Int → np_S → Option np_O
  | 0, _, _, _, _, _, _, _ => none
  | n + 1, x1, x2, x3, x4, x5, x6, σ => f_M_takeApart_133_b k59 (fun x1 x2 x3 x4 x5 x6 σ => f_M_takeApart_133 k59 n x1 x2 x3 x4 x5 x6 σ) x1 x2 x3 x4 x5 x6 σ
def f_M_takeApart_59_b  (k59 : (Int → Int → Int → Int → np_S → Option np_O)) (x1 x2 x3 x4 : Int) (σ : np_S) : Option np_O := np_ck ((0 : Int) ≤ x1 ∧ x1 < 40) (np_ck ((0 : Int) ≤ σ 12 x1 ∧ σ 12 x1 < 12) (np_ck (np_R x4 ∧ np_R (σ 3 (σ 12 x1))) (if σ 3 (σ 12 x1) ≤ x4 then (f_M_takeApart_232 6000 x2 ((σ 0 27) - 1) σ) else (np_ck ((0 : Int) ≤ x1 ∧ x1 < 40) (np_ck ((0 : Int) ≤ (7 * (σ 12 x1)) + x4 ∧ (7 * (σ 12 x1)) + x4 < 91) (np_ck (np_R (σ 1 ((7 * (σ 12 x1)) + x4)) ∧ np_R ((-1))) (if σ 1 ((7 * (σ 12 x1)) + x4) ≠ (-1) then ((f_M_childAt x1 x3 σ).bind (fun o4 => np_ck ((0 : Int) ≤ o4.1 ∧ o4.1 < 40) (f_M_takeApart_133 k59 6000 x1 x2 (x3 + (o4.2 14 o4.1)) x4 (σ 1 ((7 * (σ 12 x1)) + x4)) o4.1 o4.2))) else ((f_M_puts (500 + x3) σ).bind (fun o5 => f_M_takeApart_215 k59 x1 x2 (x3 + 1) x4 o5.2)))))))))
def f_M_takeApart_59  : Nat → Int → Int → Int → Int → np_S → Option np_O
  | 0, _, _, _, _, _ => none
  | n + 1, x1, x2, x3, x4, σ => f_M_takeApart_59_b  (fun x1 x2 x3 x4 σ => f_M_takeApart_59  n x1 x2 x3 x4 σ) x1 x2 x3 x4 σ
def f_M_takeApart  (x1 : Int) (σ : np_S) : Option np_O := np_ck ((0 : Int) ≤ x1 ∧ x1 < 40) (np_ck (np_R (σ 12 x1) ∧ np_R ((-1))) (if σ 12 x1 ≠ (-1) then (np_ck ((0 : Int) ≤ x1 ∧ x1 < 40) (np_ck (np_R (σ 12 x1) ∧ np_R ((-2))) (if σ 12 x1 ≠ (-2) then (np_ck ((0 : Int) ≤ x1 ∧ x1 < 40) (f_M_takeApart_59 6000 x1 (σ 0 27) (σ 13 x1) 0 σ)) else ((f_M_puts (x1 + 1) σ).bind (fun o6 => some (0, o6.2)))))) else (np_ck ((0 : Int) ≤ x1 ∧ x1 < 40) ((f_M_puts (500 + (σ 13 x1)) σ).bind (fun o7 => some (0, o7.2))))))
def f_M_print_133 (k40 : (np_S → Option np_O)) (σ : np_S) : Option np_O := k40 σ
def f_M_print_98 (k40 : (np_S → Option np_O)) (t1 : Int) (σ : np_S) : Option np_O := (f_M_putWord t1 σ).bind (fun o1 => f_M_print_133 k40 o1.2)
def f_M_print_81 (k40 : (np_S → Option np_O)) (x1 : Int) (σ : np_S) : Option np_O := np_ck (np_R x1 ∧ np_R 1000) (if x1 ≠ 1000 then (f_M_print_98 k40 41 σ) else (f_M_print_98 k40 40 σ))
def f_M_print_40_b  (k40 : (np_S → Option np_O)) (σ : np_S) : Option np_O := np_ck (np_R (σ 0 27)) (if σ 0 27 ≤ 0 then (some (σ 0 28, σ)) else (np_ck ((0 : Int) ≤ (np_st σ 0 27 ((σ 0 27) - 1)) 0 27 ∧ (np_st σ 0 27 ((σ 0 27) - 1)) 0 27 < 400) (np_ck (np_R ((np_st σ 0 27 ((σ 0 27) - 1)) 21 ((np_st σ 0 27 ((σ 0 27) - 1)) 0 27)) ∧ np_R 1000) (if (np_st σ 0 27 ((σ 0 27) - 1)) 21 ((np_st σ 0 27 ((σ 0 27) - 1)) 0 27) = 1000 then (f_M_print_81 k40 ((np_st σ 0 27 ((σ 0 27) - 1)) 21 ((np_st σ 0 27 ((σ 0 27) - 1)) 0 27)) (np_st σ 0 27 ((σ 0 27) - 1))) else (np_ck (np_R ((np_st σ 0 27 ((σ 0 27) - 1)) 21 ((np_st σ 0 27 ((σ 0 27) - 1)) 0 27)) ∧ np_R 1001) (if (np_st σ 0 27 ((σ 0 27) - 1)) 21 ((np_st σ 0 27 ((σ 0 27) - 1)) 0 27) ≠ 1001 then (np_ck (np_R ((np_st σ 0 27 ((σ 0 27) - 1)) 21 ((np_st σ 0 27 ((σ 0 27) - 1)) 0 27)) ∧ np_R 500) (if (np_st σ 0 27 ((σ 0 27) - 1)) 21 ((np_st σ 0 27 ((σ 0 27) - 1)) 0 27) < 500 then ((f_M_takeApart ((np_st σ 0 27 ((σ 0 27) - 1)) 21 ((np_st σ 0 27 ((σ 0 27) - 1)) 0 27)) (np_st σ 0 27 ((σ 0 27) - 1))).bind (fun o2 => f_M_print_133 k40 o2.2)) else (np_ck ((0 : Int) ≤ ((np_st σ 0 27 ((σ 0 27) - 1)) 21 ((np_st σ 0 27 ((σ 0 27) - 1)) 0 27)) - 500 ∧ ((np_st σ 0 27 ((σ 0 27) - 1)) 21 ((np_st σ 0 27 ((σ 0 27) - 1)) 0 27)) - 500 < 31) ((f_M_putWord ((np_st σ 0 27 ((σ 0 27) - 1)) 6 (((np_st σ 0 27 ((σ 0 27) - 1)) 21 ((np_st σ 0 27 ((σ 0 27) - 1)) 0 27)) - 500)) (np_st σ 0 27 ((σ 0 27) - 1))).bind (fun o3 => f_M_print_133 k40 o3.2))))) else (f_M_print_81 k40 ((np_st σ 0 27 ((σ 0 27) - 1)) 21 ((np_st σ 0 27 ((σ 0 27) - 1)) 0 27)) (np_st σ 0 27 ((σ 0 27) - 1)))))))))
def f_M_print_40  : Nat → np_S → Option np_O
  | 0, _ => none
  | n + 1, σ => f_M_print_40_b  (fun σ => f_M_print_40  n σ) σ
def f_M_print_13  (t1 : Int) (σ : np_S) : Option np_O := np_ck (np_R ((np_st σ 0 0 t1) 0 0)) (if (np_st σ 0 0 t1) 0 0 ≤ 0 then ((f_M_puts 0 (np_st (np_st (np_st σ 0 0 t1) 0 28 0) 0 27 0)).bind (fun o4 => f_M_print_40 6000 o4.2)) else (some (0, (np_st σ 0 0 t1))))
def f_M_print  (σ : np_S) : Option np_O := np_ck (np_R (σ 0 18)) (if σ 0 18 ≠ 0 then (f_M_print_13 0 σ) else (f_M_print_13 1 σ))
def f_M_at_27  (t0 : Int) (σ : np_S) : Option np_O := some (t0, σ)
def f_M_at_17  (σ : np_S) : Option np_O := f_M_at_27 ((-1)) σ
def f_M_at  (x1 : Int) (σ : np_S) : Option np_O := np_ck (np_R x1) (if x1 < 0 then (f_M_at_17 (np_st σ 0 0 0)) else (np_ck (np_R x1 ∧ np_R ((np_st σ 0 0 0) 0 28)) (if x1 < (np_st σ 0 0 0) 0 28 then (np_ck ((0 : Int) ≤ x1 ∧ x1 < 1200) (f_M_at_27 ((np_st σ 0 0 0) 20 x1) (np_st σ 0 0 0))) else (f_M_at_17 (np_st σ 0 0 0)))))
def f_M_isKey_30  (t0 : Int) (σ : np_S) : Option np_O := np_ck (t0 = 0 ∨ t0 = 1) (some (t0, σ))
def f_M_isKey_29  (σ : np_S) : Option np_O := f_M_isKey_30 0 σ
def f_M_isKey  (x1 x3 : Int) (σ : np_S) : Option np_O := (f_M_isWord x1 x3 (np_st σ 0 0 0)).bind (fun o1 => np_ck (np_R o1.1) (if o1.1 = 0 then (f_M_isKey_29 o1.2) else ((f_M_lowest x1 x3 o1.2).bind (fun o2 => (f_M_isKeyWord o2.1 o2.2).bind (fun o3 => np_ck (np_R o3.1) (if o3.1 = 0 then (f_M_isKey_29 o3.2) else (f_M_isKey_30 1 o3.2)))))))
def f_M_about  (x1 : Int) (σ : np_S) : Option np_O := np_ck (np_R x1) (if x1 = 0 then (some ((np_st σ 0 0 0) 0 2, (np_st σ 0 0 0))) else (if x1 = 1 then (some ((np_st σ 0 0 0) 0 1, (np_st σ 0 0 0))) else (if x1 = 2 then (some ((np_st σ 0 0 0) 0 8, (np_st σ 0 0 0))) else (if x1 = 3 then (some ((np_st σ 0 0 0) 0 18, (np_st σ 0 0 0))) else (if x1 = 4 then (some ((np_st σ 0 0 0) 0 28, (np_st σ 0 0 0))) else (some ((-1), (np_st σ 0 0 0))))))))
end
section
/-! a method's rest as an invocation of its own: nothing has been written since -/
set_option maxHeartbeats 1000000 in
theorem np_rebase {p : Program} {l : Launch} {e : Env} {R : Room} {s : State} {m : MethodId} {args : Array Value} {below : List Frame} {meth : Method} {c : Code} {T : State} {locs : List Loc} {cells slots : Nat} (X : Stand p l e R s m args below meth c T locs cells slots) (hc : cells ≤ R.cells) (hs : slots ≤ R.slots) :
    Stand p l e { R with cells := R.cells - cells, slots := R.slots - slots } (T.setFrames (.invoking m args :: below)) m args below meth c T [] 0 0 := by
  have hm' : T.vm.method? m = some meth := X.method'
  obtain ⟨g₀, hfr⟩ := X.frames_eq
  have hcur : T.cur < T.threads.size := State.cur_lt_of_frames hfr
  have hF : (T.setFrames (.invoking m args :: below)).frames = .invoking m args :: below := State.frames_setFrames _ hcur
  have hmm : (T.setFrames (.invoking m args :: below)).vm.method? m = s.vm.method? m := hm'.trans X.method.symm
  have e1 : (T.setFrames (.invoking m args :: below)).localsInUse = s.localsInUse := by
    unfold State.localsInUse
    rw [hF, X.frames]
    show _ + (((((T.setFrames (.invoking m args :: below)).vm.method? m).bind (·.code)).map (·.maxLocals)).getD 0 + 11) = _ + ((((s.vm.method? m).bind (·.code)).map (·.maxLocals)).getD 0 + 11)
    rw [hmm]
  have e2 : e.platform.stackLimits (T.setFrames (.invoking m args :: below)).me = e.platform.stackLimits s.me := by rw [State.stackLimits_setFrames]; exact X.limits
  have e3 : (T.setFrames (.invoking m args :: below)).me.stackBytes = s.me.stackBytes := by rw [State.stackBytes_setFrames]; exact X.bytes
  have z1 := X.heapSize
  have z2 := X.used
  refine ⟨X.admits, X.cas, X.clock, hF, ?_, ?_, hm', X.code, X.here, X.tail, State.WarmedH.refl _, by rw [State.stackLimits_setFrames], by rw [State.stackBytes_setFrames], ?_⟩
  · have h := X.room
    simp only [State.hasRoom, Bool.and_eq_true, decide_eq_true_eq] at h ⊢
    rw [X.frames] at h
    rw [hF, e1, e2, e3]
    obtain ⟨⟨⟨⟨h1, h2⟩, h7⟩, h8⟩, h9⟩ := h
    refine ⟨⟨⟨⟨h1, h2⟩, ?_⟩, ?_⟩, X.book⟩
    · show T.heap.size + (R.cells - cells) ≤ _
      omega
    · show T.slotsUsed + (R.slots - slots) ≤ _
      omega
  · have h := X.hears
    have hal := X.warmed.alike
    cases below with
    | nil => simpa [State.hears, hm', X.method] using h
    | cons f r =>
      cases f with
      | java g =>
        have hcd : (T.setFrames (.invoking m args :: .java g :: r)).code? g.method = s.code? g.method := by
          rw [State.code?_eq, State.code?_eq]
          show (T.vm.method? g.method).bind _ = _
          rw [hal.method?]
        simp only [State.hears] at h ⊢
        rw [hcd]
        exact h
      | _ => simpa [State.hears, hm', X.method] using h
  · obtain ⟨th, hth, -⟩ := State.frames_cons hfr
    obtain ⟨th2, hth2, -⟩ := State.frames_cons hF
    have h := (State.sameButNew.refl (T.setFrames (.invoking m args :: below)) hth2).setFrames T.frames (State.cur_lt_of_frames hF)
    rw [State.setFrames_setFrames, State.setFrames_self hth] at h
    exact h
section NPT
variable {p : Program} {l : Launch} {e : Env} {R : Room} {s : State} {m : MethodId} {args : Array Value} {below : List Frame} {meth : Method} {c : Code} {H : Heap} {locs : List Loc} {cells slots : Nat} {Q : State → Prop}
variable {cc : ByteArray} {pc : Nat} {ls : Array Slot} {rest : List Value} {D : va_G} {cl : List vw_C} {tys : List (ClassId × FieldType)} {A : Nat → Prop} {Ts : List Cond} {own : String} {nL : Nat} {rm : Room} {wd : np_S → va_W} {σ : np_S} {gA : Nat → Nat}
set_option maxHeartbeats 4000000 in
/-- new E("text"); throw: the method ends with the exception; the world is as it was -/
theorem np_throw (C : np_Cx gA p R s m args c D cl tys A Ts own cc nL rm) (hall : np_good Ts) (htr : l.stackTraces = false) (hat : np_At D cl A wd s σ H locs) {Xn tx : String} {up : List String} {i0 i1 i2 qa : Nat} (hX : Bundle.fit Xn = true) (hup : ∀ n ∈ up, Bundle.fit n = true)
    (ha : ∀ w ∈ Bundle.ownAtoms own i2 Xn up, goodWord w = true → w ∈ Ts) (hb2 : ∀ w ∈ Bundle.ownAtoms own i2 Xn up, goodWord w = true ∨ w ∈ [Cond.laysStatic "java/lang/Throwable" "UNASSIGNED_STACK" "[Ljava/lang/StackTraceElement;", Cond.laysStatic "java/lang/Throwable" "SUPPRESSED_SENTINEL" "Ljava/util/List;", Cond.isRef (.static "java/lang/Throwable" "UNASSIGNED_STACK" "[Ljava/lang/StackTraceElement;"), Cond.isRef (.static "java/lang/Throwable" "SUPPRESSED_SENTINEL" "Ljava/util/List;")])
    (w1 : .classLink own i0 Xn ∈ Ts) (w2 : .initialized Xn ∈ Ts) (w3 : .instantiable Xn 6 ∈ Ts) (hstr : vk_R own i1 tx qa s)
    (d0 : decode cc pc = .ok (.new i0, 3)) (d1 : decode cc (pc + 3) = .ok (.dup, 1)) (d2 : decode cc (pc + 3 + 1) = .ok (.ldc i1, 2)) (d3 : decode cc (pc + 3 + 1 + 2) = .ok (.invokespecial i2, 3)) (d4 : decode cc (pc + 3 + 1 + 2 + 3) = .ok (.athrow, 1))
    (hls : ls.size = nL) (hno : c.exceptionTable.isEmpty = true) (hR : up.length + 3 < rm.frames ∧ 13 * (up.length + 1) + 43 ≤ rm.locals ∧ cells + 1 ≤ rm.cells ∧ slots + 6 ≤ rm.slots) (hlocks : meth.locks = false)
    (kk : ∀ (U : State) (a : Nat) (ce : Cell), U.status = .running → Ended U below (.threw a) → s.WarmedH U.vm → s.sameButNew ({ U with vm := s.vm } : State) locs (cells + 1) (slots + 6) → np_At D cl A wd s σ U.heap locs → U.heap[a]? = some ce → s.vm.findClass Xn = some ce.cls → ce.vm = .none → Q U) : W p l e R s m args below meth c H locs cells slots Q (F0 m pc ls []) := by
  intro T hT X
  obtain ⟨hR1, hR2, hR3, hR4⟩ := hR
  have hr := C.r
  subst hr
  have Y := np_rebase X (by omega) (by omega)
  have hW' : s.WarmedH (T.setFrames (.invoking m args :: below)).vm := X.warmed
  have hh' : (T.setFrames (.invoking m args :: below)).heap = H := hT
  have hts : ∀ w ∈ Ts, w.before args (T.setFrames (.invoking m args :: below)) = true := fun w hw => word_at hW' (hall w hw) (C.t w hw)
  have hE : np_E gA A (T.setFrames (.invoking m args :: below)) (T.setFrames (.invoking m args :: below)).heap := by
    rw [hh']
    exact (C.en.kept hat.2.2.2.1).warm hW'
  have hown : (T.setFrames (.invoking m args :: below)).vm.findClass own = some m.cls := by rw [hW'.alike.findClass]; exact C.o
  have htr' : e.platform.stackTraces = false := by rw [X.admits.platform]; exact htr
  have hat3 : ∀ w ∈ Bundle.ownAtoms own i2 Xn up, w.before args (T.setFrames (.invoking m args :: below)) = true := by
    intro w hw
    rcases hb2 w hw with h | h
    · exact hts w (ha w hw h)
    · simp only [List.mem_cons, List.not_mem_nil, or_false] at h
      rcases h with rfl | rfl | rfl | rfl
      · exact hE.2.2.2.2.1.lays
      · exact hE.2.2.2.2.2.1.lays
      · exact hE.2.2.2.2.1.isRef
      · exact hE.2.2.2.2.2.1.isRef
  obtain ⟨vm₁, cX, kX, hfX, hkX, -, -, X₁, st1⟩ := Y.newCold C.x (own := own) (C := Xn) (index := i0) (n := 6) hown (hts _ w1) (hts _ w3) (hts _ w2) (g := F0 m pc ls []) rfl (by rw [C.b]; exact d0) (by show 0 + 1 ≤ R.cells - cells; omega) (by show 0 + 6 ≤ R.slots - slots; omega)
  generalize hT1 : (T.setVm vm₁).pushCell { cls := cX, slots := kX.instanceTypes.map defaultValue, vm := .none } = T1 at X₁ st1
  have hcellA : T1.heap[T.heap.size]? = some (freshCell cX kX) := by rw [← hT1]; exact State.heap_pushCell_size _ _
  have hlt : T.heap.size < T1.heap.size := (Array.getElem?_eq_some_iff.mp hcellA).1
  have K : W p l e { R with cells := R.cells - cells, slots := R.slots - slots } (T.setFrames (.invoking m args :: below)) m args below meth c T1.heap [] (0 + 1) (0 + 6) Q (F0 m (pc + 3) ls [.ref T.heap.size]) := by
    refine lv_dup C.x C.b d1 rfl ?_
    refine va_ldcS C.x C.b hown (hstr.warm hW') d2 ?_
    intro T2 hT2 X2
    obtain ⟨U, hsteps, hrun, hend, hWU, hsame, ce, hce, K⟩ := X2.ctorThrowS C.x htr' (own := own) (cls := Xn) (names := up) (ic := i2) hown hX hup hat3 (fun y hy => by cases hy) hfX hkX (a := T.heap.size) (by rw [hT2]; exact hcellA) (Nat.le_refl _) (msg := .ref qa) rfl
      (g := F0 m (pc + 3 + 1 + 2) ls [.ref qa, .ref T.heap.size, .ref T.heap.size]) rfl (hls.trans C.ml.symm) rfl rfl (rest := []) rfl (by rw [C.b]; exact d3) (by rw [C.b]; exact d4) (covers_of_empty hno _) (by show up.length + 3 < R.frames; exact hR1) (by show 2 * 0 + 1 + (13 * (up.length + 1) + 42) ≤ R.locals; omega) hlocks
    refine ⟨U, hsteps, ?_⟩
    have hWs : s.WarmedH U.vm := State.WarmedH.trans X.warmed hWU
    have hold : ∀ q : Nat, q < H.size → U.heap[q]? = H[q]? := by
      intro q hq
      have h1 : (T.setFrames (.invoking m args :: below)).heap[q]? = H[q]? := by rw [hh']
      obtain ⟨x, hx⟩ : ∃ x, H[q]? = some x := ⟨H[q], Array.getElem?_eq_getElem hq⟩
      rw [hx] at h1 ⊢
      exact State.sameButNew.old_cell hsame h1
    have hsz : H.size ≤ U.heap.size := by
      have h2 : (T.setFrames (.invoking m args :: below)).heap.size ≤ U.heap.size := hsame.2.1
      rw [hh'] at h2
      exact h2
    have h2 : T.sameButNew ({ U with vm := T.vm } : State) [] (0 + 1) (0 + 6) := by
      obtain ⟨e1, r1⟩ := hsame
      refine ⟨?_, r1⟩
      rw [State.setFrames_setFrames] at e1
      exact e1
    have h3 := X.same.trans (h2.setVm s.vm)
    rw [List.append_nil] at h3
    refine kk U T.heap.size ce hrun hend hWs h3 ⟨?_, hat.2.1, ?_⟩ hce ?_ K.vm
    · exact hat.1.kept (fun k q hq => hold q.1 ((hat.1 k q hq).lt))
    · exact ⟨Nat.le_trans hat.2.2.1 hsz, fun q h1 h2 => (hold q (Nat.lt_of_lt_of_le h1 hat.2.2.1)).trans (hat.2.2.2.1 q h1 h2), hat.2.2.2.2⟩
    · have h9 := K.cls
      rw [hW'.alike.findClass] at h9
      exact h9
  obtain ⟨t, a1, b1⟩ := K T1 rfl X₁
  exact ⟨t, st1 _ a1, b1⟩
end NPT
end
