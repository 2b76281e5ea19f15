section
-- ===== PART A: goes FIRST, ahead of the names: the tables' words, and 'selects' of the private methods out of them =====
/-- a private method of a class that the tables say can be made, by its rows of tables_1 -/
def lw_okq (q : MethodName × Nat) : Prop := (q.1.cls ≠ "java/lang/invoke/MethodHandle" ∧ q.1.cls ≠ "java/lang/invoke/VarHandle") ∧ Cond.instantiable q.1.cls q.2 ∈ tables_1 ∧ Cond.privateMethod q.1 ∈ tables_1 ∧ Cond.instanceMethod q.1 ∈ tables_1
theorem lw_p0 : lw_okq (⟨"java/lang/Throwable", "fillInStackTrace", "(I)Ljava/lang/Throwable;"⟩, 6) := ⟨⟨by decide +kernel, by decide +kernel⟩, List.mem_of_getElem? (i := 411) (by decide +kernel), List.mem_of_getElem? (i := 409) (by decide +kernel), List.mem_of_getElem? (i := 410) (by decide +kernel)⟩
theorem lw_p1 : lw_okq (⟨"NotationParse$Text", "kindAt", "(I)I"⟩, 7) := ⟨⟨by decide +kernel, by decide +kernel⟩, List.mem_of_getElem? (i := 80) (by decide +kernel), List.mem_of_getElem? (i := 728) (by decide +kernel), List.mem_of_getElem? (i := 729) (by decide +kernel)⟩
theorem lw_p2 : lw_okq (⟨"NotationParse$Text", "endOfRow", "(II)I"⟩, 7) := ⟨⟨by decide +kernel, by decide +kernel⟩, List.mem_of_getElem? (i := 80) (by decide +kernel), List.mem_of_getElem? (i := 733) (by decide +kernel), List.mem_of_getElem? (i := 734) (by decide +kernel)⟩
theorem lw_p3 : lw_okq (⟨"NotationParse$Text", "takeRow", "(IIILNotationParse$Grammar;)V"⟩, 7) := ⟨⟨by decide +kernel, by decide +kernel⟩, List.mem_of_getElem? (i := 80) (by decide +kernel), List.mem_of_getElem? (i := 737) (by decide +kernel), List.mem_of_getElem? (i := 738) (by decide +kernel)⟩
theorem lw_p4 : lw_okq (⟨"NotationParse", "findFault", "()V"⟩, 7) := ⟨⟨by decide +kernel, by decide +kernel⟩, List.mem_of_getElem? (i := 28) (by decide +kernel), List.mem_of_getElem? (i := 742) (by decide +kernel), List.mem_of_getElem? (i := 743) (by decide +kernel)⟩
theorem lw_p5 : lw_okq (⟨"NotationParse$Chart", "emptyRow", "(I)V"⟩, 4) := ⟨⟨by decide +kernel, by decide +kernel⟩, List.mem_of_getElem? (i := 116) (by decide +kernel), List.mem_of_getElem? (i := 750) (by decide +kernel), List.mem_of_getElem? (i := 751) (by decide +kernel)⟩
theorem lw_p6 : lw_okq (⟨"NotationParse$Chart", "predict", "(II)V"⟩, 4) := ⟨⟨by decide +kernel, by decide +kernel⟩, List.mem_of_getElem? (i := 116) (by decide +kernel), List.mem_of_getElem? (i := 755) (by decide +kernel), List.mem_of_getElem? (i := 756) (by decide +kernel)⟩
theorem lw_p7 : lw_okq (⟨"NotationParse$Chart", "leastFirstHole", "(I)I"⟩, 4) := ⟨⟨by decide +kernel, by decide +kernel⟩, List.mem_of_getElem? (i := 116) (by decide +kernel), List.mem_of_getElem? (i := 759) (by decide +kernel), List.mem_of_getElem? (i := 760) (by decide +kernel)⟩
theorem lw_p8 : lw_okq (⟨"NotationParse$Chart", "scan", "(IJ)Z"⟩, 4) := ⟨⟨by decide +kernel, by decide +kernel⟩, List.mem_of_getElem? (i := 116) (by decide +kernel), List.mem_of_getElem? (i := 763) (by decide +kernel), List.mem_of_getElem? (i := 764) (by decide +kernel)⟩
theorem lw_p9 : lw_okq (⟨"NotationParse$Chart", "complete", "(I)V"⟩, 4) := ⟨⟨by decide +kernel, by decide +kernel⟩, List.mem_of_getElem? (i := 116) (by decide +kernel), List.mem_of_getElem? (i := 768) (by decide +kernel), List.mem_of_getElem? (i := 769) (by decide +kernel)⟩
theorem lw_p10 : lw_okq (⟨"NotationParse$Chart", "highestTerm", "(II)I"⟩, 4) := ⟨⟨by decide +kernel, by decide +kernel⟩, List.mem_of_getElem? (i := 116) (by decide +kernel), List.mem_of_getElem? (i := 772) (by decide +kernel), List.mem_of_getElem? (i := 773) (by decide +kernel)⟩
theorem lw_p11 : lw_okq (⟨"NotationParse$Chart", "isReached", "(III)Z"⟩, 4) := ⟨⟨by decide +kernel, by decide +kernel⟩, List.mem_of_getElem? (i := 116) (by decide +kernel), List.mem_of_getElem? (i := 780) (by decide +kernel), List.mem_of_getElem? (i := 781) (by decide +kernel)⟩
theorem lw_p12 : lw_okq (⟨"NotationParse$Chart", "fillHoles", "(III)V"⟩, 4) := ⟨⟨by decide +kernel, by decide +kernel⟩, List.mem_of_getElem? (i := 116) (by decide +kernel), List.mem_of_getElem? (i := 784) (by decide +kernel), List.mem_of_getElem? (i := 785) (by decide +kernel)⟩
theorem lw_p13 : lw_okq (⟨"NotationParse$Chart", "leastWanted", "(I)I"⟩, 4) := ⟨⟨by decide +kernel, by decide +kernel⟩, List.mem_of_getElem? (i := 116) (by decide +kernel), List.mem_of_getElem? (i := 788) (by decide +kernel), List.mem_of_getElem? (i := 789) (by decide +kernel)⟩
theorem lw_p14 : lw_okq (⟨"NotationParse", "noteFault", "(II)V"⟩, 7) := ⟨⟨by decide +kernel, by decide +kernel⟩, List.mem_of_getElem? (i := 28) (by decide +kernel), List.mem_of_getElem? (i := 792) (by decide +kernel), List.mem_of_getElem? (i := 793) (by decide +kernel)⟩
theorem lw_p15 : lw_okq (⟨"NotationParse$Chart", "countFrom", "(II)V"⟩, 4) := ⟨⟨by decide +kernel, by decide +kernel⟩, List.mem_of_getElem? (i := 116) (by decide +kernel), List.mem_of_getElem? (i := 805) (by decide +kernel), List.mem_of_getElem? (i := 806) (by decide +kernel)⟩
def lw_privs_1 : List (MethodName × Nat) := [(⟨"java/lang/Throwable", "fillInStackTrace", "(I)Ljava/lang/Throwable;"⟩, 6), (⟨"NotationParse$Text", "kindAt", "(I)I"⟩, 7), (⟨"NotationParse$Text", "endOfRow", "(II)I"⟩, 7), (⟨"NotationParse$Text", "takeRow", "(IIILNotationParse$Grammar;)V"⟩, 7), (⟨"NotationParse", "findFault", "()V"⟩, 7), (⟨"NotationParse$Chart", "emptyRow", "(I)V"⟩, 4), (⟨"NotationParse$Chart", "predict", "(II)V"⟩, 4), (⟨"NotationParse$Chart", "leastFirstHole", "(I)I"⟩, 4), (⟨"NotationParse$Chart", "scan", "(IJ)Z"⟩, 4), (⟨"NotationParse$Chart", "complete", "(I)V"⟩, 4), (⟨"NotationParse$Chart", "highestTerm", "(II)I"⟩, 4), (⟨"NotationParse$Chart", "isReached", "(III)Z"⟩, 4), (⟨"NotationParse$Chart", "fillHoles", "(III)V"⟩, 4), (⟨"NotationParse$Chart", "leastWanted", "(I)I"⟩, 4), (⟨"NotationParse", "noteFault", "(II)V"⟩, 7), (⟨"NotationParse$Chart", "countFrom", "(II)V"⟩, 4)]
theorem lw_r1 : ∀ q ∈ lw_privs_1, lw_okq q := List.forall_mem_cons.mpr ⟨lw_p0, List.forall_mem_cons.mpr ⟨lw_p1, List.forall_mem_cons.mpr ⟨lw_p2, List.forall_mem_cons.mpr ⟨lw_p3, List.forall_mem_cons.mpr ⟨lw_p4, List.forall_mem_cons.mpr ⟨lw_p5, List.forall_mem_cons.mpr ⟨lw_p6, List.forall_mem_cons.mpr ⟨lw_p7, List.forall_mem_cons.mpr ⟨lw_p8, List.forall_mem_cons.mpr ⟨lw_p9, List.forall_mem_cons.mpr ⟨lw_p10, List.forall_mem_cons.mpr ⟨lw_p11, List.forall_mem_cons.mpr ⟨lw_p12, List.forall_mem_cons.mpr ⟨lw_p13, List.forall_mem_cons.mpr ⟨lw_p14, List.forall_mem_cons.mpr ⟨lw_p15, fun _ h => absurd h List.not_mem_nil⟩⟩⟩⟩⟩⟩⟩⟩⟩⟩⟩⟩⟩⟩⟩⟩
theorem lw_p16 : lw_okq (⟨"NotationParse$Chart", "countRule", "(III)V"⟩, 4) := ⟨⟨by decide +kernel, by decide +kernel⟩, List.mem_of_getElem? (i := 116) (by decide +kernel), List.mem_of_getElem? (i := 809) (by decide +kernel), List.mem_of_getElem? (i := 810) (by decide +kernel)⟩
theorem lw_p17 : lw_okq (⟨"NotationParse$Chart", "countSplits", "(IIII)I"⟩, 4) := ⟨⟨by decide +kernel, by decide +kernel⟩, List.mem_of_getElem? (i := 116) (by decide +kernel), List.mem_of_getElem? (i := 813) (by decide +kernel), List.mem_of_getElem? (i := 814) (by decide +kernel)⟩
theorem lw_p18 : lw_okq (⟨"NotationParse$Chart", "cell", "(III)I"⟩, 4) := ⟨⟨by decide +kernel, by decide +kernel⟩, List.mem_of_getElem? (i := 116) (by decide +kernel), List.mem_of_getElem? (i := 817) (by decide +kernel), List.mem_of_getElem? (i := 818) (by decide +kernel)⟩
theorem lw_p19 : lw_okq (⟨"NotationParse$Chart", "sumTerms", "(II)V"⟩, 4) := ⟨⟨by decide +kernel, by decide +kernel⟩, List.mem_of_getElem? (i := 116) (by decide +kernel), List.mem_of_getElem? (i := 825) (by decide +kernel), List.mem_of_getElem? (i := 826) (by decide +kernel)⟩
theorem lw_p20 : lw_okq (⟨"NotationParse$Chart", "addTrees", "(II)V"⟩, 4) := ⟨⟨by decide +kernel, by decide +kernel⟩, List.mem_of_getElem? (i := 116) (by decide +kernel), List.mem_of_getElem? (i := 829) (by decide +kernel), List.mem_of_getElem? (i := 830) (by decide +kernel)⟩
theorem lw_p21 : lw_okq (⟨"NotationParse$Chart", "countFirstHoles", "(II)V"⟩, 4) := ⟨⟨by decide +kernel, by decide +kernel⟩, List.mem_of_getElem? (i := 116) (by decide +kernel), List.mem_of_getElem? (i := 835) (by decide +kernel), List.mem_of_getElem? (i := 836) (by decide +kernel)⟩
theorem lw_p22 : lw_okq (⟨"NotationParse$Tree", "await", "(IIII)V"⟩, 14) := ⟨⟨by decide +kernel, by decide +kernel⟩, List.mem_of_getElem? (i := 135) (by decide +kernel), List.mem_of_getElem? (i := 843) (by decide +kernel), List.mem_of_getElem? (i := 844) (by decide +kernel)⟩
theorem lw_p23 : lw_okq (⟨"NotationParse$Tree", "growNode", "(III)V"⟩, 14) := ⟨⟨by decide +kernel, by decide +kernel⟩, List.mem_of_getElem? (i := 135) (by decide +kernel), List.mem_of_getElem? (i := 847) (by decide +kernel), List.mem_of_getElem? (i := 848) (by decide +kernel)⟩
theorem lw_p24 : lw_okq (⟨"NotationParse$Tree", "awaitHoles", "(III)I"⟩, 14) := ⟨⟨by decide +kernel, by decide +kernel⟩, List.mem_of_getElem? (i := 135) (by decide +kernel), List.mem_of_getElem? (i := 855) (by decide +kernel), List.mem_of_getElem? (i := 856) (by decide +kernel)⟩
theorem lw_p25 : lw_okq (⟨"NotationParse$Tree", "levelWithin", "(I)I"⟩, 14) := ⟨⟨by decide +kernel, by decide +kernel⟩, List.mem_of_getElem? (i := 135) (by decide +kernel), List.mem_of_getElem? (i := 900) (by decide +kernel), List.mem_of_getElem? (i := 901) (by decide +kernel)⟩
theorem lw_p26 : lw_okq (⟨"NotationParse$Output", "addByte", "(I)V"⟩, 2) := ⟨⟨by decide +kernel, by decide +kernel⟩, List.mem_of_getElem? (i := 190) (by decide +kernel), List.mem_of_getElem? (i := 908) (by decide +kernel), List.mem_of_getElem? (i := 909) (by decide +kernel)⟩
theorem lw_p27 : lw_okq (⟨"NotationParse$Output", "writeWord", "(J)V"⟩, 2) := ⟨⟨by decide +kernel, by decide +kernel⟩, List.mem_of_getElem? (i := 190) (by decide +kernel), List.mem_of_getElem? (i := 912) (by decide +kernel), List.mem_of_getElem? (i := 913) (by decide +kernel)⟩
theorem lw_p28 : lw_okq (⟨"NotationParseModel", "part", "(IJ)I"⟩, 31) := ⟨⟨by decide +kernel, by decide +kernel⟩, List.mem_of_getElem? (i := 917) (by decide +kernel), List.mem_of_getElem? (i := 1027) (by decide +kernel), List.mem_of_getElem? (i := 1028) (by decide +kernel)⟩
theorem lw_p29 : lw_okq (⟨"NotationParseModel", "takeWords", "()I"⟩, 31) := ⟨⟨by decide +kernel, by decide +kernel⟩, List.mem_of_getElem? (i := 917) (by decide +kernel), List.mem_of_getElem? (i := 1072) (by decide +kernel), List.mem_of_getElem? (i := 1073) (by decide +kernel)⟩
theorem lw_p30 : lw_okq (⟨"NotationParseModel", "count", "()V"⟩, 31) := ⟨⟨by decide +kernel, by decide +kernel⟩, List.mem_of_getElem? (i := 917) (by decide +kernel), List.mem_of_getElem? (i := 1076) (by decide +kernel), List.mem_of_getElem? (i := 1077) (by decide +kernel)⟩
theorem lw_p31 : lw_okq (⟨"NotationParseModel", "waysOf", "(IIII)I"⟩, 31) := ⟨⟨by decide +kernel, by decide +kernel⟩, List.mem_of_getElem? (i := 917) (by decide +kernel), List.mem_of_getElem? (i := 1083) (by decide +kernel), List.mem_of_getElem? (i := 1084) (by decide +kernel)⟩
def lw_privs_2 : List (MethodName × Nat) := [(⟨"NotationParse$Chart", "countRule", "(III)V"⟩, 4), (⟨"NotationParse$Chart", "countSplits", "(IIII)I"⟩, 4), (⟨"NotationParse$Chart", "cell", "(III)I"⟩, 4), (⟨"NotationParse$Chart", "sumTerms", "(II)V"⟩, 4), (⟨"NotationParse$Chart", "addTrees", "(II)V"⟩, 4), (⟨"NotationParse$Chart", "countFirstHoles", "(II)V"⟩, 4), (⟨"NotationParse$Tree", "await", "(IIII)V"⟩, 14), (⟨"NotationParse$Tree", "growNode", "(III)V"⟩, 14), (⟨"NotationParse$Tree", "awaitHoles", "(III)I"⟩, 14), (⟨"NotationParse$Tree", "levelWithin", "(I)I"⟩, 14), (⟨"NotationParse$Output", "addByte", "(I)V"⟩, 2), (⟨"NotationParse$Output", "writeWord", "(J)V"⟩, 2), (⟨"NotationParseModel", "part", "(IJ)I"⟩, 31), (⟨"NotationParseModel", "takeWords", "()I"⟩, 31), (⟨"NotationParseModel", "count", "()V"⟩, 31), (⟨"NotationParseModel", "waysOf", "(IIII)I"⟩, 31)]
theorem lw_r2 : ∀ q ∈ lw_privs_2, lw_okq q := List.forall_mem_cons.mpr ⟨lw_p16, List.forall_mem_cons.mpr ⟨lw_p17, List.forall_mem_cons.mpr ⟨lw_p18, List.forall_mem_cons.mpr ⟨lw_p19, List.forall_mem_cons.mpr ⟨lw_p20, List.forall_mem_cons.mpr ⟨lw_p21, List.forall_mem_cons.mpr ⟨lw_p22, List.forall_mem_cons.mpr ⟨lw_p23, List.forall_mem_cons.mpr ⟨lw_p24, List.forall_mem_cons.mpr ⟨lw_p25, List.forall_mem_cons.mpr ⟨lw_p26, List.forall_mem_cons.mpr ⟨lw_p27, List.forall_mem_cons.mpr ⟨lw_p28, List.forall_mem_cons.mpr ⟨lw_p29, List.forall_mem_cons.mpr ⟨lw_p30, List.forall_mem_cons.mpr ⟨lw_p31, fun _ h => absurd h List.not_mem_nil⟩⟩⟩⟩⟩⟩⟩⟩⟩⟩⟩⟩⟩⟩⟩⟩
theorem lw_p32 : lw_okq (⟨"NotationParseModel", "countTerms", "(II)V"⟩, 31) := ⟨⟨by decide +kernel, by decide +kernel⟩, List.mem_of_getElem? (i := 917) (by decide +kernel), List.mem_of_getElem? (i := 1092) (by decide +kernel), List.mem_of_getElem? (i := 1093) (by decide +kernel)⟩
theorem lw_p33 : lw_okq (⟨"NotationParseModel", "isAtom", "(I)Z"⟩, 31) := ⟨⟨by decide +kernel, by decide +kernel⟩, List.mem_of_getElem? (i := 917) (by decide +kernel), List.mem_of_getElem? (i := 1096) (by decide +kernel), List.mem_of_getElem? (i := 1097) (by decide +kernel)⟩
theorem lw_p34 : lw_okq (⟨"NotationParseModel", "isKeyWord", "(J)Z"⟩, 31) := ⟨⟨by decide +kernel, by decide +kernel⟩, List.mem_of_getElem? (i := 917) (by decide +kernel), List.mem_of_getElem? (i := 1100) (by decide +kernel), List.mem_of_getElem? (i := 1101) (by decide +kernel)⟩
theorem lw_p35 : lw_okq (⟨"NotationParseModel", "is", "(II)Z"⟩, 31) := ⟨⟨by decide +kernel, by decide +kernel⟩, List.mem_of_getElem? (i := 917) (by decide +kernel), List.mem_of_getElem? (i := 1104) (by decide +kernel), List.mem_of_getElem? (i := 1105) (by decide +kernel)⟩
theorem lw_p36 : lw_okq (⟨"NotationParseModel", "canBegin", "(I)Z"⟩, 31) := ⟨⟨by decide +kernel, by decide +kernel⟩, List.mem_of_getElem? (i := 917) (by decide +kernel), List.mem_of_getElem? (i := 1108) (by decide +kernel), List.mem_of_getElem? (i := 1109) (by decide +kernel)⟩
theorem lw_p37 : lw_okq (⟨"NotationParseModel", "mayBeTerm", "(III)Z"⟩, 31) := ⟨⟨by decide +kernel, by decide +kernel⟩, List.mem_of_getElem? (i := 917) (by decide +kernel), List.mem_of_getElem? (i := 1112) (by decide +kernel), List.mem_of_getElem? (i := 1113) (by decide +kernel)⟩
theorem lw_p38 : lw_okq (⟨"NotationParseModel", "mayBegin", "(IIII)Z"⟩, 31) := ⟨⟨by decide +kernel, by decide +kernel⟩, List.mem_of_getElem? (i := 917) (by decide +kernel), List.mem_of_getElem? (i := 1116) (by decide +kernel), List.mem_of_getElem? (i := 1117) (by decide +kernel)⟩
theorem lw_p39 : lw_okq (⟨"NotationParseModel", "faulty", "(II)V"⟩, 31) := ⟨⟨by decide +kernel, by decide +kernel⟩, List.mem_of_getElem? (i := 917) (by decide +kernel), List.mem_of_getElem? (i := 1120) (by decide +kernel), List.mem_of_getElem? (i := 1121) (by decide +kernel)⟩
theorem lw_p40 : lw_okq (⟨"NotationParseModel", "grow", "()V"⟩, 31) := ⟨⟨by decide +kernel, by decide +kernel⟩, List.mem_of_getElem? (i := 917) (by decide +kernel), List.mem_of_getElem? (i := 1124) (by decide +kernel), List.mem_of_getElem? (i := 1125) (by decide +kernel)⟩
theorem lw_p41 : lw_okq (⟨"NotationParseModel", "later", "(IIII)V"⟩, 31) := ⟨⟨by decide +kernel, by decide +kernel⟩, List.mem_of_getElem? (i := 917) (by decide +kernel), List.mem_of_getElem? (i := 1128) (by decide +kernel), List.mem_of_getElem? (i := 1129) (by decide +kernel)⟩
theorem lw_p42 : lw_okq (⟨"NotationParseModel", "kindOf", "(III)I"⟩, 31) := ⟨⟨by decide +kernel, by decide +kernel⟩, List.mem_of_getElem? (i := 917) (by decide +kernel), List.mem_of_getElem? (i := 1132) (by decide +kernel), List.mem_of_getElem? (i := 1133) (by decide +kernel)⟩
theorem lw_p43 : lw_okq (⟨"NotationParseModel", "fillHoles", "(I)V"⟩, 31) := ⟨⟨by decide +kernel, by decide +kernel⟩, List.mem_of_getElem? (i := 917) (by decide +kernel), List.mem_of_getElem? (i := 1136) (by decide +kernel), List.mem_of_getElem? (i := 1137) (by decide +kernel)⟩
theorem lw_p44 : lw_okq (⟨"NotationParseModel", "change", "(II)V"⟩, 31) := ⟨⟨by decide +kernel, by decide +kernel⟩, List.mem_of_getElem? (i := 917) (by decide +kernel), List.mem_of_getElem? (i := 1140) (by decide +kernel), List.mem_of_getElem? (i := 1141) (by decide +kernel)⟩
theorem lw_p45 : lw_okq (⟨"NotationParseModel", "children", "(I)I"⟩, 31) := ⟨⟨by decide +kernel, by decide +kernel⟩, List.mem_of_getElem? (i := 917) (by decide +kernel), List.mem_of_getElem? (i := 1152) (by decide +kernel), List.mem_of_getElem? (i := 1153) (by decide +kernel)⟩
theorem lw_p46 : lw_okq (⟨"NotationParseModel", "puts", "(I)V"⟩, 31) := ⟨⟨by decide +kernel, by decide +kernel⟩, List.mem_of_getElem? (i := 917) (by decide +kernel), List.mem_of_getElem? (i := 1160) (by decide +kernel), List.mem_of_getElem? (i := 1161) (by decide +kernel)⟩
theorem lw_p47 : lw_okq (⟨"NotationParseModel", "putWord", "(J)V"⟩, 31) := ⟨⟨by decide +kernel, by decide +kernel⟩, List.mem_of_getElem? (i := 917) (by decide +kernel), List.mem_of_getElem? (i := 1164) (by decide +kernel), List.mem_of_getElem? (i := 1165) (by decide +kernel)⟩
def lw_privs_3 : List (MethodName × Nat) := [(⟨"NotationParseModel", "countTerms", "(II)V"⟩, 31), (⟨"NotationParseModel", "isAtom", "(I)Z"⟩, 31), (⟨"NotationParseModel", "isKeyWord", "(J)Z"⟩, 31), (⟨"NotationParseModel", "is", "(II)Z"⟩, 31), (⟨"NotationParseModel", "canBegin", "(I)Z"⟩, 31), (⟨"NotationParseModel", "mayBeTerm", "(III)Z"⟩, 31), (⟨"NotationParseModel", "mayBegin", "(IIII)Z"⟩, 31), (⟨"NotationParseModel", "faulty", "(II)V"⟩, 31), (⟨"NotationParseModel", "grow", "()V"⟩, 31), (⟨"NotationParseModel", "later", "(IIII)V"⟩, 31), (⟨"NotationParseModel", "kindOf", "(III)I"⟩, 31), (⟨"NotationParseModel", "fillHoles", "(I)V"⟩, 31), (⟨"NotationParseModel", "change", "(II)V"⟩, 31), (⟨"NotationParseModel", "children", "(I)I"⟩, 31), (⟨"NotationParseModel", "puts", "(I)V"⟩, 31), (⟨"NotationParseModel", "putWord", "(J)V"⟩, 31)]
theorem lw_r3 : ∀ q ∈ lw_privs_3, lw_okq q := List.forall_mem_cons.mpr ⟨lw_p32, List.forall_mem_cons.mpr ⟨lw_p33, List.forall_mem_cons.mpr ⟨lw_p34, List.forall_mem_cons.mpr ⟨lw_p35, List.forall_mem_cons.mpr ⟨lw_p36, List.forall_mem_cons.mpr ⟨lw_p37, List.forall_mem_cons.mpr ⟨lw_p38, List.forall_mem_cons.mpr ⟨lw_p39, List.forall_mem_cons.mpr ⟨lw_p40, List.forall_mem_cons.mpr ⟨lw_p41, List.forall_mem_cons.mpr ⟨lw_p42, List.forall_mem_cons.mpr ⟨lw_p43, List.forall_mem_cons.mpr ⟨lw_p44, List.forall_mem_cons.mpr ⟨lw_p45, List.forall_mem_cons.mpr ⟨lw_p46, List.forall_mem_cons.mpr ⟨lw_p47, fun _ h => absurd h List.not_mem_nil⟩⟩⟩⟩⟩⟩⟩⟩⟩⟩⟩⟩⟩⟩⟩⟩
theorem lw_p48 : lw_okq (⟨"NotationParseModel", "takeApart", "(I)V"⟩, 31) := ⟨⟨by decide +kernel, by decide +kernel⟩, List.mem_of_getElem? (i := 917) (by decide +kernel), List.mem_of_getElem? (i := 1168) (by decide +kernel), List.mem_of_getElem? (i := 1169) (by decide +kernel)⟩
theorem lw_p49 : lw_okq (⟨"NotationParseModel", "childAt", "(II)I"⟩, 31) := ⟨⟨by decide +kernel, by decide +kernel⟩, List.mem_of_getElem? (i := 917) (by decide +kernel), List.mem_of_getElem? (i := 1172) (by decide +kernel), List.mem_of_getElem? (i := 1173) (by decide +kernel)⟩
def lw_privs_4 : List (MethodName × Nat) := [(⟨"NotationParseModel", "takeApart", "(I)V"⟩, 31), (⟨"NotationParseModel", "childAt", "(II)I"⟩, 31)]
theorem lw_r4 : ∀ q ∈ lw_privs_4, lw_okq q := List.forall_mem_cons.mpr ⟨lw_p48, List.forall_mem_cons.mpr ⟨lw_p49, fun _ h => absurd h List.not_mem_nil⟩⟩
def lw_privs : List (MethodName × Nat) := lw_privs_1 ++ (lw_privs_2 ++ (lw_privs_3 ++ (lw_privs_4)))
def lw_tbl : List Cond := k2_sels lw_privs ++ tables_1
theorem lw_privs_ok : ∀ q ∈ lw_privs, lw_okq q := by
  show ∀ q ∈ lw_privs_1 ++ (lw_privs_2 ++ (lw_privs_3 ++ (lw_privs_4))), lw_okq q
  exact List.forall_mem_append.mpr ⟨lw_r1, List.forall_mem_append.mpr ⟨lw_r2, List.forall_mem_append.mpr ⟨lw_r3, lw_r4⟩⟩⟩
def np_al : List Cond := lw_tbl.filter goodWord
theorem np_subm {ws : List Cond} (ps : List Nat) (hp : ws = ps.filterMap (fun i => lw_tbl[i]?)) (hg : ws.all goodWord = true) : ∀ w ∈ ws, w ∈ np_al := by
  intro w hw
  have h1 := List.all_eq_true.mp hg w hw
  rw [hp] at hw
  obtain ⟨i, -, hi⟩ := List.mem_filterMap.mp hw
  exact List.mem_filter.mpr ⟨List.mem_of_getElem? hi, h1⟩
end
section
/-! numbers as Ints: np_i, np_l take any Int to the machine's int and long -/
abbrev np_S : Type := Nat → Int → Int
abbrev np_O : Type := Int × np_S
def np_i (x : Int) : Int32 := Int32.ofInt x
def np_l (x : Int) : Int64 := Int64.ofInt x
abbrev np_R (x : Int) : Prop := -2147483648 ≤ x ∧ x ≤ 2147483647
abbrev np_R6 (x : Int) : Prop := -9223372036854775808 ≤ x ∧ x ≤ 9223372036854775807
def np_ck {α : Type} (c : Prop) [Decidable c] (k : Option α) : Option α := if c then k else none
theorem np_ck_e {α : Type} {c : Prop} [Decidable c] {k : Option α} {o : α} (h : np_ck c k = some o) : c ∧ k = some o := by
  unfold np_ck at h
  split at h
  · exact ⟨by assumption, h⟩
  · cases h
theorem np_ck_i {α : Type} {c : Prop} [Decidable c] {k : Option α} (h : c) : np_ck c k = k := if_pos h
/-- the store with one place changed -/
def np_st (σ : np_S) (k : Nat) (j v : Int) : np_S := fun k2 => if k2 = k then (fun j2 => if j2 = j then v else σ k j2) else σ k2
theorem np_st_s (σ : np_S) (k : Nat) (j v : Int) : np_st σ k j v k j = v := by simp [np_st]
theorem np_st_n (σ : np_S) (k : Nat) {j j2 : Int} (v : Int) (h : j2 ≠ j) : np_st σ k j v k j2 = σ k j2 := by simp [np_st, h]
theorem np_st_k (σ : np_S) {k k2 : Nat} (j v : Int) (h : k2 ≠ k) : np_st σ k j v k2 = σ k2 := by simp [np_st, h]
def np_cmp (x y : Int) : Int := if y < x then 1 else if x = y then 0 else -1
def np_min (x y : Int) : Int := if y < x then y else x
def np_andi (x y : Int) : Int := (np_i x &&& np_i y).toInt
def np_ori (x y : Int) : Int := (np_i x ||| np_i y).toInt
def np_xori (x y : Int) : Int := (np_i x ^^^ np_i y).toInt
def np_shli (x y : Int) : Int := (np_i x <<< (np_i y &&& 31)).toInt
def np_shri (x y : Int) : Int := (np_i x >>> (np_i y &&& 31)).toInt
def np_ushri (x y : Int) : Int := ((np_i x).toUInt32 >>> ((np_i y).toUInt32 &&& Int32.toUInt32 31)).toInt32.toInt
def np_andl (x y : Int) : Int := (np_l x &&& np_l y).toInt
def np_orl (x y : Int) : Int := (np_l x ||| np_l y).toInt
def np_shll (x y : Int) : Int := (np_l x <<< ((np_i y).toInt64 &&& 63)).toInt
def np_ushrl (x y : Int) : Int := ((np_l x).toUInt64 >>> ((np_i y).toInt64.toUInt64 &&& Int64.toUInt64 63)).toInt64.toInt
theorem np_i_toInt (x : Int32) : np_i x.toInt = x := Int32.ofInt_toInt x
theorem np_l_toInt (x : Int64) : np_l x.toInt = x := Int64.ofInt_toInt x
theorem np_toInt {x : Int} (h : np_R x) : (np_i x).toInt = x := Int32.toInt_ofInt_of_le (by have := h.1; omega) (by have := h.2; omega)
theorem np_toInt6 {x : Int} (h : np_R6 x) : (np_l x).toInt = x := Int64.toInt_ofInt_of_le (by have := h.1; omega) (by have := h.2; omega)
theorem np_add (x y : Int) : np_i x + np_i y = np_i (x + y) := (Int32.ofInt_add x y).symm
theorem np_sub (x y : Int) : np_i x - np_i y = np_i (x - y) := (Int32.ofInt_sub x y).symm
theorem np_mul (x y : Int) : np_i x * np_i y = np_i (x * y) := (Int32.ofInt_mul x y).symm
theorem np_inc (x n : Int) : np_i x + Int32.ofInt n = np_i (x + n) := np_add x n
theorem np_addl (x y : Int) : np_l x + np_l y = np_l (x + y) := (Int64.ofInt_add x y).symm
theorem np_subl (x y : Int) : np_l x - np_l y = np_l (x - y) := (Int64.ofInt_sub x y).symm
theorem np_mull (x y : Int) : np_l x * np_l y = np_l (x * y) := (Int64.ofInt_mul x y).symm
theorem np_lt {x y : Int} (hx : np_R x) (hy : np_R y) : np_i x < np_i y ↔ x < y := by rw [Int32.lt_iff_toInt_lt, np_toInt hx, np_toInt hy]
theorem np_le {x y : Int} (hx : np_R x) (hy : np_R y) : np_i x ≤ np_i y ↔ x ≤ y := by rw [Int32.le_iff_toInt_le, np_toInt hx, np_toInt hy]
theorem np_eq {x y : Int} (hx : np_R x) (hy : np_R y) : np_i x = np_i y ↔ x = y := by rw [← Int32.toInt_inj, np_toInt hx, np_toInt hy]
theorem np_lt6 {x y : Int} (hx : np_R6 x) (hy : np_R6 y) : np_l x < np_l y ↔ x < y := by rw [Int64.lt_iff_toInt_lt, np_toInt6 hx, np_toInt6 hy]
theorem np_eq6 {x y : Int} (hx : np_R6 x) (hy : np_R6 y) : np_l x = np_l y ↔ x = y := by rw [← Int64.toInt_inj, np_toInt6 hx, np_toInt6 hy]
theorem np_0 : np_i 0 = 0 := rfl
theorem np_R0 : np_R 0 := by decide
theorem np_clamp {x : Int} (h0 : 0 ≤ x) (h : np_R x) : (np_i x).toNatClampNeg = x.toNat := by
  show (np_i x).toInt.toNat = x.toNat
  rw [np_toInt h]
theorem np_in {x : Int} {n : Nat} (h0 : 0 ≤ x) (h : x < n) (hn : n < 2147483648) : vp_in (np_i x) n := by
  have hR : np_R x := ⟨by omega, by omega⟩
  rw [vp_in_iff, np_toInt hR]
  exact ⟨h0, h⟩
theorem np_byte (x : Int) : (np_i x).toInt8.toInt32 = np_i (Int.bmod x 256) := by
  apply Int32.toInt_inj.mp
  have h1 : -128 ≤ Int.bmod x 256 := Int.le_bmod (by decide)
  have h2 : Int.bmod x 256 < 128 := Int.bmod_lt (by decide)
  rw [np_toInt ⟨by omega, by omega⟩]
  simp [np_i]
theorem np_nat (n : Nat) : np_i (n : Int) = nI n := by
  first | exact Int32.ofInt_eq_ofNat | rfl | simp [np_i, nI]
theorem np_char (x : Int) : ((np_i x).toUInt32 % 65536).toInt32 = np_i (x % 65536) := by
  rw [pk_char]
  have h : (np_i x).toBitVec.toNat % 65536 = (x % 65536).toNat := by
    simp only [np_i, Int32.toBitVec_ofInt, BitVec.toNat_ofInt]
    omega
  rw [h, ← np_nat, Int.toNat_of_nonneg (Int.emod_nonneg x (by decide))]
theorem np_l2i_e (x : Int) : (np_l x).toInt32 = np_i x := by
  simp [np_l, np_i]
theorem np_i2l_e {x : Int} (h : np_R x) : (np_i x).toInt64 = np_l x := by
  apply Int64.toInt_inj.mp
  rw [Int32.toInt_toInt64, np_toInt h, np_toInt6 ⟨by have := h.1; omega, by have := h.2; omega⟩]
theorem np_narI (x : Int) : narrow .int (.int (np_i x)) = .int (np_i x) := rfl
theorem np_fitI (x : Int) : fits .int (.int (np_i x)) = true := rfl
/-- what the heap holds from the start and nobody writes: the String constants of Spelling.kindOf -/
def np_sl : List Nat := [19, 8]
def np_sb : List (List Int32) := [[33, 35, 36, 37, 38, 42, 43, 45, 46, 47, 58, 60, 61, 62, 63, 64, 94, 124, 126], [40, 41, 91, 93, 123, 125, 44, 59]]
def np_E (gA : Nat → Nat) (A : Nat → Prop) (U : State) (H : Heap) : Prop :=
  vk_S 2 np_sl np_sb gA (fun i => gA (100 + i)) A U H ∧ vk_R "NotationParse$Spelling" 11 "!#$%&*+-./:<=>?@^|~" (gA 0) U ∧ vk_R "NotationParse$Spelling" 19 "()[]{},;" (gA 1) U
theorem np_E.warm {gA : Nat → Nat} {A : Nat → Prop} {s U : State} {H : Heap} (hW : s.WarmedH U.vm) (h : np_E gA A s H) : np_E gA A U H := ⟨vk_S.moved hW.alike h.1, h.2.1.warm hW, h.2.2.warm hW⟩
theorem np_E.same {gA : Nat → Nat} {A : Nat → Prop} {u U : State} {H : Heap} (hv : U.vm = u.vm) (h : np_E gA A u H) : np_E gA A U H := ⟨vk_S.moved (by rw [hv]; exact Vm.Alike.refl _) h.1, h.2.1.same hv, h.2.2.same hv⟩
theorem np_E.kept {gA : Nat → Nat} {A : Nat → Prop} {U : State} {H H1 : Heap} (h : np_E gA A U H) (hq : ∀ a : Nat, a < H.size → ¬ A a → H1[a]? = H[a]?) : np_E gA A U H1 := ⟨h.1.kept hq, h.2⟩
theorem np_E.narrow {gA : Nat → Nat} {A B : Nat → Prop} {U : State} {H : Heap} (h : np_E gA A U H) (hAB : ∀ q, B q → A q) : np_E gA B U H := ⟨h.1.narrow hAB, h.2⟩
/-- what holds all through a method -/
def np_Cx (gA : Nat → Nat) (p : Program) (R : Room) (s : State) (m : MethodId) (args : Array Value) (c : Code) (D : va_G) (cl : List vw_C) (tys : List (ClassId × FieldType)) (A : Nat → Prop) (Ts : List Cond) (own : String) (cc : ByteArray) (nL : Nat) (rm : Room) : Prop :=
  (p.tables.exec = Jvm.exec ∧ c.code = cc ∧ c.maxLocals = nL ∧ s.vm.findClass own = some m.cls ∧ ∀ w ∈ Ts, w.before args s = true) ∧ va_K D cl tys s ∧ (∀ a, s.heap.size ≤ a → A a) ∧ R = rm ∧ np_E gA A s s.heap
/-- the world: the store σ lies in the heap -/
def np_At (D : va_G) (cl : List vw_C) (A : Nat → Prop) (wd : np_S → va_W) (s : State) (σ : np_S) (H : Heap) (locs : List Loc) : Prop :=
  va_P D cl (wd σ) H ∧ va_D A (wd σ) ∧ va_S A s.heap H locs
abbrev np_ty (cI cL cB : ClassId) : List (ClassId × FieldType) := [(cI, .int), (cL, .long), (cB, .byte)]
section NPR
variable {p : Program} {l : Launch} {e : Env} {R : Room} {s : State} {m : MethodId} {args : Array Value} {below : List Frame} {meth : Method} {c : Code} {H : Heap} {locs : List Loc} {cells slots : Nat} {Q : State → Prop}
variable {cc : ByteArray} {pc : Nat} {ls : Array Slot} {rest : List Value} {D : va_G} {cl : List vw_C} {tys : List (ClassId × FieldType)} {A : Nat → Prop} {Ts : List Cond} {own : String} {nL : Nat} {rm : Room} {wd : np_S → va_W} {σ : np_S} {gA : Nat → Nat}
theorem np_Cx.x (C : np_Cx gA p R s m args c D cl tys A Ts own cc nL rm) : p.tables.exec = Jvm.exec := C.1.1
theorem np_Cx.b (C : np_Cx gA p R s m args c D cl tys A Ts own cc nL rm) : c.code = cc := C.1.2.1
theorem np_Cx.ml (C : np_Cx gA p R s m args c D cl tys A Ts own cc nL rm) : c.maxLocals = nL := C.1.2.2.1
theorem np_Cx.o (C : np_Cx gA p R s m args c D cl tys A Ts own cc nL rm) : s.vm.findClass own = some m.cls := C.1.2.2.2.1
theorem np_Cx.t (C : np_Cx gA p R s m args c D cl tys A Ts own cc nL rm) : ∀ w ∈ Ts, w.before args s = true := C.1.2.2.2.2
theorem np_Cx.k (C : np_Cx gA p R s m args c D cl tys A Ts own cc nL rm) : va_K D cl tys s := C.2.1
theorem np_Cx.a (C : np_Cx gA p R s m args c D cl tys A Ts own cc nL rm) : ∀ a, s.heap.size ≤ a → A a := C.2.2.1
theorem np_Cx.r (C : np_Cx gA p R s m args c D cl tys A Ts own cc nL rm) : R = rm := C.2.2.2.1
theorem np_Cx.en (C : np_Cx gA p R s m args c D cl tys A Ts own cc nL rm) : np_E gA A s s.heap := C.2.2.2.2
theorem np_iadd (C : np_Cx gA p R s m args c D cl tys A Ts own cc nL rm) {x y : Int} (hdg : decode cc pc = .ok (.iadd, 1)) (k : W p l e R s m args below meth c H locs cells slots Q (F0 m (pc + 1) ls (.int (np_i (x + y)) :: rest))) : W p l e R s m args below meth c H locs cells slots Q (F0 m pc ls (.int (np_i y) :: .int (np_i x) :: rest)) := lv_iadd C.x C.b hdg (by rw [np_add]; exact k)
theorem np_isub (C : np_Cx gA p R s m args c D cl tys A Ts own cc nL rm) {x y : Int} (hdg : decode cc pc = .ok (.isub, 1)) (k : W p l e R s m args below meth c H locs cells slots Q (F0 m (pc + 1) ls (.int (np_i (x - y)) :: rest))) : W p l e R s m args below meth c H locs cells slots Q (F0 m pc ls (.int (np_i y) :: .int (np_i x) :: rest)) := lv_isub C.x C.b hdg (by rw [np_sub]; exact k)
theorem np_imul (C : np_Cx gA p R s m args c D cl tys A Ts own cc nL rm) {x y : Int} (hdg : decode cc pc = .ok (.imul, 1)) (k : W p l e R s m args below meth c H locs cells slots Q (F0 m (pc + 1) ls (.int (np_i (x * y)) :: rest))) : W p l e R s m args below meth c H locs cells slots Q (F0 m pc ls (.int (np_i y) :: .int (np_i x) :: rest)) := lv_imul C.x C.b hdg (by rw [np_mul]; exact k)
theorem np_ladd (C : np_Cx gA p R s m args c D cl tys A Ts own cc nL rm) {x y : Int} (hdg : decode cc pc = .ok (.ladd, 1)) (k : W p l e R s m args below meth c H locs cells slots Q (F0 m (pc + 1) ls (.long (np_l (x + y)) :: rest))) : W p l e R s m args below meth c H locs cells slots Q (F0 m pc ls (.long (np_l y) :: .long (np_l x) :: rest)) := lv_ladd C.x C.b hdg (by rw [np_addl]; exact k)
theorem np_lsub (C : np_Cx gA p R s m args c D cl tys A Ts own cc nL rm) {x y : Int} (hdg : decode cc pc = .ok (.lsub, 1)) (k : W p l e R s m args below meth c H locs cells slots Q (F0 m (pc + 1) ls (.long (np_l (x - y)) :: rest))) : W p l e R s m args below meth c H locs cells slots Q (F0 m pc ls (.long (np_l y) :: .long (np_l x) :: rest)) := lv_lsub C.x C.b hdg (by rw [np_subl]; exact k)
theorem np_lmul (C : np_Cx gA p R s m args c D cl tys A Ts own cc nL rm) {x y : Int} (hdg : decode cc pc = .ok (.lmul, 1)) (k : W p l e R s m args below meth c H locs cells slots Q (F0 m (pc + 1) ls (.long (np_l (x * y)) :: rest))) : W p l e R s m args below meth c H locs cells slots Q (F0 m pc ls (.long (np_l y) :: .long (np_l x) :: rest)) := lv_lmul C.x C.b hdg (by rw [np_mull]; exact k)
theorem np_iand (C : np_Cx gA p R s m args c D cl tys A Ts own cc nL rm) {x y : Int} (hdg : decode cc pc = .ok (.iand, 1)) (k : W p l e R s m args below meth c H locs cells slots Q (F0 m (pc + 1) ls (.int (np_i (np_andi x y)) :: rest))) : W p l e R s m args below meth c H locs cells slots Q (F0 m pc ls (.int (np_i y) :: .int (np_i x) :: rest)) := lv_iand C.x C.b hdg (by unfold np_andi at k; rw [np_i_toInt] at k; exact k)
theorem np_ior (C : np_Cx gA p R s m args c D cl tys A Ts own cc nL rm) {x y : Int} (hdg : decode cc pc = .ok (.ior, 1)) (k : W p l e R s m args below meth c H locs cells slots Q (F0 m (pc + 1) ls (.int (np_i (np_ori x y)) :: rest))) : W p l e R s m args below meth c H locs cells slots Q (F0 m pc ls (.int (np_i y) :: .int (np_i x) :: rest)) := lv_ior C.x C.b hdg (by unfold np_ori at k; rw [np_i_toInt] at k; exact k)
theorem np_ixor (C : np_Cx gA p R s m args c D cl tys A Ts own cc nL rm) {x y : Int} (hdg : decode cc pc = .ok (.ixor, 1)) (k : W p l e R s m args below meth c H locs cells slots Q (F0 m (pc + 1) ls (.int (np_i (np_xori x y)) :: rest))) : W p l e R s m args below meth c H locs cells slots Q (F0 m pc ls (.int (np_i y) :: .int (np_i x) :: rest)) := lv_ixor C.x C.b hdg (by unfold np_xori at k; rw [np_i_toInt] at k; exact k)
theorem np_ishl (C : np_Cx gA p R s m args c D cl tys A Ts own cc nL rm) {x y : Int} (hdg : decode cc pc = .ok (.ishl, 1)) (k : W p l e R s m args below meth c H locs cells slots Q (F0 m (pc + 1) ls (.int (np_i (np_shli x y)) :: rest))) : W p l e R s m args below meth c H locs cells slots Q (F0 m pc ls (.int (np_i y) :: .int (np_i x) :: rest)) := lv_ishl C.x C.b hdg (by unfold np_shli at k; rw [np_i_toInt] at k; exact k)
theorem np_ishr (C : np_Cx gA p R s m args c D cl tys A Ts own cc nL rm) {x y : Int} (hdg : decode cc pc = .ok (.ishr, 1)) (k : W p l e R s m args below meth c H locs cells slots Q (F0 m (pc + 1) ls (.int (np_i (np_shri x y)) :: rest))) : W p l e R s m args below meth c H locs cells slots Q (F0 m pc ls (.int (np_i y) :: .int (np_i x) :: rest)) := lv_ishr C.x C.b hdg (by unfold np_shri at k; rw [np_i_toInt] at k; exact k)
theorem np_iushr (C : np_Cx gA p R s m args c D cl tys A Ts own cc nL rm) {x y : Int} (hdg : decode cc pc = .ok (.iushr, 1)) (k : W p l e R s m args below meth c H locs cells slots Q (F0 m (pc + 1) ls (.int (np_i (np_ushri x y)) :: rest))) : W p l e R s m args below meth c H locs cells slots Q (F0 m pc ls (.int (np_i y) :: .int (np_i x) :: rest)) := lv_iushr C.x C.b hdg rfl (by unfold np_ushri at k; rw [np_i_toInt] at k; exact k)
theorem np_land (C : np_Cx gA p R s m args c D cl tys A Ts own cc nL rm) {x y : Int} (hdg : decode cc pc = .ok (.land, 1)) (k : W p l e R s m args below meth c H locs cells slots Q (F0 m (pc + 1) ls (.long (np_l (np_andl x y)) :: rest))) : W p l e R s m args below meth c H locs cells slots Q (F0 m pc ls (.long (np_l y) :: .long (np_l x) :: rest)) := lv_land C.x C.b hdg (by unfold np_andl at k; rw [np_l_toInt] at k; exact k)
theorem np_lor (C : np_Cx gA p R s m args c D cl tys A Ts own cc nL rm) {x y : Int} (hdg : decode cc pc = .ok (.lor, 1)) (k : W p l e R s m args below meth c H locs cells slots Q (F0 m (pc + 1) ls (.long (np_l (np_orl x y)) :: rest))) : W p l e R s m args below meth c H locs cells slots Q (F0 m pc ls (.long (np_l y) :: .long (np_l x) :: rest)) := lv_lor C.x C.b hdg (by unfold np_orl at k; rw [np_l_toInt] at k; exact k)
theorem np_lshl (C : np_Cx gA p R s m args c D cl tys A Ts own cc nL rm) {x y : Int} (hdg : decode cc pc = .ok (.lshl, 1)) (k : W p l e R s m args below meth c H locs cells slots Q (F0 m (pc + 1) ls (.long (np_l (np_shll x y)) :: rest))) : W p l e R s m args below meth c H locs cells slots Q (F0 m pc ls (.int (np_i y) :: .long (np_l x) :: rest)) := lv_lshl C.x C.b hdg rfl (by unfold np_shll at k; rw [np_l_toInt] at k; exact k)
theorem np_lushr (C : np_Cx gA p R s m args c D cl tys A Ts own cc nL rm) {x y : Int} (hdg : decode cc pc = .ok (.lushr, 1)) (k : W p l e R s m args below meth c H locs cells slots Q (F0 m (pc + 1) ls (.long (np_l (np_ushrl x y)) :: rest))) : W p l e R s m args below meth c H locs cells slots Q (F0 m pc ls (.int (np_i y) :: .long (np_l x) :: rest)) := lv_lushr C.x C.b hdg rfl (by unfold np_ushrl at k; rw [np_l_toInt] at k; exact k)
theorem np_l2i (C : np_Cx gA p R s m args c D cl tys A Ts own cc nL rm) {x : Int} (hdg : decode cc pc = .ok (.l2i, 1)) (k : W p l e R s m args below meth c H locs cells slots Q (F0 m (pc + 1) ls (.int (np_i x) :: rest))) : W p l e R s m args below meth c H locs cells slots Q (F0 m pc ls (.long (np_l x) :: rest)) := lv_l2i C.x C.b hdg (np_l2i_e x) k
theorem np_i2b (C : np_Cx gA p R s m args c D cl tys A Ts own cc nL rm) {x : Int} (hdg : decode cc pc = .ok (.i2b, 1)) (k : W p l e R s m args below meth c H locs cells slots Q (F0 m (pc + 1) ls (.int (np_i (Int.bmod x 256)) :: rest))) : W p l e R s m args below meth c H locs cells slots Q (F0 m pc ls (.int (np_i x) :: rest)) := lv_i2b C.x C.b hdg (np_byte x) k
theorem np_i2c (C : np_Cx gA p R s m args c D cl tys A Ts own cc nL rm) {x : Int} (hdg : decode cc pc = .ok (.i2c, 1)) (k : W p l e R s m args below meth c H locs cells slots Q (F0 m (pc + 1) ls (.int (np_i (x % 65536)) :: rest))) : W p l e R s m args below meth c H locs cells slots Q (F0 m pc ls (.int (np_i x) :: rest)) := lv_i2c C.x C.b hdg (np_char x) k
theorem np_i2l (C : np_Cx gA p R s m args c D cl tys A Ts own cc nL rm) {x : Int} (hdg : decode cc pc = .ok (.i2l, 1)) {α : Type} {f1 : Option α} {o : α} (hf : np_ck (np_R x) f1 = some o) (k : f1 = some o → W p l e R s m args below meth c H locs cells slots Q (F0 m (pc + 1) ls (.long (np_l x) :: rest))) : W p l e R s m args below meth c H locs cells slots Q (F0 m pc ls (.int (np_i x) :: rest)) := lv_i2l C.x C.b hdg (np_i2l_e (np_ck_e hf).1) (k (np_ck_e hf).2)
theorem np_idiv (C : np_Cx gA p R s m args c D cl tys A Ts own cc nL rm) {x y : Int} (hdg : decode cc pc = .ok (.idiv, 1)) {α : Type} {f1 : Option α} {o : α} (hf : np_ck (0 ≤ x ∧ np_R x ∧ 0 < y ∧ np_R y) f1 = some o) (k : f1 = some o → W p l e R s m args below meth c H locs cells slots Q (F0 m (pc + 1) ls (.int (np_i (x / y)) :: rest))) : W p l e R s m args below meth c H locs cells slots Q (F0 m pc ls (.int (np_i y) :: .int (np_i x) :: rest)) := by
  obtain ⟨⟨h1, h2, h3, h4⟩, hf2⟩ := np_ck_e hf
  refine lv_idiv C.x C.b hdg (fun h => ?_) ?_
  · have := (np_eq h4 np_R0).mp h
    omega
  · obtain ⟨a, rfl⟩ := Int.eq_ofNat_of_zero_le h1
    obtain ⟨d, rfl⟩ := Int.eq_ofNat_of_zero_le (Int.le_of_lt h3)
    have e : np_i (a : Int) / np_i (d : Int) = np_i ((a : Int) / (d : Int)) := by
      rw [np_nat, np_nat, pk_div (by have := h2.2; omega) (by omega) (by have := h4.2; omega), ← np_nat]
      rfl
    rw [e]
    exact k hf2
theorem np_lcmp (C : np_Cx gA p R s m args c D cl tys A Ts own cc nL rm) {x y : Int} (hdg : decode cc pc = .ok (.lcmp, 1)) {α : Type} {f1 : Option α} {o : α} (hf : np_ck (np_R6 x ∧ np_R6 y) f1 = some o) (k : f1 = some o → W p l e R s m args below meth c H locs cells slots Q (F0 m (pc + 1) ls (.int (np_i (np_cmp x y)) :: rest))) : W p l e R s m args below meth c H locs cells slots Q (F0 m pc ls (.long (np_l y) :: .long (np_l x) :: rest)) := by
  obtain ⟨⟨h1, h2⟩, hf⟩ := np_ck_e hf
  refine W.lcmp C.x C.b hdg ?_
  have e : lg_cmp (np_l x) (np_l y) = np_i (np_cmp x y) := by
    unfold lg_cmp np_cmp
    by_cases a : y < x
    · rw [if_pos ((np_lt6 h2 h1).mpr a), if_pos a]; rfl
    · rw [if_neg (fun q => a ((np_lt6 h2 h1).mp q)), if_neg a]
      by_cases b : x = y
      · rw [if_pos ((np_eq6 h1 h2).mpr b), if_pos b]; rfl
      · rw [if_neg (fun q => b ((np_eq6 h1 h2).mp q)), if_neg b]; rfl
  rw [e]
  exact k hf
theorem np_icmp_eq (C : np_Cx gA p R s m args c D cl tys A Ts own cc nL rm) {x y : Int} {off : Int} {tgt : Nat} (hdg : decode cc pc = .ok (.if_icmp .eq off, 3)) (ht : (pc : Int) + off = (tgt : Int)) {α : Type} {f1 f2 : Option α} {o : α} (hf : np_ck (np_R x ∧ np_R y) (if x = y then f1 else f2) = some o) (kt : x = y → f1 = some o → W p l e R s m args below meth c H locs cells slots Q (F0 m tgt ls rest)) (kf : ¬ (x = y) → f2 = some o → W p l e R s m args below meth c H locs cells slots Q (F0 m (pc + 3) ls rest)) : W p l e R s m args below meth c H locs cells slots Q (F0 m pc ls (.int (np_i y) :: .int (np_i x) :: rest)) := by
  obtain ⟨⟨h1, h2⟩, hf⟩ := np_ck_e hf
  have q := np_eq h1 h2
  refine lv_icmp_eq C.x C.b hdg ht (fun h => ?_) (fun h => ?_)
  · have h9 := q.mp h
    exact kt h9 (by rw [if_pos h9] at hf; exact hf)
  · have h9 : ¬ (x = y) := fun z => h (q.mpr z)
    exact kf h9 (by rw [if_neg h9] at hf; exact hf)
theorem np_if_eq (C : np_Cx gA p R s m args c D cl tys A Ts own cc nL rm) {x : Int} {off : Int} {tgt : Nat} (hdg : decode cc pc = .ok (.ifCond .eq off, 3)) (ht : (pc : Int) + off = (tgt : Int)) {α : Type} {f1 f2 : Option α} {o : α} (hf : np_ck (np_R x) (if x = 0 then f1 else f2) = some o) (kt : x = 0 → f1 = some o → W p l e R s m args below meth c H locs cells slots Q (F0 m tgt ls rest)) (kf : ¬ (x = 0) → f2 = some o → W p l e R s m args below meth c H locs cells slots Q (F0 m (pc + 3) ls rest)) : W p l e R s m args below meth c H locs cells slots Q (F0 m pc ls (.int (np_i x) :: rest)) := by
  obtain ⟨h1, hf⟩ := np_ck_e hf
  have h2 := np_R0
  have q := np_eq h1 h2
  refine lv_if_eq C.x C.b hdg ht (fun h => ?_) (fun h => ?_)
  · have h9 := q.mp h
    exact kt h9 (by rw [if_pos h9] at hf; exact hf)
  · have h9 : ¬ (x = 0) := fun z => h (q.mpr z)
    exact kf h9 (by rw [if_neg h9] at hf; exact hf)
theorem np_icmp_ne (C : np_Cx gA p R s m args c D cl tys A Ts own cc nL rm) {x y : Int} {off : Int} {tgt : Nat} (hdg : decode cc pc = .ok (.if_icmp .ne off, 3)) (ht : (pc : Int) + off = (tgt : Int)) {α : Type} {f1 f2 : Option α} {o : α} (hf : np_ck (np_R x ∧ np_R y) (if x ≠ y then f1 else f2) = some o) (kt : x ≠ y → f1 = some o → W p l e R s m args below meth c H locs cells slots Q (F0 m tgt ls rest)) (kf : ¬ (x ≠ y) → f2 = some o → W p l e R s m args below meth c H locs cells slots Q (F0 m (pc + 3) ls rest)) : W p l e R s m args below meth c H locs cells slots Q (F0 m pc ls (.int (np_i y) :: .int (np_i x) :: rest)) := by
  obtain ⟨⟨h1, h2⟩, hf⟩ := np_ck_e hf
  have q := not_congr (np_eq h1 h2)
  refine lv_icmp_ne C.x C.b hdg ht (fun h => ?_) (fun h => ?_)
  · have h9 := q.mp h
    exact kt h9 (by rw [if_pos h9] at hf; exact hf)
  · have h9 : ¬ (x ≠ y) := fun z => z ((np_eq h1 h2).mp h)
    exact kf h9 (by rw [if_neg h9] at hf; exact hf)
theorem np_if_ne (C : np_Cx gA p R s m args c D cl tys A Ts own cc nL rm) {x : Int} {off : Int} {tgt : Nat} (hdg : decode cc pc = .ok (.ifCond .ne off, 3)) (ht : (pc : Int) + off = (tgt : Int)) {α : Type} {f1 f2 : Option α} {o : α} (hf : np_ck (np_R x) (if x ≠ 0 then f1 else f2) = some o) (kt : x ≠ 0 → f1 = some o → W p l e R s m args below meth c H locs cells slots Q (F0 m tgt ls rest)) (kf : ¬ (x ≠ 0) → f2 = some o → W p l e R s m args below meth c H locs cells slots Q (F0 m (pc + 3) ls rest)) : W p l e R s m args below meth c H locs cells slots Q (F0 m pc ls (.int (np_i x) :: rest)) := by
  obtain ⟨h1, hf⟩ := np_ck_e hf
  have h2 := np_R0
  have q := not_congr (np_eq h1 h2)
  refine lv_if_ne C.x C.b hdg ht (fun h => ?_) (fun h => ?_)
  · have h9 := q.mp h
    exact kt h9 (by rw [if_pos h9] at hf; exact hf)
  · have h9 : ¬ (x ≠ 0) := fun z => z ((np_eq h1 h2).mp h)
    exact kf h9 (by rw [if_neg h9] at hf; exact hf)
theorem np_icmp_lt (C : np_Cx gA p R s m args c D cl tys A Ts own cc nL rm) {x y : Int} {off : Int} {tgt : Nat} (hdg : decode cc pc = .ok (.if_icmp .lt off, 3)) (ht : (pc : Int) + off = (tgt : Int)) {α : Type} {f1 f2 : Option α} {o : α} (hf : np_ck (np_R x ∧ np_R y) (if x < y then f1 else f2) = some o) (kt : x < y → f1 = some o → W p l e R s m args below meth c H locs cells slots Q (F0 m tgt ls rest)) (kf : ¬ (x < y) → f2 = some o → W p l e R s m args below meth c H locs cells slots Q (F0 m (pc + 3) ls rest)) : W p l e R s m args below meth c H locs cells slots Q (F0 m pc ls (.int (np_i y) :: .int (np_i x) :: rest)) := by
  obtain ⟨⟨h1, h2⟩, hf⟩ := np_ck_e hf
  have q := np_lt h1 h2
  refine lv_icmp_lt C.x C.b hdg ht (fun h => ?_) (fun h => ?_)
  · have h9 := q.mp h
    exact kt h9 (by rw [if_pos h9] at hf; exact hf)
  · have h9 : ¬ (x < y) := fun z => h (q.mpr z)
    exact kf h9 (by rw [if_neg h9] at hf; exact hf)
theorem np_if_lt (C : np_Cx gA p R s m args c D cl tys A Ts own cc nL rm) {x : Int} {off : Int} {tgt : Nat} (hdg : decode cc pc = .ok (.ifCond .lt off, 3)) (ht : (pc : Int) + off = (tgt : Int)) {α : Type} {f1 f2 : Option α} {o : α} (hf : np_ck (np_R x) (if x < 0 then f1 else f2) = some o) (kt : x < 0 → f1 = some o → W p l e R s m args below meth c H locs cells slots Q (F0 m tgt ls rest)) (kf : ¬ (x < 0) → f2 = some o → W p l e R s m args below meth c H locs cells slots Q (F0 m (pc + 3) ls rest)) : W p l e R s m args below meth c H locs cells slots Q (F0 m pc ls (.int (np_i x) :: rest)) := by
  obtain ⟨h1, hf⟩ := np_ck_e hf
  have h2 := np_R0
  have q := np_lt h1 h2
  refine lv_if_lt C.x C.b hdg ht (fun h => ?_) (fun h => ?_)
  · have h9 := q.mp h
    exact kt h9 (by rw [if_pos h9] at hf; exact hf)
  · have h9 : ¬ (x < 0) := fun z => h (q.mpr z)
    exact kf h9 (by rw [if_neg h9] at hf; exact hf)
theorem np_icmp_ge (C : np_Cx gA p R s m args c D cl tys A Ts own cc nL rm) {x y : Int} {off : Int} {tgt : Nat} (hdg : decode cc pc = .ok (.if_icmp .ge off, 3)) (ht : (pc : Int) + off = (tgt : Int)) {α : Type} {f1 f2 : Option α} {o : α} (hf : np_ck (np_R x ∧ np_R y) (if y ≤ x then f1 else f2) = some o) (kt : y ≤ x → f1 = some o → W p l e R s m args below meth c H locs cells slots Q (F0 m tgt ls rest)) (kf : ¬ (y ≤ x) → f2 = some o → W p l e R s m args below meth c H locs cells slots Q (F0 m (pc + 3) ls rest)) : W p l e R s m args below meth c H locs cells slots Q (F0 m pc ls (.int (np_i y) :: .int (np_i x) :: rest)) := by
  obtain ⟨⟨h1, h2⟩, hf⟩ := np_ck_e hf
  have q := np_le h2 h1
  refine lv_icmp_ge C.x C.b hdg ht (fun h => ?_) (fun h => ?_)
  · have h9 := q.mp h
    exact kt h9 (by rw [if_pos h9] at hf; exact hf)
  · have h9 : ¬ (y ≤ x) := fun z => h (q.mpr z)
    exact kf h9 (by rw [if_neg h9] at hf; exact hf)
theorem np_if_ge (C : np_Cx gA p R s m args c D cl tys A Ts own cc nL rm) {x : Int} {off : Int} {tgt : Nat} (hdg : decode cc pc = .ok (.ifCond .ge off, 3)) (ht : (pc : Int) + off = (tgt : Int)) {α : Type} {f1 f2 : Option α} {o : α} (hf : np_ck (np_R x) (if 0 ≤ x then f1 else f2) = some o) (kt : 0 ≤ x → f1 = some o → W p l e R s m args below meth c H locs cells slots Q (F0 m tgt ls rest)) (kf : ¬ (0 ≤ x) → f2 = some o → W p l e R s m args below meth c H locs cells slots Q (F0 m (pc + 3) ls rest)) : W p l e R s m args below meth c H locs cells slots Q (F0 m pc ls (.int (np_i x) :: rest)) := by
  obtain ⟨h1, hf⟩ := np_ck_e hf
  have h2 := np_R0
  have q := np_le h2 h1
  refine lv_if_ge C.x C.b hdg ht (fun h => ?_) (fun h => ?_)
  · have h9 := q.mp h
    exact kt h9 (by rw [if_pos h9] at hf; exact hf)
  · have h9 : ¬ (0 ≤ x) := fun z => h (q.mpr z)
    exact kf h9 (by rw [if_neg h9] at hf; exact hf)
theorem np_icmp_gt (C : np_Cx gA p R s m args c D cl tys A Ts own cc nL rm) {x y : Int} {off : Int} {tgt : Nat} (hdg : decode cc pc = .ok (.if_icmp .gt off, 3)) (ht : (pc : Int) + off = (tgt : Int)) {α : Type} {f1 f2 : Option α} {o : α} (hf : np_ck (np_R x ∧ np_R y) (if y < x then f1 else f2) = some o) (kt : y < x → f1 = some o → W p l e R s m args below meth c H locs cells slots Q (F0 m tgt ls rest)) (kf : ¬ (y < x) → f2 = some o → W p l e R s m args below meth c H locs cells slots Q (F0 m (pc + 3) ls rest)) : W p l e R s m args below meth c H locs cells slots Q (F0 m pc ls (.int (np_i y) :: .int (np_i x) :: rest)) := by
  obtain ⟨⟨h1, h2⟩, hf⟩ := np_ck_e hf
  have q := np_lt h2 h1
  refine lv_icmp_gt C.x C.b hdg ht (fun h => ?_) (fun h => ?_)
  · have h9 := q.mp h
    exact kt h9 (by rw [if_pos h9] at hf; exact hf)
  · have h9 : ¬ (y < x) := fun z => h (q.mpr z)
    exact kf h9 (by rw [if_neg h9] at hf; exact hf)
theorem np_if_gt (C : np_Cx gA p R s m args c D cl tys A Ts own cc nL rm) {x : Int} {off : Int} {tgt : Nat} (hdg : decode cc pc = .ok (.ifCond .gt off, 3)) (ht : (pc : Int) + off = (tgt : Int)) {α : Type} {f1 f2 : Option α} {o : α} (hf : np_ck (np_R x) (if 0 < x then f1 else f2) = some o) (kt : 0 < x → f1 = some o → W p l e R s m args below meth c H locs cells slots Q (F0 m tgt ls rest)) (kf : ¬ (0 < x) → f2 = some o → W p l e R s m args below meth c H locs cells slots Q (F0 m (pc + 3) ls rest)) : W p l e R s m args below meth c H locs cells slots Q (F0 m pc ls (.int (np_i x) :: rest)) := by
  obtain ⟨h1, hf⟩ := np_ck_e hf
  have h2 := np_R0
  have q := np_lt h2 h1
  refine lv_if_gt C.x C.b hdg ht (fun h => ?_) (fun h => ?_)
  · have h9 := q.mp h
    exact kt h9 (by rw [if_pos h9] at hf; exact hf)
  · have h9 : ¬ (0 < x) := fun z => h (q.mpr z)
    exact kf h9 (by rw [if_neg h9] at hf; exact hf)
theorem np_icmp_le (C : np_Cx gA p R s m args c D cl tys A Ts own cc nL rm) {x y : Int} {off : Int} {tgt : Nat} (hdg : decode cc pc = .ok (.if_icmp .le off, 3)) (ht : (pc : Int) + off = (tgt : Int)) {α : Type} {f1 f2 : Option α} {o : α} (hf : np_ck (np_R x ∧ np_R y) (if x ≤ y then f1 else f2) = some o) (kt : x ≤ y → f1 = some o → W p l e R s m args below meth c H locs cells slots Q (F0 m tgt ls rest)) (kf : ¬ (x ≤ y) → f2 = some o → W p l e R s m args below meth c H locs cells slots Q (F0 m (pc + 3) ls rest)) : W p l e R s m args below meth c H locs cells slots Q (F0 m pc ls (.int (np_i y) :: .int (np_i x) :: rest)) := by
  obtain ⟨⟨h1, h2⟩, hf⟩ := np_ck_e hf
  have q := np_le h1 h2
  refine lv_icmp_le C.x C.b hdg ht (fun h => ?_) (fun h => ?_)
  · have h9 := q.mp h
    exact kt h9 (by rw [if_pos h9] at hf; exact hf)
  · have h9 : ¬ (x ≤ y) := fun z => h (q.mpr z)
    exact kf h9 (by rw [if_neg h9] at hf; exact hf)
theorem np_if_le (C : np_Cx gA p R s m args c D cl tys A Ts own cc nL rm) {x : Int} {off : Int} {tgt : Nat} (hdg : decode cc pc = .ok (.ifCond .le off, 3)) (ht : (pc : Int) + off = (tgt : Int)) {α : Type} {f1 f2 : Option α} {o : α} (hf : np_ck (np_R x) (if x ≤ 0 then f1 else f2) = some o) (kt : x ≤ 0 → f1 = some o → W p l e R s m args below meth c H locs cells slots Q (F0 m tgt ls rest)) (kf : ¬ (x ≤ 0) → f2 = some o → W p l e R s m args below meth c H locs cells slots Q (F0 m (pc + 3) ls rest)) : W p l e R s m args below meth c H locs cells slots Q (F0 m pc ls (.int (np_i x) :: rest)) := by
  obtain ⟨h1, hf⟩ := np_ck_e hf
  have h2 := np_R0
  have q := np_le h1 h2
  refine lv_if_le C.x C.b hdg ht (fun h => ?_) (fun h => ?_)
  · have h9 := q.mp h
    exact kt h9 (by rw [if_pos h9] at hf; exact hf)
  · have h9 : ¬ (x ≤ 0) := fun z => h (q.mpr z)
    exact kf h9 (by rw [if_neg h9] at hf; exact hf)
theorem np_case {α : Type} {P : Prop} {x k : Int} {f1 f2 : Option α} {o : α} (hf : (if x = k then f1 else f2) = some o) (k1 : x = k → f1 = some o → P) (k2 : ¬ x = k → f2 = some o → P) : P := by
  by_cases h : x = k
  · exact k1 h (by rw [if_pos h] at hf; exact hf)
  · exact k2 h (by rw [if_neg h] at hf; exact hf)
theorem np_tswI (C : np_Cx gA p R s m args c D cl tys A Ts own cc nL rm) {dflt lo hi : Int} {offs : Array Int} {len : Nat} {x k : Int} {off : Int} {tgt : Nat} (hdg : decode cc pc = .ok (.tableswitch dflt lo hi offs, len)) (hx : x = k) (h1 : ¬ (np_i k).toInt < lo) (h2 : ¬ hi < (np_i k).toInt) (ho : offs[((np_i k).toInt - lo).toNat]? = some off) (ht : (pc : Int) + off = (tgt : Int)) (kk : W p l e R s m args below meth c H locs cells slots Q (F0 m tgt ls rest)) : W p l e R s m args below meth c H locs cells slots Q (F0 m pc ls (.int (np_i x) :: rest)) := by
  subst hx
  exact lv_tableIn C.x C.b hdg h1 h2 ho ht kk
theorem np_tswO (C : np_Cx gA p R s m args c D cl tys A Ts own cc nL rm) {dflt lo hi : Int} {offs : Array Int} {len : Nat} {x : Int} {tgt : Nat} (hdg : decode cc pc = .ok (.tableswitch dflt lo hi offs, len)) (hR : np_R x) (h : x < lo ∨ hi < x) (ht : (pc : Int) + dflt = (tgt : Int)) (kk : W p l e R s m args below meth c H locs cells slots Q (F0 m tgt ls rest)) : W p l e R s m args below meth c H locs cells slots Q (F0 m pc ls (.int (np_i x) :: rest)) :=
  lv_tableOut C.x C.b hdg (by rw [np_toInt hR]; exact h) ht kk
theorem np_lswI (C : np_Cx gA p R s m args c D cl tys A Ts own cc nL rm) {dflt : Int} {ps : Array (Int × Int)} {len : Nat} {x k : Int} {off : Int} {tgt : Nat} (hdg : decode cc pc = .ok (.lookupswitch dflt ps, len)) (hx : x = k) (hp : (ps.toList.zip (ps.toList.drop 1)).all (fun (a, next) => a.1 < next.1) = true) (ho : Op.lookupswitch.offset ps.toList dflt (np_i k).toInt = off) (ht : (pc : Int) + off = (tgt : Int)) (kk : W p l e R s m args below meth c H locs cells slots Q (F0 m tgt ls rest)) : W p l e R s m args below meth c H locs cells slots Q (F0 m pc ls (.int (np_i x) :: rest)) := by
  subst hx
  exact lv_lookup C.x C.b hdg hp ho ht kk
theorem np_losw : ∀ (r : List (Int × Int)) (d x : Int), (∀ q ∈ r, ¬ x = q.1) → Op.lookupswitch.offset r d x = d
  | [], d, x, _ => rfl
  | (a, o) :: r, d, x, h => by
    rw [Op.lookupswitch.offset_cons, if_neg (fun q => h (a, o) List.mem_cons_self q.symm)]
    exact np_losw r d x (fun q hq => h q (List.mem_cons_of_mem _ hq))
theorem np_lswO (C : np_Cx gA p R s m args c D cl tys A Ts own cc nL rm) {dflt : Int} {ps : Array (Int × Int)} {len : Nat} {x : Int} {tgt : Nat} (hdg : decode cc pc = .ok (.lookupswitch dflt ps, len)) (hR : np_R x) (hp : (ps.toList.zip (ps.toList.drop 1)).all (fun (a, next) => a.1 < next.1) = true) (h : ∀ q ∈ ps.toList, ¬ x = q.1) (ht : (pc : Int) + dflt = (tgt : Int)) (kk : W p l e R s m args below meth c H locs cells slots Q (F0 m tgt ls rest)) : W p l e R s m args below meth c H locs cells slots Q (F0 m pc ls (.int (np_i x) :: rest)) :=
  lv_lookup C.x C.b hdg hp (by rw [np_toInt hR]; exact np_losw _ _ _ h) ht kk
theorem np_ldc (C : np_Cx gA p R s m args c D cl tys A Ts own cc nL rm) {index : Nat} {v : Int} (hw : Jvm.Cond.constant own index (np_i v) ∈ Ts) (hdg : decode cc pc = .ok (.ldc index, 2)) (k : W p l e R s m args below meth c H locs cells slots Q (F0 m (pc + 2) ls (.int (np_i v) :: rest))) : W p l e R s m args below meth c H locs cells slots Q (F0 m pc ls rest) := lv_ldc C.x C.b C.o (C.t _ hw) hdg k
theorem np_ldc2 (C : np_Cx gA p R s m args c D cl tys A Ts own cc nL rm) {index : Nat} {v : Int} (hw : Jvm.Cond.constantLong own index (np_l v) ∈ Ts) (hdg : decode cc pc = .ok (.ldc2_w index, 3)) (k : W p l e R s m args below meth c H locs cells slots Q (F0 m (pc + 3) ls (.long (np_l v) :: rest))) : W p l e R s m args below meth c H locs cells slots Q (F0 m pc ls rest) := lv_ldc2 C.x C.b C.o (C.t _ hw) hdg k
theorem np_get (C : np_Cx gA p R s m args c D cl tys A Ts own cc nL rm) {ref Cn : String} {T : u_T} {N ci index a : Nat} {ws : va_W} {fs : List Value} {v : Value} (hin : ∀ w ∈ u_ws Cn T N, w ∈ Ts) (hP : va_P D cl ws H) (k : Nat) (he : ws[k]? = some (a, .inr (ci, fs))) (hc : cl[ci]? = some (Cn, T, N)) (j : Nat) (hj : j < N) (hw : Cond.fieldLink own index ref (T j).2.1 (T j).2.2.1 ∈ Ts) (hsame : (T j).1 = ref) (hv : fs[j]? = some v) (hdg : decode cc pc = .ok (.getfield index, 3)) (kk : W p l e R s m args below meth c H locs cells slots Q (F0 m (pc + 3) ls (v :: rest))) : W p l e R s m args below meth c H locs cells slots Q (F0 m pc ls (.ref a :: rest)) :=
  va_get C.x C.b C.t hin C.o C.k hP k he hc j hj (C.t _ hw) (fun x h => hsame ▸ h) hv hdg kk
theorem np_put (C : np_Cx gA p R s m args c D cl tys A Ts own cc nL rm) {ref Cn : String} {T : u_T} {N ci index a : Nat} {fs : List Value} {v : Value} {σ2 : np_S} (hin : ∀ w ∈ u_ws Cn T N, w ∈ Ts) (ty0 : Nat → FieldType) (hty : ∀ k, k < N → parseFieldDescriptor (T k).2.2.1 = some (ty0 k)) (hnm : ∀ a, a < N → ∀ b, b < N → a ≠ b → (T a).2.1 ≠ (T b).2.1) (hat : np_At D cl A wd s σ H locs) (k : Nat) (he : (wd σ)[k]? = some (a, .inr (ci, fs))) (hc : cl[ci]? = some (Cn, T, N)) (j : Nat) (hj : j < N) (hw : Cond.fieldLink own index ref (T j).2.1 (T j).2.2.1 ∈ Ts) (hsame : (T j).1 = ref) (hfin : (T j).2.2.2 = false) {ty : FieldType} (hd : parseFieldDescriptor (T j).2.2.1 = some ty) (hn : narrow ty v = v) (hfit : fits ty v = true) (hl : j < fs.length) (hset : (wd σ).set k (a, .inr (ci, fs.set j v)) = wd σ2) (hdg : decode cc pc = .ok (.putfield index, 3)) (kk : ∀ (H : Heap) (locs : List Loc), np_At D cl A wd s σ2 H locs → W p l e R s m args below meth c H locs cells slots Q (F0 m (pc + 3) ls rest)) : W p l e R s m args below meth c H locs cells slots Q (F0 m pc ls (v :: .ref a :: rest)) :=
  va_put C.x C.b C.t hin ty0 hty hnm C.o C.k hat.1 hat.2.1 hat.2.2 k he hc j hj (C.t _ hw) (fun x h => hsame ▸ h) hfin hd hn hfit hl hdg (fun H1 locs1 h1 h2 h3 => kk H1 locs1 ⟨hset ▸ h1, hset ▸ h2, h3⟩)
theorem np_iaload (C : np_Cx gA p R s m args c D cl tys A Ts own cc nL rm) {ws : va_W} {a n kk0 : Nat} {cA : ClassId} {j : Int} (hP : va_P D cl ws H) (k : Nat) (he : ws[k]? = some (a, .inl (cA, n, .inl (fun i => np_i (σ kk0 i))))) (t : Nat) (ht : tys[t]? = some (cA, .int)) (hn : n < 2147483648) (hdg : decode cc pc = .ok (.iaload, 1)) {α : Type} {f1 : Option α} {o : α} (hf : np_ck (0 ≤ j ∧ j < (n : Int)) f1 = some o) (kk : f1 = some o → W p l e R s m args below meth c H locs cells slots Q (F0 m (pc + 1) ls (.int (np_i (σ kk0 j)) :: rest))) : W p l e R s m args below meth c H locs cells slots Q (F0 m pc ls (.int (np_i j) :: .ref a :: rest)) := by
  obtain ⟨⟨h1, h2⟩, hf⟩ := np_ck_e hf
  refine va_iald C.x C.b C.k hP k t he ht (np_in h1 h2 hn) hdg ?_
  rw [np_clamp h1 ⟨by omega, by omega⟩, Int.toNat_of_nonneg h1]
  exact kk hf
theorem np_baload (C : np_Cx gA p R s m args c D cl tys A Ts own cc nL rm) {ws : va_W} {a n kk0 : Nat} {cA : ClassId} {j : Int} (hP : va_P D cl ws H) (k : Nat) (he : ws[k]? = some (a, .inl (cA, n, .inl (fun i => np_i (σ kk0 i))))) (t : Nat) (ht : tys[t]? = some (cA, .byte)) (hn : n < 2147483648) (hdg : decode cc pc = .ok (.baload, 1)) {α : Type} {f1 : Option α} {o : α} (hf : np_ck (0 ≤ j ∧ j < (n : Int)) f1 = some o) (kk : f1 = some o → W p l e R s m args below meth c H locs cells slots Q (F0 m (pc + 1) ls (.int (np_i (σ kk0 j)) :: rest))) : W p l e R s m args below meth c H locs cells slots Q (F0 m pc ls (.int (np_i j) :: .ref a :: rest)) := by
  obtain ⟨⟨h1, h2⟩, hf⟩ := np_ck_e hf
  refine va_bald C.x C.b C.k hP k t he ht (np_in h1 h2 hn) hdg ?_
  rw [np_clamp h1 ⟨by omega, by omega⟩, Int.toNat_of_nonneg h1]
  exact kk hf
theorem np_laload (C : np_Cx gA p R s m args c D cl tys A Ts own cc nL rm) {ws : va_W} {a n kk0 : Nat} {cA : ClassId} {j : Int} (hP : va_P D cl ws H) (k : Nat) (he : ws[k]? = some (a, .inl (cA, n, .inr (.inl (fun i => np_l (σ kk0 i)))))) (t : Nat) (ht : tys[t]? = some (cA, .long)) (hn : n < 2147483648) (hdg : decode cc pc = .ok (.laload, 1)) {α : Type} {f1 : Option α} {o : α} (hf : np_ck (0 ≤ j ∧ j < (n : Int)) f1 = some o) (kk : f1 = some o → W p l e R s m args below meth c H locs cells slots Q (F0 m (pc + 1) ls (.long (np_l (σ kk0 j)) :: rest))) : W p l e R s m args below meth c H locs cells slots Q (F0 m pc ls (.int (np_i j) :: .ref a :: rest)) := by
  obtain ⟨⟨h1, h2⟩, hf⟩ := np_ck_e hf
  refine va_lald C.x C.b C.k hP k t he ht (np_in h1 h2 hn) hdg ?_
  rw [np_clamp h1 ⟨by omega, by omega⟩, Int.toNat_of_nonneg h1]
  exact kk hf
theorem np_updI {f : Int → Int} {j v : Int} (h : 0 ≤ j) (hR : np_R j) : upd (fun i : Nat => np_i (f i)) (np_i j).toNatClampNeg (np_i v) = fun i : Nat => np_i (if (i : Int) = j then v else f i) := by
  funext i
  rw [np_clamp h hR]
  by_cases q : i = j.toNat
  · subst q
    rw [if_pos (by omega)]
    simp [upd]
  · rw [if_neg (by omega)]
    simp [upd, q]
theorem np_updL {f : Int → Int} {j v : Int} (h : 0 ≤ j) (hR : np_R j) : vp_updL (fun i : Nat => np_l (f i)) (np_i j).toNatClampNeg (np_l v) = fun i : Nat => np_l (if (i : Int) = j then v else f i) := by
  funext i
  rw [np_clamp h hR]
  by_cases q : i = j.toNat
  · subst q
    rw [if_pos (by omega)]
    simp [vp_updL]
  · rw [if_neg (by omega)]
    simp [vp_updL, q]
theorem np_iastore (C : np_Cx gA p R s m args c D cl tys A Ts own cc nL rm) {a n kk0 : Nat} {cA : ClassId} {j x : Int} {σ2 : np_S} (hat : np_At D cl A wd s σ H locs) (k : Nat) (he : (wd σ)[k]? = some (a, .inl (cA, n, .inl (fun i => np_i (σ kk0 i))))) (t : Nat) (ht : tys[t]? = some (cA, .int)) (hn : n < 2147483648) (hset : (wd σ).set k (a, .inl (cA, n, .inl (fun i : Nat => np_i (if (i : Int) = j then x else σ kk0 i)))) = wd σ2) (hdg : decode cc pc = .ok (.iastore, 1)) {α : Type} {f1 : Option α} {o : α} (hf : np_ck (0 ≤ j ∧ j < (n : Int)) f1 = some o) (kk : ∀ (H : Heap) (locs : List Loc), np_At D cl A wd s σ2 H locs → f1 = some o → W p l e R s m args below meth c H locs cells slots Q (F0 m (pc + 1) ls rest)) : W p l e R s m args below meth c H locs cells slots Q (F0 m pc ls (.int (np_i x) :: .int (np_i j) :: .ref a :: rest)) := by
  obtain ⟨⟨g1, g2⟩, hf⟩ := np_ck_e hf
  have hR : np_R j := ⟨by omega, by omega⟩
  refine va_iast C.x C.b C.k hat.1 hat.2.1 hat.2.2 k t he ht (np_in g1 g2 hn) hdg (fun H1 locs1 h1 h2 h3 => ?_)
  rw [np_updI g1 hR] at h1 h2
  exact kk H1 locs1 ⟨hset ▸ h1, hset ▸ h2, h3⟩ hf
theorem np_bastore (C : np_Cx gA p R s m args c D cl tys A Ts own cc nL rm) {a n kk0 : Nat} {cA : ClassId} {j x : Int} {σ2 : np_S} (hat : np_At D cl A wd s σ H locs) (k : Nat) (he : (wd σ)[k]? = some (a, .inl (cA, n, .inl (fun i => np_i (σ kk0 i))))) (t : Nat) (ht : tys[t]? = some (cA, .byte)) (hn : n < 2147483648) (hset : (wd σ).set k (a, .inl (cA, n, .inl (fun i : Nat => np_i (if (i : Int) = j then Int.bmod x 256 else σ kk0 i)))) = wd σ2) (hdg : decode cc pc = .ok (.bastore, 1)) {α : Type} {f1 : Option α} {o : α} (hf : np_ck (0 ≤ j ∧ j < (n : Int)) f1 = some o) (kk : ∀ (H : Heap) (locs : List Loc), np_At D cl A wd s σ2 H locs → f1 = some o → W p l e R s m args below meth c H locs cells slots Q (F0 m (pc + 1) ls rest)) : W p l e R s m args below meth c H locs cells slots Q (F0 m pc ls (.int (np_i x) :: .int (np_i j) :: .ref a :: rest)) := by
  obtain ⟨⟨g1, g2⟩, hf⟩ := np_ck_e hf
  have hR : np_R j := ⟨by omega, by omega⟩
  refine va_bast C.x C.b C.k hat.1 hat.2.1 hat.2.2 k t he ht (np_in g1 g2 hn) hdg (fun H1 locs1 h1 h2 h3 => ?_)
  rw [vp_nar_byte, np_byte] at h1 h2; rw [np_updI g1 hR] at h1 h2
  exact kk H1 locs1 ⟨hset ▸ h1, hset ▸ h2, h3⟩ hf
theorem np_lastore (C : np_Cx gA p R s m args c D cl tys A Ts own cc nL rm) {a n kk0 : Nat} {cA : ClassId} {j x : Int} {σ2 : np_S} (hat : np_At D cl A wd s σ H locs) (k : Nat) (he : (wd σ)[k]? = some (a, .inl (cA, n, .inr (.inl (fun i => np_l (σ kk0 i)))))) (t : Nat) (ht : tys[t]? = some (cA, .long)) (hn : n < 2147483648) (hset : (wd σ).set k (a, .inl (cA, n, .inr (.inl (fun i : Nat => np_l (if (i : Int) = j then x else σ kk0 i))))) = wd σ2) (hdg : decode cc pc = .ok (.lastore, 1)) {α : Type} {f1 : Option α} {o : α} (hf : np_ck (0 ≤ j ∧ j < (n : Int)) f1 = some o) (kk : ∀ (H : Heap) (locs : List Loc), np_At D cl A wd s σ2 H locs → f1 = some o → W p l e R s m args below meth c H locs cells slots Q (F0 m (pc + 1) ls rest)) : W p l e R s m args below meth c H locs cells slots Q (F0 m pc ls (.long (np_l x) :: .int (np_i j) :: .ref a :: rest)) := by
  obtain ⟨⟨g1, g2⟩, hf⟩ := np_ck_e hf
  have hR : np_R j := ⟨by omega, by omega⟩
  refine va_last C.x C.b C.k hat.1 hat.2.1 hat.2.2 k t he ht (np_in g1 g2 hn) hdg (fun H1 locs1 h1 h2 h3 => ?_)
  rw [np_updL g1 hR] at h1 h2
  exact kk H1 locs1 ⟨hset ▸ h1, hset ▸ h2, h3⟩ hf
theorem np_alen (C : np_Cx gA p R s m args c D cl tys A Ts own cc nL rm) {ws : va_W} {a n : Nat} {cA : ClassId} {x : vp_A} {ty : FieldType} (hP : va_P D cl ws H) (k : Nat) (he : ws[k]? = some (a, .inl (cA, x))) (t : Nat) (ht : tys[t]? = some (cA, ty)) (hv : Int32.ofNat x.1 = np_i n) (hdg : decode cc pc = .ok (.arraylength, 1)) (kk : W p l e R s m args below meth c H locs cells slots Q (F0 m (pc + 1) ls (.int (np_i n) :: rest))) : W p l e R s m args below meth c H locs cells slots Q (F0 m pc ls (.ref a :: rest)) :=
  va_alen C.x C.b C.k hP k t he ht hv hdg kk
end NPR
end
section
/-- a contract's start: the whole world, holding σ -/
def np_Pre (gA : Nat → Nat) (D : va_G) (cl : List vw_C) (tys : List (ClassId × FieldType)) (wd : np_S → va_W) (σ : np_S) (sz : Nat) : State → Prop := fun U => U.heap.size = sz ∧ va_P D cl (wd σ) U.heap ∧ va_K D cl tys U ∧ va_D (fun _ => True) (wd σ) ∧ np_E gA (va_A (wd σ) sz) U U.heap
def np_B (D : va_G) (cl : List vw_C) (tys : List (ClassId × FieldType)) (A : Nat → Prop) (wd : np_S → va_W) : np_S → State → Prop := fun u t => va_P D cl (wd u) t.heap ∧ va_K D cl tys t ∧ va_D A (wd u)
/-- contracts: where the function fy answers o, the method answers o.1 and leaves the store o.2 -/
def np_Mi (gA : Nat → Nat) (l : Launch) (D : va_G) (cl : List vw_C) (tys : List (ClassId × FieldType)) (wd : np_S → va_W) (y : MethodName) (ws : List Cond) (rm : Room) (avs : List Value) (σ : np_S) (fy : Option np_O) : Prop :=
  ∀ (sz : Nat) (o : np_O), fy = some o → Met l y ws rm (va_Pc avs (np_Pre gA D cl tys wd σ sz)) (va_Qi (fun (r : Int32) (u : np_S) => r = np_i o.1 ∧ u = o.2) (np_B D cl tys (va_A (wd σ) sz) wd) (va_A (wd σ) sz)) 0 0 (va_A (wd σ) sz)
def np_Ml (gA : Nat → Nat) (l : Launch) (D : va_G) (cl : List vw_C) (tys : List (ClassId × FieldType)) (wd : np_S → va_W) (y : MethodName) (ws : List Cond) (rm : Room) (avs : List Value) (σ : np_S) (fy : Option np_O) : Prop :=
  ∀ (sz : Nat) (o : np_O), fy = some o → Met l y ws rm (va_Pc avs (np_Pre gA D cl tys wd σ sz)) (va_Ql (fun (r : Int64) (u : np_S) => r = np_l o.1 ∧ u = o.2) (np_B D cl tys (va_A (wd σ) sz) wd) (va_A (wd σ) sz)) 0 0 (va_A (wd σ) sz)
def np_Mv (gA : Nat → Nat) (l : Launch) (D : va_G) (cl : List vw_C) (tys : List (ClassId × FieldType)) (wd : np_S → va_W) (y : MethodName) (ws : List Cond) (rm : Room) (avs : List Value) (σ : np_S) (fy : Option np_O) : Prop :=
  ∀ (sz : Nat) (o : np_O), fy = some o → Met l y ws rm (va_Pc avs (np_Pre gA D cl tys wd σ sz)) (va_Qv (fun (u : np_S) => u = o.2) (np_B D cl tys (va_A (wd σ) sz) wd) (va_A (wd σ) sz)) 0 0 (va_A (wd σ) sz)
abbrev np_good (AL : List Cond) : Prop := ∀ w ∈ AL, (w.onTables && w.keeps) = true ∨ ∃ ty, w = .arrayClass ty
theorem np_goodIn {AL ws : List Cond} (hall : np_good AL) (h : ∀ w ∈ ws, w ∈ AL) : GoodIn AL ws := fun w hw => ⟨h w hw, hall w (h w hw)⟩
theorem np_blind {gA : Nat → Nat} {D : va_G} {cl : List vw_C} {tys : List (ClassId × FieldType)} {wd : np_S → va_W} {σ : np_S} {sz : Nat} {avs : List Value} : FrameBlind (va_Pc avs (np_Pre gA D cl tys wd σ sz)) := by
  intro a U g mk q
  obtain ⟨q0, q1, qP, qK, qD, qE⟩ := q
  exact ⟨q0, q1, qP, va_K.moved (u := U) (U := U.calling g mk a) (Vm.Alike.refl U.vm) qK, qD, np_E.same (u := U) rfl qE⟩
section NPC
variable {p : Program} {l : Launch} {e : Env} {R : Room} {s : State} {m : MethodId} {args : Array Value} {below : List Frame} {meth : Method} {c : Code} {H : Heap} {locs : List Loc} {cells slots : Nat} {Q : State → Prop}
variable {cc : ByteArray} {pc : Nat} {ls : Array Slot} {rest : List Value} {D : va_G} {cl : List vw_C} {tys : List (ClassId × FieldType)} {A : Nat → Prop} {Ts : List Cond} {own : String} {nL : Nat} {rm : Room} {wd : np_S → va_W} {σ : np_S} {gA : Nat → Nat}
theorem np_freeA (C : np_Cx gA p R s m args c D cl tys A Ts own cc nL rm) (hat : np_At D cl A wd s σ H locs) : ∀ q, va_A (wd σ) H.size q → A q := by
  intro q h
  rcases h with ⟨k, e, h⟩ | h
  · exact hat.2.1.2 k _ h
  · exact C.a q (Nat.le_trans hat.2.2.1 h)
theorem np_preU (C : np_Cx gA p R s m args c D cl tys A Ts own cc nL rm) (hat : np_At D cl A wd s σ H locs) {avs : List Value} : ∀ U : State, U.heap = H → s.WarmedH U.vm → va_Pc avs (np_Pre gA D cl tys wd σ H.size) avs.toArray U := fun U hU hW => ⟨rfl, by rw [hU], by rw [hU]; exact hat.1, va_K.moved hW.alike C.k, hat.2.1.weaken (fun _ _ _ _ => trivial), by rw [hU]; exact ((C.en.kept hat.2.2.2.1).narrow (np_freeA C hat)).warm hW⟩
theorem np_callVi (C : np_Cx gA p R s m args c D cl tys A Ts own cc nL rm) {y : MethodName} {bytes : ByteArray} {maxL index : Nat} {ret : Option FieldType} {rmy : Room} {As st : List Value} {a : Nat} {fy : Option np_O} (hM : np_Mi gA l D cl tys wd y (.code y bytes maxL ret :: Ts) rmy (.ref a :: As) σ fy) (hall : np_good Ts) (w1 : .methodLink own index y ∈ Ts) (w2 : .instanceMethod y ∈ Ts) (w3 : .selects y.cls y y ∈ Ts) (w4 : .initialized y.cls ∈ Ts) (w5 : .code y bytes maxL ret ∈ Ts) (hd : y.cls ≠ "java/lang/invoke/MethodHandle" ∧ y.cls ≠ "java/lang/invoke/VarHandle" ∧ (parseMethodDescriptor y.desc).map (fun d => d.parameters.length) = some As.length) (hR : rmy.cells = 0 ∧ rmy.slots = 0 ∧ rmy.frames + 1 ≤ rm.frames ∧ 8 + (maxL + 11) + rmy.locals ≤ rm.locals) {ci : Nat} {fs : List Value} {T : u_T} {N : Nat} {kc : Nat} (he : (wd σ)[kc]? = some (a, .inr (ci, fs))) (hc : cl[ci]? = some (y.cls, T, N)) (hat : np_At D cl A wd s σ H locs) (hst : st = As.reverse ++ .ref a :: rest) (hls : ls.size = nL) (hrest : (rest.map fun v => v.category).sum ≤ 8) (hdg : decode cc pc = .ok (.invokevirtual index, 3)) {α : Type} {k : np_O → Option α} {o : α} (hf : fy.bind k = some o)
    (kk : ∀ (r : np_O) (H : Heap) (locs : List Loc), k r = some o → np_At D cl A wd s r.2 H locs → W p l e R s m args below meth c H locs 0 0 Q (F0 m (pc + 3) ls (.int (np_i r.1) :: rest))) : W p l e R s m args below meth c H locs 0 0 Q (F0 m pc ls st) := by
  obtain ⟨r, hfy, hfk⟩ := Option.bind_eq_some_iff.mp hf
  have hFc := np_freeA C hat
  subst hst
  have hRR : rmy.frames + 1 ≤ R.frames ∧ 8 + (maxL + 11) + rmy.locals ≤ R.locals := by rw [C.r]; exact hR.2.2
  have hG : ∀ w ∈ (.code y bytes maxL ret :: Ts), w ∈ Ts := fun w hw => by
    rcases List.mem_cons.mp hw with rfl | hw
    · exact w5
    · exact hw
  refine va_calli (va_runV (As := As) (rest := rest) C.1 (hM H.size r hfy) ⟨callB_of As.length C.t (np_goodIn hall hG) rfl hR.1 hR.2.1 (C.t _ w4) (C.t _ w1) hd hRR, C.t _ w2, C.t _ w3⟩ ⟨np_blind, va_recv C.k hat.1 hc he, np_preU C hat⟩ rfl rfl hls rfl (lv_room hrest) hdg ⟨Nat.zero_le _, Nat.zero_le _⟩) hat.2.2 (fun q _ h => hFc q h) hFc (fun r1 u t H1 locs ht hvm hw hB hz1 hk1 hS => ?_)
  obtain ⟨rfl, rfl⟩ := hw
  obtain ⟨hP1, hK1, hD1⟩ := hB
  rw [ht] at hP1
  exact kk r H1 locs hfk ⟨hP1, hD1.weaken (fun _ _ _ h => hFc _ h), hS⟩
theorem np_callSi (C : np_Cx gA p R s m args c D cl tys A Ts own cc nL rm) {y : MethodName} {bytes : ByteArray} {maxL index : Nat} {ret : Option FieldType} {rmy : Room} {As st : List Value} {a : Nat} {fy : Option np_O} (hM : np_Mi gA l D cl tys wd y (.code y bytes maxL ret :: Ts) rmy As σ fy) (hall : np_good Ts) (w1 : .methodLink own index y ∈ Ts) (w2 : .static y ∈ Ts) (w4 : .initialized y.cls ∈ Ts) (w5 : .code y bytes maxL ret ∈ Ts) (hd : y.cls ≠ "java/lang/invoke/MethodHandle" ∧ y.cls ≠ "java/lang/invoke/VarHandle" ∧ (parseMethodDescriptor y.desc).map (fun d => d.parameters.length) = some As.length) (hR : rmy.cells = 0 ∧ rmy.slots = 0 ∧ rmy.frames + 1 ≤ rm.frames ∧ 8 + (maxL + 11) + rmy.locals ≤ rm.locals) (hat : np_At D cl A wd s σ H locs) (hst : st = As.reverse ++ rest) (hls : ls.size = nL) (hrest : (rest.map fun v => v.category).sum ≤ 8) (hdg : decode cc pc = .ok (.invokestatic index, 3)) {α : Type} {k : np_O → Option α} {o : α} (hf : fy.bind k = some o)
    (kk : ∀ (r : np_O) (H : Heap) (locs : List Loc), k r = some o → np_At D cl A wd s r.2 H locs → W p l e R s m args below meth c H locs 0 0 Q (F0 m (pc + 3) ls (.int (np_i r.1) :: rest))) : W p l e R s m args below meth c H locs 0 0 Q (F0 m pc ls st) := by
  obtain ⟨r, hfy, hfk⟩ := Option.bind_eq_some_iff.mp hf
  have hFc := np_freeA C hat
  subst hst
  have hRR : rmy.frames + 1 ≤ R.frames ∧ 8 + (maxL + 11) + rmy.locals ≤ R.locals := by rw [C.r]; exact hR.2.2
  have hG : ∀ w ∈ (.code y bytes maxL ret :: Ts), w ∈ Ts := fun w hw => by
    rcases List.mem_cons.mp hw with rfl | hw
    · exact w5
    · exact hw
  refine va_calli (va_runS (As := As) (rest := rest) C.1 (hM H.size r hfy) ⟨callB_of As.length C.t (np_goodIn hall hG) rfl hR.1 hR.2.1 (C.t _ w4) (C.t _ w1) hd hRR, C.t _ w2⟩ ⟨np_blind, np_preU C hat⟩ rfl rfl hls rfl (lv_room hrest) hdg ⟨Nat.zero_le _, Nat.zero_le _⟩) hat.2.2 (fun q _ h => hFc q h) hFc (fun r1 u t H1 locs ht hvm hw hB hz1 hk1 hS => ?_)
  obtain ⟨rfl, rfl⟩ := hw
  obtain ⟨hP1, hK1, hD1⟩ := hB
  rw [ht] at hP1
  exact kk r H1 locs hfk ⟨hP1, hD1.weaken (fun _ _ _ h => hFc _ h), hS⟩
theorem np_callVl (C : np_Cx gA p R s m args c D cl tys A Ts own cc nL rm) {y : MethodName} {bytes : ByteArray} {maxL index : Nat} {ret : Option FieldType} {rmy : Room} {As st : List Value} {a : Nat} {fy : Option np_O} (hM : np_Ml gA l D cl tys wd y (.code y bytes maxL ret :: Ts) rmy (.ref a :: As) σ fy) (hall : np_good Ts) (w1 : .methodLink own index y ∈ Ts) (w2 : .instanceMethod y ∈ Ts) (w3 : .selects y.cls y y ∈ Ts) (w4 : .initialized y.cls ∈ Ts) (w5 : .code y bytes maxL ret ∈ Ts) (hd : y.cls ≠ "java/lang/invoke/MethodHandle" ∧ y.cls ≠ "java/lang/invoke/VarHandle" ∧ (parseMethodDescriptor y.desc).map (fun d => d.parameters.length) = some As.length) (hR : rmy.cells = 0 ∧ rmy.slots = 0 ∧ rmy.frames + 1 ≤ rm.frames ∧ 8 + (maxL + 11) + rmy.locals ≤ rm.locals) {ci : Nat} {fs : List Value} {T : u_T} {N : Nat} {kc : Nat} (he : (wd σ)[kc]? = some (a, .inr (ci, fs))) (hc : cl[ci]? = some (y.cls, T, N)) (hat : np_At D cl A wd s σ H locs) (hst : st = As.reverse ++ .ref a :: rest) (hls : ls.size = nL) (hrest : (rest.map fun v => v.category).sum ≤ 8) (hdg : decode cc pc = .ok (.invokevirtual index, 3)) {α : Type} {k : np_O → Option α} {o : α} (hf : fy.bind k = some o)
    (kk : ∀ (r : np_O) (H : Heap) (locs : List Loc), k r = some o → np_At D cl A wd s r.2 H locs → W p l e R s m args below meth c H locs 0 0 Q (F0 m (pc + 3) ls (.long (np_l r.1) :: rest))) : W p l e R s m args below meth c H locs 0 0 Q (F0 m pc ls st) := by
  obtain ⟨r, hfy, hfk⟩ := Option.bind_eq_some_iff.mp hf
  have hFc := np_freeA C hat
  subst hst
  have hRR : rmy.frames + 1 ≤ R.frames ∧ 8 + (maxL + 11) + rmy.locals ≤ R.locals := by rw [C.r]; exact hR.2.2
  have hG : ∀ w ∈ (.code y bytes maxL ret :: Ts), w ∈ Ts := fun w hw => by
    rcases List.mem_cons.mp hw with rfl | hw
    · exact w5
    · exact hw
  refine va_calll (va_runV (As := As) (rest := rest) C.1 (hM H.size r hfy) ⟨callB_of As.length C.t (np_goodIn hall hG) rfl hR.1 hR.2.1 (C.t _ w4) (C.t _ w1) hd hRR, C.t _ w2, C.t _ w3⟩ ⟨np_blind, va_recv C.k hat.1 hc he, np_preU C hat⟩ rfl rfl hls rfl (lv_room hrest) hdg ⟨Nat.zero_le _, Nat.zero_le _⟩) hat.2.2 (fun q _ h => hFc q h) hFc (fun r1 u t H1 locs ht hvm hw hB hz1 hk1 hS => ?_)
  obtain ⟨rfl, rfl⟩ := hw
  obtain ⟨hP1, hK1, hD1⟩ := hB
  rw [ht] at hP1
  exact kk r H1 locs hfk ⟨hP1, hD1.weaken (fun _ _ _ h => hFc _ h), hS⟩
theorem np_callSl (C : np_Cx gA p R s m args c D cl tys A Ts own cc nL rm) {y : MethodName} {bytes : ByteArray} {maxL index : Nat} {ret : Option FieldType} {rmy : Room} {As st : List Value} {a : Nat} {fy : Option np_O} (hM : np_Ml gA l D cl tys wd y (.code y bytes maxL ret :: Ts) rmy As σ fy) (hall : np_good Ts) (w1 : .methodLink own index y ∈ Ts) (w2 : .static y ∈ Ts) (w4 : .initialized y.cls ∈ Ts) (w5 : .code y bytes maxL ret ∈ Ts) (hd : y.cls ≠ "java/lang/invoke/MethodHandle" ∧ y.cls ≠ "java/lang/invoke/VarHandle" ∧ (parseMethodDescriptor y.desc).map (fun d => d.parameters.length) = some As.length) (hR : rmy.cells = 0 ∧ rmy.slots = 0 ∧ rmy.frames + 1 ≤ rm.frames ∧ 8 + (maxL + 11) + rmy.locals ≤ rm.locals) (hat : np_At D cl A wd s σ H locs) (hst : st = As.reverse ++ rest) (hls : ls.size = nL) (hrest : (rest.map fun v => v.category).sum ≤ 8) (hdg : decode cc pc = .ok (.invokestatic index, 3)) {α : Type} {k : np_O → Option α} {o : α} (hf : fy.bind k = some o)
    (kk : ∀ (r : np_O) (H : Heap) (locs : List Loc), k r = some o → np_At D cl A wd s r.2 H locs → W p l e R s m args below meth c H locs 0 0 Q (F0 m (pc + 3) ls (.long (np_l r.1) :: rest))) : W p l e R s m args below meth c H locs 0 0 Q (F0 m pc ls st) := by
  obtain ⟨r, hfy, hfk⟩ := Option.bind_eq_some_iff.mp hf
  have hFc := np_freeA C hat
  subst hst
  have hRR : rmy.frames + 1 ≤ R.frames ∧ 8 + (maxL + 11) + rmy.locals ≤ R.locals := by rw [C.r]; exact hR.2.2
  have hG : ∀ w ∈ (.code y bytes maxL ret :: Ts), w ∈ Ts := fun w hw => by
    rcases List.mem_cons.mp hw with rfl | hw
    · exact w5
    · exact hw
  refine va_calll (va_runS (As := As) (rest := rest) C.1 (hM H.size r hfy) ⟨callB_of As.length C.t (np_goodIn hall hG) rfl hR.1 hR.2.1 (C.t _ w4) (C.t _ w1) hd hRR, C.t _ w2⟩ ⟨np_blind, np_preU C hat⟩ rfl rfl hls rfl (lv_room hrest) hdg ⟨Nat.zero_le _, Nat.zero_le _⟩) hat.2.2 (fun q _ h => hFc q h) hFc (fun r1 u t H1 locs ht hvm hw hB hz1 hk1 hS => ?_)
  obtain ⟨rfl, rfl⟩ := hw
  obtain ⟨hP1, hK1, hD1⟩ := hB
  rw [ht] at hP1
  exact kk r H1 locs hfk ⟨hP1, hD1.weaken (fun _ _ _ h => hFc _ h), hS⟩
theorem np_callVv (C : np_Cx gA p R s m args c D cl tys A Ts own cc nL rm) {y : MethodName} {bytes : ByteArray} {maxL index : Nat} {ret : Option FieldType} {rmy : Room} {As st : List Value} {a : Nat} {fy : Option np_O} (hM : np_Mv gA l D cl tys wd y (.code y bytes maxL ret :: Ts) rmy (.ref a :: As) σ fy) (hall : np_good Ts) (w1 : .methodLink own index y ∈ Ts) (w2 : .instanceMethod y ∈ Ts) (w3 : .selects y.cls y y ∈ Ts) (w4 : .initialized y.cls ∈ Ts) (w5 : .code y bytes maxL ret ∈ Ts) (hd : y.cls ≠ "java/lang/invoke/MethodHandle" ∧ y.cls ≠ "java/lang/invoke/VarHandle" ∧ (parseMethodDescriptor y.desc).map (fun d => d.parameters.length) = some As.length) (hR : rmy.cells = 0 ∧ rmy.slots = 0 ∧ rmy.frames + 1 ≤ rm.frames ∧ 8 + (maxL + 11) + rmy.locals ≤ rm.locals) {ci : Nat} {fs : List Value} {T : u_T} {N : Nat} {kc : Nat} (he : (wd σ)[kc]? = some (a, .inr (ci, fs))) (hc : cl[ci]? = some (y.cls, T, N)) (hat : np_At D cl A wd s σ H locs) (hst : st = As.reverse ++ .ref a :: rest) (hls : ls.size = nL) (hrest : (rest.map fun v => v.category).sum ≤ 8) (hdg : decode cc pc = .ok (.invokevirtual index, 3)) {α : Type} {k : np_O → Option α} {o : α} (hf : fy.bind k = some o)
    (kk : ∀ (r : np_O) (H : Heap) (locs : List Loc), k r = some o → np_At D cl A wd s r.2 H locs → W p l e R s m args below meth c H locs 0 0 Q (F0 m (pc + 3) ls (rest))) : W p l e R s m args below meth c H locs 0 0 Q (F0 m pc ls st) := by
  obtain ⟨r, hfy, hfk⟩ := Option.bind_eq_some_iff.mp hf
  have hFc := np_freeA C hat
  subst hst
  have hRR : rmy.frames + 1 ≤ R.frames ∧ 8 + (maxL + 11) + rmy.locals ≤ R.locals := by rw [C.r]; exact hR.2.2
  have hG : ∀ w ∈ (.code y bytes maxL ret :: Ts), w ∈ Ts := fun w hw => by
    rcases List.mem_cons.mp hw with rfl | hw
    · exact w5
    · exact hw
  refine va_callv (va_runV (As := As) (rest := rest) C.1 (hM H.size r hfy) ⟨callB_of As.length C.t (np_goodIn hall hG) rfl hR.1 hR.2.1 (C.t _ w4) (C.t _ w1) hd hRR, C.t _ w2, C.t _ w3⟩ ⟨np_blind, va_recv C.k hat.1 hc he, np_preU C hat⟩ rfl rfl hls rfl (lv_room hrest) hdg ⟨Nat.zero_le _, Nat.zero_le _⟩) hat.2.2 (fun q _ h => hFc q h) hFc (fun u t H1 locs ht hvm hw hB hz1 hk1 hS => ?_)
  subst hw
  obtain ⟨hP1, hK1, hD1⟩ := hB
  rw [ht] at hP1
  exact kk r H1 locs hfk ⟨hP1, hD1.weaken (fun _ _ _ h => hFc _ h), hS⟩
theorem np_callSv (C : np_Cx gA p R s m args c D cl tys A Ts own cc nL rm) {y : MethodName} {bytes : ByteArray} {maxL index : Nat} {ret : Option FieldType} {rmy : Room} {As st : List Value} {a : Nat} {fy : Option np_O} (hM : np_Mv gA l D cl tys wd y (.code y bytes maxL ret :: Ts) rmy As σ fy) (hall : np_good Ts) (w1 : .methodLink own index y ∈ Ts) (w2 : .static y ∈ Ts) (w4 : .initialized y.cls ∈ Ts) (w5 : .code y bytes maxL ret ∈ Ts) (hd : y.cls ≠ "java/lang/invoke/MethodHandle" ∧ y.cls ≠ "java/lang/invoke/VarHandle" ∧ (parseMethodDescriptor y.desc).map (fun d => d.parameters.length) = some As.length) (hR : rmy.cells = 0 ∧ rmy.slots = 0 ∧ rmy.frames + 1 ≤ rm.frames ∧ 8 + (maxL + 11) + rmy.locals ≤ rm.locals) (hat : np_At D cl A wd s σ H locs) (hst : st = As.reverse ++ rest) (hls : ls.size = nL) (hrest : (rest.map fun v => v.category).sum ≤ 8) (hdg : decode cc pc = .ok (.invokestatic index, 3)) {α : Type} {k : np_O → Option α} {o : α} (hf : fy.bind k = some o)
    (kk : ∀ (r : np_O) (H : Heap) (locs : List Loc), k r = some o → np_At D cl A wd s r.2 H locs → W p l e R s m args below meth c H locs 0 0 Q (F0 m (pc + 3) ls (rest))) : W p l e R s m args below meth c H locs 0 0 Q (F0 m pc ls st) := by
  obtain ⟨r, hfy, hfk⟩ := Option.bind_eq_some_iff.mp hf
  have hFc := np_freeA C hat
  subst hst
  have hRR : rmy.frames + 1 ≤ R.frames ∧ 8 + (maxL + 11) + rmy.locals ≤ R.locals := by rw [C.r]; exact hR.2.2
  have hG : ∀ w ∈ (.code y bytes maxL ret :: Ts), w ∈ Ts := fun w hw => by
    rcases List.mem_cons.mp hw with rfl | hw
    · exact w5
    · exact hw
  refine va_callv (va_runS (As := As) (rest := rest) C.1 (hM H.size r hfy) ⟨callB_of As.length C.t (np_goodIn hall hG) rfl hR.1 hR.2.1 (C.t _ w4) (C.t _ w1) hd hRR, C.t _ w2⟩ ⟨np_blind, np_preU C hat⟩ rfl rfl hls rfl (lv_room hrest) hdg ⟨Nat.zero_le _, Nat.zero_le _⟩) hat.2.2 (fun q _ h => hFc q h) hFc (fun u t H1 locs ht hvm hw hB hz1 hk1 hS => ?_)
  subst hw
  obtain ⟨hP1, hK1, hD1⟩ := hB
  rw [ht] at hP1
  exact kk r H1 locs hfk ⟨hP1, hD1.weaken (fun _ _ _ h => hFc _ h), hS⟩
theorem np_mmin (C : np_Cx gA p R s m args c D cl tys A Ts own cc nL rm) {index : Nat} {x y : Int} (w1 : .methodLink own index Lib.Math.min.name ∈ Ts) (w2 : .static Lib.Math.min.name ∈ Ts) (w3 : .initialized "java/lang/Math" ∈ Ts) (w4 : .code Lib.Math.min.name Lib.Math.min.code 2 (some .int) ∈ Ts) (hfr : 1 ≤ rm.frames) (hlo : (rest.map fun v => v.category).sum + 13 ≤ rm.locals) (hls : ls.size = nL) (hdg : decode cc pc = .ok (.invokestatic index, 3)) {α : Type} {f1 : Option α} {o : α} (hf : np_ck (np_R x ∧ np_R y) f1 = some o) (kk : f1 = some o → W p l e R s m args below meth c H locs 0 0 Q (F0 m (pc + 3) ls (.int (np_i (np_min x y)) :: rest))) : W p l e R s m args below meth c H locs 0 0 Q (F0 m pc ls (.int (np_i y) :: .int (np_i x) :: rest)) := by
  obtain ⟨⟨h1, h2⟩, hf⟩ := np_ck_e hf
  have hr := C.r
  refine va_mmin C.x C.b (C.ml.trans hls.symm) C.o (C.t _ w1) (C.t _ w2) (C.t _ w3) (C.t _ w4) (by rw [hr]; exact hfr) (by rw [hr]; exact hlo) (Nat.zero_le _) (Nat.zero_le _) hdg ?_
  have e : (if np_i y < np_i x then np_i y else np_i x) = np_i (np_min x y) := by
    unfold np_min
    by_cases a : y < x
    · rw [if_pos ((np_lt h2 h1).mpr a), if_pos a]
    · rw [if_neg (fun q => a ((np_lt h2 h1).mp q)), if_neg a]
  rw [e]
  exact kk hf
theorem np_mmin_l (C : np_Cx gA p R s m args c D cl tys A Ts own cc nL rm) {index : Nat} {x y : Int} (w1 : .methodLink own index Lib.MathLoose.min_long.x ∈ Ts) (w2 : .static Lib.MathLoose.min_long.x ∈ Ts) (w3 : .initialized "java/lang/Math" ∈ Ts) (w4 : .code Lib.MathLoose.min_long.x Lib.MathLoose.min_long.code 4 (some .long) ∈ Ts) (hfr : 1 ≤ rm.frames) (hlo : (rest.map fun v => v.category).sum + 15 ≤ rm.locals) (hls : ls.size = nL) (hdg : decode cc pc = .ok (.invokestatic index, 3)) {α : Type} {f1 : Option α} {o : α} (hf : np_ck (np_R6 x ∧ np_R6 y) f1 = some o) (kk : f1 = some o → W p l e R s m args below meth c H locs 0 0 Q (F0 m (pc + 3) ls (.long (np_l (np_min x y)) :: rest))) : W p l e R s m args below meth c H locs 0 0 Q (F0 m pc ls (.long (np_l y) :: .long (np_l x) :: rest)) := by
  obtain ⟨⟨h1, h2⟩, hf⟩ := np_ck_e hf
  have hr := C.r
  refine va_mmin_long C.x C.b (C.ml.trans hls.symm) C.o (C.t _ w1) (C.t _ w2) (C.t _ w3) (C.t _ w4) (by rw [hr]; exact hfr) (by rw [hr]; exact hlo) (Nat.zero_le _) (Nat.zero_le _) hdg ?_
  have e : (if np_l y < np_l x then np_l y else np_l x) = np_l (np_min x y) := by
    unfold np_min
    by_cases a : y < x
    · rw [if_pos ((np_lt6 h2 h1).mpr a), if_pos a]
    · rw [if_neg (fun q => a ((np_lt6 h2 h1).mp q)), if_neg a]
  rw [e]
  exact kk hf
end NPC
theorem np_mki {gA : Nat → Nat} {l : Launch} {D : va_G} {cl : List vw_C} {tys : List (ClassId × FieldType)} {wd : np_S → va_W} {y : MethodName} {cc : ByteArray} {nL : Nat} {AL : List Cond} {rm : Room} {avs : List Value} {σ : np_S} {fy : Option np_O} (hy : plainName y.cls = true) (hlen : (lg_sl avs).length ≤ nL)
    (body : ∀ (o : np_O) (p : Program) (e : Env) (R : Room) (s : State) (m : MethodId) (args : Array Value) (below : List Frame) (meth : Method) (c : Code) (Q : State → Prop) (A : Nat → Prop) (ls : Array Slot), fy = some o → np_Cx gA p R s m args c D cl tys A AL y.cls cc nL rm →
      (∀ (pc : Nat) (ls : Array Slot) (H : Heap) (locs : List Loc) (v : Int) {σ2 : np_S}, decode cc pc = .ok (.ireturn, 1) → some (v, σ2) = some o → np_At D cl A wd s σ2 H locs → W p l e R s m args below meth c H locs 0 0 Q (F0 m pc ls [.int (np_i v)])) →
      np_At D cl A wd s σ s.heap [] → lv_has ls nL (lv_args 0 avs) → W p l e R s m args below meth c s.heap [] 0 0 Q (F0 m 0 ls [])) : np_Mi gA l D cl tys wd y (.code y cc nL (some .int) :: AL) rm avs σ fy := by
  intro sz o hfy
  refine Met.ofW (cc := cc) (maxL := nL) (ret := (some .int)) hy rfl ?_
  intro p e s m args below meth c s₁ B hml hv
  obtain ⟨rfl, hsz, hP, hK, hD0, hE⟩ := hv
  subst hsz
  have hts := atoms_spec (ws := .code y cc nL (some .int) :: AL) B.pre
  have hown : s.vm.findClass y.cls = some m.cls := findClass_of_methodNamed B.named
  have hlocks := B.notSynchronized
  rw [lg_entry_eq]
  have hC : np_Cx gA p (headSpec (.code y cc nL (some .int) :: AL) rm).room s m avs.toArray c D cl tys (va_A (wd σ) s.heap.size) AL y.cls cc nL rm := ⟨⟨B.exec, B.bytes, hml, hown, fun w hw => hts w (List.mem_cons_of_mem _ hw)⟩, hK, fun a h => Or.inr h, rfl, hE⟩
  refine body o p e _ s m _ below meth c _ (va_A (wd σ) s.heap.size) _ hfy hC (fun pc ls H locs v σ2 hdg ho hat => ?_) ⟨hP, hD0.self, va_S.rf⟩ (lv_entry avs hlen)
  have ho := Option.some.inj ho
  subst ho
  exact W.iret (v := np_i v) hC.x hC.b B.returns (fun t ht hW => ⟨⟨np_i v, σ2, rfl, ⟨rfl, rfl⟩, by rw [ht]; exact hat.1, va_K.moved hW.alike hK, hat.2.1⟩, hat.2.2.F ht⟩) hat.2.2.2.2 hdg hlocks
theorem np_mkz {gA : Nat → Nat} {l : Launch} {D : va_G} {cl : List vw_C} {tys : List (ClassId × FieldType)} {wd : np_S → va_W} {y : MethodName} {cc : ByteArray} {nL : Nat} {AL : List Cond} {rm : Room} {avs : List Value} {σ : np_S} {fy : Option np_O} (hy : plainName y.cls = true) (hlen : (lg_sl avs).length ≤ nL)
    (body : ∀ (o : np_O) (p : Program) (e : Env) (R : Room) (s : State) (m : MethodId) (args : Array Value) (below : List Frame) (meth : Method) (c : Code) (Q : State → Prop) (A : Nat → Prop) (ls : Array Slot), fy = some o → np_Cx gA p R s m args c D cl tys A AL y.cls cc nL rm →
      (∀ (pc : Nat) (ls : Array Slot) (H : Heap) (locs : List Loc) (v : Int) {σ2 : np_S}, decode cc pc = .ok (.ireturn, 1) → np_ck (v = 0 ∨ v = 1) (some (v, σ2)) = some o → np_At D cl A wd s σ2 H locs → W p l e R s m args below meth c H locs 0 0 Q (F0 m pc ls [.int (np_i v)])) →
      np_At D cl A wd s σ s.heap [] → lv_has ls nL (lv_args 0 avs) → W p l e R s m args below meth c s.heap [] 0 0 Q (F0 m 0 ls [])) : np_Mi gA l D cl tys wd y (.code y cc nL (some .boolean) :: AL) rm avs σ fy := by
  intro sz o hfy
  refine Met.ofW (cc := cc) (maxL := nL) (ret := (some .boolean)) hy rfl ?_
  intro p e s m args below meth c s₁ B hml hv
  obtain ⟨rfl, hsz, hP, hK, hD0, hE⟩ := hv
  subst hsz
  have hts := atoms_spec (ws := .code y cc nL (some .boolean) :: AL) B.pre
  have hown : s.vm.findClass y.cls = some m.cls := findClass_of_methodNamed B.named
  have hlocks := B.notSynchronized
  rw [lg_entry_eq]
  have hC : np_Cx gA p (headSpec (.code y cc nL (some .boolean) :: AL) rm).room s m avs.toArray c D cl tys (va_A (wd σ) s.heap.size) AL y.cls cc nL rm := ⟨⟨B.exec, B.bytes, hml, hown, fun w hw => hts w (List.mem_cons_of_mem _ hw)⟩, hK, fun a h => Or.inr h, rfl, hE⟩
  refine body o p e _ s m _ below meth c _ (va_A (wd σ) s.heap.size) _ hfy hC (fun pc ls H locs v σ2 hdg ho hat => ?_) ⟨hP, hD0.self, va_S.rf⟩ (lv_entry avs hlen)
  obtain ⟨hz, ho⟩ := np_ck_e ho
  have ho := Option.some.inj ho
  subst ho
  exact W.zret hC.x hC.b B.returns (by rcases hz with h | h <;> (subst h; decide +kernel)) (fun t ht hW => ⟨⟨np_i v, σ2, rfl, ⟨rfl, rfl⟩, by rw [ht]; exact hat.1, va_K.moved hW.alike hK, hat.2.1⟩, hat.2.2.F ht⟩) hat.2.2.2.2 hdg hlocks
theorem np_mkl {gA : Nat → Nat} {l : Launch} {D : va_G} {cl : List vw_C} {tys : List (ClassId × FieldType)} {wd : np_S → va_W} {y : MethodName} {cc : ByteArray} {nL : Nat} {AL : List Cond} {rm : Room} {avs : List Value} {σ : np_S} {fy : Option np_O} (hy : plainName y.cls = true) (hlen : (lg_sl avs).length ≤ nL)
    (body : ∀ (o : np_O) (p : Program) (e : Env) (R : Room) (s : State) (m : MethodId) (args : Array Value) (below : List Frame) (meth : Method) (c : Code) (Q : State → Prop) (A : Nat → Prop) (ls : Array Slot), fy = some o → np_Cx gA p R s m args c D cl tys A AL y.cls cc nL rm →
      (∀ (pc : Nat) (ls : Array Slot) (H : Heap) (locs : List Loc) (v : Int) {σ2 : np_S}, decode cc pc = .ok (.lreturn, 1) → some (v, σ2) = some o → np_At D cl A wd s σ2 H locs → W p l e R s m args below meth c H locs 0 0 Q (F0 m pc ls [.long (np_l v)])) →
      np_At D cl A wd s σ s.heap [] → lv_has ls nL (lv_args 0 avs) → W p l e R s m args below meth c s.heap [] 0 0 Q (F0 m 0 ls [])) : np_Ml gA l D cl tys wd y (.code y cc nL (some .long) :: AL) rm avs σ fy := by
  intro sz o hfy
  refine Met.ofW (cc := cc) (maxL := nL) (ret := (some .long)) hy rfl ?_
  intro p e s m args below meth c s₁ B hml hv
  obtain ⟨rfl, hsz, hP, hK, hD0, hE⟩ := hv
  subst hsz
  have hts := atoms_spec (ws := .code y cc nL (some .long) :: AL) B.pre
  have hown : s.vm.findClass y.cls = some m.cls := findClass_of_methodNamed B.named
  have hlocks := B.notSynchronized
  rw [lg_entry_eq]
  have hC : np_Cx gA p (headSpec (.code y cc nL (some .long) :: AL) rm).room s m avs.toArray c D cl tys (va_A (wd σ) s.heap.size) AL y.cls cc nL rm := ⟨⟨B.exec, B.bytes, hml, hown, fun w hw => hts w (List.mem_cons_of_mem _ hw)⟩, hK, fun a h => Or.inr h, rfl, hE⟩
  refine body o p e _ s m _ below meth c _ (va_A (wd σ) s.heap.size) _ hfy hC (fun pc ls H locs v σ2 hdg ho hat => ?_) ⟨hP, hD0.self, va_S.rf⟩ (lv_entry avs hlen)
  have ho := Option.some.inj ho
  subst ho
  exact W.lret (v := np_l v) hC.x hC.b B.returns (fun t ht hW => ⟨⟨np_l v, σ2, rfl, ⟨rfl, rfl⟩, by rw [ht]; exact hat.1, va_K.moved hW.alike hK, hat.2.1⟩, hat.2.2.F ht⟩) hat.2.2.2.2 hdg hlocks
theorem np_mkv {gA : Nat → Nat} {l : Launch} {D : va_G} {cl : List vw_C} {tys : List (ClassId × FieldType)} {wd : np_S → va_W} {y : MethodName} {cc : ByteArray} {nL : Nat} {AL : List Cond} {rm : Room} {avs : List Value} {σ : np_S} {fy : Option np_O} (hy : plainName y.cls = true) (hlen : (lg_sl avs).length ≤ nL)
    (body : ∀ (o : np_O) (p : Program) (e : Env) (R : Room) (s : State) (m : MethodId) (args : Array Value) (below : List Frame) (meth : Method) (c : Code) (Q : State → Prop) (A : Nat → Prop) (ls : Array Slot), fy = some o → np_Cx gA p R s m args c D cl tys A AL y.cls cc nL rm →
      (∀ (pc : Nat) (ls : Array Slot) (H : Heap) (locs : List Loc) {σ2 : np_S}, decode cc pc = .ok (.return_, 1) → some ((0 : Int), σ2) = some o → np_At D cl A wd s σ2 H locs → W p l e R s m args below meth c H locs 0 0 Q (F0 m pc ls [])) →
      np_At D cl A wd s σ s.heap [] → lv_has ls nL (lv_args 0 avs) → W p l e R s m args below meth c s.heap [] 0 0 Q (F0 m 0 ls [])) : np_Mv gA l D cl tys wd y (.code y cc nL none :: AL) rm avs σ fy := by
  intro sz o hfy
  refine Met.ofW (cc := cc) (maxL := nL) (ret := none) hy rfl ?_
  intro p e s m args below meth c s₁ B hml hv
  obtain ⟨rfl, hsz, hP, hK, hD0, hE⟩ := hv
  subst hsz
  have hts := atoms_spec (ws := .code y cc nL none :: AL) B.pre
  have hown : s.vm.findClass y.cls = some m.cls := findClass_of_methodNamed B.named
  have hlocks := B.notSynchronized
  rw [lg_entry_eq]
  have hC : np_Cx gA p (headSpec (.code y cc nL none :: AL) rm).room s m avs.toArray c D cl tys (va_A (wd σ) s.heap.size) AL y.cls cc nL rm := ⟨⟨B.exec, B.bytes, hml, hown, fun w hw => hts w (List.mem_cons_of_mem _ hw)⟩, hK, fun a h => Or.inr h, rfl, hE⟩
  refine body o p e _ s m _ below meth c _ (va_A (wd σ) s.heap.size) _ hfy hC (fun pc ls H locs σ2 hdg ho hat => ?_) ⟨hP, hD0.self, va_S.rf⟩ (lv_entry avs hlen)
  have ho := Option.some.inj ho
  subst ho
  exact W.vret hC.x hC.b B.returns (fun t ht hW => ⟨⟨σ2, rfl, rfl, by rw [ht]; exact hat.1, va_K.moved hW.alike hK, hat.2.1⟩, hat.2.2.F ht⟩) hat.2.2.2.2 hdg hlocks
theorem np_allgood : np_good np_al := fun w hw => good_of_word (List.mem_filter.mp hw).2
end
section
def yy_N_hole : MethodName := ⟨"NotationParse", "hole", "(I)I"⟩
def yy_N_word : MethodName := ⟨"NotationParse", "word", "(JI)I"⟩
def yy_N_notation : MethodName := ⟨"NotationParse", "notation", "(I)I"⟩
def yy_Grammar_dropHand : MethodName := ⟨"NotationParse$Grammar", "dropHand", "()V"⟩
def yy_Grammar_usedDots : MethodName := ⟨"NotationParse$Grammar", "usedDots", "()I"⟩
def yy_Arrays_fill : MethodName := ⟨"java/util/Arrays", "fill", "([IIII)V"⟩
def yy_Arrays_rangeCheck : MethodName := ⟨"java/util/Arrays", "rangeCheck", "(III)V"⟩
def yy_Arrays_fill2 : MethodName := ⟨"java/util/Arrays", "fill", "([JIIJ)V"⟩
def yy_N_put : MethodName := ⟨"NotationParse", "put", "(JI)Z"⟩
def yy_Text_append : MethodName := ⟨"NotationParse$Text", "append", "(JI)V"⟩
def yy_Spelling_byteOf : MethodName := ⟨"NotationParse$Spelling", "byteOf", "(JI)I"⟩
def yy_N_clear : MethodName := ⟨"NotationParse", "clear", "()V"⟩
def yy_N_read : MethodName := ⟨"NotationParse", "read", "()I"⟩
def yy_Tree_fell : MethodName := ⟨"NotationParse$Tree", "fell", "()V"⟩
def yy_Text_cut : MethodName := ⟨"NotationParse$Text", "cut", "(LNotationParse$Grammar;)V"⟩
def yy_Text_kindAt : MethodName := ⟨"NotationParse$Text", "kindAt", "(I)I"⟩
def yy_Spelling_kindOf : MethodName := ⟨"NotationParse$Spelling", "kindOf", "(I)I"⟩
def yy_N_findFault : MethodName := ⟨"NotationParse", "findFault", "()V"⟩
def yy_Chart_follow : MethodName := ⟨"NotationParse$Chart", "follow", "([JI)I"⟩
def yy_Chart_emptyRow : MethodName := ⟨"NotationParse$Chart", "emptyRow", "(I)V"⟩
def yy_Chart_scan : MethodName := ⟨"NotationParse$Chart", "scan", "(IJ)Z"⟩
def yy_Chart_complete : MethodName := ⟨"NotationParse$Chart", "complete", "(I)V"⟩
def yy_Chart_highestTerm : MethodName := ⟨"NotationParse$Chart", "highestTerm", "(II)I"⟩
def yy_Grammar_lastDot : MethodName := ⟨"NotationParse$Grammar", "lastDot", "(I)I"⟩
def yy_Chart_isReached : MethodName := ⟨"NotationParse$Chart", "isReached", "(III)Z"⟩
def yy_Chart_fillHoles : MethodName := ⟨"NotationParse$Chart", "fillHoles", "(III)V"⟩
def yy_Chart_leastWanted : MethodName := ⟨"NotationParse$Chart", "leastWanted", "(I)I"⟩
def yy_Chart_predict : MethodName := ⟨"NotationParse$Chart", "predict", "(II)V"⟩
def yy_Chart_leastFirstHole : MethodName := ⟨"NotationParse$Chart", "leastFirstHole", "(I)I"⟩
def yy_Chart_isWhole : MethodName := ⟨"NotationParse$Chart", "isWhole", "(I)Z"⟩
def yy_N_noteFault : MethodName := ⟨"NotationParse", "noteFault", "(II)V"⟩
def yy_N_fault : MethodName := ⟨"NotationParse", "fault", "(I)I"⟩
def yy_N_node : MethodName := ⟨"NotationParse", "node", "(II)I"⟩
def yy_N_print : MethodName := ⟨"NotationParse", "print", "()I"⟩
def yy_Tree_needlessBrackets : MethodName := ⟨"NotationParse$Tree", "needlessBrackets", "()I"⟩
def yy_Tree_levelWithin : MethodName := ⟨"NotationParse$Tree", "levelWithin", "(I)I"⟩
def yy_Output_writeWords : MethodName := ⟨"NotationParse$Output", "writeWords", "(LNotationParse$Text;I)V"⟩
def yy_Output_writeWord : MethodName := ⟨"NotationParse$Output", "writeWord", "(J)V"⟩
def yy_Output_addByte : MethodName := ⟨"NotationParse$Output", "addByte", "(I)V"⟩
def yy_N_at : MethodName := ⟨"NotationParse", "at", "(I)I"⟩
def yy_N_isKey : MethodName := ⟨"NotationParse", "isKey", "(JI)Z"⟩
def yy_Spelling_isSpelled : MethodName := ⟨"NotationParse$Spelling", "isSpelled", "(JI)Z"⟩
def yy_N_about : MethodName := ⟨"NotationParse", "about", "(I)I"⟩
def yy_Grammar_handEndsInHole : MethodName := ⟨"NotationParse$Grammar", "handEndsInHole", "()Z"⟩
def yy_Grammar_handHasWord : MethodName := ⟨"NotationParse$Grammar", "handHasWord", "()Z"⟩
def yy_Grammar_takePart : MethodName := ⟨"NotationParse$Grammar", "takePart", "(IJ)I"⟩
def yy_Grammar_makeRule : MethodName := ⟨"NotationParse$Grammar", "makeRule", "(I)I"⟩
def yy_Grammar_hasKey : MethodName := ⟨"NotationParse$Grammar", "hasKey", "(J)Z"⟩
def yy_Text_endOfRow : MethodName := ⟨"NotationParse$Text", "endOfRow", "(II)I"⟩
def yy_Text_takeRow : MethodName := ⟨"NotationParse$Text", "takeRow", "(IIILNotationParse$Grammar;)V"⟩
def yy_Chart_countTrees : MethodName := ⟨"NotationParse$Chart", "countTrees", "(I)I"⟩
def yy_Chart_cell : MethodName := ⟨"NotationParse$Chart", "cell", "(III)I"⟩
def yy_Chart_countFrom : MethodName := ⟨"NotationParse$Chart", "countFrom", "(II)V"⟩
def yy_Chart_sumTerms : MethodName := ⟨"NotationParse$Chart", "sumTerms", "(II)V"⟩
def yy_Chart_addTrees : MethodName := ⟨"NotationParse$Chart", "addTrees", "(II)V"⟩
def yy_Chart_countFirstHoles : MethodName := ⟨"NotationParse$Chart", "countFirstHoles", "(II)V"⟩
def yy_Chart_countRule : MethodName := ⟨"NotationParse$Chart", "countRule", "(III)V"⟩
def yy_Chart_countSplits : MethodName := ⟨"NotationParse$Chart", "countSplits", "(IIII)I"⟩
def yy_Chart_onlyRule : MethodName := ⟨"NotationParse$Chart", "onlyRule", "(III)I"⟩
def yy_Chart_onlySplit : MethodName := ⟨"NotationParse$Chart", "onlySplit", "(III)I"⟩
def yy_Tree_grow : MethodName := ⟨"NotationParse$Tree", "grow", "(I)V"⟩
def yy_Tree_growNode : MethodName := ⟨"NotationParse$Tree", "growNode", "(III)V"⟩
def yy_Tree_awaitHoles : MethodName := ⟨"NotationParse$Tree", "awaitHoles", "(III)I"⟩
def yy_Tree_await : MethodName := ⟨"NotationParse$Tree", "await", "(IIII)V"⟩
def yy_Spelling_lowBytes : MethodName := ⟨"NotationParse$Spelling", "lowBytes", "(JI)J"⟩
theorem tp_5 : Cond.selects "NotationParse$Chart" ⟨"NotationParse$Chart", "emptyRow", "(I)V"⟩ ⟨"NotationParse$Chart", "emptyRow", "(I)V"⟩ ∈ np_al := List.mem_filter.mpr ⟨List.mem_append_left _ (List.mem_of_getElem? (i := 5) rfl), rfl⟩
theorem tp_6 : Cond.selects "NotationParse$Chart" ⟨"NotationParse$Chart", "predict", "(II)V"⟩ ⟨"NotationParse$Chart", "predict", "(II)V"⟩ ∈ np_al := List.mem_filter.mpr ⟨List.mem_append_left _ (List.mem_of_getElem? (i := 6) rfl), rfl⟩
theorem tp_7 : Cond.selects "NotationParse$Chart" ⟨"NotationParse$Chart", "leastFirstHole", "(I)I"⟩ ⟨"NotationParse$Chart", "leastFirstHole", "(I)I"⟩ ∈ np_al := List.mem_filter.mpr ⟨List.mem_append_left _ (List.mem_of_getElem? (i := 7) rfl), rfl⟩
theorem tp_8 : Cond.selects "NotationParse$Chart" ⟨"NotationParse$Chart", "scan", "(IJ)Z"⟩ ⟨"NotationParse$Chart", "scan", "(IJ)Z"⟩ ∈ np_al := List.mem_filter.mpr ⟨List.mem_append_left _ (List.mem_of_getElem? (i := 8) rfl), rfl⟩
theorem tp_9 : Cond.selects "NotationParse$Chart" ⟨"NotationParse$Chart", "complete", "(I)V"⟩ ⟨"NotationParse$Chart", "complete", "(I)V"⟩ ∈ np_al := List.mem_filter.mpr ⟨List.mem_append_left _ (List.mem_of_getElem? (i := 9) rfl), rfl⟩
theorem tp_10 : Cond.selects "NotationParse$Chart" ⟨"NotationParse$Chart", "highestTerm", "(II)I"⟩ ⟨"NotationParse$Chart", "highestTerm", "(II)I"⟩ ∈ np_al := List.mem_filter.mpr ⟨List.mem_append_left _ (List.mem_of_getElem? (i := 10) rfl), rfl⟩
theorem tp_11 : Cond.selects "NotationParse$Chart" ⟨"NotationParse$Chart", "isReached", "(III)Z"⟩ ⟨"NotationParse$Chart", "isReached", "(III)Z"⟩ ∈ np_al := List.mem_filter.mpr ⟨List.mem_append_left _ (List.mem_of_getElem? (i := 11) rfl), rfl⟩
theorem tp_12 : Cond.selects "NotationParse$Chart" ⟨"NotationParse$Chart", "fillHoles", "(III)V"⟩ ⟨"NotationParse$Chart", "fillHoles", "(III)V"⟩ ∈ np_al := List.mem_filter.mpr ⟨List.mem_append_left _ (List.mem_of_getElem? (i := 12) rfl), rfl⟩
theorem tp_13 : Cond.selects "NotationParse$Chart" ⟨"NotationParse$Chart", "leastWanted", "(I)I"⟩ ⟨"NotationParse$Chart", "leastWanted", "(I)I"⟩ ∈ np_al := List.mem_filter.mpr ⟨List.mem_append_left _ (List.mem_of_getElem? (i := 13) rfl), rfl⟩
theorem tp_14 : Cond.selects "NotationParse" ⟨"NotationParse", "noteFault", "(II)V"⟩ ⟨"NotationParse", "noteFault", "(II)V"⟩ ∈ np_al := List.mem_filter.mpr ⟨List.mem_append_left _ (List.mem_of_getElem? (i := 14) rfl), rfl⟩
theorem tp_15 : Cond.selects "NotationParse$Chart" ⟨"NotationParse$Chart", "countFrom", "(II)V"⟩ ⟨"NotationParse$Chart", "countFrom", "(II)V"⟩ ∈ np_al := List.mem_filter.mpr ⟨List.mem_append_left _ (List.mem_of_getElem? (i := 15) rfl), rfl⟩
theorem tp_16 : Cond.selects "NotationParse$Chart" ⟨"NotationParse$Chart", "countRule", "(III)V"⟩ ⟨"NotationParse$Chart", "countRule", "(III)V"⟩ ∈ np_al := List.mem_filter.mpr ⟨List.mem_append_left _ (List.mem_of_getElem? (i := 16) rfl), rfl⟩
theorem tp_17 : Cond.selects "NotationParse$Chart" ⟨"NotationParse$Chart", "countSplits", "(IIII)I"⟩ ⟨"NotationParse$Chart", "countSplits", "(IIII)I"⟩ ∈ np_al := List.mem_filter.mpr ⟨List.mem_append_left _ (List.mem_of_getElem? (i := 17) rfl), rfl⟩
theorem tp_18 : Cond.selects "NotationParse$Chart" ⟨"NotationParse$Chart", "cell", "(III)I"⟩ ⟨"NotationParse$Chart", "cell", "(III)I"⟩ ∈ np_al := List.mem_filter.mpr ⟨List.mem_append_left _ (List.mem_of_getElem? (i := 18) rfl), rfl⟩
theorem tp_19 : Cond.selects "NotationParse$Chart" ⟨"NotationParse$Chart", "sumTerms", "(II)V"⟩ ⟨"NotationParse$Chart", "sumTerms", "(II)V"⟩ ∈ np_al := List.mem_filter.mpr ⟨List.mem_append_left _ (List.mem_of_getElem? (i := 19) rfl), rfl⟩
theorem tp_20 : Cond.selects "NotationParse$Chart" ⟨"NotationParse$Chart", "addTrees", "(II)V"⟩ ⟨"NotationParse$Chart", "addTrees", "(II)V"⟩ ∈ np_al := List.mem_filter.mpr ⟨List.mem_append_left _ (List.mem_of_getElem? (i := 20) rfl), rfl⟩
theorem tp_21 : Cond.selects "NotationParse$Chart" ⟨"NotationParse$Chart", "countFirstHoles", "(II)V"⟩ ⟨"NotationParse$Chart", "countFirstHoles", "(II)V"⟩ ∈ np_al := List.mem_filter.mpr ⟨List.mem_append_left _ (List.mem_of_getElem? (i := 21) rfl), rfl⟩
theorem tp_22 : Cond.selects "NotationParse$Tree" ⟨"NotationParse$Tree", "await", "(IIII)V"⟩ ⟨"NotationParse$Tree", "await", "(IIII)V"⟩ ∈ np_al := List.mem_filter.mpr ⟨List.mem_append_left _ (List.mem_of_getElem? (i := 22) rfl), rfl⟩
theorem tp_23 : Cond.selects "NotationParse$Tree" ⟨"NotationParse$Tree", "growNode", "(III)V"⟩ ⟨"NotationParse$Tree", "growNode", "(III)V"⟩ ∈ np_al := List.mem_filter.mpr ⟨List.mem_append_left _ (List.mem_of_getElem? (i := 23) rfl), rfl⟩
theorem tp_24 : Cond.selects "NotationParse$Tree" ⟨"NotationParse$Tree", "awaitHoles", "(III)I"⟩ ⟨"NotationParse$Tree", "awaitHoles", "(III)I"⟩ ∈ np_al := List.mem_filter.mpr ⟨List.mem_append_left _ (List.mem_of_getElem? (i := 24) rfl), rfl⟩
theorem tp_25 : Cond.selects "NotationParse$Tree" ⟨"NotationParse$Tree", "levelWithin", "(I)I"⟩ ⟨"NotationParse$Tree", "levelWithin", "(I)I"⟩ ∈ np_al := List.mem_filter.mpr ⟨List.mem_append_left _ (List.mem_of_getElem? (i := 25) rfl), rfl⟩
theorem tp_26 : Cond.selects "NotationParse$Output" ⟨"NotationParse$Output", "addByte", "(I)V"⟩ ⟨"NotationParse$Output", "addByte", "(I)V"⟩ ∈ np_al := List.mem_filter.mpr ⟨List.mem_append_left _ (List.mem_of_getElem? (i := 26) rfl), rfl⟩
theorem tp_27 : Cond.selects "NotationParse$Output" ⟨"NotationParse$Output", "writeWord", "(J)V"⟩ ⟨"NotationParse$Output", "writeWord", "(J)V"⟩ ∈ np_al := List.mem_filter.mpr ⟨List.mem_append_left _ (List.mem_of_getElem? (i := 27) rfl), rfl⟩
theorem tw_1 : (Jvm.Cond.initialized "NotationParse") ∈ np_al := List.mem_filter.mpr ⟨List.mem_append_right _ (List.mem_append_left _ (List.mem_of_getElem? (i := 1) rfl)), rfl⟩
theorem tw_2 : (Jvm.Cond.initialized "NotationParse$Grammar") ∈ np_al := List.mem_filter.mpr ⟨List.mem_append_right _ (List.mem_append_left _ (List.mem_of_getElem? (i := 2) rfl)), rfl⟩
theorem tw_3 : (Jvm.Cond.initialized "java/util/Arrays") ∈ np_al := List.mem_filter.mpr ⟨List.mem_append_right _ (List.mem_append_left _ (List.mem_of_getElem? (i := 3) rfl)), rfl⟩
theorem tw_4 : (Jvm.Cond.initialized "NotationParse$Text") ∈ np_al := List.mem_filter.mpr ⟨List.mem_append_right _ (List.mem_append_left _ (List.mem_of_getElem? (i := 4) rfl)), rfl⟩
theorem tw_5 : (Jvm.Cond.initialized "NotationParse$Chart") ∈ np_al := List.mem_filter.mpr ⟨List.mem_append_right _ (List.mem_append_left _ (List.mem_of_getElem? (i := 5) rfl)), rfl⟩
theorem tw_6 : (Jvm.Cond.initialized "NotationParse$Tree") ∈ np_al := List.mem_filter.mpr ⟨List.mem_append_right _ (List.mem_append_left _ (List.mem_of_getElem? (i := 6) rfl)), rfl⟩
theorem tw_7 : (Jvm.Cond.initialized "NotationParse$Output") ∈ np_al := List.mem_filter.mpr ⟨List.mem_append_right _ (List.mem_append_left _ (List.mem_of_getElem? (i := 7) rfl)), rfl⟩
theorem tw_14 : (Jvm.Cond.initialized "NotationParse$Spelling") ∈ np_al := List.mem_filter.mpr ⟨List.mem_append_right _ (List.mem_append_left _ (List.mem_of_getElem? (i := 14) rfl)), rfl⟩
theorem tw_17 : (Jvm.Cond.initialized "java/lang/Math") ∈ np_al := List.mem_filter.mpr ⟨List.mem_append_right _ (List.mem_append_left _ (List.mem_of_getElem? (i := 17) rfl)), rfl⟩
theorem tw_44 : (Jvm.Cond.constantLong "NotationParse$Grammar" (38 : Nat) (-1 : Int64)) ∈ np_al := List.mem_filter.mpr ⟨List.mem_append_right _ (List.mem_append_left _ (List.mem_of_getElem? (i := 44) rfl)), rfl⟩
theorem tw_50 : (Jvm.Cond.fieldLink "NotationParse$Grammar" (9 : Nat) "NotationParse$Grammar" "holes" "[I") ∈ np_al := List.mem_filter.mpr ⟨List.mem_append_right _ (List.mem_append_left _ (List.mem_of_getElem? (i := 50) rfl)), rfl⟩
theorem tw_51 : (Jvm.Cond.fieldLink "NotationParse$Tree" (80 : Nat) "NotationParse$Grammar" "holes" "[I") ∈ np_al := List.mem_filter.mpr ⟨List.mem_append_right _ (List.mem_append_left _ (List.mem_of_getElem? (i := 51) rfl)), rfl⟩
theorem tw_52 : (Jvm.Cond.fieldLink "NotationParse$Chart" (82 : Nat) "NotationParse$Grammar" "holes" "[I") ∈ np_al := List.mem_filter.mpr ⟨List.mem_append_right _ (List.mem_append_left _ (List.mem_of_getElem? (i := 52) rfl)), rfl⟩
theorem tw_53 : (Jvm.Cond.fieldLink "NotationParse$Grammar" (15 : Nat) "NotationParse$Grammar" "words" "[J") ∈ np_al := List.mem_filter.mpr ⟨List.mem_append_right _ (List.mem_append_left _ (List.mem_of_getElem? (i := 53) rfl)), rfl⟩
theorem tw_54 : (Jvm.Cond.fieldLink "NotationParse$Chart" (60 : Nat) "NotationParse$Grammar" "words" "[J") ∈ np_al := List.mem_filter.mpr ⟨List.mem_append_right _ (List.mem_append_left _ (List.mem_of_getElem? (i := 54) rfl)), rfl⟩
theorem tw_55 : (Jvm.Cond.fieldLink "NotationParse$Grammar" (19 : Nat) "NotationParse$Grammar" "levels" "[I") ∈ np_al := List.mem_filter.mpr ⟨List.mem_append_right _ (List.mem_append_left _ (List.mem_of_getElem? (i := 55) rfl)), rfl⟩
theorem tw_56 : (Jvm.Cond.fieldLink "NotationParse$Chart" (72 : Nat) "NotationParse$Grammar" "levels" "[I") ∈ np_al := List.mem_filter.mpr ⟨List.mem_append_right _ (List.mem_append_left _ (List.mem_of_getElem? (i := 56) rfl)), rfl⟩
theorem tw_57 : (Jvm.Cond.fieldLink "NotationParse$Tree" (89 : Nat) "NotationParse$Grammar" "levels" "[I") ∈ np_al := List.mem_filter.mpr ⟨List.mem_append_right _ (List.mem_append_left _ (List.mem_of_getElem? (i := 57) rfl)), rfl⟩
theorem tw_58 : (Jvm.Cond.fieldLink "NotationParse$Grammar" (22 : Nat) "NotationParse$Grammar" "lengths" "[I") ∈ np_al := List.mem_filter.mpr ⟨List.mem_append_right _ (List.mem_append_left _ (List.mem_of_getElem? (i := 58) rfl)), rfl⟩
theorem tw_59 : (Jvm.Cond.fieldLink "NotationParse$Grammar" (25 : Nat) "NotationParse$Grammar" "rules" "I") ∈ np_al := List.mem_filter.mpr ⟨List.mem_append_right _ (List.mem_append_left _ (List.mem_of_getElem? (i := 59) rfl)), rfl⟩
theorem tw_60 : (Jvm.Cond.fieldLink "NotationParse" (108 : Nat) "NotationParse$Grammar" "rules" "I") ∈ np_al := List.mem_filter.mpr ⟨List.mem_append_right _ (List.mem_append_left _ (List.mem_of_getElem? (i := 60) rfl)), rfl⟩
theorem tw_61 : (Jvm.Cond.fieldLink "NotationParse$Chart" (68 : Nat) "NotationParse$Grammar" "rules" "I") ∈ np_al := List.mem_filter.mpr ⟨List.mem_append_right _ (List.mem_append_left _ (List.mem_of_getElem? (i := 61) rfl)), rfl⟩
theorem tw_62 : (Jvm.Cond.fieldLink "NotationParse$Grammar" (29 : Nat) "NotationParse$Grammar" "inHand" "I") ∈ np_al := List.mem_filter.mpr ⟨List.mem_append_right _ (List.mem_append_left _ (List.mem_of_getElem? (i := 62) rfl)), rfl⟩
theorem tw_63 : (Jvm.Cond.fieldLink "NotationParse" (68 : Nat) "NotationParse$Grammar" "inHand" "I") ∈ np_al := List.mem_filter.mpr ⟨List.mem_append_right _ (List.mem_append_left _ (List.mem_of_getElem? (i := 63) rfl)), rfl⟩
theorem tw_85 : (Jvm.Cond.fieldLink "NotationParse$Text" (9 : Nat) "NotationParse$Text" "bytes" "[B") ∈ np_al := List.mem_filter.mpr ⟨List.mem_append_right _ (List.mem_append_left _ (List.mem_of_getElem? (i := 85) rfl)), rfl⟩
theorem tw_86 : (Jvm.Cond.fieldLink "NotationParse$Text" (15 : Nat) "NotationParse$Text" "size" "I") ∈ np_al := List.mem_filter.mpr ⟨List.mem_append_right _ (List.mem_append_left _ (List.mem_of_getElem? (i := 86) rfl)), rfl⟩
theorem tw_87 : (Jvm.Cond.fieldLink "NotationParse" (120 : Nat) "NotationParse$Text" "size" "I") ∈ np_al := List.mem_filter.mpr ⟨List.mem_append_right _ (List.mem_append_left _ (List.mem_of_getElem? (i := 87) rfl)), rfl⟩
theorem tw_88 : (Jvm.Cond.fieldLink "NotationParse$Text" (19 : Nat) "NotationParse$Text" "codes" "[J") ∈ np_al := List.mem_filter.mpr ⟨List.mem_append_right _ (List.mem_append_left _ (List.mem_of_getElem? (i := 88) rfl)), rfl⟩
theorem tw_89 : (Jvm.Cond.fieldLink "NotationParse$Output" (28 : Nat) "NotationParse$Text" "codes" "[J") ∈ np_al := List.mem_filter.mpr ⟨List.mem_append_right _ (List.mem_append_left _ (List.mem_of_getElem? (i := 89) rfl)), rfl⟩
theorem tw_90 : (Jvm.Cond.fieldLink "NotationParse$Text" (23 : Nat) "NotationParse$Text" "tokens" "[J") ∈ np_al := List.mem_filter.mpr ⟨List.mem_append_right _ (List.mem_append_left _ (List.mem_of_getElem? (i := 90) rfl)), rfl⟩
theorem tw_91 : (Jvm.Cond.fieldLink "NotationParse" (145 : Nat) "NotationParse$Text" "tokens" "[J") ∈ np_al := List.mem_filter.mpr ⟨List.mem_append_right _ (List.mem_append_left _ (List.mem_of_getElem? (i := 91) rfl)), rfl⟩
theorem tw_92 : (Jvm.Cond.fieldLink "NotationParse$Text" (26 : Nat) "NotationParse$Text" "places" "[I") ∈ np_al := List.mem_filter.mpr ⟨List.mem_append_right _ (List.mem_append_left _ (List.mem_of_getElem? (i := 92) rfl)), rfl⟩
theorem tw_93 : (Jvm.Cond.fieldLink "NotationParse" (153 : Nat) "NotationParse$Text" "places" "[I") ∈ np_al := List.mem_filter.mpr ⟨List.mem_append_right _ (List.mem_append_left _ (List.mem_of_getElem? (i := 93) rfl)), rfl⟩
theorem tw_94 : (Jvm.Cond.fieldLink "NotationParse$Text" (30 : Nat) "NotationParse$Text" "words" "I") ∈ np_al := List.mem_filter.mpr ⟨List.mem_append_right _ (List.mem_append_left _ (List.mem_of_getElem? (i := 94) rfl)), rfl⟩
theorem tw_95 : (Jvm.Cond.fieldLink "NotationParse$Output" (19 : Nat) "NotationParse$Text" "words" "I") ∈ np_al := List.mem_filter.mpr ⟨List.mem_append_right _ (List.mem_append_left _ (List.mem_of_getElem? (i := 95) rfl)), rfl⟩
theorem tw_96 : (Jvm.Cond.fieldLink "NotationParse" (135 : Nat) "NotationParse$Text" "words" "I") ∈ np_al := List.mem_filter.mpr ⟨List.mem_append_right _ (List.mem_append_left _ (List.mem_of_getElem? (i := 96) rfl)), rfl⟩
theorem tw_97 : (Jvm.Cond.fieldLink "NotationParse$Text" (33 : Nat) "NotationParse$Text" "wrongPlace" "I") ∈ np_al := List.mem_filter.mpr ⟨List.mem_append_right _ (List.mem_append_left _ (List.mem_of_getElem? (i := 97) rfl)), rfl⟩
theorem tw_98 : (Jvm.Cond.fieldLink "NotationParse" (161 : Nat) "NotationParse$Text" "wrongPlace" "I") ∈ np_al := List.mem_filter.mpr ⟨List.mem_append_right _ (List.mem_append_left _ (List.mem_of_getElem? (i := 98) rfl)), rfl⟩
theorem tw_121 : (Jvm.Cond.fieldLink "NotationParse$Chart" (21 : Nat) "NotationParse$Chart" "grammar" "LNotationParse$Grammar;") ∈ np_al := List.mem_filter.mpr ⟨List.mem_append_right _ (List.mem_append_left _ (List.mem_of_getElem? (i := 121) rfl)), rfl⟩
theorem tw_122 : (Jvm.Cond.fieldLink "NotationParse$Chart" (9 : Nat) "NotationParse$Chart" "origins" "[I") ∈ np_al := List.mem_filter.mpr ⟨List.mem_append_right _ (List.mem_append_left _ (List.mem_of_getElem? (i := 122) rfl)), rfl⟩
theorem tw_123 : (Jvm.Cond.fieldLink "NotationParse$Chart" (15 : Nat) "NotationParse$Chart" "ways" "[I") ∈ np_al := List.mem_filter.mpr ⟨List.mem_append_right _ (List.mem_append_left _ (List.mem_of_getElem? (i := 123) rfl)), rfl⟩
theorem tw_124 : (Jvm.Cond.fieldLink "NotationParse$Chart" (18 : Nat) "NotationParse$Chart" "trees" "[I") ∈ np_al := List.mem_filter.mpr ⟨List.mem_append_right _ (List.mem_append_left _ (List.mem_of_getElem? (i := 124) rfl)), rfl⟩
theorem tw_140 : (Jvm.Cond.fieldLink "NotationParse$Tree" (49 : Nat) "NotationParse$Tree" "grammar" "LNotationParse$Grammar;") ∈ np_al := List.mem_filter.mpr ⟨List.mem_append_right _ (List.mem_append_left _ (List.mem_of_getElem? (i := 140) rfl)), rfl⟩
theorem tw_141 : (Jvm.Cond.fieldLink "NotationParse$Tree" (53 : Nat) "NotationParse$Tree" "chart" "LNotationParse$Chart;") ∈ np_al := List.mem_filter.mpr ⟨List.mem_append_right _ (List.mem_append_left _ (List.mem_of_getElem? (i := 141) rfl)), rfl⟩
theorem tw_142 : (Jvm.Cond.fieldLink "NotationParse$Tree" (9 : Nat) "NotationParse$Tree" "size" "I") ∈ np_al := List.mem_filter.mpr ⟨List.mem_append_right _ (List.mem_append_left _ (List.mem_of_getElem? (i := 142) rfl)), rfl⟩
theorem tw_143 : (Jvm.Cond.fieldLink "NotationParse" (168 : Nat) "NotationParse$Tree" "size" "I") ∈ np_al := List.mem_filter.mpr ⟨List.mem_append_right _ (List.mem_append_left _ (List.mem_of_getElem? (i := 143) rfl)), rfl⟩
theorem tw_144 : (Jvm.Cond.fieldLink "NotationParse$Tree" (15 : Nat) "NotationParse$Tree" "rules" "[I") ∈ np_al := List.mem_filter.mpr ⟨List.mem_append_right _ (List.mem_append_left _ (List.mem_of_getElem? (i := 144) rfl)), rfl⟩
theorem tw_146 : (Jvm.Cond.fieldLink "NotationParse$Tree" (19 : Nat) "NotationParse$Tree" "children" "[I") ∈ np_al := List.mem_filter.mpr ⟨List.mem_append_right _ (List.mem_append_left _ (List.mem_of_getElem? (i := 146) rfl)), rfl⟩
theorem tw_148 : (Jvm.Cond.fieldLink "NotationParse$Tree" (22 : Nat) "NotationParse$Tree" "firsts" "[I") ∈ np_al := List.mem_filter.mpr ⟨List.mem_append_right _ (List.mem_append_left _ (List.mem_of_getElem? (i := 148) rfl)), rfl⟩
theorem tw_150 : (Jvm.Cond.fieldLink "NotationParse$Tree" (25 : Nat) "NotationParse$Tree" "lengths" "[I") ∈ np_al := List.mem_filter.mpr ⟨List.mem_append_right _ (List.mem_append_left _ (List.mem_of_getElem? (i := 150) rfl)), rfl⟩
theorem tw_152 : (Jvm.Cond.fieldLink "NotationParse$Tree" (28 : Nat) "NotationParse$Tree" "holders" "[I") ∈ np_al := List.mem_filter.mpr ⟨List.mem_append_right _ (List.mem_append_left _ (List.mem_of_getElem? (i := 152) rfl)), rfl⟩
theorem tw_154 : (Jvm.Cond.fieldLink "NotationParse$Tree" (31 : Nat) "NotationParse$Tree" "wanted" "[I") ∈ np_al := List.mem_filter.mpr ⟨List.mem_append_right _ (List.mem_append_left _ (List.mem_of_getElem? (i := 154) rfl)), rfl⟩
theorem tw_155 : (Jvm.Cond.fieldLink "NotationParse$Tree" (34 : Nat) "NotationParse$Tree" "waiting" "I") ∈ np_al := List.mem_filter.mpr ⟨List.mem_append_right _ (List.mem_append_left _ (List.mem_of_getElem? (i := 155) rfl)), rfl⟩
theorem tw_156 : (Jvm.Cond.fieldLink "NotationParse$Tree" (37 : Nat) "NotationParse$Tree" "waitingFrom" "[I") ∈ np_al := List.mem_filter.mpr ⟨List.mem_append_right _ (List.mem_append_left _ (List.mem_of_getElem? (i := 156) rfl)), rfl⟩
theorem tw_157 : (Jvm.Cond.fieldLink "NotationParse$Tree" (40 : Nat) "NotationParse$Tree" "waitingTo" "[I") ∈ np_al := List.mem_filter.mpr ⟨List.mem_append_right _ (List.mem_append_left _ (List.mem_of_getElem? (i := 157) rfl)), rfl⟩
theorem tw_158 : (Jvm.Cond.fieldLink "NotationParse$Tree" (43 : Nat) "NotationParse$Tree" "waitingLevel" "[I") ∈ np_al := List.mem_filter.mpr ⟨List.mem_append_right _ (List.mem_append_left _ (List.mem_of_getElem? (i := 158) rfl)), rfl⟩
theorem tw_159 : (Jvm.Cond.fieldLink "NotationParse$Tree" (46 : Nat) "NotationParse$Tree" "waitingHolder" "[I") ∈ np_al := List.mem_filter.mpr ⟨List.mem_append_right _ (List.mem_append_left _ (List.mem_of_getElem? (i := 159) rfl)), rfl⟩
theorem tw_195 : (Jvm.Cond.fieldLink "NotationParse$Output" (9 : Nat) "NotationParse$Output" "bytes" "[B") ∈ np_al := List.mem_filter.mpr ⟨List.mem_append_right _ (List.mem_append_left _ (List.mem_of_getElem? (i := 195) rfl)), rfl⟩
theorem tw_196 : (Jvm.Cond.fieldLink "NotationParse" (199 : Nat) "NotationParse$Output" "bytes" "[B") ∈ np_al := List.mem_filter.mpr ⟨List.mem_append_right _ (List.mem_append_left _ (List.mem_of_getElem? (i := 196) rfl)), rfl⟩
theorem tw_197 : (Jvm.Cond.fieldLink "NotationParse$Output" (15 : Nat) "NotationParse$Output" "size" "I") ∈ np_al := List.mem_filter.mpr ⟨List.mem_append_right _ (List.mem_append_left _ (List.mem_of_getElem? (i := 197) rfl)), rfl⟩
theorem tw_198 : (Jvm.Cond.fieldLink "NotationParse" (198 : Nat) "NotationParse$Output" "size" "I") ∈ np_al := List.mem_filter.mpr ⟨List.mem_append_right _ (List.mem_append_left _ (List.mem_of_getElem? (i := 198) rfl)), rfl⟩
theorem tw_204 : (Jvm.Cond.fieldLink "NotationParse" (12 : Nat) "NotationParse" "grammar" "LNotationParse$Grammar;") ∈ np_al := List.mem_filter.mpr ⟨List.mem_append_right _ (List.mem_append_left _ (List.mem_of_getElem? (i := 204) rfl)), rfl⟩
theorem tw_205 : (Jvm.Cond.fieldLink "NotationParse" (19 : Nat) "NotationParse" "text" "LNotationParse$Text;") ∈ np_al := List.mem_filter.mpr ⟨List.mem_append_right _ (List.mem_append_left _ (List.mem_of_getElem? (i := 205) rfl)), rfl⟩
theorem tw_206 : (Jvm.Cond.fieldLink "NotationParse" (28 : Nat) "NotationParse" "chart" "LNotationParse$Chart;") ∈ np_al := List.mem_filter.mpr ⟨List.mem_append_right _ (List.mem_append_left _ (List.mem_of_getElem? (i := 206) rfl)), rfl⟩
theorem tw_207 : (Jvm.Cond.fieldLink "NotationParse" (37 : Nat) "NotationParse" "tree" "LNotationParse$Tree;") ∈ np_al := List.mem_filter.mpr ⟨List.mem_append_right _ (List.mem_append_left _ (List.mem_of_getElem? (i := 207) rfl)), rfl⟩
theorem tw_208 : (Jvm.Cond.fieldLink "NotationParse" (44 : Nat) "NotationParse" "output" "LNotationParse$Output;") ∈ np_al := List.mem_filter.mpr ⟨List.mem_append_right _ (List.mem_append_left _ (List.mem_of_getElem? (i := 208) rfl)), rfl⟩
theorem tw_209 : (Jvm.Cond.fieldLink "NotationParse" (48 : Nat) "NotationParse" "faultKind" "I") ∈ np_al := List.mem_filter.mpr ⟨List.mem_append_right _ (List.mem_append_left _ (List.mem_of_getElem? (i := 209) rfl)), rfl⟩
theorem tw_210 : (Jvm.Cond.fieldLink "NotationParse" (52 : Nat) "NotationParse" "faultPlace" "I") ∈ np_al := List.mem_filter.mpr ⟨List.mem_append_right _ (List.mem_append_left _ (List.mem_of_getElem? (i := 210) rfl)), rfl⟩
theorem tw_230 : (Jvm.Cond.methodLink "NotationParse" (123 : Nat) ({ cls := "NotationParse$Text", name := "append", desc := "(JI)V" } : Jvm.MethodName)) ∈ np_al := List.mem_filter.mpr ⟨List.mem_append_right _ (List.mem_append_left _ (List.mem_of_getElem? (i := 230) rfl)), rfl⟩
theorem tw_231 : (Jvm.Cond.instanceMethod ({ cls := "NotationParse$Text", name := "append", desc := "(JI)V" } : Jvm.MethodName)) ∈ np_al := List.mem_filter.mpr ⟨List.mem_append_right _ (List.mem_append_left _ (List.mem_of_getElem? (i := 231) rfl)), rfl⟩
theorem tw_232 : (Jvm.Cond.selects "NotationParse$Text" ({ cls := "NotationParse$Text", name := "append", desc := "(JI)V" } : Jvm.MethodName) ({ cls := "NotationParse$Text", name := "append", desc := "(JI)V" } : Jvm.MethodName)) ∈ np_al := List.mem_filter.mpr ⟨List.mem_append_right _ (List.mem_append_left _ (List.mem_of_getElem? (i := 232) rfl)), rfl⟩
theorem tw_233 : (Jvm.Cond.code ({ cls := "NotationParse$Text", name := "append", desc := "(JI)V" } : Jvm.MethodName) prog_6_method_2_code (5 : Nat) (Option.none : Option Jvm.ClassFile.FieldType)) ∈ np_al := List.mem_filter.mpr ⟨List.mem_append_right _ (List.mem_append_left _ (List.mem_of_getElem? (i := 233) rfl)), rfl⟩
theorem tw_234 : (Jvm.Cond.methodLink "NotationParse$Text" (36 : Nat) ({ cls := "NotationParse$Spelling", name := "byteOf", desc := "(JI)I" } : Jvm.MethodName)) ∈ np_al := List.mem_filter.mpr ⟨List.mem_append_right _ (List.mem_append_left _ (List.mem_of_getElem? (i := 234) rfl)), rfl⟩
theorem tw_235 : (Jvm.Cond.static ({ cls := "NotationParse$Spelling", name := "byteOf", desc := "(JI)I" } : Jvm.MethodName)) ∈ np_al := List.mem_filter.mpr ⟨List.mem_append_right _ (List.mem_append_left _ (List.mem_of_getElem? (i := 235) rfl)), rfl⟩
theorem tw_236 : (Jvm.Cond.code ({ cls := "NotationParse$Spelling", name := "byteOf", desc := "(JI)I" } : Jvm.MethodName) prog_5_method_3_code (3 : Nat) (Option.some Jvm.ClassFile.FieldType.int)) ∈ np_al := List.mem_filter.mpr ⟨List.mem_append_right _ (List.mem_append_left _ (List.mem_of_getElem? (i := 236) rfl)), rfl⟩
theorem tw_256 : (Jvm.Cond.methodLink "NotationParse$Spelling" (21 : Nat) ({ cls := "NotationParse$Spelling", name := "byteOf", desc := "(JI)I" } : Jvm.MethodName)) ∈ np_al := List.mem_filter.mpr ⟨List.mem_append_right _ (List.mem_append_right _ (List.mem_append_left _ (List.mem_of_getElem? (i := 16) rfl))), rfl⟩
theorem tw_293 : (Jvm.Cond.static ({ cls := "java/lang/Math", name := "min", desc := "(II)I" } : Jvm.MethodName)) ∈ np_al := List.mem_filter.mpr ⟨List.mem_append_right _ (List.mem_append_right _ (List.mem_append_left _ (List.mem_of_getElem? (i := 53) rfl))), rfl⟩
theorem tw_294 : (Jvm.Cond.code ({ cls := "java/lang/Math", name := "min", desc := "(II)I" } : Jvm.MethodName) prog_17_method_69_code (2 : Nat) (Option.some Jvm.ClassFile.FieldType.int)) ∈ np_al := List.mem_filter.mpr ⟨List.mem_append_right _ (List.mem_append_right _ (List.mem_append_left _ (List.mem_of_getElem? (i := 54) rfl))), rfl⟩
theorem tw_352 : (Jvm.Cond.instanceMethod ({ cls := "NotationParse$Grammar", name := "hasKey", desc := "(J)Z" } : Jvm.MethodName)) ∈ np_al := List.mem_filter.mpr ⟨List.mem_append_right _ (List.mem_append_right _ (List.mem_append_left _ (List.mem_of_getElem? (i := 112) rfl))), rfl⟩
theorem tw_353 : (Jvm.Cond.selects "NotationParse$Grammar" ({ cls := "NotationParse$Grammar", name := "hasKey", desc := "(J)Z" } : Jvm.MethodName) ({ cls := "NotationParse$Grammar", name := "hasKey", desc := "(J)Z" } : Jvm.MethodName)) ∈ np_al := List.mem_filter.mpr ⟨List.mem_append_right _ (List.mem_append_right _ (List.mem_append_left _ (List.mem_of_getElem? (i := 113) rfl))), rfl⟩
theorem tw_354 : (Jvm.Cond.code ({ cls := "NotationParse$Grammar", name := "hasKey", desc := "(J)Z" } : Jvm.MethodName) prog_3_method_9_code (4 : Nat) (Option.some Jvm.ClassFile.FieldType.boolean)) ∈ np_al := List.mem_filter.mpr ⟨List.mem_append_right _ (List.mem_append_right _ (List.mem_append_left _ (List.mem_of_getElem? (i := 114) rfl))), rfl⟩
theorem tw_355 : (Jvm.Cond.methodLink "NotationParse$Grammar" (47 : Nat) ({ cls := "NotationParse$Grammar", name := "usedDots", desc := "()I" } : Jvm.MethodName)) ∈ np_al := List.mem_filter.mpr ⟨List.mem_append_right _ (List.mem_append_right _ (List.mem_append_left _ (List.mem_of_getElem? (i := 115) rfl))), rfl⟩
theorem tw_356 : (Jvm.Cond.instanceMethod ({ cls := "NotationParse$Grammar", name := "usedDots", desc := "()I" } : Jvm.MethodName)) ∈ np_al := List.mem_filter.mpr ⟨List.mem_append_right _ (List.mem_append_right _ (List.mem_append_left _ (List.mem_of_getElem? (i := 116) rfl))), rfl⟩
theorem tw_357 : (Jvm.Cond.selects "NotationParse$Grammar" ({ cls := "NotationParse$Grammar", name := "usedDots", desc := "()I" } : Jvm.MethodName) ({ cls := "NotationParse$Grammar", name := "usedDots", desc := "()I" } : Jvm.MethodName)) ∈ np_al := List.mem_filter.mpr ⟨List.mem_append_right _ (List.mem_append_right _ (List.mem_append_left _ (List.mem_of_getElem? (i := 117) rfl))), rfl⟩
theorem tw_358 : (Jvm.Cond.code ({ cls := "NotationParse$Grammar", name := "usedDots", desc := "()I" } : Jvm.MethodName) prog_3_method_2_code (1 : Nat) (Option.some Jvm.ClassFile.FieldType.int)) ∈ np_al := List.mem_filter.mpr ⟨List.mem_append_right _ (List.mem_append_right _ (List.mem_append_left _ (List.mem_of_getElem? (i := 118) rfl))), rfl⟩
theorem tw_487 : (Jvm.Cond.methodLink "NotationParse" (103 : Nat) ({ cls := "NotationParse$Grammar", name := "dropHand", desc := "()V" } : Jvm.MethodName)) ∈ np_al := List.mem_filter.mpr ⟨List.mem_append_right _ (List.mem_append_right _ (List.mem_append_right _ (List.mem_append_left _ (List.mem_of_getElem? (i := 7) rfl)))), rfl⟩
theorem tw_488 : (Jvm.Cond.instanceMethod ({ cls := "NotationParse$Grammar", name := "dropHand", desc := "()V" } : Jvm.MethodName)) ∈ np_al := List.mem_filter.mpr ⟨List.mem_append_right _ (List.mem_append_right _ (List.mem_append_right _ (List.mem_append_left _ (List.mem_of_getElem? (i := 8) rfl)))), rfl⟩
theorem tw_489 : (Jvm.Cond.selects "NotationParse$Grammar" ({ cls := "NotationParse$Grammar", name := "dropHand", desc := "()V" } : Jvm.MethodName) ({ cls := "NotationParse$Grammar", name := "dropHand", desc := "()V" } : Jvm.MethodName)) ∈ np_al := List.mem_filter.mpr ⟨List.mem_append_right _ (List.mem_append_right _ (List.mem_append_right _ (List.mem_append_left _ (List.mem_of_getElem? (i := 9) rfl)))), rfl⟩
theorem tw_490 : (Jvm.Cond.code ({ cls := "NotationParse$Grammar", name := "dropHand", desc := "()V" } : Jvm.MethodName) prog_3_method_7_code (1 : Nat) (Option.none : Option Jvm.ClassFile.FieldType)) ∈ np_al := List.mem_filter.mpr ⟨List.mem_append_right _ (List.mem_append_right _ (List.mem_append_right _ (List.mem_append_left _ (List.mem_of_getElem? (i := 10) rfl)))), rfl⟩
theorem tw_491 : (Jvm.Cond.methodLink "NotationParse$Grammar" (51 : Nat) ({ cls := "java/util/Arrays", name := "fill", desc := "([IIII)V" } : Jvm.MethodName)) ∈ np_al := List.mem_filter.mpr ⟨List.mem_append_right _ (List.mem_append_right _ (List.mem_append_right _ (List.mem_append_left _ (List.mem_of_getElem? (i := 11) rfl)))), rfl⟩
theorem tw_492 : (Jvm.Cond.static ({ cls := "java/util/Arrays", name := "fill", desc := "([IIII)V" } : Jvm.MethodName)) ∈ np_al := List.mem_filter.mpr ⟨List.mem_append_right _ (List.mem_append_right _ (List.mem_append_right _ (List.mem_append_left _ (List.mem_of_getElem? (i := 12) rfl)))), rfl⟩
theorem tw_493 : (Jvm.Cond.code ({ cls := "java/util/Arrays", name := "fill", desc := "([IIII)V" } : Jvm.MethodName) prog_25_method_104_code (5 : Nat) (Option.none : Option Jvm.ClassFile.FieldType)) ∈ np_al := List.mem_filter.mpr ⟨List.mem_append_right _ (List.mem_append_right _ (List.mem_append_right _ (List.mem_append_left _ (List.mem_of_getElem? (i := 13) rfl)))), rfl⟩
theorem tw_494 : (Jvm.Cond.methodLink "java/util/Arrays" (13 : Nat) ({ cls := "java/util/Arrays", name := "rangeCheck", desc := "(III)V" } : Jvm.MethodName)) ∈ np_al := List.mem_filter.mpr ⟨List.mem_append_right _ (List.mem_append_right _ (List.mem_append_right _ (List.mem_append_left _ (List.mem_of_getElem? (i := 14) rfl)))), rfl⟩
theorem tw_495 : (Jvm.Cond.static ({ cls := "java/util/Arrays", name := "rangeCheck", desc := "(III)V" } : Jvm.MethodName)) ∈ np_al := List.mem_filter.mpr ⟨List.mem_append_right _ (List.mem_append_right _ (List.mem_append_right _ (List.mem_append_left _ (List.mem_of_getElem? (i := 15) rfl)))), rfl⟩
theorem tw_496 : (Jvm.Cond.code ({ cls := "java/util/Arrays", name := "rangeCheck", desc := "(III)V" } : Jvm.MethodName) prog_25_method_30_code (3 : Nat) (Option.none : Option Jvm.ClassFile.FieldType)) ∈ np_al := List.mem_filter.mpr ⟨List.mem_append_right _ (List.mem_append_right _ (List.mem_append_right _ (List.mem_append_left _ (List.mem_of_getElem? (i := 16) rfl)))), rfl⟩
theorem tw_703 : (Jvm.Cond.methodLink "NotationParse$Grammar" (54 : Nat) ({ cls := "java/util/Arrays", name := "fill", desc := "([JIIJ)V" } : Jvm.MethodName)) ∈ np_al := List.mem_filter.mpr ⟨List.mem_append_right _ (List.mem_append_right _ (List.mem_append_right _ (List.mem_append_left _ (List.mem_of_getElem? (i := 223) rfl)))), rfl⟩
theorem tw_704 : (Jvm.Cond.static ({ cls := "java/util/Arrays", name := "fill", desc := "([JIIJ)V" } : Jvm.MethodName)) ∈ np_al := List.mem_filter.mpr ⟨List.mem_append_right _ (List.mem_append_right _ (List.mem_append_right _ (List.mem_append_left _ (List.mem_of_getElem? (i := 224) rfl)))), rfl⟩
theorem tw_705 : (Jvm.Cond.code ({ cls := "java/util/Arrays", name := "fill", desc := "([JIIJ)V" } : Jvm.MethodName) prog_25_method_102_code (6 : Nat) (Option.none : Option Jvm.ClassFile.FieldType)) ∈ np_al := List.mem_filter.mpr ⟨List.mem_append_right _ (List.mem_append_right _ (List.mem_append_right _ (List.mem_append_left _ (List.mem_of_getElem? (i := 225) rfl)))), rfl⟩
theorem tw_708 : (Jvm.Cond.methodLink "NotationParse" (113 : Nat) ({ cls := "NotationParse$Tree", name := "fell", desc := "()V" } : Jvm.MethodName)) ∈ np_al := List.mem_filter.mpr ⟨List.mem_append_right _ (List.mem_append_right _ (List.mem_append_right _ (List.mem_append_left _ (List.mem_of_getElem? (i := 228) rfl)))), rfl⟩
theorem tw_709 : (Jvm.Cond.instanceMethod ({ cls := "NotationParse$Tree", name := "fell", desc := "()V" } : Jvm.MethodName)) ∈ np_al := List.mem_filter.mpr ⟨List.mem_append_right _ (List.mem_append_right _ (List.mem_append_right _ (List.mem_append_left _ (List.mem_of_getElem? (i := 229) rfl)))), rfl⟩
theorem tw_710 : (Jvm.Cond.selects "NotationParse$Tree" ({ cls := "NotationParse$Tree", name := "fell", desc := "()V" } : Jvm.MethodName) ({ cls := "NotationParse$Tree", name := "fell", desc := "()V" } : Jvm.MethodName)) ∈ np_al := List.mem_filter.mpr ⟨List.mem_append_right _ (List.mem_append_right _ (List.mem_append_right _ (List.mem_append_left _ (List.mem_of_getElem? (i := 230) rfl)))), rfl⟩
theorem tw_711 : (Jvm.Cond.code ({ cls := "NotationParse$Tree", name := "fell", desc := "()V" } : Jvm.MethodName) prog_7_method_2_code (1 : Nat) (Option.none : Option Jvm.ClassFile.FieldType)) ∈ np_al := List.mem_filter.mpr ⟨List.mem_append_right _ (List.mem_append_right _ (List.mem_append_right _ (List.mem_append_left _ (List.mem_of_getElem? (i := 231) rfl)))), rfl⟩
theorem tw_740 : (Jvm.Cond.methodLink "NotationParse$Text" (57 : Nat) ({ cls := "NotationParse$Grammar", name := "hasKey", desc := "(J)Z" } : Jvm.MethodName)) ∈ np_al := List.mem_filter.mpr ⟨List.mem_append_right _ (List.mem_append_right _ (List.mem_append_right _ (List.mem_append_right _ (List.mem_append_left _ (List.mem_of_getElem? (i := 20) rfl))))), rfl⟩
theorem tw_745 : (Jvm.Cond.methodLink "NotationParse" (149 : Nat) ({ cls := "NotationParse$Chart", name := "follow", desc := "([JI)I" } : Jvm.MethodName)) ∈ np_al := List.mem_filter.mpr ⟨List.mem_append_right _ (List.mem_append_right _ (List.mem_append_right _ (List.mem_append_right _ (List.mem_append_left _ (List.mem_of_getElem? (i := 25) rfl))))), rfl⟩
theorem tw_746 : (Jvm.Cond.instanceMethod ({ cls := "NotationParse$Chart", name := "follow", desc := "([JI)I" } : Jvm.MethodName)) ∈ np_al := List.mem_filter.mpr ⟨List.mem_append_right _ (List.mem_append_right _ (List.mem_append_right _ (List.mem_append_right _ (List.mem_append_left _ (List.mem_of_getElem? (i := 26) rfl))))), rfl⟩
theorem tw_747 : (Jvm.Cond.selects "NotationParse$Chart" ({ cls := "NotationParse$Chart", name := "follow", desc := "([JI)I" } : Jvm.MethodName) ({ cls := "NotationParse$Chart", name := "follow", desc := "([JI)I" } : Jvm.MethodName)) ∈ np_al := List.mem_filter.mpr ⟨List.mem_append_right _ (List.mem_append_right _ (List.mem_append_right _ (List.mem_append_right _ (List.mem_append_left _ (List.mem_of_getElem? (i := 27) rfl))))), rfl⟩
theorem tw_748 : (Jvm.Cond.code ({ cls := "NotationParse$Chart", name := "follow", desc := "([JI)I" } : Jvm.MethodName) prog_2_method_2_code (4 : Nat) (Option.some Jvm.ClassFile.FieldType.int)) ∈ np_al := List.mem_filter.mpr ⟨List.mem_append_right _ (List.mem_append_right _ (List.mem_append_right _ (List.mem_append_right _ (List.mem_append_left _ (List.mem_of_getElem? (i := 28) rfl))))), rfl⟩
theorem tw_749 : (Jvm.Cond.methodLink "NotationParse$Chart" (25 : Nat) ({ cls := "NotationParse$Chart", name := "emptyRow", desc := "(I)V" } : Jvm.MethodName)) ∈ np_al := List.mem_filter.mpr ⟨List.mem_append_right _ (List.mem_append_right _ (List.mem_append_right _ (List.mem_append_right _ (List.mem_append_left _ (List.mem_of_getElem? (i := 29) rfl))))), rfl⟩
theorem tw_751 : (Jvm.Cond.instanceMethod ({ cls := "NotationParse$Chart", name := "emptyRow", desc := "(I)V" } : Jvm.MethodName)) ∈ np_al := List.mem_filter.mpr ⟨List.mem_append_right _ (List.mem_append_right _ (List.mem_append_right _ (List.mem_append_right _ (List.mem_append_left _ (List.mem_of_getElem? (i := 31) rfl))))), rfl⟩
theorem tw_752 : (Jvm.Cond.code ({ cls := "NotationParse$Chart", name := "emptyRow", desc := "(I)V" } : Jvm.MethodName) prog_2_method_4_code (2 : Nat) (Option.none : Option Jvm.ClassFile.FieldType)) ∈ np_al := List.mem_filter.mpr ⟨List.mem_append_right _ (List.mem_append_right _ (List.mem_append_right _ (List.mem_append_right _ (List.mem_append_left _ (List.mem_of_getElem? (i := 32) rfl))))), rfl⟩
theorem tw_753 : (Jvm.Cond.methodLink "NotationParse$Chart" (48 : Nat) ({ cls := "java/util/Arrays", name := "fill", desc := "([IIII)V" } : Jvm.MethodName)) ∈ np_al := List.mem_filter.mpr ⟨List.mem_append_right _ (List.mem_append_right _ (List.mem_append_right _ (List.mem_append_right _ (List.mem_append_left _ (List.mem_of_getElem? (i := 33) rfl))))), rfl⟩
theorem tw_754 : (Jvm.Cond.methodLink "NotationParse$Chart" (29 : Nat) ({ cls := "NotationParse$Chart", name := "predict", desc := "(II)V" } : Jvm.MethodName)) ∈ np_al := List.mem_filter.mpr ⟨List.mem_append_right _ (List.mem_append_right _ (List.mem_append_right _ (List.mem_append_right _ (List.mem_append_left _ (List.mem_of_getElem? (i := 34) rfl))))), rfl⟩
theorem tw_756 : (Jvm.Cond.instanceMethod ({ cls := "NotationParse$Chart", name := "predict", desc := "(II)V" } : Jvm.MethodName)) ∈ np_al := List.mem_filter.mpr ⟨List.mem_append_right _ (List.mem_append_right _ (List.mem_append_right _ (List.mem_append_right _ (List.mem_append_left _ (List.mem_of_getElem? (i := 36) rfl))))), rfl⟩
theorem tw_757 : (Jvm.Cond.code ({ cls := "NotationParse$Chart", name := "predict", desc := "(II)V" } : Jvm.MethodName) prog_2_method_11_code (7 : Nat) (Option.none : Option Jvm.ClassFile.FieldType)) ∈ np_al := List.mem_filter.mpr ⟨List.mem_append_right _ (List.mem_append_right _ (List.mem_append_right _ (List.mem_append_right _ (List.mem_append_left _ (List.mem_of_getElem? (i := 37) rfl))))), rfl⟩
theorem tw_758 : (Jvm.Cond.methodLink "NotationParse$Chart" (85 : Nat) ({ cls := "NotationParse$Chart", name := "leastFirstHole", desc := "(I)I" } : Jvm.MethodName)) ∈ np_al := List.mem_filter.mpr ⟨List.mem_append_right _ (List.mem_append_right _ (List.mem_append_right _ (List.mem_append_right _ (List.mem_append_left _ (List.mem_of_getElem? (i := 38) rfl))))), rfl⟩
theorem tw_760 : (Jvm.Cond.instanceMethod ({ cls := "NotationParse$Chart", name := "leastFirstHole", desc := "(I)I" } : Jvm.MethodName)) ∈ np_al := List.mem_filter.mpr ⟨List.mem_append_right _ (List.mem_append_right _ (List.mem_append_right _ (List.mem_append_right _ (List.mem_append_left _ (List.mem_of_getElem? (i := 40) rfl))))), rfl⟩
theorem tw_761 : (Jvm.Cond.code ({ cls := "NotationParse$Chart", name := "leastFirstHole", desc := "(I)I" } : Jvm.MethodName) prog_2_method_12_code (5 : Nat) (Option.some Jvm.ClassFile.FieldType.int)) ∈ np_al := List.mem_filter.mpr ⟨List.mem_append_right _ (List.mem_append_right _ (List.mem_append_right _ (List.mem_append_right _ (List.mem_append_left _ (List.mem_of_getElem? (i := 41) rfl))))), rfl⟩
theorem tw_762 : (Jvm.Cond.methodLink "NotationParse$Chart" (33 : Nat) ({ cls := "NotationParse$Chart", name := "scan", desc := "(IJ)Z" } : Jvm.MethodName)) ∈ np_al := List.mem_filter.mpr ⟨List.mem_append_right _ (List.mem_append_right _ (List.mem_append_right _ (List.mem_append_right _ (List.mem_append_left _ (List.mem_of_getElem? (i := 42) rfl))))), rfl⟩
theorem tw_764 : (Jvm.Cond.instanceMethod ({ cls := "NotationParse$Chart", name := "scan", desc := "(IJ)Z" } : Jvm.MethodName)) ∈ np_al := List.mem_filter.mpr ⟨List.mem_append_right _ (List.mem_append_right _ (List.mem_append_right _ (List.mem_append_right _ (List.mem_append_left _ (List.mem_of_getElem? (i := 44) rfl))))), rfl⟩
theorem tw_765 : (Jvm.Cond.code ({ cls := "NotationParse$Chart", name := "scan", desc := "(IJ)Z" } : Jvm.MethodName) prog_2_method_6_code (8 : Nat) (Option.some Jvm.ClassFile.FieldType.boolean)) ∈ np_al := List.mem_filter.mpr ⟨List.mem_append_right _ (List.mem_append_right _ (List.mem_append_right _ (List.mem_append_right _ (List.mem_append_left _ (List.mem_of_getElem? (i := 45) rfl))))), rfl⟩
theorem tw_766 : (Jvm.Cond.methodLink "NotationParse$Chart" (54 : Nat) ({ cls := "NotationParse$Grammar", name := "usedDots", desc := "()I" } : Jvm.MethodName)) ∈ np_al := List.mem_filter.mpr ⟨List.mem_append_right _ (List.mem_append_right _ (List.mem_append_right _ (List.mem_append_right _ (List.mem_append_left _ (List.mem_of_getElem? (i := 46) rfl))))), rfl⟩
theorem tw_767 : (Jvm.Cond.methodLink "NotationParse$Chart" (37 : Nat) ({ cls := "NotationParse$Chart", name := "complete", desc := "(I)V" } : Jvm.MethodName)) ∈ np_al := List.mem_filter.mpr ⟨List.mem_append_right _ (List.mem_append_right _ (List.mem_append_right _ (List.mem_append_right _ (List.mem_append_left _ (List.mem_of_getElem? (i := 47) rfl))))), rfl⟩
theorem tw_769 : (Jvm.Cond.instanceMethod ({ cls := "NotationParse$Chart", name := "complete", desc := "(I)V" } : Jvm.MethodName)) ∈ np_al := List.mem_filter.mpr ⟨List.mem_append_right _ (List.mem_append_right _ (List.mem_append_right _ (List.mem_append_right _ (List.mem_append_left _ (List.mem_of_getElem? (i := 49) rfl))))), rfl⟩
theorem tw_770 : (Jvm.Cond.code ({ cls := "NotationParse$Chart", name := "complete", desc := "(I)V" } : Jvm.MethodName) prog_2_method_7_code (4 : Nat) (Option.none : Option Jvm.ClassFile.FieldType)) ∈ np_al := List.mem_filter.mpr ⟨List.mem_append_right _ (List.mem_append_right _ (List.mem_append_right _ (List.mem_append_right _ (List.mem_append_left _ (List.mem_of_getElem? (i := 50) rfl))))), rfl⟩
theorem tw_771 : (Jvm.Cond.methodLink "NotationParse$Chart" (44 : Nat) ({ cls := "NotationParse$Chart", name := "highestTerm", desc := "(II)I" } : Jvm.MethodName)) ∈ np_al := List.mem_filter.mpr ⟨List.mem_append_right _ (List.mem_append_right _ (List.mem_append_right _ (List.mem_append_right _ (List.mem_append_left _ (List.mem_of_getElem? (i := 51) rfl))))), rfl⟩
theorem tw_773 : (Jvm.Cond.instanceMethod ({ cls := "NotationParse$Chart", name := "highestTerm", desc := "(II)I" } : Jvm.MethodName)) ∈ np_al := List.mem_filter.mpr ⟨List.mem_append_right _ (List.mem_append_right _ (List.mem_append_right _ (List.mem_append_right _ (List.mem_append_left _ (List.mem_of_getElem? (i := 53) rfl))))), rfl⟩
theorem tw_774 : (Jvm.Cond.code ({ cls := "NotationParse$Chart", name := "highestTerm", desc := "(II)I" } : Jvm.MethodName) prog_2_method_8_code (5 : Nat) (Option.some Jvm.ClassFile.FieldType.int)) ∈ np_al := List.mem_filter.mpr ⟨List.mem_append_right _ (List.mem_append_right _ (List.mem_append_right _ (List.mem_append_right _ (List.mem_append_left _ (List.mem_of_getElem? (i := 54) rfl))))), rfl⟩
theorem tw_775 : (Jvm.Cond.methodLink "NotationParse$Chart" (75 : Nat) ({ cls := "NotationParse$Grammar", name := "lastDot", desc := "(I)I" } : Jvm.MethodName)) ∈ np_al := List.mem_filter.mpr ⟨List.mem_append_right _ (List.mem_append_right _ (List.mem_append_right _ (List.mem_append_right _ (List.mem_append_left _ (List.mem_of_getElem? (i := 55) rfl))))), rfl⟩
theorem tw_776 : (Jvm.Cond.instanceMethod ({ cls := "NotationParse$Grammar", name := "lastDot", desc := "(I)I" } : Jvm.MethodName)) ∈ np_al := List.mem_filter.mpr ⟨List.mem_append_right _ (List.mem_append_right _ (List.mem_append_right _ (List.mem_append_right _ (List.mem_append_left _ (List.mem_of_getElem? (i := 56) rfl))))), rfl⟩
theorem tw_777 : (Jvm.Cond.selects "NotationParse$Grammar" ({ cls := "NotationParse$Grammar", name := "lastDot", desc := "(I)I" } : Jvm.MethodName) ({ cls := "NotationParse$Grammar", name := "lastDot", desc := "(I)I" } : Jvm.MethodName)) ∈ np_al := List.mem_filter.mpr ⟨List.mem_append_right _ (List.mem_append_right _ (List.mem_append_right _ (List.mem_append_right _ (List.mem_append_left _ (List.mem_of_getElem? (i := 57) rfl))))), rfl⟩
theorem tw_778 : (Jvm.Cond.code ({ cls := "NotationParse$Grammar", name := "lastDot", desc := "(I)I" } : Jvm.MethodName) prog_3_method_3_code (2 : Nat) (Option.some Jvm.ClassFile.FieldType.int)) ∈ np_al := List.mem_filter.mpr ⟨List.mem_append_right _ (List.mem_append_right _ (List.mem_append_right _ (List.mem_append_right _ (List.mem_append_left _ (List.mem_of_getElem? (i := 58) rfl))))), rfl⟩
theorem tw_779 : (Jvm.Cond.methodLink "NotationParse$Chart" (78 : Nat) ({ cls := "NotationParse$Chart", name := "isReached", desc := "(III)Z" } : Jvm.MethodName)) ∈ np_al := List.mem_filter.mpr ⟨List.mem_append_right _ (List.mem_append_right _ (List.mem_append_right _ (List.mem_append_right _ (List.mem_append_left _ (List.mem_of_getElem? (i := 59) rfl))))), rfl⟩
theorem tw_781 : (Jvm.Cond.instanceMethod ({ cls := "NotationParse$Chart", name := "isReached", desc := "(III)Z" } : Jvm.MethodName)) ∈ np_al := List.mem_filter.mpr ⟨List.mem_append_right _ (List.mem_append_right _ (List.mem_append_right _ (List.mem_append_right _ (List.mem_append_left _ (List.mem_of_getElem? (i := 61) rfl))))), rfl⟩
theorem tw_782 : (Jvm.Cond.code ({ cls := "NotationParse$Chart", name := "isReached", desc := "(III)Z" } : Jvm.MethodName) prog_2_method_5_code (4 : Nat) (Option.some Jvm.ClassFile.FieldType.boolean)) ∈ np_al := List.mem_filter.mpr ⟨List.mem_append_right _ (List.mem_append_right _ (List.mem_append_right _ (List.mem_append_right _ (List.mem_append_left _ (List.mem_of_getElem? (i := 62) rfl))))), rfl⟩
theorem tw_783 : (Jvm.Cond.methodLink "NotationParse$Chart" (64 : Nat) ({ cls := "NotationParse$Chart", name := "fillHoles", desc := "(III)V" } : Jvm.MethodName)) ∈ np_al := List.mem_filter.mpr ⟨List.mem_append_right _ (List.mem_append_right _ (List.mem_append_right _ (List.mem_append_right _ (List.mem_append_left _ (List.mem_of_getElem? (i := 63) rfl))))), rfl⟩
theorem tw_785 : (Jvm.Cond.instanceMethod ({ cls := "NotationParse$Chart", name := "fillHoles", desc := "(III)V" } : Jvm.MethodName)) ∈ np_al := List.mem_filter.mpr ⟨List.mem_append_right _ (List.mem_append_right _ (List.mem_append_right _ (List.mem_append_right _ (List.mem_append_left _ (List.mem_of_getElem? (i := 65) rfl))))), rfl⟩
theorem tw_786 : (Jvm.Cond.code ({ cls := "NotationParse$Chart", name := "fillHoles", desc := "(III)V" } : Jvm.MethodName) prog_2_method_9_code (8 : Nat) (Option.none : Option Jvm.ClassFile.FieldType)) ∈ np_al := List.mem_filter.mpr ⟨List.mem_append_right _ (List.mem_append_right _ (List.mem_append_right _ (List.mem_append_right _ (List.mem_append_left _ (List.mem_of_getElem? (i := 66) rfl))))), rfl⟩
theorem tw_787 : (Jvm.Cond.methodLink "NotationParse$Chart" (40 : Nat) ({ cls := "NotationParse$Chart", name := "leastWanted", desc := "(I)I" } : Jvm.MethodName)) ∈ np_al := List.mem_filter.mpr ⟨List.mem_append_right _ (List.mem_append_right _ (List.mem_append_right _ (List.mem_append_right _ (List.mem_append_left _ (List.mem_of_getElem? (i := 67) rfl))))), rfl⟩
theorem tw_789 : (Jvm.Cond.instanceMethod ({ cls := "NotationParse$Chart", name := "leastWanted", desc := "(I)I" } : Jvm.MethodName)) ∈ np_al := List.mem_filter.mpr ⟨List.mem_append_right _ (List.mem_append_right _ (List.mem_append_right _ (List.mem_append_right _ (List.mem_append_left _ (List.mem_of_getElem? (i := 69) rfl))))), rfl⟩
theorem tw_790 : (Jvm.Cond.code ({ cls := "NotationParse$Chart", name := "leastWanted", desc := "(I)I" } : Jvm.MethodName) prog_2_method_10_code (5 : Nat) (Option.some Jvm.ClassFile.FieldType.int)) ∈ np_al := List.mem_filter.mpr ⟨List.mem_append_right _ (List.mem_append_right _ (List.mem_append_right _ (List.mem_append_right _ (List.mem_append_left _ (List.mem_of_getElem? (i := 70) rfl))))), rfl⟩
theorem tw_791 : (Jvm.Cond.methodLink "NotationParse" (157 : Nat) ({ cls := "NotationParse", name := "noteFault", desc := "(II)V" } : Jvm.MethodName)) ∈ np_al := List.mem_filter.mpr ⟨List.mem_append_right _ (List.mem_append_right _ (List.mem_append_right _ (List.mem_append_right _ (List.mem_append_left _ (List.mem_of_getElem? (i := 71) rfl))))), rfl⟩
theorem tw_793 : (Jvm.Cond.instanceMethod ({ cls := "NotationParse", name := "noteFault", desc := "(II)V" } : Jvm.MethodName)) ∈ np_al := List.mem_filter.mpr ⟨List.mem_append_right _ (List.mem_append_right _ (List.mem_append_right _ (List.mem_append_right _ (List.mem_append_left _ (List.mem_of_getElem? (i := 73) rfl))))), rfl⟩
theorem tw_794 : (Jvm.Cond.code ({ cls := "NotationParse", name := "noteFault", desc := "(II)V" } : Jvm.MethodName) prog_1_method_9_code (3 : Nat) (Option.none : Option Jvm.ClassFile.FieldType)) ∈ np_al := List.mem_filter.mpr ⟨List.mem_append_right _ (List.mem_append_right _ (List.mem_append_right _ (List.mem_append_right _ (List.mem_append_left _ (List.mem_of_getElem? (i := 74) rfl))))), rfl⟩
theorem tw_795 : (Jvm.Cond.methodLink "NotationParse" (164 : Nat) ({ cls := "NotationParse$Chart", name := "isWhole", desc := "(I)Z" } : Jvm.MethodName)) ∈ np_al := List.mem_filter.mpr ⟨List.mem_append_right _ (List.mem_append_right _ (List.mem_append_right _ (List.mem_append_right _ (List.mem_append_left _ (List.mem_of_getElem? (i := 75) rfl))))), rfl⟩
theorem tw_796 : (Jvm.Cond.instanceMethod ({ cls := "NotationParse$Chart", name := "isWhole", desc := "(I)Z" } : Jvm.MethodName)) ∈ np_al := List.mem_filter.mpr ⟨List.mem_append_right _ (List.mem_append_right _ (List.mem_append_right _ (List.mem_append_right _ (List.mem_append_left _ (List.mem_of_getElem? (i := 76) rfl))))), rfl⟩
theorem tw_797 : (Jvm.Cond.selects "NotationParse$Chart" ({ cls := "NotationParse$Chart", name := "isWhole", desc := "(I)Z" } : Jvm.MethodName) ({ cls := "NotationParse$Chart", name := "isWhole", desc := "(I)Z" } : Jvm.MethodName)) ∈ np_al := List.mem_filter.mpr ⟨List.mem_append_right _ (List.mem_append_right _ (List.mem_append_right _ (List.mem_append_right _ (List.mem_append_left _ (List.mem_of_getElem? (i := 77) rfl))))), rfl⟩
theorem tw_798 : (Jvm.Cond.code ({ cls := "NotationParse$Chart", name := "isWhole", desc := "(I)Z" } : Jvm.MethodName) prog_2_method_3_code (2 : Nat) (Option.some Jvm.ClassFile.FieldType.boolean)) ∈ np_al := List.mem_filter.mpr ⟨List.mem_append_right _ (List.mem_append_right _ (List.mem_append_right _ (List.mem_append_right _ (List.mem_append_left _ (List.mem_of_getElem? (i := 78) rfl))))), rfl⟩
theorem tw_804 : (Jvm.Cond.methodLink "NotationParse$Chart" (88 : Nat) ({ cls := "NotationParse$Chart", name := "countFrom", desc := "(II)V" } : Jvm.MethodName)) ∈ np_al := List.mem_filter.mpr ⟨List.mem_append_right _ (List.mem_append_right _ (List.mem_append_right _ (List.mem_append_right _ (List.mem_append_left _ (List.mem_of_getElem? (i := 84) rfl))))), rfl⟩
theorem tw_806 : (Jvm.Cond.instanceMethod ({ cls := "NotationParse$Chart", name := "countFrom", desc := "(II)V" } : Jvm.MethodName)) ∈ np_al := List.mem_filter.mpr ⟨List.mem_append_right _ (List.mem_append_right _ (List.mem_append_right _ (List.mem_append_right _ (List.mem_append_left _ (List.mem_of_getElem? (i := 86) rfl))))), rfl⟩
theorem tw_807 : (Jvm.Cond.code ({ cls := "NotationParse$Chart", name := "countFrom", desc := "(II)V" } : Jvm.MethodName) prog_2_method_14_code (5 : Nat) (Option.none : Option Jvm.ClassFile.FieldType)) ∈ np_al := List.mem_filter.mpr ⟨List.mem_append_right _ (List.mem_append_right _ (List.mem_append_right _ (List.mem_append_right _ (List.mem_append_left _ (List.mem_of_getElem? (i := 87) rfl))))), rfl⟩
theorem tw_808 : (Jvm.Cond.methodLink "NotationParse$Chart" (95 : Nat) ({ cls := "NotationParse$Chart", name := "countRule", desc := "(III)V" } : Jvm.MethodName)) ∈ np_al := List.mem_filter.mpr ⟨List.mem_append_right _ (List.mem_append_right _ (List.mem_append_right _ (List.mem_append_right _ (List.mem_append_left _ (List.mem_of_getElem? (i := 88) rfl))))), rfl⟩
theorem tw_810 : (Jvm.Cond.instanceMethod ({ cls := "NotationParse$Chart", name := "countRule", desc := "(III)V" } : Jvm.MethodName)) ∈ np_al := List.mem_filter.mpr ⟨List.mem_append_right _ (List.mem_append_right _ (List.mem_append_right _ (List.mem_append_right _ (List.mem_append_left _ (List.mem_of_getElem? (i := 90) rfl))))), rfl⟩
theorem tw_811 : (Jvm.Cond.code ({ cls := "NotationParse$Chart", name := "countRule", desc := "(III)V" } : Jvm.MethodName) prog_2_method_15_code (8 : Nat) (Option.none : Option Jvm.ClassFile.FieldType)) ∈ np_al := List.mem_filter.mpr ⟨List.mem_append_right _ (List.mem_append_right _ (List.mem_append_right _ (List.mem_append_right _ (List.mem_append_left _ (List.mem_of_getElem? (i := 91) rfl))))), rfl⟩
theorem tw_812 : (Jvm.Cond.methodLink "NotationParse$Chart" (104 : Nat) ({ cls := "NotationParse$Chart", name := "countSplits", desc := "(IIII)I" } : Jvm.MethodName)) ∈ np_al := List.mem_filter.mpr ⟨List.mem_append_right _ (List.mem_append_right _ (List.mem_append_right _ (List.mem_append_right _ (List.mem_append_left _ (List.mem_of_getElem? (i := 92) rfl))))), rfl⟩
theorem tw_814 : (Jvm.Cond.instanceMethod ({ cls := "NotationParse$Chart", name := "countSplits", desc := "(IIII)I" } : Jvm.MethodName)) ∈ np_al := List.mem_filter.mpr ⟨List.mem_append_right _ (List.mem_append_right _ (List.mem_append_right _ (List.mem_append_right _ (List.mem_append_left _ (List.mem_of_getElem? (i := 94) rfl))))), rfl⟩
theorem tw_815 : (Jvm.Cond.code ({ cls := "NotationParse$Chart", name := "countSplits", desc := "(IIII)I" } : Jvm.MethodName) prog_2_method_16_code (8 : Nat) (Option.some Jvm.ClassFile.FieldType.int)) ∈ np_al := List.mem_filter.mpr ⟨List.mem_append_right _ (List.mem_append_right _ (List.mem_append_right _ (List.mem_append_right _ (List.mem_append_left _ (List.mem_of_getElem? (i := 95) rfl))))), rfl⟩
theorem tw_816 : (Jvm.Cond.methodLink "NotationParse$Chart" (91 : Nat) ({ cls := "NotationParse$Chart", name := "cell", desc := "(III)I" } : Jvm.MethodName)) ∈ np_al := List.mem_filter.mpr ⟨List.mem_append_right _ (List.mem_append_right _ (List.mem_append_right _ (List.mem_append_right _ (List.mem_append_left _ (List.mem_of_getElem? (i := 96) rfl))))), rfl⟩
theorem tw_818 : (Jvm.Cond.instanceMethod ({ cls := "NotationParse$Chart", name := "cell", desc := "(III)I" } : Jvm.MethodName)) ∈ np_al := List.mem_filter.mpr ⟨List.mem_append_right _ (List.mem_append_right _ (List.mem_append_right _ (List.mem_append_right _ (List.mem_append_left _ (List.mem_of_getElem? (i := 98) rfl))))), rfl⟩
theorem tw_819 : (Jvm.Cond.code ({ cls := "NotationParse$Chart", name := "cell", desc := "(III)I" } : Jvm.MethodName) prog_2_method_20_code (4 : Nat) (Option.some Jvm.ClassFile.FieldType.int)) ∈ np_al := List.mem_filter.mpr ⟨List.mem_append_right _ (List.mem_append_right _ (List.mem_append_right _ (List.mem_append_right _ (List.mem_append_left _ (List.mem_of_getElem? (i := 99) rfl))))), rfl⟩
theorem tw_820 : (Jvm.Cond.constantLong "NotationParse$Chart" (108 : Nat) (1000000 : Int64)) ∈ np_al := List.mem_filter.mpr ⟨List.mem_append_right _ (List.mem_append_right _ (List.mem_append_right _ (List.mem_append_right _ (List.mem_append_left _ (List.mem_of_getElem? (i := 100) rfl))))), rfl⟩
theorem tw_821 : (Jvm.Cond.methodLink "NotationParse$Chart" (110 : Nat) ({ cls := "java/lang/Math", name := "min", desc := "(JJ)J" } : Jvm.MethodName)) ∈ np_al := List.mem_filter.mpr ⟨List.mem_append_right _ (List.mem_append_right _ (List.mem_append_right _ (List.mem_append_right _ (List.mem_append_left _ (List.mem_of_getElem? (i := 101) rfl))))), rfl⟩
theorem tw_822 : (Jvm.Cond.static ({ cls := "java/lang/Math", name := "min", desc := "(JJ)J" } : Jvm.MethodName)) ∈ np_al := List.mem_filter.mpr ⟨List.mem_append_right _ (List.mem_append_right _ (List.mem_append_right _ (List.mem_append_right _ (List.mem_append_left _ (List.mem_of_getElem? (i := 102) rfl))))), rfl⟩
theorem tw_823 : (Jvm.Cond.code ({ cls := "java/lang/Math", name := "min", desc := "(JJ)J" } : Jvm.MethodName) prog_17_method_70_code (4 : Nat) (Option.some Jvm.ClassFile.FieldType.long)) ∈ np_al := List.mem_filter.mpr ⟨List.mem_append_right _ (List.mem_append_right _ (List.mem_append_right _ (List.mem_append_right _ (List.mem_append_left _ (List.mem_of_getElem? (i := 103) rfl))))), rfl⟩
theorem tw_824 : (Jvm.Cond.methodLink "NotationParse$Chart" (98 : Nat) ({ cls := "NotationParse$Chart", name := "sumTerms", desc := "(II)V" } : Jvm.MethodName)) ∈ np_al := List.mem_filter.mpr ⟨List.mem_append_right _ (List.mem_append_right _ (List.mem_append_right _ (List.mem_append_right _ (List.mem_append_left _ (List.mem_of_getElem? (i := 104) rfl))))), rfl⟩
theorem tw_826 : (Jvm.Cond.instanceMethod ({ cls := "NotationParse$Chart", name := "sumTerms", desc := "(II)V" } : Jvm.MethodName)) ∈ np_al := List.mem_filter.mpr ⟨List.mem_append_right _ (List.mem_append_right _ (List.mem_append_right _ (List.mem_append_right _ (List.mem_append_left _ (List.mem_of_getElem? (i := 106) rfl))))), rfl⟩
theorem tw_827 : (Jvm.Cond.code ({ cls := "NotationParse$Chart", name := "sumTerms", desc := "(II)V" } : Jvm.MethodName) prog_2_method_17_code (6 : Nat) (Option.none : Option Jvm.ClassFile.FieldType)) ∈ np_al := List.mem_filter.mpr ⟨List.mem_append_right _ (List.mem_append_right _ (List.mem_append_right _ (List.mem_append_right _ (List.mem_append_left _ (List.mem_of_getElem? (i := 107) rfl))))), rfl⟩
theorem tw_828 : (Jvm.Cond.methodLink "NotationParse$Chart" (116 : Nat) ({ cls := "NotationParse$Chart", name := "addTrees", desc := "(II)V" } : Jvm.MethodName)) ∈ np_al := List.mem_filter.mpr ⟨List.mem_append_right _ (List.mem_append_right _ (List.mem_append_right _ (List.mem_append_right _ (List.mem_append_left _ (List.mem_of_getElem? (i := 108) rfl))))), rfl⟩
theorem tw_830 : (Jvm.Cond.instanceMethod ({ cls := "NotationParse$Chart", name := "addTrees", desc := "(II)V" } : Jvm.MethodName)) ∈ np_al := List.mem_filter.mpr ⟨List.mem_append_right _ (List.mem_append_right _ (List.mem_append_right _ (List.mem_append_right _ (List.mem_append_left _ (List.mem_of_getElem? (i := 110) rfl))))), rfl⟩
theorem tw_831 : (Jvm.Cond.code ({ cls := "NotationParse$Chart", name := "addTrees", desc := "(II)V" } : Jvm.MethodName) prog_2_method_18_code (3 : Nat) (Option.none : Option Jvm.ClassFile.FieldType)) ∈ np_al := List.mem_filter.mpr ⟨List.mem_append_right _ (List.mem_append_right _ (List.mem_append_right _ (List.mem_append_right _ (List.mem_append_left _ (List.mem_of_getElem? (i := 111) rfl))))), rfl⟩
theorem tw_832 : (Jvm.Cond.constant "NotationParse$Chart" (119 : Nat) (1000000 : Int32)) ∈ np_al := List.mem_filter.mpr ⟨List.mem_append_right _ (List.mem_append_right _ (List.mem_append_right _ (List.mem_append_right _ (List.mem_append_left _ (List.mem_of_getElem? (i := 112) rfl))))), rfl⟩
theorem tw_833 : (Jvm.Cond.methodLink "NotationParse$Chart" (120 : Nat) ({ cls := "java/lang/Math", name := "min", desc := "(II)I" } : Jvm.MethodName)) ∈ np_al := List.mem_filter.mpr ⟨List.mem_append_right _ (List.mem_append_right _ (List.mem_append_right _ (List.mem_append_right _ (List.mem_append_left _ (List.mem_of_getElem? (i := 113) rfl))))), rfl⟩
theorem tw_834 : (Jvm.Cond.methodLink "NotationParse$Chart" (101 : Nat) ({ cls := "NotationParse$Chart", name := "countFirstHoles", desc := "(II)V" } : Jvm.MethodName)) ∈ np_al := List.mem_filter.mpr ⟨List.mem_append_right _ (List.mem_append_right _ (List.mem_append_right _ (List.mem_append_right _ (List.mem_append_left _ (List.mem_of_getElem? (i := 114) rfl))))), rfl⟩
theorem tw_836 : (Jvm.Cond.instanceMethod ({ cls := "NotationParse$Chart", name := "countFirstHoles", desc := "(II)V" } : Jvm.MethodName)) ∈ np_al := List.mem_filter.mpr ⟨List.mem_append_right _ (List.mem_append_right _ (List.mem_append_right _ (List.mem_append_right _ (List.mem_append_left _ (List.mem_of_getElem? (i := 116) rfl))))), rfl⟩
theorem tw_837 : (Jvm.Cond.code ({ cls := "NotationParse$Chart", name := "countFirstHoles", desc := "(II)V" } : Jvm.MethodName) prog_2_method_19_code (6 : Nat) (Option.none : Option Jvm.ClassFile.FieldType)) ∈ np_al := List.mem_filter.mpr ⟨List.mem_append_right _ (List.mem_append_right _ (List.mem_append_right _ (List.mem_append_right _ (List.mem_append_left _ (List.mem_of_getElem? (i := 117) rfl))))), rfl⟩
theorem tw_842 : (Jvm.Cond.methodLink "NotationParse$Tree" (57 : Nat) ({ cls := "NotationParse$Tree", name := "await", desc := "(IIII)V" } : Jvm.MethodName)) ∈ np_al := List.mem_filter.mpr ⟨List.mem_append_right _ (List.mem_append_right _ (List.mem_append_right _ (List.mem_append_right _ (List.mem_append_left _ (List.mem_of_getElem? (i := 122) rfl))))), rfl⟩
theorem tw_844 : (Jvm.Cond.instanceMethod ({ cls := "NotationParse$Tree", name := "await", desc := "(IIII)V" } : Jvm.MethodName)) ∈ np_al := List.mem_filter.mpr ⟨List.mem_append_right _ (List.mem_append_right _ (List.mem_append_right _ (List.mem_append_right _ (List.mem_append_left _ (List.mem_of_getElem? (i := 124) rfl))))), rfl⟩
theorem tw_845 : (Jvm.Cond.code ({ cls := "NotationParse$Tree", name := "await", desc := "(IIII)V" } : Jvm.MethodName) prog_7_method_4_code (5 : Nat) (Option.none : Option Jvm.ClassFile.FieldType)) ∈ np_al := List.mem_filter.mpr ⟨List.mem_append_right _ (List.mem_append_right _ (List.mem_append_right _ (List.mem_append_right _ (List.mem_append_left _ (List.mem_of_getElem? (i := 125) rfl))))), rfl⟩
theorem tw_846 : (Jvm.Cond.methodLink "NotationParse$Tree" (61 : Nat) ({ cls := "NotationParse$Tree", name := "growNode", desc := "(III)V" } : Jvm.MethodName)) ∈ np_al := List.mem_filter.mpr ⟨List.mem_append_right _ (List.mem_append_right _ (List.mem_append_right _ (List.mem_append_right _ (List.mem_append_left _ (List.mem_of_getElem? (i := 126) rfl))))), rfl⟩
theorem tw_848 : (Jvm.Cond.instanceMethod ({ cls := "NotationParse$Tree", name := "growNode", desc := "(III)V" } : Jvm.MethodName)) ∈ np_al := List.mem_filter.mpr ⟨List.mem_append_right _ (List.mem_append_right _ (List.mem_append_right _ (List.mem_append_right _ (List.mem_append_left _ (List.mem_of_getElem? (i := 128) rfl))))), rfl⟩
theorem tw_849 : (Jvm.Cond.code ({ cls := "NotationParse$Tree", name := "growNode", desc := "(III)V" } : Jvm.MethodName) prog_7_method_5_code (4 : Nat) (Option.none : Option Jvm.ClassFile.FieldType)) ∈ np_al := List.mem_filter.mpr ⟨List.mem_append_right _ (List.mem_append_right _ (List.mem_append_right _ (List.mem_append_right _ (List.mem_append_left _ (List.mem_of_getElem? (i := 129) rfl))))), rfl⟩
theorem tw_850 : (Jvm.Cond.methodLink "NotationParse$Tree" (65 : Nat) ({ cls := "NotationParse$Chart", name := "onlyRule", desc := "(III)I" } : Jvm.MethodName)) ∈ np_al := List.mem_filter.mpr ⟨List.mem_append_right _ (List.mem_append_right _ (List.mem_append_right _ (List.mem_append_right _ (List.mem_append_left _ (List.mem_of_getElem? (i := 130) rfl))))), rfl⟩
theorem tw_851 : (Jvm.Cond.instanceMethod ({ cls := "NotationParse$Chart", name := "onlyRule", desc := "(III)I" } : Jvm.MethodName)) ∈ np_al := List.mem_filter.mpr ⟨List.mem_append_right _ (List.mem_append_right _ (List.mem_append_right _ (List.mem_append_right _ (List.mem_append_left _ (List.mem_of_getElem? (i := 131) rfl))))), rfl⟩
theorem tw_852 : (Jvm.Cond.selects "NotationParse$Chart" ({ cls := "NotationParse$Chart", name := "onlyRule", desc := "(III)I" } : Jvm.MethodName) ({ cls := "NotationParse$Chart", name := "onlyRule", desc := "(III)I" } : Jvm.MethodName)) ∈ np_al := List.mem_filter.mpr ⟨List.mem_append_right _ (List.mem_append_right _ (List.mem_append_right _ (List.mem_append_right _ (List.mem_append_left _ (List.mem_of_getElem? (i := 132) rfl))))), rfl⟩
theorem tw_853 : (Jvm.Cond.code ({ cls := "NotationParse$Chart", name := "onlyRule", desc := "(III)I" } : Jvm.MethodName) prog_2_method_21_code (5 : Nat) (Option.some Jvm.ClassFile.FieldType.int)) ∈ np_al := List.mem_filter.mpr ⟨List.mem_append_right _ (List.mem_append_right _ (List.mem_append_right _ (List.mem_append_right _ (List.mem_append_left _ (List.mem_of_getElem? (i := 133) rfl))))), rfl⟩
theorem tw_854 : (Jvm.Cond.methodLink "NotationParse$Tree" (71 : Nat) ({ cls := "NotationParse$Tree", name := "awaitHoles", desc := "(III)I" } : Jvm.MethodName)) ∈ np_al := List.mem_filter.mpr ⟨List.mem_append_right _ (List.mem_append_right _ (List.mem_append_right _ (List.mem_append_right _ (List.mem_append_left _ (List.mem_of_getElem? (i := 134) rfl))))), rfl⟩
theorem tw_856 : (Jvm.Cond.instanceMethod ({ cls := "NotationParse$Tree", name := "awaitHoles", desc := "(III)I" } : Jvm.MethodName)) ∈ np_al := List.mem_filter.mpr ⟨List.mem_append_right _ (List.mem_append_right _ (List.mem_append_right _ (List.mem_append_right _ (List.mem_append_left _ (List.mem_of_getElem? (i := 136) rfl))))), rfl⟩
theorem tw_857 : (Jvm.Cond.code ({ cls := "NotationParse$Tree", name := "awaitHoles", desc := "(III)I" } : Jvm.MethodName) prog_7_method_6_code (10 : Nat) (Option.some Jvm.ClassFile.FieldType.int)) ∈ np_al := List.mem_filter.mpr ⟨List.mem_append_right _ (List.mem_append_right _ (List.mem_append_right _ (List.mem_append_right _ (List.mem_append_left _ (List.mem_of_getElem? (i := 137) rfl))))), rfl⟩
theorem tw_858 : (Jvm.Cond.methodLink "NotationParse$Tree" (74 : Nat) ({ cls := "NotationParse$Grammar", name := "lastDot", desc := "(I)I" } : Jvm.MethodName)) ∈ np_al := List.mem_filter.mpr ⟨List.mem_append_right _ (List.mem_append_right _ (List.mem_append_right _ (List.mem_append_right _ (List.mem_append_left _ (List.mem_of_getElem? (i := 138) rfl))))), rfl⟩
theorem tw_859 : (Jvm.Cond.methodLink "NotationParse$Tree" (83 : Nat) ({ cls := "NotationParse$Chart", name := "onlySplit", desc := "(III)I" } : Jvm.MethodName)) ∈ np_al := List.mem_filter.mpr ⟨List.mem_append_right _ (List.mem_append_right _ (List.mem_append_right _ (List.mem_append_right _ (List.mem_append_left _ (List.mem_of_getElem? (i := 139) rfl))))), rfl⟩
theorem tw_860 : (Jvm.Cond.instanceMethod ({ cls := "NotationParse$Chart", name := "onlySplit", desc := "(III)I" } : Jvm.MethodName)) ∈ np_al := List.mem_filter.mpr ⟨List.mem_append_right _ (List.mem_append_right _ (List.mem_append_right _ (List.mem_append_right _ (List.mem_append_left _ (List.mem_of_getElem? (i := 140) rfl))))), rfl⟩
theorem tw_861 : (Jvm.Cond.selects "NotationParse$Chart" ({ cls := "NotationParse$Chart", name := "onlySplit", desc := "(III)I" } : Jvm.MethodName) ({ cls := "NotationParse$Chart", name := "onlySplit", desc := "(III)I" } : Jvm.MethodName)) ∈ np_al := List.mem_filter.mpr ⟨List.mem_append_right _ (List.mem_append_right _ (List.mem_append_right _ (List.mem_append_right _ (List.mem_append_left _ (List.mem_of_getElem? (i := 141) rfl))))), rfl⟩
theorem tw_862 : (Jvm.Cond.code ({ cls := "NotationParse$Chart", name := "onlySplit", desc := "(III)I" } : Jvm.MethodName) prog_2_method_22_code (6 : Nat) (Option.some Jvm.ClassFile.FieldType.int)) ∈ np_al := List.mem_filter.mpr ⟨List.mem_append_right _ (List.mem_append_right _ (List.mem_append_right _ (List.mem_append_right _ (List.mem_append_left _ (List.mem_of_getElem? (i := 142) rfl))))), rfl⟩
theorem tw_895 : (Jvm.Cond.methodLink "NotationParse" (190 : Nat) ({ cls := "NotationParse$Tree", name := "needlessBrackets", desc := "()I" } : Jvm.MethodName)) ∈ np_al := List.mem_filter.mpr ⟨List.mem_append_right _ (List.mem_append_right _ (List.mem_append_right _ (List.mem_append_right _ (List.mem_append_left _ (List.mem_of_getElem? (i := 175) rfl))))), rfl⟩
theorem tw_896 : (Jvm.Cond.instanceMethod ({ cls := "NotationParse$Tree", name := "needlessBrackets", desc := "()I" } : Jvm.MethodName)) ∈ np_al := List.mem_filter.mpr ⟨List.mem_append_right _ (List.mem_append_right _ (List.mem_append_right _ (List.mem_append_right _ (List.mem_append_left _ (List.mem_of_getElem? (i := 176) rfl))))), rfl⟩
theorem tw_897 : (Jvm.Cond.selects "NotationParse$Tree" ({ cls := "NotationParse$Tree", name := "needlessBrackets", desc := "()I" } : Jvm.MethodName) ({ cls := "NotationParse$Tree", name := "needlessBrackets", desc := "()I" } : Jvm.MethodName)) ∈ np_al := List.mem_filter.mpr ⟨List.mem_append_right _ (List.mem_append_right _ (List.mem_append_right _ (List.mem_append_right _ (List.mem_append_left _ (List.mem_of_getElem? (i := 177) rfl))))), rfl⟩
theorem tw_898 : (Jvm.Cond.code ({ cls := "NotationParse$Tree", name := "needlessBrackets", desc := "()I" } : Jvm.MethodName) prog_7_method_7_code (3 : Nat) (Option.some Jvm.ClassFile.FieldType.int)) ∈ np_al := List.mem_filter.mpr ⟨List.mem_append_right _ (List.mem_append_right _ (List.mem_append_right _ (List.mem_append_right _ (List.mem_append_left _ (List.mem_of_getElem? (i := 178) rfl))))), rfl⟩
theorem tw_899 : (Jvm.Cond.methodLink "NotationParse$Tree" (86 : Nat) ({ cls := "NotationParse$Tree", name := "levelWithin", desc := "(I)I" } : Jvm.MethodName)) ∈ np_al := List.mem_filter.mpr ⟨List.mem_append_right _ (List.mem_append_right _ (List.mem_append_right _ (List.mem_append_right _ (List.mem_append_left _ (List.mem_of_getElem? (i := 179) rfl))))), rfl⟩
theorem tw_901 : (Jvm.Cond.instanceMethod ({ cls := "NotationParse$Tree", name := "levelWithin", desc := "(I)I" } : Jvm.MethodName)) ∈ np_al := List.mem_filter.mpr ⟨List.mem_append_right _ (List.mem_append_right _ (List.mem_append_right _ (List.mem_append_right _ (List.mem_append_left _ (List.mem_of_getElem? (i := 181) rfl))))), rfl⟩
theorem tw_902 : (Jvm.Cond.code ({ cls := "NotationParse$Tree", name := "levelWithin", desc := "(I)I" } : Jvm.MethodName) prog_7_method_8_code (3 : Nat) (Option.some Jvm.ClassFile.FieldType.int)) ∈ np_al := List.mem_filter.mpr ⟨List.mem_append_right _ (List.mem_append_right _ (List.mem_append_right _ (List.mem_append_right _ (List.mem_append_left _ (List.mem_of_getElem? (i := 182) rfl))))), rfl⟩
theorem tw_903 : (Jvm.Cond.methodLink "NotationParse" (194 : Nat) ({ cls := "NotationParse$Output", name := "writeWords", desc := "(LNotationParse$Text;I)V" } : Jvm.MethodName)) ∈ np_al := List.mem_filter.mpr ⟨List.mem_append_right _ (List.mem_append_right _ (List.mem_append_right _ (List.mem_append_right _ (List.mem_append_left _ (List.mem_of_getElem? (i := 183) rfl))))), rfl⟩
theorem tw_904 : (Jvm.Cond.instanceMethod ({ cls := "NotationParse$Output", name := "writeWords", desc := "(LNotationParse$Text;I)V" } : Jvm.MethodName)) ∈ np_al := List.mem_filter.mpr ⟨List.mem_append_right _ (List.mem_append_right _ (List.mem_append_right _ (List.mem_append_right _ (List.mem_append_left _ (List.mem_of_getElem? (i := 184) rfl))))), rfl⟩
theorem tw_905 : (Jvm.Cond.selects "NotationParse$Output" ({ cls := "NotationParse$Output", name := "writeWords", desc := "(LNotationParse$Text;I)V" } : Jvm.MethodName) ({ cls := "NotationParse$Output", name := "writeWords", desc := "(LNotationParse$Text;I)V" } : Jvm.MethodName)) ∈ np_al := List.mem_filter.mpr ⟨List.mem_append_right _ (List.mem_append_right _ (List.mem_append_right _ (List.mem_append_right _ (List.mem_append_left _ (List.mem_of_getElem? (i := 185) rfl))))), rfl⟩
theorem tw_906 : (Jvm.Cond.code ({ cls := "NotationParse$Output", name := "writeWords", desc := "(LNotationParse$Text;I)V" } : Jvm.MethodName) prog_4_method_2_code (4 : Nat) (Option.none : Option Jvm.ClassFile.FieldType)) ∈ np_al := List.mem_filter.mpr ⟨List.mem_append_right _ (List.mem_append_right _ (List.mem_append_right _ (List.mem_append_right _ (List.mem_append_left _ (List.mem_of_getElem? (i := 186) rfl))))), rfl⟩
theorem tw_907 : (Jvm.Cond.methodLink "NotationParse$Output" (24 : Nat) ({ cls := "NotationParse$Output", name := "addByte", desc := "(I)V" } : Jvm.MethodName)) ∈ np_al := List.mem_filter.mpr ⟨List.mem_append_right _ (List.mem_append_right _ (List.mem_append_right _ (List.mem_append_right _ (List.mem_append_left _ (List.mem_of_getElem? (i := 187) rfl))))), rfl⟩
theorem tw_909 : (Jvm.Cond.instanceMethod ({ cls := "NotationParse$Output", name := "addByte", desc := "(I)V" } : Jvm.MethodName)) ∈ np_al := List.mem_filter.mpr ⟨List.mem_append_right _ (List.mem_append_right _ (List.mem_append_right _ (List.mem_append_right _ (List.mem_append_left _ (List.mem_of_getElem? (i := 189) rfl))))), rfl⟩
theorem tw_910 : (Jvm.Cond.code ({ cls := "NotationParse$Output", name := "addByte", desc := "(I)V" } : Jvm.MethodName) prog_4_method_4_code (2 : Nat) (Option.none : Option Jvm.ClassFile.FieldType)) ∈ np_al := List.mem_filter.mpr ⟨List.mem_append_right _ (List.mem_append_right _ (List.mem_append_right _ (List.mem_append_right _ (List.mem_append_left _ (List.mem_of_getElem? (i := 190) rfl))))), rfl⟩
theorem tw_911 : (Jvm.Cond.methodLink "NotationParse$Output" (32 : Nat) ({ cls := "NotationParse$Output", name := "writeWord", desc := "(J)V" } : Jvm.MethodName)) ∈ np_al := List.mem_filter.mpr ⟨List.mem_append_right _ (List.mem_append_right _ (List.mem_append_right _ (List.mem_append_right _ (List.mem_append_left _ (List.mem_of_getElem? (i := 191) rfl))))), rfl⟩
theorem tw_913 : (Jvm.Cond.instanceMethod ({ cls := "NotationParse$Output", name := "writeWord", desc := "(J)V" } : Jvm.MethodName)) ∈ np_al := List.mem_filter.mpr ⟨List.mem_append_right _ (List.mem_append_right _ (List.mem_append_right _ (List.mem_append_right _ (List.mem_append_left _ (List.mem_of_getElem? (i := 193) rfl))))), rfl⟩
theorem tw_914 : (Jvm.Cond.code ({ cls := "NotationParse$Output", name := "writeWord", desc := "(J)V" } : Jvm.MethodName) prog_4_method_3_code (5 : Nat) (Option.none : Option Jvm.ClassFile.FieldType)) ∈ np_al := List.mem_filter.mpr ⟨List.mem_append_right _ (List.mem_append_right _ (List.mem_append_right _ (List.mem_append_right _ (List.mem_append_left _ (List.mem_of_getElem? (i := 194) rfl))))), rfl⟩
theorem tw_915 : (Jvm.Cond.methodLink "NotationParse$Output" (36 : Nat) ({ cls := "NotationParse$Spelling", name := "byteOf", desc := "(JI)I" } : Jvm.MethodName)) ∈ np_al := List.mem_filter.mpr ⟨List.mem_append_right _ (List.mem_append_right _ (List.mem_append_right _ (List.mem_append_right _ (List.mem_append_left _ (List.mem_of_getElem? (i := 195) rfl))))), rfl⟩
def F_N : u_T := fun k => match k with
  | 0 => ("NotationParse", "grammar", "LNotationParse$Grammar;", true)
  | 1 => ("NotationParse", "text", "LNotationParse$Text;", true)
  | 2 => ("NotationParse", "chart", "LNotationParse$Chart;", true)
  | 3 => ("NotationParse", "tree", "LNotationParse$Tree;", true)
  | 4 => ("NotationParse", "output", "LNotationParse$Output;", true)
  | 5 => ("NotationParse", "faultKind", "I", false)
  | _ => ("NotationParse", "faultPlace", "I", false)
def t_N : Nat → FieldType := fun k => match k with
  | 0 => (.object "NotationParse$Grammar")
  | 1 => (.object "NotationParse$Text")
  | 2 => (.object "NotationParse$Chart")
  | 3 => (.object "NotationParse$Tree")
  | 4 => (.object "NotationParse$Output")
  | 5 => .int
  | _ => .int
theorem n_N : ∀ a, a < 7 → ∀ b, b < 7 → a ≠ b → (F_N a).2.1 ≠ (F_N b).2.1 := by decide +kernel
theorem tok_N : ∀ k, k < 7 → parseFieldDescriptor (F_N k).2.2.1 = some (t_N k) := by decide +kernel
theorem i_N : ∀ w ∈ u_ws "NotationParse" F_N 7, w ∈ np_al := np_subm [261, 263, 265, 267, 269, 271, 273] (by decide +kernel) (by decide +kernel)
def F_Grammar : u_T := fun k => match k with
  | 0 => ("NotationParse$Grammar", "holes", "[I", true)
  | 1 => ("NotationParse$Grammar", "words", "[J", true)
  | 2 => ("NotationParse$Grammar", "levels", "[I", true)
  | 3 => ("NotationParse$Grammar", "lengths", "[I", true)
  | 4 => ("NotationParse$Grammar", "rules", "I", false)
  | _ => ("NotationParse$Grammar", "inHand", "I", false)
def t_Grammar : Nat → FieldType := fun k => match k with
  | 0 => .array .int
  | 1 => .array .long
  | 2 => .array .int
  | 3 => .array .int
  | 4 => .int
  | _ => .int
theorem n_Grammar : ∀ a, a < 6 → ∀ b, b < 6 → a ≠ b → (F_Grammar a).2.1 ≠ (F_Grammar b).2.1 := by decide +kernel
theorem tok_Grammar : ∀ k, k < 6 → parseFieldDescriptor (F_Grammar k).2.2.1 = some (t_Grammar k) := by decide +kernel
theorem i_Grammar : ∀ w ∈ u_ws "NotationParse$Grammar" F_Grammar 6, w ∈ np_al := np_subm [114, 116, 118, 120, 122, 124] (by decide +kernel) (by decide +kernel)
def F_Text : u_T := fun k => match k with
  | 0 => ("NotationParse$Text", "bytes", "[B", true)
  | 1 => ("NotationParse$Text", "size", "I", false)
  | 2 => ("NotationParse$Text", "codes", "[J", true)
  | 3 => ("NotationParse$Text", "tokens", "[J", true)
  | 4 => ("NotationParse$Text", "places", "[I", true)
  | 5 => ("NotationParse$Text", "words", "I", false)
  | _ => ("NotationParse$Text", "wrongPlace", "I", false)
def t_Text : Nat → FieldType := fun k => match k with
  | 0 => .array .byte
  | 1 => .int
  | 2 => .array .long
  | 3 => .array .long
  | 4 => .array .int
  | 5 => .int
  | _ => .int
theorem n_Text : ∀ a, a < 7 → ∀ b, b < 7 → a ≠ b → (F_Text a).2.1 ≠ (F_Text b).2.1 := by decide +kernel
theorem tok_Text : ∀ k, k < 7 → parseFieldDescriptor (F_Text k).2.2.1 = some (t_Text k) := by decide +kernel
theorem i_Text : ∀ w ∈ u_ws "NotationParse$Text" F_Text 7, w ∈ np_al := np_subm [149, 151, 153, 155, 157, 159, 161] (by decide +kernel) (by decide +kernel)
def F_Chart : u_T := fun k => match k with
  | 0 => ("NotationParse$Chart", "grammar", "LNotationParse$Grammar;", true)
  | 1 => ("NotationParse$Chart", "origins", "[I", true)
  | 2 => ("NotationParse$Chart", "ways", "[I", true)
  | _ => ("NotationParse$Chart", "trees", "[I", true)
def t_Chart : Nat → FieldType := fun k => match k with
  | 0 => (.object "NotationParse$Grammar")
  | 1 => .array .int
  | 2 => .array .int
  | _ => .array .int
theorem n_Chart : ∀ a, a < 4 → ∀ b, b < 4 → a ≠ b → (F_Chart a).2.1 ≠ (F_Chart b).2.1 := by decide +kernel
theorem tok_Chart : ∀ k, k < 4 → parseFieldDescriptor (F_Chart k).2.2.1 = some (t_Chart k) := by decide +kernel
theorem i_Chart : ∀ w ∈ u_ws "NotationParse$Chart" F_Chart 4, w ∈ np_al := np_subm [175, 177, 179, 181] (by decide +kernel) (by decide +kernel)
def F_Tree : u_T := fun k => match k with
  | 0 => ("NotationParse$Tree", "grammar", "LNotationParse$Grammar;", true)
  | 1 => ("NotationParse$Tree", "chart", "LNotationParse$Chart;", true)
  | 2 => ("NotationParse$Tree", "size", "I", false)
  | 3 => ("NotationParse$Tree", "rules", "[I", true)
  | 4 => ("NotationParse$Tree", "children", "[I", true)
  | 5 => ("NotationParse$Tree", "firsts", "[I", true)
  | 6 => ("NotationParse$Tree", "lengths", "[I", true)
  | 7 => ("NotationParse$Tree", "holders", "[I", true)
  | 8 => ("NotationParse$Tree", "wanted", "[I", true)
  | 9 => ("NotationParse$Tree", "waiting", "I", false)
  | 10 => ("NotationParse$Tree", "waitingFrom", "[I", true)
  | 11 => ("NotationParse$Tree", "waitingTo", "[I", true)
  | 12 => ("NotationParse$Tree", "waitingLevel", "[I", true)
  | _ => ("NotationParse$Tree", "waitingHolder", "[I", true)
def t_Tree : Nat → FieldType := fun k => match k with
  | 0 => (.object "NotationParse$Grammar")
  | 1 => (.object "NotationParse$Chart")
  | 2 => .int
  | 3 => .array .int
  | 4 => .array .int
  | 5 => .array .int
  | 6 => .array .int
  | 7 => .array .int
  | 8 => .array .int
  | 9 => .int
  | 10 => .array .int
  | 11 => .array .int
  | 12 => .array .int
  | _ => .array .int
theorem n_Tree : ∀ a, a < 14 → ∀ b, b < 14 → a ≠ b → (F_Tree a).2.1 ≠ (F_Tree b).2.1 := by decide +kernel
theorem tok_Tree : ∀ k, k < 14 → parseFieldDescriptor (F_Tree k).2.2.1 = some (t_Tree k) := by decide +kernel
theorem i_Tree : ∀ w ∈ u_ws "NotationParse$Tree" F_Tree 14, w ∈ np_al := np_subm [210, 212, 214, 216, 218, 220, 222, 224, 226, 228, 230, 232, 234, 236] (by decide +kernel) (by decide +kernel)
def F_Output : u_T := fun k => match k with
  | 0 => ("NotationParse$Output", "bytes", "[B", true)
  | _ => ("NotationParse$Output", "size", "I", false)
def t_Output : Nat → FieldType := fun k => match k with
  | 0 => .array .byte
  | _ => .int
theorem n_Output : ∀ a, a < 2 → ∀ b, b < 2 → a ≠ b → (F_Output a).2.1 ≠ (F_Output b).2.1 := by decide +kernel
theorem tok_Output : ∀ k, k < 2 → parseFieldDescriptor (F_Output k).2.2.1 = some (t_Output k) := by decide +kernel
theorem i_Output : ∀ w ∈ u_ws "NotationParse$Output" F_Output 2, w ∈ np_al := np_subm [249, 251] (by decide +kernel) (by decide +kernel)
abbrev np_cl : List vw_C := [("NotationParse", F_N, 7), ("NotationParse$Grammar", F_Grammar, 6), ("NotationParse$Text", F_Text, 7), ("NotationParse$Chart", F_Chart, 4), ("NotationParse$Tree", F_Tree, 14), ("NotationParse$Output", F_Output, 2)]
end
section
def nc_wd (q : Nat → Nat) (cI cL cB : ClassId) (σ : np_S) : va_W := [
  (q 0, .inr (0, [.ref (q 1), .ref (q 6), .ref (q 11), .ref (q 15), .ref (q 26), .int (np_i (σ 0 5)), .int (np_i (σ 0 6))])),
  (q 1, .inr (1, [.ref (q 2), .ref (q 3), .ref (q 4), .ref (q 5), .int (np_i (σ 1 4)), .int (np_i (σ 1 5))])),
  (q 2, .inl (cI, 105, .inl (fun i => np_i (σ 2 i)))),
  (q 3, .inl (cL, 105, .inr (.inl (fun i => np_l (σ 3 i))))),
  (q 4, .inl (cI, 14, .inl (fun i => np_i (σ 4 i)))),
  (q 5, .inl (cI, 14, .inl (fun i => np_i (σ 5 i)))),
  (q 6, .inr (2, [.ref (q 7), .int (np_i (σ 6 1)), .ref (q 8), .ref (q 9), .ref (q 10), .int (np_i (σ 6 5)), .int (np_i (σ 6 6))])),
  (q 7, .inl (cB, 200, .inl (fun i => np_i (σ 7 i)))),
  (q 8, .inl (cL, 30, .inr (.inl (fun i => np_l (σ 8 i))))),
  (q 9, .inl (cL, 30, .inr (.inl (fun i => np_l (σ 9 i))))),
  (q 10, .inl (cI, 30, .inl (fun i => np_i (σ 10 i)))),
  (q 11, .inr (3, [.ref (q 1), .ref (q 12), .ref (q 13), .ref (q 14)])),
  (q 12, .inl (cI, 3038, .inl (fun i => np_i (σ 12 i)))),
  (q 13, .inl (cI, 3038, .inl (fun i => np_i (σ 13 i)))),
  (q 14, .inl (cI, 5115, .inl (fun i => np_i (σ 14 i)))),
  (q 15, .inr (4, [.ref (q 1), .ref (q 11), .int (np_i (σ 15 2)), .ref (q 16), .ref (q 17), .ref (q 18), .ref (q 19), .ref (q 20), .ref (q 21), .int (np_i (σ 15 9)), .ref (q 22), .ref (q 23), .ref (q 24), .ref (q 25)])),
  (q 16, .inl (cI, 30, .inl (fun i => np_i (σ 16 i)))),
  (q 17, .inl (cI, 30, .inl (fun i => np_i (σ 17 i)))),
  (q 18, .inl (cI, 30, .inl (fun i => np_i (σ 18 i)))),
  (q 19, .inl (cI, 30, .inl (fun i => np_i (σ 19 i)))),
  (q 20, .inl (cI, 30, .inl (fun i => np_i (σ 20 i)))),
  (q 21, .inl (cI, 30, .inl (fun i => np_i (σ 21 i)))),
  (q 22, .inl (cI, 30, .inl (fun i => np_i (σ 22 i)))),
  (q 23, .inl (cI, 30, .inl (fun i => np_i (σ 23 i)))),
  (q 24, .inl (cI, 30, .inl (fun i => np_i (σ 24 i)))),
  (q 25, .inl (cI, 30, .inl (fun i => np_i (σ 25 i)))),
  (q 26, .inr (5, [.ref (q 27), .int (np_i (σ 26 1))])),
  (q 27, .inl (cB, 230, .inl (fun i => np_i (σ 27 i))))]
section NCW
variable {q : Nat → Nat} {cI cL cB : ClassId}
theorem nc_o0 (σ : np_S) : (nc_wd q cI cL cB σ)[0]? = some (q 0, .inr (0, [.ref (q 1), .ref (q 6), .ref (q 11), .ref (q 15), .ref (q 26), .int (np_i (σ 0 5)), .int (np_i (σ 0 6))])) := rfl
theorem nc_s0_5 (σ : np_S) (x : Int) : (nc_wd q cI cL cB σ).set 0 (q 0, .inr (0, List.set [.ref (q 1), .ref (q 6), .ref (q 11), .ref (q 15), .ref (q 26), .int (np_i (σ 0 5)), .int (np_i (σ 0 6))] 5 (.int (np_i x)))) = nc_wd q cI cL cB (np_st σ 0 5 x) := rfl
theorem nc_s0_6 (σ : np_S) (x : Int) : (nc_wd q cI cL cB σ).set 0 (q 0, .inr (0, List.set [.ref (q 1), .ref (q 6), .ref (q 11), .ref (q 15), .ref (q 26), .int (np_i (σ 0 5)), .int (np_i (σ 0 6))] 6 (.int (np_i x)))) = nc_wd q cI cL cB (np_st σ 0 6 x) := rfl
theorem nc_o1 (σ : np_S) : (nc_wd q cI cL cB σ)[1]? = some (q 1, .inr (1, [.ref (q 2), .ref (q 3), .ref (q 4), .ref (q 5), .int (np_i (σ 1 4)), .int (np_i (σ 1 5))])) := rfl
theorem nc_s1_4 (σ : np_S) (x : Int) : (nc_wd q cI cL cB σ).set 1 (q 1, .inr (1, List.set [.ref (q 2), .ref (q 3), .ref (q 4), .ref (q 5), .int (np_i (σ 1 4)), .int (np_i (σ 1 5))] 4 (.int (np_i x)))) = nc_wd q cI cL cB (np_st σ 1 4 x) := rfl
theorem nc_s1_5 (σ : np_S) (x : Int) : (nc_wd q cI cL cB σ).set 1 (q 1, .inr (1, List.set [.ref (q 2), .ref (q 3), .ref (q 4), .ref (q 5), .int (np_i (σ 1 4)), .int (np_i (σ 1 5))] 5 (.int (np_i x)))) = nc_wd q cI cL cB (np_st σ 1 5 x) := rfl
theorem nc_a2 (σ : np_S) : (nc_wd q cI cL cB σ)[2]? = some (q 2, .inl (cI, 105, .inl (fun i => np_i (σ 2 i)))) := rfl
theorem nc_s2 (σ : np_S) (j x : Int) : (nc_wd q cI cL cB σ).set 2 (q 2, .inl (cI, 105, .inl (fun i : Nat => np_i (if (i : Int) = j then x else σ 2 i)))) = nc_wd q cI cL cB (np_st σ 2 j x) := rfl
theorem nc_a3 (σ : np_S) : (nc_wd q cI cL cB σ)[3]? = some (q 3, .inl (cL, 105, .inr (.inl (fun i => np_l (σ 3 i))))) := rfl
theorem nc_s3 (σ : np_S) (j x : Int) : (nc_wd q cI cL cB σ).set 3 (q 3, .inl (cL, 105, .inr (.inl (fun i : Nat => np_l (if (i : Int) = j then x else σ 3 i))))) = nc_wd q cI cL cB (np_st σ 3 j x) := rfl
theorem nc_a4 (σ : np_S) : (nc_wd q cI cL cB σ)[4]? = some (q 4, .inl (cI, 14, .inl (fun i => np_i (σ 4 i)))) := rfl
theorem nc_s4 (σ : np_S) (j x : Int) : (nc_wd q cI cL cB σ).set 4 (q 4, .inl (cI, 14, .inl (fun i : Nat => np_i (if (i : Int) = j then x else σ 4 i)))) = nc_wd q cI cL cB (np_st σ 4 j x) := rfl
theorem nc_a5 (σ : np_S) : (nc_wd q cI cL cB σ)[5]? = some (q 5, .inl (cI, 14, .inl (fun i => np_i (σ 5 i)))) := rfl
theorem nc_s5 (σ : np_S) (j x : Int) : (nc_wd q cI cL cB σ).set 5 (q 5, .inl (cI, 14, .inl (fun i : Nat => np_i (if (i : Int) = j then x else σ 5 i)))) = nc_wd q cI cL cB (np_st σ 5 j x) := rfl
theorem nc_o6 (σ : np_S) : (nc_wd q cI cL cB σ)[6]? = some (q 6, .inr (2, [.ref (q 7), .int (np_i (σ 6 1)), .ref (q 8), .ref (q 9), .ref (q 10), .int (np_i (σ 6 5)), .int (np_i (σ 6 6))])) := rfl
theorem nc_s6_1 (σ : np_S) (x : Int) : (nc_wd q cI cL cB σ).set 6 (q 6, .inr (2, List.set [.ref (q 7), .int (np_i (σ 6 1)), .ref (q 8), .ref (q 9), .ref (q 10), .int (np_i (σ 6 5)), .int (np_i (σ 6 6))] 1 (.int (np_i x)))) = nc_wd q cI cL cB (np_st σ 6 1 x) := rfl
theorem nc_s6_5 (σ : np_S) (x : Int) : (nc_wd q cI cL cB σ).set 6 (q 6, .inr (2, List.set [.ref (q 7), .int (np_i (σ 6 1)), .ref (q 8), .ref (q 9), .ref (q 10), .int (np_i (σ 6 5)), .int (np_i (σ 6 6))] 5 (.int (np_i x)))) = nc_wd q cI cL cB (np_st σ 6 5 x) := rfl
theorem nc_s6_6 (σ : np_S) (x : Int) : (nc_wd q cI cL cB σ).set 6 (q 6, .inr (2, List.set [.ref (q 7), .int (np_i (σ 6 1)), .ref (q 8), .ref (q 9), .ref (q 10), .int (np_i (σ 6 5)), .int (np_i (σ 6 6))] 6 (.int (np_i x)))) = nc_wd q cI cL cB (np_st σ 6 6 x) := rfl
theorem nc_a7 (σ : np_S) : (nc_wd q cI cL cB σ)[7]? = some (q 7, .inl (cB, 200, .inl (fun i => np_i (σ 7 i)))) := rfl
theorem nc_s7 (σ : np_S) (j x : Int) : (nc_wd q cI cL cB σ).set 7 (q 7, .inl (cB, 200, .inl (fun i : Nat => np_i (if (i : Int) = j then x else σ 7 i)))) = nc_wd q cI cL cB (np_st σ 7 j x) := rfl
theorem nc_a8 (σ : np_S) : (nc_wd q cI cL cB σ)[8]? = some (q 8, .inl (cL, 30, .inr (.inl (fun i => np_l (σ 8 i))))) := rfl
theorem nc_s8 (σ : np_S) (j x : Int) : (nc_wd q cI cL cB σ).set 8 (q 8, .inl (cL, 30, .inr (.inl (fun i : Nat => np_l (if (i : Int) = j then x else σ 8 i))))) = nc_wd q cI cL cB (np_st σ 8 j x) := rfl
theorem nc_a9 (σ : np_S) : (nc_wd q cI cL cB σ)[9]? = some (q 9, .inl (cL, 30, .inr (.inl (fun i => np_l (σ 9 i))))) := rfl
theorem nc_s9 (σ : np_S) (j x : Int) : (nc_wd q cI cL cB σ).set 9 (q 9, .inl (cL, 30, .inr (.inl (fun i : Nat => np_l (if (i : Int) = j then x else σ 9 i))))) = nc_wd q cI cL cB (np_st σ 9 j x) := rfl
theorem nc_a10 (σ : np_S) : (nc_wd q cI cL cB σ)[10]? = some (q 10, .inl (cI, 30, .inl (fun i => np_i (σ 10 i)))) := rfl
theorem nc_s10 (σ : np_S) (j x : Int) : (nc_wd q cI cL cB σ).set 10 (q 10, .inl (cI, 30, .inl (fun i : Nat => np_i (if (i : Int) = j then x else σ 10 i)))) = nc_wd q cI cL cB (np_st σ 10 j x) := rfl
theorem nc_o11 (σ : np_S) : (nc_wd q cI cL cB σ)[11]? = some (q 11, .inr (3, [.ref (q 1), .ref (q 12), .ref (q 13), .ref (q 14)])) := rfl
theorem nc_a12 (σ : np_S) : (nc_wd q cI cL cB σ)[12]? = some (q 12, .inl (cI, 3038, .inl (fun i => np_i (σ 12 i)))) := rfl
theorem nc_s12 (σ : np_S) (j x : Int) : (nc_wd q cI cL cB σ).set 12 (q 12, .inl (cI, 3038, .inl (fun i : Nat => np_i (if (i : Int) = j then x else σ 12 i)))) = nc_wd q cI cL cB (np_st σ 12 j x) := rfl
theorem nc_a13 (σ : np_S) : (nc_wd q cI cL cB σ)[13]? = some (q 13, .inl (cI, 3038, .inl (fun i => np_i (σ 13 i)))) := rfl
theorem nc_s13 (σ : np_S) (j x : Int) : (nc_wd q cI cL cB σ).set 13 (q 13, .inl (cI, 3038, .inl (fun i : Nat => np_i (if (i : Int) = j then x else σ 13 i)))) = nc_wd q cI cL cB (np_st σ 13 j x) := rfl
theorem nc_a14 (σ : np_S) : (nc_wd q cI cL cB σ)[14]? = some (q 14, .inl (cI, 5115, .inl (fun i => np_i (σ 14 i)))) := rfl
theorem nc_s14 (σ : np_S) (j x : Int) : (nc_wd q cI cL cB σ).set 14 (q 14, .inl (cI, 5115, .inl (fun i : Nat => np_i (if (i : Int) = j then x else σ 14 i)))) = nc_wd q cI cL cB (np_st σ 14 j x) := rfl
theorem nc_o15 (σ : np_S) : (nc_wd q cI cL cB σ)[15]? = some (q 15, .inr (4, [.ref (q 1), .ref (q 11), .int (np_i (σ 15 2)), .ref (q 16), .ref (q 17), .ref (q 18), .ref (q 19), .ref (q 20), .ref (q 21), .int (np_i (σ 15 9)), .ref (q 22), .ref (q 23), .ref (q 24), .ref (q 25)])) := rfl
theorem nc_s15_2 (σ : np_S) (x : Int) : (nc_wd q cI cL cB σ).set 15 (q 15, .inr (4, List.set [.ref (q 1), .ref (q 11), .int (np_i (σ 15 2)), .ref (q 16), .ref (q 17), .ref (q 18), .ref (q 19), .ref (q 20), .ref (q 21), .int (np_i (σ 15 9)), .ref (q 22), .ref (q 23), .ref (q 24), .ref (q 25)] 2 (.int (np_i x)))) = nc_wd q cI cL cB (np_st σ 15 2 x) := rfl
theorem nc_s15_9 (σ : np_S) (x : Int) : (nc_wd q cI cL cB σ).set 15 (q 15, .inr (4, List.set [.ref (q 1), .ref (q 11), .int (np_i (σ 15 2)), .ref (q 16), .ref (q 17), .ref (q 18), .ref (q 19), .ref (q 20), .ref (q 21), .int (np_i (σ 15 9)), .ref (q 22), .ref (q 23), .ref (q 24), .ref (q 25)] 9 (.int (np_i x)))) = nc_wd q cI cL cB (np_st σ 15 9 x) := rfl
theorem nc_a16 (σ : np_S) : (nc_wd q cI cL cB σ)[16]? = some (q 16, .inl (cI, 30, .inl (fun i => np_i (σ 16 i)))) := rfl
theorem nc_s16 (σ : np_S) (j x : Int) : (nc_wd q cI cL cB σ).set 16 (q 16, .inl (cI, 30, .inl (fun i : Nat => np_i (if (i : Int) = j then x else σ 16 i)))) = nc_wd q cI cL cB (np_st σ 16 j x) := rfl
theorem nc_a17 (σ : np_S) : (nc_wd q cI cL cB σ)[17]? = some (q 17, .inl (cI, 30, .inl (fun i => np_i (σ 17 i)))) := rfl
theorem nc_s17 (σ : np_S) (j x : Int) : (nc_wd q cI cL cB σ).set 17 (q 17, .inl (cI, 30, .inl (fun i : Nat => np_i (if (i : Int) = j then x else σ 17 i)))) = nc_wd q cI cL cB (np_st σ 17 j x) := rfl
theorem nc_a18 (σ : np_S) : (nc_wd q cI cL cB σ)[18]? = some (q 18, .inl (cI, 30, .inl (fun i => np_i (σ 18 i)))) := rfl
theorem nc_s18 (σ : np_S) (j x : Int) : (nc_wd q cI cL cB σ).set 18 (q 18, .inl (cI, 30, .inl (fun i : Nat => np_i (if (i : Int) = j then x else σ 18 i)))) = nc_wd q cI cL cB (np_st σ 18 j x) := rfl
theorem nc_a19 (σ : np_S) : (nc_wd q cI cL cB σ)[19]? = some (q 19, .inl (cI, 30, .inl (fun i => np_i (σ 19 i)))) := rfl
theorem nc_s19 (σ : np_S) (j x : Int) : (nc_wd q cI cL cB σ).set 19 (q 19, .inl (cI, 30, .inl (fun i : Nat => np_i (if (i : Int) = j then x else σ 19 i)))) = nc_wd q cI cL cB (np_st σ 19 j x) := rfl
theorem nc_a20 (σ : np_S) : (nc_wd q cI cL cB σ)[20]? = some (q 20, .inl (cI, 30, .inl (fun i => np_i (σ 20 i)))) := rfl
theorem nc_s20 (σ : np_S) (j x : Int) : (nc_wd q cI cL cB σ).set 20 (q 20, .inl (cI, 30, .inl (fun i : Nat => np_i (if (i : Int) = j then x else σ 20 i)))) = nc_wd q cI cL cB (np_st σ 20 j x) := rfl
theorem nc_a21 (σ : np_S) : (nc_wd q cI cL cB σ)[21]? = some (q 21, .inl (cI, 30, .inl (fun i => np_i (σ 21 i)))) := rfl
theorem nc_s21 (σ : np_S) (j x : Int) : (nc_wd q cI cL cB σ).set 21 (q 21, .inl (cI, 30, .inl (fun i : Nat => np_i (if (i : Int) = j then x else σ 21 i)))) = nc_wd q cI cL cB (np_st σ 21 j x) := rfl
theorem nc_a22 (σ : np_S) : (nc_wd q cI cL cB σ)[22]? = some (q 22, .inl (cI, 30, .inl (fun i => np_i (σ 22 i)))) := rfl
theorem nc_s22 (σ : np_S) (j x : Int) : (nc_wd q cI cL cB σ).set 22 (q 22, .inl (cI, 30, .inl (fun i : Nat => np_i (if (i : Int) = j then x else σ 22 i)))) = nc_wd q cI cL cB (np_st σ 22 j x) := rfl
theorem nc_a23 (σ : np_S) : (nc_wd q cI cL cB σ)[23]? = some (q 23, .inl (cI, 30, .inl (fun i => np_i (σ 23 i)))) := rfl
theorem nc_s23 (σ : np_S) (j x : Int) : (nc_wd q cI cL cB σ).set 23 (q 23, .inl (cI, 30, .inl (fun i : Nat => np_i (if (i : Int) = j then x else σ 23 i)))) = nc_wd q cI cL cB (np_st σ 23 j x) := rfl
theorem nc_a24 (σ : np_S) : (nc_wd q cI cL cB σ)[24]? = some (q 24, .inl (cI, 30, .inl (fun i => np_i (σ 24 i)))) := rfl
theorem nc_s24 (σ : np_S) (j x : Int) : (nc_wd q cI cL cB σ).set 24 (q 24, .inl (cI, 30, .inl (fun i : Nat => np_i (if (i : Int) = j then x else σ 24 i)))) = nc_wd q cI cL cB (np_st σ 24 j x) := rfl
theorem nc_a25 (σ : np_S) : (nc_wd q cI cL cB σ)[25]? = some (q 25, .inl (cI, 30, .inl (fun i => np_i (σ 25 i)))) := rfl
theorem nc_s25 (σ : np_S) (j x : Int) : (nc_wd q cI cL cB σ).set 25 (q 25, .inl (cI, 30, .inl (fun i : Nat => np_i (if (i : Int) = j then x else σ 25 i)))) = nc_wd q cI cL cB (np_st σ 25 j x) := rfl
theorem nc_o26 (σ : np_S) : (nc_wd q cI cL cB σ)[26]? = some (q 26, .inr (5, [.ref (q 27), .int (np_i (σ 26 1))])) := rfl
theorem nc_s26_1 (σ : np_S) (x : Int) : (nc_wd q cI cL cB σ).set 26 (q 26, .inr (5, List.set [.ref (q 27), .int (np_i (σ 26 1))] 1 (.int (np_i x)))) = nc_wd q cI cL cB (np_st σ 26 1 x) := rfl
theorem nc_a27 (σ : np_S) : (nc_wd q cI cL cB σ)[27]? = some (q 27, .inl (cB, 230, .inl (fun i => np_i (σ 27 i)))) := rfl
theorem nc_s27 (σ : np_S) (j x : Int) : (nc_wd q cI cL cB σ).set 27 (q 27, .inl (cB, 230, .inl (fun i : Nat => np_i (if (i : Int) = j then x else σ 27 i)))) = nc_wd q cI cL cB (np_st σ 27 j x) := rfl
end NCW
end
