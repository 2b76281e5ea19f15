section
-- ===== PART A: goes FIRST, ahead of the names: the tables' words, and 'selects' of the private methods out of them =====
/-- a private method of a class that the tables say can be made, by its rows of tables_1 -/
def lw_okq (q : MethodName × Nat) : Prop := (q.1.cls ≠ "java/lang/invoke/MethodHandle" ∧ q.1.cls ≠ "java/lang/invoke/VarHandle") ∧ Cond.instantiable q.1.cls q.2 ∈ tables_1 ∧ Cond.privateMethod q.1 ∈ tables_1 ∧ Cond.instanceMethod q.1 ∈ tables_1
theorem lw_p0 : lw_okq (⟨"java/lang/Throwable", "fillInStackTrace", "(I)Ljava/lang/Throwable;"⟩, 6) := ⟨⟨by decide +kernel, by decide +kernel⟩, List.mem_of_getElem? (i := 411) (by decide +kernel), List.mem_of_getElem? (i := 409) (by decide +kernel), List.mem_of_getElem? (i := 410) (by decide +kernel)⟩
theorem lw_p1 : lw_okq (⟨"NotationParse$Text", "kindAt", "(I)I"⟩, 7) := ⟨⟨by decide +kernel, by decide +kernel⟩, List.mem_of_getElem? (i := 80) (by decide +kernel), List.mem_of_getElem? (i := 728) (by decide +kernel), List.mem_of_getElem? (i := 729) (by decide +kernel)⟩
theorem lw_p2 : lw_okq (⟨"NotationParse$Text", "endOfRow", "(II)I"⟩, 7) := ⟨⟨by decide +kernel, by decide +kernel⟩, List.mem_of_getElem? (i := 80) (by decide +kernel), List.mem_of_getElem? (i := 733) (by decide +kernel), List.mem_of_getElem? (i := 734) (by decide +kernel)⟩
theorem lw_p3 : lw_okq (⟨"NotationParse$Text", "takeRow", "(IIILNotationParse$Grammar;)V"⟩, 7) := ⟨⟨by decide +kernel, by decide +kernel⟩, List.mem_of_getElem? (i := 80) (by decide +kernel), List.mem_of_getElem? (i := 737) (by decide +kernel), List.mem_of_getElem? (i := 738) (by decide +kernel)⟩
theorem lw_p4 : lw_okq (⟨"NotationParse", "findFault", "()V"⟩, 7) := ⟨⟨by decide +kernel, by decide +kernel⟩, List.mem_of_getElem? (i := 28) (by decide +kernel), List.mem_of_getElem? (i := 742) (by decide +kernel), List.mem_of_getElem? (i := 743) (by decide +kernel)⟩
theorem lw_p5 : lw_okq (⟨"NotationParse$Chart", "emptyRow", "(I)V"⟩, 4) := ⟨⟨by decide +kernel, by decide +kernel⟩, List.mem_of_getElem? (i := 116) (by decide +kernel), List.mem_of_getElem? (i := 750) (by decide +kernel), List.mem_of_getElem? (i := 751) (by decide +kernel)⟩
theorem lw_p6 : lw_okq (⟨"NotationParse$Chart", "predict", "(II)V"⟩, 4) := ⟨⟨by decide +kernel, by decide +kernel⟩, List.mem_of_getElem? (i := 116) (by decide +kernel), List.mem_of_getElem? (i := 755) (by decide +kernel), List.mem_of_getElem? (i := 756) (by decide +kernel)⟩
theorem lw_p7 : lw_okq (⟨"NotationParse$Chart", "leastFirstHole", "(I)I"⟩, 4) := ⟨⟨by decide +kernel, by decide +kernel⟩, List.mem_of_getElem? (i := 116) (by decide +kernel), List.mem_of_getElem? (i := 759) (by decide +kernel), List.mem_of_getElem? (i := 760) (by decide +kernel)⟩
theorem lw_p8 : lw_okq (⟨"NotationParse$Chart", "scan", "(IJ)Z"⟩, 4) := ⟨⟨by decide +kernel, by decide +kernel⟩, List.mem_of_getElem? (i := 116) (by decide +kernel), List.mem_of_getElem? (i := 763) (by decide +kernel), List.mem_of_getElem? (i := 764) (by decide +kernel)⟩
theorem lw_p9 : lw_okq (⟨"NotationParse$Chart", "complete", "(I)V"⟩, 4) := ⟨⟨by decide +kernel, by decide +kernel⟩, List.mem_of_getElem? (i := 116) (by decide +kernel), List.mem_of_getElem? (i := 768) (by decide +kernel), List.mem_of_getElem? (i := 769) (by decide +kernel)⟩
theorem lw_p10 : lw_okq (⟨"NotationParse$Chart", "highestTerm", "(II)I"⟩, 4) := ⟨⟨by decide +kernel, by decide +kernel⟩, List.mem_of_getElem? (i := 116) (by decide +kernel), List.mem_of_getElem? (i := 772) (by decide +kernel), List.mem_of_getElem? (i := 773) (by decide +kernel)⟩
theorem lw_p11 : lw_okq (⟨"NotationParse$Chart", "isReached", "(III)Z"⟩, 4) := ⟨⟨by decide +kernel, by decide +kernel⟩, List.mem_of_getElem? (i := 116) (by decide +kernel), List.mem_of_getElem? (i := 780) (by decide +kernel), List.mem_of_getElem? (i := 781) (by decide +kernel)⟩
theorem lw_p12 : lw_okq (⟨"NotationParse$Chart", "fillHoles", "(III)V"⟩, 4) := ⟨⟨by decide +kernel, by decide +kernel⟩, List.mem_of_getElem? (i := 116) (by decide +kernel), List.mem_of_getElem? (i := 784) (by decide +kernel), List.mem_of_getElem? (i := 785) (by decide +kernel)⟩
theorem lw_p13 : lw_okq (⟨"NotationParse$Chart", "leastWanted", "(I)I"⟩, 4) := ⟨⟨by decide +kernel, by decide +kernel⟩, List.mem_of_getElem? (i := 116) (by decide +kernel), List.mem_of_getElem? (i := 788) (by decide +kernel), List.mem_of_getElem? (i := 789) (by decide +kernel)⟩
theorem lw_p14 : lw_okq (⟨"NotationParse", "noteFault", "(II)V"⟩, 7) := ⟨⟨by decide +kernel, by decide +kernel⟩, List.mem_of_getElem? (i := 28) (by decide +kernel), List.mem_of_getElem? (i := 792) (by decide +kernel), List.mem_of_getElem? (i := 793) (by decide +kernel)⟩
theorem lw_p15 : lw_okq (⟨"NotationParse$Chart", "countFrom", "(II)V"⟩, 4) := ⟨⟨by decide +kernel, by decide +kernel⟩, List.mem_of_getElem? (i := 116) (by decide +kernel), List.mem_of_getElem? (i := 805) (by decide +kernel), List.mem_of_getElem? (i := 806) (by decide +kernel)⟩
def lw_privs_1 : List (MethodName × Nat) := [(⟨"java/lang/Throwable", "fillInStackTrace", "(I)Ljava/lang/Throwable;"⟩, 6), (⟨"NotationParse$Text", "kindAt", "(I)I"⟩, 7), (⟨"NotationParse$Text", "endOfRow", "(II)I"⟩, 7), (⟨"NotationParse$Text", "takeRow", "(IIILNotationParse$Grammar;)V"⟩, 7), (⟨"NotationParse", "findFault", "()V"⟩, 7), (⟨"NotationParse$Chart", "emptyRow", "(I)V"⟩, 4), (⟨"NotationParse$Chart", "predict", "(II)V"⟩, 4), (⟨"NotationParse$Chart", "leastFirstHole", "(I)I"⟩, 4), (⟨"NotationParse$Chart", "scan", "(IJ)Z"⟩, 4), (⟨"NotationParse$Chart", "complete", "(I)V"⟩, 4), (⟨"NotationParse$Chart", "highestTerm", "(II)I"⟩, 4), (⟨"NotationParse$Chart", "isReached", "(III)Z"⟩, 4), (⟨"NotationParse$Chart", "fillHoles", "(III)V"⟩, 4), (⟨"NotationParse$Chart", "leastWanted", "(I)I"⟩, 4), (⟨"NotationParse", "noteFault", "(II)V"⟩, 7), (⟨"NotationParse$Chart", "countFrom", "(II)V"⟩, 4)]
theorem lw_r1 : ∀ q ∈ lw_privs_1, lw_okq q := List.forall_mem_cons.mpr ⟨lw_p0, List.forall_mem_cons.mpr ⟨lw_p1, List.forall_mem_cons.mpr ⟨lw_p2, List.forall_mem_cons.mpr ⟨lw_p3, List.forall_mem_cons.mpr ⟨lw_p4, List.forall_mem_cons.mpr ⟨lw_p5, List.forall_mem_cons.mpr ⟨lw_p6, List.forall_mem_cons.mpr ⟨lw_p7, List.forall_mem_cons.mpr ⟨lw_p8, List.forall_mem_cons.mpr ⟨lw_p9, List.forall_mem_cons.mpr ⟨lw_p10, List.forall_mem_cons.mpr ⟨lw_p11, List.forall_mem_cons.mpr ⟨lw_p12, List.forall_mem_cons.mpr ⟨lw_p13, List.forall_mem_cons.mpr ⟨lw_p14, List.forall_mem_cons.mpr ⟨lw_p15, fun _ h => absurd h List.not_mem_nil⟩⟩⟩⟩⟩⟩⟩⟩⟩⟩⟩⟩⟩⟩⟩⟩
theorem lw_p16 : lw_okq (⟨"NotationParse$Chart", "countRule", "(III)V"⟩, 4) := ⟨⟨by decide +kernel, by decide +kernel⟩, List.mem_of_getElem? (i := 116) (by decide +kernel), List.mem_of_getElem? (i := 809) (by decide +kernel), List.mem_of_getElem? (i := 810) (by decide +kernel)⟩
theorem lw_p17 : lw_okq (⟨"NotationParse$Chart", "countSplits", "(IIII)I"⟩, 4) := ⟨⟨by decide +kernel, by decide +kernel⟩, List.mem_of_getElem? (i := 116) (by decide +kernel), List.mem_of_getElem? (i := 813) (by decide +kernel), List.mem_of_getElem? (i := 814) (by decide +kernel)⟩
theorem lw_p18 : lw_okq (⟨"NotationParse$Chart", "cell", "(III)I"⟩, 4) := ⟨⟨by decide +kernel, by decide +kernel⟩, List.mem_of_getElem? (i := 116) (by decide +kernel), List.mem_of_getElem? (i := 817) (by decide +kernel), List.mem_of_getElem? (i := 818) (by decide +kernel)⟩
theorem lw_p19 : lw_okq (⟨"NotationParse$Chart", "sumTerms", "(II)V"⟩, 4) := ⟨⟨by decide +kernel, by decide +kernel⟩, List.mem_of_getElem? (i := 116) (by decide +kernel), List.mem_of_getElem? (i := 825) (by decide +kernel), List.mem_of_getElem? (i := 826) (by decide +kernel)⟩
theorem lw_p20 : lw_okq (⟨"NotationParse$Chart", "addTrees", "(II)V"⟩, 4) := ⟨⟨by decide +kernel, by decide +kernel⟩, List.mem_of_getElem? (i := 116) (by decide +kernel), List.mem_of_getElem? (i := 829) (by decide +kernel), List.mem_of_getElem? (i := 830) (by decide +kernel)⟩
theorem lw_p21 : lw_okq (⟨"NotationParse$Chart", "countFirstHoles", "(II)V"⟩, 4) := ⟨⟨by decide +kernel, by decide +kernel⟩, List.mem_of_getElem? (i := 116) (by decide +kernel), List.mem_of_getElem? (i := 835) (by decide +kernel), List.mem_of_getElem? (i := 836) (by decide +kernel)⟩
theorem lw_p22 : lw_okq (⟨"NotationParse$Tree", "await", "(IIII)V"⟩, 14) := ⟨⟨by decide +kernel, by decide +kernel⟩, List.mem_of_getElem? (i := 135) (by decide +kernel), List.mem_of_getElem? (i := 843) (by decide +kernel), List.mem_of_getElem? (i := 844) (by decide +kernel)⟩
theorem lw_p23 : lw_okq (⟨"NotationParse$Tree", "growNode", "(III)V"⟩, 14) := ⟨⟨by decide +kernel, by decide +kernel⟩, List.mem_of_getElem? (i := 135) (by decide +kernel), List.mem_of_getElem? (i := 847) (by decide +kernel), List.mem_of_getElem? (i := 848) (by decide +kernel)⟩
theorem lw_p24 : lw_okq (⟨"NotationParse$Tree", "awaitHoles", "(III)I"⟩, 14) := ⟨⟨by decide +kernel, by decide +kernel⟩, List.mem_of_getElem? (i := 135) (by decide +kernel), List.mem_of_getElem? (i := 855) (by decide +kernel), List.mem_of_getElem? (i := 856) (by decide +kernel)⟩
theorem lw_p25 : lw_okq (⟨"NotationParse$Tree", "levelWithin", "(I)I"⟩, 14) := ⟨⟨by decide +kernel, by decide +kernel⟩, List.mem_of_getElem? (i := 135) (by decide +kernel), List.mem_of_getElem? (i := 900) (by decide +kernel), List.mem_of_getElem? (i := 901) (by decide +kernel)⟩
theorem lw_p26 : lw_okq (⟨"NotationParse$Output", "addByte", "(I)V"⟩, 2) := ⟨⟨by decide +kernel, by decide +kernel⟩, List.mem_of_getElem? (i := 190) (by decide +kernel), List.mem_of_getElem? (i := 908) (by decide +kernel), List.mem_of_getElem? (i := 909) (by decide +kernel)⟩
theorem lw_p27 : lw_okq (⟨"NotationParse$Output", "writeWord", "(J)V"⟩, 2) := ⟨⟨by decide +kernel, by decide +kernel⟩, List.mem_of_getElem? (i := 190) (by decide +kernel), List.mem_of_getElem? (i := 912) (by decide +kernel), List.mem_of_getElem? (i := 913) (by decide +kernel)⟩
theorem lw_p28 : lw_okq (⟨"NotationParseModel", "part", "(IJ)I"⟩, 31) := ⟨⟨by decide +kernel, by decide +kernel⟩, List.mem_of_getElem? (i := 917) (by decide +kernel), List.mem_of_getElem? (i := 1027) (by decide +kernel), List.mem_of_getElem? (i := 1028) (by decide +kernel)⟩
theorem lw_p29 : lw_okq (⟨"NotationParseModel", "takeWords", "()I"⟩, 31) := ⟨⟨by decide +kernel, by decide +kernel⟩, List.mem_of_getElem? (i := 917) (by decide +kernel), List.mem_of_getElem? (i := 1072) (by decide +kernel), List.mem_of_getElem? (i := 1073) (by decide +kernel)⟩
theorem lw_p30 : lw_okq (⟨"NotationParseModel", "count", "()V"⟩, 31) := ⟨⟨by decide +kernel, by decide +kernel⟩, List.mem_of_getElem? (i := 917) (by decide +kernel), List.mem_of_getElem? (i := 1076) (by decide +kernel), List.mem_of_getElem? (i := 1077) (by decide +kernel)⟩
theorem lw_p31 : lw_okq (⟨"NotationParseModel", "waysOf", "(IIII)I"⟩, 31) := ⟨⟨by decide +kernel, by decide +kernel⟩, List.mem_of_getElem? (i := 917) (by decide +kernel), List.mem_of_getElem? (i := 1083) (by decide +kernel), List.mem_of_getElem? (i := 1084) (by decide +kernel)⟩
def lw_privs_2 : List (MethodName × Nat) := [(⟨"NotationParse$Chart", "countRule", "(III)V"⟩, 4), (⟨"NotationParse$Chart", "countSplits", "(IIII)I"⟩, 4), (⟨"NotationParse$Chart", "cell", "(III)I"⟩, 4), (⟨"NotationParse$Chart", "sumTerms", "(II)V"⟩, 4), (⟨"NotationParse$Chart", "addTrees", "(II)V"⟩, 4), (⟨"NotationParse$Chart", "countFirstHoles", "(II)V"⟩, 4), (⟨"NotationParse$Tree", "await", "(IIII)V"⟩, 14), (⟨"NotationParse$Tree", "growNode", "(III)V"⟩, 14), (⟨"NotationParse$Tree", "awaitHoles", "(III)I"⟩, 14), (⟨"NotationParse$Tree", "levelWithin", "(I)I"⟩, 14), (⟨"NotationParse$Output", "addByte", "(I)V"⟩, 2), (⟨"NotationParse$Output", "writeWord", "(J)V"⟩, 2), (⟨"NotationParseModel", "part", "(IJ)I"⟩, 31), (⟨"NotationParseModel", "takeWords", "()I"⟩, 31), (⟨"NotationParseModel", "count", "()V"⟩, 31), (⟨"NotationParseModel", "waysOf", "(IIII)I"⟩, 31)]
theorem lw_r2 : ∀ q ∈ lw_privs_2, lw_okq q := List.forall_mem_cons.mpr ⟨lw_p16, List.forall_mem_cons.mpr ⟨lw_p17, List.forall_mem_cons.mpr ⟨lw_p18, List.forall_mem_cons.mpr ⟨lw_p19, List.forall_mem_cons.mpr ⟨lw_p20, List.forall_mem_cons.mpr ⟨lw_p21, List.forall_mem_cons.mpr ⟨lw_p22, List.forall_mem_cons.mpr ⟨lw_p23, List.forall_mem_cons.mpr ⟨lw_p24, List.forall_mem_cons.mpr ⟨lw_p25, List.forall_mem_cons.mpr ⟨lw_p26, List.forall_mem_cons.mpr ⟨lw_p27, List.forall_mem_cons.mpr ⟨lw_p28, List.forall_mem_cons.mpr ⟨lw_p29, List.forall_mem_cons.mpr ⟨lw_p30, List.forall_mem_cons.mpr ⟨lw_p31, fun _ h => absurd h List.not_mem_nil⟩⟩⟩⟩⟩⟩⟩⟩⟩⟩⟩⟩⟩⟩⟩⟩
theorem lw_p32 : lw_okq (⟨"NotationParseModel", "countTerms", "(II)V"⟩, 31) := ⟨⟨by decide +kernel, by decide +kernel⟩, List.mem_of_getElem? (i := 917) (by decide +kernel), List.mem_of_getElem? (i := 1092) (by decide +kernel), List.mem_of_getElem? (i := 1093) (by decide +kernel)⟩
theorem lw_p33 : lw_okq (⟨"NotationParseModel", "isAtom", "(I)Z"⟩, 31) := ⟨⟨by decide +kernel, by decide +kernel⟩, List.mem_of_getElem? (i := 917) (by decide +kernel), List.mem_of_getElem? (i := 1096) (by decide +kernel), List.mem_of_getElem? (i := 1097) (by decide +kernel)⟩
theorem lw_p34 : lw_okq (⟨"NotationParseModel", "isKeyWord", "(J)Z"⟩, 31) := ⟨⟨by decide +kernel, by decide +kernel⟩, List.mem_of_getElem? (i := 917) (by decide +kernel), List.mem_of_getElem? (i := 1100) (by decide +kernel), List.mem_of_getElem? (i := 1101) (by decide +kernel)⟩
theorem lw_p35 : lw_okq (⟨"NotationParseModel", "is", "(II)Z"⟩, 31) := ⟨⟨by decide +kernel, by decide +kernel⟩, List.mem_of_getElem? (i := 917) (by decide +kernel), List.mem_of_getElem? (i := 1104) (by decide +kernel), List.mem_of_getElem? (i := 1105) (by decide +kernel)⟩
theorem lw_p36 : lw_okq (⟨"NotationParseModel", "canBegin", "(I)Z"⟩, 31) := ⟨⟨by decide +kernel, by decide +kernel⟩, List.mem_of_getElem? (i := 917) (by decide +kernel), List.mem_of_getElem? (i := 1108) (by decide +kernel), List.mem_of_getElem? (i := 1109) (by decide +kernel)⟩
theorem lw_p37 : lw_okq (⟨"NotationParseModel", "mayBeTerm", "(III)Z"⟩, 31) := ⟨⟨by decide +kernel, by decide +kernel⟩, List.mem_of_getElem? (i := 917) (by decide +kernel), List.mem_of_getElem? (i := 1112) (by decide +kernel), List.mem_of_getElem? (i := 1113) (by decide +kernel)⟩
theorem lw_p38 : lw_okq (⟨"NotationParseModel", "mayBegin", "(IIII)Z"⟩, 31) := ⟨⟨by decide +kernel, by decide +kernel⟩, List.mem_of_getElem? (i := 917) (by decide +kernel), List.mem_of_getElem? (i := 1116) (by decide +kernel), List.mem_of_getElem? (i := 1117) (by decide +kernel)⟩
theorem lw_p39 : lw_okq (⟨"NotationParseModel", "faulty", "(II)V"⟩, 31) := ⟨⟨by decide +kernel, by decide +kernel⟩, List.mem_of_getElem? (i := 917) (by decide +kernel), List.mem_of_getElem? (i := 1120) (by decide +kernel), List.mem_of_getElem? (i := 1121) (by decide +kernel)⟩
theorem lw_p40 : lw_okq (⟨"NotationParseModel", "grow", "()V"⟩, 31) := ⟨⟨by decide +kernel, by decide +kernel⟩, List.mem_of_getElem? (i := 917) (by decide +kernel), List.mem_of_getElem? (i := 1124) (by decide +kernel), List.mem_of_getElem? (i := 1125) (by decide +kernel)⟩
theorem lw_p41 : lw_okq (⟨"NotationParseModel", "later", "(IIII)V"⟩, 31) := ⟨⟨by decide +kernel, by decide +kernel⟩, List.mem_of_getElem? (i := 917) (by decide +kernel), List.mem_of_getElem? (i := 1128) (by decide +kernel), List.mem_of_getElem? (i := 1129) (by decide +kernel)⟩
theorem lw_p42 : lw_okq (⟨"NotationParseModel", "kindOf", "(III)I"⟩, 31) := ⟨⟨by decide +kernel, by decide +kernel⟩, List.mem_of_getElem? (i := 917) (by decide +kernel), List.mem_of_getElem? (i := 1132) (by decide +kernel), List.mem_of_getElem? (i := 1133) (by decide +kernel)⟩
theorem lw_p43 : lw_okq (⟨"NotationParseModel", "fillHoles", "(I)V"⟩, 31) := ⟨⟨by decide +kernel, by decide +kernel⟩, List.mem_of_getElem? (i := 917) (by decide +kernel), List.mem_of_getElem? (i := 1136) (by decide +kernel), List.mem_of_getElem? (i := 1137) (by decide +kernel)⟩
theorem lw_p44 : lw_okq (⟨"NotationParseModel", "change", "(II)V"⟩, 31) := ⟨⟨by decide +kernel, by decide +kernel⟩, List.mem_of_getElem? (i := 917) (by decide +kernel), List.mem_of_getElem? (i := 1140) (by decide +kernel), List.mem_of_getElem? (i := 1141) (by decide +kernel)⟩
theorem lw_p45 : lw_okq (⟨"NotationParseModel", "children", "(I)I"⟩, 31) := ⟨⟨by decide +kernel, by decide +kernel⟩, List.mem_of_getElem? (i := 917) (by decide +kernel), List.mem_of_getElem? (i := 1152) (by decide +kernel), List.mem_of_getElem? (i := 1153) (by decide +kernel)⟩
theorem lw_p46 : lw_okq (⟨"NotationParseModel", "puts", "(I)V"⟩, 31) := ⟨⟨by decide +kernel, by decide +kernel⟩, List.mem_of_getElem? (i := 917) (by decide +kernel), List.mem_of_getElem? (i := 1160) (by decide +kernel), List.mem_of_getElem? (i := 1161) (by decide +kernel)⟩
theorem lw_p47 : lw_okq (⟨"NotationParseModel", "putWord", "(J)V"⟩, 31) := ⟨⟨by decide +kernel, by decide +kernel⟩, List.mem_of_getElem? (i := 917) (by decide +kernel), List.mem_of_getElem? (i := 1164) (by decide +kernel), List.mem_of_getElem? (i := 1165) (by decide +kernel)⟩
def lw_privs_3 : List (MethodName × Nat) := [(⟨"NotationParseModel", "countTerms", "(II)V"⟩, 31), (⟨"NotationParseModel", "isAtom", "(I)Z"⟩, 31), (⟨"NotationParseModel", "isKeyWord", "(J)Z"⟩, 31), (⟨"NotationParseModel", "is", "(II)Z"⟩, 31), (⟨"NotationParseModel", "canBegin", "(I)Z"⟩, 31), (⟨"NotationParseModel", "mayBeTerm", "(III)Z"⟩, 31), (⟨"NotationParseModel", "mayBegin", "(IIII)Z"⟩, 31), (⟨"NotationParseModel", "faulty", "(II)V"⟩, 31), (⟨"NotationParseModel", "grow", "()V"⟩, 31), (⟨"NotationParseModel", "later", "(IIII)V"⟩, 31), (⟨"NotationParseModel", "kindOf", "(III)I"⟩, 31), (⟨"NotationParseModel", "fillHoles", "(I)V"⟩, 31), (⟨"NotationParseModel", "change", "(II)V"⟩, 31), (⟨"NotationParseModel", "children", "(I)I"⟩, 31), (⟨"NotationParseModel", "puts", "(I)V"⟩, 31), (⟨"NotationParseModel", "putWord", "(J)V"⟩, 31)]
theorem lw_r3 : ∀ q ∈ lw_privs_3, lw_okq q := List.forall_mem_cons.mpr ⟨lw_p32, List.forall_mem_cons.mpr ⟨lw_p33, List.forall_mem_cons.mpr ⟨lw_p34, List.forall_mem_cons.mpr ⟨lw_p35, List.forall_mem_cons.mpr ⟨lw_p36, List.forall_mem_cons.mpr ⟨lw_p37, List.forall_mem_cons.mpr ⟨lw_p38, List.forall_mem_cons.mpr ⟨lw_p39, List.forall_mem_cons.mpr ⟨lw_p40, List.forall_mem_cons.mpr ⟨lw_p41, List.forall_mem_cons.mpr ⟨lw_p42, List.forall_mem_cons.mpr ⟨lw_p43, List.forall_mem_cons.mpr ⟨lw_p44, List.forall_mem_cons.mpr ⟨lw_p45, List.forall_mem_cons.mpr ⟨lw_p46, List.forall_mem_cons.mpr ⟨lw_p47, fun _ h => absurd h List.not_mem_nil⟩⟩⟩⟩⟩⟩⟩⟩⟩⟩⟩⟩⟩⟩⟩⟩
theorem lw_p48 : lw_okq (⟨"NotationParseModel", "takeApart", "(I)V"⟩, 31) := ⟨⟨by decide +kernel, by decide +kernel⟩, List.mem_of_getElem? (i := 917) (by decide +kernel), List.mem_of_getElem? (i := 1168) (by decide +kernel), List.mem_of_getElem? (i := 1169) (by decide +kernel)⟩
theorem lw_p49 : lw_okq (⟨"NotationParseModel", "childAt", "(II)I"⟩, 31) := ⟨⟨by decide +kernel, by decide +kernel⟩, List.mem_of_getElem? (i := 917) (by decide +kernel), List.mem_of_getElem? (i := 1172) (by decide +kernel), List.mem_of_getElem? (i := 1173) (by decide +kernel)⟩
def lw_privs_4 : List (MethodName × Nat) := [(⟨"NotationParseModel", "takeApart", "(I)V"⟩, 31), (⟨"NotationParseModel", "childAt", "(II)I"⟩, 31)]
theorem lw_r4 : ∀ q ∈ lw_privs_4, lw_okq q := List.forall_mem_cons.mpr ⟨lw_p48, List.forall_mem_cons.mpr ⟨lw_p49, fun _ h => absurd h List.not_mem_nil⟩⟩
def lw_privs : List (MethodName × Nat) := lw_privs_1 ++ (lw_privs_2 ++ (lw_privs_3 ++ (lw_privs_4)))
def lw_tbl : List Cond := k2_sels lw_privs ++ tables_1
theorem lw_privs_ok : ∀ q ∈ lw_privs, lw_okq q := by
  show ∀ q ∈ lw_privs_1 ++ (lw_privs_2 ++ (lw_privs_3 ++ (lw_privs_4))), lw_okq q
  exact List.forall_mem_append.mpr ⟨lw_r1, List.forall_mem_append.mpr ⟨lw_r2, List.forall_mem_append.mpr ⟨lw_r3, lw_r4⟩⟩⟩
def np_al : List Cond := lw_tbl.filter goodWord
theorem np_subm {ws : List Cond} (ps : List Nat) (hp : ws = ps.filterMap (fun i => lw_tbl[i]?)) (hg : ws.all goodWord = true) : ∀ w ∈ ws, w ∈ np_al := by
  intro w hw
  have h1 := List.all_eq_true.mp hg w hw
  rw [hp] at hw
  obtain ⟨i, -, hi⟩ := List.mem_filterMap.mp hw
  exact List.mem_filter.mpr ⟨List.mem_of_getElem? hi, h1⟩
end
section
/-! numbers as Ints: np_i, np_l take any Int to the machine's int and long -/
abbrev np_S : Type := Nat → Int → Int
abbrev np_O : Type := Int × np_S
def np_i (x : Int) : Int32 := Int32.ofInt x
def np_l (x : Int) : Int64 := Int64.ofInt x
abbrev np_R (x : Int) : Prop := -2147483648 ≤ x ∧ x ≤ 2147483647
abbrev np_R6 (x : Int) : Prop := -9223372036854775808 ≤ x ∧ x ≤ 9223372036854775807
def np_ck {α : Type} (c : Prop) [Decidable c] (k : Option α) : Option α := if c then k else none
theorem np_ck_e {α : Type} {c : Prop} [Decidable c] {k : Option α} {o : α} (h : np_ck c k = some o) : c ∧ k = some o := by
  unfold np_ck at h
  split at h
  · exact ⟨by assumption, h⟩
  · cases h
theorem np_ck_i {α : Type} {c : Prop} [Decidable c] {k : Option α} (h : c) : np_ck c k = k := if_pos h
/-- the store with one place changed -/
def np_st (σ : np_S) (k : Nat) (j v : Int) : np_S := fun k2 => if k2 = k then (fun j2 => if j2 = j then v else σ k j2) else σ k2
theorem np_st_s (σ : np_S) (k : Nat) (j v : Int) : np_st σ k j v k j = v := by simp [np_st]
theorem np_st_n (σ : np_S) (k : Nat) {j j2 : Int} (v : Int) (h : j2 ≠ j) : np_st σ k j v k j2 = σ k j2 := by simp [np_st, h]
theorem np_st_k (σ : np_S) {k k2 : Nat} (j v : Int) (h : k2 ≠ k) : np_st σ k j v k2 = σ k2 := by simp [np_st, h]
def np_cmp (x y : Int) : Int := if y < x then 1 else if x = y then 0 else -1
def np_min (x y : Int) : Int := if y < x then y else x
def np_andi (x y : Int) : Int := (np_i x &&& np_i y).toInt
def np_ori (x y : Int) : Int := (np_i x ||| np_i y).toInt
def np_xori (x y : Int) : Int := (np_i x ^^^ np_i y).toInt
def np_shli (x y : Int) : Int := (np_i x <<< (np_i y &&& 31)).toInt
def np_shri (x y : Int) : Int := (np_i x >>> (np_i y &&& 31)).toInt
def np_ushri (x y : Int) : Int := ((np_i x).toUInt32 >>> ((np_i y).toUInt32 &&& Int32.toUInt32 31)).toInt32.toInt
def np_andl (x y : Int) : Int := (np_l x &&& np_l y).toInt
def np_orl (x y : Int) : Int := (np_l x ||| np_l y).toInt
def np_shll (x y : Int) : Int := (np_l x <<< ((np_i y).toInt64 &&& 63)).toInt
def np_ushrl (x y : Int) : Int := ((np_l x).toUInt64 >>> ((np_i y).toInt64.toUInt64 &&& Int64.toUInt64 63)).toInt64.toInt
theorem np_i_toInt (x : Int32) : np_i x.toInt = x := Int32.ofInt_toInt x
theorem np_l_toInt (x : Int64) : np_l x.toInt = x := Int64.ofInt_toInt x
theorem np_toInt {x : Int} (h : np_R x) : (np_i x).toInt = x := Int32.toInt_ofInt_of_le (by have := h.1; omega) (by have := h.2; omega)
theorem np_toInt6 {x : Int} (h : np_R6 x) : (np_l x).toInt = x := Int64.toInt_ofInt_of_le (by have := h.1; omega) (by have := h.2; omega)
theorem np_add (x y : Int) : np_i x + np_i y = np_i (x + y) := (Int32.ofInt_add x y).symm
theorem np_sub (x y : Int) : np_i x - np_i y = np_i (x - y) := (Int32.ofInt_sub x y).symm
theorem np_mul (x y : Int) : np_i x * np_i y = np_i (x * y) := (Int32.ofInt_mul x y).symm
theorem np_inc (x n : Int) : np_i x + Int32.ofInt n = np_i (x + n) := np_add x n
theorem np_addl (x y : Int) : np_l x + np_l y = np_l (x + y) := (Int64.ofInt_add x y).symm
theorem np_subl (x y : Int) : np_l x - np_l y = np_l (x - y) := (Int64.ofInt_sub x y).symm
theorem np_mull (x y : Int) : np_l x * np_l y = np_l (x * y) := (Int64.ofInt_mul x y).symm
theorem np_lt {x y : Int} (hx : np_R x) (hy : np_R y) : np_i x < np_i y ↔ x < y := by rw [Int32.lt_iff_toInt_lt, np_toInt hx, np_toInt hy]
theorem np_le {x y : Int} (hx : np_R x) (hy : np_R y) : np_i x ≤ np_i y ↔ x ≤ y := by rw [Int32.le_iff_toInt_le, np_toInt hx, np_toInt hy]
theorem np_eq {x y : Int} (hx : np_R x) (hy : np_R y) : np_i x = np_i y ↔ x = y := by rw [← Int32.toInt_inj, np_toInt hx, np_toInt hy]
theorem np_lt6 {x y : Int} (hx : np_R6 x) (hy : np_R6 y) : np_l x < np_l y ↔ x < y := by rw [Int64.lt_iff_toInt_lt, np_toInt6 hx, np_toInt6 hy]
theorem np_eq6 {x y : Int} (hx : np_R6 x) (hy : np_R6 y) : np_l x = np_l y ↔ x = y := by rw [← Int64.toInt_inj, np_toInt6 hx, np_toInt6 hy]
theorem np_0 : np_i 0 = 0 := rfl
theorem np_R0 : np_R 0 := by decide
theorem np_clamp {x : Int} (h0 : 0 ≤ x) (h : np_R x) : (np_i x).toNatClampNeg = x.toNat := by
  show (np_i x).toInt.toNat = x.toNat
  rw [np_toInt h]
theorem np_in {x : Int} {n : Nat} (h0 : 0 ≤ x) (h : x < n) (hn : n < 2147483648) : vp_in (np_i x) n := by
  have hR : np_R x := ⟨by omega, by omega⟩
  rw [vp_in_iff, np_toInt hR]
  exact ⟨h0, h⟩
theorem np_byte (x : Int) : (np_i x).toInt8.toInt32 = np_i (Int.bmod x 256) := by
  apply Int32.toInt_inj.mp
  have h1 : -128 ≤ Int.bmod x 256 := Int.le_bmod (by decide)
  have h2 : Int.bmod x 256 < 128 := Int.bmod_lt (by decide)
  rw [np_toInt ⟨by omega, by omega⟩]
  simp [np_i]
theorem np_nat (n : Nat) : np_i (n : Int) = nI n := by
  first | exact Int32.ofInt_eq_ofNat | rfl | simp [np_i, nI]
theorem np_char (x : Int) : ((np_i x).toUInt32 % 65536).toInt32 = np_i (x % 65536) := by
  rw [pk_char]
  have h : (np_i x).toBitVec.toNat % 65536 = (x % 65536).toNat := by
    simp only [np_i, Int32.toBitVec_ofInt, BitVec.toNat_ofInt]
    omega
  rw [h, ← np_nat, Int.toNat_of_nonneg (Int.emod_nonneg x (by decide))]
theorem np_l2i_e (x : Int) : (np_l x).toInt32 = np_i x := by
  simp [np_l, np_i]
theorem np_i2l_e {x : Int} (h : np_R x) : (np_i x).toInt64 = np_l x := by
  apply Int64.toInt_inj.mp
  rw [Int32.toInt_toInt64, np_toInt h, np_toInt6 ⟨by have := h.1; omega, by have := h.2; omega⟩]
theorem np_narI (x : Int) : narrow .int (.int (np_i x)) = .int (np_i x) := rfl
theorem np_fitI (x : Int) : fits .int (.int (np_i x)) = true := rfl
/-- what the heap holds from the start and nobody writes: the String constants of Spelling.kindOf -/
def np_sl : List Nat := [19, 8]
def np_sb : List (List Int32) := [[33, 35, 36, 37, 38, 42, 43, 45, 46, 47, 58, 60, 61, 62, 63, 64, 94, 124, 126], [40, 41, 91, 93, 123, 125, 44, 59]]
def np_E (gA : Nat → Nat) (A : Nat → Prop) (U : State) (H : Heap) : Prop :=
  vk_S 2 np_sl np_sb gA (fun i => gA (100 + i)) A U H ∧ vk_R "NotationParse$Spelling" 11 "!#$%&*+-./:<=>?@^|~" (gA 0) U ∧ vk_R "NotationParse$Spelling" 19 "()[]{},;" (gA 1) U
theorem np_E.warm {gA : Nat → Nat} {A : Nat → Prop} {s U : State} {H : Heap} (hW : s.WarmedH U.vm) (h : np_E gA A s H) : np_E gA A U H := ⟨vk_S.moved hW.alike h.1, h.2.1.warm hW, h.2.2.warm hW⟩
theorem np_E.same {gA : Nat → Nat} {A : Nat → Prop} {u U : State} {H : Heap} (hv : U.vm = u.vm) (h : np_E gA A u H) : np_E gA A U H := ⟨vk_S.moved (by rw [hv]; exact Vm.Alike.refl _) h.1, h.2.1.same hv, h.2.2.same hv⟩
theorem np_E.kept {gA : Nat → Nat} {A : Nat → Prop} {U : State} {H H1 : Heap} (h : np_E gA A U H) (hq : ∀ a : Nat, a < H.size → ¬ A a → H1[a]? = H[a]?) : np_E gA A U H1 := ⟨h.1.kept hq, h.2⟩
theorem np_E.narrow {gA : Nat → Nat} {A B : Nat → Prop} {U : State} {H : Heap} (h : np_E gA A U H) (hAB : ∀ q, B q → A q) : np_E gA B U H := ⟨h.1.narrow hAB, h.2⟩
/-- what holds all through a method -/
def np_Cx (gA : Nat → Nat) (p : Program) (R : Room) (s : State) (m : MethodId) (args : Array Value) (c : Code) (D : va_G) (cl : List vw_C) (tys : List (ClassId × FieldType)) (A : Nat → Prop) (Ts : List Cond) (own : String) (cc : ByteArray) (nL : Nat) (rm : Room) : Prop :=
  (p.tables.exec = Jvm.exec ∧ c.code = cc ∧ c.maxLocals = nL ∧ s.vm.findClass own = some m.cls ∧ ∀ w ∈ Ts, w.before args s = true) ∧ va_K D cl tys s ∧ (∀ a, s.heap.size ≤ a → A a) ∧ R = rm ∧ np_E gA A s s.heap
/-- the world: the store σ lies in the heap -/
def np_At (D : va_G) (cl : List vw_C) (A : Nat → Prop) (wd : np_S → va_W) (s : State) (σ : np_S) (H : Heap) (locs : List Loc) : Prop :=
  va_P D cl (wd σ) H ∧ va_D A (wd σ) ∧ va_S A s.heap H locs
abbrev np_ty (cI cL cB : ClassId) : List (ClassId × FieldType) := [(cI, .int), (cL, .long), (cB, .byte)]
section NPR
variable {p : Program} {l : Launch} {e : Env} {R : Room} {s : State} {m : MethodId} {args : Array Value} {below : List Frame} {meth : Method} {c : Code} {H : Heap} {locs : List Loc} {cells slots : Nat} {Q : State → Prop}
variable {cc : ByteArray} {pc : Nat} {ls : Array Slot} {rest : List Value} {D : va_G} {cl : List vw_C} {tys : List (ClassId × FieldType)} {A : Nat → Prop} {Ts : List Cond} {own : String} {nL : Nat} {rm : Room} {wd : np_S → va_W} {σ : np_S} {gA : Nat → Nat}
theorem np_Cx.x (C : np_Cx gA p R s m args c D cl tys A Ts own cc nL rm) : p.tables.exec = Jvm.exec := C.1.1
theorem np_Cx.b (C : np_Cx gA p R s m args c D cl tys A Ts own cc nL rm) : c.code = cc := C.1.2.1
theorem np_Cx.ml (C : np_Cx gA p R s m args c D cl tys A Ts own cc nL rm) : c.maxLocals = nL := C.1.2.2.1
theorem np_Cx.o (C : np_Cx gA p R s m args c D cl tys A Ts own cc nL rm) : s.vm.findClass own = some m.cls := C.1.2.2.2.1
theorem np_Cx.t (C : np_Cx gA p R s m args c D cl tys A Ts own cc nL rm) : ∀ w ∈ Ts, w.before args s = true := C.1.2.2.2.2
theorem np_Cx.k (C : np_Cx gA p R s m args c D cl tys A Ts own cc nL rm) : va_K D cl tys s := C.2.1
theorem np_Cx.a (C : np_Cx gA p R s m args c D cl tys A Ts own cc nL rm) : ∀ a, s.heap.size ≤ a → A a := C.2.2.1
theorem np_Cx.r (C : np_Cx gA p R s m args c D cl tys A Ts own cc nL rm) : R = rm := C.2.2.2.1
theorem np_Cx.en (C : np_Cx gA p R s m args c D cl tys A Ts own cc nL rm) : np_E gA A s s.heap := C.2.2.2.2
theorem np_iadd (C : np_Cx gA p R s m args c D cl tys A Ts own cc nL rm) {x y : Int} (hdg : decode cc pc = .ok (.iadd, 1)) (k : W p l e R s m args below meth c H locs cells slots Q (F0 m (pc + 1) ls (.int (np_i (x + y)) :: rest))) : W p l e R s m args below meth c H locs cells slots Q (F0 m pc ls (.int (np_i y) :: .int (np_i x) :: rest)) := lv_iadd C.x C.b hdg (by rw [np_add]; exact k)
theorem np_isub (C : np_Cx gA p R s m args c D cl tys A Ts own cc nL rm) {x y : Int} (hdg : decode cc pc = .ok (.isub, 1)) (k : W p l e R s m args below meth c H locs cells slots Q (F0 m (pc + 1) ls (.int (np_i (x - y)) :: rest))) : W p l e R s m args below meth c H locs cells slots Q (F0 m pc ls (.int (np_i y) :: .int (np_i x) :: rest)) := lv_isub C.x C.b hdg (by rw [np_sub]; exact k)
theorem np_imul (C : np_Cx gA p R s m args c D cl tys A Ts own cc nL rm) {x y : Int} (hdg : decode cc pc = .ok (.imul, 1)) (k : W p l e R s m args below meth c H locs cells slots Q (F0 m (pc + 1) ls (.int (np_i (x * y)) :: rest))) : W p l e R s m args below meth c H locs cells slots Q (F0 m pc ls (.int (np_i y) :: .int (np_i x) :: rest)) := lv_imul C.x C.b hdg (by rw [np_mul]; exact k)
theorem np_ladd (C : np_Cx gA p R s m args c D cl tys A Ts own cc nL rm) {x y : Int} (hdg : decode cc pc = .ok (.ladd, 1)) (k : W p l e R s m args below meth c H locs cells slots Q (F0 m (pc + 1) ls (.long (np_l (x + y)) :: rest))) : W p l e R s m args below meth c H locs cells slots Q (F0 m pc ls (.long (np_l y) :: .long (np_l x) :: rest)) := lv_ladd C.x C.b hdg (by rw [np_addl]; exact k)
theorem np_lsub (C : np_Cx gA p R s m args c D cl tys A Ts own cc nL rm) {x y : Int} (hdg : decode cc pc = .ok (.lsub, 1)) (k : W p l e R s m args below meth c H locs cells slots Q (F0 m (pc + 1) ls (.long (np_l (x - y)) :: rest))) : W p l e R s m args below meth c H locs cells slots Q (F0 m pc ls (.long (np_l y) :: .long (np_l x) :: rest)) := lv_lsub C.x C.b hdg (by rw [np_subl]; exact k)
theorem np_lmul (C : np_Cx gA p R s m args c D cl tys A Ts own cc nL rm) {x y : Int} (hdg : decode cc pc = .ok (.lmul, 1)) (k : W p l e R s m args below meth c H locs cells slots Q (F0 m (pc + 1) ls (.long (np_l (x * y)) :: rest))) : W p l e R s m args below meth c H locs cells slots Q (F0 m pc ls (.long (np_l y) :: .long (np_l x) :: rest)) := lv_lmul C.x C.b hdg (by rw [np_mull]; exact k)
theorem np_iand (C : np_Cx gA p R s m args c D cl tys A Ts own cc nL rm) {x y : Int} (hdg : decode cc pc = .ok (.iand, 1)) (k : W p l e R s m args below meth c H locs cells slots Q (F0 m (pc + 1) ls (.int (np_i (np_andi x y)) :: rest))) : W p l e R s m args below meth c H locs cells slots Q (F0 m pc ls (.int (np_i y) :: .int (np_i x) :: rest)) := lv_iand C.x C.b hdg (by unfold np_andi at k; rw [np_i_toInt] at k; exact k)
theorem np_ior (C : np_Cx gA p R s m args c D cl tys A Ts own cc nL rm) {x y : Int} (hdg : decode cc pc = .ok (.ior, 1)) (k : W p l e R s m args below meth c H locs cells slots Q (F0 m (pc + 1) ls (.int (np_i (np_ori x y)) :: rest))) : W p l e R s m args below meth c H locs cells slots Q (F0 m pc ls (.int (np_i y) :: .int (np_i x) :: rest)) := lv_ior C.x C.b hdg (by unfold np_ori at k; rw [np_i_toInt] at k; exact k)
theorem np_ixor (C : np_Cx gA p R s m args c D cl tys A Ts own cc nL rm) {x y : Int} (hdg : decode cc pc = .ok (.ixor, 1)) (k : W p l e R s m args below meth c H locs cells slots Q (F0 m (pc + 1) ls (.int (np_i (np_xori x y)) :: rest))) : W p l e R s m args below meth c H locs cells slots Q (F0 m pc ls (.int (np_i y) :: .int (np_i x) :: rest)) := lv_ixor C.x C.b hdg (by unfold np_xori at k; rw [np_i_toInt] at k; exact k)
theorem np_ishl (C : np_Cx gA p R s m args c D cl tys A Ts own cc nL rm) {x y : Int} (hdg : decode cc pc = .ok (.ishl, 1)) (k : W p l e R s m args below meth c H locs cells slots Q (F0 m (pc + 1) ls (.int (np_i (np_shli x y)) :: rest))) : W p l e R s m args below meth c H locs cells slots Q (F0 m pc ls (.int (np_i y) :: .int (np_i x) :: rest)) := lv_ishl C.x C.b hdg (by unfold np_shli at k; rw [np_i_toInt] at k; exact k)
theorem np_ishr (C : np_Cx gA p R s m args c D cl tys A Ts own cc nL rm) {x y : Int} (hdg : decode cc pc = .ok (.ishr, 1)) (k : W p l e R s m args below meth c H locs cells slots Q (F0 m (pc + 1) ls (.int (np_i (np_shri x y)) :: rest))) : W p l e R s m args below meth c H locs cells slots Q (F0 m pc ls (.int (np_i y) :: .int (np_i x) :: rest)) := lv_ishr C.x C.b hdg (by unfold np_shri at k; rw [np_i_toInt] at k; exact k)
theorem np_iushr (C : np_Cx gA p R s m args c D cl tys A Ts own cc nL rm) {x y : Int} (hdg : decode cc pc = .ok (.iushr, 1)) (k : W p l e R s m args below meth c H locs cells slots Q (F0 m (pc + 1) ls (.int (np_i (np_ushri x y)) :: rest))) : W p l e R s m args below meth c H locs cells slots Q (F0 m pc ls (.int (np_i y) :: .int (np_i x) :: rest)) := lv_iushr C.x C.b hdg rfl (by unfold np_ushri at k; rw [np_i_toInt] at k; exact k)
theorem np_land (C : np_Cx gA p R s m args c D cl tys A Ts own cc nL rm) {x y : Int} (hdg : decode cc pc = .ok (.land, 1)) (k : W p l e R s m args below meth c H locs cells slots Q (F0 m (pc + 1) ls (.long (np_l (np_andl x y)) :: rest))) : W p l e R s m args below meth c H locs cells slots Q (F0 m pc ls (.long (np_l y) :: .long (np_l x) :: rest)) := lv_land C.x C.b hdg (by unfold np_andl at k; rw [np_l_toInt] at k; exact k)
theorem np_lor (C : np_Cx gA p R s m args c D cl tys A Ts own cc nL rm) {x y : Int} (hdg : decode cc pc = .ok (.lor, 1)) (k : W p l e R s m args below meth c H locs cells slots Q (F0 m (pc + 1) ls (.long (np_l (np_orl x y)) :: rest))) : W p l e R s m args below meth c H locs cells slots Q (F0 m pc ls (.long (np_l y) :: .long (np_l x) :: rest)) := lv_lor C.x C.b hdg (by unfold np_orl at k; rw [np_l_toInt] at k; exact k)
theorem np_lshl (C : np_Cx gA p R s m args c D cl tys A Ts own cc nL rm) {x y : Int} (hdg : decode cc pc = .ok (.lshl, 1)) (k : W p l e R s m args below meth c H locs cells slots Q (F0 m (pc + 1) ls (.long (np_l (np_shll x y)) :: rest))) : W p l e R s m args below meth c H locs cells slots Q (F0 m pc ls (.int (np_i y) :: .long (np_l x) :: rest)) := lv_lshl C.x C.b hdg rfl (by unfold np_shll at k; rw [np_l_toInt] at k; exact k)
theorem np_lushr (C : np_Cx gA p R s m args c D cl tys A Ts own cc nL rm) {x y : Int} (hdg : decode cc pc = .ok (.lushr, 1)) (k : W p l e R s m args below meth c H locs cells slots Q (F0 m (pc + 1) ls (.long (np_l (np_ushrl x y)) :: rest))) : W p l e R s m args below meth c H locs cells slots Q (F0 m pc ls (.int (np_i y) :: .long (np_l x) :: rest)) := lv_lushr C.x C.b hdg rfl (by unfold np_ushrl at k; rw [np_l_toInt] at k; exact k)
theorem np_l2i (C : np_Cx gA p R s m args c D cl tys A Ts own cc nL rm) {x : Int} (hdg : decode cc pc = .ok (.l2i, 1)) (k : W p l e R s m args below meth c H locs cells slots Q (F0 m (pc + 1) ls (.int (np_i x) :: rest))) : W p l e R s m args below meth c H locs cells slots Q (F0 m pc ls (.long (np_l x) :: rest)) := lv_l2i C.x C.b hdg (np_l2i_e x) k
theorem np_i2b (C : np_Cx gA p R s m args c D cl tys A Ts own cc nL rm) {x : Int} (hdg : decode cc pc = .ok (.i2b, 1)) (k : W p l e R s m args below meth c H locs cells slots Q (F0 m (pc + 1) ls (.int (np_i (Int.bmod x 256)) :: rest))) : W p l e R s m args below meth c H locs cells slots Q (F0 m pc ls (.int (np_i x) :: rest)) := lv_i2b C.x C.b hdg (np_byte x) k
theorem np_i2c (C : np_Cx gA p R s m args c D cl tys A Ts own cc nL rm) {x : Int} (hdg : decode cc pc = .ok (.i2c, 1)) (k : W p l e R s m args below meth c H locs cells slots Q (F0 m (pc + 1) ls (.int (np_i (x % 65536)) :: rest))) : W p l e R s m args below meth c H locs cells slots Q (F0 m pc ls (.int (np_i x) :: rest)) := lv_i2c C.x C.b hdg (np_char x) k
theorem np_i2l (C : np_Cx gA p R s m args c D cl tys A Ts own cc nL rm) {x : Int} (hdg : decode cc pc = .ok (.i2l, 1)) {α : Type} {f1 : Option α} {o : α} (hf : np_ck (np_R x) f1 = some o) (k : f1 = some o → W p l e R s m args below meth c H locs cells slots Q (F0 m (pc + 1) ls (.long (np_l x) :: rest))) : W p l e R s m args below meth c H locs cells slots Q (F0 m pc ls (.int (np_i x) :: rest)) := lv_i2l C.x C.b hdg (np_i2l_e (np_ck_e hf).1) (k (np_ck_e hf).2)
theorem np_idiv (C : np_Cx gA p R s m args c D cl tys A Ts own cc nL rm) {x y : Int} (hdg : decode cc pc = .ok (.idiv, 1)) {α : Type} {f1 : Option α} {o : α} (hf : np_ck (0 ≤ x ∧ np_R x ∧ 0 < y ∧ np_R y) f1 = some o) (k : f1 = some o → W p l e R s m args below meth c H locs cells slots Q (F0 m (pc + 1) ls (.int (np_i (x / y)) :: rest))) : W p l e R s m args below meth c H locs cells slots Q (F0 m pc ls (.int (np_i y) :: .int (np_i x) :: rest)) := by
  obtain ⟨⟨h1, h2, h3, h4⟩, hf2⟩ := np_ck_e hf
  refine lv_idiv C.x C.b hdg (fun h => ?_) ?_
  · have := (np_eq h4 np_R0).mp h
    omega
  · obtain ⟨a, rfl⟩ := Int.eq_ofNat_of_zero_le h1
    obtain ⟨d, rfl⟩ := Int.eq_ofNat_of_zero_le (Int.le_of_lt h3)
    have e : np_i (a : Int) / np_i (d : Int) = np_i ((a : Int) / (d : Int)) := by
      rw [np_nat, np_nat, pk_div (by have := h2.2; omega) (by omega) (by have := h4.2; omega), ← np_nat]
      rfl
    rw [e]
    exact k hf2
theorem np_lcmp (C : np_Cx gA p R s m args c D cl tys A Ts own cc nL rm) {x y : Int} (hdg : decode cc pc = .ok (.lcmp, 1)) {α : Type} {f1 : Option α} {o : α} (hf : np_ck (np_R6 x ∧ np_R6 y) f1 = some o) (k : f1 = some o → W p l e R s m args below meth c H locs cells slots Q (F0 m (pc + 1) ls (.int (np_i (np_cmp x y)) :: rest))) : W p l e R s m args below meth c H locs cells slots Q (F0 m pc ls (.long (np_l y) :: .long (np_l x) :: rest)) := by
  obtain ⟨⟨h1, h2⟩, hf⟩ := np_ck_e hf
  refine W.lcmp C.x C.b hdg ?_
  have e : lg_cmp (np_l x) (np_l y) = np_i (np_cmp x y) := by
    unfold lg_cmp np_cmp
    by_cases a : y < x
    · rw [if_pos ((np_lt6 h2 h1).mpr a), if_pos a]; rfl
    · rw [if_neg (fun q => a ((np_lt6 h2 h1).mp q)), if_neg a]
      by_cases b : x = y
      · rw [if_pos ((np_eq6 h1 h2).mpr b), if_pos b]; rfl
      · rw [if_neg (fun q => b ((np_eq6 h1 h2).mp q)), if_neg b]; rfl
  rw [e]
  exact k hf
theorem np_icmp_eq (C : np_Cx gA p R s m args c D cl tys A Ts own cc nL rm) {x y : Int} {off : Int} {tgt : Nat} (hdg : decode cc pc = .ok (.if_icmp .eq off, 3)) (ht : (pc : Int) + off = (tgt : Int)) {α : Type} {f1 f2 : Option α} {o : α} (hf : np_ck (np_R x ∧ np_R y) (if x = y then f1 else f2) = some o) (kt : x = y → f1 = some o → W p l e R s m args below meth c H locs cells slots Q (F0 m tgt ls rest)) (kf : ¬ (x = y) → f2 = some o → W p l e R s m args below meth c H locs cells slots Q (F0 m (pc + 3) ls rest)) : W p l e R s m args below meth c H locs cells slots Q (F0 m pc ls (.int (np_i y) :: .int (np_i x) :: rest)) := by
  obtain ⟨⟨h1, h2⟩, hf⟩ := np_ck_e hf
  have q := np_eq h1 h2
  refine lv_icmp_eq C.x C.b hdg ht (fun h => ?_) (fun h => ?_)
  · have h9 := q.mp h
    exact kt h9 (by rw [if_pos h9] at hf; exact hf)
  · have h9 : ¬ (x = y) := fun z => h (q.mpr z)
    exact kf h9 (by rw [if_neg h9] at hf; exact hf)
theorem np_if_eq (C : np_Cx gA p R s m args c D cl tys A Ts own cc nL rm) {x : Int} {off : Int} {tgt : Nat} (hdg : decode cc pc = .ok (.ifCond .eq off, 3)) (ht : (pc : Int) + off = (tgt : Int)) {α : Type} {f1 f2 : Option α} {o : α} (hf : np_ck (np_R x) (if x = 0 then f1 else f2) = some o) (kt : x = 0 → f1 = some o → W p l e R s m args below meth c H locs cells slots Q (F0 m tgt ls rest)) (kf : ¬ (x = 0) → f2 = some o → W p l e R s m args below meth c H locs cells slots Q (F0 m (pc + 3) ls rest)) : W p l e R s m args below meth c H locs cells slots Q (F0 m pc ls (.int (np_i x) :: rest)) := by
  obtain ⟨h1, hf⟩ := np_ck_e hf
  have h2 := np_R0
  have q := np_eq h1 h2
  refine lv_if_eq C.x C.b hdg ht (fun h => ?_) (fun h => ?_)
  · have h9 := q.mp h
    exact kt h9 (by rw [if_pos h9] at hf; exact hf)
  · have h9 : ¬ (x = 0) := fun z => h (q.mpr z)
    exact kf h9 (by rw [if_neg h9] at hf; exact hf)
theorem np_icmp_ne (C : np_Cx gA p R s m args c D cl tys A Ts own cc nL rm) {x y : Int} {off : Int} {tgt : Nat} (hdg : decode cc pc = .ok (.if_icmp .ne off, 3)) (ht : (pc : Int) + off = (tgt : Int)) {α : Type} {f1 f2 : Option α} {o : α} (hf : np_ck (np_R x ∧ np_R y) (if x ≠ y then f1 else f2) = some o) (kt : x ≠ y → f1 = some o → W p l e R s m args below meth c H locs cells slots Q (F0 m tgt ls rest)) (kf : ¬ (x ≠ y) → f2 = some o → W p l e R s m args below meth c H locs cells slots Q (F0 m (pc + 3) ls rest)) : W p l e R s m args below meth c H locs cells slots Q (F0 m pc ls (.int (np_i y) :: .int (np_i x) :: rest)) := by
  obtain ⟨⟨h1, h2⟩, hf⟩ := np_ck_e hf
  have q := not_congr (np_eq h1 h2)
  refine lv_icmp_ne C.x C.b hdg ht (fun h => ?_) (fun h => ?_)
  · have h9 := q.mp h
    exact kt h9 (by rw [if_pos h9] at hf; exact hf)
  · have h9 : ¬ (x ≠ y) := fun z => z ((np_eq h1 h2).mp h)
    exact kf h9 (by rw [if_neg h9] at hf; exact hf)
theorem np_if_ne (C : np_Cx gA p R s m args c D cl tys A Ts own cc nL rm) {x : Int} {off : Int} {tgt : Nat} (hdg : decode cc pc = .ok (.ifCond .ne off, 3)) (ht : (pc : Int) + off = (tgt : Int)) {α : Type} {f1 f2 : Option α} {o : α} (hf : np_ck (np_R x) (if x ≠ 0 then f1 else f2) = some o) (kt : x ≠ 0 → f1 = some o → W p l e R s m args below meth c H locs cells slots Q (F0 m tgt ls rest)) (kf : ¬ (x ≠ 0) → f2 = some o → W p l e R s m args below meth c H locs cells slots Q (F0 m (pc + 3) ls rest)) : W p l e R s m args below meth c H locs cells slots Q (F0 m pc ls (.int (np_i x) :: rest)) := by
  obtain ⟨h1, hf⟩ := np_ck_e hf
  have h2 := np_R0
  have q := not_congr (np_eq h1 h2)
  refine lv_if_ne C.x C.b hdg ht (fun h => ?_) (fun h => ?_)
  · have h9 := q.mp h
    exact kt h9 (by rw [if_pos h9] at hf; exact hf)
  · have h9 : ¬ (x ≠ 0) := fun z => z ((np_eq h1 h2).mp h)
    exact kf h9 (by rw [if_neg h9] at hf; exact hf)
theorem np_icmp_lt (C : np_Cx gA p R s m args c D cl tys A Ts own cc nL rm) {x y : Int} {off : Int} {tgt : Nat} (hdg : decode cc pc = .ok (.if_icmp .lt off, 3)) (ht : (pc : Int) + off = (tgt : Int)) {α : Type} {f1 f2 : Option α} {o : α} (hf : np_ck (np_R x ∧ np_R y) (if x < y then f1 else f2) = some o) (kt : x < y → f1 = some o → W p l e R s m args below meth c H locs cells slots Q (F0 m tgt ls rest)) (kf : ¬ (x < y) → f2 = some o → W p l e R s m args below meth c H locs cells slots Q (F0 m (pc + 3) ls rest)) : W p l e R s m args below meth c H locs cells slots Q (F0 m pc ls (.int (np_i y) :: .int (np_i x) :: rest)) := by
  obtain ⟨⟨h1, h2⟩, hf⟩ := np_ck_e hf
  have q := np_lt h1 h2
  refine lv_icmp_lt C.x C.b hdg ht (fun h => ?_) (fun h => ?_)
  · have h9 := q.mp h
    exact kt h9 (by rw [if_pos h9] at hf; exact hf)
  · have h9 : ¬ (x < y) := fun z => h (q.mpr z)
    exact kf h9 (by rw [if_neg h9] at hf; exact hf)
theorem np_if_lt (C : np_Cx gA p R s m args c D cl tys A Ts own cc nL rm) {x : Int} {off : Int} {tgt : Nat} (hdg : decode cc pc = .ok (.ifCond .lt off, 3)) (ht : (pc : Int) + off = (tgt : Int)) {α : Type} {f1 f2 : Option α} {o : α} (hf : np_ck (np_R x) (if x < 0 then f1 else f2) = some o) (kt : x < 0 → f1 = some o → W p l e R s m args below meth c H locs cells slots Q (F0 m tgt ls rest)) (kf : ¬ (x < 0) → f2 = some o → W p l e R s m args below meth c H locs cells slots Q (F0 m (pc + 3) ls rest)) : W p l e R s m args below meth c H locs cells slots Q (F0 m pc ls (.int (np_i x) :: rest)) := by
  obtain ⟨h1, hf⟩ := np_ck_e hf
  have h2 := np_R0
  have q := np_lt h1 h2
  refine lv_if_lt C.x C.b hdg ht (fun h => ?_) (fun h => ?_)
  · have h9 := q.mp h
    exact kt h9 (by rw [if_pos h9] at hf; exact hf)
  · have h9 : ¬ (x < 0) := fun z => h (q.mpr z)
    exact kf h9 (by rw [if_neg h9] at hf; exact hf)
theorem np_icmp_ge (C : np_Cx gA p R s m args c D cl tys A Ts own cc nL rm) {x y : Int} {off : Int} {tgt : Nat} (hdg : decode cc pc = .ok (.if_icmp .ge off, 3)) (ht : (pc : Int) + off = (tgt : Int)) {α : Type} {f1 f2 : Option α} {o : α} (hf : np_ck (np_R x ∧ np_R y) (if y ≤ x then f1 else f2) = some o) (kt : y ≤ x → f1 = some o → W p l e R s m args below meth c H locs cells slots Q (F0 m tgt ls rest)) (kf : ¬ (y ≤ x) → f2 = some o → W p l e R s m args below meth c H locs cells slots Q (F0 m (pc + 3) ls rest)) : W p l e R s m args below meth c H locs cells slots Q (F0 m pc ls (.int (np_i y) :: .int (np_i x) :: rest)) := by
  obtain ⟨⟨h1, h2⟩, hf⟩ := np_ck_e hf
  have q := np_le h2 h1
  refine lv_icmp_ge C.x C.b hdg ht (fun h => ?_) (fun h => ?_)
  · have h9 := q.mp h
    exact kt h9 (by rw [if_pos h9] at hf; exact hf)
  · have h9 : ¬ (y ≤ x) := fun z => h (q.mpr z)
    exact kf h9 (by rw [if_neg h9] at hf; exact hf)
theorem np_if_ge (C : np_Cx gA p R s m args c D cl tys A Ts own cc nL rm) {x : Int} {off : Int} {tgt : Nat} (hdg : decode cc pc = .ok (.ifCond .ge off, 3)) (ht : (pc : Int) + off = (tgt : Int)) {α : Type} {f1 f2 : Option α} {o : α} (hf : np_ck (np_R x) (if 0 ≤ x then f1 else f2) = some o) (kt : 0 ≤ x → f1 = some o → W p l e R s m args below meth c H locs cells slots Q (F0 m tgt ls rest)) (kf : ¬ (0 ≤ x) → f2 = some o → W p l e R s m args below meth c H locs cells slots Q (F0 m (pc + 3) ls rest)) : W p l e R s m args below meth c H locs cells slots Q (F0 m pc ls (.int (np_i x) :: rest)) := by
  obtain ⟨h1, hf⟩ := np_ck_e hf
  have h2 := np_R0
  have q := np_le h2 h1
  refine lv_if_ge C.x C.b hdg ht (fun h => ?_) (fun h => ?_)
  · have h9 := q.mp h
    exact kt h9 (by rw [if_pos h9] at hf; exact hf)
  · have h9 : ¬ (0 ≤ x) := fun z => h (q.mpr z)
    exact kf h9 (by rw [if_neg h9] at hf; exact hf)
theorem np_icmp_gt (C : np_Cx gA p R s m args c D cl tys A Ts own cc nL rm) {x y : Int} {off : Int} {tgt : Nat} (hdg : decode cc pc = .ok (.if_icmp .gt off, 3)) (ht : (pc : Int) + off = (tgt : Int)) {α : Type} {f1 f2 : Option α} {o : α} (hf : np_ck (np_R x ∧ np_R y) (if y < x then f1 else f2) = some o) (kt : y < x → f1 = some o → W p l e R s m args below meth c H locs cells slots Q (F0 m tgt ls rest)) (kf : ¬ (y < x) → f2 = some o → W p l e R s m args below meth c H locs cells slots Q (F0 m (pc + 3) ls rest)) : W p l e R s m args below meth c H locs cells slots Q (F0 m pc ls (.int (np_i y) :: .int (np_i x) :: rest)) := by
  obtain ⟨⟨h1, h2⟩, hf⟩ := np_ck_e hf
  have q := np_lt h2 h1
  refine lv_icmp_gt C.x C.b hdg ht (fun h => ?_) (fun h => ?_)
  · have h9 := q.mp h
    exact kt h9 (by rw [if_pos h9] at hf; exact hf)
  · have h9 : ¬ (y < x) := fun z => h (q.mpr z)
    exact kf h9 (by rw [if_neg h9] at hf; exact hf)
theorem np_if_gt (C : np_Cx gA p R s m args c D cl tys A Ts own cc nL rm) {x : Int} {off : Int} {tgt : Nat} (hdg : decode cc pc = .ok (.ifCond .gt off, 3)) (ht : (pc : Int) + off = (tgt : Int)) {α : Type} {f1 f2 : Option α} {o : α} (hf : np_ck (np_R x) (if 0 < x then f1 else f2) = some o) (kt : 0 < x → f1 = some o → W p l e R s m args below meth c H locs cells slots Q (F0 m tgt ls rest)) (kf : ¬ (0 < x) → f2 = some o → W p l e R s m args below meth c H locs cells slots Q (F0 m (pc + 3) ls rest)) : W p l e R s m args below meth c H locs cells slots Q (F0 m pc ls (.int (np_i x) :: rest)) := by
  obtain ⟨h1, hf⟩ := np_ck_e hf
  have h2 := np_R0
  have q := np_lt h2 h1
  refine lv_if_gt C.x C.b hdg ht (fun h => ?_) (fun h => ?_)
  · have h9 := q.mp h
    exact kt h9 (by rw [if_pos h9] at hf; exact hf)
  · have h9 : ¬ (0 < x) := fun z => h (q.mpr z)
    exact kf h9 (by rw [if_neg h9] at hf; exact hf)
theorem np_icmp_le (C : np_Cx gA p R s m args c D cl tys A Ts own cc nL rm) {x y : Int} {off : Int} {tgt : Nat} (hdg : decode cc pc = .ok (.if_icmp .le off, 3)) (ht : (pc : Int) + off = (tgt : Int)) {α : Type} {f1 f2 : Option α} {o : α} (hf : np_ck (np_R x ∧ np_R y) (if x ≤ y then f1 else f2) = some o) (kt : x ≤ y → f1 = some o → W p l e R s m args below meth c H locs cells slots Q (F0 m tgt ls rest)) (kf : ¬ (x ≤ y) → f2 = some o → W p l e R s m args below meth c H locs cells slots Q (F0 m (pc + 3) ls rest)) : W p l e R s m args below meth c H locs cells slots Q (F0 m pc ls (.int (np_i y) :: .int (np_i x) :: rest)) := by
  obtain ⟨⟨h1, h2⟩, hf⟩ := np_ck_e hf
  have q := np_le h1 h2
  refine lv_icmp_le C.x C.b hdg ht (fun h => ?_) (fun h => ?_)
  · have h9 := q.mp h
    exact kt h9 (by rw [if_pos h9] at hf; exact hf)
  · have h9 : ¬ (x ≤ y) := fun z => h (q.mpr z)
    exact kf h9 (by rw [if_neg h9] at hf; exact hf)
theorem np_if_le (C : np_Cx gA p R s m args c D cl tys A Ts own cc nL rm) {x : Int} {off : Int} {tgt : Nat} (hdg : decode cc pc = .ok (.ifCond .le off, 3)) (ht : (pc : Int) + off = (tgt : Int)) {α : Type} {f1 f2 : Option α} {o : α} (hf : np_ck (np_R x) (if x ≤ 0 then f1 else f2) = some o) (kt : x ≤ 0 → f1 = some o → W p l e R s m args below meth c H locs cells slots Q (F0 m tgt ls rest)) (kf : ¬ (x ≤ 0) → f2 = some o → W p l e R s m args below meth c H locs cells slots Q (F0 m (pc + 3) ls rest)) : W p l e R s m args below meth c H locs cells slots Q (F0 m pc ls (.int (np_i x) :: rest)) := by
  obtain ⟨h1, hf⟩ := np_ck_e hf
  have h2 := np_R0
  have q := np_le h1 h2
  refine lv_if_le C.x C.b hdg ht (fun h => ?_) (fun h => ?_)
  · have h9 := q.mp h
    exact kt h9 (by rw [if_pos h9] at hf; exact hf)
  · have h9 : ¬ (x ≤ 0) := fun z => h (q.mpr z)
    exact kf h9 (by rw [if_neg h9] at hf; exact hf)
theorem np_case {α : Type} {P : Prop} {x k : Int} {f1 f2 : Option α} {o : α} (hf : (if x = k then f1 else f2) = some o) (k1 : x = k → f1 = some o → P) (k2 : ¬ x = k → f2 = some o → P) : P := by
  by_cases h : x = k
  · exact k1 h (by rw [if_pos h] at hf; exact hf)
  · exact k2 h (by rw [if_neg h] at hf; exact hf)
theorem np_tswI (C : np_Cx gA p R s m args c D cl tys A Ts own cc nL rm) {dflt lo hi : Int} {offs : Array Int} {len : Nat} {x k : Int} {off : Int} {tgt : Nat} (hdg : decode cc pc = .ok (.tableswitch dflt lo hi offs, len)) (hx : x = k) (h1 : ¬ (np_i k).toInt < lo) (h2 : ¬ hi < (np_i k).toInt) (ho : offs[((np_i k).toInt - lo).toNat]? = some off) (ht : (pc : Int) + off = (tgt : Int)) (kk : W p l e R s m args below meth c H locs cells slots Q (F0 m tgt ls rest)) : W p l e R s m args below meth c H locs cells slots Q (F0 m pc ls (.int (np_i x) :: rest)) := by
  subst hx
  exact lv_tableIn C.x C.b hdg h1 h2 ho ht kk
theorem np_tswO (C : np_Cx gA p R s m args c D cl tys A Ts own cc nL rm) {dflt lo hi : Int} {offs : Array Int} {len : Nat} {x : Int} {tgt : Nat} (hdg : decode cc pc = .ok (.tableswitch dflt lo hi offs, len)) (hR : np_R x) (h : x < lo ∨ hi < x) (ht : (pc : Int) + dflt = (tgt : Int)) (kk : W p l e R s m args below meth c H locs cells slots Q (F0 m tgt ls rest)) : W p l e R s m args below meth c H locs cells slots Q (F0 m pc ls (.int (np_i x) :: rest)) :=
  lv_tableOut C.x C.b hdg (by rw [np_toInt hR]; exact h) ht kk
theorem np_lswI (C : np_Cx gA p R s m args c D cl tys A Ts own cc nL rm) {dflt : Int} {ps : Array (Int × Int)} {len : Nat} {x k : Int} {off : Int} {tgt : Nat} (hdg : decode cc pc = .ok (.lookupswitch dflt ps, len)) (hx : x = k) (hp : (ps.toList.zip (ps.toList.drop 1)).all (fun (a, next) => a.1 < next.1) = true) (ho : Op.lookupswitch.offset ps.toList dflt (np_i k).toInt = off) (ht : (pc : Int) + off = (tgt : Int)) (kk : W p l e R s m args below meth c H locs cells slots Q (F0 m tgt ls rest)) : W p l e R s m args below meth c H locs cells slots Q (F0 m pc ls (.int (np_i x) :: rest)) := by
  subst hx
  exact lv_lookup C.x C.b hdg hp ho ht kk
theorem np_losw : ∀ (r : List (Int × Int)) (d x : Int), (∀ q ∈ r, ¬ x = q.1) → Op.lookupswitch.offset r d x = d
  | [], d, x, _ => rfl
  | (a, o) :: r, d, x, h => by
    rw [Op.lookupswitch.offset_cons, if_neg (fun q => h (a, o) List.mem_cons_self q.symm)]
    exact np_losw r d x (fun q hq => h q (List.mem_cons_of_mem _ hq))
theorem np_lswO (C : np_Cx gA p R s m args c D cl tys A Ts own cc nL rm) {dflt : Int} {ps : Array (Int × Int)} {len : Nat} {x : Int} {tgt : Nat} (hdg : decode cc pc = .ok (.lookupswitch dflt ps, len)) (hR : np_R x) (hp : (ps.toList.zip (ps.toList.drop 1)).all (fun (a, next) => a.1 < next.1) = true) (h : ∀ q ∈ ps.toList, ¬ x = q.1) (ht : (pc : Int) + dflt = (tgt : Int)) (kk : W p l e R s m args below meth c H locs cells slots Q (F0 m tgt ls rest)) : W p l e R s m args below meth c H locs cells slots Q (F0 m pc ls (.int (np_i x) :: rest)) :=
  lv_lookup C.x C.b hdg hp (by rw [np_toInt hR]; exact np_losw _ _ _ h) ht kk
theorem np_ldc (C : np_Cx gA p R s m args c D cl tys A Ts own cc nL rm) {index : Nat} {v : Int} (hw : Jvm.Cond.constant own index (np_i v) ∈ Ts) (hdg : decode cc pc = .ok (.ldc index, 2)) (k : W p l e R s m args below meth c H locs cells slots Q (F0 m (pc + 2) ls (.int (np_i v) :: rest))) : W p l e R s m args below meth c H locs cells slots Q (F0 m pc ls rest) := lv_ldc C.x C.b C.o (C.t _ hw) hdg k
theorem np_ldc2 (C : np_Cx gA p R s m args c D cl tys A Ts own cc nL rm) {index : Nat} {v : Int} (hw : Jvm.Cond.constantLong own index (np_l v) ∈ Ts) (hdg : decode cc pc = .ok (.ldc2_w index, 3)) (k : W p l e R s m args below meth c H locs cells slots Q (F0 m (pc + 3) ls (.long (np_l v) :: rest))) : W p l e R s m args below meth c H locs cells slots Q (F0 m pc ls rest) := lv_ldc2 C.x C.b C.o (C.t _ hw) hdg k
theorem np_get (C : np_Cx gA p R s m args c D cl tys A Ts own cc nL rm) {ref Cn : String} {T : u_T} {N ci index a : Nat} {ws : va_W} {fs : List Value} {v : Value} (hin : ∀ w ∈ u_ws Cn T N, w ∈ Ts) (hP : va_P D cl ws H) (k : Nat) (he : ws[k]? = some (a, .inr (ci, fs))) (hc : cl[ci]? = some (Cn, T, N)) (j : Nat) (hj : j < N) (hw : Cond.fieldLink own index ref (T j).2.1 (T j).2.2.1 ∈ Ts) (hsame : (T j).1 = ref) (hv : fs[j]? = some v) (hdg : decode cc pc = .ok (.getfield index, 3)) (kk : W p l e R s m args below meth c H locs cells slots Q (F0 m (pc + 3) ls (v :: rest))) : W p l e R s m args below meth c H locs cells slots Q (F0 m pc ls (.ref a :: rest)) :=
  va_get C.x C.b C.t hin C.o C.k hP k he hc j hj (C.t _ hw) (fun x h => hsame ▸ h) hv hdg kk
theorem np_put (C : np_Cx gA p R s m args c D cl tys A Ts own cc nL rm) {ref Cn : String} {T : u_T} {N ci index a : Nat} {fs : List Value} {v : Value} {σ2 : np_S} (hin : ∀ w ∈ u_ws Cn T N, w ∈ Ts) (ty0 : Nat → FieldType) (hty : ∀ k, k < N → parseFieldDescriptor (T k).2.2.1 = some (ty0 k)) (hnm : ∀ a, a < N → ∀ b, b < N → a ≠ b → (T a).2.1 ≠ (T b).2.1) (hat : np_At D cl A wd s σ H locs) (k : Nat) (he : (wd σ)[k]? = some (a, .inr (ci, fs))) (hc : cl[ci]? = some (Cn, T, N)) (j : Nat) (hj : j < N) (hw : Cond.fieldLink own index ref (T j).2.1 (T j).2.2.1 ∈ Ts) (hsame : (T j).1 = ref) (hfin : (T j).2.2.2 = false) {ty : FieldType} (hd : parseFieldDescriptor (T j).2.2.1 = some ty) (hn : narrow ty v = v) (hfit : fits ty v = true) (hl : j < fs.length) (hset : (wd σ).set k (a, .inr (ci, fs.set j v)) = wd σ2) (hdg : decode cc pc = .ok (.putfield index, 3)) (kk : ∀ (H : Heap) (locs : List Loc), np_At D cl A wd s σ2 H locs → W p l e R s m args below meth c H locs cells slots Q (F0 m (pc + 3) ls rest)) : W p l e R s m args below meth c H locs cells slots Q (F0 m pc ls (v :: .ref a :: rest)) :=
  va_put C.x C.b C.t hin ty0 hty hnm C.o C.k hat.1 hat.2.1 hat.2.2 k he hc j hj (C.t _ hw) (fun x h => hsame ▸ h) hfin hd hn hfit hl hdg (fun H1 locs1 h1 h2 h3 => kk H1 locs1 ⟨hset ▸ h1, hset ▸ h2, h3⟩)
theorem np_iaload (C : np_Cx gA p R s m args c D cl tys A Ts own cc nL rm) {ws : va_W} {a n kk0 : Nat} {cA : ClassId} {j : Int} (hP : va_P D cl ws H) (k : Nat) (he : ws[k]? = some (a, .inl (cA, n, .inl (fun i => np_i (σ kk0 i))))) (t : Nat) (ht : tys[t]? = some (cA, .int)) (hn : n < 2147483648) (hdg : decode cc pc = .ok (.iaload, 1)) {α : Type} {f1 : Option α} {o : α} (hf : np_ck (0 ≤ j ∧ j < (n : Int)) f1 = some o) (kk : f1 = some o → W p l e R s m args below meth c H locs cells slots Q (F0 m (pc + 1) ls (.int (np_i (σ kk0 j)) :: rest))) : W p l e R s m args below meth c H locs cells slots Q (F0 m pc ls (.int (np_i j) :: .ref a :: rest)) := by
  obtain ⟨⟨h1, h2⟩, hf⟩ := np_ck_e hf
  refine va_iald C.x C.b C.k hP k t he ht (np_in h1 h2 hn) hdg ?_
  rw [np_clamp h1 ⟨by omega, by omega⟩, Int.toNat_of_nonneg h1]
  exact kk hf
theorem np_baload (C : np_Cx gA p R s m args c D cl tys A Ts own cc nL rm) {ws : va_W} {a n kk0 : Nat} {cA : ClassId} {j : Int} (hP : va_P D cl ws H) (k : Nat) (he : ws[k]? = some (a, .inl (cA, n, .inl (fun i => np_i (σ kk0 i))))) (t : Nat) (ht : tys[t]? = some (cA, .byte)) (hn : n < 2147483648) (hdg : decode cc pc = .ok (.baload, 1)) {α : Type} {f1 : Option α} {o : α} (hf : np_ck (0 ≤ j ∧ j < (n : Int)) f1 = some o) (kk : f1 = some o → W p l e R s m args below meth c H locs cells slots Q (F0 m (pc + 1) ls (.int (np_i (σ kk0 j)) :: rest))) : W p l e R s m args below meth c H locs cells slots Q (F0 m pc ls (.int (np_i j) :: .ref a :: rest)) := by
  obtain ⟨⟨h1, h2⟩, hf⟩ := np_ck_e hf
  refine va_bald C.x C.b C.k hP k t he ht (np_in h1 h2 hn) hdg ?_
  rw [np_clamp h1 ⟨by omega, by omega⟩, Int.toNat_of_nonneg h1]
  exact kk hf
theorem np_laload (C : np_Cx gA p R s m args c D cl tys A Ts own cc nL rm) {ws : va_W} {a n kk0 : Nat} {cA : ClassId} {j : Int} (hP : va_P D cl ws H) (k : Nat) (he : ws[k]? = some (a, .inl (cA, n, .inr (.inl (fun i => np_l (σ kk0 i)))))) (t : Nat) (ht : tys[t]? = some (cA, .long)) (hn : n < 2147483648) (hdg : decode cc pc = .ok (.laload, 1)) {α : Type} {f1 : Option α} {o : α} (hf : np_ck (0 ≤ j ∧ j < (n : Int)) f1 = some o) (kk : f1 = some o → W p l e R s m args below meth c H locs cells slots Q (F0 m (pc + 1) ls (.long (np_l (σ kk0 j)) :: rest))) : W p l e R s m args below meth c H locs cells slots Q (F0 m pc ls (.int (np_i j) :: .ref a :: rest)) := by
  obtain ⟨⟨h1, h2⟩, hf⟩ := np_ck_e hf
  refine va_lald C.x C.b C.k hP k t he ht (np_in h1 h2 hn) hdg ?_
  rw [np_clamp h1 ⟨by omega, by omega⟩, Int.toNat_of_nonneg h1]
  exact kk hf
theorem np_updI {f : Int → Int} {j v : Int} (h : 0 ≤ j) (hR : np_R j) : upd (fun i : Nat => np_i (f i)) (np_i j).toNatClampNeg (np_i v) = fun i : Nat => np_i (if (i : Int) = j then v else f i) := by
  funext i
  rw [np_clamp h hR]
  by_cases q : i = j.toNat
  · subst q
    rw [if_pos (by omega)]
    simp [upd]
  · rw [if_neg (by omega)]
    simp [upd, q]
theorem np_updL {f : Int → Int} {j v : Int} (h : 0 ≤ j) (hR : np_R j) : vp_updL (fun i : Nat => np_l (f i)) (np_i j).toNatClampNeg (np_l v) = fun i : Nat => np_l (if (i : Int) = j then v else f i) := by
  funext i
  rw [np_clamp h hR]
  by_cases q : i = j.toNat
  · subst q
    rw [if_pos (by omega)]
    simp [vp_updL]
  · rw [if_neg (by omega)]
    simp [vp_updL, q]
theorem np_iastore (C : np_Cx gA p R s m args c D cl tys A Ts own cc nL rm) {a n kk0 : Nat} {cA : ClassId} {j x : Int} {σ2 : np_S} (hat : np_At D cl A wd s σ H locs) (k : Nat) (he : (wd σ)[k]? = some (a, .inl (cA, n, .inl (fun i => np_i (σ kk0 i))))) (t : Nat) (ht : tys[t]? = some (cA, .int)) (hn : n < 2147483648) (hset : (wd σ).set k (a, .inl (cA, n, .inl (fun i : Nat => np_i (if (i : Int) = j then x else σ kk0 i)))) = wd σ2) (hdg : decode cc pc = .ok (.iastore, 1)) {α : Type} {f1 : Option α} {o : α} (hf : np_ck (0 ≤ j ∧ j < (n : Int)) f1 = some o) (kk : ∀ (H : Heap) (locs : List Loc), np_At D cl A wd s σ2 H locs → f1 = some o → W p l e R s m args below meth c H locs cells slots Q (F0 m (pc + 1) ls rest)) : W p l e R s m args below meth c H locs cells slots Q (F0 m pc ls (.int (np_i x) :: .int (np_i j) :: .ref a :: rest)) := by
  obtain ⟨⟨g1, g2⟩, hf⟩ := np_ck_e hf
  have hR : np_R j := ⟨by omega, by omega⟩
  refine va_iast C.x C.b C.k hat.1 hat.2.1 hat.2.2 k t he ht (np_in g1 g2 hn) hdg (fun H1 locs1 h1 h2 h3 => ?_)
  rw [np_updI g1 hR] at h1 h2
  exact kk H1 locs1 ⟨hset ▸ h1, hset ▸ h2, h3⟩ hf
theorem np_bastore (C : np_Cx gA p R s m args c D cl tys A Ts own cc nL rm) {a n kk0 : Nat} {cA : ClassId} {j x : Int} {σ2 : np_S} (hat : np_At D cl A wd s σ H locs) (k : Nat) (he : (wd σ)[k]? = some (a, .inl (cA, n, .inl (fun i => np_i (σ kk0 i))))) (t : Nat) (ht : tys[t]? = some (cA, .byte)) (hn : n < 2147483648) (hset : (wd σ).set k (a, .inl (cA, n, .inl (fun i : Nat => np_i (if (i : Int) = j then Int.bmod x 256 else σ kk0 i)))) = wd σ2) (hdg : decode cc pc = .ok (.bastore, 1)) {α : Type} {f1 : Option α} {o : α} (hf : np_ck (0 ≤ j ∧ j < (n : Int)) f1 = some o) (kk : ∀ (H : Heap) (locs : List Loc), np_At D cl A wd s σ2 H locs → f1 = some o → W p l e R s m args below meth c H locs cells slots Q (F0 m (pc + 1) ls rest)) : W p l e R s m args below meth c H locs cells slots Q (F0 m pc ls (.int (np_i x) :: .int (np_i j) :: .ref a :: rest)) := by
  obtain ⟨⟨g1, g2⟩, hf⟩ := np_ck_e hf
  have hR : np_R j := ⟨by omega, by omega⟩
  refine va_bast C.x C.b C.k hat.1 hat.2.1 hat.2.2 k t he ht (np_in g1 g2 hn) hdg (fun H1 locs1 h1 h2 h3 => ?_)
  rw [vp_nar_byte, np_byte] at h1 h2; rw [np_updI g1 hR] at h1 h2
  exact kk H1 locs1 ⟨hset ▸ h1, hset ▸ h2, h3⟩ hf
theorem np_lastore (C : np_Cx gA p R s m args c D cl tys A Ts own cc nL rm) {a n kk0 : Nat} {cA : ClassId} {j x : Int} {σ2 : np_S} (hat : np_At D cl A wd s σ H locs) (k : Nat) (he : (wd σ)[k]? = some (a, .inl (cA, n, .inr (.inl (fun i => np_l (σ kk0 i)))))) (t : Nat) (ht : tys[t]? = some (cA, .long)) (hn : n < 2147483648) (hset : (wd σ).set k (a, .inl (cA, n, .inr (.inl (fun i : Nat => np_l (if (i : Int) = j then x else σ kk0 i))))) = wd σ2) (hdg : decode cc pc = .ok (.lastore, 1)) {α : Type} {f1 : Option α} {o : α} (hf : np_ck (0 ≤ j ∧ j < (n : Int)) f1 = some o) (kk : ∀ (H : Heap) (locs : List Loc), np_At D cl A wd s σ2 H locs → f1 = some o → W p l e R s m args below meth c H locs cells slots Q (F0 m (pc + 1) ls rest)) : W p l e R s m args below meth c H locs cells slots Q (F0 m pc ls (.long (np_l x) :: .int (np_i j) :: .ref a :: rest)) := by
  obtain ⟨⟨g1, g2⟩, hf⟩ := np_ck_e hf
  have hR : np_R j := ⟨by omega, by omega⟩
  refine va_last C.x C.b C.k hat.1 hat.2.1 hat.2.2 k t he ht (np_in g1 g2 hn) hdg (fun H1 locs1 h1 h2 h3 => ?_)
  rw [np_updL g1 hR] at h1 h2
  exact kk H1 locs1 ⟨hset ▸ h1, hset ▸ h2, h3⟩ hf
theorem np_alen (C : np_Cx gA p R s m args c D cl tys A Ts own cc nL rm) {ws : va_W} {a : Nat} {n : Int} {cA : ClassId} {x : vp_A} {ty : FieldType} (hP : va_P D cl ws H) (k : Nat) (he : ws[k]? = some (a, .inl (cA, x))) (t : Nat) (ht : tys[t]? = some (cA, ty)) (hv : Int32.ofNat x.1 = np_i n) (hdg : decode cc pc = .ok (.arraylength, 1)) (kk : W p l e R s m args below meth c H locs cells slots Q (F0 m (pc + 1) ls (.int (np_i n) :: rest))) : W p l e R s m args below meth c H locs cells slots Q (F0 m pc ls (.ref a :: rest)) :=
  va_alen C.x C.b C.k hP k t he ht hv hdg kk
end NPR
end
section
/-- a contract's start: the whole world, holding σ -/
def np_Pre (gA : Nat → Nat) (D : va_G) (cl : List vw_C) (tys : List (ClassId × FieldType)) (wd : np_S → va_W) (σ : np_S) (sz : Nat) : State → Prop := fun U => U.heap.size = sz ∧ va_P D cl (wd σ) U.heap ∧ va_K D cl tys U ∧ va_D (fun _ => True) (wd σ) ∧ np_E gA (va_A (wd σ) sz) U U.heap
def np_B (D : va_G) (cl : List vw_C) (tys : List (ClassId × FieldType)) (A : Nat → Prop) (wd : np_S → va_W) : np_S → State → Prop := fun u t => va_P D cl (wd u) t.heap ∧ va_K D cl tys t ∧ va_D A (wd u)
/-- contracts: where the function fy answers o, the method answers o.1 and leaves the store o.2 -/
def np_Mi (gA : Nat → Nat) (l : Launch) (D : va_G) (cl : List vw_C) (tys : List (ClassId × FieldType)) (wd : np_S → va_W) (y : MethodName) (ws : List Cond) (rm : Room) (avs : List Value) (σ : np_S) (fy : Option np_O) : Prop :=
  ∀ (sz : Nat) (o : np_O), fy = some o → Met l y ws rm (va_Pc avs (np_Pre gA D cl tys wd σ sz)) (va_Qi (fun (r : Int32) (u : np_S) => r = np_i o.1 ∧ u = o.2) (np_B D cl tys (va_A (wd σ) sz) wd) (va_A (wd σ) sz)) 0 0 (va_A (wd σ) sz)
def np_Ml (gA : Nat → Nat) (l : Launch) (D : va_G) (cl : List vw_C) (tys : List (ClassId × FieldType)) (wd : np_S → va_W) (y : MethodName) (ws : List Cond) (rm : Room) (avs : List Value) (σ : np_S) (fy : Option np_O) : Prop :=
  ∀ (sz : Nat) (o : np_O), fy = some o → Met l y ws rm (va_Pc avs (np_Pre gA D cl tys wd σ sz)) (va_Ql (fun (r : Int64) (u : np_S) => r = np_l o.1 ∧ u = o.2) (np_B D cl tys (va_A (wd σ) sz) wd) (va_A (wd σ) sz)) 0 0 (va_A (wd σ) sz)
def np_Mv (gA : Nat → Nat) (l : Launch) (D : va_G) (cl : List vw_C) (tys : List (ClassId × FieldType)) (wd : np_S → va_W) (y : MethodName) (ws : List Cond) (rm : Room) (avs : List Value) (σ : np_S) (fy : Option np_O) : Prop :=
  ∀ (sz : Nat) (o : np_O), fy = some o → Met l y ws rm (va_Pc avs (np_Pre gA D cl tys wd σ sz)) (va_Qv (fun (u : np_S) => u = o.2) (np_B D cl tys (va_A (wd σ) sz) wd) (va_A (wd σ) sz)) 0 0 (va_A (wd σ) sz)
abbrev np_good (AL : List Cond) : Prop := ∀ w ∈ AL, (w.onTables && w.keeps) = true ∨ ∃ ty, w = .arrayClass ty
theorem np_goodIn {AL ws : List Cond} (hall : np_good AL) (h : ∀ w ∈ ws, w ∈ AL) : GoodIn AL ws := fun w hw => ⟨h w hw, hall w (h w hw)⟩
theorem np_blind {gA : Nat → Nat} {D : va_G} {cl : List vw_C} {tys : List (ClassId × FieldType)} {wd : np_S → va_W} {σ : np_S} {sz : Nat} {avs : List Value} : FrameBlind (va_Pc avs (np_Pre gA D cl tys wd σ sz)) := by
  intro a U g mk q
  obtain ⟨q0, q1, qP, qK, qD, qE⟩ := q
  exact ⟨q0, q1, qP, va_K.moved (u := U) (U := U.calling g mk a) (Vm.Alike.refl U.vm) qK, qD, np_E.same (u := U) rfl qE⟩
section NPC
variable {p : Program} {l : Launch} {e : Env} {R : Room} {s : State} {m : MethodId} {args : Array Value} {below : List Frame} {meth : Method} {c : Code} {H : Heap} {locs : List Loc} {cells slots : Nat} {Q : State → Prop}
variable {cc : ByteArray} {pc : Nat} {ls : Array Slot} {rest : List Value} {D : va_G} {cl : List vw_C} {tys : List (ClassId × FieldType)} {A : Nat → Prop} {Ts : List Cond} {own : String} {nL : Nat} {rm : Room} {wd : np_S → va_W} {σ : np_S} {gA : Nat → Nat}
theorem np_freeA (C : np_Cx gA p R s m args c D cl tys A Ts own cc nL rm) (hat : np_At D cl A wd s σ H locs) : ∀ q, va_A (wd σ) H.size q → A q := by
  intro q h
  rcases h with ⟨k, e, h⟩ | h
  · exact hat.2.1.2 k _ h
  · exact C.a q (Nat.le_trans hat.2.2.1 h)
theorem np_preU (C : np_Cx gA p R s m args c D cl tys A Ts own cc nL rm) (hat : np_At D cl A wd s σ H locs) {avs : List Value} : ∀ U : State, U.heap = H → s.WarmedH U.vm → va_Pc avs (np_Pre gA D cl tys wd σ H.size) avs.toArray U := fun U hU hW => ⟨rfl, by rw [hU], by rw [hU]; exact hat.1, va_K.moved hW.alike C.k, hat.2.1.weaken (fun _ _ _ _ => trivial), by rw [hU]; exact ((C.en.kept hat.2.2.2.1).narrow (np_freeA C hat)).warm hW⟩
theorem np_callVi (C : np_Cx gA p R s m args c D cl tys A Ts own cc nL rm) {y : MethodName} {bytes : ByteArray} {maxL index : Nat} {nA : Nat} {ret : Option FieldType} {rmy : Room} {As st : List Value} {a : Nat} {fy : Option np_O} (hM : np_Mi gA l D cl tys wd y (.code y bytes maxL ret :: Ts) rmy (.ref a :: As) σ fy) (hall : np_good Ts) (w1 : .methodLink own index y ∈ Ts) (w2 : .instanceMethod y ∈ Ts) (w3 : .selects y.cls y y ∈ Ts) (w4 : .initialized y.cls ∈ Ts) (w5 : .code y bytes maxL ret ∈ Ts) (hd : y.cls ≠ "java/lang/invoke/MethodHandle" ∧ y.cls ≠ "java/lang/invoke/VarHandle" ∧ (parseMethodDescriptor y.desc).map (fun d => d.parameters.length) = some nA) (hnA : As.length = nA) (hR : rmy.cells = 0 ∧ rmy.slots = 0 ∧ rmy.frames + 1 ≤ rm.frames ∧ 8 + (maxL + 11) + rmy.locals ≤ rm.locals) {ci : Nat} {fs : List Value} {T : u_T} {N : Nat} {kc : Nat} (he : (wd σ)[kc]? = some (a, .inr (ci, fs))) (hc : cl[ci]? = some (y.cls, T, N)) (hat : np_At D cl A wd s σ H locs) (hst : st = As.reverse ++ .ref a :: rest) (hls : ls.size = nL) (hrest : (rest.map fun v => v.category).sum ≤ 8) (hdg : decode cc pc = .ok (.invokevirtual index, 3)) {α : Type} {k : np_O → Option α} {o : α} (hf : fy.bind k = some o)
    (kk : ∀ (r : np_O) (H : Heap) (locs : List Loc), k r = some o → np_At D cl A wd s r.2 H locs → W p l e R s m args below meth c H locs 0 0 Q (F0 m (pc + 3) ls (.int (np_i r.1) :: rest))) : W p l e R s m args below meth c H locs 0 0 Q (F0 m pc ls st) := by
  obtain ⟨r, hfy, hfk⟩ := Option.bind_eq_some_iff.mp hf
  have hFc := np_freeA C hat
  subst hst
  have hRR : rmy.frames + 1 ≤ R.frames ∧ 8 + (maxL + 11) + rmy.locals ≤ R.locals := by rw [C.r]; exact hR.2.2
  have hG : ∀ w ∈ (.code y bytes maxL ret :: Ts), w ∈ Ts := fun w hw => by
    rcases List.mem_cons.mp hw with rfl | hw
    · exact w5
    · exact hw
  refine va_calli (va_runV (As := As) (rest := rest) C.1 (hM H.size r hfy) ⟨callB_of nA C.t (np_goodIn hall hG) rfl hR.1 hR.2.1 (C.t _ w4) (C.t _ w1) hd hRR, C.t _ w2, C.t _ w3⟩ ⟨np_blind, va_recv C.k hat.1 hc he, np_preU C hat⟩ rfl hnA hls rfl (lv_room hrest) hdg ⟨Nat.zero_le _, Nat.zero_le _⟩) hat.2.2 (fun q _ h => hFc q h) hFc (fun r1 u t H1 locs ht hvm hw hB hz1 hk1 hS => ?_)
  obtain ⟨rfl, rfl⟩ := hw
  obtain ⟨hP1, hK1, hD1⟩ := hB
  rw [ht] at hP1
  exact kk r H1 locs hfk ⟨hP1, hD1.weaken (fun _ _ _ h => hFc _ h), hS⟩
theorem np_callSi (C : np_Cx gA p R s m args c D cl tys A Ts own cc nL rm) {y : MethodName} {bytes : ByteArray} {maxL index : Nat} {nA : Nat} {ret : Option FieldType} {rmy : Room} {As st : List Value} {fy : Option np_O} (hM : np_Mi gA l D cl tys wd y (.code y bytes maxL ret :: Ts) rmy As σ fy) (hall : np_good Ts) (w1 : .methodLink own index y ∈ Ts) (w2 : .static y ∈ Ts) (w4 : .initialized y.cls ∈ Ts) (w5 : .code y bytes maxL ret ∈ Ts) (hd : y.cls ≠ "java/lang/invoke/MethodHandle" ∧ y.cls ≠ "java/lang/invoke/VarHandle" ∧ (parseMethodDescriptor y.desc).map (fun d => d.parameters.length) = some nA) (hnA : As.length = nA) (hR : rmy.cells = 0 ∧ rmy.slots = 0 ∧ rmy.frames + 1 ≤ rm.frames ∧ 8 + (maxL + 11) + rmy.locals ≤ rm.locals) (hat : np_At D cl A wd s σ H locs) (hst : st = As.reverse ++ rest) (hls : ls.size = nL) (hrest : (rest.map fun v => v.category).sum ≤ 8) (hdg : decode cc pc = .ok (.invokestatic index, 3)) {α : Type} {k : np_O → Option α} {o : α} (hf : fy.bind k = some o)
    (kk : ∀ (r : np_O) (H : Heap) (locs : List Loc), k r = some o → np_At D cl A wd s r.2 H locs → W p l e R s m args below meth c H locs 0 0 Q (F0 m (pc + 3) ls (.int (np_i r.1) :: rest))) : W p l e R s m args below meth c H locs 0 0 Q (F0 m pc ls st) := by
  obtain ⟨r, hfy, hfk⟩ := Option.bind_eq_some_iff.mp hf
  have hFc := np_freeA C hat
  subst hst
  have hRR : rmy.frames + 1 ≤ R.frames ∧ 8 + (maxL + 11) + rmy.locals ≤ R.locals := by rw [C.r]; exact hR.2.2
  have hG : ∀ w ∈ (.code y bytes maxL ret :: Ts), w ∈ Ts := fun w hw => by
    rcases List.mem_cons.mp hw with rfl | hw
    · exact w5
    · exact hw
  refine va_calli (va_runS (As := As) (rest := rest) C.1 (hM H.size r hfy) ⟨callB_of nA C.t (np_goodIn hall hG) rfl hR.1 hR.2.1 (C.t _ w4) (C.t _ w1) hd hRR, C.t _ w2⟩ ⟨np_blind, np_preU C hat⟩ rfl hnA hls rfl (lv_room hrest) hdg ⟨Nat.zero_le _, Nat.zero_le _⟩) hat.2.2 (fun q _ h => hFc q h) hFc (fun r1 u t H1 locs ht hvm hw hB hz1 hk1 hS => ?_)
  obtain ⟨rfl, rfl⟩ := hw
  obtain ⟨hP1, hK1, hD1⟩ := hB
  rw [ht] at hP1
  exact kk r H1 locs hfk ⟨hP1, hD1.weaken (fun _ _ _ h => hFc _ h), hS⟩
theorem np_callVl (C : np_Cx gA p R s m args c D cl tys A Ts own cc nL rm) {y : MethodName} {bytes : ByteArray} {maxL index : Nat} {nA : Nat} {ret : Option FieldType} {rmy : Room} {As st : List Value} {a : Nat} {fy : Option np_O} (hM : np_Ml gA l D cl tys wd y (.code y bytes maxL ret :: Ts) rmy (.ref a :: As) σ fy) (hall : np_good Ts) (w1 : .methodLink own index y ∈ Ts) (w2 : .instanceMethod y ∈ Ts) (w3 : .selects y.cls y y ∈ Ts) (w4 : .initialized y.cls ∈ Ts) (w5 : .code y bytes maxL ret ∈ Ts) (hd : y.cls ≠ "java/lang/invoke/MethodHandle" ∧ y.cls ≠ "java/lang/invoke/VarHandle" ∧ (parseMethodDescriptor y.desc).map (fun d => d.parameters.length) = some nA) (hnA : As.length = nA) (hR : rmy.cells = 0 ∧ rmy.slots = 0 ∧ rmy.frames + 1 ≤ rm.frames ∧ 8 + (maxL + 11) + rmy.locals ≤ rm.locals) {ci : Nat} {fs : List Value} {T : u_T} {N : Nat} {kc : Nat} (he : (wd σ)[kc]? = some (a, .inr (ci, fs))) (hc : cl[ci]? = some (y.cls, T, N)) (hat : np_At D cl A wd s σ H locs) (hst : st = As.reverse ++ .ref a :: rest) (hls : ls.size = nL) (hrest : (rest.map fun v => v.category).sum ≤ 8) (hdg : decode cc pc = .ok (.invokevirtual index, 3)) {α : Type} {k : np_O → Option α} {o : α} (hf : fy.bind k = some o)
    (kk : ∀ (r : np_O) (H : Heap) (locs : List Loc), k r = some o → np_At D cl A wd s r.2 H locs → W p l e R s m args below meth c H locs 0 0 Q (F0 m (pc + 3) ls (.long (np_l r.1) :: rest))) : W p l e R s m args below meth c H locs 0 0 Q (F0 m pc ls st) := by
  obtain ⟨r, hfy, hfk⟩ := Option.bind_eq_some_iff.mp hf
  have hFc := np_freeA C hat
  subst hst
  have hRR : rmy.frames + 1 ≤ R.frames ∧ 8 + (maxL + 11) + rmy.locals ≤ R.locals := by rw [C.r]; exact hR.2.2
  have hG : ∀ w ∈ (.code y bytes maxL ret :: Ts), w ∈ Ts := fun w hw => by
    rcases List.mem_cons.mp hw with rfl | hw
    · exact w5
    · exact hw
  refine va_calll (va_runV (As := As) (rest := rest) C.1 (hM H.size r hfy) ⟨callB_of nA C.t (np_goodIn hall hG) rfl hR.1 hR.2.1 (C.t _ w4) (C.t _ w1) hd hRR, C.t _ w2, C.t _ w3⟩ ⟨np_blind, va_recv C.k hat.1 hc he, np_preU C hat⟩ rfl hnA hls rfl (lv_room hrest) hdg ⟨Nat.zero_le _, Nat.zero_le _⟩) hat.2.2 (fun q _ h => hFc q h) hFc (fun r1 u t H1 locs ht hvm hw hB hz1 hk1 hS => ?_)
  obtain ⟨rfl, rfl⟩ := hw
  obtain ⟨hP1, hK1, hD1⟩ := hB
  rw [ht] at hP1
  exact kk r H1 locs hfk ⟨hP1, hD1.weaken (fun _ _ _ h => hFc _ h), hS⟩
theorem np_callSl (C : np_Cx gA p R s m args c D cl tys A Ts own cc nL rm) {y : MethodName} {bytes : ByteArray} {maxL index : Nat} {nA : Nat} {ret : Option FieldType} {rmy : Room} {As st : List Value} {fy : Option np_O} (hM : np_Ml gA l D cl tys wd y (.code y bytes maxL ret :: Ts) rmy As σ fy) (hall : np_good Ts) (w1 : .methodLink own index y ∈ Ts) (w2 : .static y ∈ Ts) (w4 : .initialized y.cls ∈ Ts) (w5 : .code y bytes maxL ret ∈ Ts) (hd : y.cls ≠ "java/lang/invoke/MethodHandle" ∧ y.cls ≠ "java/lang/invoke/VarHandle" ∧ (parseMethodDescriptor y.desc).map (fun d => d.parameters.length) = some nA) (hnA : As.length = nA) (hR : rmy.cells = 0 ∧ rmy.slots = 0 ∧ rmy.frames + 1 ≤ rm.frames ∧ 8 + (maxL + 11) + rmy.locals ≤ rm.locals) (hat : np_At D cl A wd s σ H locs) (hst : st = As.reverse ++ rest) (hls : ls.size = nL) (hrest : (rest.map fun v => v.category).sum ≤ 8) (hdg : decode cc pc = .ok (.invokestatic index, 3)) {α : Type} {k : np_O → Option α} {o : α} (hf : fy.bind k = some o)
    (kk : ∀ (r : np_O) (H : Heap) (locs : List Loc), k r = some o → np_At D cl A wd s r.2 H locs → W p l e R s m args below meth c H locs 0 0 Q (F0 m (pc + 3) ls (.long (np_l r.1) :: rest))) : W p l e R s m args below meth c H locs 0 0 Q (F0 m pc ls st) := by
  obtain ⟨r, hfy, hfk⟩ := Option.bind_eq_some_iff.mp hf
  have hFc := np_freeA C hat
  subst hst
  have hRR : rmy.frames + 1 ≤ R.frames ∧ 8 + (maxL + 11) + rmy.locals ≤ R.locals := by rw [C.r]; exact hR.2.2
  have hG : ∀ w ∈ (.code y bytes maxL ret :: Ts), w ∈ Ts := fun w hw => by
    rcases List.mem_cons.mp hw with rfl | hw
    · exact w5
    · exact hw
  refine va_calll (va_runS (As := As) (rest := rest) C.1 (hM H.size r hfy) ⟨callB_of nA C.t (np_goodIn hall hG) rfl hR.1 hR.2.1 (C.t _ w4) (C.t _ w1) hd hRR, C.t _ w2⟩ ⟨np_blind, np_preU C hat⟩ rfl hnA hls rfl (lv_room hrest) hdg ⟨Nat.zero_le _, Nat.zero_le _⟩) hat.2.2 (fun q _ h => hFc q h) hFc (fun r1 u t H1 locs ht hvm hw hB hz1 hk1 hS => ?_)
  obtain ⟨rfl, rfl⟩ := hw
  obtain ⟨hP1, hK1, hD1⟩ := hB
  rw [ht] at hP1
  exact kk r H1 locs hfk ⟨hP1, hD1.weaken (fun _ _ _ h => hFc _ h), hS⟩
theorem np_callVv (C : np_Cx gA p R s m args c D cl tys A Ts own cc nL rm) {y : MethodName} {bytes : ByteArray} {maxL index : Nat} {nA : Nat} {ret : Option FieldType} {rmy : Room} {As st : List Value} {a : Nat} {fy : Option np_O} (hM : np_Mv gA l D cl tys wd y (.code y bytes maxL ret :: Ts) rmy (.ref a :: As) σ fy) (hall : np_good Ts) (w1 : .methodLink own index y ∈ Ts) (w2 : .instanceMethod y ∈ Ts) (w3 : .selects y.cls y y ∈ Ts) (w4 : .initialized y.cls ∈ Ts) (w5 : .code y bytes maxL ret ∈ Ts) (hd : y.cls ≠ "java/lang/invoke/MethodHandle" ∧ y.cls ≠ "java/lang/invoke/VarHandle" ∧ (parseMethodDescriptor y.desc).map (fun d => d.parameters.length) = some nA) (hnA : As.length = nA) (hR : rmy.cells = 0 ∧ rmy.slots = 0 ∧ rmy.frames + 1 ≤ rm.frames ∧ 8 + (maxL + 11) + rmy.locals ≤ rm.locals) {ci : Nat} {fs : List Value} {T : u_T} {N : Nat} {kc : Nat} (he : (wd σ)[kc]? = some (a, .inr (ci, fs))) (hc : cl[ci]? = some (y.cls, T, N)) (hat : np_At D cl A wd s σ H locs) (hst : st = As.reverse ++ .ref a :: rest) (hls : ls.size = nL) (hrest : (rest.map fun v => v.category).sum ≤ 8) (hdg : decode cc pc = .ok (.invokevirtual index, 3)) {α : Type} {k : np_O → Option α} {o : α} (hf : fy.bind k = some o)
    (kk : ∀ (r : np_O) (H : Heap) (locs : List Loc), k r = some o → np_At D cl A wd s r.2 H locs → W p l e R s m args below meth c H locs 0 0 Q (F0 m (pc + 3) ls (rest))) : W p l e R s m args below meth c H locs 0 0 Q (F0 m pc ls st) := by
  obtain ⟨r, hfy, hfk⟩ := Option.bind_eq_some_iff.mp hf
  have hFc := np_freeA C hat
  subst hst
  have hRR : rmy.frames + 1 ≤ R.frames ∧ 8 + (maxL + 11) + rmy.locals ≤ R.locals := by rw [C.r]; exact hR.2.2
  have hG : ∀ w ∈ (.code y bytes maxL ret :: Ts), w ∈ Ts := fun w hw => by
    rcases List.mem_cons.mp hw with rfl | hw
    · exact w5
    · exact hw
  refine va_callv (va_runV (As := As) (rest := rest) C.1 (hM H.size r hfy) ⟨callB_of nA C.t (np_goodIn hall hG) rfl hR.1 hR.2.1 (C.t _ w4) (C.t _ w1) hd hRR, C.t _ w2, C.t _ w3⟩ ⟨np_blind, va_recv C.k hat.1 hc he, np_preU C hat⟩ rfl hnA hls rfl (lv_room hrest) hdg ⟨Nat.zero_le _, Nat.zero_le _⟩) hat.2.2 (fun q _ h => hFc q h) hFc (fun u t H1 locs ht hvm hw hB hz1 hk1 hS => ?_)
  subst hw
  obtain ⟨hP1, hK1, hD1⟩ := hB
  rw [ht] at hP1
  exact kk r H1 locs hfk ⟨hP1, hD1.weaken (fun _ _ _ h => hFc _ h), hS⟩
theorem np_callSv (C : np_Cx gA p R s m args c D cl tys A Ts own cc nL rm) {y : MethodName} {bytes : ByteArray} {maxL index : Nat} {nA : Nat} {ret : Option FieldType} {rmy : Room} {As st : List Value} {fy : Option np_O} (hM : np_Mv gA l D cl tys wd y (.code y bytes maxL ret :: Ts) rmy As σ fy) (hall : np_good Ts) (w1 : .methodLink own index y ∈ Ts) (w2 : .static y ∈ Ts) (w4 : .initialized y.cls ∈ Ts) (w5 : .code y bytes maxL ret ∈ Ts) (hd : y.cls ≠ "java/lang/invoke/MethodHandle" ∧ y.cls ≠ "java/lang/invoke/VarHandle" ∧ (parseMethodDescriptor y.desc).map (fun d => d.parameters.length) = some nA) (hnA : As.length = nA) (hR : rmy.cells = 0 ∧ rmy.slots = 0 ∧ rmy.frames + 1 ≤ rm.frames ∧ 8 + (maxL + 11) + rmy.locals ≤ rm.locals) (hat : np_At D cl A wd s σ H locs) (hst : st = As.reverse ++ rest) (hls : ls.size = nL) (hrest : (rest.map fun v => v.category).sum ≤ 8) (hdg : decode cc pc = .ok (.invokestatic index, 3)) {α : Type} {k : np_O → Option α} {o : α} (hf : fy.bind k = some o)
    (kk : ∀ (r : np_O) (H : Heap) (locs : List Loc), k r = some o → np_At D cl A wd s r.2 H locs → W p l e R s m args below meth c H locs 0 0 Q (F0 m (pc + 3) ls (rest))) : W p l e R s m args below meth c H locs 0 0 Q (F0 m pc ls st) := by
  obtain ⟨r, hfy, hfk⟩ := Option.bind_eq_some_iff.mp hf
  have hFc := np_freeA C hat
  subst hst
  have hRR : rmy.frames + 1 ≤ R.frames ∧ 8 + (maxL + 11) + rmy.locals ≤ R.locals := by rw [C.r]; exact hR.2.2
  have hG : ∀ w ∈ (.code y bytes maxL ret :: Ts), w ∈ Ts := fun w hw => by
    rcases List.mem_cons.mp hw with rfl | hw
    · exact w5
    · exact hw
  refine va_callv (va_runS (As := As) (rest := rest) C.1 (hM H.size r hfy) ⟨callB_of nA C.t (np_goodIn hall hG) rfl hR.1 hR.2.1 (C.t _ w4) (C.t _ w1) hd hRR, C.t _ w2⟩ ⟨np_blind, np_preU C hat⟩ rfl hnA hls rfl (lv_room hrest) hdg ⟨Nat.zero_le _, Nat.zero_le _⟩) hat.2.2 (fun q _ h => hFc q h) hFc (fun u t H1 locs ht hvm hw hB hz1 hk1 hS => ?_)
  subst hw
  obtain ⟨hP1, hK1, hD1⟩ := hB
  rw [ht] at hP1
  exact kk r H1 locs hfk ⟨hP1, hD1.weaken (fun _ _ _ h => hFc _ h), hS⟩
theorem np_mmin (C : np_Cx gA p R s m args c D cl tys A Ts own cc nL rm) {index : Nat} {x y : Int} (w1 : .methodLink own index Lib.Math.min.name ∈ Ts) (w2 : .static Lib.Math.min.name ∈ Ts) (w3 : .initialized "java/lang/Math" ∈ Ts) (w4 : .code Lib.Math.min.name Lib.Math.min.code 2 (some .int) ∈ Ts) (hfr : 1 ≤ rm.frames) (hlo : (rest.map fun v => v.category).sum + 13 ≤ rm.locals) (hls : ls.size = nL) (hdg : decode cc pc = .ok (.invokestatic index, 3)) {α : Type} {f1 : Option α} {o : α} (hf : np_ck (np_R x ∧ np_R y) f1 = some o) (kk : f1 = some o → W p l e R s m args below meth c H locs 0 0 Q (F0 m (pc + 3) ls (.int (np_i (np_min x y)) :: rest))) : W p l e R s m args below meth c H locs 0 0 Q (F0 m pc ls (.int (np_i y) :: .int (np_i x) :: rest)) := by
  obtain ⟨⟨h1, h2⟩, hf⟩ := np_ck_e hf
  have hr := C.r
  refine va_mmin C.x C.b (C.ml.trans hls.symm) C.o (C.t _ w1) (C.t _ w2) (C.t _ w3) (C.t _ w4) (by rw [hr]; exact hfr) (by rw [hr]; exact hlo) (Nat.zero_le _) (Nat.zero_le _) hdg ?_
  have e : (if np_i y < np_i x then np_i y else np_i x) = np_i (np_min x y) := by
    unfold np_min
    by_cases a : y < x
    · rw [if_pos ((np_lt h2 h1).mpr a), if_pos a]
    · rw [if_neg (fun q => a ((np_lt h2 h1).mp q)), if_neg a]
  rw [e]
  exact kk hf
theorem np_mmin_l (C : np_Cx gA p R s m args c D cl tys A Ts own cc nL rm) {index : Nat} {x y : Int} (w1 : .methodLink own index Lib.MathLoose.min_long.x ∈ Ts) (w2 : .static Lib.MathLoose.min_long.x ∈ Ts) (w3 : .initialized "java/lang/Math" ∈ Ts) (w4 : .code Lib.MathLoose.min_long.x Lib.MathLoose.min_long.code 4 (some .long) ∈ Ts) (hfr : 1 ≤ rm.frames) (hlo : (rest.map fun v => v.category).sum + 15 ≤ rm.locals) (hls : ls.size = nL) (hdg : decode cc pc = .ok (.invokestatic index, 3)) {α : Type} {f1 : Option α} {o : α} (hf : np_ck (np_R6 x ∧ np_R6 y) f1 = some o) (kk : f1 = some o → W p l e R s m args below meth c H locs 0 0 Q (F0 m (pc + 3) ls (.long (np_l (np_min x y)) :: rest))) : W p l e R s m args below meth c H locs 0 0 Q (F0 m pc ls (.long (np_l y) :: .long (np_l x) :: rest)) := by
  obtain ⟨⟨h1, h2⟩, hf⟩ := np_ck_e hf
  have hr := C.r
  refine va_mmin_long C.x C.b (C.ml.trans hls.symm) C.o (C.t _ w1) (C.t _ w2) (C.t _ w3) (C.t _ w4) (by rw [hr]; exact hfr) (by rw [hr]; exact hlo) (Nat.zero_le _) (Nat.zero_le _) hdg ?_
  have e : (if np_l y < np_l x then np_l y else np_l x) = np_l (np_min x y) := by
    unfold np_min
    by_cases a : y < x
    · rw [if_pos ((np_lt6 h2 h1).mpr a), if_pos a]
    · rw [if_neg (fun q => a ((np_lt6 h2 h1).mp q)), if_neg a]
  rw [e]
  exact kk hf
end NPC
theorem np_mki {gA : Nat → Nat} {l : Launch} {D : va_G} {cl : List vw_C} {tys : List (ClassId × FieldType)} {wd : np_S → va_W} {y : MethodName} {cc : ByteArray} {nL : Nat} {AL : List Cond} {rm : Room} {avs : List Value} {σ : np_S} {fy : Option np_O} (hy : plainName y.cls = true) (hlen : (lg_sl avs).length ≤ nL)
    (body : ∀ (o : np_O) (p : Program) (e : Env) (R : Room) (s : State) (m : MethodId) (args : Array Value) (below : List Frame) (meth : Method) (c : Code) (Q : State → Prop) (A : Nat → Prop) (ls : Array Slot), fy = some o → np_Cx gA p R s m args c D cl tys A AL y.cls cc nL rm →
      (∀ (pc : Nat) (ls : Array Slot) (H : Heap) (locs : List Loc) (v : Int) {σ2 : np_S}, decode cc pc = .ok (.ireturn, 1) → some (v, σ2) = some o → np_At D cl A wd s σ2 H locs → W p l e R s m args below meth c H locs 0 0 Q (F0 m pc ls [.int (np_i v)])) →
      np_At D cl A wd s σ s.heap [] → lv_has ls nL (lv_args 0 avs) → W p l e R s m args below meth c s.heap [] 0 0 Q (F0 m 0 ls [])) : np_Mi gA l D cl tys wd y (.code y cc nL (some .int) :: AL) rm avs σ fy := by
  intro sz o hfy
  refine Met.ofW (cc := cc) (maxL := nL) (ret := (some .int)) hy rfl ?_
  intro p e s m args below meth c s₁ B hml hv
  obtain ⟨rfl, hsz, hP, hK, hD0, hE⟩ := hv
  subst hsz
  have hts := atoms_spec (ws := .code y cc nL (some .int) :: AL) B.pre
  have hown : s.vm.findClass y.cls = some m.cls := findClass_of_methodNamed B.named
  have hlocks := B.notSynchronized
  rw [lg_entry_eq]
  have hC : np_Cx gA p (headSpec (.code y cc nL (some .int) :: AL) rm).room s m avs.toArray c D cl tys (va_A (wd σ) s.heap.size) AL y.cls cc nL rm := ⟨⟨B.exec, B.bytes, hml, hown, fun w hw => hts w (List.mem_cons_of_mem _ hw)⟩, hK, fun a h => Or.inr h, rfl, hE⟩
  refine body o p e _ s m _ below meth c _ (va_A (wd σ) s.heap.size) _ hfy hC (fun pc ls H locs v σ2 hdg ho hat => ?_) ⟨hP, hD0.self, va_S.rf⟩ (lv_entry avs hlen)
  have ho := Option.some.inj ho
  subst ho
  exact W.iret (v := np_i v) hC.x hC.b B.returns (fun t ht hW => ⟨⟨np_i v, σ2, rfl, ⟨rfl, rfl⟩, by rw [ht]; exact hat.1, va_K.moved hW.alike hK, hat.2.1⟩, hat.2.2.F ht⟩) hat.2.2.2.2 hdg hlocks
theorem np_mkz {gA : Nat → Nat} {l : Launch} {D : va_G} {cl : List vw_C} {tys : List (ClassId × FieldType)} {wd : np_S → va_W} {y : MethodName} {cc : ByteArray} {nL : Nat} {AL : List Cond} {rm : Room} {avs : List Value} {σ : np_S} {fy : Option np_O} (hy : plainName y.cls = true) (hlen : (lg_sl avs).length ≤ nL)
    (body : ∀ (o : np_O) (p : Program) (e : Env) (R : Room) (s : State) (m : MethodId) (args : Array Value) (below : List Frame) (meth : Method) (c : Code) (Q : State → Prop) (A : Nat → Prop) (ls : Array Slot), fy = some o → np_Cx gA p R s m args c D cl tys A AL y.cls cc nL rm →
      (∀ (pc : Nat) (ls : Array Slot) (H : Heap) (locs : List Loc) (v : Int) {σ2 : np_S}, decode cc pc = .ok (.ireturn, 1) → np_ck (v = 0 ∨ v = 1) (some (v, σ2)) = some o → np_At D cl A wd s σ2 H locs → W p l e R s m args below meth c H locs 0 0 Q (F0 m pc ls [.int (np_i v)])) →
      np_At D cl A wd s σ s.heap [] → lv_has ls nL (lv_args 0 avs) → W p l e R s m args below meth c s.heap [] 0 0 Q (F0 m 0 ls [])) : np_Mi gA l D cl tys wd y (.code y cc nL (some .boolean) :: AL) rm avs σ fy := by
  intro sz o hfy
  refine Met.ofW (cc := cc) (maxL := nL) (ret := (some .boolean)) hy rfl ?_
  intro p e s m args below meth c s₁ B hml hv
  obtain ⟨rfl, hsz, hP, hK, hD0, hE⟩ := hv
  subst hsz
  have hts := atoms_spec (ws := .code y cc nL (some .boolean) :: AL) B.pre
  have hown : s.vm.findClass y.cls = some m.cls := findClass_of_methodNamed B.named
  have hlocks := B.notSynchronized
  rw [lg_entry_eq]
  have hC : np_Cx gA p (headSpec (.code y cc nL (some .boolean) :: AL) rm).room s m avs.toArray c D cl tys (va_A (wd σ) s.heap.size) AL y.cls cc nL rm := ⟨⟨B.exec, B.bytes, hml, hown, fun w hw => hts w (List.mem_cons_of_mem _ hw)⟩, hK, fun a h => Or.inr h, rfl, hE⟩
  refine body o p e _ s m _ below meth c _ (va_A (wd σ) s.heap.size) _ hfy hC (fun pc ls H locs v σ2 hdg ho hat => ?_) ⟨hP, hD0.self, va_S.rf⟩ (lv_entry avs hlen)
  obtain ⟨hz, ho⟩ := np_ck_e ho
  have ho := Option.some.inj ho
  subst ho
  exact W.zret hC.x hC.b B.returns (by rcases hz with h | h <;> (subst h; decide +kernel)) (fun t ht hW => ⟨⟨np_i v, σ2, rfl, ⟨rfl, rfl⟩, by rw [ht]; exact hat.1, va_K.moved hW.alike hK, hat.2.1⟩, hat.2.2.F ht⟩) hat.2.2.2.2 hdg hlocks
theorem np_mkl {gA : Nat → Nat} {l : Launch} {D : va_G} {cl : List vw_C} {tys : List (ClassId × FieldType)} {wd : np_S → va_W} {y : MethodName} {cc : ByteArray} {nL : Nat} {AL : List Cond} {rm : Room} {avs : List Value} {σ : np_S} {fy : Option np_O} (hy : plainName y.cls = true) (hlen : (lg_sl avs).length ≤ nL)
    (body : ∀ (o : np_O) (p : Program) (e : Env) (R : Room) (s : State) (m : MethodId) (args : Array Value) (below : List Frame) (meth : Method) (c : Code) (Q : State → Prop) (A : Nat → Prop) (ls : Array Slot), fy = some o → np_Cx gA p R s m args c D cl tys A AL y.cls cc nL rm →
      (∀ (pc : Nat) (ls : Array Slot) (H : Heap) (locs : List Loc) (v : Int) {σ2 : np_S}, decode cc pc = .ok (.lreturn, 1) → some (v, σ2) = some o → np_At D cl A wd s σ2 H locs → W p l e R s m args below meth c H locs 0 0 Q (F0 m pc ls [.long (np_l v)])) →
      np_At D cl A wd s σ s.heap [] → lv_has ls nL (lv_args 0 avs) → W p l e R s m args below meth c s.heap [] 0 0 Q (F0 m 0 ls [])) : np_Ml gA l D cl tys wd y (.code y cc nL (some .long) :: AL) rm avs σ fy := by
  intro sz o hfy
  refine Met.ofW (cc := cc) (maxL := nL) (ret := (some .long)) hy rfl ?_
  intro p e s m args below meth c s₁ B hml hv
  obtain ⟨rfl, hsz, hP, hK, hD0, hE⟩ := hv
  subst hsz
  have hts := atoms_spec (ws := .code y cc nL (some .long) :: AL) B.pre
  have hown : s.vm.findClass y.cls = some m.cls := findClass_of_methodNamed B.named
  have hlocks := B.notSynchronized
  rw [lg_entry_eq]
  have hC : np_Cx gA p (headSpec (.code y cc nL (some .long) :: AL) rm).room s m avs.toArray c D cl tys (va_A (wd σ) s.heap.size) AL y.cls cc nL rm := ⟨⟨B.exec, B.bytes, hml, hown, fun w hw => hts w (List.mem_cons_of_mem _ hw)⟩, hK, fun a h => Or.inr h, rfl, hE⟩
  refine body o p e _ s m _ below meth c _ (va_A (wd σ) s.heap.size) _ hfy hC (fun pc ls H locs v σ2 hdg ho hat => ?_) ⟨hP, hD0.self, va_S.rf⟩ (lv_entry avs hlen)
  have ho := Option.some.inj ho
  subst ho
  exact W.lret (v := np_l v) hC.x hC.b B.returns (fun t ht hW => ⟨⟨np_l v, σ2, rfl, ⟨rfl, rfl⟩, by rw [ht]; exact hat.1, va_K.moved hW.alike hK, hat.2.1⟩, hat.2.2.F ht⟩) hat.2.2.2.2 hdg hlocks
theorem np_mkv {gA : Nat → Nat} {l : Launch} {D : va_G} {cl : List vw_C} {tys : List (ClassId × FieldType)} {wd : np_S → va_W} {y : MethodName} {cc : ByteArray} {nL : Nat} {AL : List Cond} {rm : Room} {avs : List Value} {σ : np_S} {fy : Option np_O} (hy : plainName y.cls = true) (hlen : (lg_sl avs).length ≤ nL)
    (body : ∀ (o : np_O) (p : Program) (e : Env) (R : Room) (s : State) (m : MethodId) (args : Array Value) (below : List Frame) (meth : Method) (c : Code) (Q : State → Prop) (A : Nat → Prop) (ls : Array Slot), fy = some o → np_Cx gA p R s m args c D cl tys A AL y.cls cc nL rm →
      (∀ (pc : Nat) (ls : Array Slot) (H : Heap) (locs : List Loc) {σ2 : np_S}, decode cc pc = .ok (.return_, 1) → some ((0 : Int), σ2) = some o → np_At D cl A wd s σ2 H locs → W p l e R s m args below meth c H locs 0 0 Q (F0 m pc ls [])) →
      np_At D cl A wd s σ s.heap [] → lv_has ls nL (lv_args 0 avs) → W p l e R s m args below meth c s.heap [] 0 0 Q (F0 m 0 ls [])) : np_Mv gA l D cl tys wd y (.code y cc nL none :: AL) rm avs σ fy := by
  intro sz o hfy
  refine Met.ofW (cc := cc) (maxL := nL) (ret := none) hy rfl ?_
  intro p e s m args below meth c s₁ B hml hv
  obtain ⟨rfl, hsz, hP, hK, hD0, hE⟩ := hv
  subst hsz
  have hts := atoms_spec (ws := .code y cc nL none :: AL) B.pre
  have hown : s.vm.findClass y.cls = some m.cls := findClass_of_methodNamed B.named
  have hlocks := B.notSynchronized
  rw [lg_entry_eq]
  have hC : np_Cx gA p (headSpec (.code y cc nL none :: AL) rm).room s m avs.toArray c D cl tys (va_A (wd σ) s.heap.size) AL y.cls cc nL rm := ⟨⟨B.exec, B.bytes, hml, hown, fun w hw => hts w (List.mem_cons_of_mem _ hw)⟩, hK, fun a h => Or.inr h, rfl, hE⟩
  refine body o p e _ s m _ below meth c _ (va_A (wd σ) s.heap.size) _ hfy hC (fun pc ls H locs σ2 hdg ho hat => ?_) ⟨hP, hD0.self, va_S.rf⟩ (lv_entry avs hlen)
  have ho := Option.some.inj ho
  subst ho
  exact W.vret hC.x hC.b B.returns (fun t ht hW => ⟨⟨σ2, rfl, rfl, by rw [ht]; exact hat.1, va_K.moved hW.alike hK, hat.2.1⟩, hat.2.2.F ht⟩) hat.2.2.2.2 hdg hlocks
theorem np_allgood : np_good np_al := fun w hw => good_of_word (List.mem_filter.mp hw).2
end
section
def yy_N_hole : MethodName := ⟨"NotationParse", "hole", "(I)I"⟩
def yy_N_word : MethodName := ⟨"NotationParse", "word", "(JI)I"⟩
def yy_N_notation : MethodName := ⟨"NotationParse", "notation", "(I)I"⟩
def yy_Grammar_dropHand : MethodName := ⟨"NotationParse$Grammar", "dropHand", "()V"⟩
def yy_Grammar_usedDots : MethodName := ⟨"NotationParse$Grammar", "usedDots", "()I"⟩
def yy_Arrays_fill : MethodName := ⟨"java/util/Arrays", "fill", "([IIII)V"⟩
def yy_Arrays_rangeCheck : MethodName := ⟨"java/util/Arrays", "rangeCheck", "(III)V"⟩
def yy_Arrays_fill2 : MethodName := ⟨"java/util/Arrays", "fill", "([JIIJ)V"⟩
def yy_N_put : MethodName := ⟨"NotationParse", "put", "(JI)Z"⟩
def yy_Text_append : MethodName := ⟨"NotationParse$Text", "append", "(JI)V"⟩
def yy_Spelling_byteOf : MethodName := ⟨"NotationParse$Spelling", "byteOf", "(JI)I"⟩
def yy_N_clear : MethodName := ⟨"NotationParse", "clear", "()V"⟩
def yy_N_read : MethodName := ⟨"NotationParse", "read", "()I"⟩
def yy_Tree_fell : MethodName := ⟨"NotationParse$Tree", "fell", "()V"⟩
def yy_Text_cut : MethodName := ⟨"NotationParse$Text", "cut", "(LNotationParse$Grammar;)V"⟩
def yy_Text_kindAt : MethodName := ⟨"NotationParse$Text", "kindAt", "(I)I"⟩
def yy_Spelling_kindOf : MethodName := ⟨"NotationParse$Spelling", "kindOf", "(I)I"⟩
def yy_N_findFault : MethodName := ⟨"NotationParse", "findFault", "()V"⟩
def yy_Chart_follow : MethodName := ⟨"NotationParse$Chart", "follow", "([JI)I"⟩
def yy_Chart_emptyRow : MethodName := ⟨"NotationParse$Chart", "emptyRow", "(I)V"⟩
def yy_Chart_scan : MethodName := ⟨"NotationParse$Chart", "scan", "(IJ)Z"⟩
def yy_Chart_complete : MethodName := ⟨"NotationParse$Chart", "complete", "(I)V"⟩
def yy_Chart_highestTerm : MethodName := ⟨"NotationParse$Chart", "highestTerm", "(II)I"⟩
def yy_Grammar_lastDot : MethodName := ⟨"NotationParse$Grammar", "lastDot", "(I)I"⟩
def yy_Chart_isReached : MethodName := ⟨"NotationParse$Chart", "isReached", "(III)Z"⟩
def yy_Chart_fillHoles : MethodName := ⟨"NotationParse$Chart", "fillHoles", "(III)V"⟩
def yy_Chart_leastWanted : MethodName := ⟨"NotationParse$Chart", "leastWanted", "(I)I"⟩
def yy_Chart_predict : MethodName := ⟨"NotationParse$Chart", "predict", "(II)V"⟩
def yy_Chart_leastFirstHole : MethodName := ⟨"NotationParse$Chart", "leastFirstHole", "(I)I"⟩
def yy_Chart_isWhole : MethodName := ⟨"NotationParse$Chart", "isWhole", "(I)Z"⟩
def yy_N_noteFault : MethodName := ⟨"NotationParse", "noteFault", "(II)V"⟩
def yy_N_fault : MethodName := ⟨"NotationParse", "fault", "(I)I"⟩
def yy_N_node : MethodName := ⟨"NotationParse", "node", "(II)I"⟩
def yy_N_print : MethodName := ⟨"NotationParse", "print", "()I"⟩
def yy_Tree_needlessBrackets : MethodName := ⟨"NotationParse$Tree", "needlessBrackets", "()I"⟩
def yy_Tree_levelWithin : MethodName := ⟨"NotationParse$Tree", "levelWithin", "(I)I"⟩
def yy_Output_writeWords : MethodName := ⟨"NotationParse$Output", "writeWords", "(LNotationParse$Text;I)V"⟩
def yy_Output_writeWord : MethodName := ⟨"NotationParse$Output", "writeWord", "(J)V"⟩
def yy_Output_addByte : MethodName := ⟨"NotationParse$Output", "addByte", "(I)V"⟩
def yy_N_at : MethodName := ⟨"NotationParse", "at", "(I)I"⟩
def yy_N_isKey : MethodName := ⟨"NotationParse", "isKey", "(JI)Z"⟩
def yy_Spelling_isSpelled : MethodName := ⟨"NotationParse$Spelling", "isSpelled", "(JI)Z"⟩
def yy_N_about : MethodName := ⟨"NotationParse", "about", "(I)I"⟩
def yy_Grammar_handEndsInHole : MethodName := ⟨"NotationParse$Grammar", "handEndsInHole", "()Z"⟩
def yy_Grammar_handHasWord : MethodName := ⟨"NotationParse$Grammar", "handHasWord", "()Z"⟩
def yy_Grammar_takePart : MethodName := ⟨"NotationParse$Grammar", "takePart", "(IJ)I"⟩
def yy_Grammar_makeRule : MethodName := ⟨"NotationParse$Grammar", "makeRule", "(I)I"⟩
def yy_Grammar_hasKey : MethodName := ⟨"NotationParse$Grammar", "hasKey", "(J)Z"⟩
def yy_Text_endOfRow : MethodName := ⟨"NotationParse$Text", "endOfRow", "(II)I"⟩
def yy_Text_takeRow : MethodName := ⟨"NotationParse$Text", "takeRow", "(IIILNotationParse$Grammar;)V"⟩
def yy_Chart_countTrees : MethodName := ⟨"NotationParse$Chart", "countTrees", "(I)I"⟩
def yy_Chart_cell : MethodName := ⟨"NotationParse$Chart", "cell", "(III)I"⟩
def yy_Chart_countFrom : MethodName := ⟨"NotationParse$Chart", "countFrom", "(II)V"⟩
def yy_Chart_sumTerms : MethodName := ⟨"NotationParse$Chart", "sumTerms", "(II)V"⟩
def yy_Chart_addTrees : MethodName := ⟨"NotationParse$Chart", "addTrees", "(II)V"⟩
def yy_Chart_countFirstHoles : MethodName := ⟨"NotationParse$Chart", "countFirstHoles", "(II)V"⟩
def yy_Chart_countRule : MethodName := ⟨"NotationParse$Chart", "countRule", "(III)V"⟩
def yy_Chart_countSplits : MethodName := ⟨"NotationParse$Chart", "countSplits", "(IIII)I"⟩
def yy_Chart_onlyRule : MethodName := ⟨"NotationParse$Chart", "onlyRule", "(III)I"⟩
def yy_Chart_onlySplit : MethodName := ⟨"NotationParse$Chart", "onlySplit", "(III)I"⟩
def yy_Tree_grow : MethodName := ⟨"NotationParse$Tree", "grow", "(I)V"⟩
def yy_Tree_growNode : MethodName := ⟨"NotationParse$Tree", "growNode", "(III)V"⟩
def yy_Tree_awaitHoles : MethodName := ⟨"NotationParse$Tree", "awaitHoles", "(III)I"⟩
def yy_Tree_await : MethodName := ⟨"NotationParse$Tree", "await", "(IIII)V"⟩
def yy_Spelling_lowBytes : MethodName := ⟨"NotationParse$Spelling", "lowBytes", "(JI)J"⟩
theorem tp_5 : Cond.selects "NotationParse$Chart" ⟨"NotationParse$Chart", "emptyRow", "(I)V"⟩ ⟨"NotationParse$Chart", "emptyRow", "(I)V"⟩ ∈ np_al := List.mem_filter.mpr ⟨List.mem_append_left _ (List.mem_of_getElem? (i := 5) rfl), rfl⟩
theorem tp_6 : Cond.selects "NotationParse$Chart" ⟨"NotationParse$Chart", "predict", "(II)V"⟩ ⟨"NotationParse$Chart", "predict", "(II)V"⟩ ∈ np_al := List.mem_filter.mpr ⟨List.mem_append_left _ (List.mem_of_getElem? (i := 6) rfl), rfl⟩
theorem tp_7 : Cond.selects "NotationParse$Chart" ⟨"NotationParse$Chart", "leastFirstHole", "(I)I"⟩ ⟨"NotationParse$Chart", "leastFirstHole", "(I)I"⟩ ∈ np_al := List.mem_filter.mpr ⟨List.mem_append_left _ (List.mem_of_getElem? (i := 7) rfl), rfl⟩
theorem tp_8 : Cond.selects "NotationParse$Chart" ⟨"NotationParse$Chart", "scan", "(IJ)Z"⟩ ⟨"NotationParse$Chart", "scan", "(IJ)Z"⟩ ∈ np_al := List.mem_filter.mpr ⟨List.mem_append_left _ (List.mem_of_getElem? (i := 8) rfl), rfl⟩
theorem tp_9 : Cond.selects "NotationParse$Chart" ⟨"NotationParse$Chart", "complete", "(I)V"⟩ ⟨"NotationParse$Chart", "complete", "(I)V"⟩ ∈ np_al := List.mem_filter.mpr ⟨List.mem_append_left _ (List.mem_of_getElem? (i := 9) rfl), rfl⟩
theorem tp_10 : Cond.selects "NotationParse$Chart" ⟨"NotationParse$Chart", "highestTerm", "(II)I"⟩ ⟨"NotationParse$Chart", "highestTerm", "(II)I"⟩ ∈ np_al := List.mem_filter.mpr ⟨List.mem_append_left _ (List.mem_of_getElem? (i := 10) rfl), rfl⟩
theorem tp_11 : Cond.selects "NotationParse$Chart" ⟨"NotationParse$Chart", "isReached", "(III)Z"⟩ ⟨"NotationParse$Chart", "isReached", "(III)Z"⟩ ∈ np_al := List.mem_filter.mpr ⟨List.mem_append_left _ (List.mem_of_getElem? (i := 11) rfl), rfl⟩
theorem tp_12 : Cond.selects "NotationParse$Chart" ⟨"NotationParse$Chart", "fillHoles", "(III)V"⟩ ⟨"NotationParse$Chart", "fillHoles", "(III)V"⟩ ∈ np_al := List.mem_filter.mpr ⟨List.mem_append_left _ (List.mem_of_getElem? (i := 12) rfl), rfl⟩
theorem tp_13 : Cond.selects "NotationParse$Chart" ⟨"NotationParse$Chart", "leastWanted", "(I)I"⟩ ⟨"NotationParse$Chart", "leastWanted", "(I)I"⟩ ∈ np_al := List.mem_filter.mpr ⟨List.mem_append_left _ (List.mem_of_getElem? (i := 13) rfl), rfl⟩
theorem tp_14 : Cond.selects "NotationParse" ⟨"NotationParse", "noteFault", "(II)V"⟩ ⟨"NotationParse", "noteFault", "(II)V"⟩ ∈ np_al := List.mem_filter.mpr ⟨List.mem_append_left _ (List.mem_of_getElem? (i := 14) rfl), rfl⟩
theorem tp_15 : Cond.selects "NotationParse$Chart" ⟨"NotationParse$Chart", "countFrom", "(II)V"⟩ ⟨"NotationParse$Chart", "countFrom", "(II)V"⟩ ∈ np_al := List.mem_filter.mpr ⟨List.mem_append_left _ (List.mem_of_getElem? (i := 15) rfl), rfl⟩
theorem tp_16 : Cond.selects "NotationParse$Chart" ⟨"NotationParse$Chart", "countRule", "(III)V"⟩ ⟨"NotationParse$Chart", "countRule", "(III)V"⟩ ∈ np_al := List.mem_filter.mpr ⟨List.mem_append_left _ (List.mem_of_getElem? (i := 16) rfl), rfl⟩
theorem tp_17 : Cond.selects "NotationParse$Chart" ⟨"NotationParse$Chart", "countSplits", "(IIII)I"⟩ ⟨"NotationParse$Chart", "countSplits", "(IIII)I"⟩ ∈ np_al := List.mem_filter.mpr ⟨List.mem_append_left _ (List.mem_of_getElem? (i := 17) rfl), rfl⟩
theorem tp_18 : Cond.selects "NotationParse$Chart" ⟨"NotationParse$Chart", "cell", "(III)I"⟩ ⟨"NotationParse$Chart", "cell", "(III)I"⟩ ∈ np_al := List.mem_filter.mpr ⟨List.mem_append_left _ (List.mem_of_getElem? (i := 18) rfl), rfl⟩
theorem tp_19 : Cond.selects "NotationParse$Chart" ⟨"NotationParse$Chart", "sumTerms", "(II)V"⟩ ⟨"NotationParse$Chart", "sumTerms", "(II)V"⟩ ∈ np_al := List.mem_filter.mpr ⟨List.mem_append_left _ (List.mem_of_getElem? (i := 19) rfl), rfl⟩
theorem tp_20 : Cond.selects "NotationParse$Chart" ⟨"NotationParse$Chart", "addTrees", "(II)V"⟩ ⟨"NotationParse$Chart", "addTrees", "(II)V"⟩ ∈ np_al := List.mem_filter.mpr ⟨List.mem_append_left _ (List.mem_of_getElem? (i := 20) rfl), rfl⟩
theorem tp_21 : Cond.selects "NotationParse$Chart" ⟨"NotationParse$Chart", "countFirstHoles", "(II)V"⟩ ⟨"NotationParse$Chart", "countFirstHoles", "(II)V"⟩ ∈ np_al := List.mem_filter.mpr ⟨List.mem_append_left _ (List.mem_of_getElem? (i := 21) rfl), rfl⟩
theorem tp_22 : Cond.selects "NotationParse$Tree" ⟨"NotationParse$Tree", "await", "(IIII)V"⟩ ⟨"NotationParse$Tree", "await", "(IIII)V"⟩ ∈ np_al := List.mem_filter.mpr ⟨List.mem_append_left _ (List.mem_of_getElem? (i := 22) rfl), rfl⟩
theorem tp_23 : Cond.selects "NotationParse$Tree" ⟨"NotationParse$Tree", "growNode", "(III)V"⟩ ⟨"NotationParse$Tree", "growNode", "(III)V"⟩ ∈ np_al := List.mem_filter.mpr ⟨List.mem_append_left _ (List.mem_of_getElem? (i := 23) rfl), rfl⟩
theorem tp_24 : Cond.selects "NotationParse$Tree" ⟨"NotationParse$Tree", "awaitHoles", "(III)I"⟩ ⟨"NotationParse$Tree", "awaitHoles", "(III)I"⟩ ∈ np_al := List.mem_filter.mpr ⟨List.mem_append_left _ (List.mem_of_getElem? (i := 24) rfl), rfl⟩
theorem tp_25 : Cond.selects "NotationParse$Tree" ⟨"NotationParse$Tree", "levelWithin", "(I)I"⟩ ⟨"NotationParse$Tree", "levelWithin", "(I)I"⟩ ∈ np_al := List.mem_filter.mpr ⟨List.mem_append_left _ (List.mem_of_getElem? (i := 25) rfl), rfl⟩
theorem tp_26 : Cond.selects "NotationParse$Output" ⟨"NotationParse$Output", "addByte", "(I)V"⟩ ⟨"NotationParse$Output", "addByte", "(I)V"⟩ ∈ np_al := List.mem_filter.mpr ⟨List.mem_append_left _ (List.mem_of_getElem? (i := 26) rfl), rfl⟩
theorem tp_27 : Cond.selects "NotationParse$Output" ⟨"NotationParse$Output", "writeWord", "(J)V"⟩ ⟨"NotationParse$Output", "writeWord", "(J)V"⟩ ∈ np_al := List.mem_filter.mpr ⟨List.mem_append_left _ (List.mem_of_getElem? (i := 27) rfl), rfl⟩
theorem tw_1 : (Jvm.Cond.initialized "NotationParse") ∈ np_al := List.mem_filter.mpr ⟨List.mem_append_right _ (List.mem_append_left _ (List.mem_of_getElem? (i := 1) rfl)), rfl⟩
theorem tw_2 : (Jvm.Cond.initialized "NotationParse$Grammar") ∈ np_al := List.mem_filter.mpr ⟨List.mem_append_right _ (List.mem_append_left _ (List.mem_of_getElem? (i := 2) rfl)), rfl⟩
theorem tw_3 : (Jvm.Cond.initialized "java/util/Arrays") ∈ np_al := List.mem_filter.mpr ⟨List.mem_append_right _ (List.mem_append_left _ (List.mem_of_getElem? (i := 3) rfl)), rfl⟩
theorem tw_4 : (Jvm.Cond.initialized "NotationParse$Text") ∈ np_al := List.mem_filter.mpr ⟨List.mem_append_right _ (List.mem_append_left _ (List.mem_of_getElem? (i := 4) rfl)), rfl⟩
theorem tw_5 : (Jvm.Cond.initialized "NotationParse$Chart") ∈ np_al := List.mem_filter.mpr ⟨List.mem_append_right _ (List.mem_append_left _ (List.mem_of_getElem? (i := 5) rfl)), rfl⟩
theorem tw_6 : (Jvm.Cond.initialized "NotationParse$Tree") ∈ np_al := List.mem_filter.mpr ⟨List.mem_append_right _ (List.mem_append_left _ (List.mem_of_getElem? (i := 6) rfl)), rfl⟩
theorem tw_7 : (Jvm.Cond.initialized "NotationParse$Output") ∈ np_al := List.mem_filter.mpr ⟨List.mem_append_right _ (List.mem_append_left _ (List.mem_of_getElem? (i := 7) rfl)), rfl⟩
theorem tw_14 : (Jvm.Cond.initialized "NotationParse$Spelling") ∈ np_al := List.mem_filter.mpr ⟨List.mem_append_right _ (List.mem_append_left _ (List.mem_of_getElem? (i := 14) rfl)), rfl⟩
theorem tw_17 : (Jvm.Cond.initialized "java/lang/Math") ∈ np_al := List.mem_filter.mpr ⟨List.mem_append_right _ (List.mem_append_left _ (List.mem_of_getElem? (i := 17) rfl)), rfl⟩
theorem tw_44 : (Jvm.Cond.constantLong "NotationParse$Grammar" (38 : Nat) (-1 : Int64)) ∈ np_al := List.mem_filter.mpr ⟨List.mem_append_right _ (List.mem_append_left _ (List.mem_of_getElem? (i := 44) rfl)), rfl⟩
theorem tw_50 : (Jvm.Cond.fieldLink "NotationParse$Grammar" (9 : Nat) "NotationParse$Grammar" "holes" "[I") ∈ np_al := List.mem_filter.mpr ⟨List.mem_append_right _ (List.mem_append_left _ (List.mem_of_getElem? (i := 50) rfl)), rfl⟩
theorem tw_51 : (Jvm.Cond.fieldLink "NotationParse$Tree" (80 : Nat) "NotationParse$Grammar" "holes" "[I") ∈ np_al := List.mem_filter.mpr ⟨List.mem_append_right _ (List.mem_append_left _ (List.mem_of_getElem? (i := 51) rfl)), rfl⟩
theorem tw_52 : (Jvm.Cond.fieldLink "NotationParse$Chart" (82 : Nat) "NotationParse$Grammar" "holes" "[I") ∈ np_al := List.mem_filter.mpr ⟨List.mem_append_right _ (List.mem_append_left _ (List.mem_of_getElem? (i := 52) rfl)), rfl⟩
theorem tw_53 : (Jvm.Cond.fieldLink "NotationParse$Grammar" (15 : Nat) "NotationParse$Grammar" "words" "[J") ∈ np_al := List.mem_filter.mpr ⟨List.mem_append_right _ (List.mem_append_left _ (List.mem_of_getElem? (i := 53) rfl)), rfl⟩
theorem tw_54 : (Jvm.Cond.fieldLink "NotationParse$Chart" (60 : Nat) "NotationParse$Grammar" "words" "[J") ∈ np_al := List.mem_filter.mpr ⟨List.mem_append_right _ (List.mem_append_left _ (List.mem_of_getElem? (i := 54) rfl)), rfl⟩
theorem tw_55 : (Jvm.Cond.fieldLink "NotationParse$Grammar" (19 : Nat) "NotationParse$Grammar" "levels" "[I") ∈ np_al := List.mem_filter.mpr ⟨List.mem_append_right _ (List.mem_append_left _ (List.mem_of_getElem? (i := 55) rfl)), rfl⟩
theorem tw_56 : (Jvm.Cond.fieldLink "NotationParse$Chart" (72 : Nat) "NotationParse$Grammar" "levels" "[I") ∈ np_al := List.mem_filter.mpr ⟨List.mem_append_right _ (List.mem_append_left _ (List.mem_of_getElem? (i := 56) rfl)), rfl⟩
theorem tw_57 : (Jvm.Cond.fieldLink "NotationParse$Tree" (89 : Nat) "NotationParse$Grammar" "levels" "[I") ∈ np_al := List.mem_filter.mpr ⟨List.mem_append_right _ (List.mem_append_left _ (List.mem_of_getElem? (i := 57) rfl)), rfl⟩
theorem tw_58 : (Jvm.Cond.fieldLink "NotationParse$Grammar" (22 : Nat) "NotationParse$Grammar" "lengths" "[I") ∈ np_al := List.mem_filter.mpr ⟨List.mem_append_right _ (List.mem_append_left _ (List.mem_of_getElem? (i := 58) rfl)), rfl⟩
theorem tw_59 : (Jvm.Cond.fieldLink "NotationParse$Grammar" (25 : Nat) "NotationParse$Grammar" "rules" "I") ∈ np_al := List.mem_filter.mpr ⟨List.mem_append_right _ (List.mem_append_left _ (List.mem_of_getElem? (i := 59) rfl)), rfl⟩
theorem tw_60 : (Jvm.Cond.fieldLink "NotationParse" (108 : Nat) "NotationParse$Grammar" "rules" "I") ∈ np_al := List.mem_filter.mpr ⟨List.mem_append_right _ (List.mem_append_left _ (List.mem_of_getElem? (i := 60) rfl)), rfl⟩
theorem tw_61 : (Jvm.Cond.fieldLink "NotationParse$Chart" (68 : Nat) "NotationParse$Grammar" "rules" "I") ∈ np_al := List.mem_filter.mpr ⟨List.mem_append_right _ (List.mem_append_left _ (List.mem_of_getElem? (i := 61) rfl)), rfl⟩
theorem tw_62 : (Jvm.Cond.fieldLink "NotationParse$Grammar" (29 : Nat) "NotationParse$Grammar" "inHand" "I") ∈ np_al := List.mem_filter.mpr ⟨List.mem_append_right _ (List.mem_append_left _ (List.mem_of_getElem? (i := 62) rfl)), rfl⟩
theorem tw_63 : (Jvm.Cond.fieldLink "NotationParse" (68 : Nat) "NotationParse$Grammar" "inHand" "I") ∈ np_al := List.mem_filter.mpr ⟨List.mem_append_right _ (List.mem_append_left _ (List.mem_of_getElem? (i := 63) rfl)), rfl⟩
theorem tw_85 : (Jvm.Cond.fieldLink "NotationParse$Text" (9 : Nat) "NotationParse$Text" "bytes" "[B") ∈ np_al := List.mem_filter.mpr ⟨List.mem_append_right _ (List.mem_append_left _ (List.mem_of_getElem? (i := 85) rfl)), rfl⟩
theorem tw_86 : (Jvm.Cond.fieldLink "NotationParse$Text" (15 : Nat) "NotationParse$Text" "size" "I") ∈ np_al := List.mem_filter.mpr ⟨List.mem_append_right _ (List.mem_append_left _ (List.mem_of_getElem? (i := 86) rfl)), rfl⟩
theorem tw_87 : (Jvm.Cond.fieldLink "NotationParse" (120 : Nat) "NotationParse$Text" "size" "I") ∈ np_al := List.mem_filter.mpr ⟨List.mem_append_right _ (List.mem_append_left _ (List.mem_of_getElem? (i := 87) rfl)), rfl⟩
theorem tw_88 : (Jvm.Cond.fieldLink "NotationParse$Text" (19 : Nat) "NotationParse$Text" "codes" "[J") ∈ np_al := List.mem_filter.mpr ⟨List.mem_append_right _ (List.mem_append_left _ (List.mem_of_getElem? (i := 88) rfl)), rfl⟩
theorem tw_89 : (Jvm.Cond.fieldLink "NotationParse$Output" (28 : Nat) "NotationParse$Text" "codes" "[J") ∈ np_al := List.mem_filter.mpr ⟨List.mem_append_right _ (List.mem_append_left _ (List.mem_of_getElem? (i := 89) rfl)), rfl⟩
theorem tw_90 : (Jvm.Cond.fieldLink "NotationParse$Text" (23 : Nat) "NotationParse$Text" "tokens" "[J") ∈ np_al := List.mem_filter.mpr ⟨List.mem_append_right _ (List.mem_append_left _ (List.mem_of_getElem? (i := 90) rfl)), rfl⟩
theorem tw_91 : (Jvm.Cond.fieldLink "NotationParse" (145 : Nat) "NotationParse$Text" "tokens" "[J") ∈ np_al := List.mem_filter.mpr ⟨List.mem_append_right _ (List.mem_append_left _ (List.mem_of_getElem? (i := 91) rfl)), rfl⟩
theorem tw_92 : (Jvm.Cond.fieldLink "NotationParse$Text" (26 : Nat) "NotationParse$Text" "places" "[I") ∈ np_al := List.mem_filter.mpr ⟨List.mem_append_right _ (List.mem_append_left _ (List.mem_of_getElem? (i := 92) rfl)), rfl⟩
theorem tw_93 : (Jvm.Cond.fieldLink "NotationParse" (153 : Nat) "NotationParse$Text" "places" "[I") ∈ np_al := List.mem_filter.mpr ⟨List.mem_append_right _ (List.mem_append_left _ (List.mem_of_getElem? (i := 93) rfl)), rfl⟩
theorem tw_94 : (Jvm.Cond.fieldLink "NotationParse$Text" (30 : Nat) "NotationParse$Text" "words" "I") ∈ np_al := List.mem_filter.mpr ⟨List.mem_append_right _ (List.mem_append_left _ (List.mem_of_getElem? (i := 94) rfl)), rfl⟩
theorem tw_95 : (Jvm.Cond.fieldLink "NotationParse$Output" (19 : Nat) "NotationParse$Text" "words" "I") ∈ np_al := List.mem_filter.mpr ⟨List.mem_append_right _ (List.mem_append_left _ (List.mem_of_getElem? (i := 95) rfl)), rfl⟩
theorem tw_96 : (Jvm.Cond.fieldLink "NotationParse" (135 : Nat) "NotationParse$Text" "words" "I") ∈ np_al := List.mem_filter.mpr ⟨List.mem_append_right _ (List.mem_append_left _ (List.mem_of_getElem? (i := 96) rfl)), rfl⟩
theorem tw_97 : (Jvm.Cond.fieldLink "NotationParse$Text" (33 : Nat) "NotationParse$Text" "wrongPlace" "I") ∈ np_al := List.mem_filter.mpr ⟨List.mem_append_right _ (List.mem_append_left _ (List.mem_of_getElem? (i := 97) rfl)), rfl⟩
theorem tw_98 : (Jvm.Cond.fieldLink "NotationParse" (161 : Nat) "NotationParse$Text" "wrongPlace" "I") ∈ np_al := List.mem_filter.mpr ⟨List.mem_append_right _ (List.mem_append_left _ (List.mem_of_getElem? (i := 98) rfl)), rfl⟩
theorem tw_121 : (Jvm.Cond.fieldLink "NotationParse$Chart" (21 : Nat) "NotationParse$Chart" "grammar" "LNotationParse$Grammar;") ∈ np_al := List.mem_filter.mpr ⟨List.mem_append_right _ (List.mem_append_left _ (List.mem_of_getElem? (i := 121) rfl)), rfl⟩
theorem tw_122 : (Jvm.Cond.fieldLink "NotationParse$Chart" (9 : Nat) "NotationParse$Chart" "origins" "[I") ∈ np_al := List.mem_filter.mpr ⟨List.mem_append_right _ (List.mem_append_left _ (List.mem_of_getElem? (i := 122) rfl)), rfl⟩
theorem tw_123 : (Jvm.Cond.fieldLink "NotationParse$Chart" (15 : Nat) "NotationParse$Chart" "ways" "[I") ∈ np_al := List.mem_filter.mpr ⟨List.mem_append_right _ (List.mem_append_left _ (List.mem_of_getElem? (i := 123) rfl)), rfl⟩
theorem tw_124 : (Jvm.Cond.fieldLink "NotationParse$Chart" (18 : Nat) "NotationParse$Chart" "trees" "[I") ∈ np_al := List.mem_filter.mpr ⟨List.mem_append_right _ (List.mem_append_left _ (List.mem_of_getElem? (i := 124) rfl)), rfl⟩
theorem tw_140 : (Jvm.Cond.fieldLink "NotationParse$Tree" (49 : Nat) "NotationParse$Tree" "grammar" "LNotationParse$Grammar;") ∈ np_al := List.mem_filter.mpr ⟨List.mem_append_right _ (List.mem_append_left _ (List.mem_of_getElem? (i := 140) rfl)), rfl⟩
theorem tw_141 : (Jvm.Cond.fieldLink "NotationParse$Tree" (53 : Nat) "NotationParse$Tree" "chart" "LNotationParse$Chart;") ∈ np_al := List.mem_filter.mpr ⟨List.mem_append_right _ (List.mem_append_left _ (List.mem_of_getElem? (i := 141) rfl)), rfl⟩
theorem tw_142 : (Jvm.Cond.fieldLink "NotationParse$Tree" (9 : Nat) "NotationParse$Tree" "size" "I") ∈ np_al := List.mem_filter.mpr ⟨List.mem_append_right _ (List.mem_append_left _ (List.mem_of_getElem? (i := 142) rfl)), rfl⟩
theorem tw_143 : (Jvm.Cond.fieldLink "NotationParse" (168 : Nat) "NotationParse$Tree" "size" "I") ∈ np_al := List.mem_filter.mpr ⟨List.mem_append_right _ (List.mem_append_left _ (List.mem_of_getElem? (i := 143) rfl)), rfl⟩
theorem tw_144 : (Jvm.Cond.fieldLink "NotationParse$Tree" (15 : Nat) "NotationParse$Tree" "rules" "[I") ∈ np_al := List.mem_filter.mpr ⟨List.mem_append_right _ (List.mem_append_left _ (List.mem_of_getElem? (i := 144) rfl)), rfl⟩
theorem tw_146 : (Jvm.Cond.fieldLink "NotationParse$Tree" (19 : Nat) "NotationParse$Tree" "children" "[I") ∈ np_al := List.mem_filter.mpr ⟨List.mem_append_right _ (List.mem_append_left _ (List.mem_of_getElem? (i := 146) rfl)), rfl⟩
theorem tw_148 : (Jvm.Cond.fieldLink "NotationParse$Tree" (22 : Nat) "NotationParse$Tree" "firsts" "[I") ∈ np_al := List.mem_filter.mpr ⟨List.mem_append_right _ (List.mem_append_left _ (List.mem_of_getElem? (i := 148) rfl)), rfl⟩
theorem tw_150 : (Jvm.Cond.fieldLink "NotationParse$Tree" (25 : Nat) "NotationParse$Tree" "lengths" "[I") ∈ np_al := List.mem_filter.mpr ⟨List.mem_append_right _ (List.mem_append_left _ (List.mem_of_getElem? (i := 150) rfl)), rfl⟩
theorem tw_152 : (Jvm.Cond.fieldLink "NotationParse$Tree" (28 : Nat) "NotationParse$Tree" "holders" "[I") ∈ np_al := List.mem_filter.mpr ⟨List.mem_append_right _ (List.mem_append_left _ (List.mem_of_getElem? (i := 152) rfl)), rfl⟩
theorem tw_154 : (Jvm.Cond.fieldLink "NotationParse$Tree" (31 : Nat) "NotationParse$Tree" "wanted" "[I") ∈ np_al := List.mem_filter.mpr ⟨List.mem_append_right _ (List.mem_append_left _ (List.mem_of_getElem? (i := 154) rfl)), rfl⟩
theorem tw_155 : (Jvm.Cond.fieldLink "NotationParse$Tree" (34 : Nat) "NotationParse$Tree" "waiting" "I") ∈ np_al := List.mem_filter.mpr ⟨List.mem_append_right _ (List.mem_append_left _ (List.mem_of_getElem? (i := 155) rfl)), rfl⟩
theorem tw_156 : (Jvm.Cond.fieldLink "NotationParse$Tree" (37 : Nat) "NotationParse$Tree" "waitingFrom" "[I") ∈ np_al := List.mem_filter.mpr ⟨List.mem_append_right _ (List.mem_append_left _ (List.mem_of_getElem? (i := 156) rfl)), rfl⟩
theorem tw_157 : (Jvm.Cond.fieldLink "NotationParse$Tree" (40 : Nat) "NotationParse$Tree" "waitingTo" "[I") ∈ np_al := List.mem_filter.mpr ⟨List.mem_append_right _ (List.mem_append_left _ (List.mem_of_getElem? (i := 157) rfl)), rfl⟩
theorem tw_158 : (Jvm.Cond.fieldLink "NotationParse$Tree" (43 : Nat) "NotationParse$Tree" "waitingLevel" "[I") ∈ np_al := List.mem_filter.mpr ⟨List.mem_append_right _ (List.mem_append_left _ (List.mem_of_getElem? (i := 158) rfl)), rfl⟩
theorem tw_159 : (Jvm.Cond.fieldLink "NotationParse$Tree" (46 : Nat) "NotationParse$Tree" "waitingHolder" "[I") ∈ np_al := List.mem_filter.mpr ⟨List.mem_append_right _ (List.mem_append_left _ (List.mem_of_getElem? (i := 159) rfl)), rfl⟩
theorem tw_195 : (Jvm.Cond.fieldLink "NotationParse$Output" (9 : Nat) "NotationParse$Output" "bytes" "[B") ∈ np_al := List.mem_filter.mpr ⟨List.mem_append_right _ (List.mem_append_left _ (List.mem_of_getElem? (i := 195) rfl)), rfl⟩
theorem tw_196 : (Jvm.Cond.fieldLink "NotationParse" (199 : Nat) "NotationParse$Output" "bytes" "[B") ∈ np_al := List.mem_filter.mpr ⟨List.mem_append_right _ (List.mem_append_left _ (List.mem_of_getElem? (i := 196) rfl)), rfl⟩
theorem tw_197 : (Jvm.Cond.fieldLink "NotationParse$Output" (15 : Nat) "NotationParse$Output" "size" "I") ∈ np_al := List.mem_filter.mpr ⟨List.mem_append_right _ (List.mem_append_left _ (List.mem_of_getElem? (i := 197) rfl)), rfl⟩
theorem tw_198 : (Jvm.Cond.fieldLink "NotationParse" (198 : Nat) "NotationParse$Output" "size" "I") ∈ np_al := List.mem_filter.mpr ⟨List.mem_append_right _ (List.mem_append_left _ (List.mem_of_getElem? (i := 198) rfl)), rfl⟩
theorem tw_204 : (Jvm.Cond.fieldLink "NotationParse" (12 : Nat) "NotationParse" "grammar" "LNotationParse$Grammar;") ∈ np_al := List.mem_filter.mpr ⟨List.mem_append_right _ (List.mem_append_left _ (List.mem_of_getElem? (i := 204) rfl)), rfl⟩
theorem tw_205 : (Jvm.Cond.fieldLink "NotationParse" (19 : Nat) "NotationParse" "text" "LNotationParse$Text;") ∈ np_al := List.mem_filter.mpr ⟨List.mem_append_right _ (List.mem_append_left _ (List.mem_of_getElem? (i := 205) rfl)), rfl⟩
theorem tw_206 : (Jvm.Cond.fieldLink "NotationParse" (28 : Nat) "NotationParse" "chart" "LNotationParse$Chart;") ∈ np_al := List.mem_filter.mpr ⟨List.mem_append_right _ (List.mem_append_left _ (List.mem_of_getElem? (i := 206) rfl)), rfl⟩
theorem tw_207 : (Jvm.Cond.fieldLink "NotationParse" (37 : Nat) "NotationParse" "tree" "LNotationParse$Tree;") ∈ np_al := List.mem_filter.mpr ⟨List.mem_append_right _ (List.mem_append_left _ (List.mem_of_getElem? (i := 207) rfl)), rfl⟩
theorem tw_208 : (Jvm.Cond.fieldLink "NotationParse" (44 : Nat) "NotationParse" "output" "LNotationParse$Output;") ∈ np_al := List.mem_filter.mpr ⟨List.mem_append_right _ (List.mem_append_left _ (List.mem_of_getElem? (i := 208) rfl)), rfl⟩
theorem tw_209 : (Jvm.Cond.fieldLink "NotationParse" (48 : Nat) "NotationParse" "faultKind" "I") ∈ np_al := List.mem_filter.mpr ⟨List.mem_append_right _ (List.mem_append_left _ (List.mem_of_getElem? (i := 209) rfl)), rfl⟩
theorem tw_210 : (Jvm.Cond.fieldLink "NotationParse" (52 : Nat) "NotationParse" "faultPlace" "I") ∈ np_al := List.mem_filter.mpr ⟨List.mem_append_right _ (List.mem_append_left _ (List.mem_of_getElem? (i := 210) rfl)), rfl⟩
theorem tw_230 : (Jvm.Cond.methodLink "NotationParse" (123 : Nat) ({ cls := "NotationParse$Text", name := "append", desc := "(JI)V" } : Jvm.MethodName)) ∈ np_al := List.mem_filter.mpr ⟨List.mem_append_right _ (List.mem_append_left _ (List.mem_of_getElem? (i := 230) rfl)), rfl⟩
theorem tw_231 : (Jvm.Cond.instanceMethod ({ cls := "NotationParse$Text", name := "append", desc := "(JI)V" } : Jvm.MethodName)) ∈ np_al := List.mem_filter.mpr ⟨List.mem_append_right _ (List.mem_append_left _ (List.mem_of_getElem? (i := 231) rfl)), rfl⟩
theorem tw_232 : (Jvm.Cond.selects "NotationParse$Text" ({ cls := "NotationParse$Text", name := "append", desc := "(JI)V" } : Jvm.MethodName) ({ cls := "NotationParse$Text", name := "append", desc := "(JI)V" } : Jvm.MethodName)) ∈ np_al := List.mem_filter.mpr ⟨List.mem_append_right _ (List.mem_append_left _ (List.mem_of_getElem? (i := 232) rfl)), rfl⟩
theorem tw_233 : (Jvm.Cond.code ({ cls := "NotationParse$Text", name := "append", desc := "(JI)V" } : Jvm.MethodName) prog_6_method_2_code (5 : Nat) (Option.none : Option Jvm.ClassFile.FieldType)) ∈ np_al := List.mem_filter.mpr ⟨List.mem_append_right _ (List.mem_append_left _ (List.mem_of_getElem? (i := 233) rfl)), rfl⟩
theorem tw_234 : (Jvm.Cond.methodLink "NotationParse$Text" (36 : Nat) ({ cls := "NotationParse$Spelling", name := "byteOf", desc := "(JI)I" } : Jvm.MethodName)) ∈ np_al := List.mem_filter.mpr ⟨List.mem_append_right _ (List.mem_append_left _ (List.mem_of_getElem? (i := 234) rfl)), rfl⟩
theorem tw_235 : (Jvm.Cond.static ({ cls := "NotationParse$Spelling", name := "byteOf", desc := "(JI)I" } : Jvm.MethodName)) ∈ np_al := List.mem_filter.mpr ⟨List.mem_append_right _ (List.mem_append_left _ (List.mem_of_getElem? (i := 235) rfl)), rfl⟩
theorem tw_236 : (Jvm.Cond.code ({ cls := "NotationParse$Spelling", name := "byteOf", desc := "(JI)I" } : Jvm.MethodName) prog_5_method_3_code (3 : Nat) (Option.some Jvm.ClassFile.FieldType.int)) ∈ np_al := List.mem_filter.mpr ⟨List.mem_append_right _ (List.mem_append_left _ (List.mem_of_getElem? (i := 236) rfl)), rfl⟩
theorem tw_256 : (Jvm.Cond.methodLink "NotationParse$Spelling" (21 : Nat) ({ cls := "NotationParse$Spelling", name := "byteOf", desc := "(JI)I" } : Jvm.MethodName)) ∈ np_al := List.mem_filter.mpr ⟨List.mem_append_right _ (List.mem_append_right _ (List.mem_append_left _ (List.mem_of_getElem? (i := 16) rfl))), rfl⟩
theorem tw_293 : (Jvm.Cond.static ({ cls := "java/lang/Math", name := "min", desc := "(II)I" } : Jvm.MethodName)) ∈ np_al := List.mem_filter.mpr ⟨List.mem_append_right _ (List.mem_append_right _ (List.mem_append_left _ (List.mem_of_getElem? (i := 53) rfl))), rfl⟩
theorem tw_294 : (Jvm.Cond.code ({ cls := "java/lang/Math", name := "min", desc := "(II)I" } : Jvm.MethodName) prog_17_method_69_code (2 : Nat) (Option.some Jvm.ClassFile.FieldType.int)) ∈ np_al := List.mem_filter.mpr ⟨List.mem_append_right _ (List.mem_append_right _ (List.mem_append_left _ (List.mem_of_getElem? (i := 54) rfl))), rfl⟩
theorem tw_352 : (Jvm.Cond.instanceMethod ({ cls := "NotationParse$Grammar", name := "hasKey", desc := "(J)Z" } : Jvm.MethodName)) ∈ np_al := List.mem_filter.mpr ⟨List.mem_append_right _ (List.mem_append_right _ (List.mem_append_left _ (List.mem_of_getElem? (i := 112) rfl))), rfl⟩
theorem tw_353 : (Jvm.Cond.selects "NotationParse$Grammar" ({ cls := "NotationParse$Grammar", name := "hasKey", desc := "(J)Z" } : Jvm.MethodName) ({ cls := "NotationParse$Grammar", name := "hasKey", desc := "(J)Z" } : Jvm.MethodName)) ∈ np_al := List.mem_filter.mpr ⟨List.mem_append_right _ (List.mem_append_right _ (List.mem_append_left _ (List.mem_of_getElem? (i := 113) rfl))), rfl⟩
theorem tw_354 : (Jvm.Cond.code ({ cls := "NotationParse$Grammar", name := "hasKey", desc := "(J)Z" } : Jvm.MethodName) prog_3_method_9_code (4 : Nat) (Option.some Jvm.ClassFile.FieldType.boolean)) ∈ np_al := List.mem_filter.mpr ⟨List.mem_append_right _ (List.mem_append_right _ (List.mem_append_left _ (List.mem_of_getElem? (i := 114) rfl))), rfl⟩
theorem tw_355 : (Jvm.Cond.methodLink "NotationParse$Grammar" (47 : Nat) ({ cls := "NotationParse$Grammar", name := "usedDots", desc := "()I" } : Jvm.MethodName)) ∈ np_al := List.mem_filter.mpr ⟨List.mem_append_right _ (List.mem_append_right _ (List.mem_append_left _ (List.mem_of_getElem? (i := 115) rfl))), rfl⟩
theorem tw_356 : (Jvm.Cond.instanceMethod ({ cls := "NotationParse$Grammar", name := "usedDots", desc := "()I" } : Jvm.MethodName)) ∈ np_al := List.mem_filter.mpr ⟨List.mem_append_right _ (List.mem_append_right _ (List.mem_append_left _ (List.mem_of_getElem? (i := 116) rfl))), rfl⟩
theorem tw_357 : (Jvm.Cond.selects "NotationParse$Grammar" ({ cls := "NotationParse$Grammar", name := "usedDots", desc := "()I" } : Jvm.MethodName) ({ cls := "NotationParse$Grammar", name := "usedDots", desc := "()I" } : Jvm.MethodName)) ∈ np_al := List.mem_filter.mpr ⟨List.mem_append_right _ (List.mem_append_right _ (List.mem_append_left _ (List.mem_of_getElem? (i := 117) rfl))), rfl⟩
theorem tw_358 : (Jvm.Cond.code ({ cls := "NotationParse$Grammar", name := "usedDots", desc := "()I" } : Jvm.MethodName) prog_3_method_2_code (1 : Nat) (Option.some Jvm.ClassFile.FieldType.int)) ∈ np_al := List.mem_filter.mpr ⟨List.mem_append_right _ (List.mem_append_right _ (List.mem_append_left _ (List.mem_of_getElem? (i := 118) rfl))), rfl⟩
theorem tw_487 : (Jvm.Cond.methodLink "NotationParse" (103 : Nat) ({ cls := "NotationParse$Grammar", name := "dropHand", desc := "()V" } : Jvm.MethodName)) ∈ np_al := List.mem_filter.mpr ⟨List.mem_append_right _ (List.mem_append_right _ (List.mem_append_right _ (List.mem_append_left _ (List.mem_of_getElem? (i := 7) rfl)))), rfl⟩
theorem tw_488 : (Jvm.Cond.instanceMethod ({ cls := "NotationParse$Grammar", name := "dropHand", desc := "()V" } : Jvm.MethodName)) ∈ np_al := List.mem_filter.mpr ⟨List.mem_append_right _ (List.mem_append_right _ (List.mem_append_right _ (List.mem_append_left _ (List.mem_of_getElem? (i := 8) rfl)))), rfl⟩
theorem tw_489 : (Jvm.Cond.selects "NotationParse$Grammar" ({ cls := "NotationParse$Grammar", name := "dropHand", desc := "()V" } : Jvm.MethodName) ({ cls := "NotationParse$Grammar", name := "dropHand", desc := "()V" } : Jvm.MethodName)) ∈ np_al := List.mem_filter.mpr ⟨List.mem_append_right _ (List.mem_append_right _ (List.mem_append_right _ (List.mem_append_left _ (List.mem_of_getElem? (i := 9) rfl)))), rfl⟩
theorem tw_490 : (Jvm.Cond.code ({ cls := "NotationParse$Grammar", name := "dropHand", desc := "()V" } : Jvm.MethodName) prog_3_method_7_code (1 : Nat) (Option.none : Option Jvm.ClassFile.FieldType)) ∈ np_al := List.mem_filter.mpr ⟨List.mem_append_right _ (List.mem_append_right _ (List.mem_append_right _ (List.mem_append_left _ (List.mem_of_getElem? (i := 10) rfl)))), rfl⟩
theorem tw_491 : (Jvm.Cond.methodLink "NotationParse$Grammar" (51 : Nat) ({ cls := "java/util/Arrays", name := "fill", desc := "([IIII)V" } : Jvm.MethodName)) ∈ np_al := List.mem_filter.mpr ⟨List.mem_append_right _ (List.mem_append_right _ (List.mem_append_right _ (List.mem_append_left _ (List.mem_of_getElem? (i := 11) rfl)))), rfl⟩
theorem tw_492 : (Jvm.Cond.static ({ cls := "java/util/Arrays", name := "fill", desc := "([IIII)V" } : Jvm.MethodName)) ∈ np_al := List.mem_filter.mpr ⟨List.mem_append_right _ (List.mem_append_right _ (List.mem_append_right _ (List.mem_append_left _ (List.mem_of_getElem? (i := 12) rfl)))), rfl⟩
theorem tw_493 : (Jvm.Cond.code ({ cls := "java/util/Arrays", name := "fill", desc := "([IIII)V" } : Jvm.MethodName) prog_25_method_104_code (5 : Nat) (Option.none : Option Jvm.ClassFile.FieldType)) ∈ np_al := List.mem_filter.mpr ⟨List.mem_append_right _ (List.mem_append_right _ (List.mem_append_right _ (List.mem_append_left _ (List.mem_of_getElem? (i := 13) rfl)))), rfl⟩
theorem tw_494 : (Jvm.Cond.methodLink "java/util/Arrays" (13 : Nat) ({ cls := "java/util/Arrays", name := "rangeCheck", desc := "(III)V" } : Jvm.MethodName)) ∈ np_al := List.mem_filter.mpr ⟨List.mem_append_right _ (List.mem_append_right _ (List.mem_append_right _ (List.mem_append_left _ (List.mem_of_getElem? (i := 14) rfl)))), rfl⟩
theorem tw_495 : (Jvm.Cond.static ({ cls := "java/util/Arrays", name := "rangeCheck", desc := "(III)V" } : Jvm.MethodName)) ∈ np_al := List.mem_filter.mpr ⟨List.mem_append_right _ (List.mem_append_right _ (List.mem_append_right _ (List.mem_append_left _ (List.mem_of_getElem? (i := 15) rfl)))), rfl⟩
theorem tw_496 : (Jvm.Cond.code ({ cls := "java/util/Arrays", name := "rangeCheck", desc := "(III)V" } : Jvm.MethodName) prog_25_method_30_code (3 : Nat) (Option.none : Option Jvm.ClassFile.FieldType)) ∈ np_al := List.mem_filter.mpr ⟨List.mem_append_right _ (List.mem_append_right _ (List.mem_append_right _ (List.mem_append_left _ (List.mem_of_getElem? (i := 16) rfl)))), rfl⟩
theorem tw_703 : (Jvm.Cond.methodLink "NotationParse$Grammar" (54 : Nat) ({ cls := "java/util/Arrays", name := "fill", desc := "([JIIJ)V" } : Jvm.MethodName)) ∈ np_al := List.mem_filter.mpr ⟨List.mem_append_right _ (List.mem_append_right _ (List.mem_append_right _ (List.mem_append_left _ (List.mem_of_getElem? (i := 223) rfl)))), rfl⟩
theorem tw_704 : (Jvm.Cond.static ({ cls := "java/util/Arrays", name := "fill", desc := "([JIIJ)V" } : Jvm.MethodName)) ∈ np_al := List.mem_filter.mpr ⟨List.mem_append_right _ (List.mem_append_right _ (List.mem_append_right _ (List.mem_append_left _ (List.mem_of_getElem? (i := 224) rfl)))), rfl⟩
theorem tw_705 : (Jvm.Cond.code ({ cls := "java/util/Arrays", name := "fill", desc := "([JIIJ)V" } : Jvm.MethodName) prog_25_method_102_code (6 : Nat) (Option.none : Option Jvm.ClassFile.FieldType)) ∈ np_al := List.mem_filter.mpr ⟨List.mem_append_right _ (List.mem_append_right _ (List.mem_append_right _ (List.mem_append_left _ (List.mem_of_getElem? (i := 225) rfl)))), rfl⟩
theorem tw_708 : (Jvm.Cond.methodLink "NotationParse" (113 : Nat) ({ cls := "NotationParse$Tree", name := "fell", desc := "()V" } : Jvm.MethodName)) ∈ np_al := List.mem_filter.mpr ⟨List.mem_append_right _ (List.mem_append_right _ (List.mem_append_right _ (List.mem_append_left _ (List.mem_of_getElem? (i := 228) rfl)))), rfl⟩
theorem tw_709 : (Jvm.Cond.instanceMethod ({ cls := "NotationParse$Tree", name := "fell", desc := "()V" } : Jvm.MethodName)) ∈ np_al := List.mem_filter.mpr ⟨List.mem_append_right _ (List.mem_append_right _ (List.mem_append_right _ (List.mem_append_left _ (List.mem_of_getElem? (i := 229) rfl)))), rfl⟩
theorem tw_710 : (Jvm.Cond.selects "NotationParse$Tree" ({ cls := "NotationParse$Tree", name := "fell", desc := "()V" } : Jvm.MethodName) ({ cls := "NotationParse$Tree", name := "fell", desc := "()V" } : Jvm.MethodName)) ∈ np_al := List.mem_filter.mpr ⟨List.mem_append_right _ (List.mem_append_right _ (List.mem_append_right _ (List.mem_append_left _ (List.mem_of_getElem? (i := 230) rfl)))), rfl⟩
theorem tw_711 : (Jvm.Cond.code ({ cls := "NotationParse$Tree", name := "fell", desc := "()V" } : Jvm.MethodName) prog_7_method_2_code (1 : Nat) (Option.none : Option Jvm.ClassFile.FieldType)) ∈ np_al := List.mem_filter.mpr ⟨List.mem_append_right _ (List.mem_append_right _ (List.mem_append_right _ (List.mem_append_left _ (List.mem_of_getElem? (i := 231) rfl)))), rfl⟩
theorem tw_740 : (Jvm.Cond.methodLink "NotationParse$Text" (57 : Nat) ({ cls := "NotationParse$Grammar", name := "hasKey", desc := "(J)Z" } : Jvm.MethodName)) ∈ np_al := List.mem_filter.mpr ⟨List.mem_append_right _ (List.mem_append_right _ (List.mem_append_right _ (List.mem_append_right _ (List.mem_append_left _ (List.mem_of_getElem? (i := 20) rfl))))), rfl⟩
theorem tw_745 : (Jvm.Cond.methodLink "NotationParse" (149 : Nat) ({ cls := "NotationParse$Chart", name := "follow", desc := "([JI)I" } : Jvm.MethodName)) ∈ np_al := List.mem_filter.mpr ⟨List.mem_append_right _ (List.mem_append_right _ (List.mem_append_right _ (List.mem_append_right _ (List.mem_append_left _ (List.mem_of_getElem? (i := 25) rfl))))), rfl⟩
theorem tw_746 : (Jvm.Cond.instanceMethod ({ cls := "NotationParse$Chart", name := "follow", desc := "([JI)I" } : Jvm.MethodName)) ∈ np_al := List.mem_filter.mpr ⟨List.mem_append_right _ (List.mem_append_right _ (List.mem_append_right _ (List.mem_append_right _ (List.mem_append_left _ (List.mem_of_getElem? (i := 26) rfl))))), rfl⟩
theorem tw_747 : (Jvm.Cond.selects "NotationParse$Chart" ({ cls := "NotationParse$Chart", name := "follow", desc := "([JI)I" } : Jvm.MethodName) ({ cls := "NotationParse$Chart", name := "follow", desc := "([JI)I" } : Jvm.MethodName)) ∈ np_al := List.mem_filter.mpr ⟨List.mem_append_right _ (List.mem_append_right _ (List.mem_append_right _ (List.mem_append_right _ (List.mem_append_left _ (List.mem_of_getElem? (i := 27) rfl))))), rfl⟩
theorem tw_748 : (Jvm.Cond.code ({ cls := "NotationParse$Chart", name := "follow", desc := "([JI)I" } : Jvm.MethodName) prog_2_method_2_code (4 : Nat) (Option.some Jvm.ClassFile.FieldType.int)) ∈ np_al := List.mem_filter.mpr ⟨List.mem_append_right _ (List.mem_append_right _ (List.mem_append_right _ (List.mem_append_right _ (List.mem_append_left _ (List.mem_of_getElem? (i := 28) rfl))))), rfl⟩
theorem tw_749 : (Jvm.Cond.methodLink "NotationParse$Chart" (25 : Nat) ({ cls := "NotationParse$Chart", name := "emptyRow", desc := "(I)V" } : Jvm.MethodName)) ∈ np_al := List.mem_filter.mpr ⟨List.mem_append_right _ (List.mem_append_right _ (List.mem_append_right _ (List.mem_append_right _ (List.mem_append_left _ (List.mem_of_getElem? (i := 29) rfl))))), rfl⟩
theorem tw_751 : (Jvm.Cond.instanceMethod ({ cls := "NotationParse$Chart", name := "emptyRow", desc := "(I)V" } : Jvm.MethodName)) ∈ np_al := List.mem_filter.mpr ⟨List.mem_append_right _ (List.mem_append_right _ (List.mem_append_right _ (List.mem_append_right _ (List.mem_append_left _ (List.mem_of_getElem? (i := 31) rfl))))), rfl⟩
theorem tw_752 : (Jvm.Cond.code ({ cls := "NotationParse$Chart", name := "emptyRow", desc := "(I)V" } : Jvm.MethodName) prog_2_method_4_code (2 : Nat) (Option.none : Option Jvm.ClassFile.FieldType)) ∈ np_al := List.mem_filter.mpr ⟨List.mem_append_right _ (List.mem_append_right _ (List.mem_append_right _ (List.mem_append_right _ (List.mem_append_left _ (List.mem_of_getElem? (i := 32) rfl))))), rfl⟩
theorem tw_753 : (Jvm.Cond.methodLink "NotationParse$Chart" (48 : Nat) ({ cls := "java/util/Arrays", name := "fill", desc := "([IIII)V" } : Jvm.MethodName)) ∈ np_al := List.mem_filter.mpr ⟨List.mem_append_right _ (List.mem_append_right _ (List.mem_append_right _ (List.mem_append_right _ (List.mem_append_left _ (List.mem_of_getElem? (i := 33) rfl))))), rfl⟩
theorem tw_754 : (Jvm.Cond.methodLink "NotationParse$Chart" (29 : Nat) ({ cls := "NotationParse$Chart", name := "predict", desc := "(II)V" } : Jvm.MethodName)) ∈ np_al := List.mem_filter.mpr ⟨List.mem_append_right _ (List.mem_append_right _ (List.mem_append_right _ (List.mem_append_right _ (List.mem_append_left _ (List.mem_of_getElem? (i := 34) rfl))))), rfl⟩
theorem tw_756 : (Jvm.Cond.instanceMethod ({ cls := "NotationParse$Chart", name := "predict", desc := "(II)V" } : Jvm.MethodName)) ∈ np_al := List.mem_filter.mpr ⟨List.mem_append_right _ (List.mem_append_right _ (List.mem_append_right _ (List.mem_append_right _ (List.mem_append_left _ (List.mem_of_getElem? (i := 36) rfl))))), rfl⟩
theorem tw_757 : (Jvm.Cond.code ({ cls := "NotationParse$Chart", name := "predict", desc := "(II)V" } : Jvm.MethodName) prog_2_method_11_code (7 : Nat) (Option.none : Option Jvm.ClassFile.FieldType)) ∈ np_al := List.mem_filter.mpr ⟨List.mem_append_right _ (List.mem_append_right _ (List.mem_append_right _ (List.mem_append_right _ (List.mem_append_left _ (List.mem_of_getElem? (i := 37) rfl))))), rfl⟩
theorem tw_758 : (Jvm.Cond.methodLink "NotationParse$Chart" (85 : Nat) ({ cls := "NotationParse$Chart", name := "leastFirstHole", desc := "(I)I" } : Jvm.MethodName)) ∈ np_al := List.mem_filter.mpr ⟨List.mem_append_right _ (List.mem_append_right _ (List.mem_append_right _ (List.mem_append_right _ (List.mem_append_left _ (List.mem_of_getElem? (i := 38) rfl))))), rfl⟩
theorem tw_760 : (Jvm.Cond.instanceMethod ({ cls := "NotationParse$Chart", name := "leastFirstHole", desc := "(I)I" } : Jvm.MethodName)) ∈ np_al := List.mem_filter.mpr ⟨List.mem_append_right _ (List.mem_append_right _ (List.mem_append_right _ (List.mem_append_right _ (List.mem_append_left _ (List.mem_of_getElem? (i := 40) rfl))))), rfl⟩
theorem tw_761 : (Jvm.Cond.code ({ cls := "NotationParse$Chart", name := "leastFirstHole", desc := "(I)I" } : Jvm.MethodName) prog_2_method_12_code (5 : Nat) (Option.some Jvm.ClassFile.FieldType.int)) ∈ np_al := List.mem_filter.mpr ⟨List.mem_append_right _ (List.mem_append_right _ (List.mem_append_right _ (List.mem_append_right _ (List.mem_append_left _ (List.mem_of_getElem? (i := 41) rfl))))), rfl⟩
theorem tw_762 : (Jvm.Cond.methodLink "NotationParse$Chart" (33 : Nat) ({ cls := "NotationParse$Chart", name := "scan", desc := "(IJ)Z" } : Jvm.MethodName)) ∈ np_al := List.mem_filter.mpr ⟨List.mem_append_right _ (List.mem_append_right _ (List.mem_append_right _ (List.mem_append_right _ (List.mem_append_left _ (List.mem_of_getElem? (i := 42) rfl))))), rfl⟩
theorem tw_764 : (Jvm.Cond.instanceMethod ({ cls := "NotationParse$Chart", name := "scan", desc := "(IJ)Z" } : Jvm.MethodName)) ∈ np_al := List.mem_filter.mpr ⟨List.mem_append_right _ (List.mem_append_right _ (List.mem_append_right _ (List.mem_append_right _ (List.mem_append_left _ (List.mem_of_getElem? (i := 44) rfl))))), rfl⟩
theorem tw_765 : (Jvm.Cond.code ({ cls := "NotationParse$Chart", name := "scan", desc := "(IJ)Z" } : Jvm.MethodName) prog_2_method_6_code (8 : Nat) (Option.some Jvm.ClassFile.FieldType.boolean)) ∈ np_al := List.mem_filter.mpr ⟨List.mem_append_right _ (List.mem_append_right _ (List.mem_append_right _ (List.mem_append_right _ (List.mem_append_left _ (List.mem_of_getElem? (i := 45) rfl))))), rfl⟩
theorem tw_766 : (Jvm.Cond.methodLink "NotationParse$Chart" (54 : Nat) ({ cls := "NotationParse$Grammar", name := "usedDots", desc := "()I" } : Jvm.MethodName)) ∈ np_al := List.mem_filter.mpr ⟨List.mem_append_right _ (List.mem_append_right _ (List.mem_append_right _ (List.mem_append_right _ (List.mem_append_left _ (List.mem_of_getElem? (i := 46) rfl))))), rfl⟩
theorem tw_767 : (Jvm.Cond.methodLink "NotationParse$Chart" (37 : Nat) ({ cls := "NotationParse$Chart", name := "complete", desc := "(I)V" } : Jvm.MethodName)) ∈ np_al := List.mem_filter.mpr ⟨List.mem_append_right _ (List.mem_append_right _ (List.mem_append_right _ (List.mem_append_right _ (List.mem_append_left _ (List.mem_of_getElem? (i := 47) rfl))))), rfl⟩
theorem tw_769 : (Jvm.Cond.instanceMethod ({ cls := "NotationParse$Chart", name := "complete", desc := "(I)V" } : Jvm.MethodName)) ∈ np_al := List.mem_filter.mpr ⟨List.mem_append_right _ (List.mem_append_right _ (List.mem_append_right _ (List.mem_append_right _ (List.mem_append_left _ (List.mem_of_getElem? (i := 49) rfl))))), rfl⟩
theorem tw_770 : (Jvm.Cond.code ({ cls := "NotationParse$Chart", name := "complete", desc := "(I)V" } : Jvm.MethodName) prog_2_method_7_code (4 : Nat) (Option.none : Option Jvm.ClassFile.FieldType)) ∈ np_al := List.mem_filter.mpr ⟨List.mem_append_right _ (List.mem_append_right _ (List.mem_append_right _ (List.mem_append_right _ (List.mem_append_left _ (List.mem_of_getElem? (i := 50) rfl))))), rfl⟩
theorem tw_771 : (Jvm.Cond.methodLink "NotationParse$Chart" (44 : Nat) ({ cls := "NotationParse$Chart", name := "highestTerm", desc := "(II)I" } : Jvm.MethodName)) ∈ np_al := List.mem_filter.mpr ⟨List.mem_append_right _ (List.mem_append_right _ (List.mem_append_right _ (List.mem_append_right _ (List.mem_append_left _ (List.mem_of_getElem? (i := 51) rfl))))), rfl⟩
theorem tw_773 : (Jvm.Cond.instanceMethod ({ cls := "NotationParse$Chart", name := "highestTerm", desc := "(II)I" } : Jvm.MethodName)) ∈ np_al := List.mem_filter.mpr ⟨List.mem_append_right _ (List.mem_append_right _ (List.mem_append_right _ (List.mem_append_right _ (List.mem_append_left _ (List.mem_of_getElem? (i := 53) rfl))))), rfl⟩
theorem tw_774 : (Jvm.Cond.code ({ cls := "NotationParse$Chart", name := "highestTerm", desc := "(II)I" } : Jvm.MethodName) prog_2_method_8_code (5 : Nat) (Option.some Jvm.ClassFile.FieldType.int)) ∈ np_al := List.mem_filter.mpr ⟨List.mem_append_right _ (List.mem_append_right _ (List.mem_append_right _ (List.mem_append_right _ (List.mem_append_left _ (List.mem_of_getElem? (i := 54) rfl))))), rfl⟩
theorem tw_775 : (Jvm.Cond.methodLink "NotationParse$Chart" (75 : Nat) ({ cls := "NotationParse$Grammar", name := "lastDot", desc := "(I)I" } : Jvm.MethodName)) ∈ np_al := List.mem_filter.mpr ⟨List.mem_append_right _ (List.mem_append_right _ (List.mem_append_right _ (List.mem_append_right _ (List.mem_append_left _ (List.mem_of_getElem? (i := 55) rfl))))), rfl⟩
theorem tw_776 : (Jvm.Cond.instanceMethod ({ cls := "NotationParse$Grammar", name := "lastDot", desc := "(I)I" } : Jvm.MethodName)) ∈ np_al := List.mem_filter.mpr ⟨List.mem_append_right _ (List.mem_append_right _ (List.mem_append_right _ (List.mem_append_right _ (List.mem_append_left _ (List.mem_of_getElem? (i := 56) rfl))))), rfl⟩
theorem tw_777 : (Jvm.Cond.selects "NotationParse$Grammar" ({ cls := "NotationParse$Grammar", name := "lastDot", desc := "(I)I" } : Jvm.MethodName) ({ cls := "NotationParse$Grammar", name := "lastDot", desc := "(I)I" } : Jvm.MethodName)) ∈ np_al := List.mem_filter.mpr ⟨List.mem_append_right _ (List.mem_append_right _ (List.mem_append_right _ (List.mem_append_right _ (List.mem_append_left _ (List.mem_of_getElem? (i := 57) rfl))))), rfl⟩
theorem tw_778 : (Jvm.Cond.code ({ cls := "NotationParse$Grammar", name := "lastDot", desc := "(I)I" } : Jvm.MethodName) prog_3_method_3_code (2 : Nat) (Option.some Jvm.ClassFile.FieldType.int)) ∈ np_al := List.mem_filter.mpr ⟨List.mem_append_right _ (List.mem_append_right _ (List.mem_append_right _ (List.mem_append_right _ (List.mem_append_left _ (List.mem_of_getElem? (i := 58) rfl))))), rfl⟩
theorem tw_779 : (Jvm.Cond.methodLink "NotationParse$Chart" (78 : Nat) ({ cls := "NotationParse$Chart", name := "isReached", desc := "(III)Z" } : Jvm.MethodName)) ∈ np_al := List.mem_filter.mpr ⟨List.mem_append_right _ (List.mem_append_right _ (List.mem_append_right _ (List.mem_append_right _ (List.mem_append_left _ (List.mem_of_getElem? (i := 59) rfl))))), rfl⟩
theorem tw_781 : (Jvm.Cond.instanceMethod ({ cls := "NotationParse$Chart", name := "isReached", desc := "(III)Z" } : Jvm.MethodName)) ∈ np_al := List.mem_filter.mpr ⟨List.mem_append_right _ (List.mem_append_right _ (List.mem_append_right _ (List.mem_append_right _ (List.mem_append_left _ (List.mem_of_getElem? (i := 61) rfl))))), rfl⟩
theorem tw_782 : (Jvm.Cond.code ({ cls := "NotationParse$Chart", name := "isReached", desc := "(III)Z" } : Jvm.MethodName) prog_2_method_5_code (4 : Nat) (Option.some Jvm.ClassFile.FieldType.boolean)) ∈ np_al := List.mem_filter.mpr ⟨List.mem_append_right _ (List.mem_append_right _ (List.mem_append_right _ (List.mem_append_right _ (List.mem_append_left _ (List.mem_of_getElem? (i := 62) rfl))))), rfl⟩
theorem tw_783 : (Jvm.Cond.methodLink "NotationParse$Chart" (64 : Nat) ({ cls := "NotationParse$Chart", name := "fillHoles", desc := "(III)V" } : Jvm.MethodName)) ∈ np_al := List.mem_filter.mpr ⟨List.mem_append_right _ (List.mem_append_right _ (List.mem_append_right _ (List.mem_append_right _ (List.mem_append_left _ (List.mem_of_getElem? (i := 63) rfl))))), rfl⟩
theorem tw_785 : (Jvm.Cond.instanceMethod ({ cls := "NotationParse$Chart", name := "fillHoles", desc := "(III)V" } : Jvm.MethodName)) ∈ np_al := List.mem_filter.mpr ⟨List.mem_append_right _ (List.mem_append_right _ (List.mem_append_right _ (List.mem_append_right _ (List.mem_append_left _ (List.mem_of_getElem? (i := 65) rfl))))), rfl⟩
theorem tw_786 : (Jvm.Cond.code ({ cls := "NotationParse$Chart", name := "fillHoles", desc := "(III)V" } : Jvm.MethodName) prog_2_method_9_code (8 : Nat) (Option.none : Option Jvm.ClassFile.FieldType)) ∈ np_al := List.mem_filter.mpr ⟨List.mem_append_right _ (List.mem_append_right _ (List.mem_append_right _ (List.mem_append_right _ (List.mem_append_left _ (List.mem_of_getElem? (i := 66) rfl))))), rfl⟩
theorem tw_787 : (Jvm.Cond.methodLink "NotationParse$Chart" (40 : Nat) ({ cls := "NotationParse$Chart", name := "leastWanted", desc := "(I)I" } : Jvm.MethodName)) ∈ np_al := List.mem_filter.mpr ⟨List.mem_append_right _ (List.mem_append_right _ (List.mem_append_right _ (List.mem_append_right _ (List.mem_append_left _ (List.mem_of_getElem? (i := 67) rfl))))), rfl⟩
theorem tw_789 : (Jvm.Cond.instanceMethod ({ cls := "NotationParse$Chart", name := "leastWanted", desc := "(I)I" } : Jvm.MethodName)) ∈ np_al := List.mem_filter.mpr ⟨List.mem_append_right _ (List.mem_append_right _ (List.mem_append_right _ (List.mem_append_right _ (List.mem_append_left _ (List.mem_of_getElem? (i := 69) rfl))))), rfl⟩
theorem tw_790 : (Jvm.Cond.code ({ cls := "NotationParse$Chart", name := "leastWanted", desc := "(I)I" } : Jvm.MethodName) prog_2_method_10_code (5 : Nat) (Option.some Jvm.ClassFile.FieldType.int)) ∈ np_al := List.mem_filter.mpr ⟨List.mem_append_right _ (List.mem_append_right _ (List.mem_append_right _ (List.mem_append_right _ (List.mem_append_left _ (List.mem_of_getElem? (i := 70) rfl))))), rfl⟩
theorem tw_791 : (Jvm.Cond.methodLink "NotationParse" (157 : Nat) ({ cls := "NotationParse", name := "noteFault", desc := "(II)V" } : Jvm.MethodName)) ∈ np_al := List.mem_filter.mpr ⟨List.mem_append_right _ (List.mem_append_right _ (List.mem_append_right _ (List.mem_append_right _ (List.mem_append_left _ (List.mem_of_getElem? (i := 71) rfl))))), rfl⟩
theorem tw_793 : (Jvm.Cond.instanceMethod ({ cls := "NotationParse", name := "noteFault", desc := "(II)V" } : Jvm.MethodName)) ∈ np_al := List.mem_filter.mpr ⟨List.mem_append_right _ (List.mem_append_right _ (List.mem_append_right _ (List.mem_append_right _ (List.mem_append_left _ (List.mem_of_getElem? (i := 73) rfl))))), rfl⟩
theorem tw_794 : (Jvm.Cond.code ({ cls := "NotationParse", name := "noteFault", desc := "(II)V" } : Jvm.MethodName) prog_1_method_9_code (3 : Nat) (Option.none : Option Jvm.ClassFile.FieldType)) ∈ np_al := List.mem_filter.mpr ⟨List.mem_append_right _ (List.mem_append_right _ (List.mem_append_right _ (List.mem_append_right _ (List.mem_append_left _ (List.mem_of_getElem? (i := 74) rfl))))), rfl⟩
theorem tw_795 : (Jvm.Cond.methodLink "NotationParse" (164 : Nat) ({ cls := "NotationParse$Chart", name := "isWhole", desc := "(I)Z" } : Jvm.MethodName)) ∈ np_al := List.mem_filter.mpr ⟨List.mem_append_right _ (List.mem_append_right _ (List.mem_append_right _ (List.mem_append_right _ (List.mem_append_left _ (List.mem_of_getElem? (i := 75) rfl))))), rfl⟩
theorem tw_796 : (Jvm.Cond.instanceMethod ({ cls := "NotationParse$Chart", name := "isWhole", desc := "(I)Z" } : Jvm.MethodName)) ∈ np_al := List.mem_filter.mpr ⟨List.mem_append_right _ (List.mem_append_right _ (List.mem_append_right _ (List.mem_append_right _ (List.mem_append_left _ (List.mem_of_getElem? (i := 76) rfl))))), rfl⟩
theorem tw_797 : (Jvm.Cond.selects "NotationParse$Chart" ({ cls := "NotationParse$Chart", name := "isWhole", desc := "(I)Z" } : Jvm.MethodName) ({ cls := "NotationParse$Chart", name := "isWhole", desc := "(I)Z" } : Jvm.MethodName)) ∈ np_al := List.mem_filter.mpr ⟨List.mem_append_right _ (List.mem_append_right _ (List.mem_append_right _ (List.mem_append_right _ (List.mem_append_left _ (List.mem_of_getElem? (i := 77) rfl))))), rfl⟩
theorem tw_798 : (Jvm.Cond.code ({ cls := "NotationParse$Chart", name := "isWhole", desc := "(I)Z" } : Jvm.MethodName) prog_2_method_3_code (2 : Nat) (Option.some Jvm.ClassFile.FieldType.boolean)) ∈ np_al := List.mem_filter.mpr ⟨List.mem_append_right _ (List.mem_append_right _ (List.mem_append_right _ (List.mem_append_right _ (List.mem_append_left _ (List.mem_of_getElem? (i := 78) rfl))))), rfl⟩
theorem tw_804 : (Jvm.Cond.methodLink "NotationParse$Chart" (88 : Nat) ({ cls := "NotationParse$Chart", name := "countFrom", desc := "(II)V" } : Jvm.MethodName)) ∈ np_al := List.mem_filter.mpr ⟨List.mem_append_right _ (List.mem_append_right _ (List.mem_append_right _ (List.mem_append_right _ (List.mem_append_left _ (List.mem_of_getElem? (i := 84) rfl))))), rfl⟩
theorem tw_806 : (Jvm.Cond.instanceMethod ({ cls := "NotationParse$Chart", name := "countFrom", desc := "(II)V" } : Jvm.MethodName)) ∈ np_al := List.mem_filter.mpr ⟨List.mem_append_right _ (List.mem_append_right _ (List.mem_append_right _ (List.mem_append_right _ (List.mem_append_left _ (List.mem_of_getElem? (i := 86) rfl))))), rfl⟩
theorem tw_807 : (Jvm.Cond.code ({ cls := "NotationParse$Chart", name := "countFrom", desc := "(II)V" } : Jvm.MethodName) prog_2_method_14_code (5 : Nat) (Option.none : Option Jvm.ClassFile.FieldType)) ∈ np_al := List.mem_filter.mpr ⟨List.mem_append_right _ (List.mem_append_right _ (List.mem_append_right _ (List.mem_append_right _ (List.mem_append_left _ (List.mem_of_getElem? (i := 87) rfl))))), rfl⟩
theorem tw_808 : (Jvm.Cond.methodLink "NotationParse$Chart" (95 : Nat) ({ cls := "NotationParse$Chart", name := "countRule", desc := "(III)V" } : Jvm.MethodName)) ∈ np_al := List.mem_filter.mpr ⟨List.mem_append_right _ (List.mem_append_right _ (List.mem_append_right _ (List.mem_append_right _ (List.mem_append_left _ (List.mem_of_getElem? (i := 88) rfl))))), rfl⟩
theorem tw_810 : (Jvm.Cond.instanceMethod ({ cls := "NotationParse$Chart", name := "countRule", desc := "(III)V" } : Jvm.MethodName)) ∈ np_al := List.mem_filter.mpr ⟨List.mem_append_right _ (List.mem_append_right _ (List.mem_append_right _ (List.mem_append_right _ (List.mem_append_left _ (List.mem_of_getElem? (i := 90) rfl))))), rfl⟩
theorem tw_811 : (Jvm.Cond.code ({ cls := "NotationParse$Chart", name := "countRule", desc := "(III)V" } : Jvm.MethodName) prog_2_method_15_code (8 : Nat) (Option.none : Option Jvm.ClassFile.FieldType)) ∈ np_al := List.mem_filter.mpr ⟨List.mem_append_right _ (List.mem_append_right _ (List.mem_append_right _ (List.mem_append_right _ (List.mem_append_left _ (List.mem_of_getElem? (i := 91) rfl))))), rfl⟩
theorem tw_812 : (Jvm.Cond.methodLink "NotationParse$Chart" (104 : Nat) ({ cls := "NotationParse$Chart", name := "countSplits", desc := "(IIII)I" } : Jvm.MethodName)) ∈ np_al := List.mem_filter.mpr ⟨List.mem_append_right _ (List.mem_append_right _ (List.mem_append_right _ (List.mem_append_right _ (List.mem_append_left _ (List.mem_of_getElem? (i := 92) rfl))))), rfl⟩
theorem tw_814 : (Jvm.Cond.instanceMethod ({ cls := "NotationParse$Chart", name := "countSplits", desc := "(IIII)I" } : Jvm.MethodName)) ∈ np_al := List.mem_filter.mpr ⟨List.mem_append_right _ (List.mem_append_right _ (List.mem_append_right _ (List.mem_append_right _ (List.mem_append_left _ (List.mem_of_getElem? (i := 94) rfl))))), rfl⟩
theorem tw_815 : (Jvm.Cond.code ({ cls := "NotationParse$Chart", name := "countSplits", desc := "(IIII)I" } : Jvm.MethodName) prog_2_method_16_code (8 : Nat) (Option.some Jvm.ClassFile.FieldType.int)) ∈ np_al := List.mem_filter.mpr ⟨List.mem_append_right _ (List.mem_append_right _ (List.mem_append_right _ (List.mem_append_right _ (List.mem_append_left _ (List.mem_of_getElem? (i := 95) rfl))))), rfl⟩
theorem tw_816 : (Jvm.Cond.methodLink "NotationParse$Chart" (91 : Nat) ({ cls := "NotationParse$Chart", name := "cell", desc := "(III)I" } : Jvm.MethodName)) ∈ np_al := List.mem_filter.mpr ⟨List.mem_append_right _ (List.mem_append_right _ (List.mem_append_right _ (List.mem_append_right _ (List.mem_append_left _ (List.mem_of_getElem? (i := 96) rfl))))), rfl⟩
theorem tw_818 : (Jvm.Cond.instanceMethod ({ cls := "NotationParse$Chart", name := "cell", desc := "(III)I" } : Jvm.MethodName)) ∈ np_al := List.mem_filter.mpr ⟨List.mem_append_right _ (List.mem_append_right _ (List.mem_append_right _ (List.mem_append_right _ (List.mem_append_left _ (List.mem_of_getElem? (i := 98) rfl))))), rfl⟩
theorem tw_819 : (Jvm.Cond.code ({ cls := "NotationParse$Chart", name := "cell", desc := "(III)I" } : Jvm.MethodName) prog_2_method_20_code (4 : Nat) (Option.some Jvm.ClassFile.FieldType.int)) ∈ np_al := List.mem_filter.mpr ⟨List.mem_append_right _ (List.mem_append_right _ (List.mem_append_right _ (List.mem_append_right _ (List.mem_append_left _ (List.mem_of_getElem? (i := 99) rfl))))), rfl⟩
theorem tw_820 : (Jvm.Cond.constantLong "NotationParse$Chart" (108 : Nat) (1000000 : Int64)) ∈ np_al := List.mem_filter.mpr ⟨List.mem_append_right _ (List.mem_append_right _ (List.mem_append_right _ (List.mem_append_right _ (List.mem_append_left _ (List.mem_of_getElem? (i := 100) rfl))))), rfl⟩
theorem tw_821 : (Jvm.Cond.methodLink "NotationParse$Chart" (110 : Nat) ({ cls := "java/lang/Math", name := "min", desc := "(JJ)J" } : Jvm.MethodName)) ∈ np_al := List.mem_filter.mpr ⟨List.mem_append_right _ (List.mem_append_right _ (List.mem_append_right _ (List.mem_append_right _ (List.mem_append_left _ (List.mem_of_getElem? (i := 101) rfl))))), rfl⟩
theorem tw_822 : (Jvm.Cond.static ({ cls := "java/lang/Math", name := "min", desc := "(JJ)J" } : Jvm.MethodName)) ∈ np_al := List.mem_filter.mpr ⟨List.mem_append_right _ (List.mem_append_right _ (List.mem_append_right _ (List.mem_append_right _ (List.mem_append_left _ (List.mem_of_getElem? (i := 102) rfl))))), rfl⟩
theorem tw_823 : (Jvm.Cond.code ({ cls := "java/lang/Math", name := "min", desc := "(JJ)J" } : Jvm.MethodName) prog_17_method_70_code (4 : Nat) (Option.some Jvm.ClassFile.FieldType.long)) ∈ np_al := List.mem_filter.mpr ⟨List.mem_append_right _ (List.mem_append_right _ (List.mem_append_right _ (List.mem_append_right _ (List.mem_append_left _ (List.mem_of_getElem? (i := 103) rfl))))), rfl⟩
theorem tw_824 : (Jvm.Cond.methodLink "NotationParse$Chart" (98 : Nat) ({ cls := "NotationParse$Chart", name := "sumTerms", desc := "(II)V" } : Jvm.MethodName)) ∈ np_al := List.mem_filter.mpr ⟨List.mem_append_right _ (List.mem_append_right _ (List.mem_append_right _ (List.mem_append_right _ (List.mem_append_left _ (List.mem_of_getElem? (i := 104) rfl))))), rfl⟩
theorem tw_826 : (Jvm.Cond.instanceMethod ({ cls := "NotationParse$Chart", name := "sumTerms", desc := "(II)V" } : Jvm.MethodName)) ∈ np_al := List.mem_filter.mpr ⟨List.mem_append_right _ (List.mem_append_right _ (List.mem_append_right _ (List.mem_append_right _ (List.mem_append_left _ (List.mem_of_getElem? (i := 106) rfl))))), rfl⟩
theorem tw_827 : (Jvm.Cond.code ({ cls := "NotationParse$Chart", name := "sumTerms", desc := "(II)V" } : Jvm.MethodName) prog_2_method_17_code (6 : Nat) (Option.none : Option Jvm.ClassFile.FieldType)) ∈ np_al := List.mem_filter.mpr ⟨List.mem_append_right _ (List.mem_append_right _ (List.mem_append_right _ (List.mem_append_right _ (List.mem_append_left _ (List.mem_of_getElem? (i := 107) rfl))))), rfl⟩
theorem tw_828 : (Jvm.Cond.methodLink "NotationParse$Chart" (116 : Nat) ({ cls := "NotationParse$Chart", name := "addTrees", desc := "(II)V" } : Jvm.MethodName)) ∈ np_al := List.mem_filter.mpr ⟨List.mem_append_right _ (List.mem_append_right _ (List.mem_append_right _ (List.mem_append_right _ (List.mem_append_left _ (List.mem_of_getElem? (i := 108) rfl))))), rfl⟩
theorem tw_830 : (Jvm.Cond.instanceMethod ({ cls := "NotationParse$Chart", name := "addTrees", desc := "(II)V" } : Jvm.MethodName)) ∈ np_al := List.mem_filter.mpr ⟨List.mem_append_right _ (List.mem_append_right _ (List.mem_append_right _ (List.mem_append_right _ (List.mem_append_left _ (List.mem_of_getElem? (i := 110) rfl))))), rfl⟩
theorem tw_831 : (Jvm.Cond.code ({ cls := "NotationParse$Chart", name := "addTrees", desc := "(II)V" } : Jvm.MethodName) prog_2_method_18_code (3 : Nat) (Option.none : Option Jvm.ClassFile.FieldType)) ∈ np_al := List.mem_filter.mpr ⟨List.mem_append_right _ (List.mem_append_right _ (List.mem_append_right _ (List.mem_append_right _ (List.mem_append_left _ (List.mem_of_getElem? (i := 111) rfl))))), rfl⟩
theorem tw_832 : (Jvm.Cond.constant "NotationParse$Chart" (119 : Nat) (1000000 : Int32)) ∈ np_al := List.mem_filter.mpr ⟨List.mem_append_right _ (List.mem_append_right _ (List.mem_append_right _ (List.mem_append_right _ (List.mem_append_left _ (List.mem_of_getElem? (i := 112) rfl))))), rfl⟩
theorem tw_833 : (Jvm.Cond.methodLink "NotationParse$Chart" (120 : Nat) ({ cls := "java/lang/Math", name := "min", desc := "(II)I" } : Jvm.MethodName)) ∈ np_al := List.mem_filter.mpr ⟨List.mem_append_right _ (List.mem_append_right _ (List.mem_append_right _ (List.mem_append_right _ (List.mem_append_left _ (List.mem_of_getElem? (i := 113) rfl))))), rfl⟩
theorem tw_834 : (Jvm.Cond.methodLink "NotationParse$Chart" (101 : Nat) ({ cls := "NotationParse$Chart", name := "countFirstHoles", desc := "(II)V" } : Jvm.MethodName)) ∈ np_al := List.mem_filter.mpr ⟨List.mem_append_right _ (List.mem_append_right _ (List.mem_append_right _ (List.mem_append_right _ (List.mem_append_left _ (List.mem_of_getElem? (i := 114) rfl))))), rfl⟩
theorem tw_836 : (Jvm.Cond.instanceMethod ({ cls := "NotationParse$Chart", name := "countFirstHoles", desc := "(II)V" } : Jvm.MethodName)) ∈ np_al := List.mem_filter.mpr ⟨List.mem_append_right _ (List.mem_append_right _ (List.mem_append_right _ (List.mem_append_right _ (List.mem_append_left _ (List.mem_of_getElem? (i := 116) rfl))))), rfl⟩
theorem tw_837 : (Jvm.Cond.code ({ cls := "NotationParse$Chart", name := "countFirstHoles", desc := "(II)V" } : Jvm.MethodName) prog_2_method_19_code (6 : Nat) (Option.none : Option Jvm.ClassFile.FieldType)) ∈ np_al := List.mem_filter.mpr ⟨List.mem_append_right _ (List.mem_append_right _ (List.mem_append_right _ (List.mem_append_right _ (List.mem_append_left _ (List.mem_of_getElem? (i := 117) rfl))))), rfl⟩
theorem tw_842 : (Jvm.Cond.methodLink "NotationParse$Tree" (57 : Nat) ({ cls := "NotationParse$Tree", name := "await", desc := "(IIII)V" } : Jvm.MethodName)) ∈ np_al := List.mem_filter.mpr ⟨List.mem_append_right _ (List.mem_append_right _ (List.mem_append_right _ (List.mem_append_right _ (List.mem_append_left _ (List.mem_of_getElem? (i := 122) rfl))))), rfl⟩
theorem tw_844 : (Jvm.Cond.instanceMethod ({ cls := "NotationParse$Tree", name := "await", desc := "(IIII)V" } : Jvm.MethodName)) ∈ np_al := List.mem_filter.mpr ⟨List.mem_append_right _ (List.mem_append_right _ (List.mem_append_right _ (List.mem_append_right _ (List.mem_append_left _ (List.mem_of_getElem? (i := 124) rfl))))), rfl⟩
theorem tw_845 : (Jvm.Cond.code ({ cls := "NotationParse$Tree", name := "await", desc := "(IIII)V" } : Jvm.MethodName) prog_7_method_4_code (5 : Nat) (Option.none : Option Jvm.ClassFile.FieldType)) ∈ np_al := List.mem_filter.mpr ⟨List.mem_append_right _ (List.mem_append_right _ (List.mem_append_right _ (List.mem_append_right _ (List.mem_append_left _ (List.mem_of_getElem? (i := 125) rfl))))), rfl⟩
theorem tw_846 : (Jvm.Cond.methodLink "NotationParse$Tree" (61 : Nat) ({ cls := "NotationParse$Tree", name := "growNode", desc := "(III)V" } : Jvm.MethodName)) ∈ np_al := List.mem_filter.mpr ⟨List.mem_append_right _ (List.mem_append_right _ (List.mem_append_right _ (List.mem_append_right _ (List.mem_append_left _ (List.mem_of_getElem? (i := 126) rfl))))), rfl⟩
theorem tw_848 : (Jvm.Cond.instanceMethod ({ cls := "NotationParse$Tree", name := "growNode", desc := "(III)V" } : Jvm.MethodName)) ∈ np_al := List.mem_filter.mpr ⟨List.mem_append_right _ (List.mem_append_right _ (List.mem_append_right _ (List.mem_append_right _ (List.mem_append_left _ (List.mem_of_getElem? (i := 128) rfl))))), rfl⟩
theorem tw_849 : (Jvm.Cond.code ({ cls := "NotationParse$Tree", name := "growNode", desc := "(III)V" } : Jvm.MethodName) prog_7_method_5_code (4 : Nat) (Option.none : Option Jvm.ClassFile.FieldType)) ∈ np_al := List.mem_filter.mpr ⟨List.mem_append_right _ (List.mem_append_right _ (List.mem_append_right _ (List.mem_append_right _ (List.mem_append_left _ (List.mem_of_getElem? (i := 129) rfl))))), rfl⟩
theorem tw_850 : (Jvm.Cond.methodLink "NotationParse$Tree" (65 : Nat) ({ cls := "NotationParse$Chart", name := "onlyRule", desc := "(III)I" } : Jvm.MethodName)) ∈ np_al := List.mem_filter.mpr ⟨List.mem_append_right _ (List.mem_append_right _ (List.mem_append_right _ (List.mem_append_right _ (List.mem_append_left _ (List.mem_of_getElem? (i := 130) rfl))))), rfl⟩
theorem tw_851 : (Jvm.Cond.instanceMethod ({ cls := "NotationParse$Chart", name := "onlyRule", desc := "(III)I" } : Jvm.MethodName)) ∈ np_al := List.mem_filter.mpr ⟨List.mem_append_right _ (List.mem_append_right _ (List.mem_append_right _ (List.mem_append_right _ (List.mem_append_left _ (List.mem_of_getElem? (i := 131) rfl))))), rfl⟩
theorem tw_852 : (Jvm.Cond.selects "NotationParse$Chart" ({ cls := "NotationParse$Chart", name := "onlyRule", desc := "(III)I" } : Jvm.MethodName) ({ cls := "NotationParse$Chart", name := "onlyRule", desc := "(III)I" } : Jvm.MethodName)) ∈ np_al := List.mem_filter.mpr ⟨List.mem_append_right _ (List.mem_append_right _ (List.mem_append_right _ (List.mem_append_right _ (List.mem_append_left _ (List.mem_of_getElem? (i := 132) rfl))))), rfl⟩
theorem tw_853 : (Jvm.Cond.code ({ cls := "NotationParse$Chart", name := "onlyRule", desc := "(III)I" } : Jvm.MethodName) prog_2_method_21_code (5 : Nat) (Option.some Jvm.ClassFile.FieldType.int)) ∈ np_al := List.mem_filter.mpr ⟨List.mem_append_right _ (List.mem_append_right _ (List.mem_append_right _ (List.mem_append_right _ (List.mem_append_left _ (List.mem_of_getElem? (i := 133) rfl))))), rfl⟩
theorem tw_854 : (Jvm.Cond.methodLink "NotationParse$Tree" (71 : Nat) ({ cls := "NotationParse$Tree", name := "awaitHoles", desc := "(III)I" } : Jvm.MethodName)) ∈ np_al := List.mem_filter.mpr ⟨List.mem_append_right _ (List.mem_append_right _ (List.mem_append_right _ (List.mem_append_right _ (List.mem_append_left _ (List.mem_of_getElem? (i := 134) rfl))))), rfl⟩
theorem tw_856 : (Jvm.Cond.instanceMethod ({ cls := "NotationParse$Tree", name := "awaitHoles", desc := "(III)I" } : Jvm.MethodName)) ∈ np_al := List.mem_filter.mpr ⟨List.mem_append_right _ (List.mem_append_right _ (List.mem_append_right _ (List.mem_append_right _ (List.mem_append_left _ (List.mem_of_getElem? (i := 136) rfl))))), rfl⟩
theorem tw_857 : (Jvm.Cond.code ({ cls := "NotationParse$Tree", name := "awaitHoles", desc := "(III)I" } : Jvm.MethodName) prog_7_method_6_code (10 : Nat) (Option.some Jvm.ClassFile.FieldType.int)) ∈ np_al := List.mem_filter.mpr ⟨List.mem_append_right _ (List.mem_append_right _ (List.mem_append_right _ (List.mem_append_right _ (List.mem_append_left _ (List.mem_of_getElem? (i := 137) rfl))))), rfl⟩
theorem tw_858 : (Jvm.Cond.methodLink "NotationParse$Tree" (74 : Nat) ({ cls := "NotationParse$Grammar", name := "lastDot", desc := "(I)I" } : Jvm.MethodName)) ∈ np_al := List.mem_filter.mpr ⟨List.mem_append_right _ (List.mem_append_right _ (List.mem_append_right _ (List.mem_append_right _ (List.mem_append_left _ (List.mem_of_getElem? (i := 138) rfl))))), rfl⟩
theorem tw_859 : (Jvm.Cond.methodLink "NotationParse$Tree" (83 : Nat) ({ cls := "NotationParse$Chart", name := "onlySplit", desc := "(III)I" } : Jvm.MethodName)) ∈ np_al := List.mem_filter.mpr ⟨List.mem_append_right _ (List.mem_append_right _ (List.mem_append_right _ (List.mem_append_right _ (List.mem_append_left _ (List.mem_of_getElem? (i := 139) rfl))))), rfl⟩
theorem tw_860 : (Jvm.Cond.instanceMethod ({ cls := "NotationParse$Chart", name := "onlySplit", desc := "(III)I" } : Jvm.MethodName)) ∈ np_al := List.mem_filter.mpr ⟨List.mem_append_right _ (List.mem_append_right _ (List.mem_append_right _ (List.mem_append_right _ (List.mem_append_left _ (List.mem_of_getElem? (i := 140) rfl))))), rfl⟩
theorem tw_861 : (Jvm.Cond.selects "NotationParse$Chart" ({ cls := "NotationParse$Chart", name := "onlySplit", desc := "(III)I" } : Jvm.MethodName) ({ cls := "NotationParse$Chart", name := "onlySplit", desc := "(III)I" } : Jvm.MethodName)) ∈ np_al := List.mem_filter.mpr ⟨List.mem_append_right _ (List.mem_append_right _ (List.mem_append_right _ (List.mem_append_right _ (List.mem_append_left _ (List.mem_of_getElem? (i := 141) rfl))))), rfl⟩
theorem tw_862 : (Jvm.Cond.code ({ cls := "NotationParse$Chart", name := "onlySplit", desc := "(III)I" } : Jvm.MethodName) prog_2_method_22_code (6 : Nat) (Option.some Jvm.ClassFile.FieldType.int)) ∈ np_al := List.mem_filter.mpr ⟨List.mem_append_right _ (List.mem_append_right _ (List.mem_append_right _ (List.mem_append_right _ (List.mem_append_left _ (List.mem_of_getElem? (i := 142) rfl))))), rfl⟩
theorem tw_895 : (Jvm.Cond.methodLink "NotationParse" (190 : Nat) ({ cls := "NotationParse$Tree", name := "needlessBrackets", desc := "()I" } : Jvm.MethodName)) ∈ np_al := List.mem_filter.mpr ⟨List.mem_append_right _ (List.mem_append_right _ (List.mem_append_right _ (List.mem_append_right _ (List.mem_append_left _ (List.mem_of_getElem? (i := 175) rfl))))), rfl⟩
theorem tw_896 : (Jvm.Cond.instanceMethod ({ cls := "NotationParse$Tree", name := "needlessBrackets", desc := "()I" } : Jvm.MethodName)) ∈ np_al := List.mem_filter.mpr ⟨List.mem_append_right _ (List.mem_append_right _ (List.mem_append_right _ (List.mem_append_right _ (List.mem_append_left _ (List.mem_of_getElem? (i := 176) rfl))))), rfl⟩
theorem tw_897 : (Jvm.Cond.selects "NotationParse$Tree" ({ cls := "NotationParse$Tree", name := "needlessBrackets", desc := "()I" } : Jvm.MethodName) ({ cls := "NotationParse$Tree", name := "needlessBrackets", desc := "()I" } : Jvm.MethodName)) ∈ np_al := List.mem_filter.mpr ⟨List.mem_append_right _ (List.mem_append_right _ (List.mem_append_right _ (List.mem_append_right _ (List.mem_append_left _ (List.mem_of_getElem? (i := 177) rfl))))), rfl⟩
theorem tw_898 : (Jvm.Cond.code ({ cls := "NotationParse$Tree", name := "needlessBrackets", desc := "()I" } : Jvm.MethodName) prog_7_method_7_code (3 : Nat) (Option.some Jvm.ClassFile.FieldType.int)) ∈ np_al := List.mem_filter.mpr ⟨List.mem_append_right _ (List.mem_append_right _ (List.mem_append_right _ (List.mem_append_right _ (List.mem_append_left _ (List.mem_of_getElem? (i := 178) rfl))))), rfl⟩
theorem tw_899 : (Jvm.Cond.methodLink "NotationParse$Tree" (86 : Nat) ({ cls := "NotationParse$Tree", name := "levelWithin", desc := "(I)I" } : Jvm.MethodName)) ∈ np_al := List.mem_filter.mpr ⟨List.mem_append_right _ (List.mem_append_right _ (List.mem_append_right _ (List.mem_append_right _ (List.mem_append_left _ (List.mem_of_getElem? (i := 179) rfl))))), rfl⟩
theorem tw_901 : (Jvm.Cond.instanceMethod ({ cls := "NotationParse$Tree", name := "levelWithin", desc := "(I)I" } : Jvm.MethodName)) ∈ np_al := List.mem_filter.mpr ⟨List.mem_append_right _ (List.mem_append_right _ (List.mem_append_right _ (List.mem_append_right _ (List.mem_append_left _ (List.mem_of_getElem? (i := 181) rfl))))), rfl⟩
theorem tw_902 : (Jvm.Cond.code ({ cls := "NotationParse$Tree", name := "levelWithin", desc := "(I)I" } : Jvm.MethodName) prog_7_method_8_code (3 : Nat) (Option.some Jvm.ClassFile.FieldType.int)) ∈ np_al := List.mem_filter.mpr ⟨List.mem_append_right _ (List.mem_append_right _ (List.mem_append_right _ (List.mem_append_right _ (List.mem_append_left _ (List.mem_of_getElem? (i := 182) rfl))))), rfl⟩
theorem tw_903 : (Jvm.Cond.methodLink "NotationParse" (194 : Nat) ({ cls := "NotationParse$Output", name := "writeWords", desc := "(LNotationParse$Text;I)V" } : Jvm.MethodName)) ∈ np_al := List.mem_filter.mpr ⟨List.mem_append_right _ (List.mem_append_right _ (List.mem_append_right _ (List.mem_append_right _ (List.mem_append_left _ (List.mem_of_getElem? (i := 183) rfl))))), rfl⟩
theorem tw_904 : (Jvm.Cond.instanceMethod ({ cls := "NotationParse$Output", name := "writeWords", desc := "(LNotationParse$Text;I)V" } : Jvm.MethodName)) ∈ np_al := List.mem_filter.mpr ⟨List.mem_append_right _ (List.mem_append_right _ (List.mem_append_right _ (List.mem_append_right _ (List.mem_append_left _ (List.mem_of_getElem? (i := 184) rfl))))), rfl⟩
theorem tw_905 : (Jvm.Cond.selects "NotationParse$Output" ({ cls := "NotationParse$Output", name := "writeWords", desc := "(LNotationParse$Text;I)V" } : Jvm.MethodName) ({ cls := "NotationParse$Output", name := "writeWords", desc := "(LNotationParse$Text;I)V" } : Jvm.MethodName)) ∈ np_al := List.mem_filter.mpr ⟨List.mem_append_right _ (List.mem_append_right _ (List.mem_append_right _ (List.mem_append_right _ (List.mem_append_left _ (List.mem_of_getElem? (i := 185) rfl))))), rfl⟩
theorem tw_906 : (Jvm.Cond.code ({ cls := "NotationParse$Output", name := "writeWords", desc := "(LNotationParse$Text;I)V" } : Jvm.MethodName) prog_4_method_2_code (4 : Nat) (Option.none : Option Jvm.ClassFile.FieldType)) ∈ np_al := List.mem_filter.mpr ⟨List.mem_append_right _ (List.mem_append_right _ (List.mem_append_right _ (List.mem_append_right _ (List.mem_append_left _ (List.mem_of_getElem? (i := 186) rfl))))), rfl⟩
theorem tw_907 : (Jvm.Cond.methodLink "NotationParse$Output" (24 : Nat) ({ cls := "NotationParse$Output", name := "addByte", desc := "(I)V" } : Jvm.MethodName)) ∈ np_al := List.mem_filter.mpr ⟨List.mem_append_right _ (List.mem_append_right _ (List.mem_append_right _ (List.mem_append_right _ (List.mem_append_left _ (List.mem_of_getElem? (i := 187) rfl))))), rfl⟩
theorem tw_909 : (Jvm.Cond.instanceMethod ({ cls := "NotationParse$Output", name := "addByte", desc := "(I)V" } : Jvm.MethodName)) ∈ np_al := List.mem_filter.mpr ⟨List.mem_append_right _ (List.mem_append_right _ (List.mem_append_right _ (List.mem_append_right _ (List.mem_append_left _ (List.mem_of_getElem? (i := 189) rfl))))), rfl⟩
theorem tw_910 : (Jvm.Cond.code ({ cls := "NotationParse$Output", name := "addByte", desc := "(I)V" } : Jvm.MethodName) prog_4_method_4_code (2 : Nat) (Option.none : Option Jvm.ClassFile.FieldType)) ∈ np_al := List.mem_filter.mpr ⟨List.mem_append_right _ (List.mem_append_right _ (List.mem_append_right _ (List.mem_append_right _ (List.mem_append_left _ (List.mem_of_getElem? (i := 190) rfl))))), rfl⟩
theorem tw_911 : (Jvm.Cond.methodLink "NotationParse$Output" (32 : Nat) ({ cls := "NotationParse$Output", name := "writeWord", desc := "(J)V" } : Jvm.MethodName)) ∈ np_al := List.mem_filter.mpr ⟨List.mem_append_right _ (List.mem_append_right _ (List.mem_append_right _ (List.mem_append_right _ (List.mem_append_left _ (List.mem_of_getElem? (i := 191) rfl))))), rfl⟩
theorem tw_913 : (Jvm.Cond.instanceMethod ({ cls := "NotationParse$Output", name := "writeWord", desc := "(J)V" } : Jvm.MethodName)) ∈ np_al := List.mem_filter.mpr ⟨List.mem_append_right _ (List.mem_append_right _ (List.mem_append_right _ (List.mem_append_right _ (List.mem_append_left _ (List.mem_of_getElem? (i := 193) rfl))))), rfl⟩
theorem tw_914 : (Jvm.Cond.code ({ cls := "NotationParse$Output", name := "writeWord", desc := "(J)V" } : Jvm.MethodName) prog_4_method_3_code (5 : Nat) (Option.none : Option Jvm.ClassFile.FieldType)) ∈ np_al := List.mem_filter.mpr ⟨List.mem_append_right _ (List.mem_append_right _ (List.mem_append_right _ (List.mem_append_right _ (List.mem_append_left _ (List.mem_of_getElem? (i := 194) rfl))))), rfl⟩
theorem tw_915 : (Jvm.Cond.methodLink "NotationParse$Output" (36 : Nat) ({ cls := "NotationParse$Spelling", name := "byteOf", desc := "(JI)I" } : Jvm.MethodName)) ∈ np_al := List.mem_filter.mpr ⟨List.mem_append_right _ (List.mem_append_right _ (List.mem_append_right _ (List.mem_append_right _ (List.mem_append_left _ (List.mem_of_getElem? (i := 195) rfl))))), rfl⟩
def F_N : u_T := fun k => match k with
  | 0 => ("NotationParse", "grammar", "LNotationParse$Grammar;", true)
  | 1 => ("NotationParse", "text", "LNotationParse$Text;", true)
  | 2 => ("NotationParse", "chart", "LNotationParse$Chart;", true)
  | 3 => ("NotationParse", "tree", "LNotationParse$Tree;", true)
  | 4 => ("NotationParse", "output", "LNotationParse$Output;", true)
  | 5 => ("NotationParse", "faultKind", "I", false)
  | _ => ("NotationParse", "faultPlace", "I", false)
def t_N : Nat → FieldType := fun k => match k with
  | 0 => (.object "NotationParse$Grammar")
  | 1 => (.object "NotationParse$Text")
  | 2 => (.object "NotationParse$Chart")
  | 3 => (.object "NotationParse$Tree")
  | 4 => (.object "NotationParse$Output")
  | 5 => .int
  | _ => .int
theorem n_N : ∀ a, a < 7 → ∀ b, b < 7 → a ≠ b → (F_N a).2.1 ≠ (F_N b).2.1 := by decide +kernel
theorem tok_N : ∀ k, k < 7 → parseFieldDescriptor (F_N k).2.2.1 = some (t_N k) := by decide +kernel
theorem i_N : ∀ w ∈ u_ws "NotationParse" F_N 7, w ∈ np_al := np_subm [261, 263, 265, 267, 269, 271, 273] (by decide +kernel) (by decide +kernel)
def F_Grammar : u_T := fun k => match k with
  | 0 => ("NotationParse$Grammar", "holes", "[I", true)
  | 1 => ("NotationParse$Grammar", "words", "[J", true)
  | 2 => ("NotationParse$Grammar", "levels", "[I", true)
  | 3 => ("NotationParse$Grammar", "lengths", "[I", true)
  | 4 => ("NotationParse$Grammar", "rules", "I", false)
  | _ => ("NotationParse$Grammar", "inHand", "I", false)
def t_Grammar : Nat → FieldType := fun k => match k with
  | 0 => .array .int
  | 1 => .array .long
  | 2 => .array .int
  | 3 => .array .int
  | 4 => .int
  | _ => .int
theorem n_Grammar : ∀ a, a < 6 → ∀ b, b < 6 → a ≠ b → (F_Grammar a).2.1 ≠ (F_Grammar b).2.1 := by decide +kernel
theorem tok_Grammar : ∀ k, k < 6 → parseFieldDescriptor (F_Grammar k).2.2.1 = some (t_Grammar k) := by decide +kernel
theorem i_Grammar : ∀ w ∈ u_ws "NotationParse$Grammar" F_Grammar 6, w ∈ np_al := np_subm [114, 116, 118, 120, 122, 124] (by decide +kernel) (by decide +kernel)
def F_Text : u_T := fun k => match k with
  | 0 => ("NotationParse$Text", "bytes", "[B", true)
  | 1 => ("NotationParse$Text", "size", "I", false)
  | 2 => ("NotationParse$Text", "codes", "[J", true)
  | 3 => ("NotationParse$Text", "tokens", "[J", true)
  | 4 => ("NotationParse$Text", "places", "[I", true)
  | 5 => ("NotationParse$Text", "words", "I", false)
  | _ => ("NotationParse$Text", "wrongPlace", "I", false)
def t_Text : Nat → FieldType := fun k => match k with
  | 0 => .array .byte
  | 1 => .int
  | 2 => .array .long
  | 3 => .array .long
  | 4 => .array .int
  | 5 => .int
  | _ => .int
theorem n_Text : ∀ a, a < 7 → ∀ b, b < 7 → a ≠ b → (F_Text a).2.1 ≠ (F_Text b).2.1 := by decide +kernel
theorem tok_Text : ∀ k, k < 7 → parseFieldDescriptor (F_Text k).2.2.1 = some (t_Text k) := by decide +kernel
theorem i_Text : ∀ w ∈ u_ws "NotationParse$Text" F_Text 7, w ∈ np_al := np_subm [149, 151, 153, 155, 157, 159, 161] (by decide +kernel) (by decide +kernel)
def F_Chart : u_T := fun k => match k with
  | 0 => ("NotationParse$Chart", "grammar", "LNotationParse$Grammar;", true)
  | 1 => ("NotationParse$Chart", "origins", "[I", true)
  | 2 => ("NotationParse$Chart", "ways", "[I", true)
  | _ => ("NotationParse$Chart", "trees", "[I", true)
def t_Chart : Nat → FieldType := fun k => match k with
  | 0 => (.object "NotationParse$Grammar")
  | 1 => .array .int
  | 2 => .array .int
  | _ => .array .int
theorem n_Chart : ∀ a, a < 4 → ∀ b, b < 4 → a ≠ b → (F_Chart a).2.1 ≠ (F_Chart b).2.1 := by decide +kernel
theorem tok_Chart : ∀ k, k < 4 → parseFieldDescriptor (F_Chart k).2.2.1 = some (t_Chart k) := by decide +kernel
theorem i_Chart : ∀ w ∈ u_ws "NotationParse$Chart" F_Chart 4, w ∈ np_al := np_subm [175, 177, 179, 181] (by decide +kernel) (by decide +kernel)
def F_Tree : u_T := fun k => match k with
  | 0 => ("NotationParse$Tree", "grammar", "LNotationParse$Grammar;", true)
  | 1 => ("NotationParse$Tree", "chart", "LNotationParse$Chart;", true)
  | 2 => ("NotationParse$Tree", "size", "I", false)
  | 3 => ("NotationParse$Tree", "rules", "[I", true)
  | 4 => ("NotationParse$Tree", "children", "[I", true)
  | 5 => ("NotationParse$Tree", "firsts", "[I", true)
  | 6 => ("NotationParse$Tree", "lengths", "[I", true)
  | 7 => ("NotationParse$Tree", "holders", "[I", true)
  | 8 => ("NotationParse$Tree", "wanted", "[I", true)
  | 9 => ("NotationParse$Tree", "waiting", "I", false)
  | 10 => ("NotationParse$Tree", "waitingFrom", "[I", true)
  | 11 => ("NotationParse$Tree", "waitingTo", "[I", true)
  | 12 => ("NotationParse$Tree", "waitingLevel", "[I", true)
  | _ => ("NotationParse$Tree", "waitingHolder", "[I", true)
def t_Tree : Nat → FieldType := fun k => match k with
  | 0 => (.object "NotationParse$Grammar")
  | 1 => (.object "NotationParse$Chart")
  | 2 => .int
  | 3 => .array .int
  | 4 => .array .int
  | 5 => .array .int
  | 6 => .array .int
  | 7 => .array .int
  | 8 => .array .int
  | 9 => .int
  | 10 => .array .int
  | 11 => .array .int
  | 12 => .array .int
  | _ => .array .int
theorem n_Tree : ∀ a, a < 14 → ∀ b, b < 14 → a ≠ b → (F_Tree a).2.1 ≠ (F_Tree b).2.1 := by decide +kernel
theorem tok_Tree : ∀ k, k < 14 → parseFieldDescriptor (F_Tree k).2.2.1 = some (t_Tree k) := by decide +kernel
theorem i_Tree : ∀ w ∈ u_ws "NotationParse$Tree" F_Tree 14, w ∈ np_al := np_subm [210, 212, 214, 216, 218, 220, 222, 224, 226, 228, 230, 232, 234, 236] (by decide +kernel) (by decide +kernel)
def F_Output : u_T := fun k => match k with
  | 0 => ("NotationParse$Output", "bytes", "[B", true)
  | _ => ("NotationParse$Output", "size", "I", false)
def t_Output : Nat → FieldType := fun k => match k with
  | 0 => .array .byte
  | _ => .int
theorem n_Output : ∀ a, a < 2 → ∀ b, b < 2 → a ≠ b → (F_Output a).2.1 ≠ (F_Output b).2.1 := by decide +kernel
theorem tok_Output : ∀ k, k < 2 → parseFieldDescriptor (F_Output k).2.2.1 = some (t_Output k) := by decide +kernel
theorem i_Output : ∀ w ∈ u_ws "NotationParse$Output" F_Output 2, w ∈ np_al := np_subm [249, 251] (by decide +kernel) (by decide +kernel)
abbrev np_cl : List vw_C := [("NotationParse", F_N, 7), ("NotationParse$Grammar", F_Grammar, 6), ("NotationParse$Text", F_Text, 7), ("NotationParse$Chart", F_Chart, 4), ("NotationParse$Tree", F_Tree, 14), ("NotationParse$Output", F_Output, 2)]
end
section
def nc_wd (q : Nat → Nat) (cI cL cB : ClassId) (σ : np_S) : va_W := [
  (q 0, .inr (0, [.ref (q 1), .ref (q 6), .ref (q 11), .ref (q 15), .ref (q 26), .int (np_i (σ 0 5)), .int (np_i (σ 0 6))])),
  (q 1, .inr (1, [.ref (q 2), .ref (q 3), .ref (q 4), .ref (q 5), .int (np_i (σ 1 4)), .int (np_i (σ 1 5))])),
  (q 2, .inl (cI, 105, .inl (fun i => np_i (σ 2 i)))),
  (q 3, .inl (cL, 105, .inr (.inl (fun i => np_l (σ 3 i))))),
  (q 4, .inl (cI, 14, .inl (fun i => np_i (σ 4 i)))),
  (q 5, .inl (cI, 14, .inl (fun i => np_i (σ 5 i)))),
  (q 6, .inr (2, [.ref (q 7), .int (np_i (σ 6 1)), .ref (q 8), .ref (q 9), .ref (q 10), .int (np_i (σ 6 5)), .int (np_i (σ 6 6))])),
  (q 7, .inl (cB, 200, .inl (fun i => np_i (σ 7 i)))),
  (q 8, .inl (cL, 30, .inr (.inl (fun i => np_l (σ 8 i))))),
  (q 9, .inl (cL, 30, .inr (.inl (fun i => np_l (σ 9 i))))),
  (q 10, .inl (cI, 30, .inl (fun i => np_i (σ 10 i)))),
  (q 11, .inr (3, [.ref (q 1), .ref (q 12), .ref (q 13), .ref (q 14)])),
  (q 12, .inl (cI, 3038, .inl (fun i => np_i (σ 12 i)))),
  (q 13, .inl (cI, 3038, .inl (fun i => np_i (σ 13 i)))),
  (q 14, .inl (cI, 5115, .inl (fun i => np_i (σ 14 i)))),
  (q 15, .inr (4, [.ref (q 1), .ref (q 11), .int (np_i (σ 15 2)), .ref (q 16), .ref (q 17), .ref (q 18), .ref (q 19), .ref (q 20), .ref (q 21), .int (np_i (σ 15 9)), .ref (q 22), .ref (q 23), .ref (q 24), .ref (q 25)])),
  (q 16, .inl (cI, 30, .inl (fun i => np_i (σ 16 i)))),
  (q 17, .inl (cI, 30, .inl (fun i => np_i (σ 17 i)))),
  (q 18, .inl (cI, 30, .inl (fun i => np_i (σ 18 i)))),
  (q 19, .inl (cI, 30, .inl (fun i => np_i (σ 19 i)))),
  (q 20, .inl (cI, 30, .inl (fun i => np_i (σ 20 i)))),
  (q 21, .inl (cI, 30, .inl (fun i => np_i (σ 21 i)))),
  (q 22, .inl (cI, 30, .inl (fun i => np_i (σ 22 i)))),
  (q 23, .inl (cI, 30, .inl (fun i => np_i (σ 23 i)))),
  (q 24, .inl (cI, 30, .inl (fun i => np_i (σ 24 i)))),
  (q 25, .inl (cI, 30, .inl (fun i => np_i (σ 25 i)))),
  (q 26, .inr (5, [.ref (q 27), .int (np_i (σ 26 1))])),
  (q 27, .inl (cB, 230, .inl (fun i => np_i (σ 27 i))))]
section NCW
variable {q : Nat → Nat} {cI cL cB : ClassId}
theorem nc_o0 (σ : np_S) : (nc_wd q cI cL cB σ)[0]? = some (q 0, .inr (0, [.ref (q 1), .ref (q 6), .ref (q 11), .ref (q 15), .ref (q 26), .int (np_i (σ 0 5)), .int (np_i (σ 0 6))])) := rfl
theorem nc_s0_5 (σ : np_S) (x : Int) : (nc_wd q cI cL cB σ).set 0 (q 0, .inr (0, List.set [.ref (q 1), .ref (q 6), .ref (q 11), .ref (q 15), .ref (q 26), .int (np_i (σ 0 5)), .int (np_i (σ 0 6))] 5 (.int (np_i x)))) = nc_wd q cI cL cB (np_st σ 0 5 x) := rfl
theorem nc_s0_6 (σ : np_S) (x : Int) : (nc_wd q cI cL cB σ).set 0 (q 0, .inr (0, List.set [.ref (q 1), .ref (q 6), .ref (q 11), .ref (q 15), .ref (q 26), .int (np_i (σ 0 5)), .int (np_i (σ 0 6))] 6 (.int (np_i x)))) = nc_wd q cI cL cB (np_st σ 0 6 x) := rfl
theorem nc_o1 (σ : np_S) : (nc_wd q cI cL cB σ)[1]? = some (q 1, .inr (1, [.ref (q 2), .ref (q 3), .ref (q 4), .ref (q 5), .int (np_i (σ 1 4)), .int (np_i (σ 1 5))])) := rfl
theorem nc_s1_4 (σ : np_S) (x : Int) : (nc_wd q cI cL cB σ).set 1 (q 1, .inr (1, List.set [.ref (q 2), .ref (q 3), .ref (q 4), .ref (q 5), .int (np_i (σ 1 4)), .int (np_i (σ 1 5))] 4 (.int (np_i x)))) = nc_wd q cI cL cB (np_st σ 1 4 x) := rfl
theorem nc_s1_5 (σ : np_S) (x : Int) : (nc_wd q cI cL cB σ).set 1 (q 1, .inr (1, List.set [.ref (q 2), .ref (q 3), .ref (q 4), .ref (q 5), .int (np_i (σ 1 4)), .int (np_i (σ 1 5))] 5 (.int (np_i x)))) = nc_wd q cI cL cB (np_st σ 1 5 x) := rfl
theorem nc_a2 (σ : np_S) : (nc_wd q cI cL cB σ)[2]? = some (q 2, .inl (cI, 105, .inl (fun i => np_i (σ 2 i)))) := rfl
theorem nc_s2 (σ : np_S) (j x : Int) : (nc_wd q cI cL cB σ).set 2 (q 2, .inl (cI, 105, .inl (fun i : Nat => np_i (if (i : Int) = j then x else σ 2 i)))) = nc_wd q cI cL cB (np_st σ 2 j x) := rfl
theorem nc_a3 (σ : np_S) : (nc_wd q cI cL cB σ)[3]? = some (q 3, .inl (cL, 105, .inr (.inl (fun i => np_l (σ 3 i))))) := rfl
theorem nc_s3 (σ : np_S) (j x : Int) : (nc_wd q cI cL cB σ).set 3 (q 3, .inl (cL, 105, .inr (.inl (fun i : Nat => np_l (if (i : Int) = j then x else σ 3 i))))) = nc_wd q cI cL cB (np_st σ 3 j x) := rfl
theorem nc_a4 (σ : np_S) : (nc_wd q cI cL cB σ)[4]? = some (q 4, .inl (cI, 14, .inl (fun i => np_i (σ 4 i)))) := rfl
theorem nc_s4 (σ : np_S) (j x : Int) : (nc_wd q cI cL cB σ).set 4 (q 4, .inl (cI, 14, .inl (fun i : Nat => np_i (if (i : Int) = j then x else σ 4 i)))) = nc_wd q cI cL cB (np_st σ 4 j x) := rfl
theorem nc_a5 (σ : np_S) : (nc_wd q cI cL cB σ)[5]? = some (q 5, .inl (cI, 14, .inl (fun i => np_i (σ 5 i)))) := rfl
theorem nc_s5 (σ : np_S) (j x : Int) : (nc_wd q cI cL cB σ).set 5 (q 5, .inl (cI, 14, .inl (fun i : Nat => np_i (if (i : Int) = j then x else σ 5 i)))) = nc_wd q cI cL cB (np_st σ 5 j x) := rfl
theorem nc_o6 (σ : np_S) : (nc_wd q cI cL cB σ)[6]? = some (q 6, .inr (2, [.ref (q 7), .int (np_i (σ 6 1)), .ref (q 8), .ref (q 9), .ref (q 10), .int (np_i (σ 6 5)), .int (np_i (σ 6 6))])) := rfl
theorem nc_s6_1 (σ : np_S) (x : Int) : (nc_wd q cI cL cB σ).set 6 (q 6, .inr (2, List.set [.ref (q 7), .int (np_i (σ 6 1)), .ref (q 8), .ref (q 9), .ref (q 10), .int (np_i (σ 6 5)), .int (np_i (σ 6 6))] 1 (.int (np_i x)))) = nc_wd q cI cL cB (np_st σ 6 1 x) := rfl
theorem nc_s6_5 (σ : np_S) (x : Int) : (nc_wd q cI cL cB σ).set 6 (q 6, .inr (2, List.set [.ref (q 7), .int (np_i (σ 6 1)), .ref (q 8), .ref (q 9), .ref (q 10), .int (np_i (σ 6 5)), .int (np_i (σ 6 6))] 5 (.int (np_i x)))) = nc_wd q cI cL cB (np_st σ 6 5 x) := rfl
theorem nc_s6_6 (σ : np_S) (x : Int) : (nc_wd q cI cL cB σ).set 6 (q 6, .inr (2, List.set [.ref (q 7), .int (np_i (σ 6 1)), .ref (q 8), .ref (q 9), .ref (q 10), .int (np_i (σ 6 5)), .int (np_i (σ 6 6))] 6 (.int (np_i x)))) = nc_wd q cI cL cB (np_st σ 6 6 x) := rfl
theorem nc_a7 (σ : np_S) : (nc_wd q cI cL cB σ)[7]? = some (q 7, .inl (cB, 200, .inl (fun i => np_i (σ 7 i)))) := rfl
theorem nc_s7 (σ : np_S) (j x : Int) : (nc_wd q cI cL cB σ).set 7 (q 7, .inl (cB, 200, .inl (fun i : Nat => np_i (if (i : Int) = j then x else σ 7 i)))) = nc_wd q cI cL cB (np_st σ 7 j x) := rfl
theorem nc_a8 (σ : np_S) : (nc_wd q cI cL cB σ)[8]? = some (q 8, .inl (cL, 30, .inr (.inl (fun i => np_l (σ 8 i))))) := rfl
theorem nc_s8 (σ : np_S) (j x : Int) : (nc_wd q cI cL cB σ).set 8 (q 8, .inl (cL, 30, .inr (.inl (fun i : Nat => np_l (if (i : Int) = j then x else σ 8 i))))) = nc_wd q cI cL cB (np_st σ 8 j x) := rfl
theorem nc_a9 (σ : np_S) : (nc_wd q cI cL cB σ)[9]? = some (q 9, .inl (cL, 30, .inr (.inl (fun i => np_l (σ 9 i))))) := rfl
theorem nc_s9 (σ : np_S) (j x : Int) : (nc_wd q cI cL cB σ).set 9 (q 9, .inl (cL, 30, .inr (.inl (fun i : Nat => np_l (if (i : Int) = j then x else σ 9 i))))) = nc_wd q cI cL cB (np_st σ 9 j x) := rfl
theorem nc_a10 (σ : np_S) : (nc_wd q cI cL cB σ)[10]? = some (q 10, .inl (cI, 30, .inl (fun i => np_i (σ 10 i)))) := rfl
theorem nc_s10 (σ : np_S) (j x : Int) : (nc_wd q cI cL cB σ).set 10 (q 10, .inl (cI, 30, .inl (fun i : Nat => np_i (if (i : Int) = j then x else σ 10 i)))) = nc_wd q cI cL cB (np_st σ 10 j x) := rfl
theorem nc_o11 (σ : np_S) : (nc_wd q cI cL cB σ)[11]? = some (q 11, .inr (3, [.ref (q 1), .ref (q 12), .ref (q 13), .ref (q 14)])) := rfl
theorem nc_a12 (σ : np_S) : (nc_wd q cI cL cB σ)[12]? = some (q 12, .inl (cI, 3038, .inl (fun i => np_i (σ 12 i)))) := rfl
theorem nc_s12 (σ : np_S) (j x : Int) : (nc_wd q cI cL cB σ).set 12 (q 12, .inl (cI, 3038, .inl (fun i : Nat => np_i (if (i : Int) = j then x else σ 12 i)))) = nc_wd q cI cL cB (np_st σ 12 j x) := rfl
theorem nc_a13 (σ : np_S) : (nc_wd q cI cL cB σ)[13]? = some (q 13, .inl (cI, 3038, .inl (fun i => np_i (σ 13 i)))) := rfl
theorem nc_s13 (σ : np_S) (j x : Int) : (nc_wd q cI cL cB σ).set 13 (q 13, .inl (cI, 3038, .inl (fun i : Nat => np_i (if (i : Int) = j then x else σ 13 i)))) = nc_wd q cI cL cB (np_st σ 13 j x) := rfl
theorem nc_a14 (σ : np_S) : (nc_wd q cI cL cB σ)[14]? = some (q 14, .inl (cI, 5115, .inl (fun i => np_i (σ 14 i)))) := rfl
theorem nc_s14 (σ : np_S) (j x : Int) : (nc_wd q cI cL cB σ).set 14 (q 14, .inl (cI, 5115, .inl (fun i : Nat => np_i (if (i : Int) = j then x else σ 14 i)))) = nc_wd q cI cL cB (np_st σ 14 j x) := rfl
theorem nc_o15 (σ : np_S) : (nc_wd q cI cL cB σ)[15]? = some (q 15, .inr (4, [.ref (q 1), .ref (q 11), .int (np_i (σ 15 2)), .ref (q 16), .ref (q 17), .ref (q 18), .ref (q 19), .ref (q 20), .ref (q 21), .int (np_i (σ 15 9)), .ref (q 22), .ref (q 23), .ref (q 24), .ref (q 25)])) := rfl
theorem nc_s15_2 (σ : np_S) (x : Int) : (nc_wd q cI cL cB σ).set 15 (q 15, .inr (4, List.set [.ref (q 1), .ref (q 11), .int (np_i (σ 15 2)), .ref (q 16), .ref (q 17), .ref (q 18), .ref (q 19), .ref (q 20), .ref (q 21), .int (np_i (σ 15 9)), .ref (q 22), .ref (q 23), .ref (q 24), .ref (q 25)] 2 (.int (np_i x)))) = nc_wd q cI cL cB (np_st σ 15 2 x) := rfl
theorem nc_s15_9 (σ : np_S) (x : Int) : (nc_wd q cI cL cB σ).set 15 (q 15, .inr (4, List.set [.ref (q 1), .ref (q 11), .int (np_i (σ 15 2)), .ref (q 16), .ref (q 17), .ref (q 18), .ref (q 19), .ref (q 20), .ref (q 21), .int (np_i (σ 15 9)), .ref (q 22), .ref (q 23), .ref (q 24), .ref (q 25)] 9 (.int (np_i x)))) = nc_wd q cI cL cB (np_st σ 15 9 x) := rfl
theorem nc_a16 (σ : np_S) : (nc_wd q cI cL cB σ)[16]? = some (q 16, .inl (cI, 30, .inl (fun i => np_i (σ 16 i)))) := rfl
theorem nc_s16 (σ : np_S) (j x : Int) : (nc_wd q cI cL cB σ).set 16 (q 16, .inl (cI, 30, .inl (fun i : Nat => np_i (if (i : Int) = j then x else σ 16 i)))) = nc_wd q cI cL cB (np_st σ 16 j x) := rfl
theorem nc_a17 (σ : np_S) : (nc_wd q cI cL cB σ)[17]? = some (q 17, .inl (cI, 30, .inl (fun i => np_i (σ 17 i)))) := rfl
theorem nc_s17 (σ : np_S) (j x : Int) : (nc_wd q cI cL cB σ).set 17 (q 17, .inl (cI, 30, .inl (fun i : Nat => np_i (if (i : Int) = j then x else σ 17 i)))) = nc_wd q cI cL cB (np_st σ 17 j x) := rfl
theorem nc_a18 (σ : np_S) : (nc_wd q cI cL cB σ)[18]? = some (q 18, .inl (cI, 30, .inl (fun i => np_i (σ 18 i)))) := rfl
theorem nc_s18 (σ : np_S) (j x : Int) : (nc_wd q cI cL cB σ).set 18 (q 18, .inl (cI, 30, .inl (fun i : Nat => np_i (if (i : Int) = j then x else σ 18 i)))) = nc_wd q cI cL cB (np_st σ 18 j x) := rfl
theorem nc_a19 (σ : np_S) : (nc_wd q cI cL cB σ)[19]? = some (q 19, .inl (cI, 30, .inl (fun i => np_i (σ 19 i)))) := rfl
theorem nc_s19 (σ : np_S) (j x : Int) : (nc_wd q cI cL cB σ).set 19 (q 19, .inl (cI, 30, .inl (fun i : Nat => np_i (if (i : Int) = j then x else σ 19 i)))) = nc_wd q cI cL cB (np_st σ 19 j x) := rfl
theorem nc_a20 (σ : np_S) : (nc_wd q cI cL cB σ)[20]? = some (q 20, .inl (cI, 30, .inl (fun i => np_i (σ 20 i)))) := rfl
theorem nc_s20 (σ : np_S) (j x : Int) : (nc_wd q cI cL cB σ).set 20 (q 20, .inl (cI, 30, .inl (fun i : Nat => np_i (if (i : Int) = j then x else σ 20 i)))) = nc_wd q cI cL cB (np_st σ 20 j x) := rfl
theorem nc_a21 (σ : np_S) : (nc_wd q cI cL cB σ)[21]? = some (q 21, .inl (cI, 30, .inl (fun i => np_i (σ 21 i)))) := rfl
theorem nc_s21 (σ : np_S) (j x : Int) : (nc_wd q cI cL cB σ).set 21 (q 21, .inl (cI, 30, .inl (fun i : Nat => np_i (if (i : Int) = j then x else σ 21 i)))) = nc_wd q cI cL cB (np_st σ 21 j x) := rfl
theorem nc_a22 (σ : np_S) : (nc_wd q cI cL cB σ)[22]? = some (q 22, .inl (cI, 30, .inl (fun i => np_i (σ 22 i)))) := rfl
theorem nc_s22 (σ : np_S) (j x : Int) : (nc_wd q cI cL cB σ).set 22 (q 22, .inl (cI, 30, .inl (fun i : Nat => np_i (if (i : Int) = j then x else σ 22 i)))) = nc_wd q cI cL cB (np_st σ 22 j x) := rfl
theorem nc_a23 (σ : np_S) : (nc_wd q cI cL cB σ)[23]? = some (q 23, .inl (cI, 30, .inl (fun i => np_i (σ 23 i)))) := rfl
theorem nc_s23 (σ : np_S) (j x : Int) : (nc_wd q cI cL cB σ).set 23 (q 23, .inl (cI, 30, .inl (fun i : Nat => np_i (if (i : Int) = j then x else σ 23 i)))) = nc_wd q cI cL cB (np_st σ 23 j x) := rfl
theorem nc_a24 (σ : np_S) : (nc_wd q cI cL cB σ)[24]? = some (q 24, .inl (cI, 30, .inl (fun i => np_i (σ 24 i)))) := rfl
theorem nc_s24 (σ : np_S) (j x : Int) : (nc_wd q cI cL cB σ).set 24 (q 24, .inl (cI, 30, .inl (fun i : Nat => np_i (if (i : Int) = j then x else σ 24 i)))) = nc_wd q cI cL cB (np_st σ 24 j x) := rfl
theorem nc_a25 (σ : np_S) : (nc_wd q cI cL cB σ)[25]? = some (q 25, .inl (cI, 30, .inl (fun i => np_i (σ 25 i)))) := rfl
theorem nc_s25 (σ : np_S) (j x : Int) : (nc_wd q cI cL cB σ).set 25 (q 25, .inl (cI, 30, .inl (fun i : Nat => np_i (if (i : Int) = j then x else σ 25 i)))) = nc_wd q cI cL cB (np_st σ 25 j x) := rfl
theorem nc_o26 (σ : np_S) : (nc_wd q cI cL cB σ)[26]? = some (q 26, .inr (5, [.ref (q 27), .int (np_i (σ 26 1))])) := rfl
theorem nc_s26_1 (σ : np_S) (x : Int) : (nc_wd q cI cL cB σ).set 26 (q 26, .inr (5, List.set [.ref (q 27), .int (np_i (σ 26 1))] 1 (.int (np_i x)))) = nc_wd q cI cL cB (np_st σ 26 1 x) := rfl
theorem nc_a27 (σ : np_S) : (nc_wd q cI cL cB σ)[27]? = some (q 27, .inl (cB, 230, .inl (fun i => np_i (σ 27 i)))) := rfl
theorem nc_s27 (σ : np_S) (j x : Int) : (nc_wd q cI cL cB σ).set 27 (q 27, .inl (cB, 230, .inl (fun i : Nat => np_i (if (i : Int) = j then x else σ 27 i)))) = nc_wd q cI cL cB (np_st σ 27 j x) := rfl
end NCW
end
section
theorem dd_Grammar_usedDots_0 : decode prog_3_method_2_code 0 = .ok (.aload_n 0, 1) := by decide +kernel
theorem dd_Grammar_usedDots_1 : decode prog_3_method_2_code 1 = .ok (.getfield 25, 3) := by decide +kernel
theorem dd_Grammar_usedDots_4 : decode prog_3_method_2_code 4 = .ok (.bipush 7, 2) := by decide +kernel
theorem dd_Grammar_usedDots_6 : decode prog_3_method_2_code 6 = .ok (.imul, 1) := by decide +kernel
theorem dd_Grammar_usedDots_7 : decode prog_3_method_2_code 7 = .ok (.ireturn, 1) := by decide +kernel
theorem dd_Grammar_dropHand_0 : decode prog_3_method_7_code 0 = .ok (.aload_n 0, 1) := by decide +kernel
theorem dd_Grammar_dropHand_1 : decode prog_3_method_7_code 1 = .ok (.getfield 9, 3) := by decide +kernel
theorem dd_Grammar_dropHand_4 : decode prog_3_method_7_code 4 = .ok (.aload_n 0, 1) := by decide +kernel
theorem dd_Grammar_dropHand_5 : decode prog_3_method_7_code 5 = .ok (.invokevirtual 47, 3) := by decide +kernel
theorem dd_Grammar_dropHand_8 : decode prog_3_method_7_code 8 = .ok (.aload_n 0, 1) := by decide +kernel
theorem dd_Grammar_dropHand_9 : decode prog_3_method_7_code 9 = .ok (.invokevirtual 47, 3) := by decide +kernel
theorem dd_Grammar_dropHand_12 : decode prog_3_method_7_code 12 = .ok (.bipush 7, 2) := by decide +kernel
theorem dd_Grammar_dropHand_14 : decode prog_3_method_7_code 14 = .ok (.iadd, 1) := by decide +kernel
theorem dd_Grammar_dropHand_15 : decode prog_3_method_7_code 15 = .ok (.iconst (-1), 1) := by decide +kernel
theorem dd_Grammar_dropHand_16 : decode prog_3_method_7_code 16 = .ok (.invokestatic 51, 3) := by decide +kernel
theorem dd_Grammar_dropHand_19 : decode prog_3_method_7_code 19 = .ok (.aload_n 0, 1) := by decide +kernel
theorem dd_Grammar_dropHand_20 : decode prog_3_method_7_code 20 = .ok (.getfield 15, 3) := by decide +kernel
theorem dd_Grammar_dropHand_23 : decode prog_3_method_7_code 23 = .ok (.aload_n 0, 1) := by decide +kernel
theorem dd_Grammar_dropHand_24 : decode prog_3_method_7_code 24 = .ok (.invokevirtual 47, 3) := by decide +kernel
theorem dd_Grammar_dropHand_27 : decode prog_3_method_7_code 27 = .ok (.aload_n 0, 1) := by decide +kernel
theorem dd_Grammar_dropHand_28 : decode prog_3_method_7_code 28 = .ok (.invokevirtual 47, 3) := by decide +kernel
theorem dd_Grammar_dropHand_31 : decode prog_3_method_7_code 31 = .ok (.bipush 7, 2) := by decide +kernel
theorem dd_Grammar_dropHand_33 : decode prog_3_method_7_code 33 = .ok (.iadd, 1) := by decide +kernel
theorem dd_Grammar_dropHand_34 : decode prog_3_method_7_code 34 = .ok (.ldc2_w 38, 3) := by decide +kernel
theorem dd_Grammar_dropHand_37 : decode prog_3_method_7_code 37 = .ok (.invokestatic 54, 3) := by decide +kernel
theorem dd_Grammar_dropHand_40 : decode prog_3_method_7_code 40 = .ok (.aload_n 0, 1) := by decide +kernel
theorem dd_Grammar_dropHand_41 : decode prog_3_method_7_code 41 = .ok (.iconst 0, 1) := by decide +kernel
theorem dd_Grammar_dropHand_42 : decode prog_3_method_7_code 42 = .ok (.putfield 29, 3) := by decide +kernel
theorem dd_Grammar_dropHand_45 : decode prog_3_method_7_code 45 = .ok (.return_, 1) := by decide +kernel
theorem dd_Grammar_lastDot_0 : decode prog_3_method_3_code 0 = .ok (.iload_n 1, 1) := by decide +kernel
theorem dd_Grammar_lastDot_1 : decode prog_3_method_3_code 1 = .ok (.bipush 7, 2) := by decide +kernel
theorem dd_Grammar_lastDot_3 : decode prog_3_method_3_code 3 = .ok (.imul, 1) := by decide +kernel
theorem dd_Grammar_lastDot_4 : decode prog_3_method_3_code 4 = .ok (.aload_n 0, 1) := by decide +kernel
theorem dd_Grammar_lastDot_5 : decode prog_3_method_3_code 5 = .ok (.getfield 22, 3) := by decide +kernel
theorem dd_Grammar_lastDot_8 : decode prog_3_method_3_code 8 = .ok (.iload_n 1, 1) := by decide +kernel
theorem dd_Grammar_lastDot_9 : decode prog_3_method_3_code 9 = .ok (.iaload, 1) := by decide +kernel
theorem dd_Grammar_lastDot_10 : decode prog_3_method_3_code 10 = .ok (.iadd, 1) := by decide +kernel
theorem dd_Grammar_lastDot_11 : decode prog_3_method_3_code 11 = .ok (.ireturn, 1) := by decide +kernel
theorem dd_Grammar_handEndsInHole_0 : decode prog_3_method_4_code 0 = .ok (.aload_n 0, 1) := by decide +kernel
theorem dd_Grammar_handEndsInHole_1 : decode prog_3_method_4_code 1 = .ok (.getfield 29, 3) := by decide +kernel
theorem dd_Grammar_handEndsInHole_4 : decode prog_3_method_4_code 4 = .ok (.ifCond .le 27, 3) := by decide +kernel
theorem dd_Grammar_handEndsInHole_7 : decode prog_3_method_4_code 7 = .ok (.aload_n 0, 1) := by decide +kernel
theorem dd_Grammar_handEndsInHole_8 : decode prog_3_method_4_code 8 = .ok (.getfield 9, 3) := by decide +kernel
theorem dd_Grammar_handEndsInHole_11 : decode prog_3_method_4_code 11 = .ok (.aload_n 0, 1) := by decide +kernel
theorem dd_Grammar_handEndsInHole_12 : decode prog_3_method_4_code 12 = .ok (.invokevirtual 47, 3) := by decide +kernel
theorem dd_Grammar_handEndsInHole_15 : decode prog_3_method_4_code 15 = .ok (.aload_n 0, 1) := by decide +kernel
theorem dd_Grammar_handEndsInHole_16 : decode prog_3_method_4_code 16 = .ok (.getfield 29, 3) := by decide +kernel
theorem dd_Grammar_handEndsInHole_19 : decode prog_3_method_4_code 19 = .ok (.iadd, 1) := by decide +kernel
theorem dd_Grammar_handEndsInHole_20 : decode prog_3_method_4_code 20 = .ok (.iconst 1, 1) := by decide +kernel
theorem dd_Grammar_handEndsInHole_21 : decode prog_3_method_4_code 21 = .ok (.isub, 1) := by decide +kernel
theorem dd_Grammar_handEndsInHole_22 : decode prog_3_method_4_code 22 = .ok (.iaload, 1) := by decide +kernel
theorem dd_Grammar_handEndsInHole_23 : decode prog_3_method_4_code 23 = .ok (.iconst (-1), 1) := by decide +kernel
theorem dd_Grammar_handEndsInHole_24 : decode prog_3_method_4_code 24 = .ok (.if_icmp .eq 7, 3) := by decide +kernel
theorem dd_Grammar_handEndsInHole_27 : decode prog_3_method_4_code 27 = .ok (.iconst 1, 1) := by decide +kernel
theorem dd_Grammar_handEndsInHole_28 : decode prog_3_method_4_code 28 = .ok (.goto 4, 3) := by decide +kernel
theorem dd_Grammar_handEndsInHole_31 : decode prog_3_method_4_code 31 = .ok (.iconst 0, 1) := by decide +kernel
theorem dd_Grammar_handEndsInHole_32 : decode prog_3_method_4_code 32 = .ok (.ireturn, 1) := by decide +kernel
theorem dd_Grammar_handHasWord_0 : decode prog_3_method_5_code 0 = .ok (.iconst 0, 1) := by decide +kernel
theorem dd_Grammar_handHasWord_1 : decode prog_3_method_5_code 1 = .ok (.istore_n 1, 1) := by decide +kernel
theorem dd_Grammar_handHasWord_2 : decode prog_3_method_5_code 2 = .ok (.iload_n 1, 1) := by decide +kernel
theorem dd_Grammar_handHasWord_3 : decode prog_3_method_5_code 3 = .ok (.aload_n 0, 1) := by decide +kernel
theorem dd_Grammar_handHasWord_4 : decode prog_3_method_5_code 4 = .ok (.getfield 29, 3) := by decide +kernel
theorem dd_Grammar_handHasWord_7 : decode prog_3_method_5_code 7 = .ok (.if_icmp .ge 29, 3) := by decide +kernel
theorem dd_Grammar_handHasWord_10 : decode prog_3_method_5_code 10 = .ok (.aload_n 0, 1) := by decide +kernel
theorem dd_Grammar_handHasWord_11 : decode prog_3_method_5_code 11 = .ok (.getfield 15, 3) := by decide +kernel
theorem dd_Grammar_handHasWord_14 : decode prog_3_method_5_code 14 = .ok (.aload_n 0, 1) := by decide +kernel
theorem dd_Grammar_handHasWord_15 : decode prog_3_method_5_code 15 = .ok (.invokevirtual 47, 3) := by decide +kernel
theorem dd_Grammar_handHasWord_18 : decode prog_3_method_5_code 18 = .ok (.iload_n 1, 1) := by decide +kernel
theorem dd_Grammar_handHasWord_19 : decode prog_3_method_5_code 19 = .ok (.iadd, 1) := by decide +kernel
theorem dd_Grammar_handHasWord_20 : decode prog_3_method_5_code 20 = .ok (.laload, 1) := by decide +kernel
theorem dd_Grammar_handHasWord_21 : decode prog_3_method_5_code 21 = .ok (.ldc2_w 38, 3) := by decide +kernel
theorem dd_Grammar_handHasWord_24 : decode prog_3_method_5_code 24 = .ok (.lcmp, 1) := by decide +kernel
theorem dd_Grammar_handHasWord_25 : decode prog_3_method_5_code 25 = .ok (.ifCond .eq 5, 3) := by decide +kernel
theorem dd_Grammar_handHasWord_28 : decode prog_3_method_5_code 28 = .ok (.iconst 1, 1) := by decide +kernel
theorem dd_Grammar_handHasWord_29 : decode prog_3_method_5_code 29 = .ok (.ireturn, 1) := by decide +kernel
theorem dd_Grammar_handHasWord_30 : decode prog_3_method_5_code 30 = .ok (.iinc 1 1, 3) := by decide +kernel
theorem dd_Grammar_handHasWord_33 : decode prog_3_method_5_code 33 = .ok (.goto (-31), 3) := by decide +kernel
theorem dd_Grammar_handHasWord_36 : decode prog_3_method_5_code 36 = .ok (.iconst 0, 1) := by decide +kernel
theorem dd_Grammar_handHasWord_37 : decode prog_3_method_5_code 37 = .ok (.ireturn, 1) := by decide +kernel
theorem dd_Grammar_takePart_0 : decode prog_3_method_6_code 0 = .ok (.aload_n 0, 1) := by decide +kernel
theorem dd_Grammar_takePart_1 : decode prog_3_method_6_code 1 = .ok (.getfield 9, 3) := by decide +kernel
theorem dd_Grammar_takePart_4 : decode prog_3_method_6_code 4 = .ok (.aload_n 0, 1) := by decide +kernel
theorem dd_Grammar_takePart_5 : decode prog_3_method_6_code 5 = .ok (.invokevirtual 47, 3) := by decide +kernel
theorem dd_Grammar_takePart_8 : decode prog_3_method_6_code 8 = .ok (.aload_n 0, 1) := by decide +kernel
theorem dd_Grammar_takePart_9 : decode prog_3_method_6_code 9 = .ok (.getfield 29, 3) := by decide +kernel
theorem dd_Grammar_takePart_12 : decode prog_3_method_6_code 12 = .ok (.iadd, 1) := by decide +kernel
theorem dd_Grammar_takePart_13 : decode prog_3_method_6_code 13 = .ok (.iload_n 1, 1) := by decide +kernel
theorem dd_Grammar_takePart_14 : decode prog_3_method_6_code 14 = .ok (.iastore, 1) := by decide +kernel
theorem dd_Grammar_takePart_15 : decode prog_3_method_6_code 15 = .ok (.aload_n 0, 1) := by decide +kernel
theorem dd_Grammar_takePart_16 : decode prog_3_method_6_code 16 = .ok (.getfield 15, 3) := by decide +kernel
theorem dd_Grammar_takePart_19 : decode prog_3_method_6_code 19 = .ok (.aload_n 0, 1) := by decide +kernel
theorem dd_Grammar_takePart_20 : decode prog_3_method_6_code 20 = .ok (.invokevirtual 47, 3) := by decide +kernel
theorem dd_Grammar_takePart_23 : decode prog_3_method_6_code 23 = .ok (.aload_n 0, 1) := by decide +kernel
theorem dd_Grammar_takePart_24 : decode prog_3_method_6_code 24 = .ok (.getfield 29, 3) := by decide +kernel
theorem dd_Grammar_takePart_27 : decode prog_3_method_6_code 27 = .ok (.iadd, 1) := by decide +kernel
theorem dd_Grammar_takePart_28 : decode prog_3_method_6_code 28 = .ok (.lload_n 2, 1) := by decide +kernel
theorem dd_Grammar_takePart_29 : decode prog_3_method_6_code 29 = .ok (.lastore, 1) := by decide +kernel
theorem dd_Grammar_takePart_30 : decode prog_3_method_6_code 30 = .ok (.aload_n 0, 1) := by decide +kernel
theorem dd_Grammar_takePart_31 : decode prog_3_method_6_code 31 = .ok (.dup, 1) := by decide +kernel
theorem dd_Grammar_takePart_32 : decode prog_3_method_6_code 32 = .ok (.getfield 29, 3) := by decide +kernel
theorem dd_Grammar_takePart_35 : decode prog_3_method_6_code 35 = .ok (.iconst 1, 1) := by decide +kernel
theorem dd_Grammar_takePart_36 : decode prog_3_method_6_code 36 = .ok (.iadd, 1) := by decide +kernel
theorem dd_Grammar_takePart_37 : decode prog_3_method_6_code 37 = .ok (.putfield 29, 3) := by decide +kernel
theorem dd_Grammar_takePart_40 : decode prog_3_method_6_code 40 = .ok (.aload_n 0, 1) := by decide +kernel
theorem dd_Grammar_takePart_41 : decode prog_3_method_6_code 41 = .ok (.getfield 29, 3) := by decide +kernel
theorem dd_Grammar_takePart_44 : decode prog_3_method_6_code 44 = .ok (.ireturn, 1) := by decide +kernel
theorem dd_Grammar_makeRule_0 : decode prog_3_method_8_code 0 = .ok (.aload_n 0, 1) := by decide +kernel
theorem dd_Grammar_makeRule_1 : decode prog_3_method_8_code 1 = .ok (.getfield 25, 3) := by decide +kernel
theorem dd_Grammar_makeRule_4 : decode prog_3_method_8_code 4 = .ok (.istore_n 2, 1) := by decide +kernel
theorem dd_Grammar_makeRule_5 : decode prog_3_method_8_code 5 = .ok (.aload_n 0, 1) := by decide +kernel
theorem dd_Grammar_makeRule_6 : decode prog_3_method_8_code 6 = .ok (.getfield 19, 3) := by decide +kernel
theorem dd_Grammar_makeRule_9 : decode prog_3_method_8_code 9 = .ok (.iload_n 2, 1) := by decide +kernel
theorem dd_Grammar_makeRule_10 : decode prog_3_method_8_code 10 = .ok (.iload_n 1, 1) := by decide +kernel
theorem dd_Grammar_makeRule_11 : decode prog_3_method_8_code 11 = .ok (.iastore, 1) := by decide +kernel
theorem dd_Grammar_makeRule_12 : decode prog_3_method_8_code 12 = .ok (.aload_n 0, 1) := by decide +kernel
theorem dd_Grammar_makeRule_13 : decode prog_3_method_8_code 13 = .ok (.getfield 22, 3) := by decide +kernel
theorem dd_Grammar_makeRule_16 : decode prog_3_method_8_code 16 = .ok (.iload_n 2, 1) := by decide +kernel
theorem dd_Grammar_makeRule_17 : decode prog_3_method_8_code 17 = .ok (.aload_n 0, 1) := by decide +kernel
theorem dd_Grammar_makeRule_18 : decode prog_3_method_8_code 18 = .ok (.getfield 29, 3) := by decide +kernel
theorem dd_Grammar_makeRule_21 : decode prog_3_method_8_code 21 = .ok (.iastore, 1) := by decide +kernel
theorem dd_Grammar_makeRule_22 : decode prog_3_method_8_code 22 = .ok (.aload_n 0, 1) := by decide +kernel
theorem dd_Grammar_makeRule_23 : decode prog_3_method_8_code 23 = .ok (.dup, 1) := by decide +kernel
theorem dd_Grammar_makeRule_24 : decode prog_3_method_8_code 24 = .ok (.getfield 25, 3) := by decide +kernel
theorem dd_Grammar_makeRule_27 : decode prog_3_method_8_code 27 = .ok (.iconst 1, 1) := by decide +kernel
theorem dd_Grammar_makeRule_28 : decode prog_3_method_8_code 28 = .ok (.iadd, 1) := by decide +kernel
theorem dd_Grammar_makeRule_29 : decode prog_3_method_8_code 29 = .ok (.putfield 25, 3) := by decide +kernel
theorem dd_Grammar_makeRule_32 : decode prog_3_method_8_code 32 = .ok (.aload_n 0, 1) := by decide +kernel
theorem dd_Grammar_makeRule_33 : decode prog_3_method_8_code 33 = .ok (.iconst 0, 1) := by decide +kernel
theorem dd_Grammar_makeRule_34 : decode prog_3_method_8_code 34 = .ok (.putfield 29, 3) := by decide +kernel
theorem dd_Grammar_makeRule_37 : decode prog_3_method_8_code 37 = .ok (.iload_n 2, 1) := by decide +kernel
theorem dd_Grammar_makeRule_38 : decode prog_3_method_8_code 38 = .ok (.ireturn, 1) := by decide +kernel
theorem dd_Grammar_hasKey_0 : decode prog_3_method_9_code 0 = .ok (.bipush 14, 2) := by decide +kernel
theorem dd_Grammar_hasKey_2 : decode prog_3_method_9_code 2 = .ok (.istore_n 3, 1) := by decide +kernel
theorem dd_Grammar_hasKey_3 : decode prog_3_method_9_code 3 = .ok (.iload_n 3, 1) := by decide +kernel
theorem dd_Grammar_hasKey_4 : decode prog_3_method_9_code 4 = .ok (.aload_n 0, 1) := by decide +kernel
theorem dd_Grammar_hasKey_5 : decode prog_3_method_9_code 5 = .ok (.invokevirtual 47, 3) := by decide +kernel
theorem dd_Grammar_hasKey_8 : decode prog_3_method_9_code 8 = .ok (.if_icmp .ge 22, 3) := by decide +kernel
theorem dd_Grammar_hasKey_11 : decode prog_3_method_9_code 11 = .ok (.aload_n 0, 1) := by decide +kernel
theorem dd_Grammar_hasKey_12 : decode prog_3_method_9_code 12 = .ok (.getfield 15, 3) := by decide +kernel
theorem dd_Grammar_hasKey_15 : decode prog_3_method_9_code 15 = .ok (.iload_n 3, 1) := by decide +kernel
theorem dd_Grammar_hasKey_16 : decode prog_3_method_9_code 16 = .ok (.laload, 1) := by decide +kernel
theorem dd_Grammar_hasKey_17 : decode prog_3_method_9_code 17 = .ok (.lload_n 1, 1) := by decide +kernel
theorem dd_Grammar_hasKey_18 : decode prog_3_method_9_code 18 = .ok (.lcmp, 1) := by decide +kernel
theorem dd_Grammar_hasKey_19 : decode prog_3_method_9_code 19 = .ok (.ifCond .ne 5, 3) := by decide +kernel
theorem dd_Grammar_hasKey_22 : decode prog_3_method_9_code 22 = .ok (.iconst 1, 1) := by decide +kernel
theorem dd_Grammar_hasKey_23 : decode prog_3_method_9_code 23 = .ok (.ireturn, 1) := by decide +kernel
theorem dd_Grammar_hasKey_24 : decode prog_3_method_9_code 24 = .ok (.iinc 3 1, 3) := by decide +kernel
theorem dd_Grammar_hasKey_27 : decode prog_3_method_9_code 27 = .ok (.goto (-24), 3) := by decide +kernel
theorem dd_Grammar_hasKey_30 : decode prog_3_method_9_code 30 = .ok (.iconst 0, 1) := by decide +kernel
theorem dd_Grammar_hasKey_31 : decode prog_3_method_9_code 31 = .ok (.ireturn, 1) := by decide +kernel
theorem dd_Arrays_rangeCheck_0 : decode prog_25_method_30_code 0 = .ok (.iload_n 1, 1) := by decide +kernel
theorem dd_Arrays_rangeCheck_1 : decode prog_25_method_30_code 1 = .ok (.iload_n 2, 1) := by decide +kernel
theorem dd_Arrays_rangeCheck_2 : decode prog_25_method_30_code 2 = .ok (.if_icmp .le 44, 3) := by decide +kernel
theorem dd_Arrays_rangeCheck_5 : decode prog_25_method_30_code 5 = .ok (.new 43, 3) := by decide +kernel
theorem dd_Arrays_rangeCheck_8 : decode prog_25_method_30_code 8 = .ok (.dup, 1) := by decide +kernel
theorem dd_Arrays_rangeCheck_9 : decode prog_25_method_30_code 9 = .ok (.new 45, 3) := by decide +kernel
theorem dd_Arrays_rangeCheck_12 : decode prog_25_method_30_code 12 = .ok (.dup, 1) := by decide +kernel
theorem dd_Arrays_rangeCheck_13 : decode prog_25_method_30_code 13 = .ok (.invokespecial 47, 3) := by decide +kernel
theorem dd_Arrays_rangeCheck_16 : decode prog_25_method_30_code 16 = .ok (.ldc 48, 2) := by decide +kernel
theorem dd_Arrays_rangeCheck_18 : decode prog_25_method_30_code 18 = .ok (.invokevirtual 50, 3) := by decide +kernel
theorem dd_Arrays_rangeCheck_21 : decode prog_25_method_30_code 21 = .ok (.iload_n 1, 1) := by decide +kernel
theorem dd_Arrays_rangeCheck_22 : decode prog_25_method_30_code 22 = .ok (.invokevirtual 54, 3) := by decide +kernel
theorem dd_Arrays_rangeCheck_25 : decode prog_25_method_30_code 25 = .ok (.ldc 57, 2) := by decide +kernel
theorem dd_Arrays_rangeCheck_27 : decode prog_25_method_30_code 27 = .ok (.invokevirtual 50, 3) := by decide +kernel
theorem dd_Arrays_rangeCheck_30 : decode prog_25_method_30_code 30 = .ok (.iload_n 2, 1) := by decide +kernel
theorem dd_Arrays_rangeCheck_31 : decode prog_25_method_30_code 31 = .ok (.invokevirtual 54, 3) := by decide +kernel
theorem dd_Arrays_rangeCheck_34 : decode prog_25_method_30_code 34 = .ok (.ldc 59, 2) := by decide +kernel
theorem dd_Arrays_rangeCheck_36 : decode prog_25_method_30_code 36 = .ok (.invokevirtual 50, 3) := by decide +kernel
theorem dd_Arrays_rangeCheck_39 : decode prog_25_method_30_code 39 = .ok (.invokevirtual 61, 3) := by decide +kernel
theorem dd_Arrays_rangeCheck_42 : decode prog_25_method_30_code 42 = .ok (.invokespecial 65, 3) := by decide +kernel
theorem dd_Arrays_rangeCheck_45 : decode prog_25_method_30_code 45 = .ok (.athrow, 1) := by decide +kernel
theorem dd_Arrays_rangeCheck_46 : decode prog_25_method_30_code 46 = .ok (.iload_n 1, 1) := by decide +kernel
theorem dd_Arrays_rangeCheck_47 : decode prog_25_method_30_code 47 = .ok (.ifCond .ge 12, 3) := by decide +kernel
theorem dd_Arrays_rangeCheck_50 : decode prog_25_method_30_code 50 = .ok (.new 68, 3) := by decide +kernel
theorem dd_Arrays_rangeCheck_53 : decode prog_25_method_30_code 53 = .ok (.dup, 1) := by decide +kernel
theorem dd_Arrays_rangeCheck_54 : decode prog_25_method_30_code 54 = .ok (.iload_n 1, 1) := by decide +kernel
theorem dd_Arrays_rangeCheck_55 : decode prog_25_method_30_code 55 = .ok (.invokespecial 70, 3) := by decide +kernel
theorem dd_Arrays_rangeCheck_58 : decode prog_25_method_30_code 58 = .ok (.athrow, 1) := by decide +kernel
theorem dd_Arrays_rangeCheck_59 : decode prog_25_method_30_code 59 = .ok (.iload_n 2, 1) := by decide +kernel
theorem dd_Arrays_rangeCheck_60 : decode prog_25_method_30_code 60 = .ok (.iload_n 0, 1) := by decide +kernel
theorem dd_Arrays_rangeCheck_61 : decode prog_25_method_30_code 61 = .ok (.if_icmp .le 12, 3) := by decide +kernel
theorem dd_Arrays_rangeCheck_64 : decode prog_25_method_30_code 64 = .ok (.new 68, 3) := by decide +kernel
theorem dd_Arrays_rangeCheck_67 : decode prog_25_method_30_code 67 = .ok (.dup, 1) := by decide +kernel
theorem dd_Arrays_rangeCheck_68 : decode prog_25_method_30_code 68 = .ok (.iload_n 2, 1) := by decide +kernel
theorem dd_Arrays_rangeCheck_69 : decode prog_25_method_30_code 69 = .ok (.invokespecial 70, 3) := by decide +kernel
theorem dd_Arrays_rangeCheck_72 : decode prog_25_method_30_code 72 = .ok (.athrow, 1) := by decide +kernel
theorem dd_Arrays_rangeCheck_73 : decode prog_25_method_30_code 73 = .ok (.return_, 1) := by decide +kernel
theorem dd_Arrays_fill_0 : decode prog_25_method_104_code 0 = .ok (.aload_n 0, 1) := by decide +kernel
theorem dd_Arrays_fill_1 : decode prog_25_method_104_code 1 = .ok (.arraylength, 1) := by decide +kernel
theorem dd_Arrays_fill_2 : decode prog_25_method_104_code 2 = .ok (.iload_n 1, 1) := by decide +kernel
theorem dd_Arrays_fill_3 : decode prog_25_method_104_code 3 = .ok (.iload_n 2, 1) := by decide +kernel
theorem dd_Arrays_fill_4 : decode prog_25_method_104_code 4 = .ok (.invokestatic 13, 3) := by decide +kernel
theorem dd_Arrays_fill_7 : decode prog_25_method_104_code 7 = .ok (.iload_n 1, 1) := by decide +kernel
theorem dd_Arrays_fill_8 : decode prog_25_method_104_code 8 = .ok (.istore 4, 2) := by decide +kernel
theorem dd_Arrays_fill_10 : decode prog_25_method_104_code 10 = .ok (.iload 4, 2) := by decide +kernel
theorem dd_Arrays_fill_12 : decode prog_25_method_104_code 12 = .ok (.iload_n 2, 1) := by decide +kernel
theorem dd_Arrays_fill_13 : decode prog_25_method_104_code 13 = .ok (.if_icmp .ge 14, 3) := by decide +kernel
theorem dd_Arrays_fill_16 : decode prog_25_method_104_code 16 = .ok (.aload_n 0, 1) := by decide +kernel
theorem dd_Arrays_fill_17 : decode prog_25_method_104_code 17 = .ok (.iload 4, 2) := by decide +kernel
theorem dd_Arrays_fill_19 : decode prog_25_method_104_code 19 = .ok (.iload_n 3, 1) := by decide +kernel
theorem dd_Arrays_fill_20 : decode prog_25_method_104_code 20 = .ok (.iastore, 1) := by decide +kernel
theorem dd_Arrays_fill_21 : decode prog_25_method_104_code 21 = .ok (.iinc 4 1, 3) := by decide +kernel
theorem dd_Arrays_fill_24 : decode prog_25_method_104_code 24 = .ok (.goto (-14), 3) := by decide +kernel
theorem dd_Arrays_fill_27 : decode prog_25_method_104_code 27 = .ok (.return_, 1) := by decide +kernel
theorem dd_Arrays_fill2_0 : decode prog_25_method_102_code 0 = .ok (.aload_n 0, 1) := by decide +kernel
theorem dd_Arrays_fill2_1 : decode prog_25_method_102_code 1 = .ok (.arraylength, 1) := by decide +kernel
theorem dd_Arrays_fill2_2 : decode prog_25_method_102_code 2 = .ok (.iload_n 1, 1) := by decide +kernel
theorem dd_Arrays_fill2_3 : decode prog_25_method_102_code 3 = .ok (.iload_n 2, 1) := by decide +kernel
theorem dd_Arrays_fill2_4 : decode prog_25_method_102_code 4 = .ok (.invokestatic 13, 3) := by decide +kernel
theorem dd_Arrays_fill2_7 : decode prog_25_method_102_code 7 = .ok (.iload_n 1, 1) := by decide +kernel
theorem dd_Arrays_fill2_8 : decode prog_25_method_102_code 8 = .ok (.istore 5, 2) := by decide +kernel
theorem dd_Arrays_fill2_10 : decode prog_25_method_102_code 10 = .ok (.iload 5, 2) := by decide +kernel
theorem dd_Arrays_fill2_12 : decode prog_25_method_102_code 12 = .ok (.iload_n 2, 1) := by decide +kernel
theorem dd_Arrays_fill2_13 : decode prog_25_method_102_code 13 = .ok (.if_icmp .ge 14, 3) := by decide +kernel
theorem dd_Arrays_fill2_16 : decode prog_25_method_102_code 16 = .ok (.aload_n 0, 1) := by decide +kernel
theorem dd_Arrays_fill2_17 : decode prog_25_method_102_code 17 = .ok (.iload 5, 2) := by decide +kernel
theorem dd_Arrays_fill2_19 : decode prog_25_method_102_code 19 = .ok (.lload_n 3, 1) := by decide +kernel
theorem dd_Arrays_fill2_20 : decode prog_25_method_102_code 20 = .ok (.lastore, 1) := by decide +kernel
theorem dd_Arrays_fill2_21 : decode prog_25_method_102_code 21 = .ok (.iinc 5 1, 3) := by decide +kernel
theorem dd_Arrays_fill2_24 : decode prog_25_method_102_code 24 = .ok (.goto (-14), 3) := by decide +kernel
theorem dd_Arrays_fill2_27 : decode prog_25_method_102_code 27 = .ok (.return_, 1) := by decide +kernel
theorem dd_Spelling_byteOf_0 : decode prog_5_method_3_code 0 = .ok (.lload_n 0, 1) := by decide +kernel
theorem dd_Spelling_byteOf_1 : decode prog_5_method_3_code 1 = .ok (.bipush 8, 2) := by decide +kernel
theorem dd_Spelling_byteOf_3 : decode prog_5_method_3_code 3 = .ok (.iload_n 2, 1) := by decide +kernel
theorem dd_Spelling_byteOf_4 : decode prog_5_method_3_code 4 = .ok (.imul, 1) := by decide +kernel
theorem dd_Spelling_byteOf_5 : decode prog_5_method_3_code 5 = .ok (.lushr, 1) := by decide +kernel
theorem dd_Spelling_byteOf_6 : decode prog_5_method_3_code 6 = .ok (.l2i, 1) := by decide +kernel
theorem dd_Spelling_byteOf_7 : decode prog_5_method_3_code 7 = .ok (.sipush 255, 3) := by decide +kernel
theorem dd_Spelling_byteOf_10 : decode prog_5_method_3_code 10 = .ok (.iand, 1) := by decide +kernel
theorem dd_Spelling_byteOf_11 : decode prog_5_method_3_code 11 = .ok (.ireturn, 1) := by decide +kernel
theorem dd_Spelling_lowBytes_0 : decode prog_5_method_4_code 0 = .ok (.iload_n 2, 1) := by decide +kernel
theorem dd_Spelling_lowBytes_1 : decode prog_5_method_4_code 1 = .ok (.bipush 8, 2) := by decide +kernel
theorem dd_Spelling_lowBytes_3 : decode prog_5_method_4_code 3 = .ok (.if_icmp .lt 7, 3) := by decide +kernel
theorem dd_Spelling_lowBytes_6 : decode prog_5_method_4_code 6 = .ok (.lload_n 0, 1) := by decide +kernel
theorem dd_Spelling_lowBytes_7 : decode prog_5_method_4_code 7 = .ok (.goto 13, 3) := by decide +kernel
theorem dd_Spelling_lowBytes_10 : decode prog_5_method_4_code 10 = .ok (.lload_n 0, 1) := by decide +kernel
theorem dd_Spelling_lowBytes_11 : decode prog_5_method_4_code 11 = .ok (.lconst 1, 1) := by decide +kernel
theorem dd_Spelling_lowBytes_12 : decode prog_5_method_4_code 12 = .ok (.bipush 8, 2) := by decide +kernel
theorem dd_Spelling_lowBytes_14 : decode prog_5_method_4_code 14 = .ok (.iload_n 2, 1) := by decide +kernel
theorem dd_Spelling_lowBytes_15 : decode prog_5_method_4_code 15 = .ok (.imul, 1) := by decide +kernel
theorem dd_Spelling_lowBytes_16 : decode prog_5_method_4_code 16 = .ok (.lshl, 1) := by decide +kernel
theorem dd_Spelling_lowBytes_17 : decode prog_5_method_4_code 17 = .ok (.lconst 1, 1) := by decide +kernel
theorem dd_Spelling_lowBytes_18 : decode prog_5_method_4_code 18 = .ok (.lsub, 1) := by decide +kernel
theorem dd_Spelling_lowBytes_19 : decode prog_5_method_4_code 19 = .ok (.land, 1) := by decide +kernel
theorem dd_Spelling_lowBytes_20 : decode prog_5_method_4_code 20 = .ok (.lreturn, 1) := by decide +kernel
theorem dd_Text_append_0 : decode prog_6_method_2_code 0 = .ok (.iload_n 3, 1) := by decide +kernel
theorem dd_Text_append_1 : decode prog_6_method_2_code 1 = .ok (.iconst 1, 1) := by decide +kernel
theorem dd_Text_append_2 : decode prog_6_method_2_code 2 = .ok (.isub, 1) := by decide +kernel
theorem dd_Text_append_3 : decode prog_6_method_2_code 3 = .ok (.istore 4, 2) := by decide +kernel
theorem dd_Text_append_5 : decode prog_6_method_2_code 5 = .ok (.iload 4, 2) := by decide +kernel
theorem dd_Text_append_7 : decode prog_6_method_2_code 7 = .ok (.ifCond .lt 35, 3) := by decide +kernel
theorem dd_Text_append_10 : decode prog_6_method_2_code 10 = .ok (.aload_n 0, 1) := by decide +kernel
theorem dd_Text_append_11 : decode prog_6_method_2_code 11 = .ok (.getfield 9, 3) := by decide +kernel
theorem dd_Text_append_14 : decode prog_6_method_2_code 14 = .ok (.aload_n 0, 1) := by decide +kernel
theorem dd_Text_append_15 : decode prog_6_method_2_code 15 = .ok (.getfield 15, 3) := by decide +kernel
theorem dd_Text_append_18 : decode prog_6_method_2_code 18 = .ok (.lload_n 1, 1) := by decide +kernel
theorem dd_Text_append_19 : decode prog_6_method_2_code 19 = .ok (.iload 4, 2) := by decide +kernel
theorem dd_Text_append_21 : decode prog_6_method_2_code 21 = .ok (.invokestatic 36, 3) := by decide +kernel
theorem dd_Text_append_24 : decode prog_6_method_2_code 24 = .ok (.i2b, 1) := by decide +kernel
theorem dd_Text_append_25 : decode prog_6_method_2_code 25 = .ok (.bastore, 1) := by decide +kernel
theorem dd_Text_append_26 : decode prog_6_method_2_code 26 = .ok (.aload_n 0, 1) := by decide +kernel
theorem dd_Text_append_27 : decode prog_6_method_2_code 27 = .ok (.dup, 1) := by decide +kernel
theorem dd_Text_append_28 : decode prog_6_method_2_code 28 = .ok (.getfield 15, 3) := by decide +kernel
theorem dd_Text_append_31 : decode prog_6_method_2_code 31 = .ok (.iconst 1, 1) := by decide +kernel
theorem dd_Text_append_32 : decode prog_6_method_2_code 32 = .ok (.iadd, 1) := by decide +kernel
theorem dd_Text_append_33 : decode prog_6_method_2_code 33 = .ok (.putfield 15, 3) := by decide +kernel
theorem dd_Text_append_36 : decode prog_6_method_2_code 36 = .ok (.iinc 4 (-1), 3) := by decide +kernel
theorem dd_Text_append_39 : decode prog_6_method_2_code 39 = .ok (.goto (-34), 3) := by decide +kernel
theorem dd_Text_append_42 : decode prog_6_method_2_code 42 = .ok (.return_, 1) := by decide +kernel
theorem dd_Text_takeRow_0 : decode prog_6_method_6_code 0 = .ok (.iload_n 2, 1) := by decide +kernel
theorem dd_Text_takeRow_1 : decode prog_6_method_6_code 1 = .ok (.iload_n 1, 1) := by decide +kernel
theorem dd_Text_takeRow_2 : decode prog_6_method_6_code 2 = .ok (.isub, 1) := by decide +kernel
theorem dd_Text_takeRow_3 : decode prog_6_method_6_code 3 = .ok (.bipush 8, 2) := by decide +kernel
theorem dd_Text_takeRow_5 : decode prog_6_method_6_code 5 = .ok (.if_icmp .le 7, 3) := by decide +kernel
theorem dd_Text_takeRow_8 : decode prog_6_method_6_code 8 = .ok (.iconst 1, 1) := by decide +kernel
theorem dd_Text_takeRow_9 : decode prog_6_method_6_code 9 = .ok (.goto 4, 3) := by decide +kernel
theorem dd_Text_takeRow_12 : decode prog_6_method_6_code 12 = .ok (.iconst 0, 1) := by decide +kernel
theorem dd_Text_takeRow_13 : decode prog_6_method_6_code 13 = .ok (.istore 5, 2) := by decide +kernel
theorem dd_Text_takeRow_15 : decode prog_6_method_6_code 15 = .ok (.iload_n 3, 1) := by decide +kernel
theorem dd_Text_takeRow_16 : decode prog_6_method_6_code 16 = .ok (.ifCond .eq 17, 3) := by decide +kernel
theorem dd_Text_takeRow_19 : decode prog_6_method_6_code 19 = .ok (.iload 5, 2) := by decide +kernel
theorem dd_Text_takeRow_21 : decode prog_6_method_6_code 21 = .ok (.ifCond .ne 12, 3) := by decide +kernel
theorem dd_Text_takeRow_24 : decode prog_6_method_6_code 24 = .ok (.aload_n 0, 1) := by decide +kernel
theorem dd_Text_takeRow_25 : decode prog_6_method_6_code 25 = .ok (.getfield 30, 3) := by decide +kernel
theorem dd_Text_takeRow_28 : decode prog_6_method_6_code 28 = .ok (.bipush 30, 2) := by decide +kernel
theorem dd_Text_takeRow_30 : decode prog_6_method_6_code 30 = .ok (.if_icmp .lt 9, 3) := by decide +kernel
theorem dd_Text_takeRow_33 : decode prog_6_method_6_code 33 = .ok (.aload_n 0, 1) := by decide +kernel
theorem dd_Text_takeRow_34 : decode prog_6_method_6_code 34 = .ok (.iload_n 1, 1) := by decide +kernel
theorem dd_Text_takeRow_35 : decode prog_6_method_6_code 35 = .ok (.putfield 33, 3) := by decide +kernel
theorem dd_Text_takeRow_38 : decode prog_6_method_6_code 38 = .ok (.return_, 1) := by decide +kernel
theorem dd_Text_takeRow_39 : decode prog_6_method_6_code 39 = .ok (.lconst 0, 1) := by decide +kernel
theorem dd_Text_takeRow_40 : decode prog_6_method_6_code 40 = .ok (.lstore 6, 2) := by decide +kernel
theorem dd_Text_takeRow_42 : decode prog_6_method_6_code 42 = .ok (.iload_n 1, 1) := by decide +kernel
theorem dd_Text_takeRow_43 : decode prog_6_method_6_code 43 = .ok (.istore 8, 2) := by decide +kernel
theorem dd_Text_takeRow_45 : decode prog_6_method_6_code 45 = .ok (.iload 8, 2) := by decide +kernel
theorem dd_Text_takeRow_47 : decode prog_6_method_6_code 47 = .ok (.iload_n 2, 1) := by decide +kernel
theorem dd_Text_takeRow_48 : decode prog_6_method_6_code 48 = .ok (.if_icmp .ge 29, 3) := by decide +kernel
theorem dd_Text_takeRow_51 : decode prog_6_method_6_code 51 = .ok (.lload 6, 2) := by decide +kernel
theorem dd_Text_takeRow_53 : decode prog_6_method_6_code 53 = .ok (.bipush 8, 2) := by decide +kernel
theorem dd_Text_takeRow_55 : decode prog_6_method_6_code 55 = .ok (.lshl, 1) := by decide +kernel
theorem dd_Text_takeRow_56 : decode prog_6_method_6_code 56 = .ok (.aload_n 0, 1) := by decide +kernel
theorem dd_Text_takeRow_57 : decode prog_6_method_6_code 57 = .ok (.getfield 9, 3) := by decide +kernel
theorem dd_Text_takeRow_60 : decode prog_6_method_6_code 60 = .ok (.iload 8, 2) := by decide +kernel
theorem dd_Text_takeRow_62 : decode prog_6_method_6_code 62 = .ok (.baload, 1) := by decide +kernel
theorem dd_Text_takeRow_63 : decode prog_6_method_6_code 63 = .ok (.sipush 255, 3) := by decide +kernel
theorem dd_Text_takeRow_66 : decode prog_6_method_6_code 66 = .ok (.iand, 1) := by decide +kernel
theorem dd_Text_takeRow_67 : decode prog_6_method_6_code 67 = .ok (.i2l, 1) := by decide +kernel
theorem dd_Text_takeRow_68 : decode prog_6_method_6_code 68 = .ok (.lor, 1) := by decide +kernel
theorem dd_Text_takeRow_69 : decode prog_6_method_6_code 69 = .ok (.lstore 6, 2) := by decide +kernel
theorem dd_Text_takeRow_71 : decode prog_6_method_6_code 71 = .ok (.iinc 8 1, 3) := by decide +kernel
theorem dd_Text_takeRow_74 : decode prog_6_method_6_code 74 = .ok (.goto (-29), 3) := by decide +kernel
theorem dd_Text_takeRow_77 : decode prog_6_method_6_code 77 = .ok (.iload_n 3, 1) := by decide +kernel
theorem dd_Text_takeRow_78 : decode prog_6_method_6_code 78 = .ok (.iconst 2, 1) := by decide +kernel
theorem dd_Text_takeRow_79 : decode prog_6_method_6_code 79 = .ok (.if_icmp .eq 8, 3) := by decide +kernel
theorem dd_Text_takeRow_82 : decode prog_6_method_6_code 82 = .ok (.iload_n 3, 1) := by decide +kernel
theorem dd_Text_takeRow_83 : decode prog_6_method_6_code 83 = .ok (.iconst 3, 1) := by decide +kernel
theorem dd_Text_takeRow_84 : decode prog_6_method_6_code 84 = .ok (.if_icmp .ne 7, 3) := by decide +kernel
theorem dd_Text_takeRow_87 : decode prog_6_method_6_code 87 = .ok (.iconst 1, 1) := by decide +kernel
theorem dd_Text_takeRow_88 : decode prog_6_method_6_code 88 = .ok (.goto 4, 3) := by decide +kernel
theorem dd_Text_takeRow_91 : decode prog_6_method_6_code 91 = .ok (.iconst 0, 1) := by decide +kernel
theorem dd_Text_takeRow_92 : decode prog_6_method_6_code 92 = .ok (.istore 8, 2) := by decide +kernel
theorem dd_Text_takeRow_94 : decode prog_6_method_6_code 94 = .ok (.aload_n 0, 1) := by decide +kernel
theorem dd_Text_takeRow_95 : decode prog_6_method_6_code 95 = .ok (.getfield 19, 3) := by decide +kernel
theorem dd_Text_takeRow_98 : decode prog_6_method_6_code 98 = .ok (.aload_n 0, 1) := by decide +kernel
theorem dd_Text_takeRow_99 : decode prog_6_method_6_code 99 = .ok (.getfield 30, 3) := by decide +kernel
theorem dd_Text_takeRow_102 : decode prog_6_method_6_code 102 = .ok (.lload 6, 2) := by decide +kernel
theorem dd_Text_takeRow_104 : decode prog_6_method_6_code 104 = .ok (.lastore, 1) := by decide +kernel
theorem dd_Text_takeRow_105 : decode prog_6_method_6_code 105 = .ok (.aload_n 0, 1) := by decide +kernel
theorem dd_Text_takeRow_106 : decode prog_6_method_6_code 106 = .ok (.getfield 23, 3) := by decide +kernel
theorem dd_Text_takeRow_109 : decode prog_6_method_6_code 109 = .ok (.aload_n 0, 1) := by decide +kernel
theorem dd_Text_takeRow_110 : decode prog_6_method_6_code 110 = .ok (.getfield 30, 3) := by decide +kernel
theorem dd_Text_takeRow_113 : decode prog_6_method_6_code 113 = .ok (.iload 8, 2) := by decide +kernel
theorem dd_Text_takeRow_115 : decode prog_6_method_6_code 115 = .ok (.ifCond .eq 17, 3) := by decide +kernel
theorem dd_Text_takeRow_118 : decode prog_6_method_6_code 118 = .ok (.aload 4, 2) := by decide +kernel
theorem dd_Text_takeRow_120 : decode prog_6_method_6_code 120 = .ok (.lload 6, 2) := by decide +kernel
theorem dd_Text_takeRow_122 : decode prog_6_method_6_code 122 = .ok (.invokevirtual 57, 3) := by decide +kernel
theorem dd_Text_takeRow_125 : decode prog_6_method_6_code 125 = .ok (.ifCond .ne 7, 3) := by decide +kernel
theorem dd_Text_takeRow_128 : decode prog_6_method_6_code 128 = .ok (.lconst 0, 1) := by decide +kernel
theorem dd_Text_takeRow_129 : decode prog_6_method_6_code 129 = .ok (.goto 5, 3) := by decide +kernel
theorem dd_Text_takeRow_132 : decode prog_6_method_6_code 132 = .ok (.lload 6, 2) := by decide +kernel
theorem dd_Text_takeRow_134 : decode prog_6_method_6_code 134 = .ok (.lastore, 1) := by decide +kernel
theorem dd_Text_takeRow_135 : decode prog_6_method_6_code 135 = .ok (.aload_n 0, 1) := by decide +kernel
theorem dd_Text_takeRow_136 : decode prog_6_method_6_code 136 = .ok (.getfield 26, 3) := by decide +kernel
theorem dd_Text_takeRow_139 : decode prog_6_method_6_code 139 = .ok (.aload_n 0, 1) := by decide +kernel
theorem dd_Text_takeRow_140 : decode prog_6_method_6_code 140 = .ok (.getfield 30, 3) := by decide +kernel
theorem dd_Text_takeRow_143 : decode prog_6_method_6_code 143 = .ok (.iload_n 1, 1) := by decide +kernel
theorem dd_Text_takeRow_144 : decode prog_6_method_6_code 144 = .ok (.iastore, 1) := by decide +kernel
theorem dd_Text_takeRow_145 : decode prog_6_method_6_code 145 = .ok (.aload_n 0, 1) := by decide +kernel
theorem dd_Text_takeRow_146 : decode prog_6_method_6_code 146 = .ok (.dup, 1) := by decide +kernel
theorem dd_Text_takeRow_147 : decode prog_6_method_6_code 147 = .ok (.getfield 30, 3) := by decide +kernel
theorem dd_Text_takeRow_150 : decode prog_6_method_6_code 150 = .ok (.iconst 1, 1) := by decide +kernel
theorem dd_Text_takeRow_151 : decode prog_6_method_6_code 151 = .ok (.iadd, 1) := by decide +kernel
theorem dd_Text_takeRow_152 : decode prog_6_method_6_code 152 = .ok (.putfield 30, 3) := by decide +kernel
theorem dd_Text_takeRow_155 : decode prog_6_method_6_code 155 = .ok (.return_, 1) := by decide +kernel
theorem dd_N_put_0 : decode prog_1_method_5_code 0 = .ok (.iload_n 3, 1) := by decide +kernel
theorem dd_N_put_1 : decode prog_1_method_5_code 1 = .ok (.iconst 1, 1) := by decide +kernel
theorem dd_N_put_2 : decode prog_1_method_5_code 2 = .ok (.if_icmp .lt 24, 3) := by decide +kernel
theorem dd_N_put_5 : decode prog_1_method_5_code 5 = .ok (.iload_n 3, 1) := by decide +kernel
theorem dd_N_put_6 : decode prog_1_method_5_code 6 = .ok (.bipush 8, 2) := by decide +kernel
theorem dd_N_put_8 : decode prog_1_method_5_code 8 = .ok (.if_icmp .gt 18, 3) := by decide +kernel
theorem dd_N_put_11 : decode prog_1_method_5_code 11 = .ok (.iload_n 3, 1) := by decide +kernel
theorem dd_N_put_12 : decode prog_1_method_5_code 12 = .ok (.sipush 200, 3) := by decide +kernel
theorem dd_N_put_15 : decode prog_1_method_5_code 15 = .ok (.aload_n 0, 1) := by decide +kernel
theorem dd_N_put_16 : decode prog_1_method_5_code 16 = .ok (.getfield 19, 3) := by decide +kernel
theorem dd_N_put_19 : decode prog_1_method_5_code 19 = .ok (.getfield 120, 3) := by decide +kernel
theorem dd_N_put_22 : decode prog_1_method_5_code 22 = .ok (.isub, 1) := by decide +kernel
theorem dd_N_put_23 : decode prog_1_method_5_code 23 = .ok (.if_icmp .le 5, 3) := by decide +kernel
theorem dd_N_put_26 : decode prog_1_method_5_code 26 = .ok (.iconst 0, 1) := by decide +kernel
theorem dd_N_put_27 : decode prog_1_method_5_code 27 = .ok (.ireturn, 1) := by decide +kernel
theorem dd_N_put_28 : decode prog_1_method_5_code 28 = .ok (.aload_n 0, 1) := by decide +kernel
theorem dd_N_put_29 : decode prog_1_method_5_code 29 = .ok (.getfield 19, 3) := by decide +kernel
theorem dd_N_put_32 : decode prog_1_method_5_code 32 = .ok (.lload_n 1, 1) := by decide +kernel
theorem dd_N_put_33 : decode prog_1_method_5_code 33 = .ok (.iload_n 3, 1) := by decide +kernel
theorem dd_N_put_34 : decode prog_1_method_5_code 34 = .ok (.invokevirtual 123, 3) := by decide +kernel
theorem dd_N_put_37 : decode prog_1_method_5_code 37 = .ok (.iconst 1, 1) := by decide +kernel
theorem dd_N_put_38 : decode prog_1_method_5_code 38 = .ok (.ireturn, 1) := by decide +kernel
theorem dd_N_clear_0 : decode prog_1_method_6_code 0 = .ok (.aload_n 0, 1) := by decide +kernel
theorem dd_N_clear_1 : decode prog_1_method_6_code 1 = .ok (.getfield 19, 3) := by decide +kernel
theorem dd_N_clear_4 : decode prog_1_method_6_code 4 = .ok (.iconst 0, 1) := by decide +kernel
theorem dd_N_clear_5 : decode prog_1_method_6_code 5 = .ok (.putfield 120, 3) := by decide +kernel
theorem dd_N_clear_8 : decode prog_1_method_6_code 8 = .ok (.return_, 1) := by decide +kernel
theorem dd_N_noteFault_0 : decode prog_1_method_9_code 0 = .ok (.aload_n 0, 1) := by decide +kernel
theorem dd_N_noteFault_1 : decode prog_1_method_9_code 1 = .ok (.iload_n 1, 1) := by decide +kernel
theorem dd_N_noteFault_2 : decode prog_1_method_9_code 2 = .ok (.putfield 48, 3) := by decide +kernel
theorem dd_N_noteFault_5 : decode prog_1_method_9_code 5 = .ok (.aload_n 0, 1) := by decide +kernel
theorem dd_N_noteFault_6 : decode prog_1_method_9_code 6 = .ok (.iload_n 2, 1) := by decide +kernel
theorem dd_N_noteFault_7 : decode prog_1_method_9_code 7 = .ok (.putfield 52, 3) := by decide +kernel
theorem dd_N_noteFault_10 : decode prog_1_method_9_code 10 = .ok (.return_, 1) := by decide +kernel
theorem dd_N_findFault_0 : decode prog_1_method_8_code 0 = .ok (.aload_n 0, 1) := by decide +kernel
theorem dd_N_findFault_1 : decode prog_1_method_8_code 1 = .ok (.getfield 28, 3) := by decide +kernel
theorem dd_N_findFault_4 : decode prog_1_method_8_code 4 = .ok (.aload_n 0, 1) := by decide +kernel
theorem dd_N_findFault_5 : decode prog_1_method_8_code 5 = .ok (.getfield 19, 3) := by decide +kernel
theorem dd_N_findFault_8 : decode prog_1_method_8_code 8 = .ok (.getfield 145, 3) := by decide +kernel
theorem dd_N_findFault_11 : decode prog_1_method_8_code 11 = .ok (.aload_n 0, 1) := by decide +kernel
theorem dd_N_findFault_12 : decode prog_1_method_8_code 12 = .ok (.getfield 19, 3) := by decide +kernel
theorem dd_N_findFault_15 : decode prog_1_method_8_code 15 = .ok (.getfield 135, 3) := by decide +kernel
theorem dd_N_findFault_18 : decode prog_1_method_8_code 18 = .ok (.invokevirtual 149, 3) := by decide +kernel
theorem dd_N_findFault_21 : decode prog_1_method_8_code 21 = .ok (.istore_n 1, 1) := by decide +kernel
theorem dd_N_findFault_22 : decode prog_1_method_8_code 22 = .ok (.iload_n 1, 1) := by decide +kernel
theorem dd_N_findFault_23 : decode prog_1_method_8_code 23 = .ok (.aload_n 0, 1) := by decide +kernel
theorem dd_N_findFault_24 : decode prog_1_method_8_code 24 = .ok (.getfield 19, 3) := by decide +kernel
theorem dd_N_findFault_27 : decode prog_1_method_8_code 27 = .ok (.getfield 135, 3) := by decide +kernel
theorem dd_N_findFault_30 : decode prog_1_method_8_code 30 = .ok (.if_icmp .ge 20, 3) := by decide +kernel
theorem dd_N_findFault_33 : decode prog_1_method_8_code 33 = .ok (.aload_n 0, 1) := by decide +kernel
theorem dd_N_findFault_34 : decode prog_1_method_8_code 34 = .ok (.iconst 1, 1) := by decide +kernel
theorem dd_N_findFault_35 : decode prog_1_method_8_code 35 = .ok (.aload_n 0, 1) := by decide +kernel
theorem dd_N_findFault_36 : decode prog_1_method_8_code 36 = .ok (.getfield 19, 3) := by decide +kernel
theorem dd_N_findFault_39 : decode prog_1_method_8_code 39 = .ok (.getfield 153, 3) := by decide +kernel
theorem dd_N_findFault_42 : decode prog_1_method_8_code 42 = .ok (.iload_n 1, 1) := by decide +kernel
theorem dd_N_findFault_43 : decode prog_1_method_8_code 43 = .ok (.iaload, 1) := by decide +kernel
theorem dd_N_findFault_44 : decode prog_1_method_8_code 44 = .ok (.invokevirtual 157, 3) := by decide +kernel
theorem dd_N_findFault_47 : decode prog_1_method_8_code 47 = .ok (.goto 67, 3) := by decide +kernel
theorem dd_N_findFault_50 : decode prog_1_method_8_code 50 = .ok (.aload_n 0, 1) := by decide +kernel
theorem dd_N_findFault_51 : decode prog_1_method_8_code 51 = .ok (.getfield 19, 3) := by decide +kernel
theorem dd_N_findFault_54 : decode prog_1_method_8_code 54 = .ok (.getfield 161, 3) := by decide +kernel
theorem dd_N_findFault_57 : decode prog_1_method_8_code 57 = .ok (.iconst (-1), 1) := by decide +kernel
theorem dd_N_findFault_58 : decode prog_1_method_8_code 58 = .ok (.if_icmp .eq 18, 3) := by decide +kernel
theorem dd_N_findFault_61 : decode prog_1_method_8_code 61 = .ok (.aload_n 0, 1) := by decide +kernel
theorem dd_N_findFault_62 : decode prog_1_method_8_code 62 = .ok (.iconst 2, 1) := by decide +kernel
theorem dd_N_findFault_63 : decode prog_1_method_8_code 63 = .ok (.aload_n 0, 1) := by decide +kernel
theorem dd_N_findFault_64 : decode prog_1_method_8_code 64 = .ok (.getfield 19, 3) := by decide +kernel
theorem dd_N_findFault_67 : decode prog_1_method_8_code 67 = .ok (.getfield 161, 3) := by decide +kernel
theorem dd_N_findFault_70 : decode prog_1_method_8_code 70 = .ok (.invokevirtual 157, 3) := by decide +kernel
theorem dd_N_findFault_73 : decode prog_1_method_8_code 73 = .ok (.goto 41, 3) := by decide +kernel
theorem dd_N_findFault_76 : decode prog_1_method_8_code 76 = .ok (.aload_n 0, 1) := by decide +kernel
theorem dd_N_findFault_77 : decode prog_1_method_8_code 77 = .ok (.getfield 28, 3) := by decide +kernel
theorem dd_N_findFault_80 : decode prog_1_method_8_code 80 = .ok (.aload_n 0, 1) := by decide +kernel
theorem dd_N_findFault_81 : decode prog_1_method_8_code 81 = .ok (.getfield 19, 3) := by decide +kernel
theorem dd_N_findFault_84 : decode prog_1_method_8_code 84 = .ok (.getfield 135, 3) := by decide +kernel
theorem dd_N_findFault_87 : decode prog_1_method_8_code 87 = .ok (.invokevirtual 164, 3) := by decide +kernel
theorem dd_N_findFault_90 : decode prog_1_method_8_code 90 = .ok (.ifCond .ne 18, 3) := by decide +kernel
theorem dd_N_findFault_93 : decode prog_1_method_8_code 93 = .ok (.aload_n 0, 1) := by decide +kernel
theorem dd_N_findFault_94 : decode prog_1_method_8_code 94 = .ok (.iconst 1, 1) := by decide +kernel
theorem dd_N_findFault_95 : decode prog_1_method_8_code 95 = .ok (.aload_n 0, 1) := by decide +kernel
theorem dd_N_findFault_96 : decode prog_1_method_8_code 96 = .ok (.getfield 19, 3) := by decide +kernel
theorem dd_N_findFault_99 : decode prog_1_method_8_code 99 = .ok (.getfield 120, 3) := by decide +kernel
theorem dd_N_findFault_102 : decode prog_1_method_8_code 102 = .ok (.invokevirtual 157, 3) := by decide +kernel
theorem dd_N_findFault_105 : decode prog_1_method_8_code 105 = .ok (.goto 9, 3) := by decide +kernel
theorem dd_N_findFault_108 : decode prog_1_method_8_code 108 = .ok (.aload_n 0, 1) := by decide +kernel
theorem dd_N_findFault_109 : decode prog_1_method_8_code 109 = .ok (.iconst 0, 1) := by decide +kernel
theorem dd_N_findFault_110 : decode prog_1_method_8_code 110 = .ok (.iconst (-1), 1) := by decide +kernel
theorem dd_N_findFault_111 : decode prog_1_method_8_code 111 = .ok (.invokevirtual 157, 3) := by decide +kernel
theorem dd_N_findFault_114 : decode prog_1_method_8_code 114 = .ok (.return_, 1) := by decide +kernel
theorem dd_N_fault_0 : decode prog_1_method_10_code 0 = .ok (.iload_n 1, 1) := by decide +kernel
theorem dd_N_fault_1 : decode prog_1_method_10_code 1 = .ok (.lookupswitch 37 #[(0, 27), (1, 32)], 27) := by decide +kernel
theorem dd_N_fault_28 : decode prog_1_method_10_code 28 = .ok (.aload_n 0, 1) := by decide +kernel
theorem dd_N_fault_29 : decode prog_1_method_10_code 29 = .ok (.getfield 48, 3) := by decide +kernel
theorem dd_N_fault_32 : decode prog_1_method_10_code 32 = .ok (.ireturn, 1) := by decide +kernel
theorem dd_N_fault_33 : decode prog_1_method_10_code 33 = .ok (.aload_n 0, 1) := by decide +kernel
theorem dd_N_fault_34 : decode prog_1_method_10_code 34 = .ok (.getfield 52, 3) := by decide +kernel
theorem dd_N_fault_37 : decode prog_1_method_10_code 37 = .ok (.ireturn, 1) := by decide +kernel
theorem dd_N_fault_38 : decode prog_1_method_10_code 38 = .ok (.iconst (-1), 1) := by decide +kernel
theorem dd_N_fault_39 : decode prog_1_method_10_code 39 = .ok (.ireturn, 1) := by decide +kernel
theorem dd_N_at_0 : decode prog_1_method_13_code 0 = .ok (.iload_n 1, 1) := by decide +kernel
theorem dd_N_at_1 : decode prog_1_method_13_code 1 = .ok (.ifCond .lt 14, 3) := by decide +kernel
theorem dd_N_at_4 : decode prog_1_method_13_code 4 = .ok (.iload_n 1, 1) := by decide +kernel
theorem dd_N_at_5 : decode prog_1_method_13_code 5 = .ok (.aload_n 0, 1) := by decide +kernel
theorem dd_N_at_6 : decode prog_1_method_13_code 6 = .ok (.getfield 44, 3) := by decide +kernel
theorem dd_N_at_9 : decode prog_1_method_13_code 9 = .ok (.getfield 198, 3) := by decide +kernel
theorem dd_N_at_12 : decode prog_1_method_13_code 12 = .ok (.if_icmp .lt 7, 3) := by decide +kernel
theorem dd_N_at_15 : decode prog_1_method_13_code 15 = .ok (.iconst (-1), 1) := by decide +kernel
theorem dd_N_at_16 : decode prog_1_method_13_code 16 = .ok (.goto 12, 3) := by decide +kernel
theorem dd_N_at_19 : decode prog_1_method_13_code 19 = .ok (.aload_n 0, 1) := by decide +kernel
theorem dd_N_at_20 : decode prog_1_method_13_code 20 = .ok (.getfield 44, 3) := by decide +kernel
theorem dd_N_at_23 : decode prog_1_method_13_code 23 = .ok (.getfield 199, 3) := by decide +kernel
theorem dd_N_at_26 : decode prog_1_method_13_code 26 = .ok (.iload_n 1, 1) := by decide +kernel
theorem dd_N_at_27 : decode prog_1_method_13_code 27 = .ok (.baload, 1) := by decide +kernel
theorem dd_N_at_28 : decode prog_1_method_13_code 28 = .ok (.ireturn, 1) := by decide +kernel
theorem dd_N_about_0 : decode prog_1_method_15_code 0 = .ok (.iload_n 1, 1) := by decide +kernel
theorem dd_N_about_1 : decode prog_1_method_15_code 1 = .ok (.tableswitch 77 0 4 #[35, 45, 53, 61, 69], 35) := by decide +kernel
theorem dd_N_about_36 : decode prog_1_method_15_code 36 = .ok (.aload_n 0, 1) := by decide +kernel
theorem dd_N_about_37 : decode prog_1_method_15_code 37 = .ok (.getfield 12, 3) := by decide +kernel
theorem dd_N_about_40 : decode prog_1_method_15_code 40 = .ok (.getfield 108, 3) := by decide +kernel
theorem dd_N_about_43 : decode prog_1_method_15_code 43 = .ok (.iconst 2, 1) := by decide +kernel
theorem dd_N_about_44 : decode prog_1_method_15_code 44 = .ok (.isub, 1) := by decide +kernel
theorem dd_N_about_45 : decode prog_1_method_15_code 45 = .ok (.ireturn, 1) := by decide +kernel
theorem dd_N_about_46 : decode prog_1_method_15_code 46 = .ok (.aload_n 0, 1) := by decide +kernel
theorem dd_N_about_47 : decode prog_1_method_15_code 47 = .ok (.getfield 12, 3) := by decide +kernel
theorem dd_N_about_50 : decode prog_1_method_15_code 50 = .ok (.getfield 68, 3) := by decide +kernel
theorem dd_N_about_53 : decode prog_1_method_15_code 53 = .ok (.ireturn, 1) := by decide +kernel
theorem dd_N_about_54 : decode prog_1_method_15_code 54 = .ok (.aload_n 0, 1) := by decide +kernel
theorem dd_N_about_55 : decode prog_1_method_15_code 55 = .ok (.getfield 19, 3) := by decide +kernel
theorem dd_N_about_58 : decode prog_1_method_15_code 58 = .ok (.getfield 120, 3) := by decide +kernel
theorem dd_N_about_61 : decode prog_1_method_15_code 61 = .ok (.ireturn, 1) := by decide +kernel
theorem dd_N_about_62 : decode prog_1_method_15_code 62 = .ok (.aload_n 0, 1) := by decide +kernel
theorem dd_N_about_63 : decode prog_1_method_15_code 63 = .ok (.getfield 37, 3) := by decide +kernel
theorem dd_N_about_66 : decode prog_1_method_15_code 66 = .ok (.getfield 168, 3) := by decide +kernel
theorem dd_N_about_69 : decode prog_1_method_15_code 69 = .ok (.ireturn, 1) := by decide +kernel
theorem dd_N_about_70 : decode prog_1_method_15_code 70 = .ok (.aload_n 0, 1) := by decide +kernel
theorem dd_N_about_71 : decode prog_1_method_15_code 71 = .ok (.getfield 44, 3) := by decide +kernel
theorem dd_N_about_74 : decode prog_1_method_15_code 74 = .ok (.getfield 198, 3) := by decide +kernel
theorem dd_N_about_77 : decode prog_1_method_15_code 77 = .ok (.ireturn, 1) := by decide +kernel
theorem dd_N_about_78 : decode prog_1_method_15_code 78 = .ok (.iconst (-1), 1) := by decide +kernel
theorem dd_N_about_79 : decode prog_1_method_15_code 79 = .ok (.ireturn, 1) := by decide +kernel
theorem dd_Tree_fell_0 : decode prog_7_method_2_code 0 = .ok (.aload_n 0, 1) := by decide +kernel
theorem dd_Tree_fell_1 : decode prog_7_method_2_code 1 = .ok (.iconst 0, 1) := by decide +kernel
theorem dd_Tree_fell_2 : decode prog_7_method_2_code 2 = .ok (.putfield 9, 3) := by decide +kernel
theorem dd_Tree_fell_5 : decode prog_7_method_2_code 5 = .ok (.return_, 1) := by decide +kernel
theorem dd_Tree_levelWithin_0 : decode prog_7_method_8_code 0 = .ok (.iload_n 1, 1) := by decide +kernel
theorem dd_Tree_levelWithin_1 : decode prog_7_method_8_code 1 = .ok (.istore_n 2, 1) := by decide +kernel
theorem dd_Tree_levelWithin_2 : decode prog_7_method_8_code 2 = .ok (.iload_n 2, 1) := by decide +kernel
theorem dd_Tree_levelWithin_3 : decode prog_7_method_8_code 3 = .ok (.aload_n 0, 1) := by decide +kernel
theorem dd_Tree_levelWithin_4 : decode prog_7_method_8_code 4 = .ok (.getfield 9, 3) := by decide +kernel
theorem dd_Tree_levelWithin_7 : decode prog_7_method_8_code 7 = .ok (.iconst 1, 1) := by decide +kernel
theorem dd_Tree_levelWithin_8 : decode prog_7_method_8_code 8 = .ok (.isub, 1) := by decide +kernel
theorem dd_Tree_levelWithin_9 : decode prog_7_method_8_code 9 = .ok (.if_icmp .ge 18, 3) := by decide +kernel
theorem dd_Tree_levelWithin_12 : decode prog_7_method_8_code 12 = .ok (.aload_n 0, 1) := by decide +kernel
theorem dd_Tree_levelWithin_13 : decode prog_7_method_8_code 13 = .ok (.getfield 15, 3) := by decide +kernel
theorem dd_Tree_levelWithin_16 : decode prog_7_method_8_code 16 = .ok (.iload_n 2, 1) := by decide +kernel
theorem dd_Tree_levelWithin_17 : decode prog_7_method_8_code 17 = .ok (.iaload, 1) := by decide +kernel
theorem dd_Tree_levelWithin_18 : decode prog_7_method_8_code 18 = .ok (.ifCond .ne 9, 3) := by decide +kernel
theorem dd_Tree_levelWithin_21 : decode prog_7_method_8_code 21 = .ok (.iinc 2 1, 3) := by decide +kernel
theorem dd_Tree_levelWithin_24 : decode prog_7_method_8_code 24 = .ok (.goto (-22), 3) := by decide +kernel
theorem dd_Tree_levelWithin_27 : decode prog_7_method_8_code 27 = .ok (.aload_n 0, 1) := by decide +kernel
theorem dd_Tree_levelWithin_28 : decode prog_7_method_8_code 28 = .ok (.getfield 49, 3) := by decide +kernel
theorem dd_Tree_levelWithin_31 : decode prog_7_method_8_code 31 = .ok (.getfield 89, 3) := by decide +kernel
theorem dd_Tree_levelWithin_34 : decode prog_7_method_8_code 34 = .ok (.aload_n 0, 1) := by decide +kernel
theorem dd_Tree_levelWithin_35 : decode prog_7_method_8_code 35 = .ok (.getfield 15, 3) := by decide +kernel
theorem dd_Tree_levelWithin_38 : decode prog_7_method_8_code 38 = .ok (.iload_n 2, 1) := by decide +kernel
theorem dd_Tree_levelWithin_39 : decode prog_7_method_8_code 39 = .ok (.iaload, 1) := by decide +kernel
theorem dd_Tree_levelWithin_40 : decode prog_7_method_8_code 40 = .ok (.iaload, 1) := by decide +kernel
theorem dd_Tree_levelWithin_41 : decode prog_7_method_8_code 41 = .ok (.ireturn, 1) := by decide +kernel
theorem dd_Tree_needlessBrackets_0 : decode prog_7_method_7_code 0 = .ok (.iconst 0, 1) := by decide +kernel
theorem dd_Tree_needlessBrackets_1 : decode prog_7_method_7_code 1 = .ok (.istore_n 1, 1) := by decide +kernel
theorem dd_Tree_needlessBrackets_2 : decode prog_7_method_7_code 2 = .ok (.iconst 0, 1) := by decide +kernel
theorem dd_Tree_needlessBrackets_3 : decode prog_7_method_7_code 3 = .ok (.istore_n 2, 1) := by decide +kernel
theorem dd_Tree_needlessBrackets_4 : decode prog_7_method_7_code 4 = .ok (.iload_n 2, 1) := by decide +kernel
theorem dd_Tree_needlessBrackets_5 : decode prog_7_method_7_code 5 = .ok (.aload_n 0, 1) := by decide +kernel
theorem dd_Tree_needlessBrackets_6 : decode prog_7_method_7_code 6 = .ok (.getfield 9, 3) := by decide +kernel
theorem dd_Tree_needlessBrackets_9 : decode prog_7_method_7_code 9 = .ok (.if_icmp .ge 61, 3) := by decide +kernel
theorem dd_Tree_needlessBrackets_12 : decode prog_7_method_7_code 12 = .ok (.aload_n 0, 1) := by decide +kernel
theorem dd_Tree_needlessBrackets_13 : decode prog_7_method_7_code 13 = .ok (.getfield 15, 3) := by decide +kernel
theorem dd_Tree_needlessBrackets_16 : decode prog_7_method_7_code 16 = .ok (.iload_n 2, 1) := by decide +kernel
theorem dd_Tree_needlessBrackets_17 : decode prog_7_method_7_code 17 = .ok (.iaload, 1) := by decide +kernel
theorem dd_Tree_needlessBrackets_18 : decode prog_7_method_7_code 18 = .ok (.ifCond .ne 46, 3) := by decide +kernel
theorem dd_Tree_needlessBrackets_21 : decode prog_7_method_7_code 21 = .ok (.aload_n 0, 1) := by decide +kernel
theorem dd_Tree_needlessBrackets_22 : decode prog_7_method_7_code 22 = .ok (.iload_n 2, 1) := by decide +kernel
theorem dd_Tree_needlessBrackets_23 : decode prog_7_method_7_code 23 = .ok (.invokevirtual 86, 3) := by decide +kernel
theorem dd_Tree_needlessBrackets_26 : decode prog_7_method_7_code 26 = .ok (.aload_n 0, 1) := by decide +kernel
theorem dd_Tree_needlessBrackets_27 : decode prog_7_method_7_code 27 = .ok (.getfield 31, 3) := by decide +kernel
theorem dd_Tree_needlessBrackets_30 : decode prog_7_method_7_code 30 = .ok (.iload_n 2, 1) := by decide +kernel
theorem dd_Tree_needlessBrackets_31 : decode prog_7_method_7_code 31 = .ok (.iaload, 1) := by decide +kernel
theorem dd_Tree_needlessBrackets_32 : decode prog_7_method_7_code 32 = .ok (.if_icmp .lt 32, 3) := by decide +kernel
theorem dd_Tree_needlessBrackets_35 : decode prog_7_method_7_code 35 = .ok (.iload_n 1, 1) := by decide +kernel
theorem dd_Tree_needlessBrackets_36 : decode prog_7_method_7_code 36 = .ok (.iconst 1, 1) := by decide +kernel
theorem dd_Tree_needlessBrackets_37 : decode prog_7_method_7_code 37 = .ok (.aload_n 0, 1) := by decide +kernel
theorem dd_Tree_needlessBrackets_38 : decode prog_7_method_7_code 38 = .ok (.getfield 22, 3) := by decide +kernel
theorem dd_Tree_needlessBrackets_41 : decode prog_7_method_7_code 41 = .ok (.iload_n 2, 1) := by decide +kernel
theorem dd_Tree_needlessBrackets_42 : decode prog_7_method_7_code 42 = .ok (.iaload, 1) := by decide +kernel
theorem dd_Tree_needlessBrackets_43 : decode prog_7_method_7_code 43 = .ok (.ishl, 1) := by decide +kernel
theorem dd_Tree_needlessBrackets_44 : decode prog_7_method_7_code 44 = .ok (.iconst 1, 1) := by decide +kernel
theorem dd_Tree_needlessBrackets_45 : decode prog_7_method_7_code 45 = .ok (.aload_n 0, 1) := by decide +kernel
theorem dd_Tree_needlessBrackets_46 : decode prog_7_method_7_code 46 = .ok (.getfield 22, 3) := by decide +kernel
theorem dd_Tree_needlessBrackets_49 : decode prog_7_method_7_code 49 = .ok (.iload_n 2, 1) := by decide +kernel
theorem dd_Tree_needlessBrackets_50 : decode prog_7_method_7_code 50 = .ok (.iaload, 1) := by decide +kernel
theorem dd_Tree_needlessBrackets_51 : decode prog_7_method_7_code 51 = .ok (.aload_n 0, 1) := by decide +kernel
theorem dd_Tree_needlessBrackets_52 : decode prog_7_method_7_code 52 = .ok (.getfield 25, 3) := by decide +kernel
theorem dd_Tree_needlessBrackets_55 : decode prog_7_method_7_code 55 = .ok (.iload_n 2, 1) := by decide +kernel
theorem dd_Tree_needlessBrackets_56 : decode prog_7_method_7_code 56 = .ok (.iaload, 1) := by decide +kernel
theorem dd_Tree_needlessBrackets_57 : decode prog_7_method_7_code 57 = .ok (.iadd, 1) := by decide +kernel
theorem dd_Tree_needlessBrackets_58 : decode prog_7_method_7_code 58 = .ok (.iconst 1, 1) := by decide +kernel
theorem dd_Tree_needlessBrackets_59 : decode prog_7_method_7_code 59 = .ok (.isub, 1) := by decide +kernel
theorem dd_Tree_needlessBrackets_60 : decode prog_7_method_7_code 60 = .ok (.ishl, 1) := by decide +kernel
theorem dd_Tree_needlessBrackets_61 : decode prog_7_method_7_code 61 = .ok (.ior, 1) := by decide +kernel
theorem dd_Tree_needlessBrackets_62 : decode prog_7_method_7_code 62 = .ok (.ior, 1) := by decide +kernel
theorem dd_Tree_needlessBrackets_63 : decode prog_7_method_7_code 63 = .ok (.istore_n 1, 1) := by decide +kernel
theorem dd_Tree_needlessBrackets_64 : decode prog_7_method_7_code 64 = .ok (.iinc 2 1, 3) := by decide +kernel
theorem dd_Tree_needlessBrackets_67 : decode prog_7_method_7_code 67 = .ok (.goto (-63), 3) := by decide +kernel
theorem dd_Tree_needlessBrackets_70 : decode prog_7_method_7_code 70 = .ok (.iload_n 1, 1) := by decide +kernel
theorem dd_Tree_needlessBrackets_71 : decode prog_7_method_7_code 71 = .ok (.ireturn, 1) := by decide +kernel
theorem dd_Tree_await_0 : decode prog_7_method_4_code 0 = .ok (.aload_n 0, 1) := by decide +kernel
theorem dd_Tree_await_1 : decode prog_7_method_4_code 1 = .ok (.getfield 34, 3) := by decide +kernel
theorem dd_Tree_await_4 : decode prog_7_method_4_code 4 = .ok (.bipush 30, 2) := by decide +kernel
theorem dd_Tree_await_6 : decode prog_7_method_4_code 6 = .ok (.if_icmp .ge 54, 3) := by decide +kernel
theorem dd_Tree_await_9 : decode prog_7_method_4_code 9 = .ok (.aload_n 0, 1) := by decide +kernel
theorem dd_Tree_await_10 : decode prog_7_method_4_code 10 = .ok (.getfield 37, 3) := by decide +kernel
theorem dd_Tree_await_13 : decode prog_7_method_4_code 13 = .ok (.aload_n 0, 1) := by decide +kernel
theorem dd_Tree_await_14 : decode prog_7_method_4_code 14 = .ok (.getfield 34, 3) := by decide +kernel
theorem dd_Tree_await_17 : decode prog_7_method_4_code 17 = .ok (.iload_n 1, 1) := by decide +kernel
theorem dd_Tree_await_18 : decode prog_7_method_4_code 18 = .ok (.iastore, 1) := by decide +kernel
theorem dd_Tree_await_19 : decode prog_7_method_4_code 19 = .ok (.aload_n 0, 1) := by decide +kernel
theorem dd_Tree_await_20 : decode prog_7_method_4_code 20 = .ok (.getfield 40, 3) := by decide +kernel
theorem dd_Tree_await_23 : decode prog_7_method_4_code 23 = .ok (.aload_n 0, 1) := by decide +kernel
theorem dd_Tree_await_24 : decode prog_7_method_4_code 24 = .ok (.getfield 34, 3) := by decide +kernel
theorem dd_Tree_await_27 : decode prog_7_method_4_code 27 = .ok (.iload_n 2, 1) := by decide +kernel
theorem dd_Tree_await_28 : decode prog_7_method_4_code 28 = .ok (.iastore, 1) := by decide +kernel
theorem dd_Tree_await_29 : decode prog_7_method_4_code 29 = .ok (.aload_n 0, 1) := by decide +kernel
theorem dd_Tree_await_30 : decode prog_7_method_4_code 30 = .ok (.getfield 43, 3) := by decide +kernel
theorem dd_Tree_await_33 : decode prog_7_method_4_code 33 = .ok (.aload_n 0, 1) := by decide +kernel
theorem dd_Tree_await_34 : decode prog_7_method_4_code 34 = .ok (.getfield 34, 3) := by decide +kernel
theorem dd_Tree_await_37 : decode prog_7_method_4_code 37 = .ok (.iload_n 3, 1) := by decide +kernel
theorem dd_Tree_await_38 : decode prog_7_method_4_code 38 = .ok (.iastore, 1) := by decide +kernel
theorem dd_Tree_await_39 : decode prog_7_method_4_code 39 = .ok (.aload_n 0, 1) := by decide +kernel
theorem dd_Tree_await_40 : decode prog_7_method_4_code 40 = .ok (.getfield 46, 3) := by decide +kernel
theorem dd_Tree_await_43 : decode prog_7_method_4_code 43 = .ok (.aload_n 0, 1) := by decide +kernel
theorem dd_Tree_await_44 : decode prog_7_method_4_code 44 = .ok (.getfield 34, 3) := by decide +kernel
theorem dd_Tree_await_47 : decode prog_7_method_4_code 47 = .ok (.iload 4, 2) := by decide +kernel
theorem dd_Tree_await_49 : decode prog_7_method_4_code 49 = .ok (.iastore, 1) := by decide +kernel
theorem dd_Tree_await_50 : decode prog_7_method_4_code 50 = .ok (.aload_n 0, 1) := by decide +kernel
theorem dd_Tree_await_51 : decode prog_7_method_4_code 51 = .ok (.dup, 1) := by decide +kernel
theorem dd_Tree_await_52 : decode prog_7_method_4_code 52 = .ok (.getfield 34, 3) := by decide +kernel
theorem dd_Tree_await_55 : decode prog_7_method_4_code 55 = .ok (.iconst 1, 1) := by decide +kernel
theorem dd_Tree_await_56 : decode prog_7_method_4_code 56 = .ok (.iadd, 1) := by decide +kernel
theorem dd_Tree_await_57 : decode prog_7_method_4_code 57 = .ok (.putfield 34, 3) := by decide +kernel
theorem dd_Tree_await_60 : decode prog_7_method_4_code 60 = .ok (.return_, 1) := by decide +kernel
theorem dd_Tree_awaitHoles_0 : decode prog_7_method_6_code 0 = .ok (.aload_n 0, 1) := by decide +kernel
theorem dd_Tree_awaitHoles_1 : decode prog_7_method_6_code 1 = .ok (.getfield 15, 3) := by decide +kernel
theorem dd_Tree_awaitHoles_4 : decode prog_7_method_6_code 4 = .ok (.iload_n 1, 1) := by decide +kernel
theorem dd_Tree_awaitHoles_5 : decode prog_7_method_6_code 5 = .ok (.iaload, 1) := by decide +kernel
theorem dd_Tree_awaitHoles_6 : decode prog_7_method_6_code 6 = .ok (.bipush 7, 2) := by decide +kernel
theorem dd_Tree_awaitHoles_8 : decode prog_7_method_6_code 8 = .ok (.imul, 1) := by decide +kernel
theorem dd_Tree_awaitHoles_9 : decode prog_7_method_6_code 9 = .ok (.istore 4, 2) := by decide +kernel
theorem dd_Tree_awaitHoles_11 : decode prog_7_method_6_code 11 = .ok (.iconst 0, 1) := by decide +kernel
theorem dd_Tree_awaitHoles_12 : decode prog_7_method_6_code 12 = .ok (.istore 5, 2) := by decide +kernel
theorem dd_Tree_awaitHoles_14 : decode prog_7_method_6_code 14 = .ok (.iload_n 3, 1) := by decide +kernel
theorem dd_Tree_awaitHoles_15 : decode prog_7_method_6_code 15 = .ok (.istore 6, 2) := by decide +kernel
theorem dd_Tree_awaitHoles_17 : decode prog_7_method_6_code 17 = .ok (.aload_n 0, 1) := by decide +kernel
theorem dd_Tree_awaitHoles_18 : decode prog_7_method_6_code 18 = .ok (.getfield 49, 3) := by decide +kernel
theorem dd_Tree_awaitHoles_21 : decode prog_7_method_6_code 21 = .ok (.aload_n 0, 1) := by decide +kernel
theorem dd_Tree_awaitHoles_22 : decode prog_7_method_6_code 22 = .ok (.getfield 15, 3) := by decide +kernel
theorem dd_Tree_awaitHoles_25 : decode prog_7_method_6_code 25 = .ok (.iload_n 1, 1) := by decide +kernel
theorem dd_Tree_awaitHoles_26 : decode prog_7_method_6_code 26 = .ok (.iaload, 1) := by decide +kernel
theorem dd_Tree_awaitHoles_27 : decode prog_7_method_6_code 27 = .ok (.invokevirtual 74, 3) := by decide +kernel
theorem dd_Tree_awaitHoles_30 : decode prog_7_method_6_code 30 = .ok (.iconst 1, 1) := by decide +kernel
theorem dd_Tree_awaitHoles_31 : decode prog_7_method_6_code 31 = .ok (.isub, 1) := by decide +kernel
theorem dd_Tree_awaitHoles_32 : decode prog_7_method_6_code 32 = .ok (.istore 7, 2) := by decide +kernel
theorem dd_Tree_awaitHoles_34 : decode prog_7_method_6_code 34 = .ok (.iload 7, 2) := by decide +kernel
theorem dd_Tree_awaitHoles_36 : decode prog_7_method_6_code 36 = .ok (.iload 4, 2) := by decide +kernel
theorem dd_Tree_awaitHoles_38 : decode prog_7_method_6_code 38 = .ok (.if_icmp .lt 72, 3) := by decide +kernel
theorem dd_Tree_awaitHoles_41 : decode prog_7_method_6_code 41 = .ok (.aload_n 0, 1) := by decide +kernel
theorem dd_Tree_awaitHoles_42 : decode prog_7_method_6_code 42 = .ok (.getfield 49, 3) := by decide +kernel
theorem dd_Tree_awaitHoles_45 : decode prog_7_method_6_code 45 = .ok (.getfield 80, 3) := by decide +kernel
theorem dd_Tree_awaitHoles_48 : decode prog_7_method_6_code 48 = .ok (.iload 7, 2) := by decide +kernel
theorem dd_Tree_awaitHoles_50 : decode prog_7_method_6_code 50 = .ok (.iaload, 1) := by decide +kernel
theorem dd_Tree_awaitHoles_51 : decode prog_7_method_6_code 51 = .ok (.istore 8, 2) := by decide +kernel
theorem dd_Tree_awaitHoles_53 : decode prog_7_method_6_code 53 = .ok (.iload 8, 2) := by decide +kernel
theorem dd_Tree_awaitHoles_55 : decode prog_7_method_6_code 55 = .ok (.iconst (-1), 1) := by decide +kernel
theorem dd_Tree_awaitHoles_56 : decode prog_7_method_6_code 56 = .ok (.if_icmp .ne 10, 3) := by decide +kernel
theorem dd_Tree_awaitHoles_59 : decode prog_7_method_6_code 59 = .ok (.iload 6, 2) := by decide +kernel
theorem dd_Tree_awaitHoles_61 : decode prog_7_method_6_code 61 = .ok (.iconst 1, 1) := by decide +kernel
theorem dd_Tree_awaitHoles_62 : decode prog_7_method_6_code 62 = .ok (.isub, 1) := by decide +kernel
theorem dd_Tree_awaitHoles_63 : decode prog_7_method_6_code 63 = .ok (.goto 15, 3) := by decide +kernel
theorem dd_Tree_awaitHoles_66 : decode prog_7_method_6_code 66 = .ok (.aload_n 0, 1) := by decide +kernel
theorem dd_Tree_awaitHoles_67 : decode prog_7_method_6_code 67 = .ok (.getfield 53, 3) := by decide +kernel
theorem dd_Tree_awaitHoles_70 : decode prog_7_method_6_code 70 = .ok (.iload 7, 2) := by decide +kernel
theorem dd_Tree_awaitHoles_72 : decode prog_7_method_6_code 72 = .ok (.iload_n 2, 1) := by decide +kernel
theorem dd_Tree_awaitHoles_73 : decode prog_7_method_6_code 73 = .ok (.iload 6, 2) := by decide +kernel
theorem dd_Tree_awaitHoles_75 : decode prog_7_method_6_code 75 = .ok (.invokevirtual 83, 3) := by decide +kernel
theorem dd_Tree_awaitHoles_78 : decode prog_7_method_6_code 78 = .ok (.istore 9, 2) := by decide +kernel
theorem dd_Tree_awaitHoles_80 : decode prog_7_method_6_code 80 = .ok (.iload 8, 2) := by decide +kernel
theorem dd_Tree_awaitHoles_82 : decode prog_7_method_6_code 82 = .ok (.iconst (-1), 1) := by decide +kernel
theorem dd_Tree_awaitHoles_83 : decode prog_7_method_6_code 83 = .ok (.if_icmp .eq 17, 3) := by decide +kernel
theorem dd_Tree_awaitHoles_86 : decode prog_7_method_6_code 86 = .ok (.aload_n 0, 1) := by decide +kernel
theorem dd_Tree_awaitHoles_87 : decode prog_7_method_6_code 87 = .ok (.iload 9, 2) := by decide +kernel
theorem dd_Tree_awaitHoles_89 : decode prog_7_method_6_code 89 = .ok (.iload 6, 2) := by decide +kernel
theorem dd_Tree_awaitHoles_91 : decode prog_7_method_6_code 91 = .ok (.iload 8, 2) := by decide +kernel
theorem dd_Tree_awaitHoles_93 : decode prog_7_method_6_code 93 = .ok (.iload_n 1, 1) := by decide +kernel
theorem dd_Tree_awaitHoles_94 : decode prog_7_method_6_code 94 = .ok (.invokevirtual 57, 3) := by decide +kernel
theorem dd_Tree_awaitHoles_97 : decode prog_7_method_6_code 97 = .ok (.iinc 5 1, 3) := by decide +kernel
theorem dd_Tree_awaitHoles_100 : decode prog_7_method_6_code 100 = .ok (.iload 9, 2) := by decide +kernel
theorem dd_Tree_awaitHoles_102 : decode prog_7_method_6_code 102 = .ok (.istore 6, 2) := by decide +kernel
theorem dd_Tree_awaitHoles_104 : decode prog_7_method_6_code 104 = .ok (.iinc 7 (-1), 3) := by decide +kernel
theorem dd_Tree_awaitHoles_107 : decode prog_7_method_6_code 107 = .ok (.goto (-73), 3) := by decide +kernel
theorem dd_Tree_awaitHoles_110 : decode prog_7_method_6_code 110 = .ok (.iload 5, 2) := by decide +kernel
theorem dd_Tree_awaitHoles_112 : decode prog_7_method_6_code 112 = .ok (.ireturn, 1) := by decide +kernel
theorem dd_Tree_growNode_0 : decode prog_7_method_5_code 0 = .ok (.aload_n 0, 1) := by decide +kernel
theorem dd_Tree_growNode_1 : decode prog_7_method_5_code 1 = .ok (.getfield 15, 3) := by decide +kernel
theorem dd_Tree_growNode_4 : decode prog_7_method_5_code 4 = .ok (.iload_n 1, 1) := by decide +kernel
theorem dd_Tree_growNode_5 : decode prog_7_method_5_code 5 = .ok (.aload_n 0, 1) := by decide +kernel
theorem dd_Tree_growNode_6 : decode prog_7_method_5_code 6 = .ok (.getfield 53, 3) := by decide +kernel
theorem dd_Tree_growNode_9 : decode prog_7_method_5_code 9 = .ok (.iload_n 2, 1) := by decide +kernel
theorem dd_Tree_growNode_10 : decode prog_7_method_5_code 10 = .ok (.iload_n 3, 1) := by decide +kernel
theorem dd_Tree_growNode_11 : decode prog_7_method_5_code 11 = .ok (.aload_n 0, 1) := by decide +kernel
theorem dd_Tree_growNode_12 : decode prog_7_method_5_code 12 = .ok (.getfield 43, 3) := by decide +kernel
theorem dd_Tree_growNode_15 : decode prog_7_method_5_code 15 = .ok (.aload_n 0, 1) := by decide +kernel
theorem dd_Tree_growNode_16 : decode prog_7_method_5_code 16 = .ok (.getfield 34, 3) := by decide +kernel
theorem dd_Tree_growNode_19 : decode prog_7_method_5_code 19 = .ok (.iaload, 1) := by decide +kernel
theorem dd_Tree_growNode_20 : decode prog_7_method_5_code 20 = .ok (.invokevirtual 65, 3) := by decide +kernel
theorem dd_Tree_growNode_23 : decode prog_7_method_5_code 23 = .ok (.iastore, 1) := by decide +kernel
theorem dd_Tree_growNode_24 : decode prog_7_method_5_code 24 = .ok (.aload_n 0, 1) := by decide +kernel
theorem dd_Tree_growNode_25 : decode prog_7_method_5_code 25 = .ok (.getfield 22, 3) := by decide +kernel
theorem dd_Tree_growNode_28 : decode prog_7_method_5_code 28 = .ok (.iload_n 1, 1) := by decide +kernel
theorem dd_Tree_growNode_29 : decode prog_7_method_5_code 29 = .ok (.iload_n 2, 1) := by decide +kernel
theorem dd_Tree_growNode_30 : decode prog_7_method_5_code 30 = .ok (.iastore, 1) := by decide +kernel
theorem dd_Tree_growNode_31 : decode prog_7_method_5_code 31 = .ok (.aload_n 0, 1) := by decide +kernel
theorem dd_Tree_growNode_32 : decode prog_7_method_5_code 32 = .ok (.getfield 25, 3) := by decide +kernel
theorem dd_Tree_growNode_35 : decode prog_7_method_5_code 35 = .ok (.iload_n 1, 1) := by decide +kernel
theorem dd_Tree_growNode_36 : decode prog_7_method_5_code 36 = .ok (.iload_n 3, 1) := by decide +kernel
theorem dd_Tree_growNode_37 : decode prog_7_method_5_code 37 = .ok (.iload_n 2, 1) := by decide +kernel
theorem dd_Tree_growNode_38 : decode prog_7_method_5_code 38 = .ok (.isub, 1) := by decide +kernel
theorem dd_Tree_growNode_39 : decode prog_7_method_5_code 39 = .ok (.iastore, 1) := by decide +kernel
theorem dd_Tree_growNode_40 : decode prog_7_method_5_code 40 = .ok (.aload_n 0, 1) := by decide +kernel
theorem dd_Tree_growNode_41 : decode prog_7_method_5_code 41 = .ok (.getfield 28, 3) := by decide +kernel
theorem dd_Tree_growNode_44 : decode prog_7_method_5_code 44 = .ok (.iload_n 1, 1) := by decide +kernel
theorem dd_Tree_growNode_45 : decode prog_7_method_5_code 45 = .ok (.aload_n 0, 1) := by decide +kernel
theorem dd_Tree_growNode_46 : decode prog_7_method_5_code 46 = .ok (.getfield 46, 3) := by decide +kernel
theorem dd_Tree_growNode_49 : decode prog_7_method_5_code 49 = .ok (.aload_n 0, 1) := by decide +kernel
theorem dd_Tree_growNode_50 : decode prog_7_method_5_code 50 = .ok (.getfield 34, 3) := by decide +kernel
theorem dd_Tree_growNode_53 : decode prog_7_method_5_code 53 = .ok (.iaload, 1) := by decide +kernel
theorem dd_Tree_growNode_54 : decode prog_7_method_5_code 54 = .ok (.iastore, 1) := by decide +kernel
theorem dd_Tree_growNode_55 : decode prog_7_method_5_code 55 = .ok (.aload_n 0, 1) := by decide +kernel
theorem dd_Tree_growNode_56 : decode prog_7_method_5_code 56 = .ok (.getfield 31, 3) := by decide +kernel
theorem dd_Tree_growNode_59 : decode prog_7_method_5_code 59 = .ok (.iload_n 1, 1) := by decide +kernel
theorem dd_Tree_growNode_60 : decode prog_7_method_5_code 60 = .ok (.aload_n 0, 1) := by decide +kernel
theorem dd_Tree_growNode_61 : decode prog_7_method_5_code 61 = .ok (.getfield 43, 3) := by decide +kernel
theorem dd_Tree_growNode_64 : decode prog_7_method_5_code 64 = .ok (.aload_n 0, 1) := by decide +kernel
theorem dd_Tree_growNode_65 : decode prog_7_method_5_code 65 = .ok (.getfield 34, 3) := by decide +kernel
theorem dd_Tree_growNode_68 : decode prog_7_method_5_code 68 = .ok (.iaload, 1) := by decide +kernel
theorem dd_Tree_growNode_69 : decode prog_7_method_5_code 69 = .ok (.iastore, 1) := by decide +kernel
theorem dd_Tree_growNode_70 : decode prog_7_method_5_code 70 = .ok (.aload_n 0, 1) := by decide +kernel
theorem dd_Tree_growNode_71 : decode prog_7_method_5_code 71 = .ok (.getfield 19, 3) := by decide +kernel
theorem dd_Tree_growNode_74 : decode prog_7_method_5_code 74 = .ok (.iload_n 1, 1) := by decide +kernel
theorem dd_Tree_growNode_75 : decode prog_7_method_5_code 75 = .ok (.aload_n 0, 1) := by decide +kernel
theorem dd_Tree_growNode_76 : decode prog_7_method_5_code 76 = .ok (.iload_n 1, 1) := by decide +kernel
theorem dd_Tree_growNode_77 : decode prog_7_method_5_code 77 = .ok (.iload_n 2, 1) := by decide +kernel
theorem dd_Tree_growNode_78 : decode prog_7_method_5_code 78 = .ok (.iload_n 3, 1) := by decide +kernel
theorem dd_Tree_growNode_79 : decode prog_7_method_5_code 79 = .ok (.invokevirtual 71, 3) := by decide +kernel
theorem dd_Tree_growNode_82 : decode prog_7_method_5_code 82 = .ok (.iastore, 1) := by decide +kernel
theorem dd_Tree_growNode_83 : decode prog_7_method_5_code 83 = .ok (.return_, 1) := by decide +kernel
theorem dd_Tree_grow_0 : decode prog_7_method_3_code 0 = .ok (.aload_n 0, 1) := by decide +kernel
theorem dd_Tree_grow_1 : decode prog_7_method_3_code 1 = .ok (.iconst 0, 1) := by decide +kernel
theorem dd_Tree_grow_2 : decode prog_7_method_3_code 2 = .ok (.putfield 9, 3) := by decide +kernel
theorem dd_Tree_grow_5 : decode prog_7_method_3_code 5 = .ok (.aload_n 0, 1) := by decide +kernel
theorem dd_Tree_grow_6 : decode prog_7_method_3_code 6 = .ok (.iconst 0, 1) := by decide +kernel
theorem dd_Tree_grow_7 : decode prog_7_method_3_code 7 = .ok (.putfield 34, 3) := by decide +kernel
theorem dd_Tree_grow_10 : decode prog_7_method_3_code 10 = .ok (.aload_n 0, 1) := by decide +kernel
theorem dd_Tree_grow_11 : decode prog_7_method_3_code 11 = .ok (.iconst 0, 1) := by decide +kernel
theorem dd_Tree_grow_12 : decode prog_7_method_3_code 12 = .ok (.iload_n 1, 1) := by decide +kernel
theorem dd_Tree_grow_13 : decode prog_7_method_3_code 13 = .ok (.iconst 0, 1) := by decide +kernel
theorem dd_Tree_grow_14 : decode prog_7_method_3_code 14 = .ok (.iconst (-1), 1) := by decide +kernel
theorem dd_Tree_grow_15 : decode prog_7_method_3_code 15 = .ok (.invokevirtual 57, 3) := by decide +kernel
theorem dd_Tree_grow_18 : decode prog_7_method_3_code 18 = .ok (.iconst 0, 1) := by decide +kernel
theorem dd_Tree_grow_19 : decode prog_7_method_3_code 19 = .ok (.istore_n 2, 1) := by decide +kernel
theorem dd_Tree_grow_20 : decode prog_7_method_3_code 20 = .ok (.iload_n 2, 1) := by decide +kernel
theorem dd_Tree_grow_21 : decode prog_7_method_3_code 21 = .ok (.bipush 30, 2) := by decide +kernel
theorem dd_Tree_grow_23 : decode prog_7_method_3_code 23 = .ok (.if_icmp .ge 59, 3) := by decide +kernel
theorem dd_Tree_grow_26 : decode prog_7_method_3_code 26 = .ok (.aload_n 0, 1) := by decide +kernel
theorem dd_Tree_grow_27 : decode prog_7_method_3_code 27 = .ok (.getfield 34, 3) := by decide +kernel
theorem dd_Tree_grow_30 : decode prog_7_method_3_code 30 = .ok (.ifCond .le 52, 3) := by decide +kernel
theorem dd_Tree_grow_33 : decode prog_7_method_3_code 33 = .ok (.aload_n 0, 1) := by decide +kernel
theorem dd_Tree_grow_34 : decode prog_7_method_3_code 34 = .ok (.dup, 1) := by decide +kernel
theorem dd_Tree_grow_35 : decode prog_7_method_3_code 35 = .ok (.getfield 34, 3) := by decide +kernel
theorem dd_Tree_grow_38 : decode prog_7_method_3_code 38 = .ok (.iconst 1, 1) := by decide +kernel
theorem dd_Tree_grow_39 : decode prog_7_method_3_code 39 = .ok (.isub, 1) := by decide +kernel
theorem dd_Tree_grow_40 : decode prog_7_method_3_code 40 = .ok (.putfield 34, 3) := by decide +kernel
theorem dd_Tree_grow_43 : decode prog_7_method_3_code 43 = .ok (.aload_n 0, 1) := by decide +kernel
theorem dd_Tree_grow_44 : decode prog_7_method_3_code 44 = .ok (.iload_n 2, 1) := by decide +kernel
theorem dd_Tree_grow_45 : decode prog_7_method_3_code 45 = .ok (.aload_n 0, 1) := by decide +kernel
theorem dd_Tree_grow_46 : decode prog_7_method_3_code 46 = .ok (.getfield 37, 3) := by decide +kernel
theorem dd_Tree_grow_49 : decode prog_7_method_3_code 49 = .ok (.aload_n 0, 1) := by decide +kernel
theorem dd_Tree_grow_50 : decode prog_7_method_3_code 50 = .ok (.getfield 34, 3) := by decide +kernel
theorem dd_Tree_grow_53 : decode prog_7_method_3_code 53 = .ok (.iaload, 1) := by decide +kernel
theorem dd_Tree_grow_54 : decode prog_7_method_3_code 54 = .ok (.aload_n 0, 1) := by decide +kernel
theorem dd_Tree_grow_55 : decode prog_7_method_3_code 55 = .ok (.getfield 40, 3) := by decide +kernel
theorem dd_Tree_grow_58 : decode prog_7_method_3_code 58 = .ok (.aload_n 0, 1) := by decide +kernel
theorem dd_Tree_grow_59 : decode prog_7_method_3_code 59 = .ok (.getfield 34, 3) := by decide +kernel
theorem dd_Tree_grow_62 : decode prog_7_method_3_code 62 = .ok (.iaload, 1) := by decide +kernel
theorem dd_Tree_grow_63 : decode prog_7_method_3_code 63 = .ok (.invokevirtual 61, 3) := by decide +kernel
theorem dd_Tree_grow_66 : decode prog_7_method_3_code 66 = .ok (.aload_n 0, 1) := by decide +kernel
theorem dd_Tree_grow_67 : decode prog_7_method_3_code 67 = .ok (.dup, 1) := by decide +kernel
theorem dd_Tree_grow_68 : decode prog_7_method_3_code 68 = .ok (.getfield 9, 3) := by decide +kernel
theorem dd_Tree_grow_71 : decode prog_7_method_3_code 71 = .ok (.iconst 1, 1) := by decide +kernel
theorem dd_Tree_grow_72 : decode prog_7_method_3_code 72 = .ok (.iadd, 1) := by decide +kernel
theorem dd_Tree_grow_73 : decode prog_7_method_3_code 73 = .ok (.putfield 9, 3) := by decide +kernel
theorem dd_Tree_grow_76 : decode prog_7_method_3_code 76 = .ok (.iinc 2 1, 3) := by decide +kernel
theorem dd_Tree_grow_79 : decode prog_7_method_3_code 79 = .ok (.goto (-59), 3) := by decide +kernel
theorem dd_Tree_grow_82 : decode prog_7_method_3_code 82 = .ok (.return_, 1) := by decide +kernel
theorem dd_Chart_emptyRow_0 : decode prog_2_method_4_code 0 = .ok (.aload_n 0, 1) := by decide +kernel
theorem dd_Chart_emptyRow_1 : decode prog_2_method_4_code 1 = .ok (.getfield 9, 3) := by decide +kernel
theorem dd_Chart_emptyRow_4 : decode prog_2_method_4_code 4 = .ok (.iload_n 1, 1) := by decide +kernel
theorem dd_Chart_emptyRow_5 : decode prog_2_method_4_code 5 = .ok (.bipush 98, 2) := by decide +kernel
theorem dd_Chart_emptyRow_7 : decode prog_2_method_4_code 7 = .ok (.imul, 1) := by decide +kernel
theorem dd_Chart_emptyRow_8 : decode prog_2_method_4_code 8 = .ok (.iload_n 1, 1) := by decide +kernel
theorem dd_Chart_emptyRow_9 : decode prog_2_method_4_code 9 = .ok (.iconst 1, 1) := by decide +kernel
theorem dd_Chart_emptyRow_10 : decode prog_2_method_4_code 10 = .ok (.iadd, 1) := by decide +kernel
theorem dd_Chart_emptyRow_11 : decode prog_2_method_4_code 11 = .ok (.bipush 98, 2) := by decide +kernel
theorem dd_Chart_emptyRow_13 : decode prog_2_method_4_code 13 = .ok (.imul, 1) := by decide +kernel
theorem dd_Chart_emptyRow_14 : decode prog_2_method_4_code 14 = .ok (.iconst 0, 1) := by decide +kernel
theorem dd_Chart_emptyRow_15 : decode prog_2_method_4_code 15 = .ok (.invokestatic 48, 3) := by decide +kernel
theorem dd_Chart_emptyRow_18 : decode prog_2_method_4_code 18 = .ok (.return_, 1) := by decide +kernel
theorem dd_Chart_scan_0 : decode prog_2_method_6_code 0 = .ok (.iload_n 1, 1) := by decide +kernel
theorem dd_Chart_scan_1 : decode prog_2_method_6_code 1 = .ok (.bipush 98, 2) := by decide +kernel
theorem dd_Chart_scan_3 : decode prog_2_method_6_code 3 = .ok (.imul, 1) := by decide +kernel
theorem dd_Chart_scan_4 : decode prog_2_method_6_code 4 = .ok (.istore 4, 2) := by decide +kernel
theorem dd_Chart_scan_6 : decode prog_2_method_6_code 6 = .ok (.iload 4, 2) := by decide +kernel
theorem dd_Chart_scan_8 : decode prog_2_method_6_code 8 = .ok (.bipush 98, 2) := by decide +kernel
theorem dd_Chart_scan_10 : decode prog_2_method_6_code 10 = .ok (.iadd, 1) := by decide +kernel
theorem dd_Chart_scan_11 : decode prog_2_method_6_code 11 = .ok (.istore 5, 2) := by decide +kernel
theorem dd_Chart_scan_13 : decode prog_2_method_6_code 13 = .ok (.iconst 0, 1) := by decide +kernel
theorem dd_Chart_scan_14 : decode prog_2_method_6_code 14 = .ok (.istore 6, 2) := by decide +kernel
theorem dd_Chart_scan_16 : decode prog_2_method_6_code 16 = .ok (.iconst 0, 1) := by decide +kernel
theorem dd_Chart_scan_17 : decode prog_2_method_6_code 17 = .ok (.istore 7, 2) := by decide +kernel
theorem dd_Chart_scan_19 : decode prog_2_method_6_code 19 = .ok (.iload 7, 2) := by decide +kernel
theorem dd_Chart_scan_21 : decode prog_2_method_6_code 21 = .ok (.aload_n 0, 1) := by decide +kernel
theorem dd_Chart_scan_22 : decode prog_2_method_6_code 22 = .ok (.getfield 21, 3) := by decide +kernel
theorem dd_Chart_scan_25 : decode prog_2_method_6_code 25 = .ok (.invokevirtual 54, 3) := by decide +kernel
theorem dd_Chart_scan_28 : decode prog_2_method_6_code 28 = .ok (.if_icmp .ge 62, 3) := by decide +kernel
theorem dd_Chart_scan_31 : decode prog_2_method_6_code 31 = .ok (.aload_n 0, 1) := by decide +kernel
theorem dd_Chart_scan_32 : decode prog_2_method_6_code 32 = .ok (.getfield 9, 3) := by decide +kernel
theorem dd_Chart_scan_35 : decode prog_2_method_6_code 35 = .ok (.iload 4, 2) := by decide +kernel
theorem dd_Chart_scan_37 : decode prog_2_method_6_code 37 = .ok (.iload 7, 2) := by decide +kernel
theorem dd_Chart_scan_39 : decode prog_2_method_6_code 39 = .ok (.iadd, 1) := by decide +kernel
theorem dd_Chart_scan_40 : decode prog_2_method_6_code 40 = .ok (.iaload, 1) := by decide +kernel
theorem dd_Chart_scan_41 : decode prog_2_method_6_code 41 = .ok (.ifCond .eq 43, 3) := by decide +kernel
theorem dd_Chart_scan_44 : decode prog_2_method_6_code 44 = .ok (.aload_n 0, 1) := by decide +kernel
theorem dd_Chart_scan_45 : decode prog_2_method_6_code 45 = .ok (.getfield 21, 3) := by decide +kernel
theorem dd_Chart_scan_48 : decode prog_2_method_6_code 48 = .ok (.getfield 60, 3) := by decide +kernel
theorem dd_Chart_scan_51 : decode prog_2_method_6_code 51 = .ok (.iload 7, 2) := by decide +kernel
theorem dd_Chart_scan_53 : decode prog_2_method_6_code 53 = .ok (.laload, 1) := by decide +kernel
theorem dd_Chart_scan_54 : decode prog_2_method_6_code 54 = .ok (.lload_n 2, 1) := by decide +kernel
theorem dd_Chart_scan_55 : decode prog_2_method_6_code 55 = .ok (.lcmp, 1) := by decide +kernel
theorem dd_Chart_scan_56 : decode prog_2_method_6_code 56 = .ok (.ifCond .ne 28, 3) := by decide +kernel
theorem dd_Chart_scan_59 : decode prog_2_method_6_code 59 = .ok (.aload_n 0, 1) := by decide +kernel
theorem dd_Chart_scan_60 : decode prog_2_method_6_code 60 = .ok (.getfield 9, 3) := by decide +kernel
theorem dd_Chart_scan_63 : decode prog_2_method_6_code 63 = .ok (.iload 5, 2) := by decide +kernel
theorem dd_Chart_scan_65 : decode prog_2_method_6_code 65 = .ok (.iload 7, 2) := by decide +kernel
theorem dd_Chart_scan_67 : decode prog_2_method_6_code 67 = .ok (.iadd, 1) := by decide +kernel
theorem dd_Chart_scan_68 : decode prog_2_method_6_code 68 = .ok (.iconst 1, 1) := by decide +kernel
theorem dd_Chart_scan_69 : decode prog_2_method_6_code 69 = .ok (.iadd, 1) := by decide +kernel
theorem dd_Chart_scan_70 : decode prog_2_method_6_code 70 = .ok (.aload_n 0, 1) := by decide +kernel
theorem dd_Chart_scan_71 : decode prog_2_method_6_code 71 = .ok (.getfield 9, 3) := by decide +kernel
theorem dd_Chart_scan_74 : decode prog_2_method_6_code 74 = .ok (.iload 4, 2) := by decide +kernel
theorem dd_Chart_scan_76 : decode prog_2_method_6_code 76 = .ok (.iload 7, 2) := by decide +kernel
theorem dd_Chart_scan_78 : decode prog_2_method_6_code 78 = .ok (.iadd, 1) := by decide +kernel
theorem dd_Chart_scan_79 : decode prog_2_method_6_code 79 = .ok (.iaload, 1) := by decide +kernel
theorem dd_Chart_scan_80 : decode prog_2_method_6_code 80 = .ok (.iastore, 1) := by decide +kernel
theorem dd_Chart_scan_81 : decode prog_2_method_6_code 81 = .ok (.iconst 1, 1) := by decide +kernel
theorem dd_Chart_scan_82 : decode prog_2_method_6_code 82 = .ok (.istore 6, 2) := by decide +kernel
theorem dd_Chart_scan_84 : decode prog_2_method_6_code 84 = .ok (.iinc 7 1, 3) := by decide +kernel
theorem dd_Chart_scan_87 : decode prog_2_method_6_code 87 = .ok (.goto (-68), 3) := by decide +kernel
theorem dd_Chart_scan_90 : decode prog_2_method_6_code 90 = .ok (.iload 6, 2) := by decide +kernel
theorem dd_Chart_scan_92 : decode prog_2_method_6_code 92 = .ok (.ireturn, 1) := by decide +kernel
theorem dd_Chart_isReached_0 : decode prog_2_method_5_code 0 = .ok (.aload_n 0, 1) := by decide +kernel
theorem dd_Chart_isReached_1 : decode prog_2_method_5_code 1 = .ok (.getfield 9, 3) := by decide +kernel
theorem dd_Chart_isReached_4 : decode prog_2_method_5_code 4 = .ok (.iload_n 2, 1) := by decide +kernel
theorem dd_Chart_isReached_5 : decode prog_2_method_5_code 5 = .ok (.bipush 98, 2) := by decide +kernel
theorem dd_Chart_isReached_7 : decode prog_2_method_5_code 7 = .ok (.imul, 1) := by decide +kernel
theorem dd_Chart_isReached_8 : decode prog_2_method_5_code 8 = .ok (.iload_n 3, 1) := by decide +kernel
theorem dd_Chart_isReached_9 : decode prog_2_method_5_code 9 = .ok (.iadd, 1) := by decide +kernel
theorem dd_Chart_isReached_10 : decode prog_2_method_5_code 10 = .ok (.iaload, 1) := by decide +kernel
theorem dd_Chart_isReached_11 : decode prog_2_method_5_code 11 = .ok (.iload_n 1, 1) := by decide +kernel
theorem dd_Chart_isReached_12 : decode prog_2_method_5_code 12 = .ok (.iushr, 1) := by decide +kernel
theorem dd_Chart_isReached_13 : decode prog_2_method_5_code 13 = .ok (.iconst 1, 1) := by decide +kernel
theorem dd_Chart_isReached_14 : decode prog_2_method_5_code 14 = .ok (.iand, 1) := by decide +kernel
theorem dd_Chart_isReached_15 : decode prog_2_method_5_code 15 = .ok (.ifCond .eq 7, 3) := by decide +kernel
theorem dd_Chart_isReached_18 : decode prog_2_method_5_code 18 = .ok (.iconst 1, 1) := by decide +kernel
theorem dd_Chart_isReached_19 : decode prog_2_method_5_code 19 = .ok (.goto 4, 3) := by decide +kernel
theorem dd_Chart_isReached_22 : decode prog_2_method_5_code 22 = .ok (.iconst 0, 1) := by decide +kernel
theorem dd_Chart_isReached_23 : decode prog_2_method_5_code 23 = .ok (.ireturn, 1) := by decide +kernel
theorem dd_Chart_highestTerm_0 : decode prog_2_method_8_code 0 = .ok (.iconst (-1), 1) := by decide +kernel
theorem dd_Chart_highestTerm_1 : decode prog_2_method_8_code 1 = .ok (.istore_n 3, 1) := by decide +kernel
theorem dd_Chart_highestTerm_2 : decode prog_2_method_8_code 2 = .ok (.iconst 0, 1) := by decide +kernel
theorem dd_Chart_highestTerm_3 : decode prog_2_method_8_code 3 = .ok (.istore 4, 2) := by decide +kernel
theorem dd_Chart_highestTerm_5 : decode prog_2_method_8_code 5 = .ok (.iload 4, 2) := by decide +kernel
theorem dd_Chart_highestTerm_7 : decode prog_2_method_8_code 7 = .ok (.aload_n 0, 1) := by decide +kernel
theorem dd_Chart_highestTerm_8 : decode prog_2_method_8_code 8 = .ok (.getfield 21, 3) := by decide +kernel
theorem dd_Chart_highestTerm_11 : decode prog_2_method_8_code 11 = .ok (.getfield 68, 3) := by decide +kernel
theorem dd_Chart_highestTerm_14 : decode prog_2_method_8_code 14 = .ok (.if_icmp .ge 52, 3) := by decide +kernel
theorem dd_Chart_highestTerm_17 : decode prog_2_method_8_code 17 = .ok (.aload_n 0, 1) := by decide +kernel
theorem dd_Chart_highestTerm_18 : decode prog_2_method_8_code 18 = .ok (.getfield 21, 3) := by decide +kernel
theorem dd_Chart_highestTerm_21 : decode prog_2_method_8_code 21 = .ok (.getfield 72, 3) := by decide +kernel
theorem dd_Chart_highestTerm_24 : decode prog_2_method_8_code 24 = .ok (.iload 4, 2) := by decide +kernel
theorem dd_Chart_highestTerm_26 : decode prog_2_method_8_code 26 = .ok (.iaload, 1) := by decide +kernel
theorem dd_Chart_highestTerm_27 : decode prog_2_method_8_code 27 = .ok (.iload_n 3, 1) := by decide +kernel
theorem dd_Chart_highestTerm_28 : decode prog_2_method_8_code 28 = .ok (.if_icmp .le 32, 3) := by decide +kernel
theorem dd_Chart_highestTerm_31 : decode prog_2_method_8_code 31 = .ok (.aload_n 0, 1) := by decide +kernel
theorem dd_Chart_highestTerm_32 : decode prog_2_method_8_code 32 = .ok (.iload_n 1, 1) := by decide +kernel
theorem dd_Chart_highestTerm_33 : decode prog_2_method_8_code 33 = .ok (.iload_n 2, 1) := by decide +kernel
theorem dd_Chart_highestTerm_34 : decode prog_2_method_8_code 34 = .ok (.aload_n 0, 1) := by decide +kernel
theorem dd_Chart_highestTerm_35 : decode prog_2_method_8_code 35 = .ok (.getfield 21, 3) := by decide +kernel
theorem dd_Chart_highestTerm_38 : decode prog_2_method_8_code 38 = .ok (.iload 4, 2) := by decide +kernel
theorem dd_Chart_highestTerm_40 : decode prog_2_method_8_code 40 = .ok (.invokevirtual 75, 3) := by decide +kernel
theorem dd_Chart_highestTerm_43 : decode prog_2_method_8_code 43 = .ok (.invokevirtual 78, 3) := by decide +kernel
theorem dd_Chart_highestTerm_46 : decode prog_2_method_8_code 46 = .ok (.ifCond .eq 14, 3) := by decide +kernel
theorem dd_Chart_highestTerm_49 : decode prog_2_method_8_code 49 = .ok (.aload_n 0, 1) := by decide +kernel
theorem dd_Chart_highestTerm_50 : decode prog_2_method_8_code 50 = .ok (.getfield 21, 3) := by decide +kernel
theorem dd_Chart_highestTerm_53 : decode prog_2_method_8_code 53 = .ok (.getfield 72, 3) := by decide +kernel
theorem dd_Chart_highestTerm_56 : decode prog_2_method_8_code 56 = .ok (.iload 4, 2) := by decide +kernel
theorem dd_Chart_highestTerm_58 : decode prog_2_method_8_code 58 = .ok (.iaload, 1) := by decide +kernel
theorem dd_Chart_highestTerm_59 : decode prog_2_method_8_code 59 = .ok (.istore_n 3, 1) := by decide +kernel
theorem dd_Chart_highestTerm_60 : decode prog_2_method_8_code 60 = .ok (.iinc 4 1, 3) := by decide +kernel
theorem dd_Chart_highestTerm_63 : decode prog_2_method_8_code 63 = .ok (.goto (-58), 3) := by decide +kernel
theorem dd_Chart_highestTerm_66 : decode prog_2_method_8_code 66 = .ok (.iload_n 3, 1) := by decide +kernel
theorem dd_Chart_highestTerm_67 : decode prog_2_method_8_code 67 = .ok (.ireturn, 1) := by decide +kernel
theorem dd_Chart_fillHoles_0 : decode prog_2_method_9_code 0 = .ok (.iload_n 1, 1) := by decide +kernel
theorem dd_Chart_fillHoles_1 : decode prog_2_method_9_code 1 = .ok (.bipush 98, 2) := by decide +kernel
theorem dd_Chart_fillHoles_3 : decode prog_2_method_9_code 3 = .ok (.imul, 1) := by decide +kernel
theorem dd_Chart_fillHoles_4 : decode prog_2_method_9_code 4 = .ok (.istore 4, 2) := by decide +kernel
theorem dd_Chart_fillHoles_6 : decode prog_2_method_9_code 6 = .ok (.iload_n 2, 1) := by decide +kernel
theorem dd_Chart_fillHoles_7 : decode prog_2_method_9_code 7 = .ok (.bipush 98, 2) := by decide +kernel
theorem dd_Chart_fillHoles_9 : decode prog_2_method_9_code 9 = .ok (.imul, 1) := by decide +kernel
theorem dd_Chart_fillHoles_10 : decode prog_2_method_9_code 10 = .ok (.istore 5, 2) := by decide +kernel
theorem dd_Chart_fillHoles_12 : decode prog_2_method_9_code 12 = .ok (.iconst 0, 1) := by decide +kernel
theorem dd_Chart_fillHoles_13 : decode prog_2_method_9_code 13 = .ok (.istore 6, 2) := by decide +kernel
theorem dd_Chart_fillHoles_15 : decode prog_2_method_9_code 15 = .ok (.iload 6, 2) := by decide +kernel
theorem dd_Chart_fillHoles_17 : decode prog_2_method_9_code 17 = .ok (.aload_n 0, 1) := by decide +kernel
theorem dd_Chart_fillHoles_18 : decode prog_2_method_9_code 18 = .ok (.getfield 21, 3) := by decide +kernel
theorem dd_Chart_fillHoles_21 : decode prog_2_method_9_code 21 = .ok (.invokevirtual 54, 3) := by decide +kernel
theorem dd_Chart_fillHoles_24 : decode prog_2_method_9_code 24 = .ok (.if_icmp .ge 58, 3) := by decide +kernel
theorem dd_Chart_fillHoles_27 : decode prog_2_method_9_code 27 = .ok (.aload_n 0, 1) := by decide +kernel
theorem dd_Chart_fillHoles_28 : decode prog_2_method_9_code 28 = .ok (.getfield 21, 3) := by decide +kernel
theorem dd_Chart_fillHoles_31 : decode prog_2_method_9_code 31 = .ok (.getfield 82, 3) := by decide +kernel
theorem dd_Chart_fillHoles_34 : decode prog_2_method_9_code 34 = .ok (.iload 6, 2) := by decide +kernel
theorem dd_Chart_fillHoles_36 : decode prog_2_method_9_code 36 = .ok (.iaload, 1) := by decide +kernel
theorem dd_Chart_fillHoles_37 : decode prog_2_method_9_code 37 = .ok (.istore 7, 2) := by decide +kernel
theorem dd_Chart_fillHoles_39 : decode prog_2_method_9_code 39 = .ok (.iload 7, 2) := by decide +kernel
theorem dd_Chart_fillHoles_41 : decode prog_2_method_9_code 41 = .ok (.iconst (-1), 1) := by decide +kernel
theorem dd_Chart_fillHoles_42 : decode prog_2_method_9_code 42 = .ok (.if_icmp .eq 34, 3) := by decide +kernel
theorem dd_Chart_fillHoles_45 : decode prog_2_method_9_code 45 = .ok (.iload 7, 2) := by decide +kernel
theorem dd_Chart_fillHoles_47 : decode prog_2_method_9_code 47 = .ok (.iload_n 3, 1) := by decide +kernel
theorem dd_Chart_fillHoles_48 : decode prog_2_method_9_code 48 = .ok (.if_icmp .gt 28, 3) := by decide +kernel
theorem dd_Chart_fillHoles_51 : decode prog_2_method_9_code 51 = .ok (.aload_n 0, 1) := by decide +kernel
theorem dd_Chart_fillHoles_52 : decode prog_2_method_9_code 52 = .ok (.getfield 9, 3) := by decide +kernel
theorem dd_Chart_fillHoles_55 : decode prog_2_method_9_code 55 = .ok (.iload 5, 2) := by decide +kernel
theorem dd_Chart_fillHoles_57 : decode prog_2_method_9_code 57 = .ok (.iload 6, 2) := by decide +kernel
theorem dd_Chart_fillHoles_59 : decode prog_2_method_9_code 59 = .ok (.iadd, 1) := by decide +kernel
theorem dd_Chart_fillHoles_60 : decode prog_2_method_9_code 60 = .ok (.iconst 1, 1) := by decide +kernel
theorem dd_Chart_fillHoles_61 : decode prog_2_method_9_code 61 = .ok (.iadd, 1) := by decide +kernel
theorem dd_Chart_fillHoles_62 : decode prog_2_method_9_code 62 = .ok (.dup2, 1) := by decide +kernel
theorem dd_Chart_fillHoles_63 : decode prog_2_method_9_code 63 = .ok (.iaload, 1) := by decide +kernel
theorem dd_Chart_fillHoles_64 : decode prog_2_method_9_code 64 = .ok (.aload_n 0, 1) := by decide +kernel
theorem dd_Chart_fillHoles_65 : decode prog_2_method_9_code 65 = .ok (.getfield 9, 3) := by decide +kernel
theorem dd_Chart_fillHoles_68 : decode prog_2_method_9_code 68 = .ok (.iload 4, 2) := by decide +kernel
theorem dd_Chart_fillHoles_70 : decode prog_2_method_9_code 70 = .ok (.iload 6, 2) := by decide +kernel
theorem dd_Chart_fillHoles_72 : decode prog_2_method_9_code 72 = .ok (.iadd, 1) := by decide +kernel
theorem dd_Chart_fillHoles_73 : decode prog_2_method_9_code 73 = .ok (.iaload, 1) := by decide +kernel
theorem dd_Chart_fillHoles_74 : decode prog_2_method_9_code 74 = .ok (.ior, 1) := by decide +kernel
theorem dd_Chart_fillHoles_75 : decode prog_2_method_9_code 75 = .ok (.iastore, 1) := by decide +kernel
theorem dd_Chart_fillHoles_76 : decode prog_2_method_9_code 76 = .ok (.iinc 6 1, 3) := by decide +kernel
theorem dd_Chart_fillHoles_79 : decode prog_2_method_9_code 79 = .ok (.goto (-64), 3) := by decide +kernel
theorem dd_Chart_fillHoles_82 : decode prog_2_method_9_code 82 = .ok (.return_, 1) := by decide +kernel
theorem dd_Chart_complete_0 : decode prog_2_method_7_code 0 = .ok (.iload_n 1, 1) := by decide +kernel
theorem dd_Chart_complete_1 : decode prog_2_method_7_code 1 = .ok (.iconst 1, 1) := by decide +kernel
theorem dd_Chart_complete_2 : decode prog_2_method_7_code 2 = .ok (.isub, 1) := by decide +kernel
theorem dd_Chart_complete_3 : decode prog_2_method_7_code 3 = .ok (.istore_n 2, 1) := by decide +kernel
theorem dd_Chart_complete_4 : decode prog_2_method_7_code 4 = .ok (.iload_n 2, 1) := by decide +kernel
theorem dd_Chart_complete_5 : decode prog_2_method_7_code 5 = .ok (.ifCond .lt 28, 3) := by decide +kernel
theorem dd_Chart_complete_8 : decode prog_2_method_7_code 8 = .ok (.aload_n 0, 1) := by decide +kernel
theorem dd_Chart_complete_9 : decode prog_2_method_7_code 9 = .ok (.iload_n 2, 1) := by decide +kernel
theorem dd_Chart_complete_10 : decode prog_2_method_7_code 10 = .ok (.iload_n 1, 1) := by decide +kernel
theorem dd_Chart_complete_11 : decode prog_2_method_7_code 11 = .ok (.invokevirtual 44, 3) := by decide +kernel
theorem dd_Chart_complete_14 : decode prog_2_method_7_code 14 = .ok (.istore_n 3, 1) := by decide +kernel
theorem dd_Chart_complete_15 : decode prog_2_method_7_code 15 = .ok (.iload_n 3, 1) := by decide +kernel
theorem dd_Chart_complete_16 : decode prog_2_method_7_code 16 = .ok (.iconst (-1), 1) := by decide +kernel
theorem dd_Chart_complete_17 : decode prog_2_method_7_code 17 = .ok (.if_icmp .eq 10, 3) := by decide +kernel
theorem dd_Chart_complete_20 : decode prog_2_method_7_code 20 = .ok (.aload_n 0, 1) := by decide +kernel
theorem dd_Chart_complete_21 : decode prog_2_method_7_code 21 = .ok (.iload_n 2, 1) := by decide +kernel
theorem dd_Chart_complete_22 : decode prog_2_method_7_code 22 = .ok (.iload_n 1, 1) := by decide +kernel
theorem dd_Chart_complete_23 : decode prog_2_method_7_code 23 = .ok (.iload_n 3, 1) := by decide +kernel
theorem dd_Chart_complete_24 : decode prog_2_method_7_code 24 = .ok (.invokevirtual 64, 3) := by decide +kernel
theorem dd_Chart_complete_27 : decode prog_2_method_7_code 27 = .ok (.iinc 2 (-1), 3) := by decide +kernel
theorem dd_Chart_complete_30 : decode prog_2_method_7_code 30 = .ok (.goto (-26), 3) := by decide +kernel
theorem dd_Chart_complete_33 : decode prog_2_method_7_code 33 = .ok (.return_, 1) := by decide +kernel
theorem dd_Chart_leastWanted_0 : decode prog_2_method_10_code 0 = .ok (.bipush 11, 2) := by decide +kernel
theorem dd_Chart_leastWanted_2 : decode prog_2_method_10_code 2 = .ok (.istore_n 2, 1) := by decide +kernel
theorem dd_Chart_leastWanted_3 : decode prog_2_method_10_code 3 = .ok (.iconst 0, 1) := by decide +kernel
theorem dd_Chart_leastWanted_4 : decode prog_2_method_10_code 4 = .ok (.istore_n 3, 1) := by decide +kernel
theorem dd_Chart_leastWanted_5 : decode prog_2_method_10_code 5 = .ok (.iload_n 3, 1) := by decide +kernel
theorem dd_Chart_leastWanted_6 : decode prog_2_method_10_code 6 = .ok (.aload_n 0, 1) := by decide +kernel
theorem dd_Chart_leastWanted_7 : decode prog_2_method_10_code 7 = .ok (.getfield 21, 3) := by decide +kernel
theorem dd_Chart_leastWanted_10 : decode prog_2_method_10_code 10 = .ok (.invokevirtual 54, 3) := by decide +kernel
theorem dd_Chart_leastWanted_13 : decode prog_2_method_10_code 13 = .ok (.if_icmp .ge 49, 3) := by decide +kernel
theorem dd_Chart_leastWanted_16 : decode prog_2_method_10_code 16 = .ok (.aload_n 0, 1) := by decide +kernel
theorem dd_Chart_leastWanted_17 : decode prog_2_method_10_code 17 = .ok (.getfield 21, 3) := by decide +kernel
theorem dd_Chart_leastWanted_20 : decode prog_2_method_10_code 20 = .ok (.getfield 82, 3) := by decide +kernel
theorem dd_Chart_leastWanted_23 : decode prog_2_method_10_code 23 = .ok (.iload_n 3, 1) := by decide +kernel
theorem dd_Chart_leastWanted_24 : decode prog_2_method_10_code 24 = .ok (.iaload, 1) := by decide +kernel
theorem dd_Chart_leastWanted_25 : decode prog_2_method_10_code 25 = .ok (.istore 4, 2) := by decide +kernel
theorem dd_Chart_leastWanted_27 : decode prog_2_method_10_code 27 = .ok (.iload 4, 2) := by decide +kernel
theorem dd_Chart_leastWanted_29 : decode prog_2_method_10_code 29 = .ok (.iconst (-1), 1) := by decide +kernel
theorem dd_Chart_leastWanted_30 : decode prog_2_method_10_code 30 = .ok (.if_icmp .eq 26, 3) := by decide +kernel
theorem dd_Chart_leastWanted_33 : decode prog_2_method_10_code 33 = .ok (.iload 4, 2) := by decide +kernel
theorem dd_Chart_leastWanted_35 : decode prog_2_method_10_code 35 = .ok (.iload_n 2, 1) := by decide +kernel
theorem dd_Chart_leastWanted_36 : decode prog_2_method_10_code 36 = .ok (.if_icmp .ge 20, 3) := by decide +kernel
theorem dd_Chart_leastWanted_39 : decode prog_2_method_10_code 39 = .ok (.aload_n 0, 1) := by decide +kernel
theorem dd_Chart_leastWanted_40 : decode prog_2_method_10_code 40 = .ok (.getfield 9, 3) := by decide +kernel
theorem dd_Chart_leastWanted_43 : decode prog_2_method_10_code 43 = .ok (.iload_n 1, 1) := by decide +kernel
theorem dd_Chart_leastWanted_44 : decode prog_2_method_10_code 44 = .ok (.bipush 98, 2) := by decide +kernel
theorem dd_Chart_leastWanted_46 : decode prog_2_method_10_code 46 = .ok (.imul, 1) := by decide +kernel
theorem dd_Chart_leastWanted_47 : decode prog_2_method_10_code 47 = .ok (.iload_n 3, 1) := by decide +kernel
theorem dd_Chart_leastWanted_48 : decode prog_2_method_10_code 48 = .ok (.iadd, 1) := by decide +kernel
theorem dd_Chart_leastWanted_49 : decode prog_2_method_10_code 49 = .ok (.iaload, 1) := by decide +kernel
theorem dd_Chart_leastWanted_50 : decode prog_2_method_10_code 50 = .ok (.ifCond .eq 6, 3) := by decide +kernel
theorem dd_Chart_leastWanted_53 : decode prog_2_method_10_code 53 = .ok (.iload 4, 2) := by decide +kernel
theorem dd_Chart_leastWanted_55 : decode prog_2_method_10_code 55 = .ok (.istore_n 2, 1) := by decide +kernel
theorem dd_Chart_leastWanted_56 : decode prog_2_method_10_code 56 = .ok (.iinc 3 1, 3) := by decide +kernel
theorem dd_Chart_leastWanted_59 : decode prog_2_method_10_code 59 = .ok (.goto (-54), 3) := by decide +kernel
theorem dd_Chart_leastWanted_62 : decode prog_2_method_10_code 62 = .ok (.iload_n 2, 1) := by decide +kernel
theorem dd_Chart_leastWanted_63 : decode prog_2_method_10_code 63 = .ok (.ireturn, 1) := by decide +kernel
theorem dd_Chart_leastFirstHole_0 : decode prog_2_method_12_code 0 = .ok (.iload_n 1, 1) := by decide +kernel
theorem dd_Chart_leastFirstHole_1 : decode prog_2_method_12_code 1 = .ok (.istore_n 2, 1) := by decide +kernel
theorem dd_Chart_leastFirstHole_2 : decode prog_2_method_12_code 2 = .ok (.iconst 2, 1) := by decide +kernel
theorem dd_Chart_leastFirstHole_3 : decode prog_2_method_12_code 3 = .ok (.istore_n 3, 1) := by decide +kernel
theorem dd_Chart_leastFirstHole_4 : decode prog_2_method_12_code 4 = .ok (.iload_n 3, 1) := by decide +kernel
theorem dd_Chart_leastFirstHole_5 : decode prog_2_method_12_code 5 = .ok (.aload_n 0, 1) := by decide +kernel
theorem dd_Chart_leastFirstHole_6 : decode prog_2_method_12_code 6 = .ok (.getfield 21, 3) := by decide +kernel
theorem dd_Chart_leastFirstHole_9 : decode prog_2_method_12_code 9 = .ok (.getfield 68, 3) := by decide +kernel
theorem dd_Chart_leastFirstHole_12 : decode prog_2_method_12_code 12 = .ok (.if_icmp .ge 51, 3) := by decide +kernel
theorem dd_Chart_leastFirstHole_15 : decode prog_2_method_12_code 15 = .ok (.aload_n 0, 1) := by decide +kernel
theorem dd_Chart_leastFirstHole_16 : decode prog_2_method_12_code 16 = .ok (.getfield 21, 3) := by decide +kernel
theorem dd_Chart_leastFirstHole_19 : decode prog_2_method_12_code 19 = .ok (.getfield 82, 3) := by decide +kernel
theorem dd_Chart_leastFirstHole_22 : decode prog_2_method_12_code 22 = .ok (.iload_n 3, 1) := by decide +kernel
theorem dd_Chart_leastFirstHole_23 : decode prog_2_method_12_code 23 = .ok (.bipush 7, 2) := by decide +kernel
theorem dd_Chart_leastFirstHole_25 : decode prog_2_method_12_code 25 = .ok (.imul, 1) := by decide +kernel
theorem dd_Chart_leastFirstHole_26 : decode prog_2_method_12_code 26 = .ok (.iaload, 1) := by decide +kernel
theorem dd_Chart_leastFirstHole_27 : decode prog_2_method_12_code 27 = .ok (.istore 4, 2) := by decide +kernel
theorem dd_Chart_leastFirstHole_29 : decode prog_2_method_12_code 29 = .ok (.aload_n 0, 1) := by decide +kernel
theorem dd_Chart_leastFirstHole_30 : decode prog_2_method_12_code 30 = .ok (.getfield 21, 3) := by decide +kernel
theorem dd_Chart_leastFirstHole_33 : decode prog_2_method_12_code 33 = .ok (.getfield 72, 3) := by decide +kernel
theorem dd_Chart_leastFirstHole_36 : decode prog_2_method_12_code 36 = .ok (.iload_n 3, 1) := by decide +kernel
theorem dd_Chart_leastFirstHole_37 : decode prog_2_method_12_code 37 = .ok (.iaload, 1) := by decide +kernel
theorem dd_Chart_leastFirstHole_38 : decode prog_2_method_12_code 38 = .ok (.iload_n 1, 1) := by decide +kernel
theorem dd_Chart_leastFirstHole_39 : decode prog_2_method_12_code 39 = .ok (.if_icmp .lt 18, 3) := by decide +kernel
theorem dd_Chart_leastFirstHole_42 : decode prog_2_method_12_code 42 = .ok (.iload 4, 2) := by decide +kernel
theorem dd_Chart_leastFirstHole_44 : decode prog_2_method_12_code 44 = .ok (.iconst (-1), 1) := by decide +kernel
theorem dd_Chart_leastFirstHole_45 : decode prog_2_method_12_code 45 = .ok (.if_icmp .eq 12, 3) := by decide +kernel
theorem dd_Chart_leastFirstHole_48 : decode prog_2_method_12_code 48 = .ok (.iload 4, 2) := by decide +kernel
theorem dd_Chart_leastFirstHole_50 : decode prog_2_method_12_code 50 = .ok (.iload_n 2, 1) := by decide +kernel
theorem dd_Chart_leastFirstHole_51 : decode prog_2_method_12_code 51 = .ok (.if_icmp .ge 6, 3) := by decide +kernel
theorem dd_Chart_leastFirstHole_54 : decode prog_2_method_12_code 54 = .ok (.iload 4, 2) := by decide +kernel
theorem dd_Chart_leastFirstHole_56 : decode prog_2_method_12_code 56 = .ok (.istore_n 2, 1) := by decide +kernel
theorem dd_Chart_leastFirstHole_57 : decode prog_2_method_12_code 57 = .ok (.iinc 3 1, 3) := by decide +kernel
theorem dd_Chart_leastFirstHole_60 : decode prog_2_method_12_code 60 = .ok (.goto (-56), 3) := by decide +kernel
theorem dd_Chart_leastFirstHole_63 : decode prog_2_method_12_code 63 = .ok (.iload_n 2, 1) := by decide +kernel
theorem dd_Chart_leastFirstHole_64 : decode prog_2_method_12_code 64 = .ok (.ireturn, 1) := by decide +kernel
theorem dd_Chart_predict_0 : decode prog_2_method_11_code 0 = .ok (.iload_n 2, 1) := by decide +kernel
theorem dd_Chart_predict_1 : decode prog_2_method_11_code 1 = .ok (.istore_n 3, 1) := by decide +kernel
theorem dd_Chart_predict_2 : decode prog_2_method_11_code 2 = .ok (.iconst 1, 1) := by decide +kernel
theorem dd_Chart_predict_3 : decode prog_2_method_11_code 3 = .ok (.istore 4, 2) := by decide +kernel
theorem dd_Chart_predict_5 : decode prog_2_method_11_code 5 = .ok (.iconst 0, 1) := by decide +kernel
theorem dd_Chart_predict_6 : decode prog_2_method_11_code 6 = .ok (.istore 5, 2) := by decide +kernel
theorem dd_Chart_predict_8 : decode prog_2_method_11_code 8 = .ok (.iload 5, 2) := by decide +kernel
theorem dd_Chart_predict_10 : decode prog_2_method_11_code 10 = .ok (.bipush 10, 2) := by decide +kernel
theorem dd_Chart_predict_12 : decode prog_2_method_11_code 12 = .ok (.if_icmp .gt 37, 3) := by decide +kernel
theorem dd_Chart_predict_15 : decode prog_2_method_11_code 15 = .ok (.iload 4, 2) := by decide +kernel
theorem dd_Chart_predict_17 : decode prog_2_method_11_code 17 = .ok (.ifCond .eq 32, 3) := by decide +kernel
theorem dd_Chart_predict_20 : decode prog_2_method_11_code 20 = .ok (.iload_n 3, 1) := by decide +kernel
theorem dd_Chart_predict_21 : decode prog_2_method_11_code 21 = .ok (.istore 6, 2) := by decide +kernel
theorem dd_Chart_predict_23 : decode prog_2_method_11_code 23 = .ok (.aload_n 0, 1) := by decide +kernel
theorem dd_Chart_predict_24 : decode prog_2_method_11_code 24 = .ok (.iload 6, 2) := by decide +kernel
theorem dd_Chart_predict_26 : decode prog_2_method_11_code 26 = .ok (.invokevirtual 85, 3) := by decide +kernel
theorem dd_Chart_predict_29 : decode prog_2_method_11_code 29 = .ok (.istore_n 3, 1) := by decide +kernel
theorem dd_Chart_predict_30 : decode prog_2_method_11_code 30 = .ok (.iload_n 3, 1) := by decide +kernel
theorem dd_Chart_predict_31 : decode prog_2_method_11_code 31 = .ok (.iload 6, 2) := by decide +kernel
theorem dd_Chart_predict_33 : decode prog_2_method_11_code 33 = .ok (.if_icmp .ge 7, 3) := by decide +kernel
theorem dd_Chart_predict_36 : decode prog_2_method_11_code 36 = .ok (.iconst 1, 1) := by decide +kernel
theorem dd_Chart_predict_37 : decode prog_2_method_11_code 37 = .ok (.goto 4, 3) := by decide +kernel
theorem dd_Chart_predict_40 : decode prog_2_method_11_code 40 = .ok (.iconst 0, 1) := by decide +kernel
theorem dd_Chart_predict_41 : decode prog_2_method_11_code 41 = .ok (.istore 4, 2) := by decide +kernel
theorem dd_Chart_predict_43 : decode prog_2_method_11_code 43 = .ok (.iinc 5 1, 3) := by decide +kernel
theorem dd_Chart_predict_46 : decode prog_2_method_11_code 46 = .ok (.goto (-38), 3) := by decide +kernel
theorem dd_Chart_predict_49 : decode prog_2_method_11_code 49 = .ok (.iconst 0, 1) := by decide +kernel
theorem dd_Chart_predict_50 : decode prog_2_method_11_code 50 = .ok (.istore 5, 2) := by decide +kernel
theorem dd_Chart_predict_52 : decode prog_2_method_11_code 52 = .ok (.iload 5, 2) := by decide +kernel
theorem dd_Chart_predict_54 : decode prog_2_method_11_code 54 = .ok (.aload_n 0, 1) := by decide +kernel
theorem dd_Chart_predict_55 : decode prog_2_method_11_code 55 = .ok (.getfield 21, 3) := by decide +kernel
theorem dd_Chart_predict_58 : decode prog_2_method_11_code 58 = .ok (.getfield 68, 3) := by decide +kernel
theorem dd_Chart_predict_61 : decode prog_2_method_11_code 61 = .ok (.if_icmp .ge 41, 3) := by decide +kernel
theorem dd_Chart_predict_64 : decode prog_2_method_11_code 64 = .ok (.aload_n 0, 1) := by decide +kernel
theorem dd_Chart_predict_65 : decode prog_2_method_11_code 65 = .ok (.getfield 21, 3) := by decide +kernel
theorem dd_Chart_predict_68 : decode prog_2_method_11_code 68 = .ok (.getfield 72, 3) := by decide +kernel
theorem dd_Chart_predict_71 : decode prog_2_method_11_code 71 = .ok (.iload 5, 2) := by decide +kernel
theorem dd_Chart_predict_73 : decode prog_2_method_11_code 73 = .ok (.iaload, 1) := by decide +kernel
theorem dd_Chart_predict_74 : decode prog_2_method_11_code 74 = .ok (.iload_n 3, 1) := by decide +kernel
theorem dd_Chart_predict_75 : decode prog_2_method_11_code 75 = .ok (.if_icmp .lt 21, 3) := by decide +kernel
theorem dd_Chart_predict_78 : decode prog_2_method_11_code 78 = .ok (.aload_n 0, 1) := by decide +kernel
theorem dd_Chart_predict_79 : decode prog_2_method_11_code 79 = .ok (.getfield 9, 3) := by decide +kernel
theorem dd_Chart_predict_82 : decode prog_2_method_11_code 82 = .ok (.iload_n 1, 1) := by decide +kernel
theorem dd_Chart_predict_83 : decode prog_2_method_11_code 83 = .ok (.bipush 98, 2) := by decide +kernel
theorem dd_Chart_predict_85 : decode prog_2_method_11_code 85 = .ok (.imul, 1) := by decide +kernel
theorem dd_Chart_predict_86 : decode prog_2_method_11_code 86 = .ok (.iload 5, 2) := by decide +kernel
theorem dd_Chart_predict_88 : decode prog_2_method_11_code 88 = .ok (.bipush 7, 2) := by decide +kernel
theorem dd_Chart_predict_90 : decode prog_2_method_11_code 90 = .ok (.imul, 1) := by decide +kernel
theorem dd_Chart_predict_91 : decode prog_2_method_11_code 91 = .ok (.iadd, 1) := by decide +kernel
theorem dd_Chart_predict_92 : decode prog_2_method_11_code 92 = .ok (.iconst 1, 1) := by decide +kernel
theorem dd_Chart_predict_93 : decode prog_2_method_11_code 93 = .ok (.iload_n 1, 1) := by decide +kernel
theorem dd_Chart_predict_94 : decode prog_2_method_11_code 94 = .ok (.ishl, 1) := by decide +kernel
theorem dd_Chart_predict_95 : decode prog_2_method_11_code 95 = .ok (.iastore, 1) := by decide +kernel
theorem dd_Chart_predict_96 : decode prog_2_method_11_code 96 = .ok (.iinc 5 1, 3) := by decide +kernel
theorem dd_Chart_predict_99 : decode prog_2_method_11_code 99 = .ok (.goto (-47), 3) := by decide +kernel
theorem dd_Chart_predict_102 : decode prog_2_method_11_code 102 = .ok (.return_, 1) := by decide +kernel
theorem dd_Chart_follow_0 : decode prog_2_method_2_code 0 = .ok (.aload_n 0, 1) := by decide +kernel
theorem dd_Chart_follow_1 : decode prog_2_method_2_code 1 = .ok (.iconst 0, 1) := by decide +kernel
theorem dd_Chart_follow_2 : decode prog_2_method_2_code 2 = .ok (.invokevirtual 25, 3) := by decide +kernel
theorem dd_Chart_follow_5 : decode prog_2_method_2_code 5 = .ok (.aload_n 0, 1) := by decide +kernel
theorem dd_Chart_follow_6 : decode prog_2_method_2_code 6 = .ok (.iconst 0, 1) := by decide +kernel
theorem dd_Chart_follow_7 : decode prog_2_method_2_code 7 = .ok (.iconst 0, 1) := by decide +kernel
theorem dd_Chart_follow_8 : decode prog_2_method_2_code 8 = .ok (.invokevirtual 29, 3) := by decide +kernel
theorem dd_Chart_follow_11 : decode prog_2_method_2_code 11 = .ok (.iconst 0, 1) := by decide +kernel
theorem dd_Chart_follow_12 : decode prog_2_method_2_code 12 = .ok (.istore_n 3, 1) := by decide +kernel
theorem dd_Chart_follow_13 : decode prog_2_method_2_code 13 = .ok (.iload_n 3, 1) := by decide +kernel
theorem dd_Chart_follow_14 : decode prog_2_method_2_code 14 = .ok (.iload_n 2, 1) := by decide +kernel
theorem dd_Chart_follow_15 : decode prog_2_method_2_code 15 = .ok (.if_icmp .ge 50, 3) := by decide +kernel
theorem dd_Chart_follow_18 : decode prog_2_method_2_code 18 = .ok (.aload_n 0, 1) := by decide +kernel
theorem dd_Chart_follow_19 : decode prog_2_method_2_code 19 = .ok (.iload_n 3, 1) := by decide +kernel
theorem dd_Chart_follow_20 : decode prog_2_method_2_code 20 = .ok (.iconst 1, 1) := by decide +kernel
theorem dd_Chart_follow_21 : decode prog_2_method_2_code 21 = .ok (.iadd, 1) := by decide +kernel
theorem dd_Chart_follow_22 : decode prog_2_method_2_code 22 = .ok (.invokevirtual 25, 3) := by decide +kernel
theorem dd_Chart_follow_25 : decode prog_2_method_2_code 25 = .ok (.aload_n 0, 1) := by decide +kernel
theorem dd_Chart_follow_26 : decode prog_2_method_2_code 26 = .ok (.iload_n 3, 1) := by decide +kernel
theorem dd_Chart_follow_27 : decode prog_2_method_2_code 27 = .ok (.aload_n 1, 1) := by decide +kernel
theorem dd_Chart_follow_28 : decode prog_2_method_2_code 28 = .ok (.iload_n 3, 1) := by decide +kernel
theorem dd_Chart_follow_29 : decode prog_2_method_2_code 29 = .ok (.laload, 1) := by decide +kernel
theorem dd_Chart_follow_30 : decode prog_2_method_2_code 30 = .ok (.invokevirtual 33, 3) := by decide +kernel
theorem dd_Chart_follow_33 : decode prog_2_method_2_code 33 = .ok (.ifCond .ne 5, 3) := by decide +kernel
theorem dd_Chart_follow_36 : decode prog_2_method_2_code 36 = .ok (.iload_n 3, 1) := by decide +kernel
theorem dd_Chart_follow_37 : decode prog_2_method_2_code 37 = .ok (.ireturn, 1) := by decide +kernel
theorem dd_Chart_follow_38 : decode prog_2_method_2_code 38 = .ok (.aload_n 0, 1) := by decide +kernel
theorem dd_Chart_follow_39 : decode prog_2_method_2_code 39 = .ok (.iload_n 3, 1) := by decide +kernel
theorem dd_Chart_follow_40 : decode prog_2_method_2_code 40 = .ok (.iconst 1, 1) := by decide +kernel
theorem dd_Chart_follow_41 : decode prog_2_method_2_code 41 = .ok (.iadd, 1) := by decide +kernel
theorem dd_Chart_follow_42 : decode prog_2_method_2_code 42 = .ok (.invokevirtual 37, 3) := by decide +kernel
theorem dd_Chart_follow_45 : decode prog_2_method_2_code 45 = .ok (.aload_n 0, 1) := by decide +kernel
theorem dd_Chart_follow_46 : decode prog_2_method_2_code 46 = .ok (.iload_n 3, 1) := by decide +kernel
theorem dd_Chart_follow_47 : decode prog_2_method_2_code 47 = .ok (.iconst 1, 1) := by decide +kernel
theorem dd_Chart_follow_48 : decode prog_2_method_2_code 48 = .ok (.iadd, 1) := by decide +kernel
theorem dd_Chart_follow_49 : decode prog_2_method_2_code 49 = .ok (.aload_n 0, 1) := by decide +kernel
theorem dd_Chart_follow_50 : decode prog_2_method_2_code 50 = .ok (.iload_n 3, 1) := by decide +kernel
theorem dd_Chart_follow_51 : decode prog_2_method_2_code 51 = .ok (.iconst 1, 1) := by decide +kernel
theorem dd_Chart_follow_52 : decode prog_2_method_2_code 52 = .ok (.iadd, 1) := by decide +kernel
theorem dd_Chart_follow_53 : decode prog_2_method_2_code 53 = .ok (.invokevirtual 40, 3) := by decide +kernel
theorem dd_Chart_follow_56 : decode prog_2_method_2_code 56 = .ok (.invokevirtual 29, 3) := by decide +kernel
theorem dd_Chart_follow_59 : decode prog_2_method_2_code 59 = .ok (.iinc 3 1, 3) := by decide +kernel
theorem dd_Chart_follow_62 : decode prog_2_method_2_code 62 = .ok (.goto (-49), 3) := by decide +kernel
theorem dd_Chart_follow_65 : decode prog_2_method_2_code 65 = .ok (.iload_n 2, 1) := by decide +kernel
theorem dd_Chart_follow_66 : decode prog_2_method_2_code 66 = .ok (.ireturn, 1) := by decide +kernel
theorem dd_Chart_isWhole_0 : decode prog_2_method_3_code 0 = .ok (.aload_n 0, 1) := by decide +kernel
theorem dd_Chart_isWhole_1 : decode prog_2_method_3_code 1 = .ok (.iconst 0, 1) := by decide +kernel
theorem dd_Chart_isWhole_2 : decode prog_2_method_3_code 2 = .ok (.iload_n 1, 1) := by decide +kernel
theorem dd_Chart_isWhole_3 : decode prog_2_method_3_code 3 = .ok (.invokevirtual 44, 3) := by decide +kernel
theorem dd_Chart_isWhole_6 : decode prog_2_method_3_code 6 = .ok (.iconst (-1), 1) := by decide +kernel
theorem dd_Chart_isWhole_7 : decode prog_2_method_3_code 7 = .ok (.if_icmp .eq 7, 3) := by decide +kernel
theorem dd_Chart_isWhole_10 : decode prog_2_method_3_code 10 = .ok (.iconst 1, 1) := by decide +kernel
theorem dd_Chart_isWhole_11 : decode prog_2_method_3_code 11 = .ok (.goto 4, 3) := by decide +kernel
theorem dd_Chart_isWhole_14 : decode prog_2_method_3_code 14 = .ok (.iconst 0, 1) := by decide +kernel
theorem dd_Chart_isWhole_15 : decode prog_2_method_3_code 15 = .ok (.ireturn, 1) := by decide +kernel
theorem dd_Chart_cell_0 : decode prog_2_method_20_code 0 = .ok (.iload_n 2, 1) := by decide +kernel
theorem dd_Chart_cell_1 : decode prog_2_method_20_code 1 = .ok (.iload_n 2, 1) := by decide +kernel
theorem dd_Chart_cell_2 : decode prog_2_method_20_code 2 = .ok (.iconst 1, 1) := by decide +kernel
theorem dd_Chart_cell_3 : decode prog_2_method_20_code 3 = .ok (.isub, 1) := by decide +kernel
theorem dd_Chart_cell_4 : decode prog_2_method_20_code 4 = .ok (.imul, 1) := by decide +kernel
theorem dd_Chart_cell_5 : decode prog_2_method_20_code 5 = .ok (.iconst 2, 1) := by decide +kernel
theorem dd_Chart_cell_6 : decode prog_2_method_20_code 6 = .ok (.idiv, 1) := by decide +kernel
theorem dd_Chart_cell_7 : decode prog_2_method_20_code 7 = .ok (.iload_n 1, 1) := by decide +kernel
theorem dd_Chart_cell_8 : decode prog_2_method_20_code 8 = .ok (.iadd, 1) := by decide +kernel
theorem dd_Chart_cell_9 : decode prog_2_method_20_code 9 = .ok (.bipush 11, 2) := by decide +kernel
theorem dd_Chart_cell_11 : decode prog_2_method_20_code 11 = .ok (.imul, 1) := by decide +kernel
theorem dd_Chart_cell_12 : decode prog_2_method_20_code 12 = .ok (.iload_n 3, 1) := by decide +kernel
theorem dd_Chart_cell_13 : decode prog_2_method_20_code 13 = .ok (.iadd, 1) := by decide +kernel
theorem dd_Chart_cell_14 : decode prog_2_method_20_code 14 = .ok (.ireturn, 1) := by decide +kernel
theorem dd_Chart_addTrees_0 : decode prog_2_method_18_code 0 = .ok (.aload_n 0, 1) := by decide +kernel
theorem dd_Chart_addTrees_1 : decode prog_2_method_18_code 1 = .ok (.getfield 18, 3) := by decide +kernel
theorem dd_Chart_addTrees_4 : decode prog_2_method_18_code 4 = .ok (.iload_n 1, 1) := by decide +kernel
theorem dd_Chart_addTrees_5 : decode prog_2_method_18_code 5 = .ok (.aload_n 0, 1) := by decide +kernel
theorem dd_Chart_addTrees_6 : decode prog_2_method_18_code 6 = .ok (.getfield 18, 3) := by decide +kernel
theorem dd_Chart_addTrees_9 : decode prog_2_method_18_code 9 = .ok (.iload_n 1, 1) := by decide +kernel
theorem dd_Chart_addTrees_10 : decode prog_2_method_18_code 10 = .ok (.iaload, 1) := by decide +kernel
theorem dd_Chart_addTrees_11 : decode prog_2_method_18_code 11 = .ok (.iload_n 2, 1) := by decide +kernel
theorem dd_Chart_addTrees_12 : decode prog_2_method_18_code 12 = .ok (.iadd, 1) := by decide +kernel
theorem dd_Chart_addTrees_13 : decode prog_2_method_18_code 13 = .ok (.ldc 119, 2) := by decide +kernel
theorem dd_Chart_addTrees_15 : decode prog_2_method_18_code 15 = .ok (.invokestatic 120, 3) := by decide +kernel
theorem dd_Chart_addTrees_18 : decode prog_2_method_18_code 18 = .ok (.iastore, 1) := by decide +kernel
theorem dd_Chart_addTrees_19 : decode prog_2_method_18_code 19 = .ok (.return_, 1) := by decide +kernel
theorem dd_Chart_sumTerms_0 : decode prog_2_method_17_code 0 = .ok (.aload_n 0, 1) := by decide +kernel
theorem dd_Chart_sumTerms_1 : decode prog_2_method_17_code 1 = .ok (.iload_n 1, 1) := by decide +kernel
theorem dd_Chart_sumTerms_2 : decode prog_2_method_17_code 2 = .ok (.iload_n 2, 1) := by decide +kernel
theorem dd_Chart_sumTerms_3 : decode prog_2_method_17_code 3 = .ok (.iconst 0, 1) := by decide +kernel
theorem dd_Chart_sumTerms_4 : decode prog_2_method_17_code 4 = .ok (.invokevirtual 91, 3) := by decide +kernel
theorem dd_Chart_sumTerms_7 : decode prog_2_method_17_code 7 = .ok (.istore_n 3, 1) := by decide +kernel
theorem dd_Chart_sumTerms_8 : decode prog_2_method_17_code 8 = .ok (.iconst 0, 1) := by decide +kernel
theorem dd_Chart_sumTerms_9 : decode prog_2_method_17_code 9 = .ok (.istore 4, 2) := by decide +kernel
theorem dd_Chart_sumTerms_11 : decode prog_2_method_17_code 11 = .ok (.iload 4, 2) := by decide +kernel
theorem dd_Chart_sumTerms_13 : decode prog_2_method_17_code 13 = .ok (.bipush 10, 2) := by decide +kernel
theorem dd_Chart_sumTerms_15 : decode prog_2_method_17_code 15 = .ok (.if_icmp .gt 19, 3) := by decide +kernel
theorem dd_Chart_sumTerms_18 : decode prog_2_method_17_code 18 = .ok (.aload_n 0, 1) := by decide +kernel
theorem dd_Chart_sumTerms_19 : decode prog_2_method_17_code 19 = .ok (.getfield 18, 3) := by decide +kernel
theorem dd_Chart_sumTerms_22 : decode prog_2_method_17_code 22 = .ok (.iload_n 3, 1) := by decide +kernel
theorem dd_Chart_sumTerms_23 : decode prog_2_method_17_code 23 = .ok (.iload 4, 2) := by decide +kernel
theorem dd_Chart_sumTerms_25 : decode prog_2_method_17_code 25 = .ok (.iadd, 1) := by decide +kernel
theorem dd_Chart_sumTerms_26 : decode prog_2_method_17_code 26 = .ok (.iconst 0, 1) := by decide +kernel
theorem dd_Chart_sumTerms_27 : decode prog_2_method_17_code 27 = .ok (.iastore, 1) := by decide +kernel
theorem dd_Chart_sumTerms_28 : decode prog_2_method_17_code 28 = .ok (.iinc 4 1, 3) := by decide +kernel
theorem dd_Chart_sumTerms_31 : decode prog_2_method_17_code 31 = .ok (.goto (-20), 3) := by decide +kernel
theorem dd_Chart_sumTerms_34 : decode prog_2_method_17_code 34 = .ok (.iconst 0, 1) := by decide +kernel
theorem dd_Chart_sumTerms_35 : decode prog_2_method_17_code 35 = .ok (.istore 4, 2) := by decide +kernel
theorem dd_Chart_sumTerms_37 : decode prog_2_method_17_code 37 = .ok (.iload 4, 2) := by decide +kernel
theorem dd_Chart_sumTerms_39 : decode prog_2_method_17_code 39 = .ok (.aload_n 0, 1) := by decide +kernel
theorem dd_Chart_sumTerms_40 : decode prog_2_method_17_code 40 = .ok (.getfield 21, 3) := by decide +kernel
theorem dd_Chart_sumTerms_43 : decode prog_2_method_17_code 43 = .ok (.getfield 68, 3) := by decide +kernel
theorem dd_Chart_sumTerms_46 : decode prog_2_method_17_code 46 = .ok (.if_icmp .ge 59, 3) := by decide +kernel
theorem dd_Chart_sumTerms_49 : decode prog_2_method_17_code 49 = .ok (.aload_n 0, 1) := by decide +kernel
theorem dd_Chart_sumTerms_50 : decode prog_2_method_17_code 50 = .ok (.getfield 21, 3) := by decide +kernel
theorem dd_Chart_sumTerms_53 : decode prog_2_method_17_code 53 = .ok (.iload 4, 2) := by decide +kernel
theorem dd_Chart_sumTerms_55 : decode prog_2_method_17_code 55 = .ok (.invokevirtual 75, 3) := by decide +kernel
theorem dd_Chart_sumTerms_58 : decode prog_2_method_17_code 58 = .ok (.istore 5, 2) := by decide +kernel
theorem dd_Chart_sumTerms_60 : decode prog_2_method_17_code 60 = .ok (.aload_n 0, 1) := by decide +kernel
theorem dd_Chart_sumTerms_61 : decode prog_2_method_17_code 61 = .ok (.iload_n 1, 1) := by decide +kernel
theorem dd_Chart_sumTerms_62 : decode prog_2_method_17_code 62 = .ok (.iload_n 2, 1) := by decide +kernel
theorem dd_Chart_sumTerms_63 : decode prog_2_method_17_code 63 = .ok (.iload 5, 2) := by decide +kernel
theorem dd_Chart_sumTerms_65 : decode prog_2_method_17_code 65 = .ok (.invokevirtual 78, 3) := by decide +kernel
theorem dd_Chart_sumTerms_68 : decode prog_2_method_17_code 68 = .ok (.ifCond .eq 31, 3) := by decide +kernel
theorem dd_Chart_sumTerms_71 : decode prog_2_method_17_code 71 = .ok (.aload_n 0, 1) := by decide +kernel
theorem dd_Chart_sumTerms_72 : decode prog_2_method_17_code 72 = .ok (.iload_n 3, 1) := by decide +kernel
theorem dd_Chart_sumTerms_73 : decode prog_2_method_17_code 73 = .ok (.aload_n 0, 1) := by decide +kernel
theorem dd_Chart_sumTerms_74 : decode prog_2_method_17_code 74 = .ok (.getfield 21, 3) := by decide +kernel
theorem dd_Chart_sumTerms_77 : decode prog_2_method_17_code 77 = .ok (.getfield 72, 3) := by decide +kernel
theorem dd_Chart_sumTerms_80 : decode prog_2_method_17_code 80 = .ok (.iload 4, 2) := by decide +kernel
theorem dd_Chart_sumTerms_82 : decode prog_2_method_17_code 82 = .ok (.iaload, 1) := by decide +kernel
theorem dd_Chart_sumTerms_83 : decode prog_2_method_17_code 83 = .ok (.iadd, 1) := by decide +kernel
theorem dd_Chart_sumTerms_84 : decode prog_2_method_17_code 84 = .ok (.aload_n 0, 1) := by decide +kernel
theorem dd_Chart_sumTerms_85 : decode prog_2_method_17_code 85 = .ok (.getfield 15, 3) := by decide +kernel
theorem dd_Chart_sumTerms_88 : decode prog_2_method_17_code 88 = .ok (.iload_n 2, 1) := by decide +kernel
theorem dd_Chart_sumTerms_89 : decode prog_2_method_17_code 89 = .ok (.bipush 98, 2) := by decide +kernel
theorem dd_Chart_sumTerms_91 : decode prog_2_method_17_code 91 = .ok (.imul, 1) := by decide +kernel
theorem dd_Chart_sumTerms_92 : decode prog_2_method_17_code 92 = .ok (.iload 5, 2) := by decide +kernel
theorem dd_Chart_sumTerms_94 : decode prog_2_method_17_code 94 = .ok (.iadd, 1) := by decide +kernel
theorem dd_Chart_sumTerms_95 : decode prog_2_method_17_code 95 = .ok (.iaload, 1) := by decide +kernel
theorem dd_Chart_sumTerms_96 : decode prog_2_method_17_code 96 = .ok (.invokevirtual 116, 3) := by decide +kernel
theorem dd_Chart_sumTerms_99 : decode prog_2_method_17_code 99 = .ok (.iinc 4 1, 3) := by decide +kernel
theorem dd_Chart_sumTerms_102 : decode prog_2_method_17_code 102 = .ok (.goto (-65), 3) := by decide +kernel
theorem dd_Chart_sumTerms_105 : decode prog_2_method_17_code 105 = .ok (.bipush 9, 2) := by decide +kernel
theorem dd_Chart_sumTerms_107 : decode prog_2_method_17_code 107 = .ok (.istore 4, 2) := by decide +kernel
theorem dd_Chart_sumTerms_109 : decode prog_2_method_17_code 109 = .ok (.iload 4, 2) := by decide +kernel
theorem dd_Chart_sumTerms_111 : decode prog_2_method_17_code 111 = .ok (.ifCond .lt 28, 3) := by decide +kernel
theorem dd_Chart_sumTerms_114 : decode prog_2_method_17_code 114 = .ok (.aload_n 0, 1) := by decide +kernel
theorem dd_Chart_sumTerms_115 : decode prog_2_method_17_code 115 = .ok (.iload_n 3, 1) := by decide +kernel
theorem dd_Chart_sumTerms_116 : decode prog_2_method_17_code 116 = .ok (.iload 4, 2) := by decide +kernel
theorem dd_Chart_sumTerms_118 : decode prog_2_method_17_code 118 = .ok (.iadd, 1) := by decide +kernel
theorem dd_Chart_sumTerms_119 : decode prog_2_method_17_code 119 = .ok (.aload_n 0, 1) := by decide +kernel
theorem dd_Chart_sumTerms_120 : decode prog_2_method_17_code 120 = .ok (.getfield 18, 3) := by decide +kernel
theorem dd_Chart_sumTerms_123 : decode prog_2_method_17_code 123 = .ok (.iload_n 3, 1) := by decide +kernel
theorem dd_Chart_sumTerms_124 : decode prog_2_method_17_code 124 = .ok (.iload 4, 2) := by decide +kernel
theorem dd_Chart_sumTerms_126 : decode prog_2_method_17_code 126 = .ok (.iadd, 1) := by decide +kernel
theorem dd_Chart_sumTerms_127 : decode prog_2_method_17_code 127 = .ok (.iconst 1, 1) := by decide +kernel
theorem dd_Chart_sumTerms_128 : decode prog_2_method_17_code 128 = .ok (.iadd, 1) := by decide +kernel
theorem dd_Chart_sumTerms_129 : decode prog_2_method_17_code 129 = .ok (.iaload, 1) := by decide +kernel
theorem dd_Chart_sumTerms_130 : decode prog_2_method_17_code 130 = .ok (.invokevirtual 116, 3) := by decide +kernel
theorem dd_Chart_sumTerms_133 : decode prog_2_method_17_code 133 = .ok (.iinc 4 (-1), 3) := by decide +kernel
theorem dd_Chart_sumTerms_136 : decode prog_2_method_17_code 136 = .ok (.goto (-27), 3) := by decide +kernel
theorem dd_Chart_sumTerms_139 : decode prog_2_method_17_code 139 = .ok (.return_, 1) := by decide +kernel
theorem dd_Chart_countFirstHoles_0 : decode prog_2_method_19_code 0 = .ok (.iconst 0, 1) := by decide +kernel
theorem dd_Chart_countFirstHoles_1 : decode prog_2_method_19_code 1 = .ok (.istore_n 3, 1) := by decide +kernel
theorem dd_Chart_countFirstHoles_2 : decode prog_2_method_19_code 2 = .ok (.iload_n 3, 1) := by decide +kernel
theorem dd_Chart_countFirstHoles_3 : decode prog_2_method_19_code 3 = .ok (.aload_n 0, 1) := by decide +kernel
theorem dd_Chart_countFirstHoles_4 : decode prog_2_method_19_code 4 = .ok (.getfield 21, 3) := by decide +kernel
theorem dd_Chart_countFirstHoles_7 : decode prog_2_method_19_code 7 = .ok (.getfield 68, 3) := by decide +kernel
theorem dd_Chart_countFirstHoles_10 : decode prog_2_method_19_code 10 = .ok (.if_icmp .ge 60, 3) := by decide +kernel
theorem dd_Chart_countFirstHoles_13 : decode prog_2_method_19_code 13 = .ok (.iload_n 3, 1) := by decide +kernel
theorem dd_Chart_countFirstHoles_14 : decode prog_2_method_19_code 14 = .ok (.bipush 7, 2) := by decide +kernel
theorem dd_Chart_countFirstHoles_16 : decode prog_2_method_19_code 16 = .ok (.imul, 1) := by decide +kernel
theorem dd_Chart_countFirstHoles_17 : decode prog_2_method_19_code 17 = .ok (.istore 4, 2) := by decide +kernel
theorem dd_Chart_countFirstHoles_19 : decode prog_2_method_19_code 19 = .ok (.aload_n 0, 1) := by decide +kernel
theorem dd_Chart_countFirstHoles_20 : decode prog_2_method_19_code 20 = .ok (.getfield 21, 3) := by decide +kernel
theorem dd_Chart_countFirstHoles_23 : decode prog_2_method_19_code 23 = .ok (.getfield 82, 3) := by decide +kernel
theorem dd_Chart_countFirstHoles_26 : decode prog_2_method_19_code 26 = .ok (.iload 4, 2) := by decide +kernel
theorem dd_Chart_countFirstHoles_28 : decode prog_2_method_19_code 28 = .ok (.iaload, 1) := by decide +kernel
theorem dd_Chart_countFirstHoles_29 : decode prog_2_method_19_code 29 = .ok (.istore 5, 2) := by decide +kernel
theorem dd_Chart_countFirstHoles_31 : decode prog_2_method_19_code 31 = .ok (.iload 5, 2) := by decide +kernel
theorem dd_Chart_countFirstHoles_33 : decode prog_2_method_19_code 33 = .ok (.iconst (-1), 1) := by decide +kernel
theorem dd_Chart_countFirstHoles_34 : decode prog_2_method_19_code 34 = .ok (.if_icmp .eq 30, 3) := by decide +kernel
theorem dd_Chart_countFirstHoles_37 : decode prog_2_method_19_code 37 = .ok (.aload_n 0, 1) := by decide +kernel
theorem dd_Chart_countFirstHoles_38 : decode prog_2_method_19_code 38 = .ok (.getfield 15, 3) := by decide +kernel
theorem dd_Chart_countFirstHoles_41 : decode prog_2_method_19_code 41 = .ok (.iload_n 2, 1) := by decide +kernel
theorem dd_Chart_countFirstHoles_42 : decode prog_2_method_19_code 42 = .ok (.bipush 98, 2) := by decide +kernel
theorem dd_Chart_countFirstHoles_44 : decode prog_2_method_19_code 44 = .ok (.imul, 1) := by decide +kernel
theorem dd_Chart_countFirstHoles_45 : decode prog_2_method_19_code 45 = .ok (.iload 4, 2) := by decide +kernel
theorem dd_Chart_countFirstHoles_47 : decode prog_2_method_19_code 47 = .ok (.iadd, 1) := by decide +kernel
theorem dd_Chart_countFirstHoles_48 : decode prog_2_method_19_code 48 = .ok (.iconst 1, 1) := by decide +kernel
theorem dd_Chart_countFirstHoles_49 : decode prog_2_method_19_code 49 = .ok (.iadd, 1) := by decide +kernel
theorem dd_Chart_countFirstHoles_50 : decode prog_2_method_19_code 50 = .ok (.aload_n 0, 1) := by decide +kernel
theorem dd_Chart_countFirstHoles_51 : decode prog_2_method_19_code 51 = .ok (.getfield 18, 3) := by decide +kernel
theorem dd_Chart_countFirstHoles_54 : decode prog_2_method_19_code 54 = .ok (.aload_n 0, 1) := by decide +kernel
theorem dd_Chart_countFirstHoles_55 : decode prog_2_method_19_code 55 = .ok (.iload_n 1, 1) := by decide +kernel
theorem dd_Chart_countFirstHoles_56 : decode prog_2_method_19_code 56 = .ok (.iload_n 2, 1) := by decide +kernel
theorem dd_Chart_countFirstHoles_57 : decode prog_2_method_19_code 57 = .ok (.iload 5, 2) := by decide +kernel
theorem dd_Chart_countFirstHoles_59 : decode prog_2_method_19_code 59 = .ok (.invokevirtual 91, 3) := by decide +kernel
theorem dd_Chart_countFirstHoles_62 : decode prog_2_method_19_code 62 = .ok (.iaload, 1) := by decide +kernel
theorem dd_Chart_countFirstHoles_63 : decode prog_2_method_19_code 63 = .ok (.iastore, 1) := by decide +kernel
theorem dd_Chart_countFirstHoles_64 : decode prog_2_method_19_code 64 = .ok (.iinc 3 1, 3) := by decide +kernel
theorem dd_Chart_countFirstHoles_67 : decode prog_2_method_19_code 67 = .ok (.goto (-65), 3) := by decide +kernel
theorem dd_Chart_countFirstHoles_70 : decode prog_2_method_19_code 70 = .ok (.return_, 1) := by decide +kernel
theorem dd_Chart_countSplits_0 : decode prog_2_method_16_code 0 = .ok (.lconst 0, 1) := by decide +kernel
theorem dd_Chart_countSplits_1 : decode prog_2_method_16_code 1 = .ok (.lstore 5, 2) := by decide +kernel
theorem dd_Chart_countSplits_3 : decode prog_2_method_16_code 3 = .ok (.iload_n 3, 1) := by decide +kernel
theorem dd_Chart_countSplits_4 : decode prog_2_method_16_code 4 = .ok (.iconst 1, 1) := by decide +kernel
theorem dd_Chart_countSplits_5 : decode prog_2_method_16_code 5 = .ok (.iadd, 1) := by decide +kernel
theorem dd_Chart_countSplits_6 : decode prog_2_method_16_code 6 = .ok (.istore 7, 2) := by decide +kernel
theorem dd_Chart_countSplits_8 : decode prog_2_method_16_code 8 = .ok (.iload 7, 2) := by decide +kernel
theorem dd_Chart_countSplits_10 : decode prog_2_method_16_code 10 = .ok (.iload 4, 2) := by decide +kernel
theorem dd_Chart_countSplits_12 : decode prog_2_method_16_code 12 = .ok (.if_icmp .ge 54, 3) := by decide +kernel
theorem dd_Chart_countSplits_15 : decode prog_2_method_16_code 15 = .ok (.aload_n 0, 1) := by decide +kernel
theorem dd_Chart_countSplits_16 : decode prog_2_method_16_code 16 = .ok (.iload_n 3, 1) := by decide +kernel
theorem dd_Chart_countSplits_17 : decode prog_2_method_16_code 17 = .ok (.iload 7, 2) := by decide +kernel
theorem dd_Chart_countSplits_19 : decode prog_2_method_16_code 19 = .ok (.iload_n 1, 1) := by decide +kernel
theorem dd_Chart_countSplits_20 : decode prog_2_method_16_code 20 = .ok (.invokevirtual 78, 3) := by decide +kernel
theorem dd_Chart_countSplits_23 : decode prog_2_method_16_code 23 = .ok (.ifCond .eq 37, 3) := by decide +kernel
theorem dd_Chart_countSplits_26 : decode prog_2_method_16_code 26 = .ok (.lload 5, 2) := by decide +kernel
theorem dd_Chart_countSplits_28 : decode prog_2_method_16_code 28 = .ok (.aload_n 0, 1) := by decide +kernel
theorem dd_Chart_countSplits_29 : decode prog_2_method_16_code 29 = .ok (.getfield 15, 3) := by decide +kernel
theorem dd_Chart_countSplits_32 : decode prog_2_method_16_code 32 = .ok (.iload 7, 2) := by decide +kernel
theorem dd_Chart_countSplits_34 : decode prog_2_method_16_code 34 = .ok (.bipush 98, 2) := by decide +kernel
theorem dd_Chart_countSplits_36 : decode prog_2_method_16_code 36 = .ok (.imul, 1) := by decide +kernel
theorem dd_Chart_countSplits_37 : decode prog_2_method_16_code 37 = .ok (.iload_n 1, 1) := by decide +kernel
theorem dd_Chart_countSplits_38 : decode prog_2_method_16_code 38 = .ok (.iadd, 1) := by decide +kernel
theorem dd_Chart_countSplits_39 : decode prog_2_method_16_code 39 = .ok (.iaload, 1) := by decide +kernel
theorem dd_Chart_countSplits_40 : decode prog_2_method_16_code 40 = .ok (.i2l, 1) := by decide +kernel
theorem dd_Chart_countSplits_41 : decode prog_2_method_16_code 41 = .ok (.aload_n 0, 1) := by decide +kernel
theorem dd_Chart_countSplits_42 : decode prog_2_method_16_code 42 = .ok (.getfield 18, 3) := by decide +kernel
theorem dd_Chart_countSplits_45 : decode prog_2_method_16_code 45 = .ok (.aload_n 0, 1) := by decide +kernel
theorem dd_Chart_countSplits_46 : decode prog_2_method_16_code 46 = .ok (.iload 7, 2) := by decide +kernel
theorem dd_Chart_countSplits_48 : decode prog_2_method_16_code 48 = .ok (.iload 4, 2) := by decide +kernel
theorem dd_Chart_countSplits_50 : decode prog_2_method_16_code 50 = .ok (.iload_n 2, 1) := by decide +kernel
theorem dd_Chart_countSplits_51 : decode prog_2_method_16_code 51 = .ok (.invokevirtual 91, 3) := by decide +kernel
theorem dd_Chart_countSplits_54 : decode prog_2_method_16_code 54 = .ok (.iaload, 1) := by decide +kernel
theorem dd_Chart_countSplits_55 : decode prog_2_method_16_code 55 = .ok (.i2l, 1) := by decide +kernel
theorem dd_Chart_countSplits_56 : decode prog_2_method_16_code 56 = .ok (.lmul, 1) := by decide +kernel
theorem dd_Chart_countSplits_57 : decode prog_2_method_16_code 57 = .ok (.ladd, 1) := by decide +kernel
theorem dd_Chart_countSplits_58 : decode prog_2_method_16_code 58 = .ok (.lstore 5, 2) := by decide +kernel
theorem dd_Chart_countSplits_60 : decode prog_2_method_16_code 60 = .ok (.iinc 7 1, 3) := by decide +kernel
theorem dd_Chart_countSplits_63 : decode prog_2_method_16_code 63 = .ok (.goto (-55), 3) := by decide +kernel
theorem dd_Chart_countSplits_66 : decode prog_2_method_16_code 66 = .ok (.lload 5, 2) := by decide +kernel
theorem dd_Chart_countSplits_68 : decode prog_2_method_16_code 68 = .ok (.ldc2_w 108, 3) := by decide +kernel
theorem dd_Chart_countSplits_71 : decode prog_2_method_16_code 71 = .ok (.invokestatic 110, 3) := by decide +kernel
theorem dd_Chart_countSplits_74 : decode prog_2_method_16_code 74 = .ok (.l2i, 1) := by decide +kernel
theorem dd_Chart_countSplits_75 : decode prog_2_method_16_code 75 = .ok (.ireturn, 1) := by decide +kernel
theorem dd_Chart_countRule_0 : decode prog_2_method_15_code 0 = .ok (.iload_n 1, 1) := by decide +kernel
theorem dd_Chart_countRule_1 : decode prog_2_method_15_code 1 = .ok (.bipush 7, 2) := by decide +kernel
theorem dd_Chart_countRule_3 : decode prog_2_method_15_code 3 = .ok (.imul, 1) := by decide +kernel
theorem dd_Chart_countRule_4 : decode prog_2_method_15_code 4 = .ok (.istore 4, 2) := by decide +kernel
theorem dd_Chart_countRule_6 : decode prog_2_method_15_code 6 = .ok (.aload_n 0, 1) := by decide +kernel
theorem dd_Chart_countRule_7 : decode prog_2_method_15_code 7 = .ok (.getfield 21, 3) := by decide +kernel
theorem dd_Chart_countRule_10 : decode prog_2_method_15_code 10 = .ok (.iload_n 1, 1) := by decide +kernel
theorem dd_Chart_countRule_11 : decode prog_2_method_15_code 11 = .ok (.invokevirtual 75, 3) := by decide +kernel
theorem dd_Chart_countRule_14 : decode prog_2_method_15_code 14 = .ok (.istore 5, 2) := by decide +kernel
theorem dd_Chart_countRule_16 : decode prog_2_method_15_code 16 = .ok (.iload 4, 2) := by decide +kernel
theorem dd_Chart_countRule_18 : decode prog_2_method_15_code 18 = .ok (.iconst 1, 1) := by decide +kernel
theorem dd_Chart_countRule_19 : decode prog_2_method_15_code 19 = .ok (.iadd, 1) := by decide +kernel
theorem dd_Chart_countRule_20 : decode prog_2_method_15_code 20 = .ok (.istore 6, 2) := by decide +kernel
theorem dd_Chart_countRule_22 : decode prog_2_method_15_code 22 = .ok (.iload 6, 2) := by decide +kernel
theorem dd_Chart_countRule_24 : decode prog_2_method_15_code 24 = .ok (.iload 5, 2) := by decide +kernel
theorem dd_Chart_countRule_26 : decode prog_2_method_15_code 26 = .ok (.if_icmp .gt 104, 3) := by decide +kernel
theorem dd_Chart_countRule_29 : decode prog_2_method_15_code 29 = .ok (.aload_n 0, 1) := by decide +kernel
theorem dd_Chart_countRule_30 : decode prog_2_method_15_code 30 = .ok (.iload_n 2, 1) := by decide +kernel
theorem dd_Chart_countRule_31 : decode prog_2_method_15_code 31 = .ok (.iload_n 3, 1) := by decide +kernel
theorem dd_Chart_countRule_32 : decode prog_2_method_15_code 32 = .ok (.iload 6, 2) := by decide +kernel
theorem dd_Chart_countRule_34 : decode prog_2_method_15_code 34 = .ok (.invokevirtual 78, 3) := by decide +kernel
theorem dd_Chart_countRule_37 : decode prog_2_method_15_code 37 = .ok (.ifCond .eq 87, 3) := by decide +kernel
theorem dd_Chart_countRule_40 : decode prog_2_method_15_code 40 = .ok (.aload_n 0, 1) := by decide +kernel
theorem dd_Chart_countRule_41 : decode prog_2_method_15_code 41 = .ok (.getfield 21, 3) := by decide +kernel
theorem dd_Chart_countRule_44 : decode prog_2_method_15_code 44 = .ok (.getfield 82, 3) := by decide +kernel
theorem dd_Chart_countRule_47 : decode prog_2_method_15_code 47 = .ok (.iload 6, 2) := by decide +kernel
theorem dd_Chart_countRule_49 : decode prog_2_method_15_code 49 = .ok (.iconst 1, 1) := by decide +kernel
theorem dd_Chart_countRule_50 : decode prog_2_method_15_code 50 = .ok (.isub, 1) := by decide +kernel
theorem dd_Chart_countRule_51 : decode prog_2_method_15_code 51 = .ok (.iaload, 1) := by decide +kernel
theorem dd_Chart_countRule_52 : decode prog_2_method_15_code 52 = .ok (.istore 7, 2) := by decide +kernel
theorem dd_Chart_countRule_54 : decode prog_2_method_15_code 54 = .ok (.iload 7, 2) := by decide +kernel
theorem dd_Chart_countRule_56 : decode prog_2_method_15_code 56 = .ok (.iconst (-1), 1) := by decide +kernel
theorem dd_Chart_countRule_57 : decode prog_2_method_15_code 57 = .ok (.if_icmp .ne 34, 3) := by decide +kernel
theorem dd_Chart_countRule_60 : decode prog_2_method_15_code 60 = .ok (.aload_n 0, 1) := by decide +kernel
theorem dd_Chart_countRule_61 : decode prog_2_method_15_code 61 = .ok (.getfield 15, 3) := by decide +kernel
theorem dd_Chart_countRule_64 : decode prog_2_method_15_code 64 = .ok (.iload_n 3, 1) := by decide +kernel
theorem dd_Chart_countRule_65 : decode prog_2_method_15_code 65 = .ok (.bipush 98, 2) := by decide +kernel
theorem dd_Chart_countRule_67 : decode prog_2_method_15_code 67 = .ok (.imul, 1) := by decide +kernel
theorem dd_Chart_countRule_68 : decode prog_2_method_15_code 68 = .ok (.iload 6, 2) := by decide +kernel
theorem dd_Chart_countRule_70 : decode prog_2_method_15_code 70 = .ok (.iadd, 1) := by decide +kernel
theorem dd_Chart_countRule_71 : decode prog_2_method_15_code 71 = .ok (.aload_n 0, 1) := by decide +kernel
theorem dd_Chart_countRule_72 : decode prog_2_method_15_code 72 = .ok (.getfield 15, 3) := by decide +kernel
theorem dd_Chart_countRule_75 : decode prog_2_method_15_code 75 = .ok (.iload_n 3, 1) := by decide +kernel
theorem dd_Chart_countRule_76 : decode prog_2_method_15_code 76 = .ok (.iconst 1, 1) := by decide +kernel
theorem dd_Chart_countRule_77 : decode prog_2_method_15_code 77 = .ok (.isub, 1) := by decide +kernel
theorem dd_Chart_countRule_78 : decode prog_2_method_15_code 78 = .ok (.bipush 98, 2) := by decide +kernel
theorem dd_Chart_countRule_80 : decode prog_2_method_15_code 80 = .ok (.imul, 1) := by decide +kernel
theorem dd_Chart_countRule_81 : decode prog_2_method_15_code 81 = .ok (.iload 6, 2) := by decide +kernel
theorem dd_Chart_countRule_83 : decode prog_2_method_15_code 83 = .ok (.iadd, 1) := by decide +kernel
theorem dd_Chart_countRule_84 : decode prog_2_method_15_code 84 = .ok (.iconst 1, 1) := by decide +kernel
theorem dd_Chart_countRule_85 : decode prog_2_method_15_code 85 = .ok (.isub, 1) := by decide +kernel
theorem dd_Chart_countRule_86 : decode prog_2_method_15_code 86 = .ok (.iaload, 1) := by decide +kernel
theorem dd_Chart_countRule_87 : decode prog_2_method_15_code 87 = .ok (.iastore, 1) := by decide +kernel
theorem dd_Chart_countRule_88 : decode prog_2_method_15_code 88 = .ok (.goto 36, 3) := by decide +kernel
theorem dd_Chart_countRule_91 : decode prog_2_method_15_code 91 = .ok (.iload 6, 2) := by decide +kernel
theorem dd_Chart_countRule_93 : decode prog_2_method_15_code 93 = .ok (.iload 4, 2) := by decide +kernel
theorem dd_Chart_countRule_95 : decode prog_2_method_15_code 95 = .ok (.iconst 1, 1) := by decide +kernel
theorem dd_Chart_countRule_96 : decode prog_2_method_15_code 96 = .ok (.iadd, 1) := by decide +kernel
theorem dd_Chart_countRule_97 : decode prog_2_method_15_code 97 = .ok (.if_icmp .le 27, 3) := by decide +kernel
theorem dd_Chart_countRule_100 : decode prog_2_method_15_code 100 = .ok (.aload_n 0, 1) := by decide +kernel
theorem dd_Chart_countRule_101 : decode prog_2_method_15_code 101 = .ok (.getfield 15, 3) := by decide +kernel
theorem dd_Chart_countRule_104 : decode prog_2_method_15_code 104 = .ok (.iload_n 3, 1) := by decide +kernel
theorem dd_Chart_countRule_105 : decode prog_2_method_15_code 105 = .ok (.bipush 98, 2) := by decide +kernel
theorem dd_Chart_countRule_107 : decode prog_2_method_15_code 107 = .ok (.imul, 1) := by decide +kernel
theorem dd_Chart_countRule_108 : decode prog_2_method_15_code 108 = .ok (.iload 6, 2) := by decide +kernel
theorem dd_Chart_countRule_110 : decode prog_2_method_15_code 110 = .ok (.iadd, 1) := by decide +kernel
theorem dd_Chart_countRule_111 : decode prog_2_method_15_code 111 = .ok (.aload_n 0, 1) := by decide +kernel
theorem dd_Chart_countRule_112 : decode prog_2_method_15_code 112 = .ok (.iload 6, 2) := by decide +kernel
theorem dd_Chart_countRule_114 : decode prog_2_method_15_code 114 = .ok (.iconst 1, 1) := by decide +kernel
theorem dd_Chart_countRule_115 : decode prog_2_method_15_code 115 = .ok (.isub, 1) := by decide +kernel
theorem dd_Chart_countRule_116 : decode prog_2_method_15_code 116 = .ok (.iload 7, 2) := by decide +kernel
theorem dd_Chart_countRule_118 : decode prog_2_method_15_code 118 = .ok (.iload_n 2, 1) := by decide +kernel
theorem dd_Chart_countRule_119 : decode prog_2_method_15_code 119 = .ok (.iload_n 3, 1) := by decide +kernel
theorem dd_Chart_countRule_120 : decode prog_2_method_15_code 120 = .ok (.invokevirtual 104, 3) := by decide +kernel
theorem dd_Chart_countRule_123 : decode prog_2_method_15_code 123 = .ok (.iastore, 1) := by decide +kernel
theorem dd_Chart_countRule_124 : decode prog_2_method_15_code 124 = .ok (.iinc 6 1, 3) := by decide +kernel
theorem dd_Chart_countRule_127 : decode prog_2_method_15_code 127 = .ok (.goto (-105), 3) := by decide +kernel
theorem dd_Chart_countRule_130 : decode prog_2_method_15_code 130 = .ok (.return_, 1) := by decide +kernel
theorem dd_Chart_countFrom_0 : decode prog_2_method_14_code 0 = .ok (.iconst 0, 1) := by decide +kernel
theorem dd_Chart_countFrom_1 : decode prog_2_method_14_code 1 = .ok (.istore_n 3, 1) := by decide +kernel
theorem dd_Chart_countFrom_2 : decode prog_2_method_14_code 2 = .ok (.iload_n 3, 1) := by decide +kernel
theorem dd_Chart_countFrom_3 : decode prog_2_method_14_code 3 = .ok (.aload_n 0, 1) := by decide +kernel
theorem dd_Chart_countFrom_4 : decode prog_2_method_14_code 4 = .ok (.getfield 21, 3) := by decide +kernel
theorem dd_Chart_countFrom_7 : decode prog_2_method_14_code 7 = .ok (.getfield 68, 3) := by decide +kernel
theorem dd_Chart_countFrom_10 : decode prog_2_method_14_code 10 = .ok (.if_icmp .ge 24, 3) := by decide +kernel
theorem dd_Chart_countFrom_13 : decode prog_2_method_14_code 13 = .ok (.aload_n 0, 1) := by decide +kernel
theorem dd_Chart_countFrom_14 : decode prog_2_method_14_code 14 = .ok (.getfield 15, 3) := by decide +kernel
theorem dd_Chart_countFrom_17 : decode prog_2_method_14_code 17 = .ok (.iload_n 1, 1) := by decide +kernel
theorem dd_Chart_countFrom_18 : decode prog_2_method_14_code 18 = .ok (.bipush 98, 2) := by decide +kernel
theorem dd_Chart_countFrom_20 : decode prog_2_method_14_code 20 = .ok (.imul, 1) := by decide +kernel
theorem dd_Chart_countFrom_21 : decode prog_2_method_14_code 21 = .ok (.iload_n 3, 1) := by decide +kernel
theorem dd_Chart_countFrom_22 : decode prog_2_method_14_code 22 = .ok (.bipush 7, 2) := by decide +kernel
theorem dd_Chart_countFrom_24 : decode prog_2_method_14_code 24 = .ok (.imul, 1) := by decide +kernel
theorem dd_Chart_countFrom_25 : decode prog_2_method_14_code 25 = .ok (.iadd, 1) := by decide +kernel
theorem dd_Chart_countFrom_26 : decode prog_2_method_14_code 26 = .ok (.iconst 1, 1) := by decide +kernel
theorem dd_Chart_countFrom_27 : decode prog_2_method_14_code 27 = .ok (.iastore, 1) := by decide +kernel
theorem dd_Chart_countFrom_28 : decode prog_2_method_14_code 28 = .ok (.iinc 3 1, 3) := by decide +kernel
theorem dd_Chart_countFrom_31 : decode prog_2_method_14_code 31 = .ok (.goto (-29), 3) := by decide +kernel
theorem dd_Chart_countFrom_34 : decode prog_2_method_14_code 34 = .ok (.iload_n 1, 1) := by decide +kernel
theorem dd_Chart_countFrom_35 : decode prog_2_method_14_code 35 = .ok (.iconst 1, 1) := by decide +kernel
theorem dd_Chart_countFrom_36 : decode prog_2_method_14_code 36 = .ok (.iadd, 1) := by decide +kernel
theorem dd_Chart_countFrom_37 : decode prog_2_method_14_code 37 = .ok (.istore_n 3, 1) := by decide +kernel
theorem dd_Chart_countFrom_38 : decode prog_2_method_14_code 38 = .ok (.iload_n 3, 1) := by decide +kernel
theorem dd_Chart_countFrom_39 : decode prog_2_method_14_code 39 = .ok (.iload_n 2, 1) := by decide +kernel
theorem dd_Chart_countFrom_40 : decode prog_2_method_14_code 40 = .ok (.if_icmp .gt 50, 3) := by decide +kernel
theorem dd_Chart_countFrom_43 : decode prog_2_method_14_code 43 = .ok (.iconst 0, 1) := by decide +kernel
theorem dd_Chart_countFrom_44 : decode prog_2_method_14_code 44 = .ok (.istore 4, 2) := by decide +kernel
theorem dd_Chart_countFrom_46 : decode prog_2_method_14_code 46 = .ok (.iload 4, 2) := by decide +kernel
theorem dd_Chart_countFrom_48 : decode prog_2_method_14_code 48 = .ok (.aload_n 0, 1) := by decide +kernel
theorem dd_Chart_countFrom_49 : decode prog_2_method_14_code 49 = .ok (.getfield 21, 3) := by decide +kernel
theorem dd_Chart_countFrom_52 : decode prog_2_method_14_code 52 = .ok (.getfield 68, 3) := by decide +kernel
theorem dd_Chart_countFrom_55 : decode prog_2_method_14_code 55 = .ok (.if_icmp .ge 17, 3) := by decide +kernel
theorem dd_Chart_countFrom_58 : decode prog_2_method_14_code 58 = .ok (.aload_n 0, 1) := by decide +kernel
theorem dd_Chart_countFrom_59 : decode prog_2_method_14_code 59 = .ok (.iload 4, 2) := by decide +kernel
theorem dd_Chart_countFrom_61 : decode prog_2_method_14_code 61 = .ok (.iload_n 1, 1) := by decide +kernel
theorem dd_Chart_countFrom_62 : decode prog_2_method_14_code 62 = .ok (.iload_n 3, 1) := by decide +kernel
theorem dd_Chart_countFrom_63 : decode prog_2_method_14_code 63 = .ok (.invokevirtual 95, 3) := by decide +kernel
theorem dd_Chart_countFrom_66 : decode prog_2_method_14_code 66 = .ok (.iinc 4 1, 3) := by decide +kernel
theorem dd_Chart_countFrom_69 : decode prog_2_method_14_code 69 = .ok (.goto (-23), 3) := by decide +kernel
theorem dd_Chart_countFrom_72 : decode prog_2_method_14_code 72 = .ok (.aload_n 0, 1) := by decide +kernel
theorem dd_Chart_countFrom_73 : decode prog_2_method_14_code 73 = .ok (.iload_n 1, 1) := by decide +kernel
theorem dd_Chart_countFrom_74 : decode prog_2_method_14_code 74 = .ok (.iload_n 3, 1) := by decide +kernel
theorem dd_Chart_countFrom_75 : decode prog_2_method_14_code 75 = .ok (.invokevirtual 98, 3) := by decide +kernel
theorem dd_Chart_countFrom_78 : decode prog_2_method_14_code 78 = .ok (.aload_n 0, 1) := by decide +kernel
theorem dd_Chart_countFrom_79 : decode prog_2_method_14_code 79 = .ok (.iload_n 1, 1) := by decide +kernel
theorem dd_Chart_countFrom_80 : decode prog_2_method_14_code 80 = .ok (.iload_n 3, 1) := by decide +kernel
theorem dd_Chart_countFrom_81 : decode prog_2_method_14_code 81 = .ok (.invokevirtual 101, 3) := by decide +kernel
theorem dd_Chart_countFrom_84 : decode prog_2_method_14_code 84 = .ok (.iinc 3 1, 3) := by decide +kernel
theorem dd_Chart_countFrom_87 : decode prog_2_method_14_code 87 = .ok (.goto (-49), 3) := by decide +kernel
theorem dd_Chart_countFrom_90 : decode prog_2_method_14_code 90 = .ok (.return_, 1) := by decide +kernel
theorem dd_Chart_countTrees_0 : decode prog_2_method_13_code 0 = .ok (.iload_n 1, 1) := by decide +kernel
theorem dd_Chart_countTrees_1 : decode prog_2_method_13_code 1 = .ok (.iconst 1, 1) := by decide +kernel
theorem dd_Chart_countTrees_2 : decode prog_2_method_13_code 2 = .ok (.isub, 1) := by decide +kernel
theorem dd_Chart_countTrees_3 : decode prog_2_method_13_code 3 = .ok (.istore_n 2, 1) := by decide +kernel
theorem dd_Chart_countTrees_4 : decode prog_2_method_13_code 4 = .ok (.iload_n 2, 1) := by decide +kernel
theorem dd_Chart_countTrees_5 : decode prog_2_method_13_code 5 = .ok (.ifCond .lt 26, 3) := by decide +kernel
theorem dd_Chart_countTrees_8 : decode prog_2_method_13_code 8 = .ok (.aload_n 0, 1) := by decide +kernel
theorem dd_Chart_countTrees_9 : decode prog_2_method_13_code 9 = .ok (.iload_n 2, 1) := by decide +kernel
theorem dd_Chart_countTrees_10 : decode prog_2_method_13_code 10 = .ok (.iload_n 2, 1) := by decide +kernel
theorem dd_Chart_countTrees_11 : decode prog_2_method_13_code 11 = .ok (.bipush 7, 2) := by decide +kernel
theorem dd_Chart_countTrees_13 : decode prog_2_method_13_code 13 = .ok (.invokevirtual 78, 3) := by decide +kernel
theorem dd_Chart_countTrees_16 : decode prog_2_method_13_code 16 = .ok (.ifCond .eq 9, 3) := by decide +kernel
theorem dd_Chart_countTrees_19 : decode prog_2_method_13_code 19 = .ok (.aload_n 0, 1) := by decide +kernel
theorem dd_Chart_countTrees_20 : decode prog_2_method_13_code 20 = .ok (.iload_n 2, 1) := by decide +kernel
theorem dd_Chart_countTrees_21 : decode prog_2_method_13_code 21 = .ok (.iload_n 1, 1) := by decide +kernel
theorem dd_Chart_countTrees_22 : decode prog_2_method_13_code 22 = .ok (.invokevirtual 88, 3) := by decide +kernel
theorem dd_Chart_countTrees_25 : decode prog_2_method_13_code 25 = .ok (.iinc 2 (-1), 3) := by decide +kernel
theorem dd_Chart_countTrees_28 : decode prog_2_method_13_code 28 = .ok (.goto (-24), 3) := by decide +kernel
theorem dd_Chart_countTrees_31 : decode prog_2_method_13_code 31 = .ok (.iload_n 1, 1) := by decide +kernel
theorem dd_Chart_countTrees_32 : decode prog_2_method_13_code 32 = .ok (.iconst 1, 1) := by decide +kernel
theorem dd_Chart_countTrees_33 : decode prog_2_method_13_code 33 = .ok (.if_icmp .ge 7, 3) := by decide +kernel
theorem dd_Chart_countTrees_36 : decode prog_2_method_13_code 36 = .ok (.iconst 0, 1) := by decide +kernel
theorem dd_Chart_countTrees_37 : decode prog_2_method_13_code 37 = .ok (.goto 15, 3) := by decide +kernel
theorem dd_Chart_countTrees_40 : decode prog_2_method_13_code 40 = .ok (.aload_n 0, 1) := by decide +kernel
theorem dd_Chart_countTrees_41 : decode prog_2_method_13_code 41 = .ok (.getfield 18, 3) := by decide +kernel
theorem dd_Chart_countTrees_44 : decode prog_2_method_13_code 44 = .ok (.aload_n 0, 1) := by decide +kernel
theorem dd_Chart_countTrees_45 : decode prog_2_method_13_code 45 = .ok (.iconst 0, 1) := by decide +kernel
theorem dd_Chart_countTrees_46 : decode prog_2_method_13_code 46 = .ok (.iload_n 1, 1) := by decide +kernel
theorem dd_Chart_countTrees_47 : decode prog_2_method_13_code 47 = .ok (.iconst 0, 1) := by decide +kernel
theorem dd_Chart_countTrees_48 : decode prog_2_method_13_code 48 = .ok (.invokevirtual 91, 3) := by decide +kernel
theorem dd_Chart_countTrees_51 : decode prog_2_method_13_code 51 = .ok (.iaload, 1) := by decide +kernel
theorem dd_Chart_countTrees_52 : decode prog_2_method_13_code 52 = .ok (.ireturn, 1) := by decide +kernel
theorem dd_Chart_onlyRule_0 : decode prog_2_method_21_code 0 = .ok (.aload_n 0, 1) := by decide +kernel
theorem dd_Chart_onlyRule_1 : decode prog_2_method_21_code 1 = .ok (.getfield 21, 3) := by decide +kernel
theorem dd_Chart_onlyRule_4 : decode prog_2_method_21_code 4 = .ok (.getfield 68, 3) := by decide +kernel
theorem dd_Chart_onlyRule_7 : decode prog_2_method_21_code 7 = .ok (.iconst 1, 1) := by decide +kernel
theorem dd_Chart_onlyRule_8 : decode prog_2_method_21_code 8 = .ok (.isub, 1) := by decide +kernel
theorem dd_Chart_onlyRule_9 : decode prog_2_method_21_code 9 = .ok (.istore 4, 2) := by decide +kernel
theorem dd_Chart_onlyRule_11 : decode prog_2_method_21_code 11 = .ok (.iload 4, 2) := by decide +kernel
theorem dd_Chart_onlyRule_13 : decode prog_2_method_21_code 13 = .ok (.ifCond .le 44, 3) := by decide +kernel
theorem dd_Chart_onlyRule_16 : decode prog_2_method_21_code 16 = .ok (.aload_n 0, 1) := by decide +kernel
theorem dd_Chart_onlyRule_17 : decode prog_2_method_21_code 17 = .ok (.getfield 21, 3) := by decide +kernel
theorem dd_Chart_onlyRule_20 : decode prog_2_method_21_code 20 = .ok (.getfield 72, 3) := by decide +kernel
theorem dd_Chart_onlyRule_23 : decode prog_2_method_21_code 23 = .ok (.iload 4, 2) := by decide +kernel
theorem dd_Chart_onlyRule_25 : decode prog_2_method_21_code 25 = .ok (.iaload, 1) := by decide +kernel
theorem dd_Chart_onlyRule_26 : decode prog_2_method_21_code 26 = .ok (.iload_n 3, 1) := by decide +kernel
theorem dd_Chart_onlyRule_27 : decode prog_2_method_21_code 27 = .ok (.if_icmp .lt 24, 3) := by decide +kernel
theorem dd_Chart_onlyRule_30 : decode prog_2_method_21_code 30 = .ok (.aload_n 0, 1) := by decide +kernel
theorem dd_Chart_onlyRule_31 : decode prog_2_method_21_code 31 = .ok (.iload_n 1, 1) := by decide +kernel
theorem dd_Chart_onlyRule_32 : decode prog_2_method_21_code 32 = .ok (.iload_n 2, 1) := by decide +kernel
theorem dd_Chart_onlyRule_33 : decode prog_2_method_21_code 33 = .ok (.aload_n 0, 1) := by decide +kernel
theorem dd_Chart_onlyRule_34 : decode prog_2_method_21_code 34 = .ok (.getfield 21, 3) := by decide +kernel
theorem dd_Chart_onlyRule_37 : decode prog_2_method_21_code 37 = .ok (.iload 4, 2) := by decide +kernel
theorem dd_Chart_onlyRule_39 : decode prog_2_method_21_code 39 = .ok (.invokevirtual 75, 3) := by decide +kernel
theorem dd_Chart_onlyRule_42 : decode prog_2_method_21_code 42 = .ok (.invokevirtual 78, 3) := by decide +kernel
theorem dd_Chart_onlyRule_45 : decode prog_2_method_21_code 45 = .ok (.ifCond .eq 6, 3) := by decide +kernel
theorem dd_Chart_onlyRule_48 : decode prog_2_method_21_code 48 = .ok (.iload 4, 2) := by decide +kernel
theorem dd_Chart_onlyRule_50 : decode prog_2_method_21_code 50 = .ok (.ireturn, 1) := by decide +kernel
theorem dd_Chart_onlyRule_51 : decode prog_2_method_21_code 51 = .ok (.iinc 4 (-1), 3) := by decide +kernel
theorem dd_Chart_onlyRule_54 : decode prog_2_method_21_code 54 = .ok (.goto (-43), 3) := by decide +kernel
theorem dd_Chart_onlyRule_57 : decode prog_2_method_21_code 57 = .ok (.iconst 0, 1) := by decide +kernel
theorem dd_Chart_onlyRule_58 : decode prog_2_method_21_code 58 = .ok (.ireturn, 1) := by decide +kernel
theorem dd_Chart_onlySplit_0 : decode prog_2_method_22_code 0 = .ok (.aload_n 0, 1) := by decide +kernel
theorem dd_Chart_onlySplit_1 : decode prog_2_method_22_code 1 = .ok (.getfield 21, 3) := by decide +kernel
theorem dd_Chart_onlySplit_4 : decode prog_2_method_22_code 4 = .ok (.getfield 82, 3) := by decide +kernel
theorem dd_Chart_onlySplit_7 : decode prog_2_method_22_code 7 = .ok (.iload_n 1, 1) := by decide +kernel
theorem dd_Chart_onlySplit_8 : decode prog_2_method_22_code 8 = .ok (.iaload, 1) := by decide +kernel
theorem dd_Chart_onlySplit_9 : decode prog_2_method_22_code 9 = .ok (.istore 4, 2) := by decide +kernel
theorem dd_Chart_onlySplit_11 : decode prog_2_method_22_code 11 = .ok (.iload_n 3, 1) := by decide +kernel
theorem dd_Chart_onlySplit_12 : decode prog_2_method_22_code 12 = .ok (.iconst 1, 1) := by decide +kernel
theorem dd_Chart_onlySplit_13 : decode prog_2_method_22_code 13 = .ok (.isub, 1) := by decide +kernel
theorem dd_Chart_onlySplit_14 : decode prog_2_method_22_code 14 = .ok (.istore 5, 2) := by decide +kernel
theorem dd_Chart_onlySplit_16 : decode prog_2_method_22_code 16 = .ok (.iload 5, 2) := by decide +kernel
theorem dd_Chart_onlySplit_18 : decode prog_2_method_22_code 18 = .ok (.iload_n 2, 1) := by decide +kernel
theorem dd_Chart_onlySplit_19 : decode prog_2_method_22_code 19 = .ok (.if_icmp .le 40, 3) := by decide +kernel
theorem dd_Chart_onlySplit_22 : decode prog_2_method_22_code 22 = .ok (.aload_n 0, 1) := by decide +kernel
theorem dd_Chart_onlySplit_23 : decode prog_2_method_22_code 23 = .ok (.iload_n 2, 1) := by decide +kernel
theorem dd_Chart_onlySplit_24 : decode prog_2_method_22_code 24 = .ok (.iload 5, 2) := by decide +kernel
theorem dd_Chart_onlySplit_26 : decode prog_2_method_22_code 26 = .ok (.iload_n 1, 1) := by decide +kernel
theorem dd_Chart_onlySplit_27 : decode prog_2_method_22_code 27 = .ok (.invokevirtual 78, 3) := by decide +kernel
theorem dd_Chart_onlySplit_30 : decode prog_2_method_22_code 30 = .ok (.ifCond .eq 23, 3) := by decide +kernel
theorem dd_Chart_onlySplit_33 : decode prog_2_method_22_code 33 = .ok (.aload_n 0, 1) := by decide +kernel
theorem dd_Chart_onlySplit_34 : decode prog_2_method_22_code 34 = .ok (.getfield 18, 3) := by decide +kernel
theorem dd_Chart_onlySplit_37 : decode prog_2_method_22_code 37 = .ok (.aload_n 0, 1) := by decide +kernel
theorem dd_Chart_onlySplit_38 : decode prog_2_method_22_code 38 = .ok (.iload 5, 2) := by decide +kernel
theorem dd_Chart_onlySplit_40 : decode prog_2_method_22_code 40 = .ok (.iload_n 3, 1) := by decide +kernel
theorem dd_Chart_onlySplit_41 : decode prog_2_method_22_code 41 = .ok (.iload 4, 2) := by decide +kernel
theorem dd_Chart_onlySplit_43 : decode prog_2_method_22_code 43 = .ok (.invokevirtual 91, 3) := by decide +kernel
theorem dd_Chart_onlySplit_46 : decode prog_2_method_22_code 46 = .ok (.iaload, 1) := by decide +kernel
theorem dd_Chart_onlySplit_47 : decode prog_2_method_22_code 47 = .ok (.ifCond .le 6, 3) := by decide +kernel
theorem dd_Chart_onlySplit_50 : decode prog_2_method_22_code 50 = .ok (.iload 5, 2) := by decide +kernel
theorem dd_Chart_onlySplit_52 : decode prog_2_method_22_code 52 = .ok (.ireturn, 1) := by decide +kernel
theorem dd_Chart_onlySplit_53 : decode prog_2_method_22_code 53 = .ok (.iinc 5 (-1), 3) := by decide +kernel
theorem dd_Chart_onlySplit_56 : decode prog_2_method_22_code 56 = .ok (.goto (-40), 3) := by decide +kernel
theorem dd_Chart_onlySplit_59 : decode prog_2_method_22_code 59 = .ok (.iload_n 2, 1) := by decide +kernel
theorem dd_Chart_onlySplit_60 : decode prog_2_method_22_code 60 = .ok (.ireturn, 1) := by decide +kernel
theorem dd_Output_addByte_0 : decode prog_4_method_4_code 0 = .ok (.aload_n 0, 1) := by decide +kernel
theorem dd_Output_addByte_1 : decode prog_4_method_4_code 1 = .ok (.getfield 15, 3) := by decide +kernel
theorem dd_Output_addByte_4 : decode prog_4_method_4_code 4 = .ok (.aload_n 0, 1) := by decide +kernel
theorem dd_Output_addByte_5 : decode prog_4_method_4_code 5 = .ok (.getfield 9, 3) := by decide +kernel
theorem dd_Output_addByte_8 : decode prog_4_method_4_code 8 = .ok (.arraylength, 1) := by decide +kernel
theorem dd_Output_addByte_9 : decode prog_4_method_4_code 9 = .ok (.if_icmp .ge 24, 3) := by decide +kernel
theorem dd_Output_addByte_12 : decode prog_4_method_4_code 12 = .ok (.aload_n 0, 1) := by decide +kernel
theorem dd_Output_addByte_13 : decode prog_4_method_4_code 13 = .ok (.getfield 9, 3) := by decide +kernel
theorem dd_Output_addByte_16 : decode prog_4_method_4_code 16 = .ok (.aload_n 0, 1) := by decide +kernel
theorem dd_Output_addByte_17 : decode prog_4_method_4_code 17 = .ok (.getfield 15, 3) := by decide +kernel
theorem dd_Output_addByte_20 : decode prog_4_method_4_code 20 = .ok (.iload_n 1, 1) := by decide +kernel
theorem dd_Output_addByte_21 : decode prog_4_method_4_code 21 = .ok (.i2b, 1) := by decide +kernel
theorem dd_Output_addByte_22 : decode prog_4_method_4_code 22 = .ok (.bastore, 1) := by decide +kernel
theorem dd_Output_addByte_23 : decode prog_4_method_4_code 23 = .ok (.aload_n 0, 1) := by decide +kernel
theorem dd_Output_addByte_24 : decode prog_4_method_4_code 24 = .ok (.dup, 1) := by decide +kernel
theorem dd_Output_addByte_25 : decode prog_4_method_4_code 25 = .ok (.getfield 15, 3) := by decide +kernel
theorem dd_Output_addByte_28 : decode prog_4_method_4_code 28 = .ok (.iconst 1, 1) := by decide +kernel
theorem dd_Output_addByte_29 : decode prog_4_method_4_code 29 = .ok (.iadd, 1) := by decide +kernel
theorem dd_Output_addByte_30 : decode prog_4_method_4_code 30 = .ok (.putfield 15, 3) := by decide +kernel
theorem dd_Output_addByte_33 : decode prog_4_method_4_code 33 = .ok (.return_, 1) := by decide +kernel
theorem dd_Output_writeWord_0 : decode prog_4_method_3_code 0 = .ok (.bipush 7, 2) := by decide +kernel
theorem dd_Output_writeWord_2 : decode prog_4_method_3_code 2 = .ok (.istore_n 3, 1) := by decide +kernel
theorem dd_Output_writeWord_3 : decode prog_4_method_3_code 3 = .ok (.iload_n 3, 1) := by decide +kernel
theorem dd_Output_writeWord_4 : decode prog_4_method_3_code 4 = .ok (.ifCond .lt 27, 3) := by decide +kernel
theorem dd_Output_writeWord_7 : decode prog_4_method_3_code 7 = .ok (.lload_n 1, 1) := by decide +kernel
theorem dd_Output_writeWord_8 : decode prog_4_method_3_code 8 = .ok (.iload_n 3, 1) := by decide +kernel
theorem dd_Output_writeWord_9 : decode prog_4_method_3_code 9 = .ok (.invokestatic 36, 3) := by decide +kernel
theorem dd_Output_writeWord_12 : decode prog_4_method_3_code 12 = .ok (.istore 4, 2) := by decide +kernel
theorem dd_Output_writeWord_14 : decode prog_4_method_3_code 14 = .ok (.iload 4, 2) := by decide +kernel
theorem dd_Output_writeWord_16 : decode prog_4_method_3_code 16 = .ok (.ifCond .eq 9, 3) := by decide +kernel
theorem dd_Output_writeWord_19 : decode prog_4_method_3_code 19 = .ok (.aload_n 0, 1) := by decide +kernel
theorem dd_Output_writeWord_20 : decode prog_4_method_3_code 20 = .ok (.iload 4, 2) := by decide +kernel
theorem dd_Output_writeWord_22 : decode prog_4_method_3_code 22 = .ok (.invokevirtual 24, 3) := by decide +kernel
theorem dd_Output_writeWord_25 : decode prog_4_method_3_code 25 = .ok (.iinc 3 (-1), 3) := by decide +kernel
theorem dd_Output_writeWord_28 : decode prog_4_method_3_code 28 = .ok (.goto (-25), 3) := by decide +kernel
theorem dd_Output_writeWord_31 : decode prog_4_method_3_code 31 = .ok (.return_, 1) := by decide +kernel
theorem dd_Output_writeWords_0 : decode prog_4_method_2_code 0 = .ok (.aload_n 0, 1) := by decide +kernel
theorem dd_Output_writeWords_1 : decode prog_4_method_2_code 1 = .ok (.iconst 0, 1) := by decide +kernel
theorem dd_Output_writeWords_2 : decode prog_4_method_2_code 2 = .ok (.putfield 15, 3) := by decide +kernel
theorem dd_Output_writeWords_5 : decode prog_4_method_2_code 5 = .ok (.iconst 0, 1) := by decide +kernel
theorem dd_Output_writeWords_6 : decode prog_4_method_2_code 6 = .ok (.istore_n 3, 1) := by decide +kernel
theorem dd_Output_writeWords_7 : decode prog_4_method_2_code 7 = .ok (.iload_n 3, 1) := by decide +kernel
theorem dd_Output_writeWords_8 : decode prog_4_method_2_code 8 = .ok (.aload_n 1, 1) := by decide +kernel
theorem dd_Output_writeWords_9 : decode prog_4_method_2_code 9 = .ok (.getfield 19, 3) := by decide +kernel
theorem dd_Output_writeWords_12 : decode prog_4_method_2_code 12 = .ok (.if_icmp .ge 40, 3) := by decide +kernel
theorem dd_Output_writeWords_15 : decode prog_4_method_2_code 15 = .ok (.iload_n 2, 1) := by decide +kernel
theorem dd_Output_writeWords_16 : decode prog_4_method_2_code 16 = .ok (.iload_n 3, 1) := by decide +kernel
theorem dd_Output_writeWords_17 : decode prog_4_method_2_code 17 = .ok (.iushr, 1) := by decide +kernel
theorem dd_Output_writeWords_18 : decode prog_4_method_2_code 18 = .ok (.iconst 1, 1) := by decide +kernel
theorem dd_Output_writeWords_19 : decode prog_4_method_2_code 19 = .ok (.iand, 1) := by decide +kernel
theorem dd_Output_writeWords_20 : decode prog_4_method_2_code 20 = .ok (.ifCond .ne 26, 3) := by decide +kernel
theorem dd_Output_writeWords_23 : decode prog_4_method_2_code 23 = .ok (.aload_n 0, 1) := by decide +kernel
theorem dd_Output_writeWords_24 : decode prog_4_method_2_code 24 = .ok (.getfield 15, 3) := by decide +kernel
theorem dd_Output_writeWords_27 : decode prog_4_method_2_code 27 = .ok (.ifCond .le 9, 3) := by decide +kernel
theorem dd_Output_writeWords_30 : decode prog_4_method_2_code 30 = .ok (.aload_n 0, 1) := by decide +kernel
theorem dd_Output_writeWords_31 : decode prog_4_method_2_code 31 = .ok (.bipush 32, 2) := by decide +kernel
theorem dd_Output_writeWords_33 : decode prog_4_method_2_code 33 = .ok (.invokevirtual 24, 3) := by decide +kernel
theorem dd_Output_writeWords_36 : decode prog_4_method_2_code 36 = .ok (.aload_n 0, 1) := by decide +kernel
theorem dd_Output_writeWords_37 : decode prog_4_method_2_code 37 = .ok (.aload_n 1, 1) := by decide +kernel
theorem dd_Output_writeWords_38 : decode prog_4_method_2_code 38 = .ok (.getfield 28, 3) := by decide +kernel
theorem dd_Output_writeWords_41 : decode prog_4_method_2_code 41 = .ok (.iload_n 3, 1) := by decide +kernel
theorem dd_Output_writeWords_42 : decode prog_4_method_2_code 42 = .ok (.laload, 1) := by decide +kernel
theorem dd_Output_writeWords_43 : decode prog_4_method_2_code 43 = .ok (.invokevirtual 32, 3) := by decide +kernel
theorem dd_Output_writeWords_46 : decode prog_4_method_2_code 46 = .ok (.iinc 3 1, 3) := by decide +kernel
theorem dd_Output_writeWords_49 : decode prog_4_method_2_code 49 = .ok (.goto (-42), 3) := by decide +kernel
theorem dd_Output_writeWords_52 : decode prog_4_method_2_code 52 = .ok (.return_, 1) := by decide +kernel
end
section
def f_Grammar_usedDots  (σ : np_S) : Option np_O := some ((σ 1 4) * 7, σ)
def f_Arrays_rangeCheck  (x0 x1 x2 : Int) (σ : np_S) : Option np_O := np_ck (np_R x1 ∧ np_R x2) (if x1 ≤ x2 then (np_ck (np_R x1) (if (0 : Int) ≤ x1 then (np_ck (np_R x2 ∧ np_R x0) (if x2 ≤ x0 then (some (0, σ)) else (none))) else (none))) else (none))
def f_Arrays_fill_2_10_b  (k10 : (Int → Int → Int → np_S → Option np_O)) (x2 x3 x4 : Int) (σ : np_S) : Option np_O := np_ck (np_R x4 ∧ np_R x2) (if x2 ≤ x4 then (some (0, σ)) else (np_ck ((0 : Int) ≤ x4 ∧ x4 < 105) (k10 x2 x3 (x4 + 1) (np_st σ 2 x4 x3))))
def f_Arrays_fill_2_10  : Nat → Int → Int → Int → np_S → Option np_O
  | 0, _, _, _, _ => none
  | n + 1, x2, x3, x4, σ => f_Arrays_fill_2_10_b  (fun x2 x3 x4 σ => f_Arrays_fill_2_10  n x2 x3 x4 σ) x2 x3 x4 σ
def f_Arrays_fill_2  (x1 x2 x3 : Int) (σ : np_S) : Option np_O := (f_Arrays_rangeCheck 105 x1 x2 σ).bind (fun o1 => f_Arrays_fill_2_10 6000 x2 x3 x1 o1.2)
def f_Arrays_fill2_3_10_b  (k10 : (Int → Int → Int → np_S → Option np_O)) (x2 x3 x5 : Int) (σ : np_S) : Option np_O := np_ck (np_R x5 ∧ np_R x2) (if x2 ≤ x5 then (some (0, σ)) else (np_ck ((0 : Int) ≤ x5 ∧ x5 < 105) (k10 x2 x3 (x5 + 1) (np_st σ 3 x5 x3))))
def f_Arrays_fill2_3_10  : Nat → Int → Int → Int → np_S → Option np_O
  | 0, _, _, _, _ => none
  | n + 1, x2, x3, x5, σ => f_Arrays_fill2_3_10_b  (fun x2 x3 x5 σ => f_Arrays_fill2_3_10  n x2 x3 x5 σ) x2 x3 x5 σ
def f_Arrays_fill2_3  (x1 x2 x3 : Int) (σ : np_S) : Option np_O := (f_Arrays_rangeCheck 105 x1 x2 σ).bind (fun o1 => f_Arrays_fill2_3_10 6000 x2 x3 x1 o1.2)
def f_Grammar_dropHand  (σ : np_S) : Option np_O := (f_Grammar_usedDots σ).bind (fun o1 => (f_Grammar_usedDots o1.2).bind (fun o2 => (f_Arrays_fill_2 o1.1 (o2.1 + 7) ((-1)) o2.2).bind (fun o3 => (f_Grammar_usedDots o3.2).bind (fun o4 => (f_Grammar_usedDots o4.2).bind (fun o5 => (f_Arrays_fill2_3 o4.1 (o5.1 + 7) ((-1)) o5.2).bind (fun o6 => some (0, (np_st o6.2 1 5 0))))))))
def f_Spelling_byteOf  (x0 x2 : Int) (σ : np_S) : Option np_O := some (np_andi (np_ushrl x0 (8 * x2)) 255, σ)
def f_Text_append_5_b  (k5 : (Int → Int → np_S → Option np_O)) (x1 x4 : Int) (σ : np_S) : Option np_O := np_ck (np_R x4) (if x4 < 0 then (some (0, σ)) else ((f_Spelling_byteOf x1 x4 σ).bind (fun o1 => np_ck ((0 : Int) ≤ σ 6 1 ∧ σ 6 1 < 200) (k5 x1 (x4 + (-1)) (np_st (np_st o1.2 7 (σ 6 1) (Int.bmod (Int.bmod o1.1 256) 256)) 6 1 (((np_st o1.2 7 (σ 6 1) (Int.bmod (Int.bmod o1.1 256) 256)) 6 1) + 1))))))
def f_Text_append_5  : Nat → Int → Int → np_S → Option np_O
  | 0, _, _, _ => none
  | n + 1, x1, x4, σ => f_Text_append_5_b  (fun x1 x4 σ => f_Text_append_5  n x1 x4 σ) x1 x4 σ
def f_Text_append  (x1 x3 : Int) (σ : np_S) : Option np_O := f_Text_append_5 6000 x1 (x3 - 1) σ
def f_N_put_26  (σ : np_S) : Option np_O := np_ck ((0 : Int) = 0 ∨ (0 : Int) = 1) (some (0, σ))
def f_N_put  (x1 x3 : Int) (σ : np_S) : Option np_O := np_ck (np_R x3 ∧ np_R 1) (if x3 < 1 then (f_N_put_26 σ) else (np_ck (np_R x3 ∧ np_R 8) (if (8 : Int) < x3 then (f_N_put_26 σ) else (np_ck (np_R x3 ∧ np_R (200 - (σ 6 1))) (if x3 ≤ 200 - (σ 6 1) then ((f_Text_append x1 x3 σ).bind (fun o1 => np_ck ((1 : Int) = 0 ∨ (1 : Int) = 1) (some (1, o1.2)))) else (f_N_put_26 σ))))))
def f_N_clear  (σ : np_S) : Option np_O := some (0, (np_st σ 6 1 0))
def f_Tree_fell  (σ : np_S) : Option np_O := some (0, (np_st σ 15 2 0))
def f_Arrays_fill_12_10_b  (k10 : (Int → Int → Int → np_S → Option np_O)) (x2 x3 x4 : Int) (σ : np_S) : Option np_O := np_ck (np_R x4 ∧ np_R x2) (if x2 ≤ x4 then (some (0, σ)) else (np_ck ((0 : Int) ≤ x4 ∧ x4 < 3038) (k10 x2 x3 (x4 + 1) (np_st σ 12 x4 x3))))
def f_Arrays_fill_12_10  : Nat → Int → Int → Int → np_S → Option np_O
  | 0, _, _, _, _ => none
  | n + 1, x2, x3, x4, σ => f_Arrays_fill_12_10_b  (fun x2 x3 x4 σ => f_Arrays_fill_12_10  n x2 x3 x4 σ) x2 x3 x4 σ
def f_Arrays_fill_12  (x1 x2 x3 : Int) (σ : np_S) : Option np_O := (f_Arrays_rangeCheck 3038 x1 x2 σ).bind (fun o1 => f_Arrays_fill_12_10 6000 x2 x3 x1 o1.2)
def f_Chart_emptyRow  (x1 : Int) (σ : np_S) : Option np_O := (f_Arrays_fill_12 (x1 * 98) ((x1 + 1) * 98) 0 σ).bind (fun o1 => some (0, o1.2))
def f_Chart_scan_84 (k19 : (Int → Int → Int → Int → Int → np_S → Option np_O)) (x2 x4 x5 x6 x7 : Int) (σ : np_S) : Option np_O := k19 x2 x4 x5 x6 (x7 + 1) σ
def f_Chart_scan_19_b  (k19 : (Int → Int → Int → Int → Int → np_S → Option np_O)) (x2 x4 x5 x6 x7 : Int) (σ : np_S) : Option np_O := (f_Grammar_usedDots σ).bind (fun o1 => np_ck (np_R x7 ∧ np_R o1.1) (if o1.1 ≤ x7 then (np_ck (x6 = 0 ∨ x6 = 1) (some (x6, o1.2))) else (np_ck ((0 : Int) ≤ x4 + x7 ∧ x4 + x7 < 3038) (np_ck (np_R (o1.2 12 (x4 + x7))) (if o1.2 12 (x4 + x7) = 0 then (f_Chart_scan_84 k19 x2 x4 x5 x6 x7 o1.2) else (np_ck ((0 : Int) ≤ x7 ∧ x7 < 105) (np_ck (np_R6 (o1.2 3 x7) ∧ np_R6 x2) (np_ck (np_R (np_cmp (o1.2 3 x7) x2)) (if np_cmp (o1.2 3 x7) x2 ≠ 0 then (f_Chart_scan_84 k19 x2 x4 x5 x6 x7 o1.2) else (np_ck ((0 : Int) ≤ x4 + x7 ∧ x4 + x7 < 3038) (np_ck ((0 : Int) ≤ (x5 + x7) + 1 ∧ (x5 + x7) + 1 < 3038) (f_Chart_scan_84 k19 x2 x4 x5 1 x7 (np_st o1.2 12 ((x5 + x7) + 1) (o1.2 12 (x4 + x7)))))))))))))))
def f_Chart_scan_19  : Nat → Int → Int → Int → Int → Int → np_S → Option np_O
  | 0, _, _, _, _, _, _ => none
  | n + 1, x2, x4, x5, x6, x7, σ => f_Chart_scan_19_b  (fun x2 x4 x5 x6 x7 σ => f_Chart_scan_19  n x2 x4 x5 x6 x7 σ) x2 x4 x5 x6 x7 σ
def f_Chart_scan  (x1 x2 : Int) (σ : np_S) : Option np_O := f_Chart_scan_19 6000 x2 (x1 * 98) ((x1 * 98) + 98) 0 0 σ
def f_Grammar_lastDot  (x1 : Int) (σ : np_S) : Option np_O := np_ck ((0 : Int) ≤ x1 ∧ x1 < 14) (some ((x1 * 7) + (σ 5 x1), σ))
def f_Chart_isReached_23  (t0 : Int) (σ : np_S) : Option np_O := np_ck (t0 = 0 ∨ t0 = 1) (some (t0, σ))
def f_Chart_isReached  (x1 x2 x3 : Int) (σ : np_S) : Option np_O := np_ck ((0 : Int) ≤ (x2 * 98) + x3 ∧ (x2 * 98) + x3 < 3038) (np_ck (np_R (np_andi (np_ushri (σ 12 ((x2 * 98) + x3)) x1) 1)) (if np_andi (np_ushri (σ 12 ((x2 * 98) + x3)) x1) 1 = 0 then (f_Chart_isReached_23 0 σ) else (f_Chart_isReached_23 1 σ)))
def f_Chart_highestTerm_60 (k5 : (Int → Int → Int → Int → np_S → Option np_O)) (x1 x2 x3 x4 : Int) (σ : np_S) : Option np_O := k5 x1 x2 x3 (x4 + 1) σ
def f_Chart_highestTerm_5_b  (k5 : (Int → Int → Int → Int → np_S → Option np_O)) (x1 x2 x3 x4 : Int) (σ : np_S) : Option np_O := np_ck (np_R x4 ∧ np_R (σ 1 4)) (if σ 1 4 ≤ x4 then (some (x3, σ)) else (np_ck ((0 : Int) ≤ x4 ∧ x4 < 14) (np_ck (np_R (σ 4 x4) ∧ np_R x3) (if σ 4 x4 ≤ x3 then (f_Chart_highestTerm_60 k5 x1 x2 x3 x4 σ) else ((f_Grammar_lastDot x4 σ).bind (fun o1 => (f_Chart_isReached x1 x2 o1.1 o1.2).bind (fun o2 => np_ck (np_R o2.1) (if o2.1 = 0 then (f_Chart_highestTerm_60 k5 x1 x2 x3 x4 o2.2) else (np_ck ((0 : Int) ≤ x4 ∧ x4 < 14) (f_Chart_highestTerm_60 k5 x1 x2 (o2.2 4 x4) x4 o2.2))))))))))
def f_Chart_highestTerm_5  : Nat → Int → Int → Int → Int → np_S → Option np_O
  | 0, _, _, _, _, _ => none
  | n + 1, x1, x2, x3, x4, σ => f_Chart_highestTerm_5_b  (fun x1 x2 x3 x4 σ => f_Chart_highestTerm_5  n x1 x2 x3 x4 σ) x1 x2 x3 x4 σ
def f_Chart_highestTerm  (x1 x2 : Int) (σ : np_S) : Option np_O := f_Chart_highestTerm_5 6000 x1 x2 ((-1)) 0 σ
def f_Chart_fillHoles_76 (k15 : (Int → Int → Int → Int → np_S → Option np_O)) (x3 x4 x5 x6 : Int) (σ : np_S) : Option np_O := k15 x3 x4 x5 (x6 + 1) σ
def f_Chart_fillHoles_15_b  (k15 : (Int → Int → Int → Int → np_S → Option np_O)) (x3 x4 x5 x6 : Int) (σ : np_S) : Option np_O := (f_Grammar_usedDots σ).bind (fun o1 => np_ck (np_R x6 ∧ np_R o1.1) (if o1.1 ≤ x6 then (some (0, o1.2)) else (np_ck ((0 : Int) ≤ x6 ∧ x6 < 105) (np_ck (np_R (o1.2 2 x6) ∧ np_R ((-1))) (if o1.2 2 x6 = (-1) then (f_Chart_fillHoles_76 k15 x3 x4 x5 x6 o1.2) else (np_ck (np_R (o1.2 2 x6) ∧ np_R x3) (if x3 < o1.2 2 x6 then (f_Chart_fillHoles_76 k15 x3 x4 x5 x6 o1.2) else (np_ck ((0 : Int) ≤ (x5 + x6) + 1 ∧ (x5 + x6) + 1 < 3038) (np_ck ((0 : Int) ≤ x4 + x6 ∧ x4 + x6 < 3038) (np_ck ((0 : Int) ≤ (x5 + x6) + 1 ∧ (x5 + x6) + 1 < 3038) (f_Chart_fillHoles_76 k15 x3 x4 x5 x6 (np_st o1.2 12 ((x5 + x6) + 1) (np_ori (o1.2 12 ((x5 + x6) + 1)) (o1.2 12 (x4 + x6)))))))))))))))
def f_Chart_fillHoles_15  : Nat → Int → Int → Int → Int → np_S → Option np_O
  | 0, _, _, _, _, _ => none
  | n + 1, x3, x4, x5, x6, σ => f_Chart_fillHoles_15_b  (fun x3 x4 x5 x6 σ => f_Chart_fillHoles_15  n x3 x4 x5 x6 σ) x3 x4 x5 x6 σ
def f_Chart_fillHoles  (x1 x2 x3 : Int) (σ : np_S) : Option np_O := f_Chart_fillHoles_15 6000 x3 (x1 * 98) (x2 * 98) 0 σ
def f_Chart_complete_27 (k4 : (Int → Int → np_S → Option np_O)) (x1 x2 : Int) (σ : np_S) : Option np_O := k4 x1 (x2 + (-1)) σ
def f_Chart_complete_4_b  (k4 : (Int → Int → np_S → Option np_O)) (x1 x2 : Int) (σ : np_S) : Option np_O := np_ck (np_R x2) (if x2 < 0 then (some (0, σ)) else ((f_Chart_highestTerm x2 x1 σ).bind (fun o1 => np_ck (np_R o1.1 ∧ np_R ((-1))) (if o1.1 = (-1) then (f_Chart_complete_27 k4 x1 x2 o1.2) else ((f_Chart_fillHoles x2 x1 o1.1 o1.2).bind (fun o2 => f_Chart_complete_27 k4 x1 x2 o2.2))))))
def f_Chart_complete_4  : Nat → Int → Int → np_S → Option np_O
  | 0, _, _, _ => none
  | n + 1, x1, x2, σ => f_Chart_complete_4_b  (fun x1 x2 σ => f_Chart_complete_4  n x1 x2 σ) x1 x2 σ
def f_Chart_complete  (x1 : Int) (σ : np_S) : Option np_O := f_Chart_complete_4 6000 x1 (x1 - 1) σ
def f_Chart_leastWanted_56 (k5 : (Int → Int → Int → np_S → Option np_O)) (x1 x2 x3 : Int) (σ : np_S) : Option np_O := k5 x1 x2 (x3 + 1) σ
def f_Chart_leastWanted_5_b  (k5 : (Int → Int → Int → np_S → Option np_O)) (x1 x2 x3 : Int) (σ : np_S) : Option np_O := (f_Grammar_usedDots σ).bind (fun o1 => np_ck (np_R x3 ∧ np_R o1.1) (if o1.1 ≤ x3 then (some (x2, o1.2)) else (np_ck ((0 : Int) ≤ x3 ∧ x3 < 105) (np_ck (np_R (o1.2 2 x3) ∧ np_R ((-1))) (if o1.2 2 x3 = (-1) then (f_Chart_leastWanted_56 k5 x1 x2 x3 o1.2) else (np_ck (np_R (o1.2 2 x3) ∧ np_R x2) (if x2 ≤ o1.2 2 x3 then (f_Chart_leastWanted_56 k5 x1 x2 x3 o1.2) else (np_ck ((0 : Int) ≤ (x1 * 98) + x3 ∧ (x1 * 98) + x3 < 3038) (np_ck (np_R (o1.2 12 ((x1 * 98) + x3))) (if o1.2 12 ((x1 * 98) + x3) = 0 then (f_Chart_leastWanted_56 k5 x1 x2 x3 o1.2) else (f_Chart_leastWanted_56 k5 x1 (o1.2 2 x3) x3 o1.2)))))))))))
def f_Chart_leastWanted_5  : Nat → Int → Int → Int → np_S → Option np_O
  | 0, _, _, _, _ => none
  | n + 1, x1, x2, x3, σ => f_Chart_leastWanted_5_b  (fun x1 x2 x3 σ => f_Chart_leastWanted_5  n x1 x2 x3 σ) x1 x2 x3 σ
def f_Chart_leastWanted  (x1 : Int) (σ : np_S) : Option np_O := f_Chart_leastWanted_5 6000 x1 11 0 σ
def f_Chart_leastFirstHole_57 (k4 : (Int → Int → Int → np_S → Option np_O)) (x1 x2 x3 : Int) (σ : np_S) : Option np_O := k4 x1 x2 (x3 + 1) σ
def f_Chart_leastFirstHole_4_b  (k4 : (Int → Int → Int → np_S → Option np_O)) (x1 x2 x3 : Int) (σ : np_S) : Option np_O := np_ck (np_R x3 ∧ np_R (σ 1 4)) (if σ 1 4 ≤ x3 then (some (x2, σ)) else (np_ck ((0 : Int) ≤ x3 * 7 ∧ x3 * 7 < 105) (np_ck ((0 : Int) ≤ x3 ∧ x3 < 14) (np_ck (np_R (σ 4 x3) ∧ np_R x1) (if σ 4 x3 < x1 then (f_Chart_leastFirstHole_57 k4 x1 x2 x3 σ) else (np_ck (np_R (σ 2 (x3 * 7)) ∧ np_R ((-1))) (if σ 2 (x3 * 7) = (-1) then (f_Chart_leastFirstHole_57 k4 x1 x2 x3 σ) else (np_ck (np_R (σ 2 (x3 * 7)) ∧ np_R x2) (if x2 ≤ σ 2 (x3 * 7) then (f_Chart_leastFirstHole_57 k4 x1 x2 x3 σ) else (f_Chart_leastFirstHole_57 k4 x1 (σ 2 (x3 * 7)) x3 σ))))))))))
def f_Chart_leastFirstHole_4  : Nat → Int → Int → Int → np_S → Option np_O
  | 0, _, _, _, _ => none
  | n + 1, x1, x2, x3, σ => f_Chart_leastFirstHole_4_b  (fun x1 x2 x3 σ => f_Chart_leastFirstHole_4  n x1 x2 x3 σ) x1 x2 x3 σ
def f_Chart_leastFirstHole  (x1 : Int) (σ : np_S) : Option np_O := f_Chart_leastFirstHole_4 6000 x1 x1 2 σ
def f_Chart_predict_96 (k52 : (Int → Int → Int → np_S → Option np_O)) (x1 x3 x5 : Int) (σ : np_S) : Option np_O := k52 x1 x3 (x5 + 1) σ
def f_Chart_predict_52_b  (k52 : (Int → Int → Int → np_S → Option np_O)) (x1 x3 x5 : Int) (σ : np_S) : Option np_O := np_ck (np_R x5 ∧ np_R (σ 1 4)) (if σ 1 4 ≤ x5 then (some (0, σ)) else (np_ck ((0 : Int) ≤ x5 ∧ x5 < 14) (np_ck (np_R (σ 4 x5) ∧ np_R x3) (if σ 4 x5 < x3 then (f_Chart_predict_96 k52 x1 x3 x5 σ) else (np_ck ((0 : Int) ≤ (x1 * 98) + (x5 * 7) ∧ (x1 * 98) + (x5 * 7) < 3038) (f_Chart_predict_96 k52 x1 x3 x5 (np_st σ 12 ((x1 * 98) + (x5 * 7)) (np_shli 1 x1))))))))
def f_Chart_predict_52  : Nat → Int → Int → Int → np_S → Option np_O
  | 0, _, _, _, _ => none
  | n + 1, x1, x3, x5, σ => f_Chart_predict_52_b  (fun x1 x3 x5 σ => f_Chart_predict_52  n x1 x3 x5 σ) x1 x3 x5 σ
def f_Chart_predict_49  (x1 x3 : Int) (σ : np_S) : Option np_O := f_Chart_predict_52 6000 x1 x3 0 σ
def f_Chart_predict_41 (k8 : (Int → Int → Int → Int → np_S → Option np_O)) (x1 x3 x5 t0 : Int) (σ : np_S) : Option np_O := k8 x1 x3 t0 (x5 + 1) σ
def f_Chart_predict_8_b  (k8 : (Int → Int → Int → Int → np_S → Option np_O)) (x1 x3 x4 x5 : Int) (σ : np_S) : Option np_O := np_ck (np_R x5 ∧ np_R 10) (if (10 : Int) < x5 then (f_Chart_predict_49 x1 x3 σ) else (np_ck (np_R x4) (if x4 = 0 then (f_Chart_predict_49 x1 x3 σ) else ((f_Chart_leastFirstHole x3 σ).bind (fun o1 => np_ck (np_R o1.1 ∧ np_R x3) (if x3 ≤ o1.1 then (f_Chart_predict_41 k8 x1 o1.1 x5 0 o1.2) else (f_Chart_predict_41 k8 x1 o1.1 x5 1 o1.2)))))))
def f_Chart_predict_8  : Nat → Int → Int → Int → Int → np_S → Option np_O
  | 0, _, _, _, _, _ => none
  | n + 1, x1, x3, x4, x5, σ => f_Chart_predict_8_b  (fun x1 x3 x4 x5 σ => f_Chart_predict_8  n x1 x3 x4 x5 σ) x1 x3 x4 x5 σ
def f_Chart_predict  (x1 x2 : Int) (σ : np_S) : Option np_O := f_Chart_predict_8 6000 x1 x2 1 0 σ
def f_Chart_follow_13_b  (k13 : (Int → Int → np_S → Option np_O)) (x2 x3 : Int) (σ : np_S) : Option np_O := np_ck (np_R x3 ∧ np_R x2) (if x2 ≤ x3 then (some (x2, σ)) else ((f_Chart_emptyRow (x3 + 1) σ).bind (fun o1 => np_ck ((0 : Int) ≤ x3 ∧ x3 < 30) ((f_Chart_scan x3 (o1.2 9 x3) o1.2).bind (fun o2 => np_ck (np_R o2.1) (if o2.1 ≠ 0 then ((f_Chart_complete (x3 + 1) o2.2).bind (fun o3 => (f_Chart_leastWanted (x3 + 1) o3.2).bind (fun o4 => (f_Chart_predict (x3 + 1) o4.1 o4.2).bind (fun o5 => k13 x2 (x3 + 1) o5.2)))) else (some (x3, o2.2))))))))
def f_Chart_follow_13  : Nat → Int → Int → np_S → Option np_O
  | 0, _, _, _ => none
  | n + 1, x2, x3, σ => f_Chart_follow_13_b  (fun x2 x3 σ => f_Chart_follow_13  n x2 x3 σ) x2 x3 σ
def f_Chart_follow  (x2 : Int) (σ : np_S) : Option np_O := (f_Chart_emptyRow 0 σ).bind (fun o6 => (f_Chart_predict 0 0 o6.2).bind (fun o7 => f_Chart_follow_13 6000 x2 0 o7.2))
def f_Chart_isWhole_15  (t0 : Int) (σ : np_S) : Option np_O := np_ck (t0 = 0 ∨ t0 = 1) (some (t0, σ))
def f_Chart_isWhole  (x1 : Int) (σ : np_S) : Option np_O := (f_Chart_highestTerm 0 x1 σ).bind (fun o1 => np_ck (np_R o1.1 ∧ np_R ((-1))) (if o1.1 = (-1) then (f_Chart_isWhole_15 0 o1.2) else (f_Chart_isWhole_15 1 o1.2)))
def f_N_noteFault  (x1 x2 : Int) (σ : np_S) : Option np_O := some (0, (np_st (np_st σ 0 5 x1) 0 6 x2))
def f_N_findFault_114  (σ : np_S) : Option np_O := some (0, σ)
def f_N_findFault  (σ : np_S) : Option np_O := (f_Chart_follow (σ 6 5) σ).bind (fun o1 => np_ck (np_R o1.1 ∧ np_R (o1.2 6 5)) (if o1.2 6 5 ≤ o1.1 then (np_ck (np_R (o1.2 6 6) ∧ np_R ((-1))) (if o1.2 6 6 = (-1) then ((f_Chart_isWhole (o1.2 6 5) o1.2).bind (fun o2 => np_ck (np_R o2.1) (if o2.1 ≠ 0 then ((f_N_noteFault 0 ((-1)) o2.2).bind (fun o3 => f_N_findFault_114 o3.2)) else ((f_N_noteFault 1 (o2.2 6 1) o2.2).bind (fun o4 => f_N_findFault_114 o4.2))))) else ((f_N_noteFault 2 (o1.2 6 6) o1.2).bind (fun o5 => f_N_findFault_114 o5.2)))) else (np_ck ((0 : Int) ≤ o1.1 ∧ o1.1 < 30) ((f_N_noteFault 1 (o1.2 10 o1.1) o1.2).bind (fun o6 => f_N_findFault_114 o6.2)))))
def f_N_fault  (x1 : Int) (σ : np_S) : Option np_O := np_ck (np_R x1) (if x1 = 0 then (some (σ 0 5, σ)) else (if x1 = 1 then (some (σ 0 6, σ)) else (some ((-1), σ))))
def f_Tree_levelWithin_27  (x2 : Int) (σ : np_S) : Option np_O := np_ck ((0 : Int) ≤ x2 ∧ x2 < 30) (np_ck ((0 : Int) ≤ σ 16 x2 ∧ σ 16 x2 < 14) (some (σ 4 (σ 16 x2), σ)))
def f_Tree_levelWithin_2_b  (k2 : (Int → np_S → Option np_O)) (x2 : Int) (σ : np_S) : Option np_O := np_ck (np_R x2 ∧ np_R ((σ 15 2) - 1)) (if (σ 15 2) - 1 ≤ x2 then (f_Tree_levelWithin_27 x2 σ) else (np_ck ((0 : Int) ≤ x2 ∧ x2 < 30) (np_ck (np_R (σ 16 x2)) (if σ 16 x2 ≠ 0 then (f_Tree_levelWithin_27 x2 σ) else (k2 (x2 + 1) σ)))))
def f_Tree_levelWithin_2  : Nat → Int → np_S → Option np_O
  | 0, _, _ => none
  | n + 1, x2, σ => f_Tree_levelWithin_2_b  (fun x2 σ => f_Tree_levelWithin_2  n x2 σ) x2 σ
def f_Tree_levelWithin  (x1 : Int) (σ : np_S) : Option np_O := f_Tree_levelWithin_2 6000 x1 σ
def f_Tree_needlessBrackets_64 (k4 : (Int → Int → np_S → Option np_O)) (x1 x2 : Int) (σ : np_S) : Option np_O := k4 x1 (x2 + 1) σ
def f_Tree_needlessBrackets_4_b  (k4 : (Int → Int → np_S → Option np_O)) (x1 x2 : Int) (σ : np_S) : Option np_O := np_ck (np_R x2 ∧ np_R (σ 15 2)) (if σ 15 2 ≤ x2 then (some (x1, σ)) else (np_ck ((0 : Int) ≤ x2 ∧ x2 < 30) (np_ck (np_R (σ 16 x2)) (if σ 16 x2 ≠ 0 then (f_Tree_needlessBrackets_64 k4 x1 x2 σ) else ((f_Tree_levelWithin x2 σ).bind (fun o1 => np_ck ((0 : Int) ≤ x2 ∧ x2 < 30) (np_ck (np_R o1.1 ∧ np_R (o1.2 21 x2)) (if o1.1 < o1.2 21 x2 then (f_Tree_needlessBrackets_64 k4 x1 x2 o1.2) else (np_ck ((0 : Int) ≤ x2 ∧ x2 < 30) (np_ck ((0 : Int) ≤ x2 ∧ x2 < 30) (np_ck ((0 : Int) ≤ x2 ∧ x2 < 30) (f_Tree_needlessBrackets_64 k4 (np_ori x1 (np_ori (np_shli 1 (o1.2 18 x2)) (np_shli 1 (((o1.2 18 x2) + (o1.2 19 x2)) - 1)))) x2 o1.2))))))))))))
def f_Tree_needlessBrackets_4  : Nat → Int → Int → np_S → Option np_O
  | 0, _, _, _ => none
  | n + 1, x1, x2, σ => f_Tree_needlessBrackets_4_b  (fun x1 x2 σ => f_Tree_needlessBrackets_4  n x1 x2 σ) x1 x2 σ
def f_Tree_needlessBrackets  (σ : np_S) : Option np_O := f_Tree_needlessBrackets_4 6000 0 0 σ
def f_Output_addByte_33  (σ : np_S) : Option np_O := some (0, σ)
def f_Output_addByte  (x1 : Int) (σ : np_S) : Option np_O := np_ck (np_R (σ 26 1) ∧ np_R 230) (if (230 : Int) ≤ σ 26 1 then (f_Output_addByte_33 σ) else (np_ck ((0 : Int) ≤ σ 26 1 ∧ σ 26 1 < 230) (f_Output_addByte_33 (np_st (np_st σ 27 (σ 26 1) (Int.bmod (Int.bmod x1 256) 256)) 26 1 (((np_st σ 27 (σ 26 1) (Int.bmod (Int.bmod x1 256) 256)) 26 1) + 1)))))
def f_Output_writeWord_25 (k3 : (Int → Int → np_S → Option np_O)) (x1 x3 : Int) (σ : np_S) : Option np_O := k3 x1 (x3 + (-1)) σ
def f_Output_writeWord_3_b  (k3 : (Int → Int → np_S → Option np_O)) (x1 x3 : Int) (σ : np_S) : Option np_O := np_ck (np_R x3) (if x3 < 0 then (some (0, σ)) else ((f_Spelling_byteOf x1 x3 σ).bind (fun o1 => np_ck (np_R o1.1) (if o1.1 = 0 then (f_Output_writeWord_25 k3 x1 x3 o1.2) else ((f_Output_addByte o1.1 o1.2).bind (fun o2 => f_Output_writeWord_25 k3 x1 x3 o2.2))))))
def f_Output_writeWord_3  : Nat → Int → Int → np_S → Option np_O
  | 0, _, _, _ => none
  | n + 1, x1, x3, σ => f_Output_writeWord_3_b  (fun x1 x3 σ => f_Output_writeWord_3  n x1 x3 σ) x1 x3 σ
def f_Output_writeWord  (x1 : Int) (σ : np_S) : Option np_O := f_Output_writeWord_3 6000 x1 7 σ
def f_Output_writeWords_46 (k7 : (Int → Int → np_S → Option np_O)) (x2 x3 : Int) (σ : np_S) : Option np_O := k7 x2 (x3 + 1) σ
def f_Output_writeWords_36 (k7 : (Int → Int → np_S → Option np_O)) (x2 x3 : Int) (σ : np_S) : Option np_O := np_ck ((0 : Int) ≤ x3 ∧ x3 < 30) ((f_Output_writeWord (σ 8 x3) σ).bind (fun o1 => f_Output_writeWords_46 k7 x2 x3 o1.2))
def f_Output_writeWords_7_b  (k7 : (Int → Int → np_S → Option np_O)) (x2 x3 : Int) (σ : np_S) : Option np_O := np_ck (np_R x3 ∧ np_R (σ 6 5)) (if σ 6 5 ≤ x3 then (some (0, σ)) else (np_ck (np_R (np_andi (np_ushri x2 x3) 1)) (if np_andi (np_ushri x2 x3) 1 ≠ 0 then (f_Output_writeWords_46 k7 x2 x3 σ) else (np_ck (np_R (σ 26 1)) (if σ 26 1 ≤ 0 then (f_Output_writeWords_36 k7 x2 x3 σ) else ((f_Output_addByte 32 σ).bind (fun o2 => f_Output_writeWords_36 k7 x2 x3 o2.2)))))))
def f_Output_writeWords_7  : Nat → Int → Int → np_S → Option np_O
  | 0, _, _, _ => none
  | n + 1, x2, x3, σ => f_Output_writeWords_7_b  (fun x2 x3 σ => f_Output_writeWords_7  n x2 x3 σ) x2 x3 σ
def f_Output_writeWords  (x2 : Int) (σ : np_S) : Option np_O := f_Output_writeWords_7 6000 x2 0 (np_st σ 26 1 0)
def f_N_at_28  (t0 : Int) (σ : np_S) : Option np_O := some (t0, σ)
def f_N_at_15  (σ : np_S) : Option np_O := f_N_at_28 ((-1)) σ
def f_N_at  (x1 : Int) (σ : np_S) : Option np_O := np_ck (np_R x1) (if x1 < 0 then (f_N_at_15 σ) else (np_ck (np_R x1 ∧ np_R (σ 26 1)) (if x1 < σ 26 1 then (np_ck ((0 : Int) ≤ x1 ∧ x1 < 230) (f_N_at_28 (σ 27 x1) σ)) else (f_N_at_15 σ))))
def f_N_about  (x1 : Int) (σ : np_S) : Option np_O := np_ck (np_R x1) (if x1 = 0 then (some ((σ 1 4) - 2, σ)) else (if x1 = 1 then (some (σ 1 5, σ)) else (if x1 = 2 then (some (σ 6 1, σ)) else (if x1 = 3 then (some (σ 15 2, σ)) else (if x1 = 4 then (some (σ 26 1, σ)) else (some ((-1), σ)))))))
def f_Grammar_handEndsInHole_32  (t0 : Int) (σ : np_S) : Option np_O := np_ck (t0 = 0 ∨ t0 = 1) (some (t0, σ))
def f_Grammar_handEndsInHole_31  (σ : np_S) : Option np_O := f_Grammar_handEndsInHole_32 0 σ
def f_Grammar_handEndsInHole  (σ : np_S) : Option np_O := np_ck (np_R (σ 1 5)) (if σ 1 5 ≤ 0 then (f_Grammar_handEndsInHole_31 σ) else ((f_Grammar_usedDots σ).bind (fun o1 => np_ck ((0 : Int) ≤ (o1.1 + (o1.2 1 5)) - 1 ∧ (o1.1 + (o1.2 1 5)) - 1 < 105) (np_ck (np_R (o1.2 2 ((o1.1 + (o1.2 1 5)) - 1)) ∧ np_R ((-1))) (if o1.2 2 ((o1.1 + (o1.2 1 5)) - 1) = (-1) then (f_Grammar_handEndsInHole_31 o1.2) else (f_Grammar_handEndsInHole_32 1 o1.2))))))
def f_Grammar_handHasWord_2_b  (k2 : (Int → np_S → Option np_O)) (x1 : Int) (σ : np_S) : Option np_O := np_ck (np_R x1 ∧ np_R (σ 1 5)) (if σ 1 5 ≤ x1 then (np_ck ((0 : Int) = 0 ∨ (0 : Int) = 1) (some (0, σ))) else ((f_Grammar_usedDots σ).bind (fun o1 => np_ck ((0 : Int) ≤ o1.1 + x1 ∧ o1.1 + x1 < 105) (np_ck (np_R6 (o1.2 3 (o1.1 + x1)) ∧ np_R6 ((-1))) (np_ck (np_R (np_cmp (o1.2 3 (o1.1 + x1)) ((-1)))) (if np_cmp (o1.2 3 (o1.1 + x1)) ((-1)) = 0 then (k2 (x1 + 1) o1.2) else (np_ck ((1 : Int) = 0 ∨ (1 : Int) = 1) (some (1, o1.2)))))))))
def f_Grammar_handHasWord_2  : Nat → Int → np_S → Option np_O
  | 0, _, _ => none
  | n + 1, x1, σ => f_Grammar_handHasWord_2_b  (fun x1 σ => f_Grammar_handHasWord_2  n x1 σ) x1 σ
def f_Grammar_handHasWord  (σ : np_S) : Option np_O := f_Grammar_handHasWord_2 6000 0 σ
def f_Grammar_takePart  (x1 x2 : Int) (σ : np_S) : Option np_O := (f_Grammar_usedDots σ).bind (fun o1 => np_ck ((0 : Int) ≤ o1.1 + (o1.2 1 5) ∧ o1.1 + (o1.2 1 5) < 105) ((f_Grammar_usedDots (np_st o1.2 2 (o1.1 + (o1.2 1 5)) x1)).bind (fun o2 => np_ck ((0 : Int) ≤ o2.1 + (o2.2 1 5) ∧ o2.1 + (o2.2 1 5) < 105) (some ((np_st (np_st o2.2 3 (o2.1 + (o2.2 1 5)) x2) 1 5 (((np_st o2.2 3 (o2.1 + (o2.2 1 5)) x2) 1 5) + 1)) 1 5, (np_st (np_st o2.2 3 (o2.1 + (o2.2 1 5)) x2) 1 5 (((np_st o2.2 3 (o2.1 + (o2.2 1 5)) x2) 1 5) + 1)))))))
def f_Grammar_makeRule  (x1 : Int) (σ : np_S) : Option np_O := np_ck ((0 : Int) ≤ σ 1 4 ∧ σ 1 4 < 14) (np_ck ((0 : Int) ≤ σ 1 4 ∧ σ 1 4 < 14) (some (σ 1 4, (np_st (np_st (np_st (np_st σ 4 (σ 1 4) x1) 5 (σ 1 4) ((np_st σ 4 (σ 1 4) x1) 1 5)) 1 4 (((np_st (np_st σ 4 (σ 1 4) x1) 5 (σ 1 4) ((np_st σ 4 (σ 1 4) x1) 1 5)) 1 4) + 1)) 1 5 0))))
def f_Grammar_hasKey_3_b  (k3 : (Int → Int → np_S → Option np_O)) (x1 x3 : Int) (σ : np_S) : Option np_O := (f_Grammar_usedDots σ).bind (fun o1 => np_ck (np_R x3 ∧ np_R o1.1) (if o1.1 ≤ x3 then (np_ck ((0 : Int) = 0 ∨ (0 : Int) = 1) (some (0, o1.2))) else (np_ck ((0 : Int) ≤ x3 ∧ x3 < 105) (np_ck (np_R6 (o1.2 3 x3) ∧ np_R6 x1) (np_ck (np_R (np_cmp (o1.2 3 x3) x1)) (if np_cmp (o1.2 3 x3) x1 ≠ 0 then (k3 x1 (x3 + 1) o1.2) else (np_ck ((1 : Int) = 0 ∨ (1 : Int) = 1) (some (1, o1.2)))))))))
def f_Grammar_hasKey_3  : Nat → Int → Int → np_S → Option np_O
  | 0, _, _, _ => none
  | n + 1, x1, x3, σ => f_Grammar_hasKey_3_b  (fun x1 x3 σ => f_Grammar_hasKey_3  n x1 x3 σ) x1 x3 σ
def f_Grammar_hasKey  (x1 : Int) (σ : np_S) : Option np_O := f_Grammar_hasKey_3 6000 x1 14 σ
def f_Text_takeRow_33  (x1 : Int) (σ : np_S) : Option np_O := some (0, (np_st σ 6 6 x1))
def f_Text_takeRow_134  (x1 t1 t2 : Int) (σ : np_S) : Option np_O := np_ck ((0 : Int) ≤ t1 ∧ t1 < 30) (np_ck ((0 : Int) ≤ (np_st σ 9 t1 t2) 6 5 ∧ (np_st σ 9 t1 t2) 6 5 < 30) (some (0, (np_st (np_st (np_st σ 9 t1 t2) 10 ((np_st σ 9 t1 t2) 6 5) x1) 6 5 (((np_st (np_st σ 9 t1 t2) 10 ((np_st σ 9 t1 t2) 6 5) x1) 6 5) + 1)))))
def f_Text_takeRow_132  (x1 x6 t1 : Int) (σ : np_S) : Option np_O := f_Text_takeRow_134 x1 t1 x6 σ
def f_Text_takeRow_92  (x1 x6 t0 : Int) (σ : np_S) : Option np_O := np_ck ((0 : Int) ≤ σ 6 5 ∧ σ 6 5 < 30) (np_ck (np_R t0) (if t0 = 0 then (f_Text_takeRow_132 x1 x6 ((np_st σ 8 (σ 6 5) x6) 6 5) (np_st σ 8 (σ 6 5) x6)) else ((f_Grammar_hasKey x6 (np_st σ 8 (σ 6 5) x6)).bind (fun o1 => np_ck (np_R o1.1) (if o1.1 ≠ 0 then (f_Text_takeRow_132 x1 x6 ((np_st σ 8 (σ 6 5) x6) 6 5) o1.2) else (f_Text_takeRow_134 x1 ((np_st σ 8 (σ 6 5) x6) 6 5) 0 o1.2))))))
def f_Text_takeRow_87  (x1 x6 : Int) (σ : np_S) : Option np_O := f_Text_takeRow_92 x1 x6 1 σ
def f_Text_takeRow_45_b  (k45 : (Int → Int → Int → Int → Int → np_S → Option np_O)) (x1 x2 x3 x6 x8 : Int) (σ : np_S) : Option np_O := np_ck (np_R x8 ∧ np_R x2) (if x2 ≤ x8 then (np_ck (np_R x3 ∧ np_R 2) (if x3 = 2 then (f_Text_takeRow_87 x1 x6 σ) else (np_ck (np_R x3 ∧ np_R 3) (if x3 ≠ 3 then (f_Text_takeRow_92 x1 x6 0 σ) else (f_Text_takeRow_87 x1 x6 σ))))) else (np_ck ((0 : Int) ≤ x8 ∧ x8 < 200) (np_ck (np_R (np_andi (σ 7 x8) 255)) (k45 x1 x2 x3 (np_orl (np_shll x6 8) (np_andi (σ 7 x8) 255)) (x8 + 1) σ))))
def f_Text_takeRow_45  : Nat → Int → Int → Int → Int → Int → np_S → Option np_O
  | 0, _, _, _, _, _, _ => none
  | n + 1, x1, x2, x3, x6, x8, σ => f_Text_takeRow_45_b  (fun x1 x2 x3 x6 x8 σ => f_Text_takeRow_45  n x1 x2 x3 x6 x8 σ) x1 x2 x3 x6 x8 σ
def f_Text_takeRow_13  (x1 x2 x3 t0 : Int) (σ : np_S) : Option np_O := np_ck (np_R x3) (if x3 = 0 then (f_Text_takeRow_33 x1 σ) else (np_ck (np_R t0) (if t0 ≠ 0 then (f_Text_takeRow_33 x1 σ) else (np_ck (np_R (σ 6 5) ∧ np_R 30) (if σ 6 5 < 30 then (f_Text_takeRow_45 6000 x1 x2 x3 0 x1 σ) else (f_Text_takeRow_33 x1 σ))))))
def f_Text_takeRow  (x1 x2 x3 : Int) (σ : np_S) : Option np_O := np_ck (np_R (x2 - x1) ∧ np_R 8) (if x2 - x1 ≤ 8 then (f_Text_takeRow_13 x1 x2 x3 0 σ) else (f_Text_takeRow_13 x1 x2 x3 1 σ))
def f_Chart_cell  (x1 x2 x3 : Int) (σ : np_S) : Option np_O := np_ck ((0 : Int) ≤ x2 * (x2 - 1) ∧ np_R (x2 * (x2 - 1)) ∧ (0 : Int) < 2 ∧ np_R 2) (some (((((x2 * (x2 - 1)) / 2) + x1) * 11) + x3, σ))
def f_Chart_addTrees  (x1 x2 : Int) (σ : np_S) : Option np_O := np_ck ((0 : Int) ≤ x1 ∧ x1 < 5115) (np_ck (np_R ((σ 14 x1) + x2) ∧ np_R 1000000) (np_ck ((0 : Int) ≤ x1 ∧ x1 < 5115) (some (0, (np_st σ 14 x1 (np_min ((σ 14 x1) + x2) 1000000))))))
def f_Chart_sumTerms_109_b  (k109 : (Int → Int → np_S → Option np_O)) (x3 x4 : Int) (σ : np_S) : Option np_O := np_ck (np_R x4) (if x4 < 0 then (some (0, σ)) else (np_ck ((0 : Int) ≤ (x3 + x4) + 1 ∧ (x3 + x4) + 1 < 5115) ((f_Chart_addTrees (x3 + x4) (σ 14 ((x3 + x4) + 1)) σ).bind (fun o1 => k109 x3 (x4 + (-1)) o1.2))))
def f_Chart_sumTerms_109  : Nat → Int → Int → np_S → Option np_O
  | 0, _, _, _ => none
  | n + 1, x3, x4, σ => f_Chart_sumTerms_109_b  (fun x3 x4 σ => f_Chart_sumTerms_109  n x3 x4 σ) x3 x4 σ
def f_Chart_sumTerms_99 (k37 : (Int → Int → Int → Int → np_S → Option np_O)) (x1 x2 x3 x4 : Int) (σ : np_S) : Option np_O := k37 x1 x2 x3 (x4 + 1) σ
def f_Chart_sumTerms_37_b  (k37 : (Int → Int → Int → Int → np_S → Option np_O)) (x1 x2 x3 x4 : Int) (σ : np_S) : Option np_O := np_ck (np_R x4 ∧ np_R (σ 1 4)) (if σ 1 4 ≤ x4 then (f_Chart_sumTerms_109 6000 x3 9 σ) else ((f_Grammar_lastDot x4 σ).bind (fun o2 => (f_Chart_isReached x1 x2 o2.1 o2.2).bind (fun o3 => np_ck (np_R o3.1) (if o3.1 = 0 then (f_Chart_sumTerms_99 k37 x1 x2 x3 x4 o3.2) else (np_ck ((0 : Int) ≤ x4 ∧ x4 < 14) (np_ck ((0 : Int) ≤ (x2 * 98) + o2.1 ∧ (x2 * 98) + o2.1 < 3038) ((f_Chart_addTrees (x3 + (o3.2 4 x4)) (o3.2 13 ((x2 * 98) + o2.1)) o3.2).bind (fun o4 => f_Chart_sumTerms_99 k37 x1 x2 x3 x4 o4.2)))))))))
def f_Chart_sumTerms_37  : Nat → Int → Int → Int → Int → np_S → Option np_O
  | 0, _, _, _, _, _ => none
  | n + 1, x1, x2, x3, x4, σ => f_Chart_sumTerms_37_b  (fun x1 x2 x3 x4 σ => f_Chart_sumTerms_37  n x1 x2 x3 x4 σ) x1 x2 x3 x4 σ
def f_Chart_sumTerms_11_b  (k11 : (Int → Int → Int → Int → np_S → Option np_O)) (x1 x2 x3 x4 : Int) (σ : np_S) : Option np_O := np_ck (np_R x4 ∧ np_R 10) (if (10 : Int) < x4 then (f_Chart_sumTerms_37 6000 x1 x2 x3 0 σ) else (np_ck ((0 : Int) ≤ x3 + x4 ∧ x3 + x4 < 5115) (k11 x1 x2 x3 (x4 + 1) (np_st σ 14 (x3 + x4) 0))))
def f_Chart_sumTerms_11  : Nat → Int → Int → Int → Int → np_S → Option np_O
  | 0, _, _, _, _, _ => none
  | n + 1, x1, x2, x3, x4, σ => f_Chart_sumTerms_11_b  (fun x1 x2 x3 x4 σ => f_Chart_sumTerms_11  n x1 x2 x3 x4 σ) x1 x2 x3 x4 σ
def f_Chart_sumTerms  (x1 x2 : Int) (σ : np_S) : Option np_O := (f_Chart_cell x1 x2 0 σ).bind (fun o5 => f_Chart_sumTerms_11 6000 x1 x2 o5.1 0 o5.2)
def f_Chart_countFirstHoles_64 (k2 : (Int → Int → Int → np_S → Option np_O)) (x1 x2 x3 : Int) (σ : np_S) : Option np_O := k2 x1 x2 (x3 + 1) σ
def f_Chart_countFirstHoles_2_b  (k2 : (Int → Int → Int → np_S → Option np_O)) (x1 x2 x3 : Int) (σ : np_S) : Option np_O := np_ck (np_R x3 ∧ np_R (σ 1 4)) (if σ 1 4 ≤ x3 then (some (0, σ)) else (np_ck ((0 : Int) ≤ x3 * 7 ∧ x3 * 7 < 105) (np_ck (np_R (σ 2 (x3 * 7)) ∧ np_R ((-1))) (if σ 2 (x3 * 7) = (-1) then (f_Chart_countFirstHoles_64 k2 x1 x2 x3 σ) else ((f_Chart_cell x1 x2 (σ 2 (x3 * 7)) σ).bind (fun o1 => np_ck ((0 : Int) ≤ o1.1 ∧ o1.1 < 5115) (np_ck ((0 : Int) ≤ ((x2 * 98) + (x3 * 7)) + 1 ∧ ((x2 * 98) + (x3 * 7)) + 1 < 3038) (f_Chart_countFirstHoles_64 k2 x1 x2 x3 (np_st o1.2 13 (((x2 * 98) + (x3 * 7)) + 1) (o1.2 14 o1.1))))))))))
def f_Chart_countFirstHoles_2  : Nat → Int → Int → Int → np_S → Option np_O
  | 0, _, _, _, _ => none
  | n + 1, x1, x2, x3, σ => f_Chart_countFirstHoles_2_b  (fun x1 x2 x3 σ => f_Chart_countFirstHoles_2  n x1 x2 x3 σ) x1 x2 x3 σ
def f_Chart_countFirstHoles  (x1 x2 : Int) (σ : np_S) : Option np_O := f_Chart_countFirstHoles_2 6000 x1 x2 0 σ
def f_Chart_countSplits_60 (k8 : (Int → Int → Int → Int → Int → Int → np_S → Option np_O)) (x1 x2 x3 x4 x5 x7 : Int) (σ : np_S) : Option np_O := k8 x1 x2 x3 x4 x5 (x7 + 1) σ
def f_Chart_countSplits_8_b  (k8 : (Int → Int → Int → Int → Int → Int → np_S → Option np_O)) (x1 x2 x3 x4 x5 x7 : Int) (σ : np_S) : Option np_O := np_ck (np_R x7 ∧ np_R x4) (if x4 ≤ x7 then (np_ck (np_R6 x5 ∧ np_R6 1000000) (some (np_min x5 1000000, σ))) else ((f_Chart_isReached x3 x7 x1 σ).bind (fun o1 => np_ck (np_R o1.1) (if o1.1 = 0 then (f_Chart_countSplits_60 k8 x1 x2 x3 x4 x5 x7 o1.2) else (np_ck ((0 : Int) ≤ (x7 * 98) + x1 ∧ (x7 * 98) + x1 < 3038) (np_ck (np_R (o1.2 13 ((x7 * 98) + x1))) ((f_Chart_cell x7 x4 x2 o1.2).bind (fun o2 => np_ck ((0 : Int) ≤ o2.1 ∧ o2.1 < 5115) (np_ck (np_R (o2.2 14 o2.1)) (f_Chart_countSplits_60 k8 x1 x2 x3 x4 (x5 + ((o1.2 13 ((x7 * 98) + x1)) * (o2.2 14 o2.1))) x7 o2.2))))))))))
def f_Chart_countSplits_8  : Nat → Int → Int → Int → Int → Int → Int → np_S → Option np_O
  | 0, _, _, _, _, _, _, _ => none
  | n + 1, x1, x2, x3, x4, x5, x7, σ => f_Chart_countSplits_8_b  (fun x1 x2 x3 x4 x5 x7 σ => f_Chart_countSplits_8  n x1 x2 x3 x4 x5 x7 σ) x1 x2 x3 x4 x5 x7 σ
def f_Chart_countSplits  (x1 x2 x3 x4 : Int) (σ : np_S) : Option np_O := f_Chart_countSplits_8 6000 x1 x2 x3 x4 0 (x3 + 1) σ
def f_Chart_countRule_124 (k22 : (Int → Int → Int → Int → Int → np_S → Option np_O)) (x2 x3 x4 x5 x6 : Int) (σ : np_S) : Option np_O := k22 x2 x3 x4 x5 (x6 + 1) σ
def f_Chart_countRule_22_b  (k22 : (Int → Int → Int → Int → Int → np_S → Option np_O)) (x2 x3 x4 x5 x6 : Int) (σ : np_S) : Option np_O := np_ck (np_R x6 ∧ np_R x5) (if x5 < x6 then (some (0, σ)) else ((f_Chart_isReached x2 x3 x6 σ).bind (fun o1 => np_ck (np_R o1.1) (if o1.1 = 0 then (f_Chart_countRule_124 k22 x2 x3 x4 x5 x6 o1.2) else (np_ck ((0 : Int) ≤ x6 - 1 ∧ x6 - 1 < 105) (np_ck (np_R (o1.2 2 (x6 - 1)) ∧ np_R ((-1))) (if o1.2 2 (x6 - 1) ≠ (-1) then (np_ck (np_R x6 ∧ np_R (x4 + 1)) (if x6 ≤ x4 + 1 then (f_Chart_countRule_124 k22 x2 x3 x4 x5 x6 o1.2) else ((f_Chart_countSplits (x6 - 1) (o1.2 2 (x6 - 1)) x2 x3 o1.2).bind (fun o2 => np_ck ((0 : Int) ≤ (x3 * 98) + x6 ∧ (x3 * 98) + x6 < 3038) (f_Chart_countRule_124 k22 x2 x3 x4 x5 x6 (np_st o2.2 13 ((x3 * 98) + x6) o2.1)))))) else (np_ck ((0 : Int) ≤ (((x3 - 1) * 98) + x6) - 1 ∧ (((x3 - 1) * 98) + x6) - 1 < 3038) (np_ck ((0 : Int) ≤ (x3 * 98) + x6 ∧ (x3 * 98) + x6 < 3038) (f_Chart_countRule_124 k22 x2 x3 x4 x5 x6 (np_st o1.2 13 ((x3 * 98) + x6) (o1.2 13 ((((x3 - 1) * 98) + x6) - 1)))))))))))))
def f_Chart_countRule_22  : Nat → Int → Int → Int → Int → Int → np_S → Option np_O
  | 0, _, _, _, _, _, _ => none
  | n + 1, x2, x3, x4, x5, x6, σ => f_Chart_countRule_22_b  (fun x2 x3 x4 x5 x6 σ => f_Chart_countRule_22  n x2 x3 x4 x5 x6 σ) x2 x3 x4 x5 x6 σ
def f_Chart_countRule  (x1 x2 x3 : Int) (σ : np_S) : Option np_O := (f_Grammar_lastDot x1 σ).bind (fun o3 => f_Chart_countRule_22 6000 x2 x3 (x1 * 7) o3.1 ((x1 * 7) + 1) o3.2)
def f_Chart_countFrom_46_b (k38 : (Int → Int → Int → np_S → Option np_O)) (k46 : (Int → Int → Int → Int → np_S → Option np_O)) (x1 x2 x3 x4 : Int) (σ : np_S) : Option np_O := np_ck (np_R x4 ∧ np_R (σ 1 4)) (if σ 1 4 ≤ x4 then ((f_Chart_sumTerms x1 x3 σ).bind (fun o1 => (f_Chart_countFirstHoles x1 x3 o1.2).bind (fun o2 => k38 x1 x2 (x3 + 1) o2.2))) else ((f_Chart_countRule x4 x1 x3 σ).bind (fun o3 => k46 x1 x2 x3 (x4 + 1) o3.2)))
def f_Chart_countFrom_46 (k38 : (Int → Int → Int → np_S → Option np_O)) : Nat → Int → Int → Int → Int → np_S → Option np_O
  | 0, _, _, _, _, _ => none
  | n + 1, x1, x2, x3, x4, σ => f_Chart_countFrom_46_b k38 (fun x1 x2 x3 x4 σ => f_Chart_countFrom_46 k38 n x1 x2 x3 x4 σ) x1 x2 x3 x4 σ
def f_Chart_countFrom_38_b  (k38 : (Int → Int → Int → np_S → Option np_O)) (x1 x2 x3 : Int) (σ : np_S) : Option np_O := np_ck (np_R x3 ∧ np_R x2) (if x2 < x3 then (some (0, σ)) else (f_Chart_countFrom_46 k38 6000 x1 x2 x3 0 σ))
def f_Chart_countFrom_38  : Nat → Int → Int → Int → np_S → Option np_O
  | 0, _, _, _, _ => none
  | n + 1, x1, x2, x3, σ => f_Chart_countFrom_38_b  (fun x1 x2 x3 σ => f_Chart_countFrom_38  n x1 x2 x3 σ) x1 x2 x3 σ
def f_Chart_countFrom_2_b  (k2 : (Int → Int → Int → np_S → Option np_O)) (x1 x2 x3 : Int) (σ : np_S) : Option np_O := np_ck (np_R x3 ∧ np_R (σ 1 4)) (if σ 1 4 ≤ x3 then (f_Chart_countFrom_38 6000 x1 x2 (x1 + 1) σ) else (np_ck ((0 : Int) ≤ (x1 * 98) + (x3 * 7) ∧ (x1 * 98) + (x3 * 7) < 3038) (k2 x1 x2 (x3 + 1) (np_st σ 13 ((x1 * 98) + (x3 * 7)) 1))))
def f_Chart_countFrom_2  : Nat → Int → Int → Int → np_S → Option np_O
  | 0, _, _, _, _ => none
  | n + 1, x1, x2, x3, σ => f_Chart_countFrom_2_b  (fun x1 x2 x3 σ => f_Chart_countFrom_2  n x1 x2 x3 σ) x1 x2 x3 σ
def f_Chart_countFrom  (x1 x2 : Int) (σ : np_S) : Option np_O := f_Chart_countFrom_2 6000 x1 x2 0 σ
def f_Chart_countTrees_52  (t0 : Int) (σ : np_S) : Option np_O := some (t0, σ)
def f_Chart_countTrees_25 (k4 : (Int → Int → np_S → Option np_O)) (x1 x2 : Int) (σ : np_S) : Option np_O := k4 x1 (x2 + (-1)) σ
def f_Chart_countTrees_4_b  (k4 : (Int → Int → np_S → Option np_O)) (x1 x2 : Int) (σ : np_S) : Option np_O := np_ck (np_R x2) (if x2 < 0 then (np_ck (np_R x1 ∧ np_R 1) (if (1 : Int) ≤ x1 then ((f_Chart_cell 0 x1 0 σ).bind (fun o1 => np_ck ((0 : Int) ≤ o1.1 ∧ o1.1 < 5115) (f_Chart_countTrees_52 (o1.2 14 o1.1) o1.2))) else (f_Chart_countTrees_52 0 σ))) else ((f_Chart_isReached x2 x2 7 σ).bind (fun o2 => np_ck (np_R o2.1) (if o2.1 = 0 then (f_Chart_countTrees_25 k4 x1 x2 o2.2) else ((f_Chart_countFrom x2 x1 o2.2).bind (fun o3 => f_Chart_countTrees_25 k4 x1 x2 o3.2))))))
def f_Chart_countTrees_4  : Nat → Int → Int → np_S → Option np_O
  | 0, _, _, _ => none
  | n + 1, x1, x2, σ => f_Chart_countTrees_4_b  (fun x1 x2 σ => f_Chart_countTrees_4  n x1 x2 σ) x1 x2 σ
def f_Chart_countTrees  (x1 : Int) (σ : np_S) : Option np_O := f_Chart_countTrees_4 6000 x1 (x1 - 1) σ
def f_Chart_onlyRule_51 (k11 : (Int → Int → Int → Int → np_S → Option np_O)) (x1 x2 x3 x4 : Int) (σ : np_S) : Option np_O := k11 x1 x2 x3 (x4 + (-1)) σ
def f_Chart_onlyRule_11_b  (k11 : (Int → Int → Int → Int → np_S → Option np_O)) (x1 x2 x3 x4 : Int) (σ : np_S) : Option np_O := np_ck (np_R x4) (if x4 ≤ 0 then (some (0, σ)) else (np_ck ((0 : Int) ≤ x4 ∧ x4 < 14) (np_ck (np_R (σ 4 x4) ∧ np_R x3) (if σ 4 x4 < x3 then (f_Chart_onlyRule_51 k11 x1 x2 x3 x4 σ) else ((f_Grammar_lastDot x4 σ).bind (fun o1 => (f_Chart_isReached x1 x2 o1.1 o1.2).bind (fun o2 => np_ck (np_R o2.1) (if o2.1 = 0 then (f_Chart_onlyRule_51 k11 x1 x2 x3 x4 o2.2) else (some (x4, o2.2))))))))))
def f_Chart_onlyRule_11  : Nat → Int → Int → Int → Int → np_S → Option np_O
  | 0, _, _, _, _, _ => none
  | n + 1, x1, x2, x3, x4, σ => f_Chart_onlyRule_11_b  (fun x1 x2 x3 x4 σ => f_Chart_onlyRule_11  n x1 x2 x3 x4 σ) x1 x2 x3 x4 σ
def f_Chart_onlyRule  (x1 x2 x3 : Int) (σ : np_S) : Option np_O := f_Chart_onlyRule_11 6000 x1 x2 x3 ((σ 1 4) - 1) σ
def f_Chart_onlySplit_53 (k16 : (Int → Int → Int → Int → Int → np_S → Option np_O)) (x1 x2 x3 x4 x5 : Int) (σ : np_S) : Option np_O := k16 x1 x2 x3 x4 (x5 + (-1)) σ
def f_Chart_onlySplit_16_b  (k16 : (Int → Int → Int → Int → Int → np_S → Option np_O)) (x1 x2 x3 x4 x5 : Int) (σ : np_S) : Option np_O := np_ck (np_R x5 ∧ np_R x2) (if x5 ≤ x2 then (some (x2, σ)) else ((f_Chart_isReached x2 x5 x1 σ).bind (fun o1 => np_ck (np_R o1.1) (if o1.1 = 0 then (f_Chart_onlySplit_53 k16 x1 x2 x3 x4 x5 o1.2) else ((f_Chart_cell x5 x3 x4 o1.2).bind (fun o2 => np_ck ((0 : Int) ≤ o2.1 ∧ o2.1 < 5115) (np_ck (np_R (o2.2 14 o2.1)) (if o2.2 14 o2.1 ≤ 0 then (f_Chart_onlySplit_53 k16 x1 x2 x3 x4 x5 o2.2) else (some (x5, o2.2))))))))))
def f_Chart_onlySplit_16  : Nat → Int → Int → Int → Int → Int → np_S → Option np_O
  | 0, _, _, _, _, _, _ => none
  | n + 1, x1, x2, x3, x4, x5, σ => f_Chart_onlySplit_16_b  (fun x1 x2 x3 x4 x5 σ => f_Chart_onlySplit_16  n x1 x2 x3 x4 x5 σ) x1 x2 x3 x4 x5 σ
def f_Chart_onlySplit  (x1 x2 x3 : Int) (σ : np_S) : Option np_O := np_ck ((0 : Int) ≤ x1 ∧ x1 < 105) (f_Chart_onlySplit_16 6000 x1 x2 x3 (σ 2 x1) (x3 - 1) σ)
def f_Tree_await_60  (σ : np_S) : Option np_O := some (0, σ)
def f_Tree_await  (x1 x2 x3 x4 : Int) (σ : np_S) : Option np_O := np_ck (np_R (σ 15 9) ∧ np_R 30) (if (30 : Int) ≤ σ 15 9 then (f_Tree_await_60 σ) else (np_ck ((0 : Int) ≤ σ 15 9 ∧ σ 15 9 < 30) (np_ck ((0 : Int) ≤ (np_st σ 22 (σ 15 9) x1) 15 9 ∧ (np_st σ 22 (σ 15 9) x1) 15 9 < 30) (np_ck ((0 : Int) ≤ (np_st (np_st σ 22 (σ 15 9) x1) 23 ((np_st σ 22 (σ 15 9) x1) 15 9) x2) 15 9 ∧ (np_st (np_st σ 22 (σ 15 9) x1) 23 ((np_st σ 22 (σ 15 9) x1) 15 9) x2) 15 9 < 30) (np_ck ((0 : Int) ≤ (np_st (np_st (np_st σ 22 (σ 15 9) x1) 23 ((np_st σ 22 (σ 15 9) x1) 15 9) x2) 24 ((np_st (np_st σ 22 (σ 15 9) x1) 23 ((np_st σ 22 (σ 15 9) x1) 15 9) x2) 15 9) x3) 15 9 ∧ (np_st (np_st (np_st σ 22 (σ 15 9) x1) 23 ((np_st σ 22 (σ 15 9) x1) 15 9) x2) 24 ((np_st (np_st σ 22 (σ 15 9) x1) 23 ((np_st σ 22 (σ 15 9) x1) 15 9) x2) 15 9) x3) 15 9 < 30) (f_Tree_await_60 (np_st (np_st (np_st (np_st (np_st σ 22 (σ 15 9) x1) 23 ((np_st σ 22 (σ 15 9) x1) 15 9) x2) 24 ((np_st (np_st σ 22 (σ 15 9) x1) 23 ((np_st σ 22 (σ 15 9) x1) 15 9) x2) 15 9) x3) 25 ((np_st (np_st (np_st σ 22 (σ 15 9) x1) 23 ((np_st σ 22 (σ 15 9) x1) 15 9) x2) 24 ((np_st (np_st σ 22 (σ 15 9) x1) 23 ((np_st σ 22 (σ 15 9) x1) 15 9) x2) 15 9) x3) 15 9) x4) 15 9 (((np_st (np_st (np_st (np_st σ 22 (σ 15 9) x1) 23 ((np_st σ 22 (σ 15 9) x1) 15 9) x2) 24 ((np_st (np_st σ 22 (σ 15 9) x1) 23 ((np_st σ 22 (σ 15 9) x1) 15 9) x2) 15 9) x3) 25 ((np_st (np_st (np_st σ 22 (σ 15 9) x1) 23 ((np_st σ 22 (σ 15 9) x1) 15 9) x2) 24 ((np_st (np_st σ 22 (σ 15 9) x1) 23 ((np_st σ 22 (σ 15 9) x1) 15 9) x2) 15 9) x3) 15 9) x4) 15 9) + 1))))))))
def f_Tree_awaitHoles_100 (k34 : (Int → Int → Int → Int → Int → Int → np_S → Option np_O)) (x1 x2 x4 x5 x7 x9 : Int) (σ : np_S) : Option np_O := k34 x1 x2 x4 x5 x9 (x7 + (-1)) σ
def f_Tree_awaitHoles_78 (k34 : (Int → Int → Int → Int → Int → Int → np_S → Option np_O)) (x1 x2 x4 x5 x6 x7 x8 t0 : Int) (σ : np_S) : Option np_O := np_ck (np_R x8 ∧ np_R ((-1))) (if x8 = (-1) then (f_Tree_awaitHoles_100 k34 x1 x2 x4 x5 x7 t0 σ) else ((f_Tree_await t0 x6 x8 x1 σ).bind (fun o1 => f_Tree_awaitHoles_100 k34 x1 x2 x4 (x5 + 1) x7 t0 o1.2)))
def f_Tree_awaitHoles_34_b  (k34 : (Int → Int → Int → Int → Int → Int → np_S → Option np_O)) (x1 x2 x4 x5 x6 x7 : Int) (σ : np_S) : Option np_O := np_ck (np_R x7 ∧ np_R x4) (if x7 < x4 then (some (x5, σ)) else (np_ck ((0 : Int) ≤ x7 ∧ x7 < 105) (np_ck (np_R (σ 2 x7) ∧ np_R ((-1))) (if σ 2 x7 ≠ (-1) then ((f_Chart_onlySplit x7 x2 x6 σ).bind (fun o2 => f_Tree_awaitHoles_78 k34 x1 x2 x4 x5 x6 x7 (σ 2 x7) o2.1 o2.2)) else (f_Tree_awaitHoles_78 k34 x1 x2 x4 x5 x6 x7 (σ 2 x7) (x6 - 1) σ)))))
def f_Tree_awaitHoles_34  : Nat → Int → Int → Int → Int → Int → Int → np_S → Option np_O
  | 0, _, _, _, _, _, _, _ => none
  | n + 1, x1, x2, x4, x5, x6, x7, σ => f_Tree_awaitHoles_34_b  (fun x1 x2 x4 x5 x6 x7 σ => f_Tree_awaitHoles_34  n x1 x2 x4 x5 x6 x7 σ) x1 x2 x4 x5 x6 x7 σ
def f_Tree_awaitHoles  (x1 x2 x3 : Int) (σ : np_S) : Option np_O := np_ck ((0 : Int) ≤ x1 ∧ x1 < 30) (np_ck ((0 : Int) ≤ x1 ∧ x1 < 30) ((f_Grammar_lastDot (σ 16 x1) σ).bind (fun o3 => f_Tree_awaitHoles_34 6000 x1 x2 ((σ 16 x1) * 7) 0 x3 (o3.1 - 1) o3.2)))
def f_Tree_growNode  (x1 x2 x3 : Int) (σ : np_S) : Option np_O := np_ck ((0 : Int) ≤ σ 15 9 ∧ σ 15 9 < 30) ((f_Chart_onlyRule x2 x3 (σ 24 (σ 15 9)) σ).bind (fun o1 => np_ck ((0 : Int) ≤ x1 ∧ x1 < 30) (np_ck ((0 : Int) ≤ x1 ∧ x1 < 30) (np_ck ((0 : Int) ≤ x1 ∧ x1 < 30) (np_ck ((0 : Int) ≤ (np_st (np_st (np_st o1.2 16 x1 o1.1) 18 x1 x2) 19 x1 (x3 - x2)) 15 9 ∧ (np_st (np_st (np_st o1.2 16 x1 o1.1) 18 x1 x2) 19 x1 (x3 - x2)) 15 9 < 30) (np_ck ((0 : Int) ≤ x1 ∧ x1 < 30) (np_ck ((0 : Int) ≤ (np_st (np_st (np_st (np_st o1.2 16 x1 o1.1) 18 x1 x2) 19 x1 (x3 - x2)) 20 x1 ((np_st (np_st (np_st o1.2 16 x1 o1.1) 18 x1 x2) 19 x1 (x3 - x2)) 25 ((np_st (np_st (np_st o1.2 16 x1 o1.1) 18 x1 x2) 19 x1 (x3 - x2)) 15 9))) 15 9 ∧ (np_st (np_st (np_st (np_st o1.2 16 x1 o1.1) 18 x1 x2) 19 x1 (x3 - x2)) 20 x1 ((np_st (np_st (np_st o1.2 16 x1 o1.1) 18 x1 x2) 19 x1 (x3 - x2)) 25 ((np_st (np_st (np_st o1.2 16 x1 o1.1) 18 x1 x2) 19 x1 (x3 - x2)) 15 9))) 15 9 < 30) (np_ck ((0 : Int) ≤ x1 ∧ x1 < 30) ((f_Tree_awaitHoles x1 x2 x3 (np_st (np_st (np_st (np_st (np_st o1.2 16 x1 o1.1) 18 x1 x2) 19 x1 (x3 - x2)) 20 x1 ((np_st (np_st (np_st o1.2 16 x1 o1.1) 18 x1 x2) 19 x1 (x3 - x2)) 25 ((np_st (np_st (np_st o1.2 16 x1 o1.1) 18 x1 x2) 19 x1 (x3 - x2)) 15 9))) 21 x1 ((np_st (np_st (np_st (np_st o1.2 16 x1 o1.1) 18 x1 x2) 19 x1 (x3 - x2)) 20 x1 ((np_st (np_st (np_st o1.2 16 x1 o1.1) 18 x1 x2) 19 x1 (x3 - x2)) 25 ((np_st (np_st (np_st o1.2 16 x1 o1.1) 18 x1 x2) 19 x1 (x3 - x2)) 15 9))) 24 ((np_st (np_st (np_st (np_st o1.2 16 x1 o1.1) 18 x1 x2) 19 x1 (x3 - x2)) 20 x1 ((np_st (np_st (np_st o1.2 16 x1 o1.1) 18 x1 x2) 19 x1 (x3 - x2)) 25 ((np_st (np_st (np_st o1.2 16 x1 o1.1) 18 x1 x2) 19 x1 (x3 - x2)) 15 9))) 15 9)))).bind (fun o2 => np_ck ((0 : Int) ≤ x1 ∧ x1 < 30) (some (0, (np_st o2.2 17 x1 o2.1)))))))))))))
def f_Tree_grow_82  (σ : np_S) : Option np_O := some (0, σ)
def f_Tree_grow_20_b  (k20 : (Int → np_S → Option np_O)) (x2 : Int) (σ : np_S) : Option np_O := np_ck (np_R x2 ∧ np_R 30) (if (30 : Int) ≤ x2 then (f_Tree_grow_82 σ) else (np_ck (np_R (σ 15 9)) (if σ 15 9 ≤ 0 then (f_Tree_grow_82 σ) else (np_ck ((0 : Int) ≤ (np_st σ 15 9 ((σ 15 9) - 1)) 15 9 ∧ (np_st σ 15 9 ((σ 15 9) - 1)) 15 9 < 30) (np_ck ((0 : Int) ≤ (np_st σ 15 9 ((σ 15 9) - 1)) 15 9 ∧ (np_st σ 15 9 ((σ 15 9) - 1)) 15 9 < 30) ((f_Tree_growNode x2 ((np_st σ 15 9 ((σ 15 9) - 1)) 22 ((np_st σ 15 9 ((σ 15 9) - 1)) 15 9)) ((np_st σ 15 9 ((σ 15 9) - 1)) 23 ((np_st σ 15 9 ((σ 15 9) - 1)) 15 9)) (np_st σ 15 9 ((σ 15 9) - 1))).bind (fun o1 => k20 (x2 + 1) (np_st o1.2 15 2 ((o1.2 15 2) + 1)))))))))
def f_Tree_grow_20  : Nat → Int → np_S → Option np_O
  | 0, _, _ => none
  | n + 1, x2, σ => f_Tree_grow_20_b  (fun x2 σ => f_Tree_grow_20  n x2 σ) x2 σ
def f_Tree_grow  (x1 : Int) (σ : np_S) : Option np_O := (f_Tree_await 0 x1 0 ((-1)) (np_st (np_st σ 15 2 0) 15 9 0)).bind (fun o2 => f_Tree_grow_20 6000 0 o2.2)
def f_Spelling_lowBytes_20  (t0 : Int) (σ : np_S) : Option np_O := some (t0, σ)
def f_Spelling_lowBytes  (x0 x2 : Int) (σ : np_S) : Option np_O := np_ck (np_R x2 ∧ np_R 8) (if x2 < 8 then (f_Spelling_lowBytes_20 (np_andl x0 ((np_shll 1 (8 * x2)) - 1)) σ) else (f_Spelling_lowBytes_20 x0 σ))
end
section
section NW0
variable {p : Program} {l : Launch} {e : Env} {R : Room} {s : State} {m : MethodId} {args : Array Value} {below : List Frame} {meth : Method} {c : Code} {Q : State → Prop} {D : va_G} {A : Nat → Prop} {q : Nat → Nat} {cI cL cB : ClassId} {out : np_O} {gA : Nat → Nat}
set_option maxHeartbeats 4000000 in
set_option maxRecDepth 100000 in
theorem w_f_Grammar_usedDots (C : np_Cx gA p R s m args c D np_cl (np_ty cI cL cB) A np_al "NotationParse$Grammar" prog_3_method_2_code 1 { frames := 0, cells := 0, slots := 0, locals := 0 }) (hQ : ∀ (pc : Nat) (ls : Array Slot) (H : Heap) (locs : List Loc) (v : Int) {σ : np_S}, decode prog_3_method_2_code pc = .ok (.ireturn, 1) → some (v, σ) = some out → np_At D np_cl A (nc_wd q cI cL cB) s σ H locs → W p l e R s m args below meth c H locs 0 0 Q (F0 m pc ls [.int (np_i v)]))   : ∀ (σ : np_S) (H : Heap) (locs : List Loc) (ls : Array Slot), f_Grammar_usedDots  σ = some out → np_At D np_cl A (nc_wd q cI cL cB) s σ H locs → lv_has ls 1 [(0, .ref (q 1))] → W p l e R s m args below meth c H locs 0 0 Q (F0 m 0 ls []) := by
  intro σ H locs ls hf hat hl
  unfold f_Grammar_usedDots at hf
  refine lv_aload_n C.x C.b dd_Grammar_usedDots_0 rfl (lv_at hl 0 rfl) ?_
  refine np_get (v := .int (np_i (σ 1 4))) C i_Grammar hat.1 1 (nc_o1 _) rfl 4 (by decide) tw_59 rfl rfl dd_Grammar_usedDots_1 ?_
  refine lv_bipush (v := np_i 7) C.x C.b dd_Grammar_usedDots_4 (by decide +kernel) ?_
  refine np_imul C dd_Grammar_usedDots_6 ?_
  exact hQ _ _ _ _ _ dd_Grammar_usedDots_7 hf hat
set_option maxHeartbeats 4000000 in
set_option maxRecDepth 100000 in
theorem c_Grammar_usedDots (l : Launch) {gA : Nat → Nat} {D : va_G} {q : Nat → Nat} {cI cL cB : ClassId} (σ : np_S) : np_Mi gA l D np_cl (np_ty cI cL cB) (nc_wd q cI cL cB) yy_Grammar_usedDots (.code yy_Grammar_usedDots prog_3_method_2_code 1 (some .int) :: np_al) { frames := 0, cells := 0, slots := 0, locals := 0 } [.ref (q 1)] σ (f_Grammar_usedDots  σ) :=
  np_mki (by decide +kernel) (Nat.le_of_ble_eq_true rfl) (fun o p e R s m args below meth c Q A ls hf C hQ hat hl => w_f_Grammar_usedDots C hQ  σ _ _ _ hf hat (lv_sub hl [0] rfl))
set_option maxHeartbeats 4000000 in
set_option maxRecDepth 100000 in
theorem w_f_Arrays_rangeCheck (C : np_Cx gA p R s m args c D np_cl (np_ty cI cL cB) A np_al "java/util/Arrays" prog_25_method_30_code 3 { frames := 0, cells := 0, slots := 0, locals := 0 }) (hQ : ∀ (pc : Nat) (ls : Array Slot) (H : Heap) (locs : List Loc) {σ : np_S}, decode prog_25_method_30_code pc = .ok (.return_, 1) → some ((0 : Int), σ) = some out → np_At D np_cl A (nc_wd q cI cL cB) s σ H locs → W p l e R s m args below meth c H locs 0 0 Q (F0 m pc ls []))   : ∀ (x0 x1 x2 : Int) (σ : np_S) (H : Heap) (locs : List Loc) (ls : Array Slot), f_Arrays_rangeCheck  x0 x1 x2 σ = some out → np_At D np_cl A (nc_wd q cI cL cB) s σ H locs → lv_has ls 3 [(0, .int (np_i x0)), (1, .int (np_i x1)), (2, .int (np_i x2))] → W p l e R s m args below meth c H locs 0 0 Q (F0 m 0 ls []) := by
  intro x0 x1 x2 σ H locs ls hf hat hl
  unfold f_Arrays_rangeCheck at hf
  refine lv_iload_n C.x C.b dd_Arrays_rangeCheck_0 rfl (lv_at hl 1 rfl) ?_
  refine lv_iload_n C.x C.b dd_Arrays_rangeCheck_1 rfl (lv_at hl 2 rfl) ?_
  refine np_icmp_le (tgt := 46) C dd_Arrays_rangeCheck_2 (by decide) hf (fun _ hf => ?_) (fun _ hf => ?_)
  · refine lv_iload_n C.x C.b dd_Arrays_rangeCheck_46 rfl (lv_at hl 1 rfl) ?_
    refine np_if_ge (tgt := 59) C dd_Arrays_rangeCheck_47 (by decide) hf (fun _ hf => ?_) (fun _ hf => ?_)
    · refine lv_iload_n C.x C.b dd_Arrays_rangeCheck_59 rfl (lv_at hl 2 rfl) ?_
      refine lv_iload_n C.x C.b dd_Arrays_rangeCheck_60 rfl (lv_at hl 0 rfl) ?_
      refine np_icmp_le (tgt := 73) C dd_Arrays_rangeCheck_61 (by decide) hf (fun _ hf => ?_) (fun _ hf => ?_)
      · exact hQ _ _ _ _ dd_Arrays_rangeCheck_73 hf hat
      · cases hf
    · cases hf
  · cases hf
set_option maxHeartbeats 4000000 in
set_option maxRecDepth 100000 in
theorem c_Arrays_rangeCheck (l : Launch) {gA : Nat → Nat} {D : va_G} {q : Nat → Nat} {cI cL cB : ClassId} (x0 x1 x2 : Int) (σ : np_S) : np_Mv gA l D np_cl (np_ty cI cL cB) (nc_wd q cI cL cB) yy_Arrays_rangeCheck (.code yy_Arrays_rangeCheck prog_25_method_30_code 3 none :: np_al) { frames := 0, cells := 0, slots := 0, locals := 0 } [.int (np_i x0), .int (np_i x1), .int (np_i x2)] σ (f_Arrays_rangeCheck x0 x1 x2 σ) :=
  np_mkv (by decide +kernel) (Nat.le_of_ble_eq_true rfl) (fun o p e R s m args below meth c Q A ls hf C hQ hat hl => w_f_Arrays_rangeCheck C hQ x0 x1 x2 σ _ _ _ hf hat (lv_sub hl [0, 1, 2] rfl))
set_option maxHeartbeats 4000000 in
set_option maxRecDepth 100000 in
theorem w_f_Arrays_fill_2_10 (C : np_Cx gA p R s m args c D np_cl (np_ty cI cL cB) A np_al "java/util/Arrays" prog_25_method_104_code 5 { frames := 1, cells := 0, slots := 0, locals := 22 }) (hQ : ∀ (pc : Nat) (ls : Array Slot) (H : Heap) (locs : List Loc) {σ : np_S}, decode prog_25_method_104_code pc = .ok (.return_, 1) → some ((0 : Int), σ) = some out → np_At D np_cl A (nc_wd q cI cL cB) s σ H locs → W p l e R s m args below meth c H locs 0 0 Q (F0 m pc ls []))   : ∀ (n : Nat), ∀ (x2 x3 x4 : Int) (σ : np_S) (H : Heap) (locs : List Loc) (ls : Array Slot), f_Arrays_fill_2_10  n x2 x3 x4 σ = some out → np_At D np_cl A (nc_wd q cI cL cB) s σ H locs → lv_has ls 5 [(0, .ref (q 2)), (2, .int (np_i x2)), (3, .int (np_i x3)), (4, .int (np_i x4))] → W p l e R s m args below meth c H locs 0 0 Q (F0 m 10 ls []) := by
  intro n
  induction n with
  | zero => intro x2 x3 x4 σ H locs ls hf; cases hf
  | succ n ih =>
    intro x2 x3 x4 σ H locs ls hf hat hl
    have h10 := ih
    have hf : f_Arrays_fill_2_10_b  (fun x2 x3 x4 σ => f_Arrays_fill_2_10  n x2 x3 x4 σ) x2 x3 x4 σ = some out := hf
    unfold f_Arrays_fill_2_10_b at hf
    refine lv_iload C.x C.b dd_Arrays_fill_10 (lv_at hl 3 rfl) ?_
    refine lv_iload_n C.x C.b dd_Arrays_fill_12 rfl (lv_at hl 1 rfl) ?_
    refine np_icmp_ge (tgt := 27) C dd_Arrays_fill_13 (by decide) hf (fun _ hf => ?_) (fun _ hf => ?_)
    · exact hQ _ _ _ _ dd_Arrays_fill_27 hf hat
    · refine lv_aload_n C.x C.b dd_Arrays_fill_16 rfl (lv_at hl 0 rfl) ?_
      refine lv_iload C.x C.b dd_Arrays_fill_17 (lv_at hl 3 rfl) ?_
      refine lv_iload_n C.x C.b dd_Arrays_fill_19 rfl (lv_at hl 2 rfl) ?_
      refine np_iastore C hat 2 (nc_a2 _) 0 rfl (by decide) (nc_s2 _ _ _) dd_Arrays_fill_20 hf (fun H locs hat hf => ?_)
      refine lv_iinc (v := np_i (x4 + 1)) (lv' := [(4, .int (np_i (x4 + 1))), (0, .ref (q 2)), (2, .int (np_i x2)), (3, .int (np_i x3))]) C.x C.b dd_Arrays_fill_21 hl (k := 3) rfl (np_inc _ _) (by decide) rfl (fun ls hl => ?_)
      refine lv_goto (tgt := 10) C.x C.b dd_Arrays_fill_24 (by decide) ?_
      exact h10 _ _ _ _ _ _ _ hf hat (lv_sub hl [1, 2, 3, 0] rfl)
set_option maxHeartbeats 4000000 in
set_option maxRecDepth 100000 in
theorem w_f_Arrays_fill_2 (C : np_Cx gA p R s m args c D np_cl (np_ty cI cL cB) A np_al "java/util/Arrays" prog_25_method_104_code 5 { frames := 1, cells := 0, slots := 0, locals := 22 }) (hQ : ∀ (pc : Nat) (ls : Array Slot) (H : Heap) (locs : List Loc) {σ : np_S}, decode prog_25_method_104_code pc = .ok (.return_, 1) → some ((0 : Int), σ) = some out → np_At D np_cl A (nc_wd q cI cL cB) s σ H locs → W p l e R s m args below meth c H locs 0 0 Q (F0 m pc ls []))   : ∀ (x1 x2 x3 : Int) (σ : np_S) (H : Heap) (locs : List Loc) (ls : Array Slot), f_Arrays_fill_2  x1 x2 x3 σ = some out → np_At D np_cl A (nc_wd q cI cL cB) s σ H locs → lv_has ls 5 [(0, .ref (q 2)), (1, .int (np_i x1)), (2, .int (np_i x2)), (3, .int (np_i x3))] → W p l e R s m args below meth c H locs 0 0 Q (F0 m 0 ls []) := by
  intro x1 x2 x3 σ H locs ls hf hat hl
  unfold f_Arrays_fill_2 at hf
  refine lv_aload_n C.x C.b dd_Arrays_fill_0 rfl (lv_at hl 0 rfl) ?_
  refine np_alen (n := 105) C hat.1 2 (nc_a2 _) 0 rfl (show Int32.ofNat 105 = np_i 105 by decide +kernel) dd_Arrays_fill_1 ?_
  refine lv_iload_n C.x C.b dd_Arrays_fill_2 rfl (lv_at hl 1 rfl) ?_
  refine lv_iload_n C.x C.b dd_Arrays_fill_3 rfl (lv_at hl 2 rfl) ?_
  refine np_callSv (As := [.int (np_i 105), .int (np_i x1), .int (np_i x2)]) (rest := []) C (c_Arrays_rangeCheck l 105 x1 x2 _) np_allgood tw_494 tw_495 tw_3 tw_496 (nA := 3) (by decide +kernel) rfl ⟨rfl, rfl, Nat.le_of_ble_eq_true rfl, Nat.le_of_ble_eq_true rfl⟩ hat rfl hl.1 (Nat.le_of_ble_eq_true rfl) dd_Arrays_fill_4 hf (fun o1 H locs hf hat => ?_)
  refine lv_iload_n C.x C.b dd_Arrays_fill_7 rfl (lv_at hl 1 rfl) ?_
  refine lv_istore (lv' := [(4, .int (np_i x1)), (0, .ref (q 2)), (1, .int (np_i x1)), (2, .int (np_i x2)), (3, .int (np_i x3))]) C.x C.b dd_Arrays_fill_8 hl (by decide) rfl (fun ls hl => ?_)
  exact w_f_Arrays_fill_2_10 C hQ  6000 _ _ _ _ _ _ _ hf hat (lv_sub hl [1, 3, 4, 0] rfl)
set_option maxHeartbeats 4000000 in
set_option maxRecDepth 100000 in
theorem c_Arrays_fill_2 (l : Launch) {gA : Nat → Nat} {D : va_G} {q : Nat → Nat} {cI cL cB : ClassId} (x1 x2 x3 : Int) (σ : np_S) : np_Mv gA l D np_cl (np_ty cI cL cB) (nc_wd q cI cL cB) yy_Arrays_fill (.code yy_Arrays_fill prog_25_method_104_code 5 none :: np_al) { frames := 1, cells := 0, slots := 0, locals := 22 } [.ref (q 2), .int (np_i x1), .int (np_i x2), .int (np_i x3)] σ (f_Arrays_fill_2 x1 x2 x3 σ) :=
  np_mkv (by decide +kernel) (Nat.le_of_ble_eq_true rfl) (fun o p e R s m args below meth c Q A ls hf C hQ hat hl => w_f_Arrays_fill_2 C hQ x1 x2 x3 σ _ _ _ hf hat (lv_sub hl [0, 1, 2, 3] rfl))
set_option maxHeartbeats 4000000 in
set_option maxRecDepth 100000 in
theorem w_f_Arrays_fill2_3_10 (C : np_Cx gA p R s m args c D np_cl (np_ty cI cL cB) A np_al "java/util/Arrays" prog_25_method_102_code 6 { frames := 1, cells := 0, slots := 0, locals := 22 }) (hQ : ∀ (pc : Nat) (ls : Array Slot) (H : Heap) (locs : List Loc) {σ : np_S}, decode prog_25_method_102_code pc = .ok (.return_, 1) → some ((0 : Int), σ) = some out → np_At D np_cl A (nc_wd q cI cL cB) s σ H locs → W p l e R s m args below meth c H locs 0 0 Q (F0 m pc ls []))   : ∀ (n : Nat), ∀ (x2 x3 x5 : Int) (σ : np_S) (H : Heap) (locs : List Loc) (ls : Array Slot), f_Arrays_fill2_3_10  n x2 x3 x5 σ = some out → np_At D np_cl A (nc_wd q cI cL cB) s σ H locs → lv_has ls 6 [(0, .ref (q 3)), (2, .int (np_i x2)), (3, .long (np_l x3)), (5, .int (np_i x5))] → W p l e R s m args below meth c H locs 0 0 Q (F0 m 10 ls []) := by
  intro n
  induction n with
  | zero => intro x2 x3 x5 σ H locs ls hf; cases hf
  | succ n ih =>
    intro x2 x3 x5 σ H locs ls hf hat hl
    have h10 := ih
    have hf : f_Arrays_fill2_3_10_b  (fun x2 x3 x5 σ => f_Arrays_fill2_3_10  n x2 x3 x5 σ) x2 x3 x5 σ = some out := hf
    unfold f_Arrays_fill2_3_10_b at hf
    refine lv_iload C.x C.b dd_Arrays_fill2_10 (lv_at hl 3 rfl) ?_
    refine lv_iload_n C.x C.b dd_Arrays_fill2_12 rfl (lv_at hl 1 rfl) ?_
    refine np_icmp_ge (tgt := 27) C dd_Arrays_fill2_13 (by decide) hf (fun _ hf => ?_) (fun _ hf => ?_)
    · exact hQ _ _ _ _ dd_Arrays_fill2_27 hf hat
    · refine lv_aload_n C.x C.b dd_Arrays_fill2_16 rfl (lv_at hl 0 rfl) ?_
      refine lv_iload C.x C.b dd_Arrays_fill2_17 (lv_at hl 3 rfl) ?_
      refine lv_lload_n C.x C.b dd_Arrays_fill2_19 rfl (lv_at hl 2 rfl) ?_
      refine np_lastore C hat 3 (nc_a3 _) 1 rfl (by decide) (nc_s3 _ _ _) dd_Arrays_fill2_20 hf (fun H locs hat hf => ?_)
      refine lv_iinc (v := np_i (x5 + 1)) (lv' := [(5, .int (np_i (x5 + 1))), (0, .ref (q 3)), (2, .int (np_i x2)), (3, .long (np_l x3))]) C.x C.b dd_Arrays_fill2_21 hl (k := 3) rfl (np_inc _ _) (by decide) rfl (fun ls hl => ?_)
      refine lv_goto (tgt := 10) C.x C.b dd_Arrays_fill2_24 (by decide) ?_
      exact h10 _ _ _ _ _ _ _ hf hat (lv_sub hl [1, 2, 3, 0] rfl)
set_option maxHeartbeats 4000000 in
set_option maxRecDepth 100000 in
theorem w_f_Arrays_fill2_3 (C : np_Cx gA p R s m args c D np_cl (np_ty cI cL cB) A np_al "java/util/Arrays" prog_25_method_102_code 6 { frames := 1, cells := 0, slots := 0, locals := 22 }) (hQ : ∀ (pc : Nat) (ls : Array Slot) (H : Heap) (locs : List Loc) {σ : np_S}, decode prog_25_method_102_code pc = .ok (.return_, 1) → some ((0 : Int), σ) = some out → np_At D np_cl A (nc_wd q cI cL cB) s σ H locs → W p l e R s m args below meth c H locs 0 0 Q (F0 m pc ls []))   : ∀ (x1 x2 x3 : Int) (σ : np_S) (H : Heap) (locs : List Loc) (ls : Array Slot), f_Arrays_fill2_3  x1 x2 x3 σ = some out → np_At D np_cl A (nc_wd q cI cL cB) s σ H locs → lv_has ls 6 [(0, .ref (q 3)), (1, .int (np_i x1)), (2, .int (np_i x2)), (3, .long (np_l x3))] → W p l e R s m args below meth c H locs 0 0 Q (F0 m 0 ls []) := by
  intro x1 x2 x3 σ H locs ls hf hat hl
  unfold f_Arrays_fill2_3 at hf
  refine lv_aload_n C.x C.b dd_Arrays_fill2_0 rfl (lv_at hl 0 rfl) ?_
  refine np_alen (n := 105) C hat.1 3 (nc_a3 _) 1 rfl (show Int32.ofNat 105 = np_i 105 by decide +kernel) dd_Arrays_fill2_1 ?_
  refine lv_iload_n C.x C.b dd_Arrays_fill2_2 rfl (lv_at hl 1 rfl) ?_
  refine lv_iload_n C.x C.b dd_Arrays_fill2_3 rfl (lv_at hl 2 rfl) ?_
  refine np_callSv (As := [.int (np_i 105), .int (np_i x1), .int (np_i x2)]) (rest := []) C (c_Arrays_rangeCheck l 105 x1 x2 _) np_allgood tw_494 tw_495 tw_3 tw_496 (nA := 3) (by decide +kernel) rfl ⟨rfl, rfl, Nat.le_of_ble_eq_true rfl, Nat.le_of_ble_eq_true rfl⟩ hat rfl hl.1 (Nat.le_of_ble_eq_true rfl) dd_Arrays_fill2_4 hf (fun o1 H locs hf hat => ?_)
  refine lv_iload_n C.x C.b dd_Arrays_fill2_7 rfl (lv_at hl 1 rfl) ?_
  refine lv_istore (lv' := [(5, .int (np_i x1)), (0, .ref (q 3)), (1, .int (np_i x1)), (2, .int (np_i x2)), (3, .long (np_l x3))]) C.x C.b dd_Arrays_fill2_8 hl (by decide) rfl (fun ls hl => ?_)
  exact w_f_Arrays_fill2_3_10 C hQ  6000 _ _ _ _ _ _ _ hf hat (lv_sub hl [1, 3, 4, 0] rfl)
set_option maxHeartbeats 4000000 in
set_option maxRecDepth 100000 in
theorem c_Arrays_fill2_3 (l : Launch) {gA : Nat → Nat} {D : va_G} {q : Nat → Nat} {cI cL cB : ClassId} (x1 x2 x3 : Int) (σ : np_S) : np_Mv gA l D np_cl (np_ty cI cL cB) (nc_wd q cI cL cB) yy_Arrays_fill2 (.code yy_Arrays_fill2 prog_25_method_102_code 6 none :: np_al) { frames := 1, cells := 0, slots := 0, locals := 22 } [.ref (q 3), .int (np_i x1), .int (np_i x2), .long (np_l x3)] σ (f_Arrays_fill2_3 x1 x2 x3 σ) :=
  np_mkv (by decide +kernel) (Nat.le_of_ble_eq_true rfl) (fun o p e R s m args below meth c Q A ls hf C hQ hat hl => w_f_Arrays_fill2_3 C hQ x1 x2 x3 σ _ _ _ hf hat (lv_sub hl [0, 1, 2, 3] rfl))
set_option maxHeartbeats 4000000 in
set_option maxRecDepth 100000 in
theorem w_f_Grammar_dropHand (C : np_Cx gA p R s m args c D np_cl (np_ty cI cL cB) A np_al "NotationParse$Grammar" prog_3_method_7_code 1 { frames := 2, cells := 0, slots := 0, locals := 47 }) (hQ : ∀ (pc : Nat) (ls : Array Slot) (H : Heap) (locs : List Loc) {σ : np_S}, decode prog_3_method_7_code pc = .ok (.return_, 1) → some ((0 : Int), σ) = some out → np_At D np_cl A (nc_wd q cI cL cB) s σ H locs → W p l e R s m args below meth c H locs 0 0 Q (F0 m pc ls []))   : ∀ (σ : np_S) (H : Heap) (locs : List Loc) (ls : Array Slot), f_Grammar_dropHand  σ = some out → np_At D np_cl A (nc_wd q cI cL cB) s σ H locs → lv_has ls 1 [(0, .ref (q 1))] → W p l e R s m args below meth c H locs 0 0 Q (F0 m 0 ls []) := by
  intro σ H locs ls hf hat hl
  unfold f_Grammar_dropHand at hf
  refine lv_aload_n C.x C.b dd_Grammar_dropHand_0 rfl (lv_at hl 0 rfl) ?_
  refine np_get (v := .ref (q 2)) C i_Grammar hat.1 1 (nc_o1 _) rfl 0 (by decide) tw_50 rfl rfl dd_Grammar_dropHand_1 ?_
  refine lv_aload_n C.x C.b dd_Grammar_dropHand_4 rfl (lv_at hl 0 rfl) ?_
  refine np_callVi (As := []) (rest := [.ref (q 2)]) C (c_Grammar_usedDots l _) np_allgood tw_355 tw_356 tw_357 tw_2 tw_358 (nA := 0) (by decide +kernel) rfl ⟨rfl, rfl, Nat.le_of_ble_eq_true rfl, Nat.le_of_ble_eq_true rfl⟩ (nc_o1 _) rfl hat rfl hl.1 (Nat.le_of_ble_eq_true rfl) dd_Grammar_dropHand_5 hf (fun o1 H locs hf hat => ?_)
  refine lv_aload_n C.x C.b dd_Grammar_dropHand_8 rfl (lv_at hl 0 rfl) ?_
  refine np_callVi (As := []) (rest := [.int (np_i o1.1), .ref (q 2)]) C (c_Grammar_usedDots l _) np_allgood tw_355 tw_356 tw_357 tw_2 tw_358 (nA := 0) (by decide +kernel) rfl ⟨rfl, rfl, Nat.le_of_ble_eq_true rfl, Nat.le_of_ble_eq_true rfl⟩ (nc_o1 _) rfl hat rfl hl.1 (Nat.le_of_ble_eq_true rfl) dd_Grammar_dropHand_9 hf (fun o2 H locs hf hat => ?_)
  refine lv_bipush (v := np_i 7) C.x C.b dd_Grammar_dropHand_12 (by decide +kernel) ?_
  refine np_iadd C dd_Grammar_dropHand_14 ?_
  refine lv_iconst (v := np_i (-1)) C.x C.b dd_Grammar_dropHand_15 rfl ?_
  refine np_callSv (As := [.ref (q 2), .int (np_i o1.1), .int (np_i (o2.1 + 7)), .int (np_i ((-1)))]) (rest := []) C (c_Arrays_fill_2 l o1.1 (o2.1 + 7) ((-1)) _) np_allgood tw_491 tw_492 tw_3 tw_493 (nA := 4) (by decide +kernel) rfl ⟨rfl, rfl, Nat.le_of_ble_eq_true rfl, Nat.le_of_ble_eq_true rfl⟩ hat rfl hl.1 (Nat.le_of_ble_eq_true rfl) dd_Grammar_dropHand_16 hf (fun o3 H locs hf hat => ?_)
  refine lv_aload_n C.x C.b dd_Grammar_dropHand_19 rfl (lv_at hl 0 rfl) ?_
  refine np_get (v := .ref (q 3)) C i_Grammar hat.1 1 (nc_o1 _) rfl 1 (by decide) tw_53 rfl rfl dd_Grammar_dropHand_20 ?_
  refine lv_aload_n C.x C.b dd_Grammar_dropHand_23 rfl (lv_at hl 0 rfl) ?_
  refine np_callVi (As := []) (rest := [.ref (q 3)]) C (c_Grammar_usedDots l _) np_allgood tw_355 tw_356 tw_357 tw_2 tw_358 (nA := 0) (by decide +kernel) rfl ⟨rfl, rfl, Nat.le_of_ble_eq_true rfl, Nat.le_of_ble_eq_true rfl⟩ (nc_o1 _) rfl hat rfl hl.1 (Nat.le_of_ble_eq_true rfl) dd_Grammar_dropHand_24 hf (fun o4 H locs hf hat => ?_)
  refine lv_aload_n C.x C.b dd_Grammar_dropHand_27 rfl (lv_at hl 0 rfl) ?_
  refine np_callVi (As := []) (rest := [.int (np_i o4.1), .ref (q 3)]) C (c_Grammar_usedDots l _) np_allgood tw_355 tw_356 tw_357 tw_2 tw_358 (nA := 0) (by decide +kernel) rfl ⟨rfl, rfl, Nat.le_of_ble_eq_true rfl, Nat.le_of_ble_eq_true rfl⟩ (nc_o1 _) rfl hat rfl hl.1 (Nat.le_of_ble_eq_true rfl) dd_Grammar_dropHand_28 hf (fun o5 H locs hf hat => ?_)
  refine lv_bipush (v := np_i 7) C.x C.b dd_Grammar_dropHand_31 (by decide +kernel) ?_
  refine np_iadd C dd_Grammar_dropHand_33 ?_
  refine np_ldc2 (v := (-1)) C tw_44 dd_Grammar_dropHand_34 ?_
  refine np_callSv (As := [.ref (q 3), .int (np_i o4.1), .int (np_i (o5.1 + 7)), .long (np_l ((-1)))]) (rest := []) C (c_Arrays_fill2_3 l o4.1 (o5.1 + 7) ((-1)) _) np_allgood tw_703 tw_704 tw_3 tw_705 (nA := 4) (by decide +kernel) rfl ⟨rfl, rfl, Nat.le_of_ble_eq_true rfl, Nat.le_of_ble_eq_true rfl⟩ hat rfl hl.1 (Nat.le_of_ble_eq_true rfl) dd_Grammar_dropHand_37 hf (fun o6 H locs hf hat => ?_)
  refine lv_aload_n C.x C.b dd_Grammar_dropHand_40 rfl (lv_at hl 0 rfl) ?_
  refine lv_iconst (v := np_i 0) C.x C.b dd_Grammar_dropHand_41 rfl ?_
  refine np_put C i_Grammar t_Grammar tok_Grammar n_Grammar hat 1 (nc_o1 _) rfl 5 (by decide) tw_62 rfl rfl (by decide +kernel) (np_narI 0) (np_fitI 0) (Nat.le_of_ble_eq_true rfl) (nc_s1_5 _ _) dd_Grammar_dropHand_42 (fun H locs hat => ?_)
  exact hQ _ _ _ _ dd_Grammar_dropHand_45 hf hat
set_option maxHeartbeats 4000000 in
set_option maxRecDepth 100000 in
theorem c_Grammar_dropHand (l : Launch) {gA : Nat → Nat} {D : va_G} {q : Nat → Nat} {cI cL cB : ClassId} (σ : np_S) : np_Mv gA l D np_cl (np_ty cI cL cB) (nc_wd q cI cL cB) yy_Grammar_dropHand (.code yy_Grammar_dropHand prog_3_method_7_code 1 none :: np_al) { frames := 2, cells := 0, slots := 0, locals := 47 } [.ref (q 1)] σ (f_Grammar_dropHand  σ) :=
  np_mkv (by decide +kernel) (Nat.le_of_ble_eq_true rfl) (fun o p e R s m args below meth c Q A ls hf C hQ hat hl => w_f_Grammar_dropHand C hQ  σ _ _ _ hf hat (lv_sub hl [0] rfl))
set_option maxHeartbeats 4000000 in
set_option maxRecDepth 100000 in
theorem w_f_Spelling_byteOf (C : np_Cx gA p R s m args c D np_cl (np_ty cI cL cB) A np_al "NotationParse$Spelling" prog_5_method_3_code 3 { frames := 0, cells := 0, slots := 0, locals := 0 }) (hQ : ∀ (pc : Nat) (ls : Array Slot) (H : Heap) (locs : List Loc) (v : Int) {σ : np_S}, decode prog_5_method_3_code pc = .ok (.ireturn, 1) → some (v, σ) = some out → np_At D np_cl A (nc_wd q cI cL cB) s σ H locs → W p l e R s m args below meth c H locs 0 0 Q (F0 m pc ls [.int (np_i v)]))   : ∀ (x0 x2 : Int) (σ : np_S) (H : Heap) (locs : List Loc) (ls : Array Slot), f_Spelling_byteOf  x0 x2 σ = some out → np_At D np_cl A (nc_wd q cI cL cB) s σ H locs → lv_has ls 3 [(0, .long (np_l x0)), (2, .int (np_i x2))] → W p l e R s m args below meth c H locs 0 0 Q (F0 m 0 ls []) := by
  intro x0 x2 σ H locs ls hf hat hl
  unfold f_Spelling_byteOf at hf
  refine lv_lload_n C.x C.b dd_Spelling_byteOf_0 rfl (lv_at hl 0 rfl) ?_
  refine lv_bipush (v := np_i 8) C.x C.b dd_Spelling_byteOf_1 (by decide +kernel) ?_
  refine lv_iload_n C.x C.b dd_Spelling_byteOf_3 rfl (lv_at hl 1 rfl) ?_
  refine np_imul C dd_Spelling_byteOf_4 ?_
  refine np_lushr C dd_Spelling_byteOf_5 ?_
  refine np_l2i C dd_Spelling_byteOf_6 ?_
  refine lv_sipush (v := np_i 255) C.x C.b dd_Spelling_byteOf_7 (by decide +kernel) ?_
  refine np_iand C dd_Spelling_byteOf_10 ?_
  exact hQ _ _ _ _ _ dd_Spelling_byteOf_11 hf hat
set_option maxHeartbeats 4000000 in
set_option maxRecDepth 100000 in
theorem c_Spelling_byteOf (l : Launch) {gA : Nat → Nat} {D : va_G} {q : Nat → Nat} {cI cL cB : ClassId} (x0 x2 : Int) (σ : np_S) : np_Mi gA l D np_cl (np_ty cI cL cB) (nc_wd q cI cL cB) yy_Spelling_byteOf (.code yy_Spelling_byteOf prog_5_method_3_code 3 (some .int) :: np_al) { frames := 0, cells := 0, slots := 0, locals := 0 } [.long (np_l x0), .int (np_i x2)] σ (f_Spelling_byteOf x0 x2 σ) :=
  np_mki (by decide +kernel) (Nat.le_of_ble_eq_true rfl) (fun o p e R s m args below meth c Q A ls hf C hQ hat hl => w_f_Spelling_byteOf C hQ x0 x2 σ _ _ _ hf hat (lv_sub hl [0, 1] rfl))
set_option maxHeartbeats 4000000 in
set_option maxRecDepth 100000 in
theorem w_f_Text_append_5 (C : np_Cx gA p R s m args c D np_cl (np_ty cI cL cB) A np_al "NotationParse$Text" prog_6_method_2_code 5 { frames := 1, cells := 0, slots := 0, locals := 22 }) (hQ : ∀ (pc : Nat) (ls : Array Slot) (H : Heap) (locs : List Loc) {σ : np_S}, decode prog_6_method_2_code pc = .ok (.return_, 1) → some ((0 : Int), σ) = some out → np_At D np_cl A (nc_wd q cI cL cB) s σ H locs → W p l e R s m args below meth c H locs 0 0 Q (F0 m pc ls []))   : ∀ (n : Nat), ∀ (x1 x4 : Int) (σ : np_S) (H : Heap) (locs : List Loc) (ls : Array Slot), f_Text_append_5  n x1 x4 σ = some out → np_At D np_cl A (nc_wd q cI cL cB) s σ H locs → lv_has ls 5 [(0, .ref (q 6)), (1, .long (np_l x1)), (4, .int (np_i x4))] → W p l e R s m args below meth c H locs 0 0 Q (F0 m 5 ls []) := by
  intro n
  induction n with
  | zero => intro x1 x4 σ H locs ls hf; cases hf
  | succ n ih =>
    intro x1 x4 σ H locs ls hf hat hl
    have h5 := ih
    have hf : f_Text_append_5_b  (fun x1 x4 σ => f_Text_append_5  n x1 x4 σ) x1 x4 σ = some out := hf
    unfold f_Text_append_5_b at hf
    refine lv_iload C.x C.b dd_Text_append_5 (lv_at hl 2 rfl) ?_
    refine np_if_lt (tgt := 42) C dd_Text_append_7 (by decide) hf (fun _ hf => ?_) (fun _ hf => ?_)
    · exact hQ _ _ _ _ dd_Text_append_42 hf hat
    · refine lv_aload_n C.x C.b dd_Text_append_10 rfl (lv_at hl 0 rfl) ?_
      refine np_get (v := .ref (q 7)) C i_Text hat.1 6 (nc_o6 _) rfl 0 (by decide) tw_85 rfl rfl dd_Text_append_11 ?_
      refine lv_aload_n C.x C.b dd_Text_append_14 rfl (lv_at hl 0 rfl) ?_
      refine np_get (v := .int (np_i (σ 6 1))) C i_Text hat.1 6 (nc_o6 _) rfl 1 (by decide) tw_86 rfl rfl dd_Text_append_15 ?_
      refine lv_lload_n C.x C.b dd_Text_append_18 rfl (lv_at hl 1 rfl) ?_
      refine lv_iload C.x C.b dd_Text_append_19 (lv_at hl 2 rfl) ?_
      refine np_callSi (As := [.long (np_l x1), .int (np_i x4)]) (rest := [.int (np_i (σ 6 1)), .ref (q 7)]) C (c_Spelling_byteOf l x1 x4 _) np_allgood tw_234 tw_235 tw_14 tw_236 (nA := 2) (by decide +kernel) rfl ⟨rfl, rfl, Nat.le_of_ble_eq_true rfl, Nat.le_of_ble_eq_true rfl⟩ hat rfl hl.1 (Nat.le_of_ble_eq_true rfl) dd_Text_append_21 hf (fun o1 H locs hf hat => ?_)
      refine np_i2b C dd_Text_append_24 ?_
      refine np_bastore C hat 7 (nc_a7 _) 2 rfl (by decide) (nc_s7 _ _ _) dd_Text_append_25 hf (fun H locs hat hf => ?_)
      refine lv_aload_n C.x C.b dd_Text_append_26 rfl (lv_at hl 0 rfl) ?_
      refine lv_dup C.x C.b dd_Text_append_27 rfl ?_
      refine np_get (v := .int (np_i ((np_st o1.2 7 (σ 6 1) (Int.bmod (Int.bmod o1.1 256) 256)) 6 1))) C i_Text hat.1 6 (nc_o6 _) rfl 1 (by decide) tw_86 rfl rfl dd_Text_append_28 ?_
      refine lv_iconst (v := np_i 1) C.x C.b dd_Text_append_31 rfl ?_
      refine np_iadd C dd_Text_append_32 ?_
      refine np_put C i_Text t_Text tok_Text n_Text hat 6 (nc_o6 _) rfl 1 (by decide) tw_86 rfl rfl (by decide +kernel) (np_narI (((np_st o1.2 7 (σ 6 1) (Int.bmod (Int.bmod o1.1 256) 256)) 6 1) + 1)) (np_fitI (((np_st o1.2 7 (σ 6 1) (Int.bmod (Int.bmod o1.1 256) 256)) 6 1) + 1)) (Nat.le_of_ble_eq_true rfl) (nc_s6_1 _ _) dd_Text_append_33 (fun H locs hat => ?_)
      refine lv_iinc (v := np_i (x4 + (-1))) (lv' := [(4, .int (np_i (x4 + (-1)))), (0, .ref (q 6)), (1, .long (np_l x1))]) C.x C.b dd_Text_append_36 hl (k := 2) rfl (np_inc _ _) (by decide) rfl (fun ls hl => ?_)
      refine lv_goto (tgt := 5) C.x C.b dd_Text_append_39 (by decide) ?_
      exact h5 _ _ _ _ _ _ hf hat (lv_sub hl [1, 2, 0] rfl)
set_option maxHeartbeats 4000000 in
set_option maxRecDepth 100000 in
theorem w_f_Text_append (C : np_Cx gA p R s m args c D np_cl (np_ty cI cL cB) A np_al "NotationParse$Text" prog_6_method_2_code 5 { frames := 1, cells := 0, slots := 0, locals := 22 }) (hQ : ∀ (pc : Nat) (ls : Array Slot) (H : Heap) (locs : List Loc) {σ : np_S}, decode prog_6_method_2_code pc = .ok (.return_, 1) → some ((0 : Int), σ) = some out → np_At D np_cl A (nc_wd q cI cL cB) s σ H locs → W p l e R s m args below meth c H locs 0 0 Q (F0 m pc ls []))   : ∀ (x1 x3 : Int) (σ : np_S) (H : Heap) (locs : List Loc) (ls : Array Slot), f_Text_append  x1 x3 σ = some out → np_At D np_cl A (nc_wd q cI cL cB) s σ H locs → lv_has ls 5 [(0, .ref (q 6)), (1, .long (np_l x1)), (3, .int (np_i x3))] → W p l e R s m args below meth c H locs 0 0 Q (F0 m 0 ls []) := by
  intro x1 x3 σ H locs ls hf hat hl
  unfold f_Text_append at hf
  refine lv_iload_n C.x C.b dd_Text_append_0 rfl (lv_at hl 2 rfl) ?_
  refine lv_iconst (v := np_i 1) C.x C.b dd_Text_append_1 rfl ?_
  refine np_isub C dd_Text_append_2 ?_
  refine lv_istore (lv' := [(4, .int (np_i (x3 - 1))), (0, .ref (q 6)), (1, .long (np_l x1)), (3, .int (np_i x3))]) C.x C.b dd_Text_append_3 hl (by decide) rfl (fun ls hl => ?_)
  exact w_f_Text_append_5 C hQ  6000 _ _ _ _ _ _ hf hat (lv_sub hl [1, 2, 0] rfl)
set_option maxHeartbeats 4000000 in
set_option maxRecDepth 100000 in
theorem c_Text_append (l : Launch) {gA : Nat → Nat} {D : va_G} {q : Nat → Nat} {cI cL cB : ClassId} (x1 x3 : Int) (σ : np_S) : np_Mv gA l D np_cl (np_ty cI cL cB) (nc_wd q cI cL cB) yy_Text_append (.code yy_Text_append prog_6_method_2_code 5 none :: np_al) { frames := 1, cells := 0, slots := 0, locals := 22 } [.ref (q 6), .long (np_l x1), .int (np_i x3)] σ (f_Text_append x1 x3 σ) :=
  np_mkv (by decide +kernel) (Nat.le_of_ble_eq_true rfl) (fun o p e R s m args below meth c Q A ls hf C hQ hat hl => w_f_Text_append C hQ x1 x3 σ _ _ _ hf hat (lv_sub hl [0, 1, 2] rfl))
set_option maxHeartbeats 4000000 in
set_option maxRecDepth 100000 in
theorem w_f_N_put_26 (C : np_Cx gA p R s m args c D np_cl (np_ty cI cL cB) A np_al "NotationParse" prog_1_method_5_code 4 { frames := 2, cells := 0, slots := 0, locals := 46 }) (hQ : ∀ (pc : Nat) (ls : Array Slot) (H : Heap) (locs : List Loc) (v : Int) {σ : np_S}, decode prog_1_method_5_code pc = .ok (.ireturn, 1) → np_ck (v = 0 ∨ v = 1) (some (v, σ)) = some out → np_At D np_cl A (nc_wd q cI cL cB) s σ H locs → W p l e R s m args below meth c H locs 0 0 Q (F0 m pc ls [.int (np_i v)]))   : ∀ (σ : np_S) (H : Heap) (locs : List Loc) (ls : Array Slot), f_N_put_26  σ = some out → np_At D np_cl A (nc_wd q cI cL cB) s σ H locs → lv_has ls 4 [] → W p l e R s m args below meth c H locs 0 0 Q (F0 m 26 ls []) := by
  intro σ H locs ls hf hat hl
  unfold f_N_put_26 at hf
  refine lv_iconst (v := np_i 0) C.x C.b dd_N_put_26 rfl ?_
  exact hQ _ _ _ _ _ dd_N_put_27 hf hat
set_option maxHeartbeats 4000000 in
set_option maxRecDepth 100000 in
theorem w_f_N_put (C : np_Cx gA p R s m args c D np_cl (np_ty cI cL cB) A np_al "NotationParse" prog_1_method_5_code 4 { frames := 2, cells := 0, slots := 0, locals := 46 }) (hQ : ∀ (pc : Nat) (ls : Array Slot) (H : Heap) (locs : List Loc) (v : Int) {σ : np_S}, decode prog_1_method_5_code pc = .ok (.ireturn, 1) → np_ck (v = 0 ∨ v = 1) (some (v, σ)) = some out → np_At D np_cl A (nc_wd q cI cL cB) s σ H locs → W p l e R s m args below meth c H locs 0 0 Q (F0 m pc ls [.int (np_i v)]))   : ∀ (x1 x3 : Int) (σ : np_S) (H : Heap) (locs : List Loc) (ls : Array Slot), f_N_put  x1 x3 σ = some out → np_At D np_cl A (nc_wd q cI cL cB) s σ H locs → lv_has ls 4 [(0, .ref (q 0)), (1, .long (np_l x1)), (3, .int (np_i x3))] → W p l e R s m args below meth c H locs 0 0 Q (F0 m 0 ls []) := by
  intro x1 x3 σ H locs ls hf hat hl
  unfold f_N_put at hf
  refine lv_iload_n C.x C.b dd_N_put_0 rfl (lv_at hl 2 rfl) ?_
  refine lv_iconst (v := np_i 1) C.x C.b dd_N_put_1 rfl ?_
  refine np_icmp_lt (tgt := 26) C dd_N_put_2 (by decide) hf (fun _ hf => ?_) (fun _ hf => ?_)
  · exact w_f_N_put_26 C hQ   _ _ _ _ hf hat (lv_sub hl [] rfl)
  · refine lv_iload_n C.x C.b dd_N_put_5 rfl (lv_at hl 2 rfl) ?_
    refine lv_bipush (v := np_i 8) C.x C.b dd_N_put_6 (by decide +kernel) ?_
    refine np_icmp_gt (tgt := 26) C dd_N_put_8 (by decide) hf (fun _ hf => ?_) (fun _ hf => ?_)
    · exact w_f_N_put_26 C hQ   _ _ _ _ hf hat (lv_sub hl [] rfl)
    · refine lv_iload_n C.x C.b dd_N_put_11 rfl (lv_at hl 2 rfl) ?_
      refine lv_sipush (v := np_i 200) C.x C.b dd_N_put_12 (by decide +kernel) ?_
      refine lv_aload_n C.x C.b dd_N_put_15 rfl (lv_at hl 0 rfl) ?_
      refine np_get (v := .ref (q 6)) C i_N hat.1 0 (nc_o0 _) rfl 1 (by decide) tw_205 rfl rfl dd_N_put_16 ?_
      refine np_get (v := .int (np_i (σ 6 1))) C i_Text hat.1 6 (nc_o6 _) rfl 1 (by decide) tw_87 rfl rfl dd_N_put_19 ?_
      refine np_isub C dd_N_put_22 ?_
      refine np_icmp_le (tgt := 28) C dd_N_put_23 (by decide) hf (fun _ hf => ?_) (fun _ hf => ?_)
      · refine lv_aload_n C.x C.b dd_N_put_28 rfl (lv_at hl 0 rfl) ?_
        refine np_get (v := .ref (q 6)) C i_N hat.1 0 (nc_o0 _) rfl 1 (by decide) tw_205 rfl rfl dd_N_put_29 ?_
        refine lv_lload_n C.x C.b dd_N_put_32 rfl (lv_at hl 1 rfl) ?_
        refine lv_iload_n C.x C.b dd_N_put_33 rfl (lv_at hl 2 rfl) ?_
        refine np_callVv (As := [.long (np_l x1), .int (np_i x3)]) (rest := []) C (c_Text_append l x1 x3 _) np_allgood tw_230 tw_231 tw_232 tw_4 tw_233 (nA := 2) (by decide +kernel) rfl ⟨rfl, rfl, Nat.le_of_ble_eq_true rfl, Nat.le_of_ble_eq_true rfl⟩ (nc_o6 _) rfl hat rfl hl.1 (Nat.le_of_ble_eq_true rfl) dd_N_put_34 hf (fun o1 H locs hf hat => ?_)
        refine lv_iconst (v := np_i 1) C.x C.b dd_N_put_37 rfl ?_
        exact hQ _ _ _ _ _ dd_N_put_38 hf hat
      · exact w_f_N_put_26 C hQ   _ _ _ _ hf hat (lv_sub hl [] rfl)
set_option maxHeartbeats 4000000 in
set_option maxRecDepth 100000 in
theorem c_N_put (l : Launch) {gA : Nat → Nat} {D : va_G} {q : Nat → Nat} {cI cL cB : ClassId} (x1 x3 : Int) (σ : np_S) : np_Mi gA l D np_cl (np_ty cI cL cB) (nc_wd q cI cL cB) yy_N_put (.code yy_N_put prog_1_method_5_code 4 (some .boolean) :: np_al) { frames := 2, cells := 0, slots := 0, locals := 46 } [.ref (q 0), .long (np_l x1), .int (np_i x3)] σ (f_N_put x1 x3 σ) :=
  np_mkz (by decide +kernel) (Nat.le_of_ble_eq_true rfl) (fun o p e R s m args below meth c Q A ls hf C hQ hat hl => w_f_N_put C hQ x1 x3 σ _ _ _ hf hat (lv_sub hl [0, 1, 2] rfl))
set_option maxHeartbeats 4000000 in
set_option maxRecDepth 100000 in
theorem w_f_N_clear (C : np_Cx gA p R s m args c D np_cl (np_ty cI cL cB) A np_al "NotationParse" prog_1_method_6_code 1 { frames := 0, cells := 0, slots := 0, locals := 0 }) (hQ : ∀ (pc : Nat) (ls : Array Slot) (H : Heap) (locs : List Loc) {σ : np_S}, decode prog_1_method_6_code pc = .ok (.return_, 1) → some ((0 : Int), σ) = some out → np_At D np_cl A (nc_wd q cI cL cB) s σ H locs → W p l e R s m args below meth c H locs 0 0 Q (F0 m pc ls []))   : ∀ (σ : np_S) (H : Heap) (locs : List Loc) (ls : Array Slot), f_N_clear  σ = some out → np_At D np_cl A (nc_wd q cI cL cB) s σ H locs → lv_has ls 1 [(0, .ref (q 0))] → W p l e R s m args below meth c H locs 0 0 Q (F0 m 0 ls []) := by
  intro σ H locs ls hf hat hl
  unfold f_N_clear at hf
  refine lv_aload_n C.x C.b dd_N_clear_0 rfl (lv_at hl 0 rfl) ?_
  refine np_get (v := .ref (q 6)) C i_N hat.1 0 (nc_o0 _) rfl 1 (by decide) tw_205 rfl rfl dd_N_clear_1 ?_
  refine lv_iconst (v := np_i 0) C.x C.b dd_N_clear_4 rfl ?_
  refine np_put C i_Text t_Text tok_Text n_Text hat 6 (nc_o6 _) rfl 1 (by decide) tw_87 rfl rfl (by decide +kernel) (np_narI 0) (np_fitI 0) (Nat.le_of_ble_eq_true rfl) (nc_s6_1 _ _) dd_N_clear_5 (fun H locs hat => ?_)
  exact hQ _ _ _ _ dd_N_clear_8 hf hat
set_option maxHeartbeats 4000000 in
set_option maxRecDepth 100000 in
theorem c_N_clear (l : Launch) {gA : Nat → Nat} {D : va_G} {q : Nat → Nat} {cI cL cB : ClassId} (σ : np_S) : np_Mv gA l D np_cl (np_ty cI cL cB) (nc_wd q cI cL cB) yy_N_clear (.code yy_N_clear prog_1_method_6_code 1 none :: np_al) { frames := 0, cells := 0, slots := 0, locals := 0 } [.ref (q 0)] σ (f_N_clear  σ) :=
  np_mkv (by decide +kernel) (Nat.le_of_ble_eq_true rfl) (fun o p e R s m args below meth c Q A ls hf C hQ hat hl => w_f_N_clear C hQ  σ _ _ _ hf hat (lv_sub hl [0] rfl))
set_option maxHeartbeats 4000000 in
set_option maxRecDepth 100000 in
theorem w_f_Tree_fell (C : np_Cx gA p R s m args c D np_cl (np_ty cI cL cB) A np_al "NotationParse$Tree" prog_7_method_2_code 1 { frames := 0, cells := 0, slots := 0, locals := 0 }) (hQ : ∀ (pc : Nat) (ls : Array Slot) (H : Heap) (locs : List Loc) {σ : np_S}, decode prog_7_method_2_code pc = .ok (.return_, 1) → some ((0 : Int), σ) = some out → np_At D np_cl A (nc_wd q cI cL cB) s σ H locs → W p l e R s m args below meth c H locs 0 0 Q (F0 m pc ls []))   : ∀ (σ : np_S) (H : Heap) (locs : List Loc) (ls : Array Slot), f_Tree_fell  σ = some out → np_At D np_cl A (nc_wd q cI cL cB) s σ H locs → lv_has ls 1 [(0, .ref (q 15))] → W p l e R s m args below meth c H locs 0 0 Q (F0 m 0 ls []) := by
  intro σ H locs ls hf hat hl
  unfold f_Tree_fell at hf
  refine lv_aload_n C.x C.b dd_Tree_fell_0 rfl (lv_at hl 0 rfl) ?_
  refine lv_iconst (v := np_i 0) C.x C.b dd_Tree_fell_1 rfl ?_
  refine np_put C i_Tree t_Tree tok_Tree n_Tree hat 15 (nc_o15 _) rfl 2 (by decide) tw_142 rfl rfl (by decide +kernel) (np_narI 0) (np_fitI 0) (Nat.le_of_ble_eq_true rfl) (nc_s15_2 _ _) dd_Tree_fell_2 (fun H locs hat => ?_)
  exact hQ _ _ _ _ dd_Tree_fell_5 hf hat
set_option maxHeartbeats 4000000 in
set_option maxRecDepth 100000 in
theorem c_Tree_fell (l : Launch) {gA : Nat → Nat} {D : va_G} {q : Nat → Nat} {cI cL cB : ClassId} (σ : np_S) : np_Mv gA l D np_cl (np_ty cI cL cB) (nc_wd q cI cL cB) yy_Tree_fell (.code yy_Tree_fell prog_7_method_2_code 1 none :: np_al) { frames := 0, cells := 0, slots := 0, locals := 0 } [.ref (q 15)] σ (f_Tree_fell  σ) :=
  np_mkv (by decide +kernel) (Nat.le_of_ble_eq_true rfl) (fun o p e R s m args below meth c Q A ls hf C hQ hat hl => w_f_Tree_fell C hQ  σ _ _ _ hf hat (lv_sub hl [0] rfl))
set_option maxHeartbeats 4000000 in
set_option maxRecDepth 100000 in
theorem w_f_Arrays_fill_12_10 (C : np_Cx gA p R s m args c D np_cl (np_ty cI cL cB) A np_al "java/util/Arrays" prog_25_method_104_code 5 { frames := 1, cells := 0, slots := 0, locals := 22 }) (hQ : ∀ (pc : Nat) (ls : Array Slot) (H : Heap) (locs : List Loc) {σ : np_S}, decode prog_25_method_104_code pc = .ok (.return_, 1) → some ((0 : Int), σ) = some out → np_At D np_cl A (nc_wd q cI cL cB) s σ H locs → W p l e R s m args below meth c H locs 0 0 Q (F0 m pc ls []))   : ∀ (n : Nat), ∀ (x2 x3 x4 : Int) (σ : np_S) (H : Heap) (locs : List Loc) (ls : Array Slot), f_Arrays_fill_12_10  n x2 x3 x4 σ = some out → np_At D np_cl A (nc_wd q cI cL cB) s σ H locs → lv_has ls 5 [(0, .ref (q 12)), (2, .int (np_i x2)), (3, .int (np_i x3)), (4, .int (np_i x4))] → W p l e R s m args below meth c H locs 0 0 Q (F0 m 10 ls []) := by
  intro n
  induction n with
  | zero => intro x2 x3 x4 σ H locs ls hf; cases hf
  | succ n ih =>
    intro x2 x3 x4 σ H locs ls hf hat hl
    have h10 := ih
    have hf : f_Arrays_fill_12_10_b  (fun x2 x3 x4 σ => f_Arrays_fill_12_10  n x2 x3 x4 σ) x2 x3 x4 σ = some out := hf
    unfold f_Arrays_fill_12_10_b at hf
    refine lv_iload C.x C.b dd_Arrays_fill_10 (lv_at hl 3 rfl) ?_
    refine lv_iload_n C.x C.b dd_Arrays_fill_12 rfl (lv_at hl 1 rfl) ?_
    refine np_icmp_ge (tgt := 27) C dd_Arrays_fill_13 (by decide) hf (fun _ hf => ?_) (fun _ hf => ?_)
    · exact hQ _ _ _ _ dd_Arrays_fill_27 hf hat
    · refine lv_aload_n C.x C.b dd_Arrays_fill_16 rfl (lv_at hl 0 rfl) ?_
      refine lv_iload C.x C.b dd_Arrays_fill_17 (lv_at hl 3 rfl) ?_
      refine lv_iload_n C.x C.b dd_Arrays_fill_19 rfl (lv_at hl 2 rfl) ?_
      refine np_iastore C hat 12 (nc_a12 _) 0 rfl (by decide) (nc_s12 _ _ _) dd_Arrays_fill_20 hf (fun H locs hat hf => ?_)
      refine lv_iinc (v := np_i (x4 + 1)) (lv' := [(4, .int (np_i (x4 + 1))), (0, .ref (q 12)), (2, .int (np_i x2)), (3, .int (np_i x3))]) C.x C.b dd_Arrays_fill_21 hl (k := 3) rfl (np_inc _ _) (by decide) rfl (fun ls hl => ?_)
      refine lv_goto (tgt := 10) C.x C.b dd_Arrays_fill_24 (by decide) ?_
      exact h10 _ _ _ _ _ _ _ hf hat (lv_sub hl [1, 2, 3, 0] rfl)
set_option maxHeartbeats 4000000 in
set_option maxRecDepth 100000 in
theorem w_f_Arrays_fill_12 (C : np_Cx gA p R s m args c D np_cl (np_ty cI cL cB) A np_al "java/util/Arrays" prog_25_method_104_code 5 { frames := 1, cells := 0, slots := 0, locals := 22 }) (hQ : ∀ (pc : Nat) (ls : Array Slot) (H : Heap) (locs : List Loc) {σ : np_S}, decode prog_25_method_104_code pc = .ok (.return_, 1) → some ((0 : Int), σ) = some out → np_At D np_cl A (nc_wd q cI cL cB) s σ H locs → W p l e R s m args below meth c H locs 0 0 Q (F0 m pc ls []))   : ∀ (x1 x2 x3 : Int) (σ : np_S) (H : Heap) (locs : List Loc) (ls : Array Slot), f_Arrays_fill_12  x1 x2 x3 σ = some out → np_At D np_cl A (nc_wd q cI cL cB) s σ H locs → lv_has ls 5 [(0, .ref (q 12)), (1, .int (np_i x1)), (2, .int (np_i x2)), (3, .int (np_i x3))] → W p l e R s m args below meth c H locs 0 0 Q (F0 m 0 ls []) := by
  intro x1 x2 x3 σ H locs ls hf hat hl
  unfold f_Arrays_fill_12 at hf
  refine lv_aload_n C.x C.b dd_Arrays_fill_0 rfl (lv_at hl 0 rfl) ?_
  refine np_alen (n := 3038) C hat.1 12 (nc_a12 _) 0 rfl (show Int32.ofNat 3038 = np_i 3038 by decide +kernel) dd_Arrays_fill_1 ?_
  refine lv_iload_n C.x C.b dd_Arrays_fill_2 rfl (lv_at hl 1 rfl) ?_
  refine lv_iload_n C.x C.b dd_Arrays_fill_3 rfl (lv_at hl 2 rfl) ?_
  refine np_callSv (As := [.int (np_i 3038), .int (np_i x1), .int (np_i x2)]) (rest := []) C (c_Arrays_rangeCheck l 3038 x1 x2 _) np_allgood tw_494 tw_495 tw_3 tw_496 (nA := 3) (by decide +kernel) rfl ⟨rfl, rfl, Nat.le_of_ble_eq_true rfl, Nat.le_of_ble_eq_true rfl⟩ hat rfl hl.1 (Nat.le_of_ble_eq_true rfl) dd_Arrays_fill_4 hf (fun o1 H locs hf hat => ?_)
  refine lv_iload_n C.x C.b dd_Arrays_fill_7 rfl (lv_at hl 1 rfl) ?_
  refine lv_istore (lv' := [(4, .int (np_i x1)), (0, .ref (q 12)), (1, .int (np_i x1)), (2, .int (np_i x2)), (3, .int (np_i x3))]) C.x C.b dd_Arrays_fill_8 hl (by decide) rfl (fun ls hl => ?_)
  exact w_f_Arrays_fill_12_10 C hQ  6000 _ _ _ _ _ _ _ hf hat (lv_sub hl [1, 3, 4, 0] rfl)
set_option maxHeartbeats 4000000 in
set_option maxRecDepth 100000 in
theorem c_Arrays_fill_12 (l : Launch) {gA : Nat → Nat} {D : va_G} {q : Nat → Nat} {cI cL cB : ClassId} (x1 x2 x3 : Int) (σ : np_S) : np_Mv gA l D np_cl (np_ty cI cL cB) (nc_wd q cI cL cB) yy_Arrays_fill (.code yy_Arrays_fill prog_25_method_104_code 5 none :: np_al) { frames := 1, cells := 0, slots := 0, locals := 22 } [.ref (q 12), .int (np_i x1), .int (np_i x2), .int (np_i x3)] σ (f_Arrays_fill_12 x1 x2 x3 σ) :=
  np_mkv (by decide +kernel) (Nat.le_of_ble_eq_true rfl) (fun o p e R s m args below meth c Q A ls hf C hQ hat hl => w_f_Arrays_fill_12 C hQ x1 x2 x3 σ _ _ _ hf hat (lv_sub hl [0, 1, 2, 3] rfl))
set_option maxHeartbeats 4000000 in
set_option maxRecDepth 100000 in
theorem w_f_Chart_emptyRow (C : np_Cx gA p R s m args c D np_cl (np_ty cI cL cB) A np_al "NotationParse$Chart" prog_2_method_4_code 2 { frames := 2, cells := 0, slots := 0, locals := 46 }) (hQ : ∀ (pc : Nat) (ls : Array Slot) (H : Heap) (locs : List Loc) {σ : np_S}, decode prog_2_method_4_code pc = .ok (.return_, 1) → some ((0 : Int), σ) = some out → np_At D np_cl A (nc_wd q cI cL cB) s σ H locs → W p l e R s m args below meth c H locs 0 0 Q (F0 m pc ls []))   : ∀ (x1 : Int) (σ : np_S) (H : Heap) (locs : List Loc) (ls : Array Slot), f_Chart_emptyRow  x1 σ = some out → np_At D np_cl A (nc_wd q cI cL cB) s σ H locs → lv_has ls 2 [(0, .ref (q 11)), (1, .int (np_i x1))] → W p l e R s m args below meth c H locs 0 0 Q (F0 m 0 ls []) := by
  intro x1 σ H locs ls hf hat hl
  unfold f_Chart_emptyRow at hf
  refine lv_aload_n C.x C.b dd_Chart_emptyRow_0 rfl (lv_at hl 0 rfl) ?_
  refine np_get (v := .ref (q 12)) C i_Chart hat.1 11 (nc_o11 _) rfl 1 (by decide) tw_122 rfl rfl dd_Chart_emptyRow_1 ?_
  refine lv_iload_n C.x C.b dd_Chart_emptyRow_4 rfl (lv_at hl 1 rfl) ?_
  refine lv_bipush (v := np_i 98) C.x C.b dd_Chart_emptyRow_5 (by decide +kernel) ?_
  refine np_imul C dd_Chart_emptyRow_7 ?_
  refine lv_iload_n C.x C.b dd_Chart_emptyRow_8 rfl (lv_at hl 1 rfl) ?_
  refine lv_iconst (v := np_i 1) C.x C.b dd_Chart_emptyRow_9 rfl ?_
  refine np_iadd C dd_Chart_emptyRow_10 ?_
  refine lv_bipush (v := np_i 98) C.x C.b dd_Chart_emptyRow_11 (by decide +kernel) ?_
  refine np_imul C dd_Chart_emptyRow_13 ?_
  refine lv_iconst (v := np_i 0) C.x C.b dd_Chart_emptyRow_14 rfl ?_
  refine np_callSv (As := [.ref (q 12), .int (np_i (x1 * 98)), .int (np_i ((x1 + 1) * 98)), .int (np_i 0)]) (rest := []) C (c_Arrays_fill_12 l (x1 * 98) ((x1 + 1) * 98) 0 _) np_allgood tw_753 tw_492 tw_3 tw_493 (nA := 4) (by decide +kernel) rfl ⟨rfl, rfl, Nat.le_of_ble_eq_true rfl, Nat.le_of_ble_eq_true rfl⟩ hat rfl hl.1 (Nat.le_of_ble_eq_true rfl) dd_Chart_emptyRow_15 hf (fun o1 H locs hf hat => ?_)
  exact hQ _ _ _ _ dd_Chart_emptyRow_18 hf hat
set_option maxHeartbeats 4000000 in
set_option maxRecDepth 100000 in
theorem c_Chart_emptyRow (l : Launch) {gA : Nat → Nat} {D : va_G} {q : Nat → Nat} {cI cL cB : ClassId} (x1 : Int) (σ : np_S) : np_Mv gA l D np_cl (np_ty cI cL cB) (nc_wd q cI cL cB) yy_Chart_emptyRow (.code yy_Chart_emptyRow prog_2_method_4_code 2 none :: np_al) { frames := 2, cells := 0, slots := 0, locals := 46 } [.ref (q 11), .int (np_i x1)] σ (f_Chart_emptyRow x1 σ) :=
  np_mkv (by decide +kernel) (Nat.le_of_ble_eq_true rfl) (fun o p e R s m args below meth c Q A ls hf C hQ hat hl => w_f_Chart_emptyRow C hQ x1 σ _ _ _ hf hat (lv_sub hl [0, 1] rfl))
set_option maxHeartbeats 4000000 in
set_option maxRecDepth 100000 in
theorem w_f_Chart_scan_84 (C : np_Cx gA p R s m args c D np_cl (np_ty cI cL cB) A np_al "NotationParse$Chart" prog_2_method_6_code 8 { frames := 1, cells := 0, slots := 0, locals := 20 }) (hQ : ∀ (pc : Nat) (ls : Array Slot) (H : Heap) (locs : List Loc) (v : Int) {σ : np_S}, decode prog_2_method_6_code pc = .ok (.ireturn, 1) → np_ck (v = 0 ∨ v = 1) (some (v, σ)) = some out → np_At D np_cl A (nc_wd q cI cL cB) s σ H locs → W p l e R s m args below meth c H locs 0 0 Q (F0 m pc ls [.int (np_i v)])) {k19 : (Int → Int → Int → Int → Int → np_S → Option np_O)} (h19 : ∀ (x2 x4 x5 x6 x7 : Int) (σ : np_S) (H : Heap) (locs : List Loc) (ls : Array Slot), k19 x2 x4 x5 x6 x7 σ = some out → np_At D np_cl A (nc_wd q cI cL cB) s σ H locs → lv_has ls 8 [(0, .ref (q 11)), (2, .long (np_l x2)), (4, .int (np_i x4)), (5, .int (np_i x5)), (6, .int (np_i x6)), (7, .int (np_i x7))] → W p l e R s m args below meth c H locs 0 0 Q (F0 m 19 ls [])) : ∀ (x2 x4 x5 x6 x7 : Int) (σ : np_S) (H : Heap) (locs : List Loc) (ls : Array Slot), f_Chart_scan_84 k19 x2 x4 x5 x6 x7 σ = some out → np_At D np_cl A (nc_wd q cI cL cB) s σ H locs → lv_has ls 8 [(0, .ref (q 11)), (2, .long (np_l x2)), (4, .int (np_i x4)), (5, .int (np_i x5)), (6, .int (np_i x6)), (7, .int (np_i x7))] → W p l e R s m args below meth c H locs 0 0 Q (F0 m 84 ls []) := by
  intro x2 x4 x5 x6 x7 σ H locs ls hf hat hl
  unfold f_Chart_scan_84 at hf
  refine lv_iinc (v := np_i (x7 + 1)) (lv' := [(7, .int (np_i (x7 + 1))), (0, .ref (q 11)), (2, .long (np_l x2)), (4, .int (np_i x4)), (5, .int (np_i x5)), (6, .int (np_i x6))]) C.x C.b dd_Chart_scan_84 hl (k := 5) rfl (np_inc _ _) (by decide) rfl (fun ls hl => ?_)
  refine lv_goto (tgt := 19) C.x C.b dd_Chart_scan_87 (by decide) ?_
  exact h19 _ _ _ _ _ _ _ _ _ hf hat (lv_sub hl [1, 2, 3, 4, 5, 0] rfl)
set_option maxHeartbeats 4000000 in
set_option maxRecDepth 100000 in
theorem w_f_Chart_scan_19 (C : np_Cx gA p R s m args c D np_cl (np_ty cI cL cB) A np_al "NotationParse$Chart" prog_2_method_6_code 8 { frames := 1, cells := 0, slots := 0, locals := 20 }) (hQ : ∀ (pc : Nat) (ls : Array Slot) (H : Heap) (locs : List Loc) (v : Int) {σ : np_S}, decode prog_2_method_6_code pc = .ok (.ireturn, 1) → np_ck (v = 0 ∨ v = 1) (some (v, σ)) = some out → np_At D np_cl A (nc_wd q cI cL cB) s σ H locs → W p l e R s m args below meth c H locs 0 0 Q (F0 m pc ls [.int (np_i v)]))   : ∀ (n : Nat), ∀ (x2 x4 x5 x6 x7 : Int) (σ : np_S) (H : Heap) (locs : List Loc) (ls : Array Slot), f_Chart_scan_19  n x2 x4 x5 x6 x7 σ = some out → np_At D np_cl A (nc_wd q cI cL cB) s σ H locs → lv_has ls 8 [(0, .ref (q 11)), (2, .long (np_l x2)), (4, .int (np_i x4)), (5, .int (np_i x5)), (6, .int (np_i x6)), (7, .int (np_i x7))] → W p l e R s m args below meth c H locs 0 0 Q (F0 m 19 ls []) := by
  intro n
  induction n with
  | zero => intro x2 x4 x5 x6 x7 σ H locs ls hf; cases hf
  | succ n ih =>
    intro x2 x4 x5 x6 x7 σ H locs ls hf hat hl
    have h19 := ih
    have hf : f_Chart_scan_19_b  (fun x2 x4 x5 x6 x7 σ => f_Chart_scan_19  n x2 x4 x5 x6 x7 σ) x2 x4 x5 x6 x7 σ = some out := hf
    unfold f_Chart_scan_19_b at hf
    refine lv_iload C.x C.b dd_Chart_scan_19 (lv_at hl 5 rfl) ?_
    refine lv_aload_n C.x C.b dd_Chart_scan_21 rfl (lv_at hl 0 rfl) ?_
    refine np_get (v := .ref (q 1)) C i_Chart hat.1 11 (nc_o11 _) rfl 0 (by decide) tw_121 rfl rfl dd_Chart_scan_22 ?_
    refine np_callVi (As := []) (rest := [.int (np_i x7)]) C (c_Grammar_usedDots l _) np_allgood tw_766 tw_356 tw_357 tw_2 tw_358 (nA := 0) (by decide +kernel) rfl ⟨rfl, rfl, Nat.le_of_ble_eq_true rfl, Nat.le_of_ble_eq_true rfl⟩ (nc_o1 _) rfl hat rfl hl.1 (Nat.le_of_ble_eq_true rfl) dd_Chart_scan_25 hf (fun o1 H locs hf hat => ?_)
    refine np_icmp_ge (tgt := 90) C dd_Chart_scan_28 (by decide) hf (fun _ hf => ?_) (fun _ hf => ?_)
    · refine lv_iload C.x C.b dd_Chart_scan_90 (lv_at hl 4 rfl) ?_
      exact hQ _ _ _ _ _ dd_Chart_scan_92 hf hat
    · refine lv_aload_n C.x C.b dd_Chart_scan_31 rfl (lv_at hl 0 rfl) ?_
      refine np_get (v := .ref (q 12)) C i_Chart hat.1 11 (nc_o11 _) rfl 1 (by decide) tw_122 rfl rfl dd_Chart_scan_32 ?_
      refine lv_iload C.x C.b dd_Chart_scan_35 (lv_at hl 2 rfl) ?_
      refine lv_iload C.x C.b dd_Chart_scan_37 (lv_at hl 5 rfl) ?_
      refine np_iadd C dd_Chart_scan_39 ?_
      refine np_iaload C hat.1 12 (nc_a12 _) 0 rfl (by decide) dd_Chart_scan_40 hf (fun hf => ?_)
      refine np_if_eq (tgt := 84) C dd_Chart_scan_41 (by decide) hf (fun _ hf => ?_) (fun _ hf => ?_)
      · exact w_f_Chart_scan_84 C hQ h19 _ _ _ _ _ _ _ _ _ hf hat (lv_sub hl [0, 1, 2, 3, 4, 5] rfl)
      · refine lv_aload_n C.x C.b dd_Chart_scan_44 rfl (lv_at hl 0 rfl) ?_
        refine np_get (v := .ref (q 1)) C i_Chart hat.1 11 (nc_o11 _) rfl 0 (by decide) tw_121 rfl rfl dd_Chart_scan_45 ?_
        refine np_get (v := .ref (q 3)) C i_Grammar hat.1 1 (nc_o1 _) rfl 1 (by decide) tw_54 rfl rfl dd_Chart_scan_48 ?_
        refine lv_iload C.x C.b dd_Chart_scan_51 (lv_at hl 5 rfl) ?_
        refine np_laload C hat.1 3 (nc_a3 _) 1 rfl (by decide) dd_Chart_scan_53 hf (fun hf => ?_)
        refine lv_lload_n C.x C.b dd_Chart_scan_54 rfl (lv_at hl 1 rfl) ?_
        refine np_lcmp C dd_Chart_scan_55 hf (fun hf => ?_)
        refine np_if_ne (tgt := 84) C dd_Chart_scan_56 (by decide) hf (fun _ hf => ?_) (fun _ hf => ?_)
        · exact w_f_Chart_scan_84 C hQ h19 _ _ _ _ _ _ _ _ _ hf hat (lv_sub hl [0, 1, 2, 3, 4, 5] rfl)
        · refine lv_aload_n C.x C.b dd_Chart_scan_59 rfl (lv_at hl 0 rfl) ?_
          refine np_get (v := .ref (q 12)) C i_Chart hat.1 11 (nc_o11 _) rfl 1 (by decide) tw_122 rfl rfl dd_Chart_scan_60 ?_
          refine lv_iload C.x C.b dd_Chart_scan_63 (lv_at hl 3 rfl) ?_
          refine lv_iload C.x C.b dd_Chart_scan_65 (lv_at hl 5 rfl) ?_
          refine np_iadd C dd_Chart_scan_67 ?_
          refine lv_iconst (v := np_i 1) C.x C.b dd_Chart_scan_68 rfl ?_
          refine np_iadd C dd_Chart_scan_69 ?_
          refine lv_aload_n C.x C.b dd_Chart_scan_70 rfl (lv_at hl 0 rfl) ?_
          refine np_get (v := .ref (q 12)) C i_Chart hat.1 11 (nc_o11 _) rfl 1 (by decide) tw_122 rfl rfl dd_Chart_scan_71 ?_
          refine lv_iload C.x C.b dd_Chart_scan_74 (lv_at hl 2 rfl) ?_
          refine lv_iload C.x C.b dd_Chart_scan_76 (lv_at hl 5 rfl) ?_
          refine np_iadd C dd_Chart_scan_78 ?_
          refine np_iaload C hat.1 12 (nc_a12 _) 0 rfl (by decide) dd_Chart_scan_79 hf (fun hf => ?_)
          refine np_iastore C hat 12 (nc_a12 _) 0 rfl (by decide) (nc_s12 _ _ _) dd_Chart_scan_80 hf (fun H locs hat hf => ?_)
          refine lv_iconst (v := np_i 1) C.x C.b dd_Chart_scan_81 rfl ?_
          refine lv_istore (lv' := [(6, .int (np_i 1)), (0, .ref (q 11)), (2, .long (np_l x2)), (4, .int (np_i x4)), (5, .int (np_i x5)), (7, .int (np_i x7))]) C.x C.b dd_Chart_scan_82 hl (by decide) rfl (fun ls hl => ?_)
          exact w_f_Chart_scan_84 C hQ h19 _ _ _ _ _ _ _ _ _ hf hat (lv_sub hl [1, 2, 3, 4, 0, 5] rfl)
set_option maxHeartbeats 4000000 in
set_option maxRecDepth 100000 in
theorem w_f_Chart_scan (C : np_Cx gA p R s m args c D np_cl (np_ty cI cL cB) A np_al "NotationParse$Chart" prog_2_method_6_code 8 { frames := 1, cells := 0, slots := 0, locals := 20 }) (hQ : ∀ (pc : Nat) (ls : Array Slot) (H : Heap) (locs : List Loc) (v : Int) {σ : np_S}, decode prog_2_method_6_code pc = .ok (.ireturn, 1) → np_ck (v = 0 ∨ v = 1) (some (v, σ)) = some out → np_At D np_cl A (nc_wd q cI cL cB) s σ H locs → W p l e R s m args below meth c H locs 0 0 Q (F0 m pc ls [.int (np_i v)]))   : ∀ (x1 x2 : Int) (σ : np_S) (H : Heap) (locs : List Loc) (ls : Array Slot), f_Chart_scan  x1 x2 σ = some out → np_At D np_cl A (nc_wd q cI cL cB) s σ H locs → lv_has ls 8 [(0, .ref (q 11)), (1, .int (np_i x1)), (2, .long (np_l x2))] → W p l e R s m args below meth c H locs 0 0 Q (F0 m 0 ls []) := by
  intro x1 x2 σ H locs ls hf hat hl
  unfold f_Chart_scan at hf
  refine lv_iload_n C.x C.b dd_Chart_scan_0 rfl (lv_at hl 1 rfl) ?_
  refine lv_bipush (v := np_i 98) C.x C.b dd_Chart_scan_1 (by decide +kernel) ?_
  refine np_imul C dd_Chart_scan_3 ?_
  refine lv_istore (lv' := [(4, .int (np_i (x1 * 98))), (0, .ref (q 11)), (1, .int (np_i x1)), (2, .long (np_l x2))]) C.x C.b dd_Chart_scan_4 hl (by decide) rfl (fun ls hl => ?_)
  refine lv_iload C.x C.b dd_Chart_scan_6 (lv_at hl 0 rfl) ?_
  refine lv_bipush (v := np_i 98) C.x C.b dd_Chart_scan_8 (by decide +kernel) ?_
  refine np_iadd C dd_Chart_scan_10 ?_
  refine lv_istore (lv' := [(5, .int (np_i ((x1 * 98) + 98))), (4, .int (np_i (x1 * 98))), (0, .ref (q 11)), (1, .int (np_i x1)), (2, .long (np_l x2))]) C.x C.b dd_Chart_scan_11 hl (by decide) rfl (fun ls hl => ?_)
  refine lv_iconst (v := np_i 0) C.x C.b dd_Chart_scan_13 rfl ?_
  refine lv_istore (lv' := [(6, .int (np_i 0)), (5, .int (np_i ((x1 * 98) + 98))), (4, .int (np_i (x1 * 98))), (0, .ref (q 11)), (1, .int (np_i x1)), (2, .long (np_l x2))]) C.x C.b dd_Chart_scan_14 hl (by decide) rfl (fun ls hl => ?_)
  refine lv_iconst (v := np_i 0) C.x C.b dd_Chart_scan_16 rfl ?_
  refine lv_istore (lv' := [(7, .int (np_i 0)), (6, .int (np_i 0)), (5, .int (np_i ((x1 * 98) + 98))), (4, .int (np_i (x1 * 98))), (0, .ref (q 11)), (1, .int (np_i x1)), (2, .long (np_l x2))]) C.x C.b dd_Chart_scan_17 hl (by decide) rfl (fun ls hl => ?_)
  exact w_f_Chart_scan_19 C hQ  6000 _ _ _ _ _ _ _ _ _ hf hat (lv_sub hl [4, 6, 3, 2, 1, 0] rfl)
set_option maxHeartbeats 4000000 in
set_option maxRecDepth 100000 in
theorem c_Chart_scan (l : Launch) {gA : Nat → Nat} {D : va_G} {q : Nat → Nat} {cI cL cB : ClassId} (x1 x2 : Int) (σ : np_S) : np_Mi gA l D np_cl (np_ty cI cL cB) (nc_wd q cI cL cB) yy_Chart_scan (.code yy_Chart_scan prog_2_method_6_code 8 (some .boolean) :: np_al) { frames := 1, cells := 0, slots := 0, locals := 20 } [.ref (q 11), .int (np_i x1), .long (np_l x2)] σ (f_Chart_scan x1 x2 σ) :=
  np_mkz (by decide +kernel) (Nat.le_of_ble_eq_true rfl) (fun o p e R s m args below meth c Q A ls hf C hQ hat hl => w_f_Chart_scan C hQ x1 x2 σ _ _ _ hf hat (lv_sub hl [0, 1, 2] rfl))
set_option maxHeartbeats 4000000 in
set_option maxRecDepth 100000 in
theorem w_f_Grammar_lastDot (C : np_Cx gA p R s m args c D np_cl (np_ty cI cL cB) A np_al "NotationParse$Grammar" prog_3_method_3_code 2 { frames := 0, cells := 0, slots := 0, locals := 0 }) (hQ : ∀ (pc : Nat) (ls : Array Slot) (H : Heap) (locs : List Loc) (v : Int) {σ : np_S}, decode prog_3_method_3_code pc = .ok (.ireturn, 1) → some (v, σ) = some out → np_At D np_cl A (nc_wd q cI cL cB) s σ H locs → W p l e R s m args below meth c H locs 0 0 Q (F0 m pc ls [.int (np_i v)]))   : ∀ (x1 : Int) (σ : np_S) (H : Heap) (locs : List Loc) (ls : Array Slot), f_Grammar_lastDot  x1 σ = some out → np_At D np_cl A (nc_wd q cI cL cB) s σ H locs → lv_has ls 2 [(0, .ref (q 1)), (1, .int (np_i x1))] → W p l e R s m args below meth c H locs 0 0 Q (F0 m 0 ls []) := by
  intro x1 σ H locs ls hf hat hl
  unfold f_Grammar_lastDot at hf
  refine lv_iload_n C.x C.b dd_Grammar_lastDot_0 rfl (lv_at hl 1 rfl) ?_
  refine lv_bipush (v := np_i 7) C.x C.b dd_Grammar_lastDot_1 (by decide +kernel) ?_
  refine np_imul C dd_Grammar_lastDot_3 ?_
  refine lv_aload_n C.x C.b dd_Grammar_lastDot_4 rfl (lv_at hl 0 rfl) ?_
  refine np_get (v := .ref (q 5)) C i_Grammar hat.1 1 (nc_o1 _) rfl 3 (by decide) tw_58 rfl rfl dd_Grammar_lastDot_5 ?_
  refine lv_iload_n C.x C.b dd_Grammar_lastDot_8 rfl (lv_at hl 1 rfl) ?_
  refine np_iaload C hat.1 5 (nc_a5 _) 0 rfl (by decide) dd_Grammar_lastDot_9 hf (fun hf => ?_)
  refine np_iadd C dd_Grammar_lastDot_10 ?_
  exact hQ _ _ _ _ _ dd_Grammar_lastDot_11 hf hat
set_option maxHeartbeats 4000000 in
set_option maxRecDepth 100000 in
theorem c_Grammar_lastDot (l : Launch) {gA : Nat → Nat} {D : va_G} {q : Nat → Nat} {cI cL cB : ClassId} (x1 : Int) (σ : np_S) : np_Mi gA l D np_cl (np_ty cI cL cB) (nc_wd q cI cL cB) yy_Grammar_lastDot (.code yy_Grammar_lastDot prog_3_method_3_code 2 (some .int) :: np_al) { frames := 0, cells := 0, slots := 0, locals := 0 } [.ref (q 1), .int (np_i x1)] σ (f_Grammar_lastDot x1 σ) :=
  np_mki (by decide +kernel) (Nat.le_of_ble_eq_true rfl) (fun o p e R s m args below meth c Q A ls hf C hQ hat hl => w_f_Grammar_lastDot C hQ x1 σ _ _ _ hf hat (lv_sub hl [0, 1] rfl))
set_option maxHeartbeats 4000000 in
set_option maxRecDepth 100000 in
theorem w_f_Chart_isReached_23 (C : np_Cx gA p R s m args c D np_cl (np_ty cI cL cB) A np_al "NotationParse$Chart" prog_2_method_5_code 4 { frames := 0, cells := 0, slots := 0, locals := 0 }) (hQ : ∀ (pc : Nat) (ls : Array Slot) (H : Heap) (locs : List Loc) (v : Int) {σ : np_S}, decode prog_2_method_5_code pc = .ok (.ireturn, 1) → np_ck (v = 0 ∨ v = 1) (some (v, σ)) = some out → np_At D np_cl A (nc_wd q cI cL cB) s σ H locs → W p l e R s m args below meth c H locs 0 0 Q (F0 m pc ls [.int (np_i v)]))   : ∀ (t0 : Int) (σ : np_S) (H : Heap) (locs : List Loc) (ls : Array Slot), f_Chart_isReached_23  t0 σ = some out → np_At D np_cl A (nc_wd q cI cL cB) s σ H locs → lv_has ls 4 [] → W p l e R s m args below meth c H locs 0 0 Q (F0 m 23 ls [.int (np_i t0)]) := by
  intro t0 σ H locs ls hf hat hl
  unfold f_Chart_isReached_23 at hf
  exact hQ _ _ _ _ _ dd_Chart_isReached_23 hf hat
set_option maxHeartbeats 4000000 in
set_option maxRecDepth 100000 in
theorem w_f_Chart_isReached (C : np_Cx gA p R s m args c D np_cl (np_ty cI cL cB) A np_al "NotationParse$Chart" prog_2_method_5_code 4 { frames := 0, cells := 0, slots := 0, locals := 0 }) (hQ : ∀ (pc : Nat) (ls : Array Slot) (H : Heap) (locs : List Loc) (v : Int) {σ : np_S}, decode prog_2_method_5_code pc = .ok (.ireturn, 1) → np_ck (v = 0 ∨ v = 1) (some (v, σ)) = some out → np_At D np_cl A (nc_wd q cI cL cB) s σ H locs → W p l e R s m args below meth c H locs 0 0 Q (F0 m pc ls [.int (np_i v)]))   : ∀ (x1 x2 x3 : Int) (σ : np_S) (H : Heap) (locs : List Loc) (ls : Array Slot), f_Chart_isReached  x1 x2 x3 σ = some out → np_At D np_cl A (nc_wd q cI cL cB) s σ H locs → lv_has ls 4 [(0, .ref (q 11)), (1, .int (np_i x1)), (2, .int (np_i x2)), (3, .int (np_i x3))] → W p l e R s m args below meth c H locs 0 0 Q (F0 m 0 ls []) := by
  intro x1 x2 x3 σ H locs ls hf hat hl
  unfold f_Chart_isReached at hf
  refine lv_aload_n C.x C.b dd_Chart_isReached_0 rfl (lv_at hl 0 rfl) ?_
  refine np_get (v := .ref (q 12)) C i_Chart hat.1 11 (nc_o11 _) rfl 1 (by decide) tw_122 rfl rfl dd_Chart_isReached_1 ?_
  refine lv_iload_n C.x C.b dd_Chart_isReached_4 rfl (lv_at hl 2 rfl) ?_
  refine lv_bipush (v := np_i 98) C.x C.b dd_Chart_isReached_5 (by decide +kernel) ?_
  refine np_imul C dd_Chart_isReached_7 ?_
  refine lv_iload_n C.x C.b dd_Chart_isReached_8 rfl (lv_at hl 3 rfl) ?_
  refine np_iadd C dd_Chart_isReached_9 ?_
  refine np_iaload C hat.1 12 (nc_a12 _) 0 rfl (by decide) dd_Chart_isReached_10 hf (fun hf => ?_)
  refine lv_iload_n C.x C.b dd_Chart_isReached_11 rfl (lv_at hl 1 rfl) ?_
  refine np_iushr C dd_Chart_isReached_12 ?_
  refine lv_iconst (v := np_i 1) C.x C.b dd_Chart_isReached_13 rfl ?_
  refine np_iand C dd_Chart_isReached_14 ?_
  refine np_if_eq (tgt := 22) C dd_Chart_isReached_15 (by decide) hf (fun _ hf => ?_) (fun _ hf => ?_)
  · refine lv_iconst (v := np_i 0) C.x C.b dd_Chart_isReached_22 rfl ?_
    exact w_f_Chart_isReached_23 C hQ  _ _ _ _ _ hf hat (lv_sub hl [] rfl)
  · refine lv_iconst (v := np_i 1) C.x C.b dd_Chart_isReached_18 rfl ?_
    refine lv_goto (tgt := 23) C.x C.b dd_Chart_isReached_19 (by decide) ?_
    exact w_f_Chart_isReached_23 C hQ  _ _ _ _ _ hf hat (lv_sub hl [] rfl)
set_option maxHeartbeats 4000000 in
set_option maxRecDepth 100000 in
theorem c_Chart_isReached (l : Launch) {gA : Nat → Nat} {D : va_G} {q : Nat → Nat} {cI cL cB : ClassId} (x1 x2 x3 : Int) (σ : np_S) : np_Mi gA l D np_cl (np_ty cI cL cB) (nc_wd q cI cL cB) yy_Chart_isReached (.code yy_Chart_isReached prog_2_method_5_code 4 (some .boolean) :: np_al) { frames := 0, cells := 0, slots := 0, locals := 0 } [.ref (q 11), .int (np_i x1), .int (np_i x2), .int (np_i x3)] σ (f_Chart_isReached x1 x2 x3 σ) :=
  np_mkz (by decide +kernel) (Nat.le_of_ble_eq_true rfl) (fun o p e R s m args below meth c Q A ls hf C hQ hat hl => w_f_Chart_isReached C hQ x1 x2 x3 σ _ _ _ hf hat (lv_sub hl [0, 1, 2, 3] rfl))
set_option maxHeartbeats 4000000 in
set_option maxRecDepth 100000 in
theorem w_f_Chart_highestTerm_60 (C : np_Cx gA p R s m args c D np_cl (np_ty cI cL cB) A np_al "NotationParse$Chart" prog_2_method_8_code 5 { frames := 1, cells := 0, slots := 0, locals := 23 }) (hQ : ∀ (pc : Nat) (ls : Array Slot) (H : Heap) (locs : List Loc) (v : Int) {σ : np_S}, decode prog_2_method_8_code pc = .ok (.ireturn, 1) → some (v, σ) = some out → np_At D np_cl A (nc_wd q cI cL cB) s σ H locs → W p l e R s m args below meth c H locs 0 0 Q (F0 m pc ls [.int (np_i v)])) {k5 : (Int → Int → Int → Int → np_S → Option np_O)} (h5 : ∀ (x1 x2 x3 x4 : Int) (σ : np_S) (H : Heap) (locs : List Loc) (ls : Array Slot), k5 x1 x2 x3 x4 σ = some out → np_At D np_cl A (nc_wd q cI cL cB) s σ H locs → lv_has ls 5 [(0, .ref (q 11)), (1, .int (np_i x1)), (2, .int (np_i x2)), (3, .int (np_i x3)), (4, .int (np_i x4))] → W p l e R s m args below meth c H locs 0 0 Q (F0 m 5 ls [])) : ∀ (x1 x2 x3 x4 : Int) (σ : np_S) (H : Heap) (locs : List Loc) (ls : Array Slot), f_Chart_highestTerm_60 k5 x1 x2 x3 x4 σ = some out → np_At D np_cl A (nc_wd q cI cL cB) s σ H locs → lv_has ls 5 [(0, .ref (q 11)), (1, .int (np_i x1)), (2, .int (np_i x2)), (3, .int (np_i x3)), (4, .int (np_i x4))] → W p l e R s m args below meth c H locs 0 0 Q (F0 m 60 ls []) := by
  intro x1 x2 x3 x4 σ H locs ls hf hat hl
  unfold f_Chart_highestTerm_60 at hf
  refine lv_iinc (v := np_i (x4 + 1)) (lv' := [(4, .int (np_i (x4 + 1))), (0, .ref (q 11)), (1, .int (np_i x1)), (2, .int (np_i x2)), (3, .int (np_i x3))]) C.x C.b dd_Chart_highestTerm_60 hl (k := 4) rfl (np_inc _ _) (by decide) rfl (fun ls hl => ?_)
  refine lv_goto (tgt := 5) C.x C.b dd_Chart_highestTerm_63 (by decide) ?_
  exact h5 _ _ _ _ _ _ _ _ hf hat (lv_sub hl [1, 2, 3, 4, 0] rfl)
set_option maxHeartbeats 4000000 in
set_option maxRecDepth 100000 in
theorem w_f_Chart_highestTerm_5 (C : np_Cx gA p R s m args c D np_cl (np_ty cI cL cB) A np_al "NotationParse$Chart" prog_2_method_8_code 5 { frames := 1, cells := 0, slots := 0, locals := 23 }) (hQ : ∀ (pc : Nat) (ls : Array Slot) (H : Heap) (locs : List Loc) (v : Int) {σ : np_S}, decode prog_2_method_8_code pc = .ok (.ireturn, 1) → some (v, σ) = some out → np_At D np_cl A (nc_wd q cI cL cB) s σ H locs → W p l e R s m args below meth c H locs 0 0 Q (F0 m pc ls [.int (np_i v)]))   : ∀ (n : Nat), ∀ (x1 x2 x3 x4 : Int) (σ : np_S) (H : Heap) (locs : List Loc) (ls : Array Slot), f_Chart_highestTerm_5  n x1 x2 x3 x4 σ = some out → np_At D np_cl A (nc_wd q cI cL cB) s σ H locs → lv_has ls 5 [(0, .ref (q 11)), (1, .int (np_i x1)), (2, .int (np_i x2)), (3, .int (np_i x3)), (4, .int (np_i x4))] → W p l e R s m args below meth c H locs 0 0 Q (F0 m 5 ls []) := by
  intro n
  induction n with
  | zero => intro x1 x2 x3 x4 σ H locs ls hf; cases hf
  | succ n ih =>
    intro x1 x2 x3 x4 σ H locs ls hf hat hl
    have h5 := ih
    have hf : f_Chart_highestTerm_5_b  (fun x1 x2 x3 x4 σ => f_Chart_highestTerm_5  n x1 x2 x3 x4 σ) x1 x2 x3 x4 σ = some out := hf
    unfold f_Chart_highestTerm_5_b at hf
    refine lv_iload C.x C.b dd_Chart_highestTerm_5 (lv_at hl 4 rfl) ?_
    refine lv_aload_n C.x C.b dd_Chart_highestTerm_7 rfl (lv_at hl 0 rfl) ?_
    refine np_get (v := .ref (q 1)) C i_Chart hat.1 11 (nc_o11 _) rfl 0 (by decide) tw_121 rfl rfl dd_Chart_highestTerm_8 ?_
    refine np_get (v := .int (np_i (σ 1 4))) C i_Grammar hat.1 1 (nc_o1 _) rfl 4 (by decide) tw_61 rfl rfl dd_Chart_highestTerm_11 ?_
    refine np_icmp_ge (tgt := 66) C dd_Chart_highestTerm_14 (by decide) hf (fun _ hf => ?_) (fun _ hf => ?_)
    · refine lv_iload_n C.x C.b dd_Chart_highestTerm_66 rfl (lv_at hl 3 rfl) ?_
      exact hQ _ _ _ _ _ dd_Chart_highestTerm_67 hf hat
    · refine lv_aload_n C.x C.b dd_Chart_highestTerm_17 rfl (lv_at hl 0 rfl) ?_
      refine np_get (v := .ref (q 1)) C i_Chart hat.1 11 (nc_o11 _) rfl 0 (by decide) tw_121 rfl rfl dd_Chart_highestTerm_18 ?_
      refine np_get (v := .ref (q 4)) C i_Grammar hat.1 1 (nc_o1 _) rfl 2 (by decide) tw_56 rfl rfl dd_Chart_highestTerm_21 ?_
      refine lv_iload C.x C.b dd_Chart_highestTerm_24 (lv_at hl 4 rfl) ?_
      refine np_iaload C hat.1 4 (nc_a4 _) 0 rfl (by decide) dd_Chart_highestTerm_26 hf (fun hf => ?_)
      refine lv_iload_n C.x C.b dd_Chart_highestTerm_27 rfl (lv_at hl 3 rfl) ?_
      refine np_icmp_le (tgt := 60) C dd_Chart_highestTerm_28 (by decide) hf (fun _ hf => ?_) (fun _ hf => ?_)
      · exact w_f_Chart_highestTerm_60 C hQ h5 _ _ _ _ _ _ _ _ hf hat (lv_sub hl [0, 1, 2, 3, 4] rfl)
      · refine lv_aload_n C.x C.b dd_Chart_highestTerm_31 rfl (lv_at hl 0 rfl) ?_
        refine lv_iload_n C.x C.b dd_Chart_highestTerm_32 rfl (lv_at hl 1 rfl) ?_
        refine lv_iload_n C.x C.b dd_Chart_highestTerm_33 rfl (lv_at hl 2 rfl) ?_
        refine lv_aload_n C.x C.b dd_Chart_highestTerm_34 rfl (lv_at hl 0 rfl) ?_
        refine np_get (v := .ref (q 1)) C i_Chart hat.1 11 (nc_o11 _) rfl 0 (by decide) tw_121 rfl rfl dd_Chart_highestTerm_35 ?_
        refine lv_iload C.x C.b dd_Chart_highestTerm_38 (lv_at hl 4 rfl) ?_
        refine np_callVi (As := [.int (np_i x4)]) (rest := [.int (np_i x2), .int (np_i x1), .ref (q 11)]) C (c_Grammar_lastDot l x4 _) np_allgood tw_775 tw_776 tw_777 tw_2 tw_778 (nA := 1) (by decide +kernel) rfl ⟨rfl, rfl, Nat.le_of_ble_eq_true rfl, Nat.le_of_ble_eq_true rfl⟩ (nc_o1 _) rfl hat rfl hl.1 (Nat.le_of_ble_eq_true rfl) dd_Chart_highestTerm_40 hf (fun o1 H locs hf hat => ?_)
        refine np_callVi (As := [.int (np_i x1), .int (np_i x2), .int (np_i o1.1)]) (rest := []) C (c_Chart_isReached l x1 x2 o1.1 _) np_allgood tw_779 tw_781 tp_11 tw_5 tw_782 (nA := 3) (by decide +kernel) rfl ⟨rfl, rfl, Nat.le_of_ble_eq_true rfl, Nat.le_of_ble_eq_true rfl⟩ (nc_o11 _) rfl hat rfl hl.1 (Nat.le_of_ble_eq_true rfl) dd_Chart_highestTerm_43 hf (fun o2 H locs hf hat => ?_)
        refine np_if_eq (tgt := 60) C dd_Chart_highestTerm_46 (by decide) hf (fun _ hf => ?_) (fun _ hf => ?_)
        · exact w_f_Chart_highestTerm_60 C hQ h5 _ _ _ _ _ _ _ _ hf hat (lv_sub hl [0, 1, 2, 3, 4] rfl)
        · refine lv_aload_n C.x C.b dd_Chart_highestTerm_49 rfl (lv_at hl 0 rfl) ?_
          refine np_get (v := .ref (q 1)) C i_Chart hat.1 11 (nc_o11 _) rfl 0 (by decide) tw_121 rfl rfl dd_Chart_highestTerm_50 ?_
          refine np_get (v := .ref (q 4)) C i_Grammar hat.1 1 (nc_o1 _) rfl 2 (by decide) tw_56 rfl rfl dd_Chart_highestTerm_53 ?_
          refine lv_iload C.x C.b dd_Chart_highestTerm_56 (lv_at hl 4 rfl) ?_
          refine np_iaload C hat.1 4 (nc_a4 _) 0 rfl (by decide) dd_Chart_highestTerm_58 hf (fun hf => ?_)
          refine lv_istore_n (lv' := [(3, .int (np_i (o2.2 4 x4))), (0, .ref (q 11)), (1, .int (np_i x1)), (2, .int (np_i x2)), (4, .int (np_i x4))]) C.x C.b dd_Chart_highestTerm_59 rfl hl (by decide) rfl (fun ls hl => ?_)
          exact w_f_Chart_highestTerm_60 C hQ h5 _ _ _ _ _ _ _ _ hf hat (lv_sub hl [1, 2, 3, 0, 4] rfl)
set_option maxHeartbeats 4000000 in
set_option maxRecDepth 100000 in
theorem w_f_Chart_highestTerm (C : np_Cx gA p R s m args c D np_cl (np_ty cI cL cB) A np_al "NotationParse$Chart" prog_2_method_8_code 5 { frames := 1, cells := 0, slots := 0, locals := 23 }) (hQ : ∀ (pc : Nat) (ls : Array Slot) (H : Heap) (locs : List Loc) (v : Int) {σ : np_S}, decode prog_2_method_8_code pc = .ok (.ireturn, 1) → some (v, σ) = some out → np_At D np_cl A (nc_wd q cI cL cB) s σ H locs → W p l e R s m args below meth c H locs 0 0 Q (F0 m pc ls [.int (np_i v)]))   : ∀ (x1 x2 : Int) (σ : np_S) (H : Heap) (locs : List Loc) (ls : Array Slot), f_Chart_highestTerm  x1 x2 σ = some out → np_At D np_cl A (nc_wd q cI cL cB) s σ H locs → lv_has ls 5 [(0, .ref (q 11)), (1, .int (np_i x1)), (2, .int (np_i x2))] → W p l e R s m args below meth c H locs 0 0 Q (F0 m 0 ls []) := by
  intro x1 x2 σ H locs ls hf hat hl
  unfold f_Chart_highestTerm at hf
  refine lv_iconst (v := np_i (-1)) C.x C.b dd_Chart_highestTerm_0 rfl ?_
  refine lv_istore_n (lv' := [(3, .int (np_i ((-1)))), (0, .ref (q 11)), (1, .int (np_i x1)), (2, .int (np_i x2))]) C.x C.b dd_Chart_highestTerm_1 rfl hl (by decide) rfl (fun ls hl => ?_)
  refine lv_iconst (v := np_i 0) C.x C.b dd_Chart_highestTerm_2 rfl ?_
  refine lv_istore (lv' := [(4, .int (np_i 0)), (3, .int (np_i ((-1)))), (0, .ref (q 11)), (1, .int (np_i x1)), (2, .int (np_i x2))]) C.x C.b dd_Chart_highestTerm_3 hl (by decide) rfl (fun ls hl => ?_)
  exact w_f_Chart_highestTerm_5 C hQ  6000 _ _ _ _ _ _ _ _ hf hat (lv_sub hl [2, 3, 4, 1, 0] rfl)
set_option maxHeartbeats 4000000 in
set_option maxRecDepth 100000 in
theorem c_Chart_highestTerm (l : Launch) {gA : Nat → Nat} {D : va_G} {q : Nat → Nat} {cI cL cB : ClassId} (x1 x2 : Int) (σ : np_S) : np_Mi gA l D np_cl (np_ty cI cL cB) (nc_wd q cI cL cB) yy_Chart_highestTerm (.code yy_Chart_highestTerm prog_2_method_8_code 5 (some .int) :: np_al) { frames := 1, cells := 0, slots := 0, locals := 23 } [.ref (q 11), .int (np_i x1), .int (np_i x2)] σ (f_Chart_highestTerm x1 x2 σ) :=
  np_mki (by decide +kernel) (Nat.le_of_ble_eq_true rfl) (fun o p e R s m args below meth c Q A ls hf C hQ hat hl => w_f_Chart_highestTerm C hQ x1 x2 σ _ _ _ hf hat (lv_sub hl [0, 1, 2] rfl))
set_option maxHeartbeats 4000000 in
set_option maxRecDepth 100000 in
theorem w_f_Chart_fillHoles_76 (C : np_Cx gA p R s m args c D np_cl (np_ty cI cL cB) A np_al "NotationParse$Chart" prog_2_method_9_code 8 { frames := 1, cells := 0, slots := 0, locals := 20 }) (hQ : ∀ (pc : Nat) (ls : Array Slot) (H : Heap) (locs : List Loc) {σ : np_S}, decode prog_2_method_9_code pc = .ok (.return_, 1) → some ((0 : Int), σ) = some out → np_At D np_cl A (nc_wd q cI cL cB) s σ H locs → W p l e R s m args below meth c H locs 0 0 Q (F0 m pc ls [])) {k15 : (Int → Int → Int → Int → np_S → Option np_O)} (h15 : ∀ (x3 x4 x5 x6 : Int) (σ : np_S) (H : Heap) (locs : List Loc) (ls : Array Slot), k15 x3 x4 x5 x6 σ = some out → np_At D np_cl A (nc_wd q cI cL cB) s σ H locs → lv_has ls 8 [(0, .ref (q 11)), (3, .int (np_i x3)), (4, .int (np_i x4)), (5, .int (np_i x5)), (6, .int (np_i x6))] → W p l e R s m args below meth c H locs 0 0 Q (F0 m 15 ls [])) : ∀ (x3 x4 x5 x6 : Int) (σ : np_S) (H : Heap) (locs : List Loc) (ls : Array Slot), f_Chart_fillHoles_76 k15 x3 x4 x5 x6 σ = some out → np_At D np_cl A (nc_wd q cI cL cB) s σ H locs → lv_has ls 8 [(0, .ref (q 11)), (3, .int (np_i x3)), (4, .int (np_i x4)), (5, .int (np_i x5)), (6, .int (np_i x6))] → W p l e R s m args below meth c H locs 0 0 Q (F0 m 76 ls []) := by
  intro x3 x4 x5 x6 σ H locs ls hf hat hl
  unfold f_Chart_fillHoles_76 at hf
  refine lv_iinc (v := np_i (x6 + 1)) (lv' := [(6, .int (np_i (x6 + 1))), (0, .ref (q 11)), (3, .int (np_i x3)), (4, .int (np_i x4)), (5, .int (np_i x5))]) C.x C.b dd_Chart_fillHoles_76 hl (k := 4) rfl (np_inc _ _) (by decide) rfl (fun ls hl => ?_)
  refine lv_goto (tgt := 15) C.x C.b dd_Chart_fillHoles_79 (by decide) ?_
  exact h15 _ _ _ _ _ _ _ _ hf hat (lv_sub hl [1, 2, 3, 4, 0] rfl)
set_option maxHeartbeats 4000000 in
set_option maxRecDepth 100000 in
theorem w_f_Chart_fillHoles_15 (C : np_Cx gA p R s m args c D np_cl (np_ty cI cL cB) A np_al "NotationParse$Chart" prog_2_method_9_code 8 { frames := 1, cells := 0, slots := 0, locals := 20 }) (hQ : ∀ (pc : Nat) (ls : Array Slot) (H : Heap) (locs : List Loc) {σ : np_S}, decode prog_2_method_9_code pc = .ok (.return_, 1) → some ((0 : Int), σ) = some out → np_At D np_cl A (nc_wd q cI cL cB) s σ H locs → W p l e R s m args below meth c H locs 0 0 Q (F0 m pc ls []))   : ∀ (n : Nat), ∀ (x3 x4 x5 x6 : Int) (σ : np_S) (H : Heap) (locs : List Loc) (ls : Array Slot), f_Chart_fillHoles_15  n x3 x4 x5 x6 σ = some out → np_At D np_cl A (nc_wd q cI cL cB) s σ H locs → lv_has ls 8 [(0, .ref (q 11)), (3, .int (np_i x3)), (4, .int (np_i x4)), (5, .int (np_i x5)), (6, .int (np_i x6))] → W p l e R s m args below meth c H locs 0 0 Q (F0 m 15 ls []) := by
  intro n
  induction n with
  | zero => intro x3 x4 x5 x6 σ H locs ls hf; cases hf
  | succ n ih =>
    intro x3 x4 x5 x6 σ H locs ls hf hat hl
    have h15 := ih
    have hf : f_Chart_fillHoles_15_b  (fun x3 x4 x5 x6 σ => f_Chart_fillHoles_15  n x3 x4 x5 x6 σ) x3 x4 x5 x6 σ = some out := hf
    unfold f_Chart_fillHoles_15_b at hf
    refine lv_iload C.x C.b dd_Chart_fillHoles_15 (lv_at hl 4 rfl) ?_
    refine lv_aload_n C.x C.b dd_Chart_fillHoles_17 rfl (lv_at hl 0 rfl) ?_
    refine np_get (v := .ref (q 1)) C i_Chart hat.1 11 (nc_o11 _) rfl 0 (by decide) tw_121 rfl rfl dd_Chart_fillHoles_18 ?_
    refine np_callVi (As := []) (rest := [.int (np_i x6)]) C (c_Grammar_usedDots l _) np_allgood tw_766 tw_356 tw_357 tw_2 tw_358 (nA := 0) (by decide +kernel) rfl ⟨rfl, rfl, Nat.le_of_ble_eq_true rfl, Nat.le_of_ble_eq_true rfl⟩ (nc_o1 _) rfl hat rfl hl.1 (Nat.le_of_ble_eq_true rfl) dd_Chart_fillHoles_21 hf (fun o1 H locs hf hat => ?_)
    refine np_icmp_ge (tgt := 82) C dd_Chart_fillHoles_24 (by decide) hf (fun _ hf => ?_) (fun _ hf => ?_)
    · exact hQ _ _ _ _ dd_Chart_fillHoles_82 hf hat
    · refine lv_aload_n C.x C.b dd_Chart_fillHoles_27 rfl (lv_at hl 0 rfl) ?_
      refine np_get (v := .ref (q 1)) C i_Chart hat.1 11 (nc_o11 _) rfl 0 (by decide) tw_121 rfl rfl dd_Chart_fillHoles_28 ?_
      refine np_get (v := .ref (q 2)) C i_Grammar hat.1 1 (nc_o1 _) rfl 0 (by decide) tw_52 rfl rfl dd_Chart_fillHoles_31 ?_
      refine lv_iload C.x C.b dd_Chart_fillHoles_34 (lv_at hl 4 rfl) ?_
      refine np_iaload C hat.1 2 (nc_a2 _) 0 rfl (by decide) dd_Chart_fillHoles_36 hf (fun hf => ?_)
      refine lv_istore (lv' := [(7, .int (np_i (o1.2 2 x6))), (0, .ref (q 11)), (3, .int (np_i x3)), (4, .int (np_i x4)), (5, .int (np_i x5)), (6, .int (np_i x6))]) C.x C.b dd_Chart_fillHoles_37 hl (by decide) rfl (fun ls hl => ?_)
      refine lv_iload C.x C.b dd_Chart_fillHoles_39 (lv_at hl 0 rfl) ?_
      refine lv_iconst (v := np_i (-1)) C.x C.b dd_Chart_fillHoles_41 rfl ?_
      refine np_icmp_eq (tgt := 76) C dd_Chart_fillHoles_42 (by decide) hf (fun _ hf => ?_) (fun _ hf => ?_)
      · exact w_f_Chart_fillHoles_76 C hQ h15 _ _ _ _ _ _ _ _ hf hat (lv_sub hl [1, 2, 3, 4, 5] rfl)
      · refine lv_iload C.x C.b dd_Chart_fillHoles_45 (lv_at hl 0 rfl) ?_
        refine lv_iload_n C.x C.b dd_Chart_fillHoles_47 rfl (lv_at hl 2 rfl) ?_
        refine np_icmp_gt (tgt := 76) C dd_Chart_fillHoles_48 (by decide) hf (fun _ hf => ?_) (fun _ hf => ?_)
        · exact w_f_Chart_fillHoles_76 C hQ h15 _ _ _ _ _ _ _ _ hf hat (lv_sub hl [1, 2, 3, 4, 5] rfl)
        · refine lv_aload_n C.x C.b dd_Chart_fillHoles_51 rfl (lv_at hl 1 rfl) ?_
          refine np_get (v := .ref (q 12)) C i_Chart hat.1 11 (nc_o11 _) rfl 1 (by decide) tw_122 rfl rfl dd_Chart_fillHoles_52 ?_
          refine lv_iload C.x C.b dd_Chart_fillHoles_55 (lv_at hl 4 rfl) ?_
          refine lv_iload C.x C.b dd_Chart_fillHoles_57 (lv_at hl 5 rfl) ?_
          refine np_iadd C dd_Chart_fillHoles_59 ?_
          refine lv_iconst (v := np_i 1) C.x C.b dd_Chart_fillHoles_60 rfl ?_
          refine np_iadd C dd_Chart_fillHoles_61 ?_
          refine lv_dup2_11 C.x C.b dd_Chart_fillHoles_62 rfl rfl ?_
          refine np_iaload C hat.1 12 (nc_a12 _) 0 rfl (by decide) dd_Chart_fillHoles_63 hf (fun hf => ?_)
          refine lv_aload_n C.x C.b dd_Chart_fillHoles_64 rfl (lv_at hl 1 rfl) ?_
          refine np_get (v := .ref (q 12)) C i_Chart hat.1 11 (nc_o11 _) rfl 1 (by decide) tw_122 rfl rfl dd_Chart_fillHoles_65 ?_
          refine lv_iload C.x C.b dd_Chart_fillHoles_68 (lv_at hl 3 rfl) ?_
          refine lv_iload C.x C.b dd_Chart_fillHoles_70 (lv_at hl 5 rfl) ?_
          refine np_iadd C dd_Chart_fillHoles_72 ?_
          refine np_iaload C hat.1 12 (nc_a12 _) 0 rfl (by decide) dd_Chart_fillHoles_73 hf (fun hf => ?_)
          refine np_ior C dd_Chart_fillHoles_74 ?_
          refine np_iastore C hat 12 (nc_a12 _) 0 rfl (by decide) (nc_s12 _ _ _) dd_Chart_fillHoles_75 hf (fun H locs hat hf => ?_)
          exact w_f_Chart_fillHoles_76 C hQ h15 _ _ _ _ _ _ _ _ hf hat (lv_sub hl [1, 2, 3, 4, 5] rfl)
set_option maxHeartbeats 4000000 in
set_option maxRecDepth 100000 in
theorem w_f_Chart_fillHoles (C : np_Cx gA p R s m args c D np_cl (np_ty cI cL cB) A np_al "NotationParse$Chart" prog_2_method_9_code 8 { frames := 1, cells := 0, slots := 0, locals := 20 }) (hQ : ∀ (pc : Nat) (ls : Array Slot) (H : Heap) (locs : List Loc) {σ : np_S}, decode prog_2_method_9_code pc = .ok (.return_, 1) → some ((0 : Int), σ) = some out → np_At D np_cl A (nc_wd q cI cL cB) s σ H locs → W p l e R s m args below meth c H locs 0 0 Q (F0 m pc ls []))   : ∀ (x1 x2 x3 : Int) (σ : np_S) (H : Heap) (locs : List Loc) (ls : Array Slot), f_Chart_fillHoles  x1 x2 x3 σ = some out → np_At D np_cl A (nc_wd q cI cL cB) s σ H locs → lv_has ls 8 [(0, .ref (q 11)), (1, .int (np_i x1)), (2, .int (np_i x2)), (3, .int (np_i x3))] → W p l e R s m args below meth c H locs 0 0 Q (F0 m 0 ls []) := by
  intro x1 x2 x3 σ H locs ls hf hat hl
  unfold f_Chart_fillHoles at hf
  refine lv_iload_n C.x C.b dd_Chart_fillHoles_0 rfl (lv_at hl 1 rfl) ?_
  refine lv_bipush (v := np_i 98) C.x C.b dd_Chart_fillHoles_1 (by decide +kernel) ?_
  refine np_imul C dd_Chart_fillHoles_3 ?_
  refine lv_istore (lv' := [(4, .int (np_i (x1 * 98))), (0, .ref (q 11)), (1, .int (np_i x1)), (2, .int (np_i x2)), (3, .int (np_i x3))]) C.x C.b dd_Chart_fillHoles_4 hl (by decide) rfl (fun ls hl => ?_)
  refine lv_iload_n C.x C.b dd_Chart_fillHoles_6 rfl (lv_at hl 3 rfl) ?_
  refine lv_bipush (v := np_i 98) C.x C.b dd_Chart_fillHoles_7 (by decide +kernel) ?_
  refine np_imul C dd_Chart_fillHoles_9 ?_
  refine lv_istore (lv' := [(5, .int (np_i (x2 * 98))), (4, .int (np_i (x1 * 98))), (0, .ref (q 11)), (1, .int (np_i x1)), (2, .int (np_i x2)), (3, .int (np_i x3))]) C.x C.b dd_Chart_fillHoles_10 hl (by decide) rfl (fun ls hl => ?_)
  refine lv_iconst (v := np_i 0) C.x C.b dd_Chart_fillHoles_12 rfl ?_
  refine lv_istore (lv' := [(6, .int (np_i 0)), (5, .int (np_i (x2 * 98))), (4, .int (np_i (x1 * 98))), (0, .ref (q 11)), (1, .int (np_i x1)), (2, .int (np_i x2)), (3, .int (np_i x3))]) C.x C.b dd_Chart_fillHoles_13 hl (by decide) rfl (fun ls hl => ?_)
  exact w_f_Chart_fillHoles_15 C hQ  6000 _ _ _ _ _ _ _ _ hf hat (lv_sub hl [3, 6, 2, 1, 0] rfl)
set_option maxHeartbeats 4000000 in
set_option maxRecDepth 100000 in
theorem c_Chart_fillHoles (l : Launch) {gA : Nat → Nat} {D : va_G} {q : Nat → Nat} {cI cL cB : ClassId} (x1 x2 x3 : Int) (σ : np_S) : np_Mv gA l D np_cl (np_ty cI cL cB) (nc_wd q cI cL cB) yy_Chart_fillHoles (.code yy_Chart_fillHoles prog_2_method_9_code 8 none :: np_al) { frames := 1, cells := 0, slots := 0, locals := 20 } [.ref (q 11), .int (np_i x1), .int (np_i x2), .int (np_i x3)] σ (f_Chart_fillHoles x1 x2 x3 σ) :=
  np_mkv (by decide +kernel) (Nat.le_of_ble_eq_true rfl) (fun o p e R s m args below meth c Q A ls hf C hQ hat hl => w_f_Chart_fillHoles C hQ x1 x2 x3 σ _ _ _ hf hat (lv_sub hl [0, 1, 2, 3] rfl))
end NW0
end
section
section NW1
variable {p : Program} {l : Launch} {e : Env} {R : Room} {s : State} {m : MethodId} {args : Array Value} {below : List Frame} {meth : Method} {c : Code} {Q : State → Prop} {D : va_G} {A : Nat → Prop} {q : Nat → Nat} {cI cL cB : ClassId} {out : np_O} {gA : Nat → Nat}
set_option maxHeartbeats 4000000 in
set_option maxRecDepth 100000 in
theorem w_f_Chart_complete_27 (C : np_Cx gA p R s m args c D np_cl (np_ty cI cL cB) A np_al "NotationParse$Chart" prog_2_method_7_code 4 { frames := 2, cells := 0, slots := 0, locals := 47 }) (hQ : ∀ (pc : Nat) (ls : Array Slot) (H : Heap) (locs : List Loc) {σ : np_S}, decode prog_2_method_7_code pc = .ok (.return_, 1) → some ((0 : Int), σ) = some out → np_At D np_cl A (nc_wd q cI cL cB) s σ H locs → W p l e R s m args below meth c H locs 0 0 Q (F0 m pc ls [])) {k4 : (Int → Int → np_S → Option np_O)} (h4 : ∀ (x1 x2 : Int) (σ : np_S) (H : Heap) (locs : List Loc) (ls : Array Slot), k4 x1 x2 σ = some out → np_At D np_cl A (nc_wd q cI cL cB) s σ H locs → lv_has ls 4 [(0, .ref (q 11)), (1, .int (np_i x1)), (2, .int (np_i x2))] → W p l e R s m args below meth c H locs 0 0 Q (F0 m 4 ls [])) : ∀ (x1 x2 : Int) (σ : np_S) (H : Heap) (locs : List Loc) (ls : Array Slot), f_Chart_complete_27 k4 x1 x2 σ = some out → np_At D np_cl A (nc_wd q cI cL cB) s σ H locs → lv_has ls 4 [(0, .ref (q 11)), (1, .int (np_i x1)), (2, .int (np_i x2))] → W p l e R s m args below meth c H locs 0 0 Q (F0 m 27 ls []) := by
  intro x1 x2 σ H locs ls hf hat hl
  unfold f_Chart_complete_27 at hf
  refine lv_iinc (v := np_i (x2 + (-1))) (lv' := [(2, .int (np_i (x2 + (-1)))), (0, .ref (q 11)), (1, .int (np_i x1))]) C.x C.b dd_Chart_complete_27 hl (k := 2) rfl (np_inc _ _) (by decide) rfl (fun ls hl => ?_)
  refine lv_goto (tgt := 4) C.x C.b dd_Chart_complete_30 (by decide) ?_
  exact h4 _ _ _ _ _ _ hf hat (lv_sub hl [1, 2, 0] rfl)
set_option maxHeartbeats 4000000 in
set_option maxRecDepth 100000 in
theorem w_f_Chart_complete_4 (C : np_Cx gA p R s m args c D np_cl (np_ty cI cL cB) A np_al "NotationParse$Chart" prog_2_method_7_code 4 { frames := 2, cells := 0, slots := 0, locals := 47 }) (hQ : ∀ (pc : Nat) (ls : Array Slot) (H : Heap) (locs : List Loc) {σ : np_S}, decode prog_2_method_7_code pc = .ok (.return_, 1) → some ((0 : Int), σ) = some out → np_At D np_cl A (nc_wd q cI cL cB) s σ H locs → W p l e R s m args below meth c H locs 0 0 Q (F0 m pc ls []))   : ∀ (n : Nat), ∀ (x1 x2 : Int) (σ : np_S) (H : Heap) (locs : List Loc) (ls : Array Slot), f_Chart_complete_4  n x1 x2 σ = some out → np_At D np_cl A (nc_wd q cI cL cB) s σ H locs → lv_has ls 4 [(0, .ref (q 11)), (1, .int (np_i x1)), (2, .int (np_i x2))] → W p l e R s m args below meth c H locs 0 0 Q (F0 m 4 ls []) := by
  intro n
  induction n with
  | zero => intro x1 x2 σ H locs ls hf; cases hf
  | succ n ih =>
    intro x1 x2 σ H locs ls hf hat hl
    have h4 := ih
    have hf : f_Chart_complete_4_b  (fun x1 x2 σ => f_Chart_complete_4  n x1 x2 σ) x1 x2 σ = some out := hf
    unfold f_Chart_complete_4_b at hf
    refine lv_iload_n C.x C.b dd_Chart_complete_4 rfl (lv_at hl 2 rfl) ?_
    refine np_if_lt (tgt := 33) C dd_Chart_complete_5 (by decide) hf (fun _ hf => ?_) (fun _ hf => ?_)
    · exact hQ _ _ _ _ dd_Chart_complete_33 hf hat
    · refine lv_aload_n C.x C.b dd_Chart_complete_8 rfl (lv_at hl 0 rfl) ?_
      refine lv_iload_n C.x C.b dd_Chart_complete_9 rfl (lv_at hl 2 rfl) ?_
      refine lv_iload_n C.x C.b dd_Chart_complete_10 rfl (lv_at hl 1 rfl) ?_
      refine np_callVi (As := [.int (np_i x2), .int (np_i x1)]) (rest := []) C (c_Chart_highestTerm l x2 x1 _) np_allgood tw_771 tw_773 tp_10 tw_5 tw_774 (nA := 2) (by decide +kernel) rfl ⟨rfl, rfl, Nat.le_of_ble_eq_true rfl, Nat.le_of_ble_eq_true rfl⟩ (nc_o11 _) rfl hat rfl hl.1 (Nat.le_of_ble_eq_true rfl) dd_Chart_complete_11 hf (fun o1 H locs hf hat => ?_)
      refine lv_istore_n (lv' := [(3, .int (np_i o1.1)), (0, .ref (q 11)), (1, .int (np_i x1)), (2, .int (np_i x2))]) C.x C.b dd_Chart_complete_14 rfl hl (by decide) rfl (fun ls hl => ?_)
      refine lv_iload_n C.x C.b dd_Chart_complete_15 rfl (lv_at hl 0 rfl) ?_
      refine lv_iconst (v := np_i (-1)) C.x C.b dd_Chart_complete_16 rfl ?_
      refine np_icmp_eq (tgt := 27) C dd_Chart_complete_17 (by decide) hf (fun _ hf => ?_) (fun _ hf => ?_)
      · exact w_f_Chart_complete_27 C hQ h4 _ _ _ _ _ _ hf hat (lv_sub hl [1, 2, 3] rfl)
      · refine lv_aload_n C.x C.b dd_Chart_complete_20 rfl (lv_at hl 1 rfl) ?_
        refine lv_iload_n C.x C.b dd_Chart_complete_21 rfl (lv_at hl 3 rfl) ?_
        refine lv_iload_n C.x C.b dd_Chart_complete_22 rfl (lv_at hl 2 rfl) ?_
        refine lv_iload_n C.x C.b dd_Chart_complete_23 rfl (lv_at hl 0 rfl) ?_
        refine np_callVv (As := [.int (np_i x2), .int (np_i x1), .int (np_i o1.1)]) (rest := []) C (c_Chart_fillHoles l x2 x1 o1.1 _) np_allgood tw_783 tw_785 tp_12 tw_5 tw_786 (nA := 3) (by decide +kernel) rfl ⟨rfl, rfl, Nat.le_of_ble_eq_true rfl, Nat.le_of_ble_eq_true rfl⟩ (nc_o11 _) rfl hat rfl hl.1 (Nat.le_of_ble_eq_true rfl) dd_Chart_complete_24 hf (fun o2 H locs hf hat => ?_)
        exact w_f_Chart_complete_27 C hQ h4 _ _ _ _ _ _ hf hat (lv_sub hl [1, 2, 3] rfl)
set_option maxHeartbeats 4000000 in
set_option maxRecDepth 100000 in
theorem w_f_Chart_complete (C : np_Cx gA p R s m args c D np_cl (np_ty cI cL cB) A np_al "NotationParse$Chart" prog_2_method_7_code 4 { frames := 2, cells := 0, slots := 0, locals := 47 }) (hQ : ∀ (pc : Nat) (ls : Array Slot) (H : Heap) (locs : List Loc) {σ : np_S}, decode prog_2_method_7_code pc = .ok (.return_, 1) → some ((0 : Int), σ) = some out → np_At D np_cl A (nc_wd q cI cL cB) s σ H locs → W p l e R s m args below meth c H locs 0 0 Q (F0 m pc ls []))   : ∀ (x1 : Int) (σ : np_S) (H : Heap) (locs : List Loc) (ls : Array Slot), f_Chart_complete  x1 σ = some out → np_At D np_cl A (nc_wd q cI cL cB) s σ H locs → lv_has ls 4 [(0, .ref (q 11)), (1, .int (np_i x1))] → W p l e R s m args below meth c H locs 0 0 Q (F0 m 0 ls []) := by
  intro x1 σ H locs ls hf hat hl
  unfold f_Chart_complete at hf
  refine lv_iload_n C.x C.b dd_Chart_complete_0 rfl (lv_at hl 1 rfl) ?_
  refine lv_iconst (v := np_i 1) C.x C.b dd_Chart_complete_1 rfl ?_
  refine np_isub C dd_Chart_complete_2 ?_
  refine lv_istore_n (lv' := [(2, .int (np_i (x1 - 1))), (0, .ref (q 11)), (1, .int (np_i x1))]) C.x C.b dd_Chart_complete_3 rfl hl (by decide) rfl (fun ls hl => ?_)
  exact w_f_Chart_complete_4 C hQ  6000 _ _ _ _ _ _ hf hat (lv_sub hl [1, 2, 0] rfl)
set_option maxHeartbeats 4000000 in
set_option maxRecDepth 100000 in
theorem c_Chart_complete (l : Launch) {gA : Nat → Nat} {D : va_G} {q : Nat → Nat} {cI cL cB : ClassId} (x1 : Int) (σ : np_S) : np_Mv gA l D np_cl (np_ty cI cL cB) (nc_wd q cI cL cB) yy_Chart_complete (.code yy_Chart_complete prog_2_method_7_code 4 none :: np_al) { frames := 2, cells := 0, slots := 0, locals := 47 } [.ref (q 11), .int (np_i x1)] σ (f_Chart_complete x1 σ) :=
  np_mkv (by decide +kernel) (Nat.le_of_ble_eq_true rfl) (fun o p e R s m args below meth c Q A ls hf C hQ hat hl => w_f_Chart_complete C hQ x1 σ _ _ _ hf hat (lv_sub hl [0, 1] rfl))
set_option maxHeartbeats 4000000 in
set_option maxRecDepth 100000 in
theorem w_f_Chart_leastWanted_56 (C : np_Cx gA p R s m args c D np_cl (np_ty cI cL cB) A np_al "NotationParse$Chart" prog_2_method_10_code 5 { frames := 1, cells := 0, slots := 0, locals := 20 }) (hQ : ∀ (pc : Nat) (ls : Array Slot) (H : Heap) (locs : List Loc) (v : Int) {σ : np_S}, decode prog_2_method_10_code pc = .ok (.ireturn, 1) → some (v, σ) = some out → np_At D np_cl A (nc_wd q cI cL cB) s σ H locs → W p l e R s m args below meth c H locs 0 0 Q (F0 m pc ls [.int (np_i v)])) {k5 : (Int → Int → Int → np_S → Option np_O)} (h5 : ∀ (x1 x2 x3 : Int) (σ : np_S) (H : Heap) (locs : List Loc) (ls : Array Slot), k5 x1 x2 x3 σ = some out → np_At D np_cl A (nc_wd q cI cL cB) s σ H locs → lv_has ls 5 [(0, .ref (q 11)), (1, .int (np_i x1)), (2, .int (np_i x2)), (3, .int (np_i x3))] → W p l e R s m args below meth c H locs 0 0 Q (F0 m 5 ls [])) : ∀ (x1 x2 x3 : Int) (σ : np_S) (H : Heap) (locs : List Loc) (ls : Array Slot), f_Chart_leastWanted_56 k5 x1 x2 x3 σ = some out → np_At D np_cl A (nc_wd q cI cL cB) s σ H locs → lv_has ls 5 [(0, .ref (q 11)), (1, .int (np_i x1)), (2, .int (np_i x2)), (3, .int (np_i x3))] → W p l e R s m args below meth c H locs 0 0 Q (F0 m 56 ls []) := by
  intro x1 x2 x3 σ H locs ls hf hat hl
  unfold f_Chart_leastWanted_56 at hf
  refine lv_iinc (v := np_i (x3 + 1)) (lv' := [(3, .int (np_i (x3 + 1))), (0, .ref (q 11)), (1, .int (np_i x1)), (2, .int (np_i x2))]) C.x C.b dd_Chart_leastWanted_56 hl (k := 3) rfl (np_inc _ _) (by decide) rfl (fun ls hl => ?_)
  refine lv_goto (tgt := 5) C.x C.b dd_Chart_leastWanted_59 (by decide) ?_
  exact h5 _ _ _ _ _ _ _ hf hat (lv_sub hl [1, 2, 3, 0] rfl)
set_option maxHeartbeats 4000000 in
set_option maxRecDepth 100000 in
theorem w_f_Chart_leastWanted_5 (C : np_Cx gA p R s m args c D np_cl (np_ty cI cL cB) A np_al "NotationParse$Chart" prog_2_method_10_code 5 { frames := 1, cells := 0, slots := 0, locals := 20 }) (hQ : ∀ (pc : Nat) (ls : Array Slot) (H : Heap) (locs : List Loc) (v : Int) {σ : np_S}, decode prog_2_method_10_code pc = .ok (.ireturn, 1) → some (v, σ) = some out → np_At D np_cl A (nc_wd q cI cL cB) s σ H locs → W p l e R s m args below meth c H locs 0 0 Q (F0 m pc ls [.int (np_i v)]))   : ∀ (n : Nat), ∀ (x1 x2 x3 : Int) (σ : np_S) (H : Heap) (locs : List Loc) (ls : Array Slot), f_Chart_leastWanted_5  n x1 x2 x3 σ = some out → np_At D np_cl A (nc_wd q cI cL cB) s σ H locs → lv_has ls 5 [(0, .ref (q 11)), (1, .int (np_i x1)), (2, .int (np_i x2)), (3, .int (np_i x3))] → W p l e R s m args below meth c H locs 0 0 Q (F0 m 5 ls []) := by
  intro n
  induction n with
  | zero => intro x1 x2 x3 σ H locs ls hf; cases hf
  | succ n ih =>
    intro x1 x2 x3 σ H locs ls hf hat hl
    have h5 := ih
    have hf : f_Chart_leastWanted_5_b  (fun x1 x2 x3 σ => f_Chart_leastWanted_5  n x1 x2 x3 σ) x1 x2 x3 σ = some out := hf
    unfold f_Chart_leastWanted_5_b at hf
    refine lv_iload_n C.x C.b dd_Chart_leastWanted_5 rfl (lv_at hl 3 rfl) ?_
    refine lv_aload_n C.x C.b dd_Chart_leastWanted_6 rfl (lv_at hl 0 rfl) ?_
    refine np_get (v := .ref (q 1)) C i_Chart hat.1 11 (nc_o11 _) rfl 0 (by decide) tw_121 rfl rfl dd_Chart_leastWanted_7 ?_
    refine np_callVi (As := []) (rest := [.int (np_i x3)]) C (c_Grammar_usedDots l _) np_allgood tw_766 tw_356 tw_357 tw_2 tw_358 (nA := 0) (by decide +kernel) rfl ⟨rfl, rfl, Nat.le_of_ble_eq_true rfl, Nat.le_of_ble_eq_true rfl⟩ (nc_o1 _) rfl hat rfl hl.1 (Nat.le_of_ble_eq_true rfl) dd_Chart_leastWanted_10 hf (fun o1 H locs hf hat => ?_)
    refine np_icmp_ge (tgt := 62) C dd_Chart_leastWanted_13 (by decide) hf (fun _ hf => ?_) (fun _ hf => ?_)
    · refine lv_iload_n C.x C.b dd_Chart_leastWanted_62 rfl (lv_at hl 2 rfl) ?_
      exact hQ _ _ _ _ _ dd_Chart_leastWanted_63 hf hat
    · refine lv_aload_n C.x C.b dd_Chart_leastWanted_16 rfl (lv_at hl 0 rfl) ?_
      refine np_get (v := .ref (q 1)) C i_Chart hat.1 11 (nc_o11 _) rfl 0 (by decide) tw_121 rfl rfl dd_Chart_leastWanted_17 ?_
      refine np_get (v := .ref (q 2)) C i_Grammar hat.1 1 (nc_o1 _) rfl 0 (by decide) tw_52 rfl rfl dd_Chart_leastWanted_20 ?_
      refine lv_iload_n C.x C.b dd_Chart_leastWanted_23 rfl (lv_at hl 3 rfl) ?_
      refine np_iaload C hat.1 2 (nc_a2 _) 0 rfl (by decide) dd_Chart_leastWanted_24 hf (fun hf => ?_)
      refine lv_istore (lv' := [(4, .int (np_i (o1.2 2 x3))), (0, .ref (q 11)), (1, .int (np_i x1)), (2, .int (np_i x2)), (3, .int (np_i x3))]) C.x C.b dd_Chart_leastWanted_25 hl (by decide) rfl (fun ls hl => ?_)
      refine lv_iload C.x C.b dd_Chart_leastWanted_27 (lv_at hl 0 rfl) ?_
      refine lv_iconst (v := np_i (-1)) C.x C.b dd_Chart_leastWanted_29 rfl ?_
      refine np_icmp_eq (tgt := 56) C dd_Chart_leastWanted_30 (by decide) hf (fun _ hf => ?_) (fun _ hf => ?_)
      · exact w_f_Chart_leastWanted_56 C hQ h5 _ _ _ _ _ _ _ hf hat (lv_sub hl [1, 2, 3, 4] rfl)
      · refine lv_iload C.x C.b dd_Chart_leastWanted_33 (lv_at hl 0 rfl) ?_
        refine lv_iload_n C.x C.b dd_Chart_leastWanted_35 rfl (lv_at hl 3 rfl) ?_
        refine np_icmp_ge (tgt := 56) C dd_Chart_leastWanted_36 (by decide) hf (fun _ hf => ?_) (fun _ hf => ?_)
        · exact w_f_Chart_leastWanted_56 C hQ h5 _ _ _ _ _ _ _ hf hat (lv_sub hl [1, 2, 3, 4] rfl)
        · refine lv_aload_n C.x C.b dd_Chart_leastWanted_39 rfl (lv_at hl 1 rfl) ?_
          refine np_get (v := .ref (q 12)) C i_Chart hat.1 11 (nc_o11 _) rfl 1 (by decide) tw_122 rfl rfl dd_Chart_leastWanted_40 ?_
          refine lv_iload_n C.x C.b dd_Chart_leastWanted_43 rfl (lv_at hl 2 rfl) ?_
          refine lv_bipush (v := np_i 98) C.x C.b dd_Chart_leastWanted_44 (by decide +kernel) ?_
          refine np_imul C dd_Chart_leastWanted_46 ?_
          refine lv_iload_n C.x C.b dd_Chart_leastWanted_47 rfl (lv_at hl 4 rfl) ?_
          refine np_iadd C dd_Chart_leastWanted_48 ?_
          refine np_iaload C hat.1 12 (nc_a12 _) 0 rfl (by decide) dd_Chart_leastWanted_49 hf (fun hf => ?_)
          refine np_if_eq (tgt := 56) C dd_Chart_leastWanted_50 (by decide) hf (fun _ hf => ?_) (fun _ hf => ?_)
          · exact w_f_Chart_leastWanted_56 C hQ h5 _ _ _ _ _ _ _ hf hat (lv_sub hl [1, 2, 3, 4] rfl)
          · refine lv_iload C.x C.b dd_Chart_leastWanted_53 (lv_at hl 0 rfl) ?_
            refine lv_istore_n (lv' := [(2, .int (np_i (o1.2 2 x3))), (4, .int (np_i (o1.2 2 x3))), (0, .ref (q 11)), (1, .int (np_i x1)), (3, .int (np_i x3))]) C.x C.b dd_Chart_leastWanted_55 rfl hl (by decide) rfl (fun ls hl => ?_)
            exact w_f_Chart_leastWanted_56 C hQ h5 _ _ _ _ _ _ _ hf hat (lv_sub hl [2, 3, 0, 4] rfl)
set_option maxHeartbeats 4000000 in
set_option maxRecDepth 100000 in
theorem w_f_Chart_leastWanted (C : np_Cx gA p R s m args c D np_cl (np_ty cI cL cB) A np_al "NotationParse$Chart" prog_2_method_10_code 5 { frames := 1, cells := 0, slots := 0, locals := 20 }) (hQ : ∀ (pc : Nat) (ls : Array Slot) (H : Heap) (locs : List Loc) (v : Int) {σ : np_S}, decode prog_2_method_10_code pc = .ok (.ireturn, 1) → some (v, σ) = some out → np_At D np_cl A (nc_wd q cI cL cB) s σ H locs → W p l e R s m args below meth c H locs 0 0 Q (F0 m pc ls [.int (np_i v)]))   : ∀ (x1 : Int) (σ : np_S) (H : Heap) (locs : List Loc) (ls : Array Slot), f_Chart_leastWanted  x1 σ = some out → np_At D np_cl A (nc_wd q cI cL cB) s σ H locs → lv_has ls 5 [(0, .ref (q 11)), (1, .int (np_i x1))] → W p l e R s m args below meth c H locs 0 0 Q (F0 m 0 ls []) := by
  intro x1 σ H locs ls hf hat hl
  unfold f_Chart_leastWanted at hf
  refine lv_bipush (v := np_i 11) C.x C.b dd_Chart_leastWanted_0 (by decide +kernel) ?_
  refine lv_istore_n (lv' := [(2, .int (np_i 11)), (0, .ref (q 11)), (1, .int (np_i x1))]) C.x C.b dd_Chart_leastWanted_2 rfl hl (by decide) rfl (fun ls hl => ?_)
  refine lv_iconst (v := np_i 0) C.x C.b dd_Chart_leastWanted_3 rfl ?_
  refine lv_istore_n (lv' := [(3, .int (np_i 0)), (2, .int (np_i 11)), (0, .ref (q 11)), (1, .int (np_i x1))]) C.x C.b dd_Chart_leastWanted_4 rfl hl (by decide) rfl (fun ls hl => ?_)
  exact w_f_Chart_leastWanted_5 C hQ  6000 _ _ _ _ _ _ _ hf hat (lv_sub hl [2, 3, 1, 0] rfl)
set_option maxHeartbeats 4000000 in
set_option maxRecDepth 100000 in
theorem c_Chart_leastWanted (l : Launch) {gA : Nat → Nat} {D : va_G} {q : Nat → Nat} {cI cL cB : ClassId} (x1 : Int) (σ : np_S) : np_Mi gA l D np_cl (np_ty cI cL cB) (nc_wd q cI cL cB) yy_Chart_leastWanted (.code yy_Chart_leastWanted prog_2_method_10_code 5 (some .int) :: np_al) { frames := 1, cells := 0, slots := 0, locals := 20 } [.ref (q 11), .int (np_i x1)] σ (f_Chart_leastWanted x1 σ) :=
  np_mki (by decide +kernel) (Nat.le_of_ble_eq_true rfl) (fun o p e R s m args below meth c Q A ls hf C hQ hat hl => w_f_Chart_leastWanted C hQ x1 σ _ _ _ hf hat (lv_sub hl [0, 1] rfl))
set_option maxHeartbeats 4000000 in
set_option maxRecDepth 100000 in
theorem w_f_Chart_leastFirstHole_57 (C : np_Cx gA p R s m args c D np_cl (np_ty cI cL cB) A np_al "NotationParse$Chart" prog_2_method_12_code 5 { frames := 0, cells := 0, slots := 0, locals := 0 }) (hQ : ∀ (pc : Nat) (ls : Array Slot) (H : Heap) (locs : List Loc) (v : Int) {σ : np_S}, decode prog_2_method_12_code pc = .ok (.ireturn, 1) → some (v, σ) = some out → np_At D np_cl A (nc_wd q cI cL cB) s σ H locs → W p l e R s m args below meth c H locs 0 0 Q (F0 m pc ls [.int (np_i v)])) {k4 : (Int → Int → Int → np_S → Option np_O)} (h4 : ∀ (x1 x2 x3 : Int) (σ : np_S) (H : Heap) (locs : List Loc) (ls : Array Slot), k4 x1 x2 x3 σ = some out → np_At D np_cl A (nc_wd q cI cL cB) s σ H locs → lv_has ls 5 [(0, .ref (q 11)), (1, .int (np_i x1)), (2, .int (np_i x2)), (3, .int (np_i x3))] → W p l e R s m args below meth c H locs 0 0 Q (F0 m 4 ls [])) : ∀ (x1 x2 x3 : Int) (σ : np_S) (H : Heap) (locs : List Loc) (ls : Array Slot), f_Chart_leastFirstHole_57 k4 x1 x2 x3 σ = some out → np_At D np_cl A (nc_wd q cI cL cB) s σ H locs → lv_has ls 5 [(0, .ref (q 11)), (1, .int (np_i x1)), (2, .int (np_i x2)), (3, .int (np_i x3))] → W p l e R s m args below meth c H locs 0 0 Q (F0 m 57 ls []) := by
  intro x1 x2 x3 σ H locs ls hf hat hl
  unfold f_Chart_leastFirstHole_57 at hf
  refine lv_iinc (v := np_i (x3 + 1)) (lv' := [(3, .int (np_i (x3 + 1))), (0, .ref (q 11)), (1, .int (np_i x1)), (2, .int (np_i x2))]) C.x C.b dd_Chart_leastFirstHole_57 hl (k := 3) rfl (np_inc _ _) (by decide) rfl (fun ls hl => ?_)
  refine lv_goto (tgt := 4) C.x C.b dd_Chart_leastFirstHole_60 (by decide) ?_
  exact h4 _ _ _ _ _ _ _ hf hat (lv_sub hl [1, 2, 3, 0] rfl)
set_option maxHeartbeats 4000000 in
set_option maxRecDepth 100000 in
theorem w_f_Chart_leastFirstHole_4 (C : np_Cx gA p R s m args c D np_cl (np_ty cI cL cB) A np_al "NotationParse$Chart" prog_2_method_12_code 5 { frames := 0, cells := 0, slots := 0, locals := 0 }) (hQ : ∀ (pc : Nat) (ls : Array Slot) (H : Heap) (locs : List Loc) (v : Int) {σ : np_S}, decode prog_2_method_12_code pc = .ok (.ireturn, 1) → some (v, σ) = some out → np_At D np_cl A (nc_wd q cI cL cB) s σ H locs → W p l e R s m args below meth c H locs 0 0 Q (F0 m pc ls [.int (np_i v)]))   : ∀ (n : Nat), ∀ (x1 x2 x3 : Int) (σ : np_S) (H : Heap) (locs : List Loc) (ls : Array Slot), f_Chart_leastFirstHole_4  n x1 x2 x3 σ = some out → np_At D np_cl A (nc_wd q cI cL cB) s σ H locs → lv_has ls 5 [(0, .ref (q 11)), (1, .int (np_i x1)), (2, .int (np_i x2)), (3, .int (np_i x3))] → W p l e R s m args below meth c H locs 0 0 Q (F0 m 4 ls []) := by
  intro n
  induction n with
  | zero => intro x1 x2 x3 σ H locs ls hf; cases hf
  | succ n ih =>
    intro x1 x2 x3 σ H locs ls hf hat hl
    have h4 := ih
    have hf : f_Chart_leastFirstHole_4_b  (fun x1 x2 x3 σ => f_Chart_leastFirstHole_4  n x1 x2 x3 σ) x1 x2 x3 σ = some out := hf
    unfold f_Chart_leastFirstHole_4_b at hf
    refine lv_iload_n C.x C.b dd_Chart_leastFirstHole_4 rfl (lv_at hl 3 rfl) ?_
    refine lv_aload_n C.x C.b dd_Chart_leastFirstHole_5 rfl (lv_at hl 0 rfl) ?_
    refine np_get (v := .ref (q 1)) C i_Chart hat.1 11 (nc_o11 _) rfl 0 (by decide) tw_121 rfl rfl dd_Chart_leastFirstHole_6 ?_
    refine np_get (v := .int (np_i (σ 1 4))) C i_Grammar hat.1 1 (nc_o1 _) rfl 4 (by decide) tw_61 rfl rfl dd_Chart_leastFirstHole_9 ?_
    refine np_icmp_ge (tgt := 63) C dd_Chart_leastFirstHole_12 (by decide) hf (fun _ hf => ?_) (fun _ hf => ?_)
    · refine lv_iload_n C.x C.b dd_Chart_leastFirstHole_63 rfl (lv_at hl 2 rfl) ?_
      exact hQ _ _ _ _ _ dd_Chart_leastFirstHole_64 hf hat
    · refine lv_aload_n C.x C.b dd_Chart_leastFirstHole_15 rfl (lv_at hl 0 rfl) ?_
      refine np_get (v := .ref (q 1)) C i_Chart hat.1 11 (nc_o11 _) rfl 0 (by decide) tw_121 rfl rfl dd_Chart_leastFirstHole_16 ?_
      refine np_get (v := .ref (q 2)) C i_Grammar hat.1 1 (nc_o1 _) rfl 0 (by decide) tw_52 rfl rfl dd_Chart_leastFirstHole_19 ?_
      refine lv_iload_n C.x C.b dd_Chart_leastFirstHole_22 rfl (lv_at hl 3 rfl) ?_
      refine lv_bipush (v := np_i 7) C.x C.b dd_Chart_leastFirstHole_23 (by decide +kernel) ?_
      refine np_imul C dd_Chart_leastFirstHole_25 ?_
      refine np_iaload C hat.1 2 (nc_a2 _) 0 rfl (by decide) dd_Chart_leastFirstHole_26 hf (fun hf => ?_)
      refine lv_istore (lv' := [(4, .int (np_i (σ 2 (x3 * 7)))), (0, .ref (q 11)), (1, .int (np_i x1)), (2, .int (np_i x2)), (3, .int (np_i x3))]) C.x C.b dd_Chart_leastFirstHole_27 hl (by decide) rfl (fun ls hl => ?_)
      refine lv_aload_n C.x C.b dd_Chart_leastFirstHole_29 rfl (lv_at hl 1 rfl) ?_
      refine np_get (v := .ref (q 1)) C i_Chart hat.1 11 (nc_o11 _) rfl 0 (by decide) tw_121 rfl rfl dd_Chart_leastFirstHole_30 ?_
      refine np_get (v := .ref (q 4)) C i_Grammar hat.1 1 (nc_o1 _) rfl 2 (by decide) tw_56 rfl rfl dd_Chart_leastFirstHole_33 ?_
      refine lv_iload_n C.x C.b dd_Chart_leastFirstHole_36 rfl (lv_at hl 4 rfl) ?_
      refine np_iaload C hat.1 4 (nc_a4 _) 0 rfl (by decide) dd_Chart_leastFirstHole_37 hf (fun hf => ?_)
      refine lv_iload_n C.x C.b dd_Chart_leastFirstHole_38 rfl (lv_at hl 2 rfl) ?_
      refine np_icmp_lt (tgt := 57) C dd_Chart_leastFirstHole_39 (by decide) hf (fun _ hf => ?_) (fun _ hf => ?_)
      · exact w_f_Chart_leastFirstHole_57 C hQ h4 _ _ _ _ _ _ _ hf hat (lv_sub hl [1, 2, 3, 4] rfl)
      · refine lv_iload C.x C.b dd_Chart_leastFirstHole_42 (lv_at hl 0 rfl) ?_
        refine lv_iconst (v := np_i (-1)) C.x C.b dd_Chart_leastFirstHole_44 rfl ?_
        refine np_icmp_eq (tgt := 57) C dd_Chart_leastFirstHole_45 (by decide) hf (fun _ hf => ?_) (fun _ hf => ?_)
        · exact w_f_Chart_leastFirstHole_57 C hQ h4 _ _ _ _ _ _ _ hf hat (lv_sub hl [1, 2, 3, 4] rfl)
        · refine lv_iload C.x C.b dd_Chart_leastFirstHole_48 (lv_at hl 0 rfl) ?_
          refine lv_iload_n C.x C.b dd_Chart_leastFirstHole_50 rfl (lv_at hl 3 rfl) ?_
          refine np_icmp_ge (tgt := 57) C dd_Chart_leastFirstHole_51 (by decide) hf (fun _ hf => ?_) (fun _ hf => ?_)
          · exact w_f_Chart_leastFirstHole_57 C hQ h4 _ _ _ _ _ _ _ hf hat (lv_sub hl [1, 2, 3, 4] rfl)
          · refine lv_iload C.x C.b dd_Chart_leastFirstHole_54 (lv_at hl 0 rfl) ?_
            refine lv_istore_n (lv' := [(2, .int (np_i (σ 2 (x3 * 7)))), (4, .int (np_i (σ 2 (x3 * 7)))), (0, .ref (q 11)), (1, .int (np_i x1)), (3, .int (np_i x3))]) C.x C.b dd_Chart_leastFirstHole_56 rfl hl (by decide) rfl (fun ls hl => ?_)
            exact w_f_Chart_leastFirstHole_57 C hQ h4 _ _ _ _ _ _ _ hf hat (lv_sub hl [2, 3, 0, 4] rfl)
set_option maxHeartbeats 4000000 in
set_option maxRecDepth 100000 in
theorem w_f_Chart_leastFirstHole (C : np_Cx gA p R s m args c D np_cl (np_ty cI cL cB) A np_al "NotationParse$Chart" prog_2_method_12_code 5 { frames := 0, cells := 0, slots := 0, locals := 0 }) (hQ : ∀ (pc : Nat) (ls : Array Slot) (H : Heap) (locs : List Loc) (v : Int) {σ : np_S}, decode prog_2_method_12_code pc = .ok (.ireturn, 1) → some (v, σ) = some out → np_At D np_cl A (nc_wd q cI cL cB) s σ H locs → W p l e R s m args below meth c H locs 0 0 Q (F0 m pc ls [.int (np_i v)]))   : ∀ (x1 : Int) (σ : np_S) (H : Heap) (locs : List Loc) (ls : Array Slot), f_Chart_leastFirstHole  x1 σ = some out → np_At D np_cl A (nc_wd q cI cL cB) s σ H locs → lv_has ls 5 [(0, .ref (q 11)), (1, .int (np_i x1))] → W p l e R s m args below meth c H locs 0 0 Q (F0 m 0 ls []) := by
  intro x1 σ H locs ls hf hat hl
  unfold f_Chart_leastFirstHole at hf
  refine lv_iload_n C.x C.b dd_Chart_leastFirstHole_0 rfl (lv_at hl 1 rfl) ?_
  refine lv_istore_n (lv' := [(2, .int (np_i x1)), (0, .ref (q 11)), (1, .int (np_i x1))]) C.x C.b dd_Chart_leastFirstHole_1 rfl hl (by decide) rfl (fun ls hl => ?_)
  refine lv_iconst (v := np_i 2) C.x C.b dd_Chart_leastFirstHole_2 rfl ?_
  refine lv_istore_n (lv' := [(3, .int (np_i 2)), (2, .int (np_i x1)), (0, .ref (q 11)), (1, .int (np_i x1))]) C.x C.b dd_Chart_leastFirstHole_3 rfl hl (by decide) rfl (fun ls hl => ?_)
  exact w_f_Chart_leastFirstHole_4 C hQ  6000 _ _ _ _ _ _ _ hf hat (lv_sub hl [2, 3, 1, 0] rfl)
set_option maxHeartbeats 4000000 in
set_option maxRecDepth 100000 in
theorem c_Chart_leastFirstHole (l : Launch) {gA : Nat → Nat} {D : va_G} {q : Nat → Nat} {cI cL cB : ClassId} (x1 : Int) (σ : np_S) : np_Mi gA l D np_cl (np_ty cI cL cB) (nc_wd q cI cL cB) yy_Chart_leastFirstHole (.code yy_Chart_leastFirstHole prog_2_method_12_code 5 (some .int) :: np_al) { frames := 0, cells := 0, slots := 0, locals := 0 } [.ref (q 11), .int (np_i x1)] σ (f_Chart_leastFirstHole x1 σ) :=
  np_mki (by decide +kernel) (Nat.le_of_ble_eq_true rfl) (fun o p e R s m args below meth c Q A ls hf C hQ hat hl => w_f_Chart_leastFirstHole C hQ x1 σ _ _ _ hf hat (lv_sub hl [0, 1] rfl))
set_option maxHeartbeats 4000000 in
set_option maxRecDepth 100000 in
theorem w_f_Chart_predict_96 (C : np_Cx gA p R s m args c D np_cl (np_ty cI cL cB) A np_al "NotationParse$Chart" prog_2_method_11_code 7 { frames := 1, cells := 0, slots := 0, locals := 24 }) (hQ : ∀ (pc : Nat) (ls : Array Slot) (H : Heap) (locs : List Loc) {σ : np_S}, decode prog_2_method_11_code pc = .ok (.return_, 1) → some ((0 : Int), σ) = some out → np_At D np_cl A (nc_wd q cI cL cB) s σ H locs → W p l e R s m args below meth c H locs 0 0 Q (F0 m pc ls [])) {k52 : (Int → Int → Int → np_S → Option np_O)} (h52 : ∀ (x1 x3 x5 : Int) (σ : np_S) (H : Heap) (locs : List Loc) (ls : Array Slot), k52 x1 x3 x5 σ = some out → np_At D np_cl A (nc_wd q cI cL cB) s σ H locs → lv_has ls 7 [(0, .ref (q 11)), (1, .int (np_i x1)), (3, .int (np_i x3)), (5, .int (np_i x5))] → W p l e R s m args below meth c H locs 0 0 Q (F0 m 52 ls [])) : ∀ (x1 x3 x5 : Int) (σ : np_S) (H : Heap) (locs : List Loc) (ls : Array Slot), f_Chart_predict_96 k52 x1 x3 x5 σ = some out → np_At D np_cl A (nc_wd q cI cL cB) s σ H locs → lv_has ls 7 [(0, .ref (q 11)), (1, .int (np_i x1)), (3, .int (np_i x3)), (5, .int (np_i x5))] → W p l e R s m args below meth c H locs 0 0 Q (F0 m 96 ls []) := by
  intro x1 x3 x5 σ H locs ls hf hat hl
  unfold f_Chart_predict_96 at hf
  refine lv_iinc (v := np_i (x5 + 1)) (lv' := [(5, .int (np_i (x5 + 1))), (0, .ref (q 11)), (1, .int (np_i x1)), (3, .int (np_i x3))]) C.x C.b dd_Chart_predict_96 hl (k := 3) rfl (np_inc _ _) (by decide) rfl (fun ls hl => ?_)
  refine lv_goto (tgt := 52) C.x C.b dd_Chart_predict_99 (by decide) ?_
  exact h52 _ _ _ _ _ _ _ hf hat (lv_sub hl [1, 2, 3, 0] rfl)
set_option maxHeartbeats 4000000 in
set_option maxRecDepth 100000 in
theorem w_f_Chart_predict_52 (C : np_Cx gA p R s m args c D np_cl (np_ty cI cL cB) A np_al "NotationParse$Chart" prog_2_method_11_code 7 { frames := 1, cells := 0, slots := 0, locals := 24 }) (hQ : ∀ (pc : Nat) (ls : Array Slot) (H : Heap) (locs : List Loc) {σ : np_S}, decode prog_2_method_11_code pc = .ok (.return_, 1) → some ((0 : Int), σ) = some out → np_At D np_cl A (nc_wd q cI cL cB) s σ H locs → W p l e R s m args below meth c H locs 0 0 Q (F0 m pc ls []))   : ∀ (n : Nat), ∀ (x1 x3 x5 : Int) (σ : np_S) (H : Heap) (locs : List Loc) (ls : Array Slot), f_Chart_predict_52  n x1 x3 x5 σ = some out → np_At D np_cl A (nc_wd q cI cL cB) s σ H locs → lv_has ls 7 [(0, .ref (q 11)), (1, .int (np_i x1)), (3, .int (np_i x3)), (5, .int (np_i x5))] → W p l e R s m args below meth c H locs 0 0 Q (F0 m 52 ls []) := by
  intro n
  induction n with
  | zero => intro x1 x3 x5 σ H locs ls hf; cases hf
  | succ n ih =>
    intro x1 x3 x5 σ H locs ls hf hat hl
    have h52 := ih
    have hf : f_Chart_predict_52_b  (fun x1 x3 x5 σ => f_Chart_predict_52  n x1 x3 x5 σ) x1 x3 x5 σ = some out := hf
    unfold f_Chart_predict_52_b at hf
    refine lv_iload C.x C.b dd_Chart_predict_52 (lv_at hl 3 rfl) ?_
    refine lv_aload_n C.x C.b dd_Chart_predict_54 rfl (lv_at hl 0 rfl) ?_
    refine np_get (v := .ref (q 1)) C i_Chart hat.1 11 (nc_o11 _) rfl 0 (by decide) tw_121 rfl rfl dd_Chart_predict_55 ?_
    refine np_get (v := .int (np_i (σ 1 4))) C i_Grammar hat.1 1 (nc_o1 _) rfl 4 (by decide) tw_61 rfl rfl dd_Chart_predict_58 ?_
    refine np_icmp_ge (tgt := 102) C dd_Chart_predict_61 (by decide) hf (fun _ hf => ?_) (fun _ hf => ?_)
    · exact hQ _ _ _ _ dd_Chart_predict_102 hf hat
    · refine lv_aload_n C.x C.b dd_Chart_predict_64 rfl (lv_at hl 0 rfl) ?_
      refine np_get (v := .ref (q 1)) C i_Chart hat.1 11 (nc_o11 _) rfl 0 (by decide) tw_121 rfl rfl dd_Chart_predict_65 ?_
      refine np_get (v := .ref (q 4)) C i_Grammar hat.1 1 (nc_o1 _) rfl 2 (by decide) tw_56 rfl rfl dd_Chart_predict_68 ?_
      refine lv_iload C.x C.b dd_Chart_predict_71 (lv_at hl 3 rfl) ?_
      refine np_iaload C hat.1 4 (nc_a4 _) 0 rfl (by decide) dd_Chart_predict_73 hf (fun hf => ?_)
      refine lv_iload_n C.x C.b dd_Chart_predict_74 rfl (lv_at hl 2 rfl) ?_
      refine np_icmp_lt (tgt := 96) C dd_Chart_predict_75 (by decide) hf (fun _ hf => ?_) (fun _ hf => ?_)
      · exact w_f_Chart_predict_96 C hQ h52 _ _ _ _ _ _ _ hf hat (lv_sub hl [0, 1, 2, 3] rfl)
      · refine lv_aload_n C.x C.b dd_Chart_predict_78 rfl (lv_at hl 0 rfl) ?_
        refine np_get (v := .ref (q 12)) C i_Chart hat.1 11 (nc_o11 _) rfl 1 (by decide) tw_122 rfl rfl dd_Chart_predict_79 ?_
        refine lv_iload_n C.x C.b dd_Chart_predict_82 rfl (lv_at hl 1 rfl) ?_
        refine lv_bipush (v := np_i 98) C.x C.b dd_Chart_predict_83 (by decide +kernel) ?_
        refine np_imul C dd_Chart_predict_85 ?_
        refine lv_iload C.x C.b dd_Chart_predict_86 (lv_at hl 3 rfl) ?_
        refine lv_bipush (v := np_i 7) C.x C.b dd_Chart_predict_88 (by decide +kernel) ?_
        refine np_imul C dd_Chart_predict_90 ?_
        refine np_iadd C dd_Chart_predict_91 ?_
        refine lv_iconst (v := np_i 1) C.x C.b dd_Chart_predict_92 rfl ?_
        refine lv_iload_n C.x C.b dd_Chart_predict_93 rfl (lv_at hl 1 rfl) ?_
        refine np_ishl C dd_Chart_predict_94 ?_
        refine np_iastore C hat 12 (nc_a12 _) 0 rfl (by decide) (nc_s12 _ _ _) dd_Chart_predict_95 hf (fun H locs hat hf => ?_)
        exact w_f_Chart_predict_96 C hQ h52 _ _ _ _ _ _ _ hf hat (lv_sub hl [0, 1, 2, 3] rfl)
set_option maxHeartbeats 4000000 in
set_option maxRecDepth 100000 in
theorem w_f_Chart_predict_49 (C : np_Cx gA p R s m args c D np_cl (np_ty cI cL cB) A np_al "NotationParse$Chart" prog_2_method_11_code 7 { frames := 1, cells := 0, slots := 0, locals := 24 }) (hQ : ∀ (pc : Nat) (ls : Array Slot) (H : Heap) (locs : List Loc) {σ : np_S}, decode prog_2_method_11_code pc = .ok (.return_, 1) → some ((0 : Int), σ) = some out → np_At D np_cl A (nc_wd q cI cL cB) s σ H locs → W p l e R s m args below meth c H locs 0 0 Q (F0 m pc ls []))   : ∀ (x1 x3 : Int) (σ : np_S) (H : Heap) (locs : List Loc) (ls : Array Slot), f_Chart_predict_49  x1 x3 σ = some out → np_At D np_cl A (nc_wd q cI cL cB) s σ H locs → lv_has ls 7 [(0, .ref (q 11)), (1, .int (np_i x1)), (3, .int (np_i x3))] → W p l e R s m args below meth c H locs 0 0 Q (F0 m 49 ls []) := by
  intro x1 x3 σ H locs ls hf hat hl
  unfold f_Chart_predict_49 at hf
  refine lv_iconst (v := np_i 0) C.x C.b dd_Chart_predict_49 rfl ?_
  refine lv_istore (lv' := [(5, .int (np_i 0)), (0, .ref (q 11)), (1, .int (np_i x1)), (3, .int (np_i x3))]) C.x C.b dd_Chart_predict_50 hl (by decide) rfl (fun ls hl => ?_)
  exact w_f_Chart_predict_52 C hQ  6000 _ _ _ _ _ _ _ hf hat (lv_sub hl [1, 2, 3, 0] rfl)
set_option maxHeartbeats 4000000 in
set_option maxRecDepth 100000 in
theorem w_f_Chart_predict_41 (C : np_Cx gA p R s m args c D np_cl (np_ty cI cL cB) A np_al "NotationParse$Chart" prog_2_method_11_code 7 { frames := 1, cells := 0, slots := 0, locals := 24 }) (hQ : ∀ (pc : Nat) (ls : Array Slot) (H : Heap) (locs : List Loc) {σ : np_S}, decode prog_2_method_11_code pc = .ok (.return_, 1) → some ((0 : Int), σ) = some out → np_At D np_cl A (nc_wd q cI cL cB) s σ H locs → W p l e R s m args below meth c H locs 0 0 Q (F0 m pc ls [])) {k8 : (Int → Int → Int → Int → np_S → Option np_O)} (h8 : ∀ (x1 x3 x4 x5 : Int) (σ : np_S) (H : Heap) (locs : List Loc) (ls : Array Slot), k8 x1 x3 x4 x5 σ = some out → np_At D np_cl A (nc_wd q cI cL cB) s σ H locs → lv_has ls 7 [(0, .ref (q 11)), (1, .int (np_i x1)), (3, .int (np_i x3)), (4, .int (np_i x4)), (5, .int (np_i x5))] → W p l e R s m args below meth c H locs 0 0 Q (F0 m 8 ls [])) : ∀ (x1 x3 x5 t0 : Int) (σ : np_S) (H : Heap) (locs : List Loc) (ls : Array Slot), f_Chart_predict_41 k8 x1 x3 x5 t0 σ = some out → np_At D np_cl A (nc_wd q cI cL cB) s σ H locs → lv_has ls 7 [(0, .ref (q 11)), (1, .int (np_i x1)), (3, .int (np_i x3)), (5, .int (np_i x5))] → W p l e R s m args below meth c H locs 0 0 Q (F0 m 41 ls [.int (np_i t0)]) := by
  intro x1 x3 x5 t0 σ H locs ls hf hat hl
  unfold f_Chart_predict_41 at hf
  refine lv_istore (lv' := [(4, .int (np_i t0)), (0, .ref (q 11)), (1, .int (np_i x1)), (3, .int (np_i x3)), (5, .int (np_i x5))]) C.x C.b dd_Chart_predict_41 hl (by decide) rfl (fun ls hl => ?_)
  refine lv_iinc (v := np_i (x5 + 1)) (lv' := [(5, .int (np_i (x5 + 1))), (4, .int (np_i t0)), (0, .ref (q 11)), (1, .int (np_i x1)), (3, .int (np_i x3))]) C.x C.b dd_Chart_predict_43 hl (k := 4) rfl (np_inc _ _) (by decide) rfl (fun ls hl => ?_)
  refine lv_goto (tgt := 8) C.x C.b dd_Chart_predict_46 (by decide) ?_
  exact h8 _ _ _ _ _ _ _ _ hf hat (lv_sub hl [2, 3, 4, 1, 0] rfl)
set_option maxHeartbeats 4000000 in
set_option maxRecDepth 100000 in
theorem w_f_Chart_predict_8 (C : np_Cx gA p R s m args c D np_cl (np_ty cI cL cB) A np_al "NotationParse$Chart" prog_2_method_11_code 7 { frames := 1, cells := 0, slots := 0, locals := 24 }) (hQ : ∀ (pc : Nat) (ls : Array Slot) (H : Heap) (locs : List Loc) {σ : np_S}, decode prog_2_method_11_code pc = .ok (.return_, 1) → some ((0 : Int), σ) = some out → np_At D np_cl A (nc_wd q cI cL cB) s σ H locs → W p l e R s m args below meth c H locs 0 0 Q (F0 m pc ls []))   : ∀ (n : Nat), ∀ (x1 x3 x4 x5 : Int) (σ : np_S) (H : Heap) (locs : List Loc) (ls : Array Slot), f_Chart_predict_8  n x1 x3 x4 x5 σ = some out → np_At D np_cl A (nc_wd q cI cL cB) s σ H locs → lv_has ls 7 [(0, .ref (q 11)), (1, .int (np_i x1)), (3, .int (np_i x3)), (4, .int (np_i x4)), (5, .int (np_i x5))] → W p l e R s m args below meth c H locs 0 0 Q (F0 m 8 ls []) := by
  intro n
  induction n with
  | zero => intro x1 x3 x4 x5 σ H locs ls hf; cases hf
  | succ n ih =>
    intro x1 x3 x4 x5 σ H locs ls hf hat hl
    have h8 := ih
    have hf : f_Chart_predict_8_b  (fun x1 x3 x4 x5 σ => f_Chart_predict_8  n x1 x3 x4 x5 σ) x1 x3 x4 x5 σ = some out := hf
    unfold f_Chart_predict_8_b at hf
    refine lv_iload C.x C.b dd_Chart_predict_8 (lv_at hl 4 rfl) ?_
    refine lv_bipush (v := np_i 10) C.x C.b dd_Chart_predict_10 (by decide +kernel) ?_
    refine np_icmp_gt (tgt := 49) C dd_Chart_predict_12 (by decide) hf (fun _ hf => ?_) (fun _ hf => ?_)
    · exact w_f_Chart_predict_49 C hQ  _ _ _ _ _ _ hf hat (lv_sub hl [0, 1, 2] rfl)
    · refine lv_iload C.x C.b dd_Chart_predict_15 (lv_at hl 3 rfl) ?_
      refine np_if_eq (tgt := 49) C dd_Chart_predict_17 (by decide) hf (fun _ hf => ?_) (fun _ hf => ?_)
      · exact w_f_Chart_predict_49 C hQ  _ _ _ _ _ _ hf hat (lv_sub hl [0, 1, 2] rfl)
      · refine lv_iload_n C.x C.b dd_Chart_predict_20 rfl (lv_at hl 2 rfl) ?_
        refine lv_istore (lv' := [(6, .int (np_i x3)), (0, .ref (q 11)), (1, .int (np_i x1)), (3, .int (np_i x3)), (4, .int (np_i x4)), (5, .int (np_i x5))]) C.x C.b dd_Chart_predict_21 hl (by decide) rfl (fun ls hl => ?_)
        refine lv_aload_n C.x C.b dd_Chart_predict_23 rfl (lv_at hl 1 rfl) ?_
        refine lv_iload C.x C.b dd_Chart_predict_24 (lv_at hl 0 rfl) ?_
        refine np_callVi (As := [.int (np_i x3)]) (rest := []) C (c_Chart_leastFirstHole l x3 _) np_allgood tw_758 tw_760 tp_7 tw_5 tw_761 (nA := 1) (by decide +kernel) rfl ⟨rfl, rfl, Nat.le_of_ble_eq_true rfl, Nat.le_of_ble_eq_true rfl⟩ (nc_o11 _) rfl hat rfl hl.1 (Nat.le_of_ble_eq_true rfl) dd_Chart_predict_26 hf (fun o1 H locs hf hat => ?_)
        refine lv_istore_n (lv' := [(3, .int (np_i o1.1)), (6, .int (np_i x3)), (0, .ref (q 11)), (1, .int (np_i x1)), (4, .int (np_i x4)), (5, .int (np_i x5))]) C.x C.b dd_Chart_predict_29 rfl hl (by decide) rfl (fun ls hl => ?_)
        refine lv_iload_n C.x C.b dd_Chart_predict_30 rfl (lv_at hl 0 rfl) ?_
        refine lv_iload C.x C.b dd_Chart_predict_31 (lv_at hl 1 rfl) ?_
        refine np_icmp_ge (tgt := 40) C dd_Chart_predict_33 (by decide) hf (fun _ hf => ?_) (fun _ hf => ?_)
        · refine lv_iconst (v := np_i 0) C.x C.b dd_Chart_predict_40 rfl ?_
          exact w_f_Chart_predict_41 C hQ h8 _ _ _ _ _ _ _ _ hf hat (lv_sub hl [2, 3, 0, 5] rfl)
        · refine lv_iconst (v := np_i 1) C.x C.b dd_Chart_predict_36 rfl ?_
          refine lv_goto (tgt := 41) C.x C.b dd_Chart_predict_37 (by decide) ?_
          exact w_f_Chart_predict_41 C hQ h8 _ _ _ _ _ _ _ _ hf hat (lv_sub hl [2, 3, 0, 5] rfl)
set_option maxHeartbeats 4000000 in
set_option maxRecDepth 100000 in
theorem w_f_Chart_predict (C : np_Cx gA p R s m args c D np_cl (np_ty cI cL cB) A np_al "NotationParse$Chart" prog_2_method_11_code 7 { frames := 1, cells := 0, slots := 0, locals := 24 }) (hQ : ∀ (pc : Nat) (ls : Array Slot) (H : Heap) (locs : List Loc) {σ : np_S}, decode prog_2_method_11_code pc = .ok (.return_, 1) → some ((0 : Int), σ) = some out → np_At D np_cl A (nc_wd q cI cL cB) s σ H locs → W p l e R s m args below meth c H locs 0 0 Q (F0 m pc ls []))   : ∀ (x1 x2 : Int) (σ : np_S) (H : Heap) (locs : List Loc) (ls : Array Slot), f_Chart_predict  x1 x2 σ = some out → np_At D np_cl A (nc_wd q cI cL cB) s σ H locs → lv_has ls 7 [(0, .ref (q 11)), (1, .int (np_i x1)), (2, .int (np_i x2))] → W p l e R s m args below meth c H locs 0 0 Q (F0 m 0 ls []) := by
  intro x1 x2 σ H locs ls hf hat hl
  unfold f_Chart_predict at hf
  refine lv_iload_n C.x C.b dd_Chart_predict_0 rfl (lv_at hl 2 rfl) ?_
  refine lv_istore_n (lv' := [(3, .int (np_i x2)), (0, .ref (q 11)), (1, .int (np_i x1)), (2, .int (np_i x2))]) C.x C.b dd_Chart_predict_1 rfl hl (by decide) rfl (fun ls hl => ?_)
  refine lv_iconst (v := np_i 1) C.x C.b dd_Chart_predict_2 rfl ?_
  refine lv_istore (lv' := [(4, .int (np_i 1)), (3, .int (np_i x2)), (0, .ref (q 11)), (1, .int (np_i x1)), (2, .int (np_i x2))]) C.x C.b dd_Chart_predict_3 hl (by decide) rfl (fun ls hl => ?_)
  refine lv_iconst (v := np_i 0) C.x C.b dd_Chart_predict_5 rfl ?_
  refine lv_istore (lv' := [(5, .int (np_i 0)), (4, .int (np_i 1)), (3, .int (np_i x2)), (0, .ref (q 11)), (1, .int (np_i x1)), (2, .int (np_i x2))]) C.x C.b dd_Chart_predict_6 hl (by decide) rfl (fun ls hl => ?_)
  exact w_f_Chart_predict_8 C hQ  6000 _ _ _ _ _ _ _ _ hf hat (lv_sub hl [3, 4, 2, 1, 0] rfl)
set_option maxHeartbeats 4000000 in
set_option maxRecDepth 100000 in
theorem c_Chart_predict (l : Launch) {gA : Nat → Nat} {D : va_G} {q : Nat → Nat} {cI cL cB : ClassId} (x1 x2 : Int) (σ : np_S) : np_Mv gA l D np_cl (np_ty cI cL cB) (nc_wd q cI cL cB) yy_Chart_predict (.code yy_Chart_predict prog_2_method_11_code 7 none :: np_al) { frames := 1, cells := 0, slots := 0, locals := 24 } [.ref (q 11), .int (np_i x1), .int (np_i x2)] σ (f_Chart_predict x1 x2 σ) :=
  np_mkv (by decide +kernel) (Nat.le_of_ble_eq_true rfl) (fun o p e R s m args below meth c Q A ls hf C hQ hat hl => w_f_Chart_predict C hQ x1 x2 σ _ _ _ hf hat (lv_sub hl [0, 1, 2] rfl))
set_option maxHeartbeats 4000000 in
set_option maxRecDepth 100000 in
theorem w_f_Chart_follow_13 (C : np_Cx gA p R s m args c D np_cl (np_ty cI cL cB) A np_al "NotationParse$Chart" prog_2_method_2_code 4 { frames := 3, cells := 0, slots := 0, locals := 70 }) (hQ : ∀ (pc : Nat) (ls : Array Slot) (H : Heap) (locs : List Loc) (v : Int) {σ : np_S}, decode prog_2_method_2_code pc = .ok (.ireturn, 1) → some (v, σ) = some out → np_At D np_cl A (nc_wd q cI cL cB) s σ H locs → W p l e R s m args below meth c H locs 0 0 Q (F0 m pc ls [.int (np_i v)]))   : ∀ (n : Nat), ∀ (x2 x3 : Int) (σ : np_S) (H : Heap) (locs : List Loc) (ls : Array Slot), f_Chart_follow_13  n x2 x3 σ = some out → np_At D np_cl A (nc_wd q cI cL cB) s σ H locs → lv_has ls 4 [(0, .ref (q 11)), (1, .ref (q 9)), (2, .int (np_i x2)), (3, .int (np_i x3))] → W p l e R s m args below meth c H locs 0 0 Q (F0 m 13 ls []) := by
  intro n
  induction n with
  | zero => intro x2 x3 σ H locs ls hf; cases hf
  | succ n ih =>
    intro x2 x3 σ H locs ls hf hat hl
    have h13 := ih
    have hf : f_Chart_follow_13_b  (fun x2 x3 σ => f_Chart_follow_13  n x2 x3 σ) x2 x3 σ = some out := hf
    unfold f_Chart_follow_13_b at hf
    refine lv_iload_n C.x C.b dd_Chart_follow_13 rfl (lv_at hl 3 rfl) ?_
    refine lv_iload_n C.x C.b dd_Chart_follow_14 rfl (lv_at hl 2 rfl) ?_
    refine np_icmp_ge (tgt := 65) C dd_Chart_follow_15 (by decide) hf (fun _ hf => ?_) (fun _ hf => ?_)
    · refine lv_iload_n C.x C.b dd_Chart_follow_65 rfl (lv_at hl 2 rfl) ?_
      exact hQ _ _ _ _ _ dd_Chart_follow_66 hf hat
    · refine lv_aload_n C.x C.b dd_Chart_follow_18 rfl (lv_at hl 0 rfl) ?_
      refine lv_iload_n C.x C.b dd_Chart_follow_19 rfl (lv_at hl 3 rfl) ?_
      refine lv_iconst (v := np_i 1) C.x C.b dd_Chart_follow_20 rfl ?_
      refine np_iadd C dd_Chart_follow_21 ?_
      refine np_callVv (As := [.int (np_i (x3 + 1))]) (rest := []) C (c_Chart_emptyRow l (x3 + 1) _) np_allgood tw_749 tw_751 tp_5 tw_5 tw_752 (nA := 1) (by decide +kernel) rfl ⟨rfl, rfl, Nat.le_of_ble_eq_true rfl, Nat.le_of_ble_eq_true rfl⟩ (nc_o11 _) rfl hat rfl hl.1 (Nat.le_of_ble_eq_true rfl) dd_Chart_follow_22 hf (fun o1 H locs hf hat => ?_)
      refine lv_aload_n C.x C.b dd_Chart_follow_25 rfl (lv_at hl 0 rfl) ?_
      refine lv_iload_n C.x C.b dd_Chart_follow_26 rfl (lv_at hl 3 rfl) ?_
      refine lv_aload_n C.x C.b dd_Chart_follow_27 rfl (lv_at hl 1 rfl) ?_
      refine lv_iload_n C.x C.b dd_Chart_follow_28 rfl (lv_at hl 3 rfl) ?_
      refine np_laload C hat.1 9 (nc_a9 _) 1 rfl (by decide) dd_Chart_follow_29 hf (fun hf => ?_)
      refine np_callVi (As := [.int (np_i x3), .long (np_l (o1.2 9 x3))]) (rest := []) C (c_Chart_scan l x3 (o1.2 9 x3) _) np_allgood tw_762 tw_764 tp_8 tw_5 tw_765 (nA := 2) (by decide +kernel) rfl ⟨rfl, rfl, Nat.le_of_ble_eq_true rfl, Nat.le_of_ble_eq_true rfl⟩ (nc_o11 _) rfl hat rfl hl.1 (Nat.le_of_ble_eq_true rfl) dd_Chart_follow_30 hf (fun o2 H locs hf hat => ?_)
      refine np_if_ne (tgt := 38) C dd_Chart_follow_33 (by decide) hf (fun _ hf => ?_) (fun _ hf => ?_)
      · refine lv_aload_n C.x C.b dd_Chart_follow_38 rfl (lv_at hl 0 rfl) ?_
        refine lv_iload_n C.x C.b dd_Chart_follow_39 rfl (lv_at hl 3 rfl) ?_
        refine lv_iconst (v := np_i 1) C.x C.b dd_Chart_follow_40 rfl ?_
        refine np_iadd C dd_Chart_follow_41 ?_
        refine np_callVv (As := [.int (np_i (x3 + 1))]) (rest := []) C (c_Chart_complete l (x3 + 1) _) np_allgood tw_767 tw_769 tp_9 tw_5 tw_770 (nA := 1) (by decide +kernel) rfl ⟨rfl, rfl, Nat.le_of_ble_eq_true rfl, Nat.le_of_ble_eq_true rfl⟩ (nc_o11 _) rfl hat rfl hl.1 (Nat.le_of_ble_eq_true rfl) dd_Chart_follow_42 hf (fun o3 H locs hf hat => ?_)
        refine lv_aload_n C.x C.b dd_Chart_follow_45 rfl (lv_at hl 0 rfl) ?_
        refine lv_iload_n C.x C.b dd_Chart_follow_46 rfl (lv_at hl 3 rfl) ?_
        refine lv_iconst (v := np_i 1) C.x C.b dd_Chart_follow_47 rfl ?_
        refine np_iadd C dd_Chart_follow_48 ?_
        refine lv_aload_n C.x C.b dd_Chart_follow_49 rfl (lv_at hl 0 rfl) ?_
        refine lv_iload_n C.x C.b dd_Chart_follow_50 rfl (lv_at hl 3 rfl) ?_
        refine lv_iconst (v := np_i 1) C.x C.b dd_Chart_follow_51 rfl ?_
        refine np_iadd C dd_Chart_follow_52 ?_
        refine np_callVi (As := [.int (np_i (x3 + 1))]) (rest := [.int (np_i (x3 + 1)), .ref (q 11)]) C (c_Chart_leastWanted l (x3 + 1) _) np_allgood tw_787 tw_789 tp_13 tw_5 tw_790 (nA := 1) (by decide +kernel) rfl ⟨rfl, rfl, Nat.le_of_ble_eq_true rfl, Nat.le_of_ble_eq_true rfl⟩ (nc_o11 _) rfl hat rfl hl.1 (Nat.le_of_ble_eq_true rfl) dd_Chart_follow_53 hf (fun o4 H locs hf hat => ?_)
        refine np_callVv (As := [.int (np_i (x3 + 1)), .int (np_i o4.1)]) (rest := []) C (c_Chart_predict l (x3 + 1) o4.1 _) np_allgood tw_754 tw_756 tp_6 tw_5 tw_757 (nA := 2) (by decide +kernel) rfl ⟨rfl, rfl, Nat.le_of_ble_eq_true rfl, Nat.le_of_ble_eq_true rfl⟩ (nc_o11 _) rfl hat rfl hl.1 (Nat.le_of_ble_eq_true rfl) dd_Chart_follow_56 hf (fun o5 H locs hf hat => ?_)
        refine lv_iinc (v := np_i (x3 + 1)) (lv' := [(3, .int (np_i (x3 + 1))), (0, .ref (q 11)), (1, .ref (q 9)), (2, .int (np_i x2))]) C.x C.b dd_Chart_follow_59 hl (k := 3) rfl (np_inc _ _) (by decide) rfl (fun ls hl => ?_)
        refine lv_goto (tgt := 13) C.x C.b dd_Chart_follow_62 (by decide) ?_
        exact h13 _ _ _ _ _ _ hf hat (lv_sub hl [1, 2, 3, 0] rfl)
      · refine lv_iload_n C.x C.b dd_Chart_follow_36 rfl (lv_at hl 3 rfl) ?_
        exact hQ _ _ _ _ _ dd_Chart_follow_37 hf hat
set_option maxHeartbeats 4000000 in
set_option maxRecDepth 100000 in
theorem w_f_Chart_follow (C : np_Cx gA p R s m args c D np_cl (np_ty cI cL cB) A np_al "NotationParse$Chart" prog_2_method_2_code 4 { frames := 3, cells := 0, slots := 0, locals := 70 }) (hQ : ∀ (pc : Nat) (ls : Array Slot) (H : Heap) (locs : List Loc) (v : Int) {σ : np_S}, decode prog_2_method_2_code pc = .ok (.ireturn, 1) → some (v, σ) = some out → np_At D np_cl A (nc_wd q cI cL cB) s σ H locs → W p l e R s m args below meth c H locs 0 0 Q (F0 m pc ls [.int (np_i v)]))   : ∀ (x2 : Int) (σ : np_S) (H : Heap) (locs : List Loc) (ls : Array Slot), f_Chart_follow  x2 σ = some out → np_At D np_cl A (nc_wd q cI cL cB) s σ H locs → lv_has ls 4 [(0, .ref (q 11)), (1, .ref (q 9)), (2, .int (np_i x2))] → W p l e R s m args below meth c H locs 0 0 Q (F0 m 0 ls []) := by
  intro x2 σ H locs ls hf hat hl
  unfold f_Chart_follow at hf
  refine lv_aload_n C.x C.b dd_Chart_follow_0 rfl (lv_at hl 0 rfl) ?_
  refine lv_iconst (v := np_i 0) C.x C.b dd_Chart_follow_1 rfl ?_
  refine np_callVv (As := [.int (np_i 0)]) (rest := []) C (c_Chart_emptyRow l 0 _) np_allgood tw_749 tw_751 tp_5 tw_5 tw_752 (nA := 1) (by decide +kernel) rfl ⟨rfl, rfl, Nat.le_of_ble_eq_true rfl, Nat.le_of_ble_eq_true rfl⟩ (nc_o11 _) rfl hat rfl hl.1 (Nat.le_of_ble_eq_true rfl) dd_Chart_follow_2 hf (fun o6 H locs hf hat => ?_)
  refine lv_aload_n C.x C.b dd_Chart_follow_5 rfl (lv_at hl 0 rfl) ?_
  refine lv_iconst (v := np_i 0) C.x C.b dd_Chart_follow_6 rfl ?_
  refine lv_iconst (v := np_i 0) C.x C.b dd_Chart_follow_7 rfl ?_
  refine np_callVv (As := [.int (np_i 0), .int (np_i 0)]) (rest := []) C (c_Chart_predict l 0 0 _) np_allgood tw_754 tw_756 tp_6 tw_5 tw_757 (nA := 2) (by decide +kernel) rfl ⟨rfl, rfl, Nat.le_of_ble_eq_true rfl, Nat.le_of_ble_eq_true rfl⟩ (nc_o11 _) rfl hat rfl hl.1 (Nat.le_of_ble_eq_true rfl) dd_Chart_follow_8 hf (fun o7 H locs hf hat => ?_)
  refine lv_iconst (v := np_i 0) C.x C.b dd_Chart_follow_11 rfl ?_
  refine lv_istore_n (lv' := [(3, .int (np_i 0)), (0, .ref (q 11)), (1, .ref (q 9)), (2, .int (np_i x2))]) C.x C.b dd_Chart_follow_12 rfl hl (by decide) rfl (fun ls hl => ?_)
  exact w_f_Chart_follow_13 C hQ  6000 _ _ _ _ _ _ hf hat (lv_sub hl [1, 2, 3, 0] rfl)
set_option maxHeartbeats 4000000 in
set_option maxRecDepth 100000 in
theorem c_Chart_follow (l : Launch) {gA : Nat → Nat} {D : va_G} {q : Nat → Nat} {cI cL cB : ClassId} (x2 : Int) (σ : np_S) : np_Mi gA l D np_cl (np_ty cI cL cB) (nc_wd q cI cL cB) yy_Chart_follow (.code yy_Chart_follow prog_2_method_2_code 4 (some .int) :: np_al) { frames := 3, cells := 0, slots := 0, locals := 70 } [.ref (q 11), .ref (q 9), .int (np_i x2)] σ (f_Chart_follow x2 σ) :=
  np_mki (by decide +kernel) (Nat.le_of_ble_eq_true rfl) (fun o p e R s m args below meth c Q A ls hf C hQ hat hl => w_f_Chart_follow C hQ x2 σ _ _ _ hf hat (lv_sub hl [0, 1, 2] rfl))
set_option maxHeartbeats 4000000 in
set_option maxRecDepth 100000 in
theorem w_f_Chart_isWhole_15 (C : np_Cx gA p R s m args c D np_cl (np_ty cI cL cB) A np_al "NotationParse$Chart" prog_2_method_3_code 2 { frames := 2, cells := 0, slots := 0, locals := 47 }) (hQ : ∀ (pc : Nat) (ls : Array Slot) (H : Heap) (locs : List Loc) (v : Int) {σ : np_S}, decode prog_2_method_3_code pc = .ok (.ireturn, 1) → np_ck (v = 0 ∨ v = 1) (some (v, σ)) = some out → np_At D np_cl A (nc_wd q cI cL cB) s σ H locs → W p l e R s m args below meth c H locs 0 0 Q (F0 m pc ls [.int (np_i v)]))   : ∀ (t0 : Int) (σ : np_S) (H : Heap) (locs : List Loc) (ls : Array Slot), f_Chart_isWhole_15  t0 σ = some out → np_At D np_cl A (nc_wd q cI cL cB) s σ H locs → lv_has ls 2 [] → W p l e R s m args below meth c H locs 0 0 Q (F0 m 15 ls [.int (np_i t0)]) := by
  intro t0 σ H locs ls hf hat hl
  unfold f_Chart_isWhole_15 at hf
  exact hQ _ _ _ _ _ dd_Chart_isWhole_15 hf hat
set_option maxHeartbeats 4000000 in
set_option maxRecDepth 100000 in
theorem w_f_Chart_isWhole (C : np_Cx gA p R s m args c D np_cl (np_ty cI cL cB) A np_al "NotationParse$Chart" prog_2_method_3_code 2 { frames := 2, cells := 0, slots := 0, locals := 47 }) (hQ : ∀ (pc : Nat) (ls : Array Slot) (H : Heap) (locs : List Loc) (v : Int) {σ : np_S}, decode prog_2_method_3_code pc = .ok (.ireturn, 1) → np_ck (v = 0 ∨ v = 1) (some (v, σ)) = some out → np_At D np_cl A (nc_wd q cI cL cB) s σ H locs → W p l e R s m args below meth c H locs 0 0 Q (F0 m pc ls [.int (np_i v)]))   : ∀ (x1 : Int) (σ : np_S) (H : Heap) (locs : List Loc) (ls : Array Slot), f_Chart_isWhole  x1 σ = some out → np_At D np_cl A (nc_wd q cI cL cB) s σ H locs → lv_has ls 2 [(0, .ref (q 11)), (1, .int (np_i x1))] → W p l e R s m args below meth c H locs 0 0 Q (F0 m 0 ls []) := by
  intro x1 σ H locs ls hf hat hl
  unfold f_Chart_isWhole at hf
  refine lv_aload_n C.x C.b dd_Chart_isWhole_0 rfl (lv_at hl 0 rfl) ?_
  refine lv_iconst (v := np_i 0) C.x C.b dd_Chart_isWhole_1 rfl ?_
  refine lv_iload_n C.x C.b dd_Chart_isWhole_2 rfl (lv_at hl 1 rfl) ?_
  refine np_callVi (As := [.int (np_i 0), .int (np_i x1)]) (rest := []) C (c_Chart_highestTerm l 0 x1 _) np_allgood tw_771 tw_773 tp_10 tw_5 tw_774 (nA := 2) (by decide +kernel) rfl ⟨rfl, rfl, Nat.le_of_ble_eq_true rfl, Nat.le_of_ble_eq_true rfl⟩ (nc_o11 _) rfl hat rfl hl.1 (Nat.le_of_ble_eq_true rfl) dd_Chart_isWhole_3 hf (fun o1 H locs hf hat => ?_)
  refine lv_iconst (v := np_i (-1)) C.x C.b dd_Chart_isWhole_6 rfl ?_
  refine np_icmp_eq (tgt := 14) C dd_Chart_isWhole_7 (by decide) hf (fun _ hf => ?_) (fun _ hf => ?_)
  · refine lv_iconst (v := np_i 0) C.x C.b dd_Chart_isWhole_14 rfl ?_
    exact w_f_Chart_isWhole_15 C hQ  _ _ _ _ _ hf hat (lv_sub hl [] rfl)
  · refine lv_iconst (v := np_i 1) C.x C.b dd_Chart_isWhole_10 rfl ?_
    refine lv_goto (tgt := 15) C.x C.b dd_Chart_isWhole_11 (by decide) ?_
    exact w_f_Chart_isWhole_15 C hQ  _ _ _ _ _ hf hat (lv_sub hl [] rfl)
set_option maxHeartbeats 4000000 in
set_option maxRecDepth 100000 in
theorem c_Chart_isWhole (l : Launch) {gA : Nat → Nat} {D : va_G} {q : Nat → Nat} {cI cL cB : ClassId} (x1 : Int) (σ : np_S) : np_Mi gA l D np_cl (np_ty cI cL cB) (nc_wd q cI cL cB) yy_Chart_isWhole (.code yy_Chart_isWhole prog_2_method_3_code 2 (some .boolean) :: np_al) { frames := 2, cells := 0, slots := 0, locals := 47 } [.ref (q 11), .int (np_i x1)] σ (f_Chart_isWhole x1 σ) :=
  np_mkz (by decide +kernel) (Nat.le_of_ble_eq_true rfl) (fun o p e R s m args below meth c Q A ls hf C hQ hat hl => w_f_Chart_isWhole C hQ x1 σ _ _ _ hf hat (lv_sub hl [0, 1] rfl))
set_option maxHeartbeats 4000000 in
set_option maxRecDepth 100000 in
theorem w_f_N_noteFault (C : np_Cx gA p R s m args c D np_cl (np_ty cI cL cB) A np_al "NotationParse" prog_1_method_9_code 3 { frames := 0, cells := 0, slots := 0, locals := 0 }) (hQ : ∀ (pc : Nat) (ls : Array Slot) (H : Heap) (locs : List Loc) {σ : np_S}, decode prog_1_method_9_code pc = .ok (.return_, 1) → some ((0 : Int), σ) = some out → np_At D np_cl A (nc_wd q cI cL cB) s σ H locs → W p l e R s m args below meth c H locs 0 0 Q (F0 m pc ls []))   : ∀ (x1 x2 : Int) (σ : np_S) (H : Heap) (locs : List Loc) (ls : Array Slot), f_N_noteFault  x1 x2 σ = some out → np_At D np_cl A (nc_wd q cI cL cB) s σ H locs → lv_has ls 3 [(0, .ref (q 0)), (1, .int (np_i x1)), (2, .int (np_i x2))] → W p l e R s m args below meth c H locs 0 0 Q (F0 m 0 ls []) := by
  intro x1 x2 σ H locs ls hf hat hl
  unfold f_N_noteFault at hf
  refine lv_aload_n C.x C.b dd_N_noteFault_0 rfl (lv_at hl 0 rfl) ?_
  refine lv_iload_n C.x C.b dd_N_noteFault_1 rfl (lv_at hl 1 rfl) ?_
  refine np_put C i_N t_N tok_N n_N hat 0 (nc_o0 _) rfl 5 (by decide) tw_209 rfl rfl (by decide +kernel) (np_narI x1) (np_fitI x1) (Nat.le_of_ble_eq_true rfl) (nc_s0_5 _ _) dd_N_noteFault_2 (fun H locs hat => ?_)
  refine lv_aload_n C.x C.b dd_N_noteFault_5 rfl (lv_at hl 0 rfl) ?_
  refine lv_iload_n C.x C.b dd_N_noteFault_6 rfl (lv_at hl 2 rfl) ?_
  refine np_put C i_N t_N tok_N n_N hat 0 (nc_o0 _) rfl 6 (by decide) tw_210 rfl rfl (by decide +kernel) (np_narI x2) (np_fitI x2) (Nat.le_of_ble_eq_true rfl) (nc_s0_6 _ _) dd_N_noteFault_7 (fun H locs hat => ?_)
  exact hQ _ _ _ _ dd_N_noteFault_10 hf hat
set_option maxHeartbeats 4000000 in
set_option maxRecDepth 100000 in
theorem c_N_noteFault (l : Launch) {gA : Nat → Nat} {D : va_G} {q : Nat → Nat} {cI cL cB : ClassId} (x1 x2 : Int) (σ : np_S) : np_Mv gA l D np_cl (np_ty cI cL cB) (nc_wd q cI cL cB) yy_N_noteFault (.code yy_N_noteFault prog_1_method_9_code 3 none :: np_al) { frames := 0, cells := 0, slots := 0, locals := 0 } [.ref (q 0), .int (np_i x1), .int (np_i x2)] σ (f_N_noteFault x1 x2 σ) :=
  np_mkv (by decide +kernel) (Nat.le_of_ble_eq_true rfl) (fun o p e R s m args below meth c Q A ls hf C hQ hat hl => w_f_N_noteFault C hQ x1 x2 σ _ _ _ hf hat (lv_sub hl [0, 1, 2] rfl))
set_option maxHeartbeats 4000000 in
set_option maxRecDepth 100000 in
theorem w_f_N_findFault_114 (C : np_Cx gA p R s m args c D np_cl (np_ty cI cL cB) A np_al "NotationParse" prog_1_method_8_code 2 { frames := 4, cells := 0, slots := 0, locals := 93 }) (hQ : ∀ (pc : Nat) (ls : Array Slot) (H : Heap) (locs : List Loc) {σ : np_S}, decode prog_1_method_8_code pc = .ok (.return_, 1) → some ((0 : Int), σ) = some out → np_At D np_cl A (nc_wd q cI cL cB) s σ H locs → W p l e R s m args below meth c H locs 0 0 Q (F0 m pc ls []))   : ∀ (σ : np_S) (H : Heap) (locs : List Loc) (ls : Array Slot), f_N_findFault_114  σ = some out → np_At D np_cl A (nc_wd q cI cL cB) s σ H locs → lv_has ls 2 [] → W p l e R s m args below meth c H locs 0 0 Q (F0 m 114 ls []) := by
  intro σ H locs ls hf hat hl
  unfold f_N_findFault_114 at hf
  exact hQ _ _ _ _ dd_N_findFault_114 hf hat
set_option maxHeartbeats 4000000 in
set_option maxRecDepth 100000 in
theorem w_f_N_findFault (C : np_Cx gA p R s m args c D np_cl (np_ty cI cL cB) A np_al "NotationParse" prog_1_method_8_code 2 { frames := 4, cells := 0, slots := 0, locals := 93 }) (hQ : ∀ (pc : Nat) (ls : Array Slot) (H : Heap) (locs : List Loc) {σ : np_S}, decode prog_1_method_8_code pc = .ok (.return_, 1) → some ((0 : Int), σ) = some out → np_At D np_cl A (nc_wd q cI cL cB) s σ H locs → W p l e R s m args below meth c H locs 0 0 Q (F0 m pc ls []))   : ∀ (σ : np_S) (H : Heap) (locs : List Loc) (ls : Array Slot), f_N_findFault  σ = some out → np_At D np_cl A (nc_wd q cI cL cB) s σ H locs → lv_has ls 2 [(0, .ref (q 0))] → W p l e R s m args below meth c H locs 0 0 Q (F0 m 0 ls []) := by
  intro σ H locs ls hf hat hl
  unfold f_N_findFault at hf
  refine lv_aload_n C.x C.b dd_N_findFault_0 rfl (lv_at hl 0 rfl) ?_
  refine np_get (v := .ref (q 11)) C i_N hat.1 0 (nc_o0 _) rfl 2 (by decide) tw_206 rfl rfl dd_N_findFault_1 ?_
  refine lv_aload_n C.x C.b dd_N_findFault_4 rfl (lv_at hl 0 rfl) ?_
  refine np_get (v := .ref (q 6)) C i_N hat.1 0 (nc_o0 _) rfl 1 (by decide) tw_205 rfl rfl dd_N_findFault_5 ?_
  refine np_get (v := .ref (q 9)) C i_Text hat.1 6 (nc_o6 _) rfl 3 (by decide) tw_91 rfl rfl dd_N_findFault_8 ?_
  refine lv_aload_n C.x C.b dd_N_findFault_11 rfl (lv_at hl 0 rfl) ?_
  refine np_get (v := .ref (q 6)) C i_N hat.1 0 (nc_o0 _) rfl 1 (by decide) tw_205 rfl rfl dd_N_findFault_12 ?_
  refine np_get (v := .int (np_i (σ 6 5))) C i_Text hat.1 6 (nc_o6 _) rfl 5 (by decide) tw_96 rfl rfl dd_N_findFault_15 ?_
  refine np_callVi (As := [.ref (q 9), .int (np_i (σ 6 5))]) (rest := []) C (c_Chart_follow l (σ 6 5) _) np_allgood tw_745 tw_746 tw_747 tw_5 tw_748 (nA := 2) (by decide +kernel) rfl ⟨rfl, rfl, Nat.le_of_ble_eq_true rfl, Nat.le_of_ble_eq_true rfl⟩ (nc_o11 _) rfl hat rfl hl.1 (Nat.le_of_ble_eq_true rfl) dd_N_findFault_18 hf (fun o1 H locs hf hat => ?_)
  refine lv_istore_n (lv' := [(1, .int (np_i o1.1)), (0, .ref (q 0))]) C.x C.b dd_N_findFault_21 rfl hl (by decide) rfl (fun ls hl => ?_)
  refine lv_iload_n C.x C.b dd_N_findFault_22 rfl (lv_at hl 0 rfl) ?_
  refine lv_aload_n C.x C.b dd_N_findFault_23 rfl (lv_at hl 1 rfl) ?_
  refine np_get (v := .ref (q 6)) C i_N hat.1 0 (nc_o0 _) rfl 1 (by decide) tw_205 rfl rfl dd_N_findFault_24 ?_
  refine np_get (v := .int (np_i (o1.2 6 5))) C i_Text hat.1 6 (nc_o6 _) rfl 5 (by decide) tw_96 rfl rfl dd_N_findFault_27 ?_
  refine np_icmp_ge (tgt := 50) C dd_N_findFault_30 (by decide) hf (fun _ hf => ?_) (fun _ hf => ?_)
  · refine lv_aload_n C.x C.b dd_N_findFault_50 rfl (lv_at hl 1 rfl) ?_
    refine np_get (v := .ref (q 6)) C i_N hat.1 0 (nc_o0 _) rfl 1 (by decide) tw_205 rfl rfl dd_N_findFault_51 ?_
    refine np_get (v := .int (np_i (o1.2 6 6))) C i_Text hat.1 6 (nc_o6 _) rfl 6 (by decide) tw_98 rfl rfl dd_N_findFault_54 ?_
    refine lv_iconst (v := np_i (-1)) C.x C.b dd_N_findFault_57 rfl ?_
    refine np_icmp_eq (tgt := 76) C dd_N_findFault_58 (by decide) hf (fun _ hf => ?_) (fun _ hf => ?_)
    · refine lv_aload_n C.x C.b dd_N_findFault_76 rfl (lv_at hl 1 rfl) ?_
      refine np_get (v := .ref (q 11)) C i_N hat.1 0 (nc_o0 _) rfl 2 (by decide) tw_206 rfl rfl dd_N_findFault_77 ?_
      refine lv_aload_n C.x C.b dd_N_findFault_80 rfl (lv_at hl 1 rfl) ?_
      refine np_get (v := .ref (q 6)) C i_N hat.1 0 (nc_o0 _) rfl 1 (by decide) tw_205 rfl rfl dd_N_findFault_81 ?_
      refine np_get (v := .int (np_i (o1.2 6 5))) C i_Text hat.1 6 (nc_o6 _) rfl 5 (by decide) tw_96 rfl rfl dd_N_findFault_84 ?_
      refine np_callVi (As := [.int (np_i (o1.2 6 5))]) (rest := []) C (c_Chart_isWhole l (o1.2 6 5) _) np_allgood tw_795 tw_796 tw_797 tw_5 tw_798 (nA := 1) (by decide +kernel) rfl ⟨rfl, rfl, Nat.le_of_ble_eq_true rfl, Nat.le_of_ble_eq_true rfl⟩ (nc_o11 _) rfl hat rfl hl.1 (Nat.le_of_ble_eq_true rfl) dd_N_findFault_87 hf (fun o2 H locs hf hat => ?_)
      refine np_if_ne (tgt := 108) C dd_N_findFault_90 (by decide) hf (fun _ hf => ?_) (fun _ hf => ?_)
      · refine lv_aload_n C.x C.b dd_N_findFault_108 rfl (lv_at hl 1 rfl) ?_
        refine lv_iconst (v := np_i 0) C.x C.b dd_N_findFault_109 rfl ?_
        refine lv_iconst (v := np_i (-1)) C.x C.b dd_N_findFault_110 rfl ?_
        refine np_callVv (As := [.int (np_i 0), .int (np_i ((-1)))]) (rest := []) C (c_N_noteFault l 0 ((-1)) _) np_allgood tw_791 tw_793 tp_14 tw_1 tw_794 (nA := 2) (by decide +kernel) rfl ⟨rfl, rfl, Nat.le_of_ble_eq_true rfl, Nat.le_of_ble_eq_true rfl⟩ (nc_o0 _) rfl hat rfl hl.1 (Nat.le_of_ble_eq_true rfl) dd_N_findFault_111 hf (fun o3 H locs hf hat => ?_)
        exact w_f_N_findFault_114 C hQ   _ _ _ _ hf hat (lv_sub hl [] rfl)
      · refine lv_aload_n C.x C.b dd_N_findFault_93 rfl (lv_at hl 1 rfl) ?_
        refine lv_iconst (v := np_i 1) C.x C.b dd_N_findFault_94 rfl ?_
        refine lv_aload_n C.x C.b dd_N_findFault_95 rfl (lv_at hl 1 rfl) ?_
        refine np_get (v := .ref (q 6)) C i_N hat.1 0 (nc_o0 _) rfl 1 (by decide) tw_205 rfl rfl dd_N_findFault_96 ?_
        refine np_get (v := .int (np_i (o2.2 6 1))) C i_Text hat.1 6 (nc_o6 _) rfl 1 (by decide) tw_87 rfl rfl dd_N_findFault_99 ?_
        refine np_callVv (As := [.int (np_i 1), .int (np_i (o2.2 6 1))]) (rest := []) C (c_N_noteFault l 1 (o2.2 6 1) _) np_allgood tw_791 tw_793 tp_14 tw_1 tw_794 (nA := 2) (by decide +kernel) rfl ⟨rfl, rfl, Nat.le_of_ble_eq_true rfl, Nat.le_of_ble_eq_true rfl⟩ (nc_o0 _) rfl hat rfl hl.1 (Nat.le_of_ble_eq_true rfl) dd_N_findFault_102 hf (fun o4 H locs hf hat => ?_)
        refine lv_goto (tgt := 114) C.x C.b dd_N_findFault_105 (by decide) ?_
        exact w_f_N_findFault_114 C hQ   _ _ _ _ hf hat (lv_sub hl [] rfl)
    · refine lv_aload_n C.x C.b dd_N_findFault_61 rfl (lv_at hl 1 rfl) ?_
      refine lv_iconst (v := np_i 2) C.x C.b dd_N_findFault_62 rfl ?_
      refine lv_aload_n C.x C.b dd_N_findFault_63 rfl (lv_at hl 1 rfl) ?_
      refine np_get (v := .ref (q 6)) C i_N hat.1 0 (nc_o0 _) rfl 1 (by decide) tw_205 rfl rfl dd_N_findFault_64 ?_
      refine np_get (v := .int (np_i (o1.2 6 6))) C i_Text hat.1 6 (nc_o6 _) rfl 6 (by decide) tw_98 rfl rfl dd_N_findFault_67 ?_
      refine np_callVv (As := [.int (np_i 2), .int (np_i (o1.2 6 6))]) (rest := []) C (c_N_noteFault l 2 (o1.2 6 6) _) np_allgood tw_791 tw_793 tp_14 tw_1 tw_794 (nA := 2) (by decide +kernel) rfl ⟨rfl, rfl, Nat.le_of_ble_eq_true rfl, Nat.le_of_ble_eq_true rfl⟩ (nc_o0 _) rfl hat rfl hl.1 (Nat.le_of_ble_eq_true rfl) dd_N_findFault_70 hf (fun o5 H locs hf hat => ?_)
      refine lv_goto (tgt := 114) C.x C.b dd_N_findFault_73 (by decide) ?_
      exact w_f_N_findFault_114 C hQ   _ _ _ _ hf hat (lv_sub hl [] rfl)
  · refine lv_aload_n C.x C.b dd_N_findFault_33 rfl (lv_at hl 1 rfl) ?_
    refine lv_iconst (v := np_i 1) C.x C.b dd_N_findFault_34 rfl ?_
    refine lv_aload_n C.x C.b dd_N_findFault_35 rfl (lv_at hl 1 rfl) ?_
    refine np_get (v := .ref (q 6)) C i_N hat.1 0 (nc_o0 _) rfl 1 (by decide) tw_205 rfl rfl dd_N_findFault_36 ?_
    refine np_get (v := .ref (q 10)) C i_Text hat.1 6 (nc_o6 _) rfl 4 (by decide) tw_93 rfl rfl dd_N_findFault_39 ?_
    refine lv_iload_n C.x C.b dd_N_findFault_42 rfl (lv_at hl 0 rfl) ?_
    refine np_iaload C hat.1 10 (nc_a10 _) 0 rfl (by decide) dd_N_findFault_43 hf (fun hf => ?_)
    refine np_callVv (As := [.int (np_i 1), .int (np_i (o1.2 10 o1.1))]) (rest := []) C (c_N_noteFault l 1 (o1.2 10 o1.1) _) np_allgood tw_791 tw_793 tp_14 tw_1 tw_794 (nA := 2) (by decide +kernel) rfl ⟨rfl, rfl, Nat.le_of_ble_eq_true rfl, Nat.le_of_ble_eq_true rfl⟩ (nc_o0 _) rfl hat rfl hl.1 (Nat.le_of_ble_eq_true rfl) dd_N_findFault_44 hf (fun o6 H locs hf hat => ?_)
    refine lv_goto (tgt := 114) C.x C.b dd_N_findFault_47 (by decide) ?_
    exact w_f_N_findFault_114 C hQ   _ _ _ _ hf hat (lv_sub hl [] rfl)
set_option maxHeartbeats 4000000 in
set_option maxRecDepth 100000 in
theorem c_N_findFault (l : Launch) {gA : Nat → Nat} {D : va_G} {q : Nat → Nat} {cI cL cB : ClassId} (σ : np_S) : np_Mv gA l D np_cl (np_ty cI cL cB) (nc_wd q cI cL cB) yy_N_findFault (.code yy_N_findFault prog_1_method_8_code 2 none :: np_al) { frames := 4, cells := 0, slots := 0, locals := 93 } [.ref (q 0)] σ (f_N_findFault  σ) :=
  np_mkv (by decide +kernel) (Nat.le_of_ble_eq_true rfl) (fun o p e R s m args below meth c Q A ls hf C hQ hat hl => w_f_N_findFault C hQ  σ _ _ _ hf hat (lv_sub hl [0] rfl))
set_option maxHeartbeats 4000000 in
set_option maxRecDepth 100000 in
theorem w_f_N_fault (C : np_Cx gA p R s m args c D np_cl (np_ty cI cL cB) A np_al "NotationParse" prog_1_method_10_code 2 { frames := 0, cells := 0, slots := 0, locals := 0 }) (hQ : ∀ (pc : Nat) (ls : Array Slot) (H : Heap) (locs : List Loc) (v : Int) {σ : np_S}, decode prog_1_method_10_code pc = .ok (.ireturn, 1) → some (v, σ) = some out → np_At D np_cl A (nc_wd q cI cL cB) s σ H locs → W p l e R s m args below meth c H locs 0 0 Q (F0 m pc ls [.int (np_i v)]))   : ∀ (x1 : Int) (σ : np_S) (H : Heap) (locs : List Loc) (ls : Array Slot), f_N_fault  x1 σ = some out → np_At D np_cl A (nc_wd q cI cL cB) s σ H locs → lv_has ls 2 [(0, .ref (q 0)), (1, .int (np_i x1))] → W p l e R s m args below meth c H locs 0 0 Q (F0 m 0 ls []) := by
  intro x1 σ H locs ls hf hat hl
  unfold f_N_fault at hf
  refine lv_iload_n C.x C.b dd_N_fault_0 rfl (lv_at hl 1 rfl) ?_
  obtain ⟨hR, hf⟩ := np_ck_e hf
  refine np_case hf (fun hx hf => ?_) (fun n0 hf => ?_)
  · refine np_lswI (tgt := 28) (off := 27) C dd_N_fault_1 hx (by decide +kernel) (by decide +kernel) (by decide) ?_
    refine lv_aload_n C.x C.b dd_N_fault_28 rfl (lv_at hl 0 rfl) ?_
    refine np_get (v := .int (np_i (σ 0 5))) C i_N hat.1 0 (nc_o0 _) rfl 5 (by decide) tw_209 rfl rfl dd_N_fault_29 ?_
    exact hQ _ _ _ _ _ dd_N_fault_32 hf hat
  refine np_case hf (fun hx hf => ?_) (fun n1 hf => ?_)
  · refine np_lswI (tgt := 33) (off := 32) C dd_N_fault_1 hx (by decide +kernel) (by decide +kernel) (by decide) ?_
    refine lv_aload_n C.x C.b dd_N_fault_33 rfl (lv_at hl 0 rfl) ?_
    refine np_get (v := .int (np_i (σ 0 6))) C i_N hat.1 0 (nc_o0 _) rfl 6 (by decide) tw_210 rfl rfl dd_N_fault_34 ?_
    exact hQ _ _ _ _ _ dd_N_fault_37 hf hat
  refine np_lswO (tgt := 38) C dd_N_fault_1 hR (by decide +kernel) (by simp only [List.mem_cons, List.not_mem_nil, or_false, forall_eq_or_imp, forall_eq]; omega) (by decide) ?_
  refine lv_iconst (v := np_i (-1)) C.x C.b dd_N_fault_38 rfl ?_
  exact hQ _ _ _ _ _ dd_N_fault_39 hf hat
set_option maxHeartbeats 4000000 in
set_option maxRecDepth 100000 in
theorem c_N_fault (l : Launch) {gA : Nat → Nat} {D : va_G} {q : Nat → Nat} {cI cL cB : ClassId} (x1 : Int) (σ : np_S) : np_Mi gA l D np_cl (np_ty cI cL cB) (nc_wd q cI cL cB) yy_N_fault (.code yy_N_fault prog_1_method_10_code 2 (some .int) :: np_al) { frames := 0, cells := 0, slots := 0, locals := 0 } [.ref (q 0), .int (np_i x1)] σ (f_N_fault x1 σ) :=
  np_mki (by decide +kernel) (Nat.le_of_ble_eq_true rfl) (fun o p e R s m args below meth c Q A ls hf C hQ hat hl => w_f_N_fault C hQ x1 σ _ _ _ hf hat (lv_sub hl [0, 1] rfl))
set_option maxHeartbeats 4000000 in
set_option maxRecDepth 100000 in
theorem w_f_Tree_levelWithin_27 (C : np_Cx gA p R s m args c D np_cl (np_ty cI cL cB) A np_al "NotationParse$Tree" prog_7_method_8_code 3 { frames := 0, cells := 0, slots := 0, locals := 0 }) (hQ : ∀ (pc : Nat) (ls : Array Slot) (H : Heap) (locs : List Loc) (v : Int) {σ : np_S}, decode prog_7_method_8_code pc = .ok (.ireturn, 1) → some (v, σ) = some out → np_At D np_cl A (nc_wd q cI cL cB) s σ H locs → W p l e R s m args below meth c H locs 0 0 Q (F0 m pc ls [.int (np_i v)]))   : ∀ (x2 : Int) (σ : np_S) (H : Heap) (locs : List Loc) (ls : Array Slot), f_Tree_levelWithin_27  x2 σ = some out → np_At D np_cl A (nc_wd q cI cL cB) s σ H locs → lv_has ls 3 [(0, .ref (q 15)), (2, .int (np_i x2))] → W p l e R s m args below meth c H locs 0 0 Q (F0 m 27 ls []) := by
  intro x2 σ H locs ls hf hat hl
  unfold f_Tree_levelWithin_27 at hf
  refine lv_aload_n C.x C.b dd_Tree_levelWithin_27 rfl (lv_at hl 0 rfl) ?_
  refine np_get (v := .ref (q 1)) C i_Tree hat.1 15 (nc_o15 _) rfl 0 (by decide) tw_140 rfl rfl dd_Tree_levelWithin_28 ?_
  refine np_get (v := .ref (q 4)) C i_Grammar hat.1 1 (nc_o1 _) rfl 2 (by decide) tw_57 rfl rfl dd_Tree_levelWithin_31 ?_
  refine lv_aload_n C.x C.b dd_Tree_levelWithin_34 rfl (lv_at hl 0 rfl) ?_
  refine np_get (v := .ref (q 16)) C i_Tree hat.1 15 (nc_o15 _) rfl 3 (by decide) tw_144 rfl rfl dd_Tree_levelWithin_35 ?_
  refine lv_iload_n C.x C.b dd_Tree_levelWithin_38 rfl (lv_at hl 1 rfl) ?_
  refine np_iaload C hat.1 16 (nc_a16 _) 0 rfl (by decide) dd_Tree_levelWithin_39 hf (fun hf => ?_)
  refine np_iaload C hat.1 4 (nc_a4 _) 0 rfl (by decide) dd_Tree_levelWithin_40 hf (fun hf => ?_)
  exact hQ _ _ _ _ _ dd_Tree_levelWithin_41 hf hat
set_option maxHeartbeats 4000000 in
set_option maxRecDepth 100000 in
theorem w_f_Tree_levelWithin_2 (C : np_Cx gA p R s m args c D np_cl (np_ty cI cL cB) A np_al "NotationParse$Tree" prog_7_method_8_code 3 { frames := 0, cells := 0, slots := 0, locals := 0 }) (hQ : ∀ (pc : Nat) (ls : Array Slot) (H : Heap) (locs : List Loc) (v : Int) {σ : np_S}, decode prog_7_method_8_code pc = .ok (.ireturn, 1) → some (v, σ) = some out → np_At D np_cl A (nc_wd q cI cL cB) s σ H locs → W p l e R s m args below meth c H locs 0 0 Q (F0 m pc ls [.int (np_i v)]))   : ∀ (n : Nat), ∀ (x2 : Int) (σ : np_S) (H : Heap) (locs : List Loc) (ls : Array Slot), f_Tree_levelWithin_2  n x2 σ = some out → np_At D np_cl A (nc_wd q cI cL cB) s σ H locs → lv_has ls 3 [(0, .ref (q 15)), (2, .int (np_i x2))] → W p l e R s m args below meth c H locs 0 0 Q (F0 m 2 ls []) := by
  intro n
  induction n with
  | zero => intro x2 σ H locs ls hf; cases hf
  | succ n ih =>
    intro x2 σ H locs ls hf hat hl
    have h2 := ih
    have hf : f_Tree_levelWithin_2_b  (fun x2 σ => f_Tree_levelWithin_2  n x2 σ) x2 σ = some out := hf
    unfold f_Tree_levelWithin_2_b at hf
    refine lv_iload_n C.x C.b dd_Tree_levelWithin_2 rfl (lv_at hl 1 rfl) ?_
    refine lv_aload_n C.x C.b dd_Tree_levelWithin_3 rfl (lv_at hl 0 rfl) ?_
    refine np_get (v := .int (np_i (σ 15 2))) C i_Tree hat.1 15 (nc_o15 _) rfl 2 (by decide) tw_142 rfl rfl dd_Tree_levelWithin_4 ?_
    refine lv_iconst (v := np_i 1) C.x C.b dd_Tree_levelWithin_7 rfl ?_
    refine np_isub C dd_Tree_levelWithin_8 ?_
    refine np_icmp_ge (tgt := 27) C dd_Tree_levelWithin_9 (by decide) hf (fun _ hf => ?_) (fun _ hf => ?_)
    · exact w_f_Tree_levelWithin_27 C hQ  _ _ _ _ _ hf hat (lv_sub hl [0, 1] rfl)
    · refine lv_aload_n C.x C.b dd_Tree_levelWithin_12 rfl (lv_at hl 0 rfl) ?_
      refine np_get (v := .ref (q 16)) C i_Tree hat.1 15 (nc_o15 _) rfl 3 (by decide) tw_144 rfl rfl dd_Tree_levelWithin_13 ?_
      refine lv_iload_n C.x C.b dd_Tree_levelWithin_16 rfl (lv_at hl 1 rfl) ?_
      refine np_iaload C hat.1 16 (nc_a16 _) 0 rfl (by decide) dd_Tree_levelWithin_17 hf (fun hf => ?_)
      refine np_if_ne (tgt := 27) C dd_Tree_levelWithin_18 (by decide) hf (fun _ hf => ?_) (fun _ hf => ?_)
      · exact w_f_Tree_levelWithin_27 C hQ  _ _ _ _ _ hf hat (lv_sub hl [0, 1] rfl)
      · refine lv_iinc (v := np_i (x2 + 1)) (lv' := [(2, .int (np_i (x2 + 1))), (0, .ref (q 15))]) C.x C.b dd_Tree_levelWithin_21 hl (k := 1) rfl (np_inc _ _) (by decide) rfl (fun ls hl => ?_)
        refine lv_goto (tgt := 2) C.x C.b dd_Tree_levelWithin_24 (by decide) ?_
        exact h2 _ _ _ _ _ hf hat (lv_sub hl [1, 0] rfl)
set_option maxHeartbeats 4000000 in
set_option maxRecDepth 100000 in
theorem w_f_Tree_levelWithin (C : np_Cx gA p R s m args c D np_cl (np_ty cI cL cB) A np_al "NotationParse$Tree" prog_7_method_8_code 3 { frames := 0, cells := 0, slots := 0, locals := 0 }) (hQ : ∀ (pc : Nat) (ls : Array Slot) (H : Heap) (locs : List Loc) (v : Int) {σ : np_S}, decode prog_7_method_8_code pc = .ok (.ireturn, 1) → some (v, σ) = some out → np_At D np_cl A (nc_wd q cI cL cB) s σ H locs → W p l e R s m args below meth c H locs 0 0 Q (F0 m pc ls [.int (np_i v)]))   : ∀ (x1 : Int) (σ : np_S) (H : Heap) (locs : List Loc) (ls : Array Slot), f_Tree_levelWithin  x1 σ = some out → np_At D np_cl A (nc_wd q cI cL cB) s σ H locs → lv_has ls 3 [(0, .ref (q 15)), (1, .int (np_i x1))] → W p l e R s m args below meth c H locs 0 0 Q (F0 m 0 ls []) := by
  intro x1 σ H locs ls hf hat hl
  unfold f_Tree_levelWithin at hf
  refine lv_iload_n C.x C.b dd_Tree_levelWithin_0 rfl (lv_at hl 1 rfl) ?_
  refine lv_istore_n (lv' := [(2, .int (np_i x1)), (0, .ref (q 15)), (1, .int (np_i x1))]) C.x C.b dd_Tree_levelWithin_1 rfl hl (by decide) rfl (fun ls hl => ?_)
  exact w_f_Tree_levelWithin_2 C hQ  6000 _ _ _ _ _ hf hat (lv_sub hl [1, 0] rfl)
set_option maxHeartbeats 4000000 in
set_option maxRecDepth 100000 in
theorem c_Tree_levelWithin (l : Launch) {gA : Nat → Nat} {D : va_G} {q : Nat → Nat} {cI cL cB : ClassId} (x1 : Int) (σ : np_S) : np_Mi gA l D np_cl (np_ty cI cL cB) (nc_wd q cI cL cB) yy_Tree_levelWithin (.code yy_Tree_levelWithin prog_7_method_8_code 3 (some .int) :: np_al) { frames := 0, cells := 0, slots := 0, locals := 0 } [.ref (q 15), .int (np_i x1)] σ (f_Tree_levelWithin x1 σ) :=
  np_mki (by decide +kernel) (Nat.le_of_ble_eq_true rfl) (fun o p e R s m args below meth c Q A ls hf C hQ hat hl => w_f_Tree_levelWithin C hQ x1 σ _ _ _ hf hat (lv_sub hl [0, 1] rfl))
set_option maxHeartbeats 4000000 in
set_option maxRecDepth 100000 in
theorem w_f_Tree_needlessBrackets_64 (C : np_Cx gA p R s m args c D np_cl (np_ty cI cL cB) A np_al "NotationParse$Tree" prog_7_method_7_code 3 { frames := 1, cells := 0, slots := 0, locals := 22 }) (hQ : ∀ (pc : Nat) (ls : Array Slot) (H : Heap) (locs : List Loc) (v : Int) {σ : np_S}, decode prog_7_method_7_code pc = .ok (.ireturn, 1) → some (v, σ) = some out → np_At D np_cl A (nc_wd q cI cL cB) s σ H locs → W p l e R s m args below meth c H locs 0 0 Q (F0 m pc ls [.int (np_i v)])) {k4 : (Int → Int → np_S → Option np_O)} (h4 : ∀ (x1 x2 : Int) (σ : np_S) (H : Heap) (locs : List Loc) (ls : Array Slot), k4 x1 x2 σ = some out → np_At D np_cl A (nc_wd q cI cL cB) s σ H locs → lv_has ls 3 [(0, .ref (q 15)), (1, .int (np_i x1)), (2, .int (np_i x2))] → W p l e R s m args below meth c H locs 0 0 Q (F0 m 4 ls [])) : ∀ (x1 x2 : Int) (σ : np_S) (H : Heap) (locs : List Loc) (ls : Array Slot), f_Tree_needlessBrackets_64 k4 x1 x2 σ = some out → np_At D np_cl A (nc_wd q cI cL cB) s σ H locs → lv_has ls 3 [(0, .ref (q 15)), (1, .int (np_i x1)), (2, .int (np_i x2))] → W p l e R s m args below meth c H locs 0 0 Q (F0 m 64 ls []) := by
  intro x1 x2 σ H locs ls hf hat hl
  unfold f_Tree_needlessBrackets_64 at hf
  refine lv_iinc (v := np_i (x2 + 1)) (lv' := [(2, .int (np_i (x2 + 1))), (0, .ref (q 15)), (1, .int (np_i x1))]) C.x C.b dd_Tree_needlessBrackets_64 hl (k := 2) rfl (np_inc _ _) (by decide) rfl (fun ls hl => ?_)
  refine lv_goto (tgt := 4) C.x C.b dd_Tree_needlessBrackets_67 (by decide) ?_
  exact h4 _ _ _ _ _ _ hf hat (lv_sub hl [1, 2, 0] rfl)
set_option maxHeartbeats 4000000 in
set_option maxRecDepth 100000 in
theorem w_f_Tree_needlessBrackets_4 (C : np_Cx gA p R s m args c D np_cl (np_ty cI cL cB) A np_al "NotationParse$Tree" prog_7_method_7_code 3 { frames := 1, cells := 0, slots := 0, locals := 22 }) (hQ : ∀ (pc : Nat) (ls : Array Slot) (H : Heap) (locs : List Loc) (v : Int) {σ : np_S}, decode prog_7_method_7_code pc = .ok (.ireturn, 1) → some (v, σ) = some out → np_At D np_cl A (nc_wd q cI cL cB) s σ H locs → W p l e R s m args below meth c H locs 0 0 Q (F0 m pc ls [.int (np_i v)]))   : ∀ (n : Nat), ∀ (x1 x2 : Int) (σ : np_S) (H : Heap) (locs : List Loc) (ls : Array Slot), f_Tree_needlessBrackets_4  n x1 x2 σ = some out → np_At D np_cl A (nc_wd q cI cL cB) s σ H locs → lv_has ls 3 [(0, .ref (q 15)), (1, .int (np_i x1)), (2, .int (np_i x2))] → W p l e R s m args below meth c H locs 0 0 Q (F0 m 4 ls []) := by
  intro n
  induction n with
  | zero => intro x1 x2 σ H locs ls hf; cases hf
  | succ n ih =>
    intro x1 x2 σ H locs ls hf hat hl
    have h4 := ih
    have hf : f_Tree_needlessBrackets_4_b  (fun x1 x2 σ => f_Tree_needlessBrackets_4  n x1 x2 σ) x1 x2 σ = some out := hf
    unfold f_Tree_needlessBrackets_4_b at hf
    refine lv_iload_n C.x C.b dd_Tree_needlessBrackets_4 rfl (lv_at hl 2 rfl) ?_
    refine lv_aload_n C.x C.b dd_Tree_needlessBrackets_5 rfl (lv_at hl 0 rfl) ?_
    refine np_get (v := .int (np_i (σ 15 2))) C i_Tree hat.1 15 (nc_o15 _) rfl 2 (by decide) tw_142 rfl rfl dd_Tree_needlessBrackets_6 ?_
    refine np_icmp_ge (tgt := 70) C dd_Tree_needlessBrackets_9 (by decide) hf (fun _ hf => ?_) (fun _ hf => ?_)
    · refine lv_iload_n C.x C.b dd_Tree_needlessBrackets_70 rfl (lv_at hl 1 rfl) ?_
      exact hQ _ _ _ _ _ dd_Tree_needlessBrackets_71 hf hat
    · refine lv_aload_n C.x C.b dd_Tree_needlessBrackets_12 rfl (lv_at hl 0 rfl) ?_
      refine np_get (v := .ref (q 16)) C i_Tree hat.1 15 (nc_o15 _) rfl 3 (by decide) tw_144 rfl rfl dd_Tree_needlessBrackets_13 ?_
      refine lv_iload_n C.x C.b dd_Tree_needlessBrackets_16 rfl (lv_at hl 2 rfl) ?_
      refine np_iaload C hat.1 16 (nc_a16 _) 0 rfl (by decide) dd_Tree_needlessBrackets_17 hf (fun hf => ?_)
      refine np_if_ne (tgt := 64) C dd_Tree_needlessBrackets_18 (by decide) hf (fun _ hf => ?_) (fun _ hf => ?_)
      · exact w_f_Tree_needlessBrackets_64 C hQ h4 _ _ _ _ _ _ hf hat (lv_sub hl [0, 1, 2] rfl)
      · refine lv_aload_n C.x C.b dd_Tree_needlessBrackets_21 rfl (lv_at hl 0 rfl) ?_
        refine lv_iload_n C.x C.b dd_Tree_needlessBrackets_22 rfl (lv_at hl 2 rfl) ?_
        refine np_callVi (As := [.int (np_i x2)]) (rest := []) C (c_Tree_levelWithin l x2 _) np_allgood tw_899 tw_901 tp_25 tw_6 tw_902 (nA := 1) (by decide +kernel) rfl ⟨rfl, rfl, Nat.le_of_ble_eq_true rfl, Nat.le_of_ble_eq_true rfl⟩ (nc_o15 _) rfl hat rfl hl.1 (Nat.le_of_ble_eq_true rfl) dd_Tree_needlessBrackets_23 hf (fun o1 H locs hf hat => ?_)
        refine lv_aload_n C.x C.b dd_Tree_needlessBrackets_26 rfl (lv_at hl 0 rfl) ?_
        refine np_get (v := .ref (q 21)) C i_Tree hat.1 15 (nc_o15 _) rfl 8 (by decide) tw_154 rfl rfl dd_Tree_needlessBrackets_27 ?_
        refine lv_iload_n C.x C.b dd_Tree_needlessBrackets_30 rfl (lv_at hl 2 rfl) ?_
        refine np_iaload C hat.1 21 (nc_a21 _) 0 rfl (by decide) dd_Tree_needlessBrackets_31 hf (fun hf => ?_)
        refine np_icmp_lt (tgt := 64) C dd_Tree_needlessBrackets_32 (by decide) hf (fun _ hf => ?_) (fun _ hf => ?_)
        · exact w_f_Tree_needlessBrackets_64 C hQ h4 _ _ _ _ _ _ hf hat (lv_sub hl [0, 1, 2] rfl)
        · refine lv_iload_n C.x C.b dd_Tree_needlessBrackets_35 rfl (lv_at hl 1 rfl) ?_
          refine lv_iconst (v := np_i 1) C.x C.b dd_Tree_needlessBrackets_36 rfl ?_
          refine lv_aload_n C.x C.b dd_Tree_needlessBrackets_37 rfl (lv_at hl 0 rfl) ?_
          refine np_get (v := .ref (q 18)) C i_Tree hat.1 15 (nc_o15 _) rfl 5 (by decide) tw_148 rfl rfl dd_Tree_needlessBrackets_38 ?_
          refine lv_iload_n C.x C.b dd_Tree_needlessBrackets_41 rfl (lv_at hl 2 rfl) ?_
          refine np_iaload C hat.1 18 (nc_a18 _) 0 rfl (by decide) dd_Tree_needlessBrackets_42 hf (fun hf => ?_)
          refine np_ishl C dd_Tree_needlessBrackets_43 ?_
          refine lv_iconst (v := np_i 1) C.x C.b dd_Tree_needlessBrackets_44 rfl ?_
          refine lv_aload_n C.x C.b dd_Tree_needlessBrackets_45 rfl (lv_at hl 0 rfl) ?_
          refine np_get (v := .ref (q 18)) C i_Tree hat.1 15 (nc_o15 _) rfl 5 (by decide) tw_148 rfl rfl dd_Tree_needlessBrackets_46 ?_
          refine lv_iload_n C.x C.b dd_Tree_needlessBrackets_49 rfl (lv_at hl 2 rfl) ?_
          refine np_iaload C hat.1 18 (nc_a18 _) 0 rfl (by decide) dd_Tree_needlessBrackets_50 hf (fun hf => ?_)
          refine lv_aload_n C.x C.b dd_Tree_needlessBrackets_51 rfl (lv_at hl 0 rfl) ?_
          refine np_get (v := .ref (q 19)) C i_Tree hat.1 15 (nc_o15 _) rfl 6 (by decide) tw_150 rfl rfl dd_Tree_needlessBrackets_52 ?_
          refine lv_iload_n C.x C.b dd_Tree_needlessBrackets_55 rfl (lv_at hl 2 rfl) ?_
          refine np_iaload C hat.1 19 (nc_a19 _) 0 rfl (by decide) dd_Tree_needlessBrackets_56 hf (fun hf => ?_)
          refine np_iadd C dd_Tree_needlessBrackets_57 ?_
          refine lv_iconst (v := np_i 1) C.x C.b dd_Tree_needlessBrackets_58 rfl ?_
          refine np_isub C dd_Tree_needlessBrackets_59 ?_
          refine np_ishl C dd_Tree_needlessBrackets_60 ?_
          refine np_ior C dd_Tree_needlessBrackets_61 ?_
          refine np_ior C dd_Tree_needlessBrackets_62 ?_
          refine lv_istore_n (lv' := [(1, .int (np_i (np_ori x1 (np_ori (np_shli 1 (o1.2 18 x2)) (np_shli 1 (((o1.2 18 x2) + (o1.2 19 x2)) - 1)))))), (0, .ref (q 15)), (2, .int (np_i x2))]) C.x C.b dd_Tree_needlessBrackets_63 rfl hl (by decide) rfl (fun ls hl => ?_)
          exact w_f_Tree_needlessBrackets_64 C hQ h4 _ _ _ _ _ _ hf hat (lv_sub hl [1, 0, 2] rfl)
set_option maxHeartbeats 4000000 in
set_option maxRecDepth 100000 in
theorem w_f_Tree_needlessBrackets (C : np_Cx gA p R s m args c D np_cl (np_ty cI cL cB) A np_al "NotationParse$Tree" prog_7_method_7_code 3 { frames := 1, cells := 0, slots := 0, locals := 22 }) (hQ : ∀ (pc : Nat) (ls : Array Slot) (H : Heap) (locs : List Loc) (v : Int) {σ : np_S}, decode prog_7_method_7_code pc = .ok (.ireturn, 1) → some (v, σ) = some out → np_At D np_cl A (nc_wd q cI cL cB) s σ H locs → W p l e R s m args below meth c H locs 0 0 Q (F0 m pc ls [.int (np_i v)]))   : ∀ (σ : np_S) (H : Heap) (locs : List Loc) (ls : Array Slot), f_Tree_needlessBrackets  σ = some out → np_At D np_cl A (nc_wd q cI cL cB) s σ H locs → lv_has ls 3 [(0, .ref (q 15))] → W p l e R s m args below meth c H locs 0 0 Q (F0 m 0 ls []) := by
  intro σ H locs ls hf hat hl
  unfold f_Tree_needlessBrackets at hf
  refine lv_iconst (v := np_i 0) C.x C.b dd_Tree_needlessBrackets_0 rfl ?_
  refine lv_istore_n (lv' := [(1, .int (np_i 0)), (0, .ref (q 15))]) C.x C.b dd_Tree_needlessBrackets_1 rfl hl (by decide) rfl (fun ls hl => ?_)
  refine lv_iconst (v := np_i 0) C.x C.b dd_Tree_needlessBrackets_2 rfl ?_
  refine lv_istore_n (lv' := [(2, .int (np_i 0)), (1, .int (np_i 0)), (0, .ref (q 15))]) C.x C.b dd_Tree_needlessBrackets_3 rfl hl (by decide) rfl (fun ls hl => ?_)
  exact w_f_Tree_needlessBrackets_4 C hQ  6000 _ _ _ _ _ _ hf hat (lv_sub hl [2, 1, 0] rfl)
set_option maxHeartbeats 4000000 in
set_option maxRecDepth 100000 in
theorem c_Tree_needlessBrackets (l : Launch) {gA : Nat → Nat} {D : va_G} {q : Nat → Nat} {cI cL cB : ClassId} (σ : np_S) : np_Mi gA l D np_cl (np_ty cI cL cB) (nc_wd q cI cL cB) yy_Tree_needlessBrackets (.code yy_Tree_needlessBrackets prog_7_method_7_code 3 (some .int) :: np_al) { frames := 1, cells := 0, slots := 0, locals := 22 } [.ref (q 15)] σ (f_Tree_needlessBrackets  σ) :=
  np_mki (by decide +kernel) (Nat.le_of_ble_eq_true rfl) (fun o p e R s m args below meth c Q A ls hf C hQ hat hl => w_f_Tree_needlessBrackets C hQ  σ _ _ _ hf hat (lv_sub hl [0] rfl))
set_option maxHeartbeats 4000000 in
set_option maxRecDepth 100000 in
theorem w_f_Output_addByte_33 (C : np_Cx gA p R s m args c D np_cl (np_ty cI cL cB) A np_al "NotationParse$Output" prog_4_method_4_code 2 { frames := 0, cells := 0, slots := 0, locals := 0 }) (hQ : ∀ (pc : Nat) (ls : Array Slot) (H : Heap) (locs : List Loc) {σ : np_S}, decode prog_4_method_4_code pc = .ok (.return_, 1) → some ((0 : Int), σ) = some out → np_At D np_cl A (nc_wd q cI cL cB) s σ H locs → W p l e R s m args below meth c H locs 0 0 Q (F0 m pc ls []))   : ∀ (σ : np_S) (H : Heap) (locs : List Loc) (ls : Array Slot), f_Output_addByte_33  σ = some out → np_At D np_cl A (nc_wd q cI cL cB) s σ H locs → lv_has ls 2 [] → W p l e R s m args below meth c H locs 0 0 Q (F0 m 33 ls []) := by
  intro σ H locs ls hf hat hl
  unfold f_Output_addByte_33 at hf
  exact hQ _ _ _ _ dd_Output_addByte_33 hf hat
set_option maxHeartbeats 4000000 in
set_option maxRecDepth 100000 in
theorem w_f_Output_addByte (C : np_Cx gA p R s m args c D np_cl (np_ty cI cL cB) A np_al "NotationParse$Output" prog_4_method_4_code 2 { frames := 0, cells := 0, slots := 0, locals := 0 }) (hQ : ∀ (pc : Nat) (ls : Array Slot) (H : Heap) (locs : List Loc) {σ : np_S}, decode prog_4_method_4_code pc = .ok (.return_, 1) → some ((0 : Int), σ) = some out → np_At D np_cl A (nc_wd q cI cL cB) s σ H locs → W p l e R s m args below meth c H locs 0 0 Q (F0 m pc ls []))   : ∀ (x1 : Int) (σ : np_S) (H : Heap) (locs : List Loc) (ls : Array Slot), f_Output_addByte  x1 σ = some out → np_At D np_cl A (nc_wd q cI cL cB) s σ H locs → lv_has ls 2 [(0, .ref (q 26)), (1, .int (np_i x1))] → W p l e R s m args below meth c H locs 0 0 Q (F0 m 0 ls []) := by
  intro x1 σ H locs ls hf hat hl
  unfold f_Output_addByte at hf
  refine lv_aload_n C.x C.b dd_Output_addByte_0 rfl (lv_at hl 0 rfl) ?_
  refine np_get (v := .int (np_i (σ 26 1))) C i_Output hat.1 26 (nc_o26 _) rfl 1 (by decide) tw_197 rfl rfl dd_Output_addByte_1 ?_
  refine lv_aload_n C.x C.b dd_Output_addByte_4 rfl (lv_at hl 0 rfl) ?_
  refine np_get (v := .ref (q 27)) C i_Output hat.1 26 (nc_o26 _) rfl 0 (by decide) tw_195 rfl rfl dd_Output_addByte_5 ?_
  refine np_alen (n := 230) C hat.1 27 (nc_a27 _) 2 rfl (show Int32.ofNat 230 = np_i 230 by decide +kernel) dd_Output_addByte_8 ?_
  refine np_icmp_ge (tgt := 33) C dd_Output_addByte_9 (by decide) hf (fun _ hf => ?_) (fun _ hf => ?_)
  · exact w_f_Output_addByte_33 C hQ   _ _ _ _ hf hat (lv_sub hl [] rfl)
  · refine lv_aload_n C.x C.b dd_Output_addByte_12 rfl (lv_at hl 0 rfl) ?_
    refine np_get (v := .ref (q 27)) C i_Output hat.1 26 (nc_o26 _) rfl 0 (by decide) tw_195 rfl rfl dd_Output_addByte_13 ?_
    refine lv_aload_n C.x C.b dd_Output_addByte_16 rfl (lv_at hl 0 rfl) ?_
    refine np_get (v := .int (np_i (σ 26 1))) C i_Output hat.1 26 (nc_o26 _) rfl 1 (by decide) tw_197 rfl rfl dd_Output_addByte_17 ?_
    refine lv_iload_n C.x C.b dd_Output_addByte_20 rfl (lv_at hl 1 rfl) ?_
    refine np_i2b C dd_Output_addByte_21 ?_
    refine np_bastore C hat 27 (nc_a27 _) 2 rfl (by decide) (nc_s27 _ _ _) dd_Output_addByte_22 hf (fun H locs hat hf => ?_)
    refine lv_aload_n C.x C.b dd_Output_addByte_23 rfl (lv_at hl 0 rfl) ?_
    refine lv_dup C.x C.b dd_Output_addByte_24 rfl ?_
    refine np_get (v := .int (np_i ((np_st σ 27 (σ 26 1) (Int.bmod (Int.bmod x1 256) 256)) 26 1))) C i_Output hat.1 26 (nc_o26 _) rfl 1 (by decide) tw_197 rfl rfl dd_Output_addByte_25 ?_
    refine lv_iconst (v := np_i 1) C.x C.b dd_Output_addByte_28 rfl ?_
    refine np_iadd C dd_Output_addByte_29 ?_
    refine np_put C i_Output t_Output tok_Output n_Output hat 26 (nc_o26 _) rfl 1 (by decide) tw_197 rfl rfl (by decide +kernel) (np_narI (((np_st σ 27 (σ 26 1) (Int.bmod (Int.bmod x1 256) 256)) 26 1) + 1)) (np_fitI (((np_st σ 27 (σ 26 1) (Int.bmod (Int.bmod x1 256) 256)) 26 1) + 1)) (Nat.le_of_ble_eq_true rfl) (nc_s26_1 _ _) dd_Output_addByte_30 (fun H locs hat => ?_)
    exact w_f_Output_addByte_33 C hQ   _ _ _ _ hf hat (lv_sub hl [] rfl)
set_option maxHeartbeats 4000000 in
set_option maxRecDepth 100000 in
theorem c_Output_addByte (l : Launch) {gA : Nat → Nat} {D : va_G} {q : Nat → Nat} {cI cL cB : ClassId} (x1 : Int) (σ : np_S) : np_Mv gA l D np_cl (np_ty cI cL cB) (nc_wd q cI cL cB) yy_Output_addByte (.code yy_Output_addByte prog_4_method_4_code 2 none :: np_al) { frames := 0, cells := 0, slots := 0, locals := 0 } [.ref (q 26), .int (np_i x1)] σ (f_Output_addByte x1 σ) :=
  np_mkv (by decide +kernel) (Nat.le_of_ble_eq_true rfl) (fun o p e R s m args below meth c Q A ls hf C hQ hat hl => w_f_Output_addByte C hQ x1 σ _ _ _ hf hat (lv_sub hl [0, 1] rfl))
end NW1
end
section
section NW2
variable {p : Program} {l : Launch} {e : Env} {R : Room} {s : State} {m : MethodId} {args : Array Value} {below : List Frame} {meth : Method} {c : Code} {Q : State → Prop} {D : va_G} {A : Nat → Prop} {q : Nat → Nat} {cI cL cB : ClassId} {out : np_O} {gA : Nat → Nat}
set_option maxHeartbeats 4000000 in
set_option maxRecDepth 100000 in
theorem w_f_Output_writeWord_25 (C : np_Cx gA p R s m args c D np_cl (np_ty cI cL cB) A np_al "NotationParse$Output" prog_4_method_3_code 5 { frames := 1, cells := 0, slots := 0, locals := 22 }) (hQ : ∀ (pc : Nat) (ls : Array Slot) (H : Heap) (locs : List Loc) {σ : np_S}, decode prog_4_method_3_code pc = .ok (.return_, 1) → some ((0 : Int), σ) = some out → np_At D np_cl A (nc_wd q cI cL cB) s σ H locs → W p l e R s m args below meth c H locs 0 0 Q (F0 m pc ls [])) {k3 : (Int → Int → np_S → Option np_O)} (h3 : ∀ (x1 x3 : Int) (σ : np_S) (H : Heap) (locs : List Loc) (ls : Array Slot), k3 x1 x3 σ = some out → np_At D np_cl A (nc_wd q cI cL cB) s σ H locs → lv_has ls 5 [(0, .ref (q 26)), (1, .long (np_l x1)), (3, .int (np_i x3))] → W p l e R s m args below meth c H locs 0 0 Q (F0 m 3 ls [])) : ∀ (x1 x3 : Int) (σ : np_S) (H : Heap) (locs : List Loc) (ls : Array Slot), f_Output_writeWord_25 k3 x1 x3 σ = some out → np_At D np_cl A (nc_wd q cI cL cB) s σ H locs → lv_has ls 5 [(0, .ref (q 26)), (1, .long (np_l x1)), (3, .int (np_i x3))] → W p l e R s m args below meth c H locs 0 0 Q (F0 m 25 ls []) := by
  intro x1 x3 σ H locs ls hf hat hl
  unfold f_Output_writeWord_25 at hf
  refine lv_iinc (v := np_i (x3 + (-1))) (lv' := [(3, .int (np_i (x3 + (-1)))), (0, .ref (q 26)), (1, .long (np_l x1))]) C.x C.b dd_Output_writeWord_25 hl (k := 2) rfl (np_inc _ _) (by decide) rfl (fun ls hl => ?_)
  refine lv_goto (tgt := 3) C.x C.b dd_Output_writeWord_28 (by decide) ?_
  exact h3 _ _ _ _ _ _ hf hat (lv_sub hl [1, 2, 0] rfl)
set_option maxHeartbeats 4000000 in
set_option maxRecDepth 100000 in
theorem w_f_Output_writeWord_3 (C : np_Cx gA p R s m args c D np_cl (np_ty cI cL cB) A np_al "NotationParse$Output" prog_4_method_3_code 5 { frames := 1, cells := 0, slots := 0, locals := 22 }) (hQ : ∀ (pc : Nat) (ls : Array Slot) (H : Heap) (locs : List Loc) {σ : np_S}, decode prog_4_method_3_code pc = .ok (.return_, 1) → some ((0 : Int), σ) = some out → np_At D np_cl A (nc_wd q cI cL cB) s σ H locs → W p l e R s m args below meth c H locs 0 0 Q (F0 m pc ls []))   : ∀ (n : Nat), ∀ (x1 x3 : Int) (σ : np_S) (H : Heap) (locs : List Loc) (ls : Array Slot), f_Output_writeWord_3  n x1 x3 σ = some out → np_At D np_cl A (nc_wd q cI cL cB) s σ H locs → lv_has ls 5 [(0, .ref (q 26)), (1, .long (np_l x1)), (3, .int (np_i x3))] → W p l e R s m args below meth c H locs 0 0 Q (F0 m 3 ls []) := by
  intro n
  induction n with
  | zero => intro x1 x3 σ H locs ls hf; cases hf
  | succ n ih =>
    intro x1 x3 σ H locs ls hf hat hl
    have h3 := ih
    have hf : f_Output_writeWord_3_b  (fun x1 x3 σ => f_Output_writeWord_3  n x1 x3 σ) x1 x3 σ = some out := hf
    unfold f_Output_writeWord_3_b at hf
    refine lv_iload_n C.x C.b dd_Output_writeWord_3 rfl (lv_at hl 2 rfl) ?_
    refine np_if_lt (tgt := 31) C dd_Output_writeWord_4 (by decide) hf (fun _ hf => ?_) (fun _ hf => ?_)
    · exact hQ _ _ _ _ dd_Output_writeWord_31 hf hat
    · refine lv_lload_n C.x C.b dd_Output_writeWord_7 rfl (lv_at hl 1 rfl) ?_
      refine lv_iload_n C.x C.b dd_Output_writeWord_8 rfl (lv_at hl 2 rfl) ?_
      refine np_callSi (As := [.long (np_l x1), .int (np_i x3)]) (rest := []) C (c_Spelling_byteOf l x1 x3 _) np_allgood tw_915 tw_235 tw_14 tw_236 (nA := 2) (by decide +kernel) rfl ⟨rfl, rfl, Nat.le_of_ble_eq_true rfl, Nat.le_of_ble_eq_true rfl⟩ hat rfl hl.1 (Nat.le_of_ble_eq_true rfl) dd_Output_writeWord_9 hf (fun o1 H locs hf hat => ?_)
      refine lv_istore (lv' := [(4, .int (np_i o1.1)), (0, .ref (q 26)), (1, .long (np_l x1)), (3, .int (np_i x3))]) C.x C.b dd_Output_writeWord_12 hl (by decide) rfl (fun ls hl => ?_)
      refine lv_iload C.x C.b dd_Output_writeWord_14 (lv_at hl 0 rfl) ?_
      refine np_if_eq (tgt := 25) C dd_Output_writeWord_16 (by decide) hf (fun _ hf => ?_) (fun _ hf => ?_)
      · exact w_f_Output_writeWord_25 C hQ h3 _ _ _ _ _ _ hf hat (lv_sub hl [1, 2, 3] rfl)
      · refine lv_aload_n C.x C.b dd_Output_writeWord_19 rfl (lv_at hl 1 rfl) ?_
        refine lv_iload C.x C.b dd_Output_writeWord_20 (lv_at hl 0 rfl) ?_
        refine np_callVv (As := [.int (np_i o1.1)]) (rest := []) C (c_Output_addByte l o1.1 _) np_allgood tw_907 tw_909 tp_26 tw_7 tw_910 (nA := 1) (by decide +kernel) rfl ⟨rfl, rfl, Nat.le_of_ble_eq_true rfl, Nat.le_of_ble_eq_true rfl⟩ (nc_o26 _) rfl hat rfl hl.1 (Nat.le_of_ble_eq_true rfl) dd_Output_writeWord_22 hf (fun o2 H locs hf hat => ?_)
        exact w_f_Output_writeWord_25 C hQ h3 _ _ _ _ _ _ hf hat (lv_sub hl [1, 2, 3] rfl)
set_option maxHeartbeats 4000000 in
set_option maxRecDepth 100000 in
theorem w_f_Output_writeWord (C : np_Cx gA p R s m args c D np_cl (np_ty cI cL cB) A np_al "NotationParse$Output" prog_4_method_3_code 5 { frames := 1, cells := 0, slots := 0, locals := 22 }) (hQ : ∀ (pc : Nat) (ls : Array Slot) (H : Heap) (locs : List Loc) {σ : np_S}, decode prog_4_method_3_code pc = .ok (.return_, 1) → some ((0 : Int), σ) = some out → np_At D np_cl A (nc_wd q cI cL cB) s σ H locs → W p l e R s m args below meth c H locs 0 0 Q (F0 m pc ls []))   : ∀ (x1 : Int) (σ : np_S) (H : Heap) (locs : List Loc) (ls : Array Slot), f_Output_writeWord  x1 σ = some out → np_At D np_cl A (nc_wd q cI cL cB) s σ H locs → lv_has ls 5 [(0, .ref (q 26)), (1, .long (np_l x1))] → W p l e R s m args below meth c H locs 0 0 Q (F0 m 0 ls []) := by
  intro x1 σ H locs ls hf hat hl
  unfold f_Output_writeWord at hf
  refine lv_bipush (v := np_i 7) C.x C.b dd_Output_writeWord_0 (by decide +kernel) ?_
  refine lv_istore_n (lv' := [(3, .int (np_i 7)), (0, .ref (q 26)), (1, .long (np_l x1))]) C.x C.b dd_Output_writeWord_2 rfl hl (by decide) rfl (fun ls hl => ?_)
  exact w_f_Output_writeWord_3 C hQ  6000 _ _ _ _ _ _ hf hat (lv_sub hl [1, 2, 0] rfl)
set_option maxHeartbeats 4000000 in
set_option maxRecDepth 100000 in
theorem c_Output_writeWord (l : Launch) {gA : Nat → Nat} {D : va_G} {q : Nat → Nat} {cI cL cB : ClassId} (x1 : Int) (σ : np_S) : np_Mv gA l D np_cl (np_ty cI cL cB) (nc_wd q cI cL cB) yy_Output_writeWord (.code yy_Output_writeWord prog_4_method_3_code 5 none :: np_al) { frames := 1, cells := 0, slots := 0, locals := 22 } [.ref (q 26), .long (np_l x1)] σ (f_Output_writeWord x1 σ) :=
  np_mkv (by decide +kernel) (Nat.le_of_ble_eq_true rfl) (fun o p e R s m args below meth c Q A ls hf C hQ hat hl => w_f_Output_writeWord C hQ x1 σ _ _ _ hf hat (lv_sub hl [0, 1] rfl))
set_option maxHeartbeats 4000000 in
set_option maxRecDepth 100000 in
theorem w_f_Output_writeWords_46 (C : np_Cx gA p R s m args c D np_cl (np_ty cI cL cB) A np_al "NotationParse$Output" prog_4_method_2_code 4 { frames := 2, cells := 0, slots := 0, locals := 46 }) (hQ : ∀ (pc : Nat) (ls : Array Slot) (H : Heap) (locs : List Loc) {σ : np_S}, decode prog_4_method_2_code pc = .ok (.return_, 1) → some ((0 : Int), σ) = some out → np_At D np_cl A (nc_wd q cI cL cB) s σ H locs → W p l e R s m args below meth c H locs 0 0 Q (F0 m pc ls [])) {k7 : (Int → Int → np_S → Option np_O)} (h7 : ∀ (x2 x3 : Int) (σ : np_S) (H : Heap) (locs : List Loc) (ls : Array Slot), k7 x2 x3 σ = some out → np_At D np_cl A (nc_wd q cI cL cB) s σ H locs → lv_has ls 4 [(0, .ref (q 26)), (1, .ref (q 6)), (2, .int (np_i x2)), (3, .int (np_i x3))] → W p l e R s m args below meth c H locs 0 0 Q (F0 m 7 ls [])) : ∀ (x2 x3 : Int) (σ : np_S) (H : Heap) (locs : List Loc) (ls : Array Slot), f_Output_writeWords_46 k7 x2 x3 σ = some out → np_At D np_cl A (nc_wd q cI cL cB) s σ H locs → lv_has ls 4 [(0, .ref (q 26)), (1, .ref (q 6)), (2, .int (np_i x2)), (3, .int (np_i x3))] → W p l e R s m args below meth c H locs 0 0 Q (F0 m 46 ls []) := by
  intro x2 x3 σ H locs ls hf hat hl
  unfold f_Output_writeWords_46 at hf
  refine lv_iinc (v := np_i (x3 + 1)) (lv' := [(3, .int (np_i (x3 + 1))), (0, .ref (q 26)), (1, .ref (q 6)), (2, .int (np_i x2))]) C.x C.b dd_Output_writeWords_46 hl (k := 3) rfl (np_inc _ _) (by decide) rfl (fun ls hl => ?_)
  refine lv_goto (tgt := 7) C.x C.b dd_Output_writeWords_49 (by decide) ?_
  exact h7 _ _ _ _ _ _ hf hat (lv_sub hl [1, 2, 3, 0] rfl)
set_option maxHeartbeats 4000000 in
set_option maxRecDepth 100000 in
theorem w_f_Output_writeWords_36 (C : np_Cx gA p R s m args c D np_cl (np_ty cI cL cB) A np_al "NotationParse$Output" prog_4_method_2_code 4 { frames := 2, cells := 0, slots := 0, locals := 46 }) (hQ : ∀ (pc : Nat) (ls : Array Slot) (H : Heap) (locs : List Loc) {σ : np_S}, decode prog_4_method_2_code pc = .ok (.return_, 1) → some ((0 : Int), σ) = some out → np_At D np_cl A (nc_wd q cI cL cB) s σ H locs → W p l e R s m args below meth c H locs 0 0 Q (F0 m pc ls [])) {k7 : (Int → Int → np_S → Option np_O)} (h7 : ∀ (x2 x3 : Int) (σ : np_S) (H : Heap) (locs : List Loc) (ls : Array Slot), k7 x2 x3 σ = some out → np_At D np_cl A (nc_wd q cI cL cB) s σ H locs → lv_has ls 4 [(0, .ref (q 26)), (1, .ref (q 6)), (2, .int (np_i x2)), (3, .int (np_i x3))] → W p l e R s m args below meth c H locs 0 0 Q (F0 m 7 ls [])) : ∀ (x2 x3 : Int) (σ : np_S) (H : Heap) (locs : List Loc) (ls : Array Slot), f_Output_writeWords_36 k7 x2 x3 σ = some out → np_At D np_cl A (nc_wd q cI cL cB) s σ H locs → lv_has ls 4 [(0, .ref (q 26)), (1, .ref (q 6)), (2, .int (np_i x2)), (3, .int (np_i x3))] → W p l e R s m args below meth c H locs 0 0 Q (F0 m 36 ls []) := by
  intro x2 x3 σ H locs ls hf hat hl
  unfold f_Output_writeWords_36 at hf
  refine lv_aload_n C.x C.b dd_Output_writeWords_36 rfl (lv_at hl 0 rfl) ?_
  refine lv_aload_n C.x C.b dd_Output_writeWords_37 rfl (lv_at hl 1 rfl) ?_
  refine np_get (v := .ref (q 8)) C i_Text hat.1 6 (nc_o6 _) rfl 2 (by decide) tw_89 rfl rfl dd_Output_writeWords_38 ?_
  refine lv_iload_n C.x C.b dd_Output_writeWords_41 rfl (lv_at hl 3 rfl) ?_
  refine np_laload C hat.1 8 (nc_a8 _) 1 rfl (by decide) dd_Output_writeWords_42 hf (fun hf => ?_)
  refine np_callVv (As := [.long (np_l (σ 8 x3))]) (rest := []) C (c_Output_writeWord l (σ 8 x3) _) np_allgood tw_911 tw_913 tp_27 tw_7 tw_914 (nA := 1) (by decide +kernel) rfl ⟨rfl, rfl, Nat.le_of_ble_eq_true rfl, Nat.le_of_ble_eq_true rfl⟩ (nc_o26 _) rfl hat rfl hl.1 (Nat.le_of_ble_eq_true rfl) dd_Output_writeWords_43 hf (fun o1 H locs hf hat => ?_)
  exact w_f_Output_writeWords_46 C hQ h7 _ _ _ _ _ _ hf hat (lv_sub hl [0, 1, 2, 3] rfl)
set_option maxHeartbeats 4000000 in
set_option maxRecDepth 100000 in
theorem w_f_Output_writeWords_7 (C : np_Cx gA p R s m args c D np_cl (np_ty cI cL cB) A np_al "NotationParse$Output" prog_4_method_2_code 4 { frames := 2, cells := 0, slots := 0, locals := 46 }) (hQ : ∀ (pc : Nat) (ls : Array Slot) (H : Heap) (locs : List Loc) {σ : np_S}, decode prog_4_method_2_code pc = .ok (.return_, 1) → some ((0 : Int), σ) = some out → np_At D np_cl A (nc_wd q cI cL cB) s σ H locs → W p l e R s m args below meth c H locs 0 0 Q (F0 m pc ls []))   : ∀ (n : Nat), ∀ (x2 x3 : Int) (σ : np_S) (H : Heap) (locs : List Loc) (ls : Array Slot), f_Output_writeWords_7  n x2 x3 σ = some out → np_At D np_cl A (nc_wd q cI cL cB) s σ H locs → lv_has ls 4 [(0, .ref (q 26)), (1, .ref (q 6)), (2, .int (np_i x2)), (3, .int (np_i x3))] → W p l e R s m args below meth c H locs 0 0 Q (F0 m 7 ls []) := by
  intro n
  induction n with
  | zero => intro x2 x3 σ H locs ls hf; cases hf
  | succ n ih =>
    intro x2 x3 σ H locs ls hf hat hl
    have h7 := ih
    have hf : f_Output_writeWords_7_b  (fun x2 x3 σ => f_Output_writeWords_7  n x2 x3 σ) x2 x3 σ = some out := hf
    unfold f_Output_writeWords_7_b at hf
    refine lv_iload_n C.x C.b dd_Output_writeWords_7 rfl (lv_at hl 3 rfl) ?_
    refine lv_aload_n C.x C.b dd_Output_writeWords_8 rfl (lv_at hl 1 rfl) ?_
    refine np_get (v := .int (np_i (σ 6 5))) C i_Text hat.1 6 (nc_o6 _) rfl 5 (by decide) tw_95 rfl rfl dd_Output_writeWords_9 ?_
    refine np_icmp_ge (tgt := 52) C dd_Output_writeWords_12 (by decide) hf (fun _ hf => ?_) (fun _ hf => ?_)
    · exact hQ _ _ _ _ dd_Output_writeWords_52 hf hat
    · refine lv_iload_n C.x C.b dd_Output_writeWords_15 rfl (lv_at hl 2 rfl) ?_
      refine lv_iload_n C.x C.b dd_Output_writeWords_16 rfl (lv_at hl 3 rfl) ?_
      refine np_iushr C dd_Output_writeWords_17 ?_
      refine lv_iconst (v := np_i 1) C.x C.b dd_Output_writeWords_18 rfl ?_
      refine np_iand C dd_Output_writeWords_19 ?_
      refine np_if_ne (tgt := 46) C dd_Output_writeWords_20 (by decide) hf (fun _ hf => ?_) (fun _ hf => ?_)
      · exact w_f_Output_writeWords_46 C hQ h7 _ _ _ _ _ _ hf hat (lv_sub hl [0, 1, 2, 3] rfl)
      · refine lv_aload_n C.x C.b dd_Output_writeWords_23 rfl (lv_at hl 0 rfl) ?_
        refine np_get (v := .int (np_i (σ 26 1))) C i_Output hat.1 26 (nc_o26 _) rfl 1 (by decide) tw_197 rfl rfl dd_Output_writeWords_24 ?_
        refine np_if_le (tgt := 36) C dd_Output_writeWords_27 (by decide) hf (fun _ hf => ?_) (fun _ hf => ?_)
        · exact w_f_Output_writeWords_36 C hQ h7 _ _ _ _ _ _ hf hat (lv_sub hl [0, 1, 2, 3] rfl)
        · refine lv_aload_n C.x C.b dd_Output_writeWords_30 rfl (lv_at hl 0 rfl) ?_
          refine lv_bipush (v := np_i 32) C.x C.b dd_Output_writeWords_31 (by decide +kernel) ?_
          refine np_callVv (As := [.int (np_i 32)]) (rest := []) C (c_Output_addByte l 32 _) np_allgood tw_907 tw_909 tp_26 tw_7 tw_910 (nA := 1) (by decide +kernel) rfl ⟨rfl, rfl, Nat.le_of_ble_eq_true rfl, Nat.le_of_ble_eq_true rfl⟩ (nc_o26 _) rfl hat rfl hl.1 (Nat.le_of_ble_eq_true rfl) dd_Output_writeWords_33 hf (fun o2 H locs hf hat => ?_)
          exact w_f_Output_writeWords_36 C hQ h7 _ _ _ _ _ _ hf hat (lv_sub hl [0, 1, 2, 3] rfl)
set_option maxHeartbeats 4000000 in
set_option maxRecDepth 100000 in
theorem w_f_Output_writeWords (C : np_Cx gA p R s m args c D np_cl (np_ty cI cL cB) A np_al "NotationParse$Output" prog_4_method_2_code 4 { frames := 2, cells := 0, slots := 0, locals := 46 }) (hQ : ∀ (pc : Nat) (ls : Array Slot) (H : Heap) (locs : List Loc) {σ : np_S}, decode prog_4_method_2_code pc = .ok (.return_, 1) → some ((0 : Int), σ) = some out → np_At D np_cl A (nc_wd q cI cL cB) s σ H locs → W p l e R s m args below meth c H locs 0 0 Q (F0 m pc ls []))   : ∀ (x2 : Int) (σ : np_S) (H : Heap) (locs : List Loc) (ls : Array Slot), f_Output_writeWords  x2 σ = some out → np_At D np_cl A (nc_wd q cI cL cB) s σ H locs → lv_has ls 4 [(0, .ref (q 26)), (1, .ref (q 6)), (2, .int (np_i x2))] → W p l e R s m args below meth c H locs 0 0 Q (F0 m 0 ls []) := by
  intro x2 σ H locs ls hf hat hl
  unfold f_Output_writeWords at hf
  refine lv_aload_n C.x C.b dd_Output_writeWords_0 rfl (lv_at hl 0 rfl) ?_
  refine lv_iconst (v := np_i 0) C.x C.b dd_Output_writeWords_1 rfl ?_
  refine np_put C i_Output t_Output tok_Output n_Output hat 26 (nc_o26 _) rfl 1 (by decide) tw_197 rfl rfl (by decide +kernel) (np_narI 0) (np_fitI 0) (Nat.le_of_ble_eq_true rfl) (nc_s26_1 _ _) dd_Output_writeWords_2 (fun H locs hat => ?_)
  refine lv_iconst (v := np_i 0) C.x C.b dd_Output_writeWords_5 rfl ?_
  refine lv_istore_n (lv' := [(3, .int (np_i 0)), (0, .ref (q 26)), (1, .ref (q 6)), (2, .int (np_i x2))]) C.x C.b dd_Output_writeWords_6 rfl hl (by decide) rfl (fun ls hl => ?_)
  exact w_f_Output_writeWords_7 C hQ  6000 _ _ _ _ _ _ hf hat (lv_sub hl [1, 2, 3, 0] rfl)
set_option maxHeartbeats 4000000 in
set_option maxRecDepth 100000 in
theorem c_Output_writeWords (l : Launch) {gA : Nat → Nat} {D : va_G} {q : Nat → Nat} {cI cL cB : ClassId} (x2 : Int) (σ : np_S) : np_Mv gA l D np_cl (np_ty cI cL cB) (nc_wd q cI cL cB) yy_Output_writeWords (.code yy_Output_writeWords prog_4_method_2_code 4 none :: np_al) { frames := 2, cells := 0, slots := 0, locals := 46 } [.ref (q 26), .ref (q 6), .int (np_i x2)] σ (f_Output_writeWords x2 σ) :=
  np_mkv (by decide +kernel) (Nat.le_of_ble_eq_true rfl) (fun o p e R s m args below meth c Q A ls hf C hQ hat hl => w_f_Output_writeWords C hQ x2 σ _ _ _ hf hat (lv_sub hl [0, 1, 2] rfl))
set_option maxHeartbeats 4000000 in
set_option maxRecDepth 100000 in
theorem w_f_N_at_28 (C : np_Cx gA p R s m args c D np_cl (np_ty cI cL cB) A np_al "NotationParse" prog_1_method_13_code 2 { frames := 0, cells := 0, slots := 0, locals := 0 }) (hQ : ∀ (pc : Nat) (ls : Array Slot) (H : Heap) (locs : List Loc) (v : Int) {σ : np_S}, decode prog_1_method_13_code pc = .ok (.ireturn, 1) → some (v, σ) = some out → np_At D np_cl A (nc_wd q cI cL cB) s σ H locs → W p l e R s m args below meth c H locs 0 0 Q (F0 m pc ls [.int (np_i v)]))   : ∀ (t0 : Int) (σ : np_S) (H : Heap) (locs : List Loc) (ls : Array Slot), f_N_at_28  t0 σ = some out → np_At D np_cl A (nc_wd q cI cL cB) s σ H locs → lv_has ls 2 [] → W p l e R s m args below meth c H locs 0 0 Q (F0 m 28 ls [.int (np_i t0)]) := by
  intro t0 σ H locs ls hf hat hl
  unfold f_N_at_28 at hf
  exact hQ _ _ _ _ _ dd_N_at_28 hf hat
set_option maxHeartbeats 4000000 in
set_option maxRecDepth 100000 in
theorem w_f_N_at_15 (C : np_Cx gA p R s m args c D np_cl (np_ty cI cL cB) A np_al "NotationParse" prog_1_method_13_code 2 { frames := 0, cells := 0, slots := 0, locals := 0 }) (hQ : ∀ (pc : Nat) (ls : Array Slot) (H : Heap) (locs : List Loc) (v : Int) {σ : np_S}, decode prog_1_method_13_code pc = .ok (.ireturn, 1) → some (v, σ) = some out → np_At D np_cl A (nc_wd q cI cL cB) s σ H locs → W p l e R s m args below meth c H locs 0 0 Q (F0 m pc ls [.int (np_i v)]))   : ∀ (σ : np_S) (H : Heap) (locs : List Loc) (ls : Array Slot), f_N_at_15  σ = some out → np_At D np_cl A (nc_wd q cI cL cB) s σ H locs → lv_has ls 2 [] → W p l e R s m args below meth c H locs 0 0 Q (F0 m 15 ls []) := by
  intro σ H locs ls hf hat hl
  unfold f_N_at_15 at hf
  refine lv_iconst (v := np_i (-1)) C.x C.b dd_N_at_15 rfl ?_
  refine lv_goto (tgt := 28) C.x C.b dd_N_at_16 (by decide) ?_
  exact w_f_N_at_28 C hQ  _ _ _ _ _ hf hat (lv_sub hl [] rfl)
set_option maxHeartbeats 4000000 in
set_option maxRecDepth 100000 in
theorem w_f_N_at (C : np_Cx gA p R s m args c D np_cl (np_ty cI cL cB) A np_al "NotationParse" prog_1_method_13_code 2 { frames := 0, cells := 0, slots := 0, locals := 0 }) (hQ : ∀ (pc : Nat) (ls : Array Slot) (H : Heap) (locs : List Loc) (v : Int) {σ : np_S}, decode prog_1_method_13_code pc = .ok (.ireturn, 1) → some (v, σ) = some out → np_At D np_cl A (nc_wd q cI cL cB) s σ H locs → W p l e R s m args below meth c H locs 0 0 Q (F0 m pc ls [.int (np_i v)]))   : ∀ (x1 : Int) (σ : np_S) (H : Heap) (locs : List Loc) (ls : Array Slot), f_N_at  x1 σ = some out → np_At D np_cl A (nc_wd q cI cL cB) s σ H locs → lv_has ls 2 [(0, .ref (q 0)), (1, .int (np_i x1))] → W p l e R s m args below meth c H locs 0 0 Q (F0 m 0 ls []) := by
  intro x1 σ H locs ls hf hat hl
  unfold f_N_at at hf
  refine lv_iload_n C.x C.b dd_N_at_0 rfl (lv_at hl 1 rfl) ?_
  refine np_if_lt (tgt := 15) C dd_N_at_1 (by decide) hf (fun _ hf => ?_) (fun _ hf => ?_)
  · exact w_f_N_at_15 C hQ   _ _ _ _ hf hat (lv_sub hl [] rfl)
  · refine lv_iload_n C.x C.b dd_N_at_4 rfl (lv_at hl 1 rfl) ?_
    refine lv_aload_n C.x C.b dd_N_at_5 rfl (lv_at hl 0 rfl) ?_
    refine np_get (v := .ref (q 26)) C i_N hat.1 0 (nc_o0 _) rfl 4 (by decide) tw_208 rfl rfl dd_N_at_6 ?_
    refine np_get (v := .int (np_i (σ 26 1))) C i_Output hat.1 26 (nc_o26 _) rfl 1 (by decide) tw_198 rfl rfl dd_N_at_9 ?_
    refine np_icmp_lt (tgt := 19) C dd_N_at_12 (by decide) hf (fun _ hf => ?_) (fun _ hf => ?_)
    · refine lv_aload_n C.x C.b dd_N_at_19 rfl (lv_at hl 0 rfl) ?_
      refine np_get (v := .ref (q 26)) C i_N hat.1 0 (nc_o0 _) rfl 4 (by decide) tw_208 rfl rfl dd_N_at_20 ?_
      refine np_get (v := .ref (q 27)) C i_Output hat.1 26 (nc_o26 _) rfl 0 (by decide) tw_196 rfl rfl dd_N_at_23 ?_
      refine lv_iload_n C.x C.b dd_N_at_26 rfl (lv_at hl 1 rfl) ?_
      refine np_baload C hat.1 27 (nc_a27 _) 2 rfl (by decide) dd_N_at_27 hf (fun hf => ?_)
      exact w_f_N_at_28 C hQ  _ _ _ _ _ hf hat (lv_sub hl [] rfl)
    · exact w_f_N_at_15 C hQ   _ _ _ _ hf hat (lv_sub hl [] rfl)
set_option maxHeartbeats 4000000 in
set_option maxRecDepth 100000 in
theorem c_N_at (l : Launch) {gA : Nat → Nat} {D : va_G} {q : Nat → Nat} {cI cL cB : ClassId} (x1 : Int) (σ : np_S) : np_Mi gA l D np_cl (np_ty cI cL cB) (nc_wd q cI cL cB) yy_N_at (.code yy_N_at prog_1_method_13_code 2 (some .int) :: np_al) { frames := 0, cells := 0, slots := 0, locals := 0 } [.ref (q 0), .int (np_i x1)] σ (f_N_at x1 σ) :=
  np_mki (by decide +kernel) (Nat.le_of_ble_eq_true rfl) (fun o p e R s m args below meth c Q A ls hf C hQ hat hl => w_f_N_at C hQ x1 σ _ _ _ hf hat (lv_sub hl [0, 1] rfl))
set_option maxHeartbeats 4000000 in
set_option maxRecDepth 100000 in
theorem w_f_N_about (C : np_Cx gA p R s m args c D np_cl (np_ty cI cL cB) A np_al "NotationParse" prog_1_method_15_code 2 { frames := 0, cells := 0, slots := 0, locals := 0 }) (hQ : ∀ (pc : Nat) (ls : Array Slot) (H : Heap) (locs : List Loc) (v : Int) {σ : np_S}, decode prog_1_method_15_code pc = .ok (.ireturn, 1) → some (v, σ) = some out → np_At D np_cl A (nc_wd q cI cL cB) s σ H locs → W p l e R s m args below meth c H locs 0 0 Q (F0 m pc ls [.int (np_i v)]))   : ∀ (x1 : Int) (σ : np_S) (H : Heap) (locs : List Loc) (ls : Array Slot), f_N_about  x1 σ = some out → np_At D np_cl A (nc_wd q cI cL cB) s σ H locs → lv_has ls 2 [(0, .ref (q 0)), (1, .int (np_i x1))] → W p l e R s m args below meth c H locs 0 0 Q (F0 m 0 ls []) := by
  intro x1 σ H locs ls hf hat hl
  unfold f_N_about at hf
  refine lv_iload_n C.x C.b dd_N_about_0 rfl (lv_at hl 1 rfl) ?_
  obtain ⟨hR, hf⟩ := np_ck_e hf
  refine np_case hf (fun hx hf => ?_) (fun n0 hf => ?_)
  · refine np_tswI (tgt := 36) (off := 35) C dd_N_about_1 hx (by decide +kernel) (by decide +kernel) (by decide +kernel) (by decide) ?_
    refine lv_aload_n C.x C.b dd_N_about_36 rfl (lv_at hl 0 rfl) ?_
    refine np_get (v := .ref (q 1)) C i_N hat.1 0 (nc_o0 _) rfl 0 (by decide) tw_204 rfl rfl dd_N_about_37 ?_
    refine np_get (v := .int (np_i (σ 1 4))) C i_Grammar hat.1 1 (nc_o1 _) rfl 4 (by decide) tw_60 rfl rfl dd_N_about_40 ?_
    refine lv_iconst (v := np_i 2) C.x C.b dd_N_about_43 rfl ?_
    refine np_isub C dd_N_about_44 ?_
    exact hQ _ _ _ _ _ dd_N_about_45 hf hat
  refine np_case hf (fun hx hf => ?_) (fun n1 hf => ?_)
  · refine np_tswI (tgt := 46) (off := 45) C dd_N_about_1 hx (by decide +kernel) (by decide +kernel) (by decide +kernel) (by decide) ?_
    refine lv_aload_n C.x C.b dd_N_about_46 rfl (lv_at hl 0 rfl) ?_
    refine np_get (v := .ref (q 1)) C i_N hat.1 0 (nc_o0 _) rfl 0 (by decide) tw_204 rfl rfl dd_N_about_47 ?_
    refine np_get (v := .int (np_i (σ 1 5))) C i_Grammar hat.1 1 (nc_o1 _) rfl 5 (by decide) tw_63 rfl rfl dd_N_about_50 ?_
    exact hQ _ _ _ _ _ dd_N_about_53 hf hat
  refine np_case hf (fun hx hf => ?_) (fun n2 hf => ?_)
  · refine np_tswI (tgt := 54) (off := 53) C dd_N_about_1 hx (by decide +kernel) (by decide +kernel) (by decide +kernel) (by decide) ?_
    refine lv_aload_n C.x C.b dd_N_about_54 rfl (lv_at hl 0 rfl) ?_
    refine np_get (v := .ref (q 6)) C i_N hat.1 0 (nc_o0 _) rfl 1 (by decide) tw_205 rfl rfl dd_N_about_55 ?_
    refine np_get (v := .int (np_i (σ 6 1))) C i_Text hat.1 6 (nc_o6 _) rfl 1 (by decide) tw_87 rfl rfl dd_N_about_58 ?_
    exact hQ _ _ _ _ _ dd_N_about_61 hf hat
  refine np_case hf (fun hx hf => ?_) (fun n3 hf => ?_)
  · refine np_tswI (tgt := 62) (off := 61) C dd_N_about_1 hx (by decide +kernel) (by decide +kernel) (by decide +kernel) (by decide) ?_
    refine lv_aload_n C.x C.b dd_N_about_62 rfl (lv_at hl 0 rfl) ?_
    refine np_get (v := .ref (q 15)) C i_N hat.1 0 (nc_o0 _) rfl 3 (by decide) tw_207 rfl rfl dd_N_about_63 ?_
    refine np_get (v := .int (np_i (σ 15 2))) C i_Tree hat.1 15 (nc_o15 _) rfl 2 (by decide) tw_143 rfl rfl dd_N_about_66 ?_
    exact hQ _ _ _ _ _ dd_N_about_69 hf hat
  refine np_case hf (fun hx hf => ?_) (fun n4 hf => ?_)
  · refine np_tswI (tgt := 70) (off := 69) C dd_N_about_1 hx (by decide +kernel) (by decide +kernel) (by decide +kernel) (by decide) ?_
    refine lv_aload_n C.x C.b dd_N_about_70 rfl (lv_at hl 0 rfl) ?_
    refine np_get (v := .ref (q 26)) C i_N hat.1 0 (nc_o0 _) rfl 4 (by decide) tw_208 rfl rfl dd_N_about_71 ?_
    refine np_get (v := .int (np_i (σ 26 1))) C i_Output hat.1 26 (nc_o26 _) rfl 1 (by decide) tw_198 rfl rfl dd_N_about_74 ?_
    exact hQ _ _ _ _ _ dd_N_about_77 hf hat
  refine np_tswO (tgt := 78) C dd_N_about_1 hR (by omega) (by decide) ?_
  refine lv_iconst (v := np_i (-1)) C.x C.b dd_N_about_78 rfl ?_
  exact hQ _ _ _ _ _ dd_N_about_79 hf hat
set_option maxHeartbeats 4000000 in
set_option maxRecDepth 100000 in
theorem c_N_about (l : Launch) {gA : Nat → Nat} {D : va_G} {q : Nat → Nat} {cI cL cB : ClassId} (x1 : Int) (σ : np_S) : np_Mi gA l D np_cl (np_ty cI cL cB) (nc_wd q cI cL cB) yy_N_about (.code yy_N_about prog_1_method_15_code 2 (some .int) :: np_al) { frames := 0, cells := 0, slots := 0, locals := 0 } [.ref (q 0), .int (np_i x1)] σ (f_N_about x1 σ) :=
  np_mki (by decide +kernel) (Nat.le_of_ble_eq_true rfl) (fun o p e R s m args below meth c Q A ls hf C hQ hat hl => w_f_N_about C hQ x1 σ _ _ _ hf hat (lv_sub hl [0, 1] rfl))
set_option maxHeartbeats 4000000 in
set_option maxRecDepth 100000 in
theorem w_f_Grammar_handEndsInHole_32 (C : np_Cx gA p R s m args c D np_cl (np_ty cI cL cB) A np_al "NotationParse$Grammar" prog_3_method_4_code 1 { frames := 1, cells := 0, slots := 0, locals := 20 }) (hQ : ∀ (pc : Nat) (ls : Array Slot) (H : Heap) (locs : List Loc) (v : Int) {σ : np_S}, decode prog_3_method_4_code pc = .ok (.ireturn, 1) → np_ck (v = 0 ∨ v = 1) (some (v, σ)) = some out → np_At D np_cl A (nc_wd q cI cL cB) s σ H locs → W p l e R s m args below meth c H locs 0 0 Q (F0 m pc ls [.int (np_i v)]))   : ∀ (t0 : Int) (σ : np_S) (H : Heap) (locs : List Loc) (ls : Array Slot), f_Grammar_handEndsInHole_32  t0 σ = some out → np_At D np_cl A (nc_wd q cI cL cB) s σ H locs → lv_has ls 1 [] → W p l e R s m args below meth c H locs 0 0 Q (F0 m 32 ls [.int (np_i t0)]) := by
  intro t0 σ H locs ls hf hat hl
  unfold f_Grammar_handEndsInHole_32 at hf
  exact hQ _ _ _ _ _ dd_Grammar_handEndsInHole_32 hf hat
set_option maxHeartbeats 4000000 in
set_option maxRecDepth 100000 in
theorem w_f_Grammar_handEndsInHole_31 (C : np_Cx gA p R s m args c D np_cl (np_ty cI cL cB) A np_al "NotationParse$Grammar" prog_3_method_4_code 1 { frames := 1, cells := 0, slots := 0, locals := 20 }) (hQ : ∀ (pc : Nat) (ls : Array Slot) (H : Heap) (locs : List Loc) (v : Int) {σ : np_S}, decode prog_3_method_4_code pc = .ok (.ireturn, 1) → np_ck (v = 0 ∨ v = 1) (some (v, σ)) = some out → np_At D np_cl A (nc_wd q cI cL cB) s σ H locs → W p l e R s m args below meth c H locs 0 0 Q (F0 m pc ls [.int (np_i v)]))   : ∀ (σ : np_S) (H : Heap) (locs : List Loc) (ls : Array Slot), f_Grammar_handEndsInHole_31  σ = some out → np_At D np_cl A (nc_wd q cI cL cB) s σ H locs → lv_has ls 1 [] → W p l e R s m args below meth c H locs 0 0 Q (F0 m 31 ls []) := by
  intro σ H locs ls hf hat hl
  unfold f_Grammar_handEndsInHole_31 at hf
  refine lv_iconst (v := np_i 0) C.x C.b dd_Grammar_handEndsInHole_31 rfl ?_
  exact w_f_Grammar_handEndsInHole_32 C hQ  _ _ _ _ _ hf hat (lv_sub hl [] rfl)
set_option maxHeartbeats 4000000 in
set_option maxRecDepth 100000 in
theorem w_f_Grammar_handEndsInHole (C : np_Cx gA p R s m args c D np_cl (np_ty cI cL cB) A np_al "NotationParse$Grammar" prog_3_method_4_code 1 { frames := 1, cells := 0, slots := 0, locals := 20 }) (hQ : ∀ (pc : Nat) (ls : Array Slot) (H : Heap) (locs : List Loc) (v : Int) {σ : np_S}, decode prog_3_method_4_code pc = .ok (.ireturn, 1) → np_ck (v = 0 ∨ v = 1) (some (v, σ)) = some out → np_At D np_cl A (nc_wd q cI cL cB) s σ H locs → W p l e R s m args below meth c H locs 0 0 Q (F0 m pc ls [.int (np_i v)]))   : ∀ (σ : np_S) (H : Heap) (locs : List Loc) (ls : Array Slot), f_Grammar_handEndsInHole  σ = some out → np_At D np_cl A (nc_wd q cI cL cB) s σ H locs → lv_has ls 1 [(0, .ref (q 1))] → W p l e R s m args below meth c H locs 0 0 Q (F0 m 0 ls []) := by
  intro σ H locs ls hf hat hl
  unfold f_Grammar_handEndsInHole at hf
  refine lv_aload_n C.x C.b dd_Grammar_handEndsInHole_0 rfl (lv_at hl 0 rfl) ?_
  refine np_get (v := .int (np_i (σ 1 5))) C i_Grammar hat.1 1 (nc_o1 _) rfl 5 (by decide) tw_62 rfl rfl dd_Grammar_handEndsInHole_1 ?_
  refine np_if_le (tgt := 31) C dd_Grammar_handEndsInHole_4 (by decide) hf (fun _ hf => ?_) (fun _ hf => ?_)
  · exact w_f_Grammar_handEndsInHole_31 C hQ   _ _ _ _ hf hat (lv_sub hl [] rfl)
  · refine lv_aload_n C.x C.b dd_Grammar_handEndsInHole_7 rfl (lv_at hl 0 rfl) ?_
    refine np_get (v := .ref (q 2)) C i_Grammar hat.1 1 (nc_o1 _) rfl 0 (by decide) tw_50 rfl rfl dd_Grammar_handEndsInHole_8 ?_
    refine lv_aload_n C.x C.b dd_Grammar_handEndsInHole_11 rfl (lv_at hl 0 rfl) ?_
    refine np_callVi (As := []) (rest := [.ref (q 2)]) C (c_Grammar_usedDots l _) np_allgood tw_355 tw_356 tw_357 tw_2 tw_358 (nA := 0) (by decide +kernel) rfl ⟨rfl, rfl, Nat.le_of_ble_eq_true rfl, Nat.le_of_ble_eq_true rfl⟩ (nc_o1 _) rfl hat rfl hl.1 (Nat.le_of_ble_eq_true rfl) dd_Grammar_handEndsInHole_12 hf (fun o1 H locs hf hat => ?_)
    refine lv_aload_n C.x C.b dd_Grammar_handEndsInHole_15 rfl (lv_at hl 0 rfl) ?_
    refine np_get (v := .int (np_i (o1.2 1 5))) C i_Grammar hat.1 1 (nc_o1 _) rfl 5 (by decide) tw_62 rfl rfl dd_Grammar_handEndsInHole_16 ?_
    refine np_iadd C dd_Grammar_handEndsInHole_19 ?_
    refine lv_iconst (v := np_i 1) C.x C.b dd_Grammar_handEndsInHole_20 rfl ?_
    refine np_isub C dd_Grammar_handEndsInHole_21 ?_
    refine np_iaload C hat.1 2 (nc_a2 _) 0 rfl (by decide) dd_Grammar_handEndsInHole_22 hf (fun hf => ?_)
    refine lv_iconst (v := np_i (-1)) C.x C.b dd_Grammar_handEndsInHole_23 rfl ?_
    refine np_icmp_eq (tgt := 31) C dd_Grammar_handEndsInHole_24 (by decide) hf (fun _ hf => ?_) (fun _ hf => ?_)
    · exact w_f_Grammar_handEndsInHole_31 C hQ   _ _ _ _ hf hat (lv_sub hl [] rfl)
    · refine lv_iconst (v := np_i 1) C.x C.b dd_Grammar_handEndsInHole_27 rfl ?_
      refine lv_goto (tgt := 32) C.x C.b dd_Grammar_handEndsInHole_28 (by decide) ?_
      exact w_f_Grammar_handEndsInHole_32 C hQ  _ _ _ _ _ hf hat (lv_sub hl [] rfl)
set_option maxHeartbeats 4000000 in
set_option maxRecDepth 100000 in
theorem c_Grammar_handEndsInHole (l : Launch) {gA : Nat → Nat} {D : va_G} {q : Nat → Nat} {cI cL cB : ClassId} (σ : np_S) : np_Mi gA l D np_cl (np_ty cI cL cB) (nc_wd q cI cL cB) yy_Grammar_handEndsInHole (.code yy_Grammar_handEndsInHole prog_3_method_4_code 1 (some .boolean) :: np_al) { frames := 1, cells := 0, slots := 0, locals := 20 } [.ref (q 1)] σ (f_Grammar_handEndsInHole  σ) :=
  np_mkz (by decide +kernel) (Nat.le_of_ble_eq_true rfl) (fun o p e R s m args below meth c Q A ls hf C hQ hat hl => w_f_Grammar_handEndsInHole C hQ  σ _ _ _ hf hat (lv_sub hl [0] rfl))
set_option maxHeartbeats 4000000 in
set_option maxRecDepth 100000 in
theorem w_f_Grammar_handHasWord_2 (C : np_Cx gA p R s m args c D np_cl (np_ty cI cL cB) A np_al "NotationParse$Grammar" prog_3_method_5_code 2 { frames := 1, cells := 0, slots := 0, locals := 20 }) (hQ : ∀ (pc : Nat) (ls : Array Slot) (H : Heap) (locs : List Loc) (v : Int) {σ : np_S}, decode prog_3_method_5_code pc = .ok (.ireturn, 1) → np_ck (v = 0 ∨ v = 1) (some (v, σ)) = some out → np_At D np_cl A (nc_wd q cI cL cB) s σ H locs → W p l e R s m args below meth c H locs 0 0 Q (F0 m pc ls [.int (np_i v)]))   : ∀ (n : Nat), ∀ (x1 : Int) (σ : np_S) (H : Heap) (locs : List Loc) (ls : Array Slot), f_Grammar_handHasWord_2  n x1 σ = some out → np_At D np_cl A (nc_wd q cI cL cB) s σ H locs → lv_has ls 2 [(0, .ref (q 1)), (1, .int (np_i x1))] → W p l e R s m args below meth c H locs 0 0 Q (F0 m 2 ls []) := by
  intro n
  induction n with
  | zero => intro x1 σ H locs ls hf; cases hf
  | succ n ih =>
    intro x1 σ H locs ls hf hat hl
    have h2 := ih
    have hf : f_Grammar_handHasWord_2_b  (fun x1 σ => f_Grammar_handHasWord_2  n x1 σ) x1 σ = some out := hf
    unfold f_Grammar_handHasWord_2_b at hf
    refine lv_iload_n C.x C.b dd_Grammar_handHasWord_2 rfl (lv_at hl 1 rfl) ?_
    refine lv_aload_n C.x C.b dd_Grammar_handHasWord_3 rfl (lv_at hl 0 rfl) ?_
    refine np_get (v := .int (np_i (σ 1 5))) C i_Grammar hat.1 1 (nc_o1 _) rfl 5 (by decide) tw_62 rfl rfl dd_Grammar_handHasWord_4 ?_
    refine np_icmp_ge (tgt := 36) C dd_Grammar_handHasWord_7 (by decide) hf (fun _ hf => ?_) (fun _ hf => ?_)
    · refine lv_iconst (v := np_i 0) C.x C.b dd_Grammar_handHasWord_36 rfl ?_
      exact hQ _ _ _ _ _ dd_Grammar_handHasWord_37 hf hat
    · refine lv_aload_n C.x C.b dd_Grammar_handHasWord_10 rfl (lv_at hl 0 rfl) ?_
      refine np_get (v := .ref (q 3)) C i_Grammar hat.1 1 (nc_o1 _) rfl 1 (by decide) tw_53 rfl rfl dd_Grammar_handHasWord_11 ?_
      refine lv_aload_n C.x C.b dd_Grammar_handHasWord_14 rfl (lv_at hl 0 rfl) ?_
      refine np_callVi (As := []) (rest := [.ref (q 3)]) C (c_Grammar_usedDots l _) np_allgood tw_355 tw_356 tw_357 tw_2 tw_358 (nA := 0) (by decide +kernel) rfl ⟨rfl, rfl, Nat.le_of_ble_eq_true rfl, Nat.le_of_ble_eq_true rfl⟩ (nc_o1 _) rfl hat rfl hl.1 (Nat.le_of_ble_eq_true rfl) dd_Grammar_handHasWord_15 hf (fun o1 H locs hf hat => ?_)
      refine lv_iload_n C.x C.b dd_Grammar_handHasWord_18 rfl (lv_at hl 1 rfl) ?_
      refine np_iadd C dd_Grammar_handHasWord_19 ?_
      refine np_laload C hat.1 3 (nc_a3 _) 1 rfl (by decide) dd_Grammar_handHasWord_20 hf (fun hf => ?_)
      refine np_ldc2 (v := (-1)) C tw_44 dd_Grammar_handHasWord_21 ?_
      refine np_lcmp C dd_Grammar_handHasWord_24 hf (fun hf => ?_)
      refine np_if_eq (tgt := 30) C dd_Grammar_handHasWord_25 (by decide) hf (fun _ hf => ?_) (fun _ hf => ?_)
      · refine lv_iinc (v := np_i (x1 + 1)) (lv' := [(1, .int (np_i (x1 + 1))), (0, .ref (q 1))]) C.x C.b dd_Grammar_handHasWord_30 hl (k := 1) rfl (np_inc _ _) (by decide) rfl (fun ls hl => ?_)
        refine lv_goto (tgt := 2) C.x C.b dd_Grammar_handHasWord_33 (by decide) ?_
        exact h2 _ _ _ _ _ hf hat (lv_sub hl [1, 0] rfl)
      · refine lv_iconst (v := np_i 1) C.x C.b dd_Grammar_handHasWord_28 rfl ?_
        exact hQ _ _ _ _ _ dd_Grammar_handHasWord_29 hf hat
set_option maxHeartbeats 4000000 in
set_option maxRecDepth 100000 in
theorem w_f_Grammar_handHasWord (C : np_Cx gA p R s m args c D np_cl (np_ty cI cL cB) A np_al "NotationParse$Grammar" prog_3_method_5_code 2 { frames := 1, cells := 0, slots := 0, locals := 20 }) (hQ : ∀ (pc : Nat) (ls : Array Slot) (H : Heap) (locs : List Loc) (v : Int) {σ : np_S}, decode prog_3_method_5_code pc = .ok (.ireturn, 1) → np_ck (v = 0 ∨ v = 1) (some (v, σ)) = some out → np_At D np_cl A (nc_wd q cI cL cB) s σ H locs → W p l e R s m args below meth c H locs 0 0 Q (F0 m pc ls [.int (np_i v)]))   : ∀ (σ : np_S) (H : Heap) (locs : List Loc) (ls : Array Slot), f_Grammar_handHasWord  σ = some out → np_At D np_cl A (nc_wd q cI cL cB) s σ H locs → lv_has ls 2 [(0, .ref (q 1))] → W p l e R s m args below meth c H locs 0 0 Q (F0 m 0 ls []) := by
  intro σ H locs ls hf hat hl
  unfold f_Grammar_handHasWord at hf
  refine lv_iconst (v := np_i 0) C.x C.b dd_Grammar_handHasWord_0 rfl ?_
  refine lv_istore_n (lv' := [(1, .int (np_i 0)), (0, .ref (q 1))]) C.x C.b dd_Grammar_handHasWord_1 rfl hl (by decide) rfl (fun ls hl => ?_)
  exact w_f_Grammar_handHasWord_2 C hQ  6000 _ _ _ _ _ hf hat (lv_sub hl [1, 0] rfl)
set_option maxHeartbeats 4000000 in
set_option maxRecDepth 100000 in
theorem c_Grammar_handHasWord (l : Launch) {gA : Nat → Nat} {D : va_G} {q : Nat → Nat} {cI cL cB : ClassId} (σ : np_S) : np_Mi gA l D np_cl (np_ty cI cL cB) (nc_wd q cI cL cB) yy_Grammar_handHasWord (.code yy_Grammar_handHasWord prog_3_method_5_code 2 (some .boolean) :: np_al) { frames := 1, cells := 0, slots := 0, locals := 20 } [.ref (q 1)] σ (f_Grammar_handHasWord  σ) :=
  np_mkz (by decide +kernel) (Nat.le_of_ble_eq_true rfl) (fun o p e R s m args below meth c Q A ls hf C hQ hat hl => w_f_Grammar_handHasWord C hQ  σ _ _ _ hf hat (lv_sub hl [0] rfl))
set_option maxHeartbeats 4000000 in
set_option maxRecDepth 100000 in
theorem w_f_Grammar_takePart (C : np_Cx gA p R s m args c D np_cl (np_ty cI cL cB) A np_al "NotationParse$Grammar" prog_3_method_6_code 4 { frames := 1, cells := 0, slots := 0, locals := 20 }) (hQ : ∀ (pc : Nat) (ls : Array Slot) (H : Heap) (locs : List Loc) (v : Int) {σ : np_S}, decode prog_3_method_6_code pc = .ok (.ireturn, 1) → some (v, σ) = some out → np_At D np_cl A (nc_wd q cI cL cB) s σ H locs → W p l e R s m args below meth c H locs 0 0 Q (F0 m pc ls [.int (np_i v)]))   : ∀ (x1 x2 : Int) (σ : np_S) (H : Heap) (locs : List Loc) (ls : Array Slot), f_Grammar_takePart  x1 x2 σ = some out → np_At D np_cl A (nc_wd q cI cL cB) s σ H locs → lv_has ls 4 [(0, .ref (q 1)), (1, .int (np_i x1)), (2, .long (np_l x2))] → W p l e R s m args below meth c H locs 0 0 Q (F0 m 0 ls []) := by
  intro x1 x2 σ H locs ls hf hat hl
  unfold f_Grammar_takePart at hf
  refine lv_aload_n C.x C.b dd_Grammar_takePart_0 rfl (lv_at hl 0 rfl) ?_
  refine np_get (v := .ref (q 2)) C i_Grammar hat.1 1 (nc_o1 _) rfl 0 (by decide) tw_50 rfl rfl dd_Grammar_takePart_1 ?_
  refine lv_aload_n C.x C.b dd_Grammar_takePart_4 rfl (lv_at hl 0 rfl) ?_
  refine np_callVi (As := []) (rest := [.ref (q 2)]) C (c_Grammar_usedDots l _) np_allgood tw_355 tw_356 tw_357 tw_2 tw_358 (nA := 0) (by decide +kernel) rfl ⟨rfl, rfl, Nat.le_of_ble_eq_true rfl, Nat.le_of_ble_eq_true rfl⟩ (nc_o1 _) rfl hat rfl hl.1 (Nat.le_of_ble_eq_true rfl) dd_Grammar_takePart_5 hf (fun o1 H locs hf hat => ?_)
  refine lv_aload_n C.x C.b dd_Grammar_takePart_8 rfl (lv_at hl 0 rfl) ?_
  refine np_get (v := .int (np_i (o1.2 1 5))) C i_Grammar hat.1 1 (nc_o1 _) rfl 5 (by decide) tw_62 rfl rfl dd_Grammar_takePart_9 ?_
  refine np_iadd C dd_Grammar_takePart_12 ?_
  refine lv_iload_n C.x C.b dd_Grammar_takePart_13 rfl (lv_at hl 1 rfl) ?_
  refine np_iastore C hat 2 (nc_a2 _) 0 rfl (by decide) (nc_s2 _ _ _) dd_Grammar_takePart_14 hf (fun H locs hat hf => ?_)
  refine lv_aload_n C.x C.b dd_Grammar_takePart_15 rfl (lv_at hl 0 rfl) ?_
  refine np_get (v := .ref (q 3)) C i_Grammar hat.1 1 (nc_o1 _) rfl 1 (by decide) tw_53 rfl rfl dd_Grammar_takePart_16 ?_
  refine lv_aload_n C.x C.b dd_Grammar_takePart_19 rfl (lv_at hl 0 rfl) ?_
  refine np_callVi (As := []) (rest := [.ref (q 3)]) C (c_Grammar_usedDots l _) np_allgood tw_355 tw_356 tw_357 tw_2 tw_358 (nA := 0) (by decide +kernel) rfl ⟨rfl, rfl, Nat.le_of_ble_eq_true rfl, Nat.le_of_ble_eq_true rfl⟩ (nc_o1 _) rfl hat rfl hl.1 (Nat.le_of_ble_eq_true rfl) dd_Grammar_takePart_20 hf (fun o2 H locs hf hat => ?_)
  refine lv_aload_n C.x C.b dd_Grammar_takePart_23 rfl (lv_at hl 0 rfl) ?_
  refine np_get (v := .int (np_i (o2.2 1 5))) C i_Grammar hat.1 1 (nc_o1 _) rfl 5 (by decide) tw_62 rfl rfl dd_Grammar_takePart_24 ?_
  refine np_iadd C dd_Grammar_takePart_27 ?_
  refine lv_lload_n C.x C.b dd_Grammar_takePart_28 rfl (lv_at hl 2 rfl) ?_
  refine np_lastore C hat 3 (nc_a3 _) 1 rfl (by decide) (nc_s3 _ _ _) dd_Grammar_takePart_29 hf (fun H locs hat hf => ?_)
  refine lv_aload_n C.x C.b dd_Grammar_takePart_30 rfl (lv_at hl 0 rfl) ?_
  refine lv_dup C.x C.b dd_Grammar_takePart_31 rfl ?_
  refine np_get (v := .int (np_i ((np_st o2.2 3 (o2.1 + (o2.2 1 5)) x2) 1 5))) C i_Grammar hat.1 1 (nc_o1 _) rfl 5 (by decide) tw_62 rfl rfl dd_Grammar_takePart_32 ?_
  refine lv_iconst (v := np_i 1) C.x C.b dd_Grammar_takePart_35 rfl ?_
  refine np_iadd C dd_Grammar_takePart_36 ?_
  refine np_put C i_Grammar t_Grammar tok_Grammar n_Grammar hat 1 (nc_o1 _) rfl 5 (by decide) tw_62 rfl rfl (by decide +kernel) (np_narI (((np_st o2.2 3 (o2.1 + (o2.2 1 5)) x2) 1 5) + 1)) (np_fitI (((np_st o2.2 3 (o2.1 + (o2.2 1 5)) x2) 1 5) + 1)) (Nat.le_of_ble_eq_true rfl) (nc_s1_5 _ _) dd_Grammar_takePart_37 (fun H locs hat => ?_)
  refine lv_aload_n C.x C.b dd_Grammar_takePart_40 rfl (lv_at hl 0 rfl) ?_
  refine np_get (v := .int (np_i ((np_st (np_st o2.2 3 (o2.1 + (o2.2 1 5)) x2) 1 5 (((np_st o2.2 3 (o2.1 + (o2.2 1 5)) x2) 1 5) + 1)) 1 5))) C i_Grammar hat.1 1 (nc_o1 _) rfl 5 (by decide) tw_62 rfl rfl dd_Grammar_takePart_41 ?_
  exact hQ _ _ _ _ _ dd_Grammar_takePart_44 hf hat
set_option maxHeartbeats 4000000 in
set_option maxRecDepth 100000 in
theorem c_Grammar_takePart (l : Launch) {gA : Nat → Nat} {D : va_G} {q : Nat → Nat} {cI cL cB : ClassId} (x1 x2 : Int) (σ : np_S) : np_Mi gA l D np_cl (np_ty cI cL cB) (nc_wd q cI cL cB) yy_Grammar_takePart (.code yy_Grammar_takePart prog_3_method_6_code 4 (some .int) :: np_al) { frames := 1, cells := 0, slots := 0, locals := 20 } [.ref (q 1), .int (np_i x1), .long (np_l x2)] σ (f_Grammar_takePart x1 x2 σ) :=
  np_mki (by decide +kernel) (Nat.le_of_ble_eq_true rfl) (fun o p e R s m args below meth c Q A ls hf C hQ hat hl => w_f_Grammar_takePart C hQ x1 x2 σ _ _ _ hf hat (lv_sub hl [0, 1, 2] rfl))
set_option maxHeartbeats 4000000 in
set_option maxRecDepth 100000 in
theorem w_f_Grammar_makeRule (C : np_Cx gA p R s m args c D np_cl (np_ty cI cL cB) A np_al "NotationParse$Grammar" prog_3_method_8_code 3 { frames := 0, cells := 0, slots := 0, locals := 0 }) (hQ : ∀ (pc : Nat) (ls : Array Slot) (H : Heap) (locs : List Loc) (v : Int) {σ : np_S}, decode prog_3_method_8_code pc = .ok (.ireturn, 1) → some (v, σ) = some out → np_At D np_cl A (nc_wd q cI cL cB) s σ H locs → W p l e R s m args below meth c H locs 0 0 Q (F0 m pc ls [.int (np_i v)]))   : ∀ (x1 : Int) (σ : np_S) (H : Heap) (locs : List Loc) (ls : Array Slot), f_Grammar_makeRule  x1 σ = some out → np_At D np_cl A (nc_wd q cI cL cB) s σ H locs → lv_has ls 3 [(0, .ref (q 1)), (1, .int (np_i x1))] → W p l e R s m args below meth c H locs 0 0 Q (F0 m 0 ls []) := by
  intro x1 σ H locs ls hf hat hl
  unfold f_Grammar_makeRule at hf
  refine lv_aload_n C.x C.b dd_Grammar_makeRule_0 rfl (lv_at hl 0 rfl) ?_
  refine np_get (v := .int (np_i (σ 1 4))) C i_Grammar hat.1 1 (nc_o1 _) rfl 4 (by decide) tw_59 rfl rfl dd_Grammar_makeRule_1 ?_
  refine lv_istore_n (lv' := [(2, .int (np_i (σ 1 4))), (0, .ref (q 1)), (1, .int (np_i x1))]) C.x C.b dd_Grammar_makeRule_4 rfl hl (by decide) rfl (fun ls hl => ?_)
  refine lv_aload_n C.x C.b dd_Grammar_makeRule_5 rfl (lv_at hl 1 rfl) ?_
  refine np_get (v := .ref (q 4)) C i_Grammar hat.1 1 (nc_o1 _) rfl 2 (by decide) tw_55 rfl rfl dd_Grammar_makeRule_6 ?_
  refine lv_iload_n C.x C.b dd_Grammar_makeRule_9 rfl (lv_at hl 0 rfl) ?_
  refine lv_iload_n C.x C.b dd_Grammar_makeRule_10 rfl (lv_at hl 2 rfl) ?_
  refine np_iastore C hat 4 (nc_a4 _) 0 rfl (by decide) (nc_s4 _ _ _) dd_Grammar_makeRule_11 hf (fun H locs hat hf => ?_)
  refine lv_aload_n C.x C.b dd_Grammar_makeRule_12 rfl (lv_at hl 1 rfl) ?_
  refine np_get (v := .ref (q 5)) C i_Grammar hat.1 1 (nc_o1 _) rfl 3 (by decide) tw_58 rfl rfl dd_Grammar_makeRule_13 ?_
  refine lv_iload_n C.x C.b dd_Grammar_makeRule_16 rfl (lv_at hl 0 rfl) ?_
  refine lv_aload_n C.x C.b dd_Grammar_makeRule_17 rfl (lv_at hl 1 rfl) ?_
  refine np_get (v := .int (np_i ((np_st σ 4 (σ 1 4) x1) 1 5))) C i_Grammar hat.1 1 (nc_o1 _) rfl 5 (by decide) tw_62 rfl rfl dd_Grammar_makeRule_18 ?_
  refine np_iastore C hat 5 (nc_a5 _) 0 rfl (by decide) (nc_s5 _ _ _) dd_Grammar_makeRule_21 hf (fun H locs hat hf => ?_)
  refine lv_aload_n C.x C.b dd_Grammar_makeRule_22 rfl (lv_at hl 1 rfl) ?_
  refine lv_dup C.x C.b dd_Grammar_makeRule_23 rfl ?_
  refine np_get (v := .int (np_i ((np_st (np_st σ 4 (σ 1 4) x1) 5 (σ 1 4) ((np_st σ 4 (σ 1 4) x1) 1 5)) 1 4))) C i_Grammar hat.1 1 (nc_o1 _) rfl 4 (by decide) tw_59 rfl rfl dd_Grammar_makeRule_24 ?_
  refine lv_iconst (v := np_i 1) C.x C.b dd_Grammar_makeRule_27 rfl ?_
  refine np_iadd C dd_Grammar_makeRule_28 ?_
  refine np_put C i_Grammar t_Grammar tok_Grammar n_Grammar hat 1 (nc_o1 _) rfl 4 (by decide) tw_59 rfl rfl (by decide +kernel) (np_narI (((np_st (np_st σ 4 (σ 1 4) x1) 5 (σ 1 4) ((np_st σ 4 (σ 1 4) x1) 1 5)) 1 4) + 1)) (np_fitI (((np_st (np_st σ 4 (σ 1 4) x1) 5 (σ 1 4) ((np_st σ 4 (σ 1 4) x1) 1 5)) 1 4) + 1)) (Nat.le_of_ble_eq_true rfl) (nc_s1_4 _ _) dd_Grammar_makeRule_29 (fun H locs hat => ?_)
  refine lv_aload_n C.x C.b dd_Grammar_makeRule_32 rfl (lv_at hl 1 rfl) ?_
  refine lv_iconst (v := np_i 0) C.x C.b dd_Grammar_makeRule_33 rfl ?_
  refine np_put C i_Grammar t_Grammar tok_Grammar n_Grammar hat 1 (nc_o1 _) rfl 5 (by decide) tw_62 rfl rfl (by decide +kernel) (np_narI 0) (np_fitI 0) (Nat.le_of_ble_eq_true rfl) (nc_s1_5 _ _) dd_Grammar_makeRule_34 (fun H locs hat => ?_)
  refine lv_iload_n C.x C.b dd_Grammar_makeRule_37 rfl (lv_at hl 0 rfl) ?_
  exact hQ _ _ _ _ _ dd_Grammar_makeRule_38 hf hat
set_option maxHeartbeats 4000000 in
set_option maxRecDepth 100000 in
theorem c_Grammar_makeRule (l : Launch) {gA : Nat → Nat} {D : va_G} {q : Nat → Nat} {cI cL cB : ClassId} (x1 : Int) (σ : np_S) : np_Mi gA l D np_cl (np_ty cI cL cB) (nc_wd q cI cL cB) yy_Grammar_makeRule (.code yy_Grammar_makeRule prog_3_method_8_code 3 (some .int) :: np_al) { frames := 0, cells := 0, slots := 0, locals := 0 } [.ref (q 1), .int (np_i x1)] σ (f_Grammar_makeRule x1 σ) :=
  np_mki (by decide +kernel) (Nat.le_of_ble_eq_true rfl) (fun o p e R s m args below meth c Q A ls hf C hQ hat hl => w_f_Grammar_makeRule C hQ x1 σ _ _ _ hf hat (lv_sub hl [0, 1] rfl))
set_option maxHeartbeats 4000000 in
set_option maxRecDepth 100000 in
theorem w_f_Grammar_hasKey_3 (C : np_Cx gA p R s m args c D np_cl (np_ty cI cL cB) A np_al "NotationParse$Grammar" prog_3_method_9_code 4 { frames := 1, cells := 0, slots := 0, locals := 20 }) (hQ : ∀ (pc : Nat) (ls : Array Slot) (H : Heap) (locs : List Loc) (v : Int) {σ : np_S}, decode prog_3_method_9_code pc = .ok (.ireturn, 1) → np_ck (v = 0 ∨ v = 1) (some (v, σ)) = some out → np_At D np_cl A (nc_wd q cI cL cB) s σ H locs → W p l e R s m args below meth c H locs 0 0 Q (F0 m pc ls [.int (np_i v)]))   : ∀ (n : Nat), ∀ (x1 x3 : Int) (σ : np_S) (H : Heap) (locs : List Loc) (ls : Array Slot), f_Grammar_hasKey_3  n x1 x3 σ = some out → np_At D np_cl A (nc_wd q cI cL cB) s σ H locs → lv_has ls 4 [(0, .ref (q 1)), (1, .long (np_l x1)), (3, .int (np_i x3))] → W p l e R s m args below meth c H locs 0 0 Q (F0 m 3 ls []) := by
  intro n
  induction n with
  | zero => intro x1 x3 σ H locs ls hf; cases hf
  | succ n ih =>
    intro x1 x3 σ H locs ls hf hat hl
    have h3 := ih
    have hf : f_Grammar_hasKey_3_b  (fun x1 x3 σ => f_Grammar_hasKey_3  n x1 x3 σ) x1 x3 σ = some out := hf
    unfold f_Grammar_hasKey_3_b at hf
    refine lv_iload_n C.x C.b dd_Grammar_hasKey_3 rfl (lv_at hl 2 rfl) ?_
    refine lv_aload_n C.x C.b dd_Grammar_hasKey_4 rfl (lv_at hl 0 rfl) ?_
    refine np_callVi (As := []) (rest := [.int (np_i x3)]) C (c_Grammar_usedDots l _) np_allgood tw_355 tw_356 tw_357 tw_2 tw_358 (nA := 0) (by decide +kernel) rfl ⟨rfl, rfl, Nat.le_of_ble_eq_true rfl, Nat.le_of_ble_eq_true rfl⟩ (nc_o1 _) rfl hat rfl hl.1 (Nat.le_of_ble_eq_true rfl) dd_Grammar_hasKey_5 hf (fun o1 H locs hf hat => ?_)
    refine np_icmp_ge (tgt := 30) C dd_Grammar_hasKey_8 (by decide) hf (fun _ hf => ?_) (fun _ hf => ?_)
    · refine lv_iconst (v := np_i 0) C.x C.b dd_Grammar_hasKey_30 rfl ?_
      exact hQ _ _ _ _ _ dd_Grammar_hasKey_31 hf hat
    · refine lv_aload_n C.x C.b dd_Grammar_hasKey_11 rfl (lv_at hl 0 rfl) ?_
      refine np_get (v := .ref (q 3)) C i_Grammar hat.1 1 (nc_o1 _) rfl 1 (by decide) tw_53 rfl rfl dd_Grammar_hasKey_12 ?_
      refine lv_iload_n C.x C.b dd_Grammar_hasKey_15 rfl (lv_at hl 2 rfl) ?_
      refine np_laload C hat.1 3 (nc_a3 _) 1 rfl (by decide) dd_Grammar_hasKey_16 hf (fun hf => ?_)
      refine lv_lload_n C.x C.b dd_Grammar_hasKey_17 rfl (lv_at hl 1 rfl) ?_
      refine np_lcmp C dd_Grammar_hasKey_18 hf (fun hf => ?_)
      refine np_if_ne (tgt := 24) C dd_Grammar_hasKey_19 (by decide) hf (fun _ hf => ?_) (fun _ hf => ?_)
      · refine lv_iinc (v := np_i (x3 + 1)) (lv' := [(3, .int (np_i (x3 + 1))), (0, .ref (q 1)), (1, .long (np_l x1))]) C.x C.b dd_Grammar_hasKey_24 hl (k := 2) rfl (np_inc _ _) (by decide) rfl (fun ls hl => ?_)
        refine lv_goto (tgt := 3) C.x C.b dd_Grammar_hasKey_27 (by decide) ?_
        exact h3 _ _ _ _ _ _ hf hat (lv_sub hl [1, 2, 0] rfl)
      · refine lv_iconst (v := np_i 1) C.x C.b dd_Grammar_hasKey_22 rfl ?_
        exact hQ _ _ _ _ _ dd_Grammar_hasKey_23 hf hat
set_option maxHeartbeats 4000000 in
set_option maxRecDepth 100000 in
theorem w_f_Grammar_hasKey (C : np_Cx gA p R s m args c D np_cl (np_ty cI cL cB) A np_al "NotationParse$Grammar" prog_3_method_9_code 4 { frames := 1, cells := 0, slots := 0, locals := 20 }) (hQ : ∀ (pc : Nat) (ls : Array Slot) (H : Heap) (locs : List Loc) (v : Int) {σ : np_S}, decode prog_3_method_9_code pc = .ok (.ireturn, 1) → np_ck (v = 0 ∨ v = 1) (some (v, σ)) = some out → np_At D np_cl A (nc_wd q cI cL cB) s σ H locs → W p l e R s m args below meth c H locs 0 0 Q (F0 m pc ls [.int (np_i v)]))   : ∀ (x1 : Int) (σ : np_S) (H : Heap) (locs : List Loc) (ls : Array Slot), f_Grammar_hasKey  x1 σ = some out → np_At D np_cl A (nc_wd q cI cL cB) s σ H locs → lv_has ls 4 [(0, .ref (q 1)), (1, .long (np_l x1))] → W p l e R s m args below meth c H locs 0 0 Q (F0 m 0 ls []) := by
  intro x1 σ H locs ls hf hat hl
  unfold f_Grammar_hasKey at hf
  refine lv_bipush (v := np_i 14) C.x C.b dd_Grammar_hasKey_0 (by decide +kernel) ?_
  refine lv_istore_n (lv' := [(3, .int (np_i 14)), (0, .ref (q 1)), (1, .long (np_l x1))]) C.x C.b dd_Grammar_hasKey_2 rfl hl (by decide) rfl (fun ls hl => ?_)
  exact w_f_Grammar_hasKey_3 C hQ  6000 _ _ _ _ _ _ hf hat (lv_sub hl [1, 2, 0] rfl)
set_option maxHeartbeats 4000000 in
set_option maxRecDepth 100000 in
theorem c_Grammar_hasKey (l : Launch) {gA : Nat → Nat} {D : va_G} {q : Nat → Nat} {cI cL cB : ClassId} (x1 : Int) (σ : np_S) : np_Mi gA l D np_cl (np_ty cI cL cB) (nc_wd q cI cL cB) yy_Grammar_hasKey (.code yy_Grammar_hasKey prog_3_method_9_code 4 (some .boolean) :: np_al) { frames := 1, cells := 0, slots := 0, locals := 20 } [.ref (q 1), .long (np_l x1)] σ (f_Grammar_hasKey x1 σ) :=
  np_mkz (by decide +kernel) (Nat.le_of_ble_eq_true rfl) (fun o p e R s m args below meth c Q A ls hf C hQ hat hl => w_f_Grammar_hasKey C hQ x1 σ _ _ _ hf hat (lv_sub hl [0, 1] rfl))
set_option maxHeartbeats 4000000 in
set_option maxRecDepth 100000 in
theorem w_f_Text_takeRow_33 (C : np_Cx gA p R s m args c D np_cl (np_ty cI cL cB) A np_al "NotationParse$Text" prog_6_method_6_code 9 { frames := 2, cells := 0, slots := 0, locals := 43 }) (hQ : ∀ (pc : Nat) (ls : Array Slot) (H : Heap) (locs : List Loc) {σ : np_S}, decode prog_6_method_6_code pc = .ok (.return_, 1) → some ((0 : Int), σ) = some out → np_At D np_cl A (nc_wd q cI cL cB) s σ H locs → W p l e R s m args below meth c H locs 0 0 Q (F0 m pc ls []))   : ∀ (x1 : Int) (σ : np_S) (H : Heap) (locs : List Loc) (ls : Array Slot), f_Text_takeRow_33  x1 σ = some out → np_At D np_cl A (nc_wd q cI cL cB) s σ H locs → lv_has ls 9 [(0, .ref (q 6)), (1, .int (np_i x1))] → W p l e R s m args below meth c H locs 0 0 Q (F0 m 33 ls []) := by
  intro x1 σ H locs ls hf hat hl
  unfold f_Text_takeRow_33 at hf
  refine lv_aload_n C.x C.b dd_Text_takeRow_33 rfl (lv_at hl 0 rfl) ?_
  refine lv_iload_n C.x C.b dd_Text_takeRow_34 rfl (lv_at hl 1 rfl) ?_
  refine np_put C i_Text t_Text tok_Text n_Text hat 6 (nc_o6 _) rfl 6 (by decide) tw_97 rfl rfl (by decide +kernel) (np_narI x1) (np_fitI x1) (Nat.le_of_ble_eq_true rfl) (nc_s6_6 _ _) dd_Text_takeRow_35 (fun H locs hat => ?_)
  exact hQ _ _ _ _ dd_Text_takeRow_38 hf hat
set_option maxHeartbeats 4000000 in
set_option maxRecDepth 100000 in
theorem w_f_Text_takeRow_134 (C : np_Cx gA p R s m args c D np_cl (np_ty cI cL cB) A np_al "NotationParse$Text" prog_6_method_6_code 9 { frames := 2, cells := 0, slots := 0, locals := 43 }) (hQ : ∀ (pc : Nat) (ls : Array Slot) (H : Heap) (locs : List Loc) {σ : np_S}, decode prog_6_method_6_code pc = .ok (.return_, 1) → some ((0 : Int), σ) = some out → np_At D np_cl A (nc_wd q cI cL cB) s σ H locs → W p l e R s m args below meth c H locs 0 0 Q (F0 m pc ls []))   : ∀ (x1 t1 t2 : Int) (σ : np_S) (H : Heap) (locs : List Loc) (ls : Array Slot), f_Text_takeRow_134  x1 t1 t2 σ = some out → np_At D np_cl A (nc_wd q cI cL cB) s σ H locs → lv_has ls 9 [(0, .ref (q 6)), (1, .int (np_i x1))] → W p l e R s m args below meth c H locs 0 0 Q (F0 m 134 ls [.long (np_l t2), .int (np_i t1), .ref (q 9)]) := by
  intro x1 t1 t2 σ H locs ls hf hat hl
  unfold f_Text_takeRow_134 at hf
  refine np_lastore C hat 9 (nc_a9 _) 1 rfl (by decide) (nc_s9 _ _ _) dd_Text_takeRow_134 hf (fun H locs hat hf => ?_)
  refine lv_aload_n C.x C.b dd_Text_takeRow_135 rfl (lv_at hl 0 rfl) ?_
  refine np_get (v := .ref (q 10)) C i_Text hat.1 6 (nc_o6 _) rfl 4 (by decide) tw_92 rfl rfl dd_Text_takeRow_136 ?_
  refine lv_aload_n C.x C.b dd_Text_takeRow_139 rfl (lv_at hl 0 rfl) ?_
  refine np_get (v := .int (np_i ((np_st σ 9 t1 t2) 6 5))) C i_Text hat.1 6 (nc_o6 _) rfl 5 (by decide) tw_94 rfl rfl dd_Text_takeRow_140 ?_
  refine lv_iload_n C.x C.b dd_Text_takeRow_143 rfl (lv_at hl 1 rfl) ?_
  refine np_iastore C hat 10 (nc_a10 _) 0 rfl (by decide) (nc_s10 _ _ _) dd_Text_takeRow_144 hf (fun H locs hat hf => ?_)
  refine lv_aload_n C.x C.b dd_Text_takeRow_145 rfl (lv_at hl 0 rfl) ?_
  refine lv_dup C.x C.b dd_Text_takeRow_146 rfl ?_
  refine np_get (v := .int (np_i ((np_st (np_st σ 9 t1 t2) 10 ((np_st σ 9 t1 t2) 6 5) x1) 6 5))) C i_Text hat.1 6 (nc_o6 _) rfl 5 (by decide) tw_94 rfl rfl dd_Text_takeRow_147 ?_
  refine lv_iconst (v := np_i 1) C.x C.b dd_Text_takeRow_150 rfl ?_
  refine np_iadd C dd_Text_takeRow_151 ?_
  refine np_put C i_Text t_Text tok_Text n_Text hat 6 (nc_o6 _) rfl 5 (by decide) tw_94 rfl rfl (by decide +kernel) (np_narI (((np_st (np_st σ 9 t1 t2) 10 ((np_st σ 9 t1 t2) 6 5) x1) 6 5) + 1)) (np_fitI (((np_st (np_st σ 9 t1 t2) 10 ((np_st σ 9 t1 t2) 6 5) x1) 6 5) + 1)) (Nat.le_of_ble_eq_true rfl) (nc_s6_5 _ _) dd_Text_takeRow_152 (fun H locs hat => ?_)
  exact hQ _ _ _ _ dd_Text_takeRow_155 hf hat
set_option maxHeartbeats 4000000 in
set_option maxRecDepth 100000 in
theorem w_f_Text_takeRow_132 (C : np_Cx gA p R s m args c D np_cl (np_ty cI cL cB) A np_al "NotationParse$Text" prog_6_method_6_code 9 { frames := 2, cells := 0, slots := 0, locals := 43 }) (hQ : ∀ (pc : Nat) (ls : Array Slot) (H : Heap) (locs : List Loc) {σ : np_S}, decode prog_6_method_6_code pc = .ok (.return_, 1) → some ((0 : Int), σ) = some out → np_At D np_cl A (nc_wd q cI cL cB) s σ H locs → W p l e R s m args below meth c H locs 0 0 Q (F0 m pc ls []))   : ∀ (x1 x6 t1 : Int) (σ : np_S) (H : Heap) (locs : List Loc) (ls : Array Slot), f_Text_takeRow_132  x1 x6 t1 σ = some out → np_At D np_cl A (nc_wd q cI cL cB) s σ H locs → lv_has ls 9 [(0, .ref (q 6)), (1, .int (np_i x1)), (6, .long (np_l x6))] → W p l e R s m args below meth c H locs 0 0 Q (F0 m 132 ls [.int (np_i t1), .ref (q 9)]) := by
  intro x1 x6 t1 σ H locs ls hf hat hl
  unfold f_Text_takeRow_132 at hf
  refine lv_lload C.x C.b dd_Text_takeRow_132 (lv_at hl 2 rfl) ?_
  exact w_f_Text_takeRow_134 C hQ  _ _ _ _ _ _ _ hf hat (lv_sub hl [0, 1] rfl)
set_option maxHeartbeats 4000000 in
set_option maxRecDepth 100000 in
theorem w_f_Text_takeRow_92 (C : np_Cx gA p R s m args c D np_cl (np_ty cI cL cB) A np_al "NotationParse$Text" prog_6_method_6_code 9 { frames := 2, cells := 0, slots := 0, locals := 43 }) (hQ : ∀ (pc : Nat) (ls : Array Slot) (H : Heap) (locs : List Loc) {σ : np_S}, decode prog_6_method_6_code pc = .ok (.return_, 1) → some ((0 : Int), σ) = some out → np_At D np_cl A (nc_wd q cI cL cB) s σ H locs → W p l e R s m args below meth c H locs 0 0 Q (F0 m pc ls []))   : ∀ (x1 x6 t0 : Int) (σ : np_S) (H : Heap) (locs : List Loc) (ls : Array Slot), f_Text_takeRow_92  x1 x6 t0 σ = some out → np_At D np_cl A (nc_wd q cI cL cB) s σ H locs → lv_has ls 9 [(0, .ref (q 6)), (1, .int (np_i x1)), (4, .ref (q 1)), (6, .long (np_l x6))] → W p l e R s m args below meth c H locs 0 0 Q (F0 m 92 ls [.int (np_i t0)]) := by
  intro x1 x6 t0 σ H locs ls hf hat hl
  unfold f_Text_takeRow_92 at hf
  refine lv_istore (lv' := [(8, .int (np_i t0)), (0, .ref (q 6)), (1, .int (np_i x1)), (4, .ref (q 1)), (6, .long (np_l x6))]) C.x C.b dd_Text_takeRow_92 hl (by decide) rfl (fun ls hl => ?_)
  refine lv_aload_n C.x C.b dd_Text_takeRow_94 rfl (lv_at hl 1 rfl) ?_
  refine np_get (v := .ref (q 8)) C i_Text hat.1 6 (nc_o6 _) rfl 2 (by decide) tw_88 rfl rfl dd_Text_takeRow_95 ?_
  refine lv_aload_n C.x C.b dd_Text_takeRow_98 rfl (lv_at hl 1 rfl) ?_
  refine np_get (v := .int (np_i (σ 6 5))) C i_Text hat.1 6 (nc_o6 _) rfl 5 (by decide) tw_94 rfl rfl dd_Text_takeRow_99 ?_
  refine lv_lload C.x C.b dd_Text_takeRow_102 (lv_at hl 4 rfl) ?_
  refine np_lastore C hat 8 (nc_a8 _) 1 rfl (by decide) (nc_s8 _ _ _) dd_Text_takeRow_104 hf (fun H locs hat hf => ?_)
  refine lv_aload_n C.x C.b dd_Text_takeRow_105 rfl (lv_at hl 1 rfl) ?_
  refine np_get (v := .ref (q 9)) C i_Text hat.1 6 (nc_o6 _) rfl 3 (by decide) tw_90 rfl rfl dd_Text_takeRow_106 ?_
  refine lv_aload_n C.x C.b dd_Text_takeRow_109 rfl (lv_at hl 1 rfl) ?_
  refine np_get (v := .int (np_i ((np_st σ 8 (σ 6 5) x6) 6 5))) C i_Text hat.1 6 (nc_o6 _) rfl 5 (by decide) tw_94 rfl rfl dd_Text_takeRow_110 ?_
  refine lv_iload C.x C.b dd_Text_takeRow_113 (lv_at hl 0 rfl) ?_
  refine np_if_eq (tgt := 132) C dd_Text_takeRow_115 (by decide) hf (fun _ hf => ?_) (fun _ hf => ?_)
  · exact w_f_Text_takeRow_132 C hQ  _ _ _ _ _ _ _ hf hat (lv_sub hl [1, 2, 4] rfl)
  · refine lv_aload C.x C.b dd_Text_takeRow_118 (lv_at hl 3 rfl) ?_
    refine lv_lload C.x C.b dd_Text_takeRow_120 (lv_at hl 4 rfl) ?_
    refine np_callVi (As := [.long (np_l x6)]) (rest := [.int (np_i ((np_st σ 8 (σ 6 5) x6) 6 5)), .ref (q 9)]) C (c_Grammar_hasKey l x6 _) np_allgood tw_740 tw_352 tw_353 tw_2 tw_354 (nA := 1) (by decide +kernel) rfl ⟨rfl, rfl, Nat.le_of_ble_eq_true rfl, Nat.le_of_ble_eq_true rfl⟩ (nc_o1 _) rfl hat rfl hl.1 (Nat.le_of_ble_eq_true rfl) dd_Text_takeRow_122 hf (fun o1 H locs hf hat => ?_)
    refine np_if_ne (tgt := 132) C dd_Text_takeRow_125 (by decide) hf (fun _ hf => ?_) (fun _ hf => ?_)
    · exact w_f_Text_takeRow_132 C hQ  _ _ _ _ _ _ _ hf hat (lv_sub hl [1, 2, 4] rfl)
    · refine lv_lconst (v := np_l 0) C.x C.b dd_Text_takeRow_128 (by decide +kernel) ?_
      refine lv_goto (tgt := 134) C.x C.b dd_Text_takeRow_129 (by decide) ?_
      exact w_f_Text_takeRow_134 C hQ  _ _ _ _ _ _ _ hf hat (lv_sub hl [1, 2] rfl)
set_option maxHeartbeats 4000000 in
set_option maxRecDepth 100000 in
theorem w_f_Text_takeRow_87 (C : np_Cx gA p R s m args c D np_cl (np_ty cI cL cB) A np_al "NotationParse$Text" prog_6_method_6_code 9 { frames := 2, cells := 0, slots := 0, locals := 43 }) (hQ : ∀ (pc : Nat) (ls : Array Slot) (H : Heap) (locs : List Loc) {σ : np_S}, decode prog_6_method_6_code pc = .ok (.return_, 1) → some ((0 : Int), σ) = some out → np_At D np_cl A (nc_wd q cI cL cB) s σ H locs → W p l e R s m args below meth c H locs 0 0 Q (F0 m pc ls []))   : ∀ (x1 x6 : Int) (σ : np_S) (H : Heap) (locs : List Loc) (ls : Array Slot), f_Text_takeRow_87  x1 x6 σ = some out → np_At D np_cl A (nc_wd q cI cL cB) s σ H locs → lv_has ls 9 [(0, .ref (q 6)), (1, .int (np_i x1)), (4, .ref (q 1)), (6, .long (np_l x6))] → W p l e R s m args below meth c H locs 0 0 Q (F0 m 87 ls []) := by
  intro x1 x6 σ H locs ls hf hat hl
  unfold f_Text_takeRow_87 at hf
  refine lv_iconst (v := np_i 1) C.x C.b dd_Text_takeRow_87 rfl ?_
  refine lv_goto (tgt := 92) C.x C.b dd_Text_takeRow_88 (by decide) ?_
  exact w_f_Text_takeRow_92 C hQ  _ _ _ _ _ _ _ hf hat (lv_sub hl [0, 1, 2, 3] rfl)
set_option maxHeartbeats 4000000 in
set_option maxRecDepth 100000 in
theorem w_f_Text_takeRow_45 (C : np_Cx gA p R s m args c D np_cl (np_ty cI cL cB) A np_al "NotationParse$Text" prog_6_method_6_code 9 { frames := 2, cells := 0, slots := 0, locals := 43 }) (hQ : ∀ (pc : Nat) (ls : Array Slot) (H : Heap) (locs : List Loc) {σ : np_S}, decode prog_6_method_6_code pc = .ok (.return_, 1) → some ((0 : Int), σ) = some out → np_At D np_cl A (nc_wd q cI cL cB) s σ H locs → W p l e R s m args below meth c H locs 0 0 Q (F0 m pc ls []))   : ∀ (n : Nat), ∀ (x1 x2 x3 x6 x8 : Int) (σ : np_S) (H : Heap) (locs : List Loc) (ls : Array Slot), f_Text_takeRow_45  n x1 x2 x3 x6 x8 σ = some out → np_At D np_cl A (nc_wd q cI cL cB) s σ H locs → lv_has ls 9 [(0, .ref (q 6)), (1, .int (np_i x1)), (2, .int (np_i x2)), (3, .int (np_i x3)), (4, .ref (q 1)), (6, .long (np_l x6)), (8, .int (np_i x8))] → W p l e R s m args below meth c H locs 0 0 Q (F0 m 45 ls []) := by
  intro n
  induction n with
  | zero => intro x1 x2 x3 x6 x8 σ H locs ls hf; cases hf
  | succ n ih =>
    intro x1 x2 x3 x6 x8 σ H locs ls hf hat hl
    have h45 := ih
    have hf : f_Text_takeRow_45_b  (fun x1 x2 x3 x6 x8 σ => f_Text_takeRow_45  n x1 x2 x3 x6 x8 σ) x1 x2 x3 x6 x8 σ = some out := hf
    unfold f_Text_takeRow_45_b at hf
    refine lv_iload C.x C.b dd_Text_takeRow_45 (lv_at hl 6 rfl) ?_
    refine lv_iload_n C.x C.b dd_Text_takeRow_47 rfl (lv_at hl 2 rfl) ?_
    refine np_icmp_ge (tgt := 77) C dd_Text_takeRow_48 (by decide) hf (fun _ hf => ?_) (fun _ hf => ?_)
    · refine lv_iload_n C.x C.b dd_Text_takeRow_77 rfl (lv_at hl 3 rfl) ?_
      refine lv_iconst (v := np_i 2) C.x C.b dd_Text_takeRow_78 rfl ?_
      refine np_icmp_eq (tgt := 87) C dd_Text_takeRow_79 (by decide) hf (fun _ hf => ?_) (fun _ hf => ?_)
      · exact w_f_Text_takeRow_87 C hQ  _ _ _ _ _ _ hf hat (lv_sub hl [0, 1, 4, 5] rfl)
      · refine lv_iload_n C.x C.b dd_Text_takeRow_82 rfl (lv_at hl 3 rfl) ?_
        refine lv_iconst (v := np_i 3) C.x C.b dd_Text_takeRow_83 rfl ?_
        refine np_icmp_ne (tgt := 91) C dd_Text_takeRow_84 (by decide) hf (fun _ hf => ?_) (fun _ hf => ?_)
        · refine lv_iconst (v := np_i 0) C.x C.b dd_Text_takeRow_91 rfl ?_
          exact w_f_Text_takeRow_92 C hQ  _ _ _ _ _ _ _ hf hat (lv_sub hl [0, 1, 4, 5] rfl)
        · exact w_f_Text_takeRow_87 C hQ  _ _ _ _ _ _ hf hat (lv_sub hl [0, 1, 4, 5] rfl)
    · refine lv_lload C.x C.b dd_Text_takeRow_51 (lv_at hl 5 rfl) ?_
      refine lv_bipush (v := np_i 8) C.x C.b dd_Text_takeRow_53 (by decide +kernel) ?_
      refine np_lshl C dd_Text_takeRow_55 ?_
      refine lv_aload_n C.x C.b dd_Text_takeRow_56 rfl (lv_at hl 0 rfl) ?_
      refine np_get (v := .ref (q 7)) C i_Text hat.1 6 (nc_o6 _) rfl 0 (by decide) tw_85 rfl rfl dd_Text_takeRow_57 ?_
      refine lv_iload C.x C.b dd_Text_takeRow_60 (lv_at hl 6 rfl) ?_
      refine np_baload C hat.1 7 (nc_a7 _) 2 rfl (by decide) dd_Text_takeRow_62 hf (fun hf => ?_)
      refine lv_sipush (v := np_i 255) C.x C.b dd_Text_takeRow_63 (by decide +kernel) ?_
      refine np_iand C dd_Text_takeRow_66 ?_
      refine np_i2l C dd_Text_takeRow_67 hf (fun hf => ?_)
      refine np_lor C dd_Text_takeRow_68 ?_
      refine lv_lstore (lv' := [(6, .long (np_l (np_orl (np_shll x6 8) (np_andi (σ 7 x8) 255)))), (0, .ref (q 6)), (1, .int (np_i x1)), (2, .int (np_i x2)), (3, .int (np_i x3)), (4, .ref (q 1)), (8, .int (np_i x8))]) C.x C.b dd_Text_takeRow_69 hl (by decide) rfl (fun ls hl => ?_)
      refine lv_iinc (v := np_i (x8 + 1)) (lv' := [(8, .int (np_i (x8 + 1))), (6, .long (np_l (np_orl (np_shll x6 8) (np_andi (σ 7 x8) 255)))), (0, .ref (q 6)), (1, .int (np_i x1)), (2, .int (np_i x2)), (3, .int (np_i x3)), (4, .ref (q 1))]) C.x C.b dd_Text_takeRow_71 hl (k := 6) rfl (np_inc _ _) (by decide) rfl (fun ls hl => ?_)
      refine lv_goto (tgt := 45) C.x C.b dd_Text_takeRow_74 (by decide) ?_
      exact h45 _ _ _ _ _ _ _ _ _ hf hat (lv_sub hl [2, 3, 4, 5, 6, 1, 0] rfl)
set_option maxHeartbeats 4000000 in
set_option maxRecDepth 100000 in
theorem w_f_Text_takeRow_13 (C : np_Cx gA p R s m args c D np_cl (np_ty cI cL cB) A np_al "NotationParse$Text" prog_6_method_6_code 9 { frames := 2, cells := 0, slots := 0, locals := 43 }) (hQ : ∀ (pc : Nat) (ls : Array Slot) (H : Heap) (locs : List Loc) {σ : np_S}, decode prog_6_method_6_code pc = .ok (.return_, 1) → some ((0 : Int), σ) = some out → np_At D np_cl A (nc_wd q cI cL cB) s σ H locs → W p l e R s m args below meth c H locs 0 0 Q (F0 m pc ls []))   : ∀ (x1 x2 x3 t0 : Int) (σ : np_S) (H : Heap) (locs : List Loc) (ls : Array Slot), f_Text_takeRow_13  x1 x2 x3 t0 σ = some out → np_At D np_cl A (nc_wd q cI cL cB) s σ H locs → lv_has ls 9 [(0, .ref (q 6)), (1, .int (np_i x1)), (2, .int (np_i x2)), (3, .int (np_i x3)), (4, .ref (q 1))] → W p l e R s m args below meth c H locs 0 0 Q (F0 m 13 ls [.int (np_i t0)]) := by
  intro x1 x2 x3 t0 σ H locs ls hf hat hl
  unfold f_Text_takeRow_13 at hf
  refine lv_istore (lv' := [(5, .int (np_i t0)), (0, .ref (q 6)), (1, .int (np_i x1)), (2, .int (np_i x2)), (3, .int (np_i x3)), (4, .ref (q 1))]) C.x C.b dd_Text_takeRow_13 hl (by decide) rfl (fun ls hl => ?_)
  refine lv_iload_n C.x C.b dd_Text_takeRow_15 rfl (lv_at hl 4 rfl) ?_
  refine np_if_eq (tgt := 33) C dd_Text_takeRow_16 (by decide) hf (fun _ hf => ?_) (fun _ hf => ?_)
  · exact w_f_Text_takeRow_33 C hQ  _ _ _ _ _ hf hat (lv_sub hl [1, 2] rfl)
  · refine lv_iload C.x C.b dd_Text_takeRow_19 (lv_at hl 0 rfl) ?_
    refine np_if_ne (tgt := 33) C dd_Text_takeRow_21 (by decide) hf (fun _ hf => ?_) (fun _ hf => ?_)
    · exact w_f_Text_takeRow_33 C hQ  _ _ _ _ _ hf hat (lv_sub hl [1, 2] rfl)
    · refine lv_aload_n C.x C.b dd_Text_takeRow_24 rfl (lv_at hl 1 rfl) ?_
      refine np_get (v := .int (np_i (σ 6 5))) C i_Text hat.1 6 (nc_o6 _) rfl 5 (by decide) tw_94 rfl rfl dd_Text_takeRow_25 ?_
      refine lv_bipush (v := np_i 30) C.x C.b dd_Text_takeRow_28 (by decide +kernel) ?_
      refine np_icmp_lt (tgt := 39) C dd_Text_takeRow_30 (by decide) hf (fun _ hf => ?_) (fun _ hf => ?_)
      · refine lv_lconst (v := np_l 0) C.x C.b dd_Text_takeRow_39 (by decide +kernel) ?_
        refine lv_lstore (lv' := [(6, .long (np_l 0)), (5, .int (np_i t0)), (0, .ref (q 6)), (1, .int (np_i x1)), (2, .int (np_i x2)), (3, .int (np_i x3)), (4, .ref (q 1))]) C.x C.b dd_Text_takeRow_40 hl (by decide) rfl (fun ls hl => ?_)
        refine lv_iload_n C.x C.b dd_Text_takeRow_42 rfl (lv_at hl 3 rfl) ?_
        refine lv_istore (lv' := [(8, .int (np_i x1)), (6, .long (np_l 0)), (5, .int (np_i t0)), (0, .ref (q 6)), (1, .int (np_i x1)), (2, .int (np_i x2)), (3, .int (np_i x3)), (4, .ref (q 1))]) C.x C.b dd_Text_takeRow_43 hl (by decide) rfl (fun ls hl => ?_)
        exact w_f_Text_takeRow_45 C hQ  6000 _ _ _ _ _ _ _ _ _ hf hat (lv_sub hl [3, 4, 5, 6, 7, 1, 0] rfl)
      · exact w_f_Text_takeRow_33 C hQ  _ _ _ _ _ hf hat (lv_sub hl [1, 2] rfl)
set_option maxHeartbeats 4000000 in
set_option maxRecDepth 100000 in
theorem w_f_Text_takeRow (C : np_Cx gA p R s m args c D np_cl (np_ty cI cL cB) A np_al "NotationParse$Text" prog_6_method_6_code 9 { frames := 2, cells := 0, slots := 0, locals := 43 }) (hQ : ∀ (pc : Nat) (ls : Array Slot) (H : Heap) (locs : List Loc) {σ : np_S}, decode prog_6_method_6_code pc = .ok (.return_, 1) → some ((0 : Int), σ) = some out → np_At D np_cl A (nc_wd q cI cL cB) s σ H locs → W p l e R s m args below meth c H locs 0 0 Q (F0 m pc ls []))   : ∀ (x1 x2 x3 : Int) (σ : np_S) (H : Heap) (locs : List Loc) (ls : Array Slot), f_Text_takeRow  x1 x2 x3 σ = some out → np_At D np_cl A (nc_wd q cI cL cB) s σ H locs → lv_has ls 9 [(0, .ref (q 6)), (1, .int (np_i x1)), (2, .int (np_i x2)), (3, .int (np_i x3)), (4, .ref (q 1))] → W p l e R s m args below meth c H locs 0 0 Q (F0 m 0 ls []) := by
  intro x1 x2 x3 σ H locs ls hf hat hl
  unfold f_Text_takeRow at hf
  refine lv_iload_n C.x C.b dd_Text_takeRow_0 rfl (lv_at hl 2 rfl) ?_
  refine lv_iload_n C.x C.b dd_Text_takeRow_1 rfl (lv_at hl 1 rfl) ?_
  refine np_isub C dd_Text_takeRow_2 ?_
  refine lv_bipush (v := np_i 8) C.x C.b dd_Text_takeRow_3 (by decide +kernel) ?_
  refine np_icmp_le (tgt := 12) C dd_Text_takeRow_5 (by decide) hf (fun _ hf => ?_) (fun _ hf => ?_)
  · refine lv_iconst (v := np_i 0) C.x C.b dd_Text_takeRow_12 rfl ?_
    exact w_f_Text_takeRow_13 C hQ  _ _ _ _ _ _ _ _ hf hat (lv_sub hl [0, 1, 2, 3, 4] rfl)
  · refine lv_iconst (v := np_i 1) C.x C.b dd_Text_takeRow_8 rfl ?_
    refine lv_goto (tgt := 13) C.x C.b dd_Text_takeRow_9 (by decide) ?_
    exact w_f_Text_takeRow_13 C hQ  _ _ _ _ _ _ _ _ hf hat (lv_sub hl [0, 1, 2, 3, 4] rfl)
set_option maxHeartbeats 4000000 in
set_option maxRecDepth 100000 in
theorem c_Text_takeRow (l : Launch) {gA : Nat → Nat} {D : va_G} {q : Nat → Nat} {cI cL cB : ClassId} (x1 x2 x3 : Int) (σ : np_S) : np_Mv gA l D np_cl (np_ty cI cL cB) (nc_wd q cI cL cB) yy_Text_takeRow (.code yy_Text_takeRow prog_6_method_6_code 9 none :: np_al) { frames := 2, cells := 0, slots := 0, locals := 43 } [.ref (q 6), .int (np_i x1), .int (np_i x2), .int (np_i x3), .ref (q 1)] σ (f_Text_takeRow x1 x2 x3 σ) :=
  np_mkv (by decide +kernel) (Nat.le_of_ble_eq_true rfl) (fun o p e R s m args below meth c Q A ls hf C hQ hat hl => w_f_Text_takeRow C hQ x1 x2 x3 σ _ _ _ hf hat (lv_sub hl [0, 1, 2, 3, 4] rfl))
set_option maxHeartbeats 4000000 in
set_option maxRecDepth 100000 in
theorem w_f_Chart_cell (C : np_Cx gA p R s m args c D np_cl (np_ty cI cL cB) A np_al "NotationParse$Chart" prog_2_method_20_code 4 { frames := 0, cells := 0, slots := 0, locals := 0 }) (hQ : ∀ (pc : Nat) (ls : Array Slot) (H : Heap) (locs : List Loc) (v : Int) {σ : np_S}, decode prog_2_method_20_code pc = .ok (.ireturn, 1) → some (v, σ) = some out → np_At D np_cl A (nc_wd q cI cL cB) s σ H locs → W p l e R s m args below meth c H locs 0 0 Q (F0 m pc ls [.int (np_i v)]))   : ∀ (x1 x2 x3 : Int) (σ : np_S) (H : Heap) (locs : List Loc) (ls : Array Slot), f_Chart_cell  x1 x2 x3 σ = some out → np_At D np_cl A (nc_wd q cI cL cB) s σ H locs → lv_has ls 4 [(1, .int (np_i x1)), (2, .int (np_i x2)), (3, .int (np_i x3))] → W p l e R s m args below meth c H locs 0 0 Q (F0 m 0 ls []) := by
  intro x1 x2 x3 σ H locs ls hf hat hl
  unfold f_Chart_cell at hf
  refine lv_iload_n C.x C.b dd_Chart_cell_0 rfl (lv_at hl 1 rfl) ?_
  refine lv_iload_n C.x C.b dd_Chart_cell_1 rfl (lv_at hl 1 rfl) ?_
  refine lv_iconst (v := np_i 1) C.x C.b dd_Chart_cell_2 rfl ?_
  refine np_isub C dd_Chart_cell_3 ?_
  refine np_imul C dd_Chart_cell_4 ?_
  refine lv_iconst (v := np_i 2) C.x C.b dd_Chart_cell_5 rfl ?_
  refine np_idiv C dd_Chart_cell_6 hf (fun hf => ?_)
  refine lv_iload_n C.x C.b dd_Chart_cell_7 rfl (lv_at hl 0 rfl) ?_
  refine np_iadd C dd_Chart_cell_8 ?_
  refine lv_bipush (v := np_i 11) C.x C.b dd_Chart_cell_9 (by decide +kernel) ?_
  refine np_imul C dd_Chart_cell_11 ?_
  refine lv_iload_n C.x C.b dd_Chart_cell_12 rfl (lv_at hl 2 rfl) ?_
  refine np_iadd C dd_Chart_cell_13 ?_
  exact hQ _ _ _ _ _ dd_Chart_cell_14 hf hat
set_option maxHeartbeats 4000000 in
set_option maxRecDepth 100000 in
theorem c_Chart_cell (l : Launch) {gA : Nat → Nat} {D : va_G} {q : Nat → Nat} {cI cL cB : ClassId} (x1 x2 x3 : Int) (σ : np_S) : np_Mi gA l D np_cl (np_ty cI cL cB) (nc_wd q cI cL cB) yy_Chart_cell (.code yy_Chart_cell prog_2_method_20_code 4 (some .int) :: np_al) { frames := 0, cells := 0, slots := 0, locals := 0 } [.ref (q 11), .int (np_i x1), .int (np_i x2), .int (np_i x3)] σ (f_Chart_cell x1 x2 x3 σ) :=
  np_mki (by decide +kernel) (Nat.le_of_ble_eq_true rfl) (fun o p e R s m args below meth c Q A ls hf C hQ hat hl => w_f_Chart_cell C hQ x1 x2 x3 σ _ _ _ hf hat (lv_sub hl [1, 2, 3] rfl))
set_option maxHeartbeats 4000000 in
set_option maxRecDepth 100000 in
theorem w_f_Chart_addTrees (C : np_Cx gA p R s m args c D np_cl (np_ty cI cL cB) A np_al "NotationParse$Chart" prog_2_method_18_code 3 { frames := 1, cells := 0, slots := 0, locals := 21 }) (hQ : ∀ (pc : Nat) (ls : Array Slot) (H : Heap) (locs : List Loc) {σ : np_S}, decode prog_2_method_18_code pc = .ok (.return_, 1) → some ((0 : Int), σ) = some out → np_At D np_cl A (nc_wd q cI cL cB) s σ H locs → W p l e R s m args below meth c H locs 0 0 Q (F0 m pc ls []))   : ∀ (x1 x2 : Int) (σ : np_S) (H : Heap) (locs : List Loc) (ls : Array Slot), f_Chart_addTrees  x1 x2 σ = some out → np_At D np_cl A (nc_wd q cI cL cB) s σ H locs → lv_has ls 3 [(0, .ref (q 11)), (1, .int (np_i x1)), (2, .int (np_i x2))] → W p l e R s m args below meth c H locs 0 0 Q (F0 m 0 ls []) := by
  intro x1 x2 σ H locs ls hf hat hl
  unfold f_Chart_addTrees at hf
  refine lv_aload_n C.x C.b dd_Chart_addTrees_0 rfl (lv_at hl 0 rfl) ?_
  refine np_get (v := .ref (q 14)) C i_Chart hat.1 11 (nc_o11 _) rfl 3 (by decide) tw_124 rfl rfl dd_Chart_addTrees_1 ?_
  refine lv_iload_n C.x C.b dd_Chart_addTrees_4 rfl (lv_at hl 1 rfl) ?_
  refine lv_aload_n C.x C.b dd_Chart_addTrees_5 rfl (lv_at hl 0 rfl) ?_
  refine np_get (v := .ref (q 14)) C i_Chart hat.1 11 (nc_o11 _) rfl 3 (by decide) tw_124 rfl rfl dd_Chart_addTrees_6 ?_
  refine lv_iload_n C.x C.b dd_Chart_addTrees_9 rfl (lv_at hl 1 rfl) ?_
  refine np_iaload C hat.1 14 (nc_a14 _) 0 rfl (by decide) dd_Chart_addTrees_10 hf (fun hf => ?_)
  refine lv_iload_n C.x C.b dd_Chart_addTrees_11 rfl (lv_at hl 2 rfl) ?_
  refine np_iadd C dd_Chart_addTrees_12 ?_
  refine np_ldc (v := 1000000) C tw_832 dd_Chart_addTrees_13 ?_
  refine np_mmin C tw_833 tw_293 tw_17 tw_294 (Nat.le_of_ble_eq_true rfl) (Nat.le_of_ble_eq_true rfl) hl.1 dd_Chart_addTrees_15 hf (fun hf => ?_)
  refine np_iastore C hat 14 (nc_a14 _) 0 rfl (by decide) (nc_s14 _ _ _) dd_Chart_addTrees_18 hf (fun H locs hat hf => ?_)
  exact hQ _ _ _ _ dd_Chart_addTrees_19 hf hat
set_option maxHeartbeats 4000000 in
set_option maxRecDepth 100000 in
theorem c_Chart_addTrees (l : Launch) {gA : Nat → Nat} {D : va_G} {q : Nat → Nat} {cI cL cB : ClassId} (x1 x2 : Int) (σ : np_S) : np_Mv gA l D np_cl (np_ty cI cL cB) (nc_wd q cI cL cB) yy_Chart_addTrees (.code yy_Chart_addTrees prog_2_method_18_code 3 none :: np_al) { frames := 1, cells := 0, slots := 0, locals := 21 } [.ref (q 11), .int (np_i x1), .int (np_i x2)] σ (f_Chart_addTrees x1 x2 σ) :=
  np_mkv (by decide +kernel) (Nat.le_of_ble_eq_true rfl) (fun o p e R s m args below meth c Q A ls hf C hQ hat hl => w_f_Chart_addTrees C hQ x1 x2 σ _ _ _ hf hat (lv_sub hl [0, 1, 2] rfl))
set_option maxHeartbeats 4000000 in
set_option maxRecDepth 100000 in
theorem w_f_Chart_sumTerms_109 (C : np_Cx gA p R s m args c D np_cl (np_ty cI cL cB) A np_al "NotationParse$Chart" prog_2_method_17_code 6 { frames := 2, cells := 0, slots := 0, locals := 43 }) (hQ : ∀ (pc : Nat) (ls : Array Slot) (H : Heap) (locs : List Loc) {σ : np_S}, decode prog_2_method_17_code pc = .ok (.return_, 1) → some ((0 : Int), σ) = some out → np_At D np_cl A (nc_wd q cI cL cB) s σ H locs → W p l e R s m args below meth c H locs 0 0 Q (F0 m pc ls []))   : ∀ (n : Nat), ∀ (x3 x4 : Int) (σ : np_S) (H : Heap) (locs : List Loc) (ls : Array Slot), f_Chart_sumTerms_109  n x3 x4 σ = some out → np_At D np_cl A (nc_wd q cI cL cB) s σ H locs → lv_has ls 6 [(0, .ref (q 11)), (3, .int (np_i x3)), (4, .int (np_i x4))] → W p l e R s m args below meth c H locs 0 0 Q (F0 m 109 ls []) := by
  intro n
  induction n with
  | zero => intro x3 x4 σ H locs ls hf; cases hf
  | succ n ih =>
    intro x3 x4 σ H locs ls hf hat hl
    have h109 := ih
    have hf : f_Chart_sumTerms_109_b  (fun x3 x4 σ => f_Chart_sumTerms_109  n x3 x4 σ) x3 x4 σ = some out := hf
    unfold f_Chart_sumTerms_109_b at hf
    refine lv_iload C.x C.b dd_Chart_sumTerms_109 (lv_at hl 2 rfl) ?_
    refine np_if_lt (tgt := 139) C dd_Chart_sumTerms_111 (by decide) hf (fun _ hf => ?_) (fun _ hf => ?_)
    · exact hQ _ _ _ _ dd_Chart_sumTerms_139 hf hat
    · refine lv_aload_n C.x C.b dd_Chart_sumTerms_114 rfl (lv_at hl 0 rfl) ?_
      refine lv_iload_n C.x C.b dd_Chart_sumTerms_115 rfl (lv_at hl 1 rfl) ?_
      refine lv_iload C.x C.b dd_Chart_sumTerms_116 (lv_at hl 2 rfl) ?_
      refine np_iadd C dd_Chart_sumTerms_118 ?_
      refine lv_aload_n C.x C.b dd_Chart_sumTerms_119 rfl (lv_at hl 0 rfl) ?_
      refine np_get (v := .ref (q 14)) C i_Chart hat.1 11 (nc_o11 _) rfl 3 (by decide) tw_124 rfl rfl dd_Chart_sumTerms_120 ?_
      refine lv_iload_n C.x C.b dd_Chart_sumTerms_123 rfl (lv_at hl 1 rfl) ?_
      refine lv_iload C.x C.b dd_Chart_sumTerms_124 (lv_at hl 2 rfl) ?_
      refine np_iadd C dd_Chart_sumTerms_126 ?_
      refine lv_iconst (v := np_i 1) C.x C.b dd_Chart_sumTerms_127 rfl ?_
      refine np_iadd C dd_Chart_sumTerms_128 ?_
      refine np_iaload C hat.1 14 (nc_a14 _) 0 rfl (by decide) dd_Chart_sumTerms_129 hf (fun hf => ?_)
      refine np_callVv (As := [.int (np_i (x3 + x4)), .int (np_i (σ 14 ((x3 + x4) + 1)))]) (rest := []) C (c_Chart_addTrees l (x3 + x4) (σ 14 ((x3 + x4) + 1)) _) np_allgood tw_828 tw_830 tp_20 tw_5 tw_831 (nA := 2) (by decide +kernel) rfl ⟨rfl, rfl, Nat.le_of_ble_eq_true rfl, Nat.le_of_ble_eq_true rfl⟩ (nc_o11 _) rfl hat rfl hl.1 (Nat.le_of_ble_eq_true rfl) dd_Chart_sumTerms_130 hf (fun o1 H locs hf hat => ?_)
      refine lv_iinc (v := np_i (x4 + (-1))) (lv' := [(4, .int (np_i (x4 + (-1)))), (0, .ref (q 11)), (3, .int (np_i x3))]) C.x C.b dd_Chart_sumTerms_133 hl (k := 2) rfl (np_inc _ _) (by decide) rfl (fun ls hl => ?_)
      refine lv_goto (tgt := 109) C.x C.b dd_Chart_sumTerms_136 (by decide) ?_
      exact h109 _ _ _ _ _ _ hf hat (lv_sub hl [1, 2, 0] rfl)
set_option maxHeartbeats 4000000 in
set_option maxRecDepth 100000 in
theorem w_f_Chart_sumTerms_99 (C : np_Cx gA p R s m args c D np_cl (np_ty cI cL cB) A np_al "NotationParse$Chart" prog_2_method_17_code 6 { frames := 2, cells := 0, slots := 0, locals := 43 }) (hQ : ∀ (pc : Nat) (ls : Array Slot) (H : Heap) (locs : List Loc) {σ : np_S}, decode prog_2_method_17_code pc = .ok (.return_, 1) → some ((0 : Int), σ) = some out → np_At D np_cl A (nc_wd q cI cL cB) s σ H locs → W p l e R s m args below meth c H locs 0 0 Q (F0 m pc ls [])) {k37 : (Int → Int → Int → Int → np_S → Option np_O)} (h37 : ∀ (x1 x2 x3 x4 : Int) (σ : np_S) (H : Heap) (locs : List Loc) (ls : Array Slot), k37 x1 x2 x3 x4 σ = some out → np_At D np_cl A (nc_wd q cI cL cB) s σ H locs → lv_has ls 6 [(0, .ref (q 11)), (1, .int (np_i x1)), (2, .int (np_i x2)), (3, .int (np_i x3)), (4, .int (np_i x4))] → W p l e R s m args below meth c H locs 0 0 Q (F0 m 37 ls [])) : ∀ (x1 x2 x3 x4 : Int) (σ : np_S) (H : Heap) (locs : List Loc) (ls : Array Slot), f_Chart_sumTerms_99 k37 x1 x2 x3 x4 σ = some out → np_At D np_cl A (nc_wd q cI cL cB) s σ H locs → lv_has ls 6 [(0, .ref (q 11)), (1, .int (np_i x1)), (2, .int (np_i x2)), (3, .int (np_i x3)), (4, .int (np_i x4))] → W p l e R s m args below meth c H locs 0 0 Q (F0 m 99 ls []) := by
  intro x1 x2 x3 x4 σ H locs ls hf hat hl
  unfold f_Chart_sumTerms_99 at hf
  refine lv_iinc (v := np_i (x4 + 1)) (lv' := [(4, .int (np_i (x4 + 1))), (0, .ref (q 11)), (1, .int (np_i x1)), (2, .int (np_i x2)), (3, .int (np_i x3))]) C.x C.b dd_Chart_sumTerms_99 hl (k := 4) rfl (np_inc _ _) (by decide) rfl (fun ls hl => ?_)
  refine lv_goto (tgt := 37) C.x C.b dd_Chart_sumTerms_102 (by decide) ?_
  exact h37 _ _ _ _ _ _ _ _ hf hat (lv_sub hl [1, 2, 3, 4, 0] rfl)
set_option maxHeartbeats 4000000 in
set_option maxRecDepth 100000 in
theorem w_f_Chart_sumTerms_37 (C : np_Cx gA p R s m args c D np_cl (np_ty cI cL cB) A np_al "NotationParse$Chart" prog_2_method_17_code 6 { frames := 2, cells := 0, slots := 0, locals := 43 }) (hQ : ∀ (pc : Nat) (ls : Array Slot) (H : Heap) (locs : List Loc) {σ : np_S}, decode prog_2_method_17_code pc = .ok (.return_, 1) → some ((0 : Int), σ) = some out → np_At D np_cl A (nc_wd q cI cL cB) s σ H locs → W p l e R s m args below meth c H locs 0 0 Q (F0 m pc ls []))   : ∀ (n : Nat), ∀ (x1 x2 x3 x4 : Int) (σ : np_S) (H : Heap) (locs : List Loc) (ls : Array Slot), f_Chart_sumTerms_37  n x1 x2 x3 x4 σ = some out → np_At D np_cl A (nc_wd q cI cL cB) s σ H locs → lv_has ls 6 [(0, .ref (q 11)), (1, .int (np_i x1)), (2, .int (np_i x2)), (3, .int (np_i x3)), (4, .int (np_i x4))] → W p l e R s m args below meth c H locs 0 0 Q (F0 m 37 ls []) := by
  intro n
  induction n with
  | zero => intro x1 x2 x3 x4 σ H locs ls hf; cases hf
  | succ n ih =>
    intro x1 x2 x3 x4 σ H locs ls hf hat hl
    have h37 := ih
    have hf : f_Chart_sumTerms_37_b  (fun x1 x2 x3 x4 σ => f_Chart_sumTerms_37  n x1 x2 x3 x4 σ) x1 x2 x3 x4 σ = some out := hf
    unfold f_Chart_sumTerms_37_b at hf
    refine lv_iload C.x C.b dd_Chart_sumTerms_37 (lv_at hl 4 rfl) ?_
    refine lv_aload_n C.x C.b dd_Chart_sumTerms_39 rfl (lv_at hl 0 rfl) ?_
    refine np_get (v := .ref (q 1)) C i_Chart hat.1 11 (nc_o11 _) rfl 0 (by decide) tw_121 rfl rfl dd_Chart_sumTerms_40 ?_
    refine np_get (v := .int (np_i (σ 1 4))) C i_Grammar hat.1 1 (nc_o1 _) rfl 4 (by decide) tw_61 rfl rfl dd_Chart_sumTerms_43 ?_
    refine np_icmp_ge (tgt := 105) C dd_Chart_sumTerms_46 (by decide) hf (fun _ hf => ?_) (fun _ hf => ?_)
    · refine lv_bipush (v := np_i 9) C.x C.b dd_Chart_sumTerms_105 (by decide +kernel) ?_
      refine lv_istore (lv' := [(4, .int (np_i 9)), (0, .ref (q 11)), (1, .int (np_i x1)), (2, .int (np_i x2)), (3, .int (np_i x3))]) C.x C.b dd_Chart_sumTerms_107 hl (by decide) rfl (fun ls hl => ?_)
      exact w_f_Chart_sumTerms_109 C hQ  6000 _ _ _ _ _ _ hf hat (lv_sub hl [1, 4, 0] rfl)
    · refine lv_aload_n C.x C.b dd_Chart_sumTerms_49 rfl (lv_at hl 0 rfl) ?_
      refine np_get (v := .ref (q 1)) C i_Chart hat.1 11 (nc_o11 _) rfl 0 (by decide) tw_121 rfl rfl dd_Chart_sumTerms_50 ?_
      refine lv_iload C.x C.b dd_Chart_sumTerms_53 (lv_at hl 4 rfl) ?_
      refine np_callVi (As := [.int (np_i x4)]) (rest := []) C (c_Grammar_lastDot l x4 _) np_allgood tw_775 tw_776 tw_777 tw_2 tw_778 (nA := 1) (by decide +kernel) rfl ⟨rfl, rfl, Nat.le_of_ble_eq_true rfl, Nat.le_of_ble_eq_true rfl⟩ (nc_o1 _) rfl hat rfl hl.1 (Nat.le_of_ble_eq_true rfl) dd_Chart_sumTerms_55 hf (fun o2 H locs hf hat => ?_)
      refine lv_istore (lv' := [(5, .int (np_i o2.1)), (0, .ref (q 11)), (1, .int (np_i x1)), (2, .int (np_i x2)), (3, .int (np_i x3)), (4, .int (np_i x4))]) C.x C.b dd_Chart_sumTerms_58 hl (by decide) rfl (fun ls hl => ?_)
      refine lv_aload_n C.x C.b dd_Chart_sumTerms_60 rfl (lv_at hl 1 rfl) ?_
      refine lv_iload_n C.x C.b dd_Chart_sumTerms_61 rfl (lv_at hl 2 rfl) ?_
      refine lv_iload_n C.x C.b dd_Chart_sumTerms_62 rfl (lv_at hl 3 rfl) ?_
      refine lv_iload C.x C.b dd_Chart_sumTerms_63 (lv_at hl 0 rfl) ?_
      refine np_callVi (As := [.int (np_i x1), .int (np_i x2), .int (np_i o2.1)]) (rest := []) C (c_Chart_isReached l x1 x2 o2.1 _) np_allgood tw_779 tw_781 tp_11 tw_5 tw_782 (nA := 3) (by decide +kernel) rfl ⟨rfl, rfl, Nat.le_of_ble_eq_true rfl, Nat.le_of_ble_eq_true rfl⟩ (nc_o11 _) rfl hat rfl hl.1 (Nat.le_of_ble_eq_true rfl) dd_Chart_sumTerms_65 hf (fun o3 H locs hf hat => ?_)
      refine np_if_eq (tgt := 99) C dd_Chart_sumTerms_68 (by decide) hf (fun _ hf => ?_) (fun _ hf => ?_)
      · exact w_f_Chart_sumTerms_99 C hQ h37 _ _ _ _ _ _ _ _ hf hat (lv_sub hl [1, 2, 3, 4, 5] rfl)
      · refine lv_aload_n C.x C.b dd_Chart_sumTerms_71 rfl (lv_at hl 1 rfl) ?_
        refine lv_iload_n C.x C.b dd_Chart_sumTerms_72 rfl (lv_at hl 4 rfl) ?_
        refine lv_aload_n C.x C.b dd_Chart_sumTerms_73 rfl (lv_at hl 1 rfl) ?_
        refine np_get (v := .ref (q 1)) C i_Chart hat.1 11 (nc_o11 _) rfl 0 (by decide) tw_121 rfl rfl dd_Chart_sumTerms_74 ?_
        refine np_get (v := .ref (q 4)) C i_Grammar hat.1 1 (nc_o1 _) rfl 2 (by decide) tw_56 rfl rfl dd_Chart_sumTerms_77 ?_
        refine lv_iload C.x C.b dd_Chart_sumTerms_80 (lv_at hl 5 rfl) ?_
        refine np_iaload C hat.1 4 (nc_a4 _) 0 rfl (by decide) dd_Chart_sumTerms_82 hf (fun hf => ?_)
        refine np_iadd C dd_Chart_sumTerms_83 ?_
        refine lv_aload_n C.x C.b dd_Chart_sumTerms_84 rfl (lv_at hl 1 rfl) ?_
        refine np_get (v := .ref (q 13)) C i_Chart hat.1 11 (nc_o11 _) rfl 2 (by decide) tw_123 rfl rfl dd_Chart_sumTerms_85 ?_
        refine lv_iload_n C.x C.b dd_Chart_sumTerms_88 rfl (lv_at hl 3 rfl) ?_
        refine lv_bipush (v := np_i 98) C.x C.b dd_Chart_sumTerms_89 (by decide +kernel) ?_
        refine np_imul C dd_Chart_sumTerms_91 ?_
        refine lv_iload C.x C.b dd_Chart_sumTerms_92 (lv_at hl 0 rfl) ?_
        refine np_iadd C dd_Chart_sumTerms_94 ?_
        refine np_iaload C hat.1 13 (nc_a13 _) 0 rfl (by decide) dd_Chart_sumTerms_95 hf (fun hf => ?_)
        refine np_callVv (As := [.int (np_i (x3 + (o3.2 4 x4))), .int (np_i (o3.2 13 ((x2 * 98) + o2.1)))]) (rest := []) C (c_Chart_addTrees l (x3 + (o3.2 4 x4)) (o3.2 13 ((x2 * 98) + o2.1)) _) np_allgood tw_828 tw_830 tp_20 tw_5 tw_831 (nA := 2) (by decide +kernel) rfl ⟨rfl, rfl, Nat.le_of_ble_eq_true rfl, Nat.le_of_ble_eq_true rfl⟩ (nc_o11 _) rfl hat rfl hl.1 (Nat.le_of_ble_eq_true rfl) dd_Chart_sumTerms_96 hf (fun o4 H locs hf hat => ?_)
        exact w_f_Chart_sumTerms_99 C hQ h37 _ _ _ _ _ _ _ _ hf hat (lv_sub hl [1, 2, 3, 4, 5] rfl)
set_option maxHeartbeats 4000000 in
set_option maxRecDepth 100000 in
theorem w_f_Chart_sumTerms_11 (C : np_Cx gA p R s m args c D np_cl (np_ty cI cL cB) A np_al "NotationParse$Chart" prog_2_method_17_code 6 { frames := 2, cells := 0, slots := 0, locals := 43 }) (hQ : ∀ (pc : Nat) (ls : Array Slot) (H : Heap) (locs : List Loc) {σ : np_S}, decode prog_2_method_17_code pc = .ok (.return_, 1) → some ((0 : Int), σ) = some out → np_At D np_cl A (nc_wd q cI cL cB) s σ H locs → W p l e R s m args below meth c H locs 0 0 Q (F0 m pc ls []))   : ∀ (n : Nat), ∀ (x1 x2 x3 x4 : Int) (σ : np_S) (H : Heap) (locs : List Loc) (ls : Array Slot), f_Chart_sumTerms_11  n x1 x2 x3 x4 σ = some out → np_At D np_cl A (nc_wd q cI cL cB) s σ H locs → lv_has ls 6 [(0, .ref (q 11)), (1, .int (np_i x1)), (2, .int (np_i x2)), (3, .int (np_i x3)), (4, .int (np_i x4))] → W p l e R s m args below meth c H locs 0 0 Q (F0 m 11 ls []) := by
  intro n
  induction n with
  | zero => intro x1 x2 x3 x4 σ H locs ls hf; cases hf
  | succ n ih =>
    intro x1 x2 x3 x4 σ H locs ls hf hat hl
    have h11 := ih
    have hf : f_Chart_sumTerms_11_b  (fun x1 x2 x3 x4 σ => f_Chart_sumTerms_11  n x1 x2 x3 x4 σ) x1 x2 x3 x4 σ = some out := hf
    unfold f_Chart_sumTerms_11_b at hf
    refine lv_iload C.x C.b dd_Chart_sumTerms_11 (lv_at hl 4 rfl) ?_
    refine lv_bipush (v := np_i 10) C.x C.b dd_Chart_sumTerms_13 (by decide +kernel) ?_
    refine np_icmp_gt (tgt := 34) C dd_Chart_sumTerms_15 (by decide) hf (fun _ hf => ?_) (fun _ hf => ?_)
    · refine lv_iconst (v := np_i 0) C.x C.b dd_Chart_sumTerms_34 rfl ?_
      refine lv_istore (lv' := [(4, .int (np_i 0)), (0, .ref (q 11)), (1, .int (np_i x1)), (2, .int (np_i x2)), (3, .int (np_i x3))]) C.x C.b dd_Chart_sumTerms_35 hl (by decide) rfl (fun ls hl => ?_)
      exact w_f_Chart_sumTerms_37 C hQ  6000 _ _ _ _ _ _ _ _ hf hat (lv_sub hl [1, 2, 3, 4, 0] rfl)
    · refine lv_aload_n C.x C.b dd_Chart_sumTerms_18 rfl (lv_at hl 0 rfl) ?_
      refine np_get (v := .ref (q 14)) C i_Chart hat.1 11 (nc_o11 _) rfl 3 (by decide) tw_124 rfl rfl dd_Chart_sumTerms_19 ?_
      refine lv_iload_n C.x C.b dd_Chart_sumTerms_22 rfl (lv_at hl 3 rfl) ?_
      refine lv_iload C.x C.b dd_Chart_sumTerms_23 (lv_at hl 4 rfl) ?_
      refine np_iadd C dd_Chart_sumTerms_25 ?_
      refine lv_iconst (v := np_i 0) C.x C.b dd_Chart_sumTerms_26 rfl ?_
      refine np_iastore C hat 14 (nc_a14 _) 0 rfl (by decide) (nc_s14 _ _ _) dd_Chart_sumTerms_27 hf (fun H locs hat hf => ?_)
      refine lv_iinc (v := np_i (x4 + 1)) (lv' := [(4, .int (np_i (x4 + 1))), (0, .ref (q 11)), (1, .int (np_i x1)), (2, .int (np_i x2)), (3, .int (np_i x3))]) C.x C.b dd_Chart_sumTerms_28 hl (k := 4) rfl (np_inc _ _) (by decide) rfl (fun ls hl => ?_)
      refine lv_goto (tgt := 11) C.x C.b dd_Chart_sumTerms_31 (by decide) ?_
      exact h11 _ _ _ _ _ _ _ _ hf hat (lv_sub hl [1, 2, 3, 4, 0] rfl)
set_option maxHeartbeats 4000000 in
set_option maxRecDepth 100000 in
theorem w_f_Chart_sumTerms (C : np_Cx gA p R s m args c D np_cl (np_ty cI cL cB) A np_al "NotationParse$Chart" prog_2_method_17_code 6 { frames := 2, cells := 0, slots := 0, locals := 43 }) (hQ : ∀ (pc : Nat) (ls : Array Slot) (H : Heap) (locs : List Loc) {σ : np_S}, decode prog_2_method_17_code pc = .ok (.return_, 1) → some ((0 : Int), σ) = some out → np_At D np_cl A (nc_wd q cI cL cB) s σ H locs → W p l e R s m args below meth c H locs 0 0 Q (F0 m pc ls []))   : ∀ (x1 x2 : Int) (σ : np_S) (H : Heap) (locs : List Loc) (ls : Array Slot), f_Chart_sumTerms  x1 x2 σ = some out → np_At D np_cl A (nc_wd q cI cL cB) s σ H locs → lv_has ls 6 [(0, .ref (q 11)), (1, .int (np_i x1)), (2, .int (np_i x2))] → W p l e R s m args below meth c H locs 0 0 Q (F0 m 0 ls []) := by
  intro x1 x2 σ H locs ls hf hat hl
  unfold f_Chart_sumTerms at hf
  refine lv_aload_n C.x C.b dd_Chart_sumTerms_0 rfl (lv_at hl 0 rfl) ?_
  refine lv_iload_n C.x C.b dd_Chart_sumTerms_1 rfl (lv_at hl 1 rfl) ?_
  refine lv_iload_n C.x C.b dd_Chart_sumTerms_2 rfl (lv_at hl 2 rfl) ?_
  refine lv_iconst (v := np_i 0) C.x C.b dd_Chart_sumTerms_3 rfl ?_
  refine np_callVi (As := [.int (np_i x1), .int (np_i x2), .int (np_i 0)]) (rest := []) C (c_Chart_cell l x1 x2 0 _) np_allgood tw_816 tw_818 tp_18 tw_5 tw_819 (nA := 3) (by decide +kernel) rfl ⟨rfl, rfl, Nat.le_of_ble_eq_true rfl, Nat.le_of_ble_eq_true rfl⟩ (nc_o11 _) rfl hat rfl hl.1 (Nat.le_of_ble_eq_true rfl) dd_Chart_sumTerms_4 hf (fun o5 H locs hf hat => ?_)
  refine lv_istore_n (lv' := [(3, .int (np_i o5.1)), (0, .ref (q 11)), (1, .int (np_i x1)), (2, .int (np_i x2))]) C.x C.b dd_Chart_sumTerms_7 rfl hl (by decide) rfl (fun ls hl => ?_)
  refine lv_iconst (v := np_i 0) C.x C.b dd_Chart_sumTerms_8 rfl ?_
  refine lv_istore (lv' := [(4, .int (np_i 0)), (3, .int (np_i o5.1)), (0, .ref (q 11)), (1, .int (np_i x1)), (2, .int (np_i x2))]) C.x C.b dd_Chart_sumTerms_9 hl (by decide) rfl (fun ls hl => ?_)
  exact w_f_Chart_sumTerms_11 C hQ  6000 _ _ _ _ _ _ _ _ hf hat (lv_sub hl [2, 3, 4, 1, 0] rfl)
set_option maxHeartbeats 4000000 in
set_option maxRecDepth 100000 in
theorem c_Chart_sumTerms (l : Launch) {gA : Nat → Nat} {D : va_G} {q : Nat → Nat} {cI cL cB : ClassId} (x1 x2 : Int) (σ : np_S) : np_Mv gA l D np_cl (np_ty cI cL cB) (nc_wd q cI cL cB) yy_Chart_sumTerms (.code yy_Chart_sumTerms prog_2_method_17_code 6 none :: np_al) { frames := 2, cells := 0, slots := 0, locals := 43 } [.ref (q 11), .int (np_i x1), .int (np_i x2)] σ (f_Chart_sumTerms x1 x2 σ) :=
  np_mkv (by decide +kernel) (Nat.le_of_ble_eq_true rfl) (fun o p e R s m args below meth c Q A ls hf C hQ hat hl => w_f_Chart_sumTerms C hQ x1 x2 σ _ _ _ hf hat (lv_sub hl [0, 1, 2] rfl))
end NW2
end
section
section NW3
variable {p : Program} {l : Launch} {e : Env} {R : Room} {s : State} {m : MethodId} {args : Array Value} {below : List Frame} {meth : Method} {c : Code} {Q : State → Prop} {D : va_G} {A : Nat → Prop} {q : Nat → Nat} {cI cL cB : ClassId} {out : np_O} {gA : Nat → Nat}
set_option maxHeartbeats 4000000 in
set_option maxRecDepth 100000 in
theorem w_f_Chart_countFirstHoles_64 (C : np_Cx gA p R s m args c D np_cl (np_ty cI cL cB) A np_al "NotationParse$Chart" prog_2_method_19_code 6 { frames := 1, cells := 0, slots := 0, locals := 23 }) (hQ : ∀ (pc : Nat) (ls : Array Slot) (H : Heap) (locs : List Loc) {σ : np_S}, decode prog_2_method_19_code pc = .ok (.return_, 1) → some ((0 : Int), σ) = some out → np_At D np_cl A (nc_wd q cI cL cB) s σ H locs → W p l e R s m args below meth c H locs 0 0 Q (F0 m pc ls [])) {k2 : (Int → Int → Int → np_S → Option np_O)} (h2 : ∀ (x1 x2 x3 : Int) (σ : np_S) (H : Heap) (locs : List Loc) (ls : Array Slot), k2 x1 x2 x3 σ = some out → np_At D np_cl A (nc_wd q cI cL cB) s σ H locs → lv_has ls 6 [(0, .ref (q 11)), (1, .int (np_i x1)), (2, .int (np_i x2)), (3, .int (np_i x3))] → W p l e R s m args below meth c H locs 0 0 Q (F0 m 2 ls [])) : ∀ (x1 x2 x3 : Int) (σ : np_S) (H : Heap) (locs : List Loc) (ls : Array Slot), f_Chart_countFirstHoles_64 k2 x1 x2 x3 σ = some out → np_At D np_cl A (nc_wd q cI cL cB) s σ H locs → lv_has ls 6 [(0, .ref (q 11)), (1, .int (np_i x1)), (2, .int (np_i x2)), (3, .int (np_i x3))] → W p l e R s m args below meth c H locs 0 0 Q (F0 m 64 ls []) := by
  intro x1 x2 x3 σ H locs ls hf hat hl
  unfold f_Chart_countFirstHoles_64 at hf
  refine lv_iinc (v := np_i (x3 + 1)) (lv' := [(3, .int (np_i (x3 + 1))), (0, .ref (q 11)), (1, .int (np_i x1)), (2, .int (np_i x2))]) C.x C.b dd_Chart_countFirstHoles_64 hl (k := 3) rfl (np_inc _ _) (by decide) rfl (fun ls hl => ?_)
  refine lv_goto (tgt := 2) C.x C.b dd_Chart_countFirstHoles_67 (by decide) ?_
  exact h2 _ _ _ _ _ _ _ hf hat (lv_sub hl [1, 2, 3, 0] rfl)
set_option maxHeartbeats 4000000 in
set_option maxRecDepth 100000 in
theorem w_f_Chart_countFirstHoles_2 (C : np_Cx gA p R s m args c D np_cl (np_ty cI cL cB) A np_al "NotationParse$Chart" prog_2_method_19_code 6 { frames := 1, cells := 0, slots := 0, locals := 23 }) (hQ : ∀ (pc : Nat) (ls : Array Slot) (H : Heap) (locs : List Loc) {σ : np_S}, decode prog_2_method_19_code pc = .ok (.return_, 1) → some ((0 : Int), σ) = some out → np_At D np_cl A (nc_wd q cI cL cB) s σ H locs → W p l e R s m args below meth c H locs 0 0 Q (F0 m pc ls []))   : ∀ (n : Nat), ∀ (x1 x2 x3 : Int) (σ : np_S) (H : Heap) (locs : List Loc) (ls : Array Slot), f_Chart_countFirstHoles_2  n x1 x2 x3 σ = some out → np_At D np_cl A (nc_wd q cI cL cB) s σ H locs → lv_has ls 6 [(0, .ref (q 11)), (1, .int (np_i x1)), (2, .int (np_i x2)), (3, .int (np_i x3))] → W p l e R s m args below meth c H locs 0 0 Q (F0 m 2 ls []) := by
  intro n
  induction n with
  | zero => intro x1 x2 x3 σ H locs ls hf; cases hf
  | succ n ih =>
    intro x1 x2 x3 σ H locs ls hf hat hl
    have h2 := ih
    have hf : f_Chart_countFirstHoles_2_b  (fun x1 x2 x3 σ => f_Chart_countFirstHoles_2  n x1 x2 x3 σ) x1 x2 x3 σ = some out := hf
    unfold f_Chart_countFirstHoles_2_b at hf
    refine lv_iload_n C.x C.b dd_Chart_countFirstHoles_2 rfl (lv_at hl 3 rfl) ?_
    refine lv_aload_n C.x C.b dd_Chart_countFirstHoles_3 rfl (lv_at hl 0 rfl) ?_
    refine np_get (v := .ref (q 1)) C i_Chart hat.1 11 (nc_o11 _) rfl 0 (by decide) tw_121 rfl rfl dd_Chart_countFirstHoles_4 ?_
    refine np_get (v := .int (np_i (σ 1 4))) C i_Grammar hat.1 1 (nc_o1 _) rfl 4 (by decide) tw_61 rfl rfl dd_Chart_countFirstHoles_7 ?_
    refine np_icmp_ge (tgt := 70) C dd_Chart_countFirstHoles_10 (by decide) hf (fun _ hf => ?_) (fun _ hf => ?_)
    · exact hQ _ _ _ _ dd_Chart_countFirstHoles_70 hf hat
    · refine lv_iload_n C.x C.b dd_Chart_countFirstHoles_13 rfl (lv_at hl 3 rfl) ?_
      refine lv_bipush (v := np_i 7) C.x C.b dd_Chart_countFirstHoles_14 (by decide +kernel) ?_
      refine np_imul C dd_Chart_countFirstHoles_16 ?_
      refine lv_istore (lv' := [(4, .int (np_i (x3 * 7))), (0, .ref (q 11)), (1, .int (np_i x1)), (2, .int (np_i x2)), (3, .int (np_i x3))]) C.x C.b dd_Chart_countFirstHoles_17 hl (by decide) rfl (fun ls hl => ?_)
      refine lv_aload_n C.x C.b dd_Chart_countFirstHoles_19 rfl (lv_at hl 1 rfl) ?_
      refine np_get (v := .ref (q 1)) C i_Chart hat.1 11 (nc_o11 _) rfl 0 (by decide) tw_121 rfl rfl dd_Chart_countFirstHoles_20 ?_
      refine np_get (v := .ref (q 2)) C i_Grammar hat.1 1 (nc_o1 _) rfl 0 (by decide) tw_52 rfl rfl dd_Chart_countFirstHoles_23 ?_
      refine lv_iload C.x C.b dd_Chart_countFirstHoles_26 (lv_at hl 0 rfl) ?_
      refine np_iaload C hat.1 2 (nc_a2 _) 0 rfl (by decide) dd_Chart_countFirstHoles_28 hf (fun hf => ?_)
      refine lv_istore (lv' := [(5, .int (np_i (σ 2 (x3 * 7)))), (4, .int (np_i (x3 * 7))), (0, .ref (q 11)), (1, .int (np_i x1)), (2, .int (np_i x2)), (3, .int (np_i x3))]) C.x C.b dd_Chart_countFirstHoles_29 hl (by decide) rfl (fun ls hl => ?_)
      refine lv_iload C.x C.b dd_Chart_countFirstHoles_31 (lv_at hl 0 rfl) ?_
      refine lv_iconst (v := np_i (-1)) C.x C.b dd_Chart_countFirstHoles_33 rfl ?_
      refine np_icmp_eq (tgt := 64) C dd_Chart_countFirstHoles_34 (by decide) hf (fun _ hf => ?_) (fun _ hf => ?_)
      · exact w_f_Chart_countFirstHoles_64 C hQ h2 _ _ _ _ _ _ _ hf hat (lv_sub hl [2, 3, 4, 5] rfl)
      · refine lv_aload_n C.x C.b dd_Chart_countFirstHoles_37 rfl (lv_at hl 2 rfl) ?_
        refine np_get (v := .ref (q 13)) C i_Chart hat.1 11 (nc_o11 _) rfl 2 (by decide) tw_123 rfl rfl dd_Chart_countFirstHoles_38 ?_
        refine lv_iload_n C.x C.b dd_Chart_countFirstHoles_41 rfl (lv_at hl 4 rfl) ?_
        refine lv_bipush (v := np_i 98) C.x C.b dd_Chart_countFirstHoles_42 (by decide +kernel) ?_
        refine np_imul C dd_Chart_countFirstHoles_44 ?_
        refine lv_iload C.x C.b dd_Chart_countFirstHoles_45 (lv_at hl 1 rfl) ?_
        refine np_iadd C dd_Chart_countFirstHoles_47 ?_
        refine lv_iconst (v := np_i 1) C.x C.b dd_Chart_countFirstHoles_48 rfl ?_
        refine np_iadd C dd_Chart_countFirstHoles_49 ?_
        refine lv_aload_n C.x C.b dd_Chart_countFirstHoles_50 rfl (lv_at hl 2 rfl) ?_
        refine np_get (v := .ref (q 14)) C i_Chart hat.1 11 (nc_o11 _) rfl 3 (by decide) tw_124 rfl rfl dd_Chart_countFirstHoles_51 ?_
        refine lv_aload_n C.x C.b dd_Chart_countFirstHoles_54 rfl (lv_at hl 2 rfl) ?_
        refine lv_iload_n C.x C.b dd_Chart_countFirstHoles_55 rfl (lv_at hl 3 rfl) ?_
        refine lv_iload_n C.x C.b dd_Chart_countFirstHoles_56 rfl (lv_at hl 4 rfl) ?_
        refine lv_iload C.x C.b dd_Chart_countFirstHoles_57 (lv_at hl 0 rfl) ?_
        refine np_callVi (As := [.int (np_i x1), .int (np_i x2), .int (np_i (σ 2 (x3 * 7)))]) (rest := [.ref (q 14), .int (np_i (((x2 * 98) + (x3 * 7)) + 1)), .ref (q 13)]) C (c_Chart_cell l x1 x2 (σ 2 (x3 * 7)) _) np_allgood tw_816 tw_818 tp_18 tw_5 tw_819 (nA := 3) (by decide +kernel) rfl ⟨rfl, rfl, Nat.le_of_ble_eq_true rfl, Nat.le_of_ble_eq_true rfl⟩ (nc_o11 _) rfl hat rfl hl.1 (Nat.le_of_ble_eq_true rfl) dd_Chart_countFirstHoles_59 hf (fun o1 H locs hf hat => ?_)
        refine np_iaload C hat.1 14 (nc_a14 _) 0 rfl (by decide) dd_Chart_countFirstHoles_62 hf (fun hf => ?_)
        refine np_iastore C hat 13 (nc_a13 _) 0 rfl (by decide) (nc_s13 _ _ _) dd_Chart_countFirstHoles_63 hf (fun H locs hat hf => ?_)
        exact w_f_Chart_countFirstHoles_64 C hQ h2 _ _ _ _ _ _ _ hf hat (lv_sub hl [2, 3, 4, 5] rfl)
set_option maxHeartbeats 4000000 in
set_option maxRecDepth 100000 in
theorem w_f_Chart_countFirstHoles (C : np_Cx gA p R s m args c D np_cl (np_ty cI cL cB) A np_al "NotationParse$Chart" prog_2_method_19_code 6 { frames := 1, cells := 0, slots := 0, locals := 23 }) (hQ : ∀ (pc : Nat) (ls : Array Slot) (H : Heap) (locs : List Loc) {σ : np_S}, decode prog_2_method_19_code pc = .ok (.return_, 1) → some ((0 : Int), σ) = some out → np_At D np_cl A (nc_wd q cI cL cB) s σ H locs → W p l e R s m args below meth c H locs 0 0 Q (F0 m pc ls []))   : ∀ (x1 x2 : Int) (σ : np_S) (H : Heap) (locs : List Loc) (ls : Array Slot), f_Chart_countFirstHoles  x1 x2 σ = some out → np_At D np_cl A (nc_wd q cI cL cB) s σ H locs → lv_has ls 6 [(0, .ref (q 11)), (1, .int (np_i x1)), (2, .int (np_i x2))] → W p l e R s m args below meth c H locs 0 0 Q (F0 m 0 ls []) := by
  intro x1 x2 σ H locs ls hf hat hl
  unfold f_Chart_countFirstHoles at hf
  refine lv_iconst (v := np_i 0) C.x C.b dd_Chart_countFirstHoles_0 rfl ?_
  refine lv_istore_n (lv' := [(3, .int (np_i 0)), (0, .ref (q 11)), (1, .int (np_i x1)), (2, .int (np_i x2))]) C.x C.b dd_Chart_countFirstHoles_1 rfl hl (by decide) rfl (fun ls hl => ?_)
  exact w_f_Chart_countFirstHoles_2 C hQ  6000 _ _ _ _ _ _ _ hf hat (lv_sub hl [1, 2, 3, 0] rfl)
set_option maxHeartbeats 4000000 in
set_option maxRecDepth 100000 in
theorem c_Chart_countFirstHoles (l : Launch) {gA : Nat → Nat} {D : va_G} {q : Nat → Nat} {cI cL cB : ClassId} (x1 x2 : Int) (σ : np_S) : np_Mv gA l D np_cl (np_ty cI cL cB) (nc_wd q cI cL cB) yy_Chart_countFirstHoles (.code yy_Chart_countFirstHoles prog_2_method_19_code 6 none :: np_al) { frames := 1, cells := 0, slots := 0, locals := 23 } [.ref (q 11), .int (np_i x1), .int (np_i x2)] σ (f_Chart_countFirstHoles x1 x2 σ) :=
  np_mkv (by decide +kernel) (Nat.le_of_ble_eq_true rfl) (fun o p e R s m args below meth c Q A ls hf C hQ hat hl => w_f_Chart_countFirstHoles C hQ x1 x2 σ _ _ _ hf hat (lv_sub hl [0, 1, 2] rfl))
set_option maxHeartbeats 4000000 in
set_option maxRecDepth 100000 in
theorem w_f_Chart_countSplits_60 (C : np_Cx gA p R s m args c D np_cl (np_ty cI cL cB) A np_al "NotationParse$Chart" prog_2_method_16_code 8 { frames := 1, cells := 0, slots := 0, locals := 23 }) (hQ : ∀ (pc : Nat) (ls : Array Slot) (H : Heap) (locs : List Loc) (v : Int) {σ : np_S}, decode prog_2_method_16_code pc = .ok (.ireturn, 1) → some (v, σ) = some out → np_At D np_cl A (nc_wd q cI cL cB) s σ H locs → W p l e R s m args below meth c H locs 0 0 Q (F0 m pc ls [.int (np_i v)])) {k8 : (Int → Int → Int → Int → Int → Int → np_S → Option np_O)} (h8 : ∀ (x1 x2 x3 x4 x5 x7 : Int) (σ : np_S) (H : Heap) (locs : List Loc) (ls : Array Slot), k8 x1 x2 x3 x4 x5 x7 σ = some out → np_At D np_cl A (nc_wd q cI cL cB) s σ H locs → lv_has ls 8 [(0, .ref (q 11)), (1, .int (np_i x1)), (2, .int (np_i x2)), (3, .int (np_i x3)), (4, .int (np_i x4)), (5, .long (np_l x5)), (7, .int (np_i x7))] → W p l e R s m args below meth c H locs 0 0 Q (F0 m 8 ls [])) : ∀ (x1 x2 x3 x4 x5 x7 : Int) (σ : np_S) (H : Heap) (locs : List Loc) (ls : Array Slot), f_Chart_countSplits_60 k8 x1 x2 x3 x4 x5 x7 σ = some out → np_At D np_cl A (nc_wd q cI cL cB) s σ H locs → lv_has ls 8 [(0, .ref (q 11)), (1, .int (np_i x1)), (2, .int (np_i x2)), (3, .int (np_i x3)), (4, .int (np_i x4)), (5, .long (np_l x5)), (7, .int (np_i x7))] → W p l e R s m args below meth c H locs 0 0 Q (F0 m 60 ls []) := by
  intro x1 x2 x3 x4 x5 x7 σ H locs ls hf hat hl
  unfold f_Chart_countSplits_60 at hf
  refine lv_iinc (v := np_i (x7 + 1)) (lv' := [(7, .int (np_i (x7 + 1))), (0, .ref (q 11)), (1, .int (np_i x1)), (2, .int (np_i x2)), (3, .int (np_i x3)), (4, .int (np_i x4)), (5, .long (np_l x5))]) C.x C.b dd_Chart_countSplits_60 hl (k := 6) rfl (np_inc _ _) (by decide) rfl (fun ls hl => ?_)
  refine lv_goto (tgt := 8) C.x C.b dd_Chart_countSplits_63 (by decide) ?_
  exact h8 _ _ _ _ _ _ _ _ _ _ hf hat (lv_sub hl [1, 2, 3, 4, 5, 6, 0] rfl)
set_option maxHeartbeats 4000000 in
set_option maxRecDepth 100000 in
theorem w_f_Chart_countSplits_8 (C : np_Cx gA p R s m args c D np_cl (np_ty cI cL cB) A np_al "NotationParse$Chart" prog_2_method_16_code 8 { frames := 1, cells := 0, slots := 0, locals := 23 }) (hQ : ∀ (pc : Nat) (ls : Array Slot) (H : Heap) (locs : List Loc) (v : Int) {σ : np_S}, decode prog_2_method_16_code pc = .ok (.ireturn, 1) → some (v, σ) = some out → np_At D np_cl A (nc_wd q cI cL cB) s σ H locs → W p l e R s m args below meth c H locs 0 0 Q (F0 m pc ls [.int (np_i v)]))   : ∀ (n : Nat), ∀ (x1 x2 x3 x4 x5 x7 : Int) (σ : np_S) (H : Heap) (locs : List Loc) (ls : Array Slot), f_Chart_countSplits_8  n x1 x2 x3 x4 x5 x7 σ = some out → np_At D np_cl A (nc_wd q cI cL cB) s σ H locs → lv_has ls 8 [(0, .ref (q 11)), (1, .int (np_i x1)), (2, .int (np_i x2)), (3, .int (np_i x3)), (4, .int (np_i x4)), (5, .long (np_l x5)), (7, .int (np_i x7))] → W p l e R s m args below meth c H locs 0 0 Q (F0 m 8 ls []) := by
  intro n
  induction n with
  | zero => intro x1 x2 x3 x4 x5 x7 σ H locs ls hf; cases hf
  | succ n ih =>
    intro x1 x2 x3 x4 x5 x7 σ H locs ls hf hat hl
    have h8 := ih
    have hf : f_Chart_countSplits_8_b  (fun x1 x2 x3 x4 x5 x7 σ => f_Chart_countSplits_8  n x1 x2 x3 x4 x5 x7 σ) x1 x2 x3 x4 x5 x7 σ = some out := hf
    unfold f_Chart_countSplits_8_b at hf
    refine lv_iload C.x C.b dd_Chart_countSplits_8 (lv_at hl 6 rfl) ?_
    refine lv_iload C.x C.b dd_Chart_countSplits_10 (lv_at hl 4 rfl) ?_
    refine np_icmp_ge (tgt := 66) C dd_Chart_countSplits_12 (by decide) hf (fun _ hf => ?_) (fun _ hf => ?_)
    · refine lv_lload C.x C.b dd_Chart_countSplits_66 (lv_at hl 5 rfl) ?_
      refine np_ldc2 (v := 1000000) C tw_820 dd_Chart_countSplits_68 ?_
      refine np_mmin_l C tw_821 tw_822 tw_17 tw_823 (Nat.le_of_ble_eq_true rfl) (Nat.le_of_ble_eq_true rfl) hl.1 dd_Chart_countSplits_71 hf (fun hf => ?_)
      refine np_l2i C dd_Chart_countSplits_74 ?_
      exact hQ _ _ _ _ _ dd_Chart_countSplits_75 hf hat
    · refine lv_aload_n C.x C.b dd_Chart_countSplits_15 rfl (lv_at hl 0 rfl) ?_
      refine lv_iload_n C.x C.b dd_Chart_countSplits_16 rfl (lv_at hl 3 rfl) ?_
      refine lv_iload C.x C.b dd_Chart_countSplits_17 (lv_at hl 6 rfl) ?_
      refine lv_iload_n C.x C.b dd_Chart_countSplits_19 rfl (lv_at hl 1 rfl) ?_
      refine np_callVi (As := [.int (np_i x3), .int (np_i x7), .int (np_i x1)]) (rest := []) C (c_Chart_isReached l x3 x7 x1 _) np_allgood tw_779 tw_781 tp_11 tw_5 tw_782 (nA := 3) (by decide +kernel) rfl ⟨rfl, rfl, Nat.le_of_ble_eq_true rfl, Nat.le_of_ble_eq_true rfl⟩ (nc_o11 _) rfl hat rfl hl.1 (Nat.le_of_ble_eq_true rfl) dd_Chart_countSplits_20 hf (fun o1 H locs hf hat => ?_)
      refine np_if_eq (tgt := 60) C dd_Chart_countSplits_23 (by decide) hf (fun _ hf => ?_) (fun _ hf => ?_)
      · exact w_f_Chart_countSplits_60 C hQ h8 _ _ _ _ _ _ _ _ _ _ hf hat (lv_sub hl [0, 1, 2, 3, 4, 5, 6] rfl)
      · refine lv_lload C.x C.b dd_Chart_countSplits_26 (lv_at hl 5 rfl) ?_
        refine lv_aload_n C.x C.b dd_Chart_countSplits_28 rfl (lv_at hl 0 rfl) ?_
        refine np_get (v := .ref (q 13)) C i_Chart hat.1 11 (nc_o11 _) rfl 2 (by decide) tw_123 rfl rfl dd_Chart_countSplits_29 ?_
        refine lv_iload C.x C.b dd_Chart_countSplits_32 (lv_at hl 6 rfl) ?_
        refine lv_bipush (v := np_i 98) C.x C.b dd_Chart_countSplits_34 (by decide +kernel) ?_
        refine np_imul C dd_Chart_countSplits_36 ?_
        refine lv_iload_n C.x C.b dd_Chart_countSplits_37 rfl (lv_at hl 1 rfl) ?_
        refine np_iadd C dd_Chart_countSplits_38 ?_
        refine np_iaload C hat.1 13 (nc_a13 _) 0 rfl (by decide) dd_Chart_countSplits_39 hf (fun hf => ?_)
        refine np_i2l C dd_Chart_countSplits_40 hf (fun hf => ?_)
        refine lv_aload_n C.x C.b dd_Chart_countSplits_41 rfl (lv_at hl 0 rfl) ?_
        refine np_get (v := .ref (q 14)) C i_Chart hat.1 11 (nc_o11 _) rfl 3 (by decide) tw_124 rfl rfl dd_Chart_countSplits_42 ?_
        refine lv_aload_n C.x C.b dd_Chart_countSplits_45 rfl (lv_at hl 0 rfl) ?_
        refine lv_iload C.x C.b dd_Chart_countSplits_46 (lv_at hl 6 rfl) ?_
        refine lv_iload C.x C.b dd_Chart_countSplits_48 (lv_at hl 4 rfl) ?_
        refine lv_iload_n C.x C.b dd_Chart_countSplits_50 rfl (lv_at hl 2 rfl) ?_
        refine np_callVi (As := [.int (np_i x7), .int (np_i x4), .int (np_i x2)]) (rest := [.ref (q 14), .long (np_l (o1.2 13 ((x7 * 98) + x1))), .long (np_l x5)]) C (c_Chart_cell l x7 x4 x2 _) np_allgood tw_816 tw_818 tp_18 tw_5 tw_819 (nA := 3) (by decide +kernel) rfl ⟨rfl, rfl, Nat.le_of_ble_eq_true rfl, Nat.le_of_ble_eq_true rfl⟩ (nc_o11 _) rfl hat rfl hl.1 (Nat.le_of_ble_eq_true rfl) dd_Chart_countSplits_51 hf (fun o2 H locs hf hat => ?_)
        refine np_iaload C hat.1 14 (nc_a14 _) 0 rfl (by decide) dd_Chart_countSplits_54 hf (fun hf => ?_)
        refine np_i2l C dd_Chart_countSplits_55 hf (fun hf => ?_)
        refine np_lmul C dd_Chart_countSplits_56 ?_
        refine np_ladd C dd_Chart_countSplits_57 ?_
        refine lv_lstore (lv' := [(5, .long (np_l (x5 + ((o1.2 13 ((x7 * 98) + x1)) * (o2.2 14 o2.1))))), (0, .ref (q 11)), (1, .int (np_i x1)), (2, .int (np_i x2)), (3, .int (np_i x3)), (4, .int (np_i x4)), (7, .int (np_i x7))]) C.x C.b dd_Chart_countSplits_58 hl (by decide) rfl (fun ls hl => ?_)
        exact w_f_Chart_countSplits_60 C hQ h8 _ _ _ _ _ _ _ _ _ _ hf hat (lv_sub hl [1, 2, 3, 4, 5, 0, 6] rfl)
set_option maxHeartbeats 4000000 in
set_option maxRecDepth 100000 in
theorem w_f_Chart_countSplits (C : np_Cx gA p R s m args c D np_cl (np_ty cI cL cB) A np_al "NotationParse$Chart" prog_2_method_16_code 8 { frames := 1, cells := 0, slots := 0, locals := 23 }) (hQ : ∀ (pc : Nat) (ls : Array Slot) (H : Heap) (locs : List Loc) (v : Int) {σ : np_S}, decode prog_2_method_16_code pc = .ok (.ireturn, 1) → some (v, σ) = some out → np_At D np_cl A (nc_wd q cI cL cB) s σ H locs → W p l e R s m args below meth c H locs 0 0 Q (F0 m pc ls [.int (np_i v)]))   : ∀ (x1 x2 x3 x4 : Int) (σ : np_S) (H : Heap) (locs : List Loc) (ls : Array Slot), f_Chart_countSplits  x1 x2 x3 x4 σ = some out → np_At D np_cl A (nc_wd q cI cL cB) s σ H locs → lv_has ls 8 [(0, .ref (q 11)), (1, .int (np_i x1)), (2, .int (np_i x2)), (3, .int (np_i x3)), (4, .int (np_i x4))] → W p l e R s m args below meth c H locs 0 0 Q (F0 m 0 ls []) := by
  intro x1 x2 x3 x4 σ H locs ls hf hat hl
  unfold f_Chart_countSplits at hf
  refine lv_lconst (v := np_l 0) C.x C.b dd_Chart_countSplits_0 (by decide +kernel) ?_
  refine lv_lstore (lv' := [(5, .long (np_l 0)), (0, .ref (q 11)), (1, .int (np_i x1)), (2, .int (np_i x2)), (3, .int (np_i x3)), (4, .int (np_i x4))]) C.x C.b dd_Chart_countSplits_1 hl (by decide) rfl (fun ls hl => ?_)
  refine lv_iload_n C.x C.b dd_Chart_countSplits_3 rfl (lv_at hl 4 rfl) ?_
  refine lv_iconst (v := np_i 1) C.x C.b dd_Chart_countSplits_4 rfl ?_
  refine np_iadd C dd_Chart_countSplits_5 ?_
  refine lv_istore (lv' := [(7, .int (np_i (x3 + 1))), (5, .long (np_l 0)), (0, .ref (q 11)), (1, .int (np_i x1)), (2, .int (np_i x2)), (3, .int (np_i x3)), (4, .int (np_i x4))]) C.x C.b dd_Chart_countSplits_6 hl (by decide) rfl (fun ls hl => ?_)
  exact w_f_Chart_countSplits_8 C hQ  6000 _ _ _ _ _ _ _ _ _ _ hf hat (lv_sub hl [2, 3, 4, 5, 6, 1, 0] rfl)
set_option maxHeartbeats 4000000 in
set_option maxRecDepth 100000 in
theorem c_Chart_countSplits (l : Launch) {gA : Nat → Nat} {D : va_G} {q : Nat → Nat} {cI cL cB : ClassId} (x1 x2 x3 x4 : Int) (σ : np_S) : np_Mi gA l D np_cl (np_ty cI cL cB) (nc_wd q cI cL cB) yy_Chart_countSplits (.code yy_Chart_countSplits prog_2_method_16_code 8 (some .int) :: np_al) { frames := 1, cells := 0, slots := 0, locals := 23 } [.ref (q 11), .int (np_i x1), .int (np_i x2), .int (np_i x3), .int (np_i x4)] σ (f_Chart_countSplits x1 x2 x3 x4 σ) :=
  np_mki (by decide +kernel) (Nat.le_of_ble_eq_true rfl) (fun o p e R s m args below meth c Q A ls hf C hQ hat hl => w_f_Chart_countSplits C hQ x1 x2 x3 x4 σ _ _ _ hf hat (lv_sub hl [0, 1, 2, 3, 4] rfl))
set_option maxHeartbeats 4000000 in
set_option maxRecDepth 100000 in
theorem w_f_Chart_countRule_124 (C : np_Cx gA p R s m args c D np_cl (np_ty cI cL cB) A np_al "NotationParse$Chart" prog_2_method_15_code 8 { frames := 2, cells := 0, slots := 0, locals := 50 }) (hQ : ∀ (pc : Nat) (ls : Array Slot) (H : Heap) (locs : List Loc) {σ : np_S}, decode prog_2_method_15_code pc = .ok (.return_, 1) → some ((0 : Int), σ) = some out → np_At D np_cl A (nc_wd q cI cL cB) s σ H locs → W p l e R s m args below meth c H locs 0 0 Q (F0 m pc ls [])) {k22 : (Int → Int → Int → Int → Int → np_S → Option np_O)} (h22 : ∀ (x2 x3 x4 x5 x6 : Int) (σ : np_S) (H : Heap) (locs : List Loc) (ls : Array Slot), k22 x2 x3 x4 x5 x6 σ = some out → np_At D np_cl A (nc_wd q cI cL cB) s σ H locs → lv_has ls 8 [(0, .ref (q 11)), (2, .int (np_i x2)), (3, .int (np_i x3)), (4, .int (np_i x4)), (5, .int (np_i x5)), (6, .int (np_i x6))] → W p l e R s m args below meth c H locs 0 0 Q (F0 m 22 ls [])) : ∀ (x2 x3 x4 x5 x6 : Int) (σ : np_S) (H : Heap) (locs : List Loc) (ls : Array Slot), f_Chart_countRule_124 k22 x2 x3 x4 x5 x6 σ = some out → np_At D np_cl A (nc_wd q cI cL cB) s σ H locs → lv_has ls 8 [(0, .ref (q 11)), (2, .int (np_i x2)), (3, .int (np_i x3)), (4, .int (np_i x4)), (5, .int (np_i x5)), (6, .int (np_i x6))] → W p l e R s m args below meth c H locs 0 0 Q (F0 m 124 ls []) := by
  intro x2 x3 x4 x5 x6 σ H locs ls hf hat hl
  unfold f_Chart_countRule_124 at hf
  refine lv_iinc (v := np_i (x6 + 1)) (lv' := [(6, .int (np_i (x6 + 1))), (0, .ref (q 11)), (2, .int (np_i x2)), (3, .int (np_i x3)), (4, .int (np_i x4)), (5, .int (np_i x5))]) C.x C.b dd_Chart_countRule_124 hl (k := 5) rfl (np_inc _ _) (by decide) rfl (fun ls hl => ?_)
  refine lv_goto (tgt := 22) C.x C.b dd_Chart_countRule_127 (by decide) ?_
  exact h22 _ _ _ _ _ _ _ _ _ hf hat (lv_sub hl [1, 2, 3, 4, 5, 0] rfl)
set_option maxHeartbeats 4000000 in
set_option maxRecDepth 100000 in
theorem w_f_Chart_countRule_22 (C : np_Cx gA p R s m args c D np_cl (np_ty cI cL cB) A np_al "NotationParse$Chart" prog_2_method_15_code 8 { frames := 2, cells := 0, slots := 0, locals := 50 }) (hQ : ∀ (pc : Nat) (ls : Array Slot) (H : Heap) (locs : List Loc) {σ : np_S}, decode prog_2_method_15_code pc = .ok (.return_, 1) → some ((0 : Int), σ) = some out → np_At D np_cl A (nc_wd q cI cL cB) s σ H locs → W p l e R s m args below meth c H locs 0 0 Q (F0 m pc ls []))   : ∀ (n : Nat), ∀ (x2 x3 x4 x5 x6 : Int) (σ : np_S) (H : Heap) (locs : List Loc) (ls : Array Slot), f_Chart_countRule_22  n x2 x3 x4 x5 x6 σ = some out → np_At D np_cl A (nc_wd q cI cL cB) s σ H locs → lv_has ls 8 [(0, .ref (q 11)), (2, .int (np_i x2)), (3, .int (np_i x3)), (4, .int (np_i x4)), (5, .int (np_i x5)), (6, .int (np_i x6))] → W p l e R s m args below meth c H locs 0 0 Q (F0 m 22 ls []) := by
  intro n
  induction n with
  | zero => intro x2 x3 x4 x5 x6 σ H locs ls hf; cases hf
  | succ n ih =>
    intro x2 x3 x4 x5 x6 σ H locs ls hf hat hl
    have h22 := ih
    have hf : f_Chart_countRule_22_b  (fun x2 x3 x4 x5 x6 σ => f_Chart_countRule_22  n x2 x3 x4 x5 x6 σ) x2 x3 x4 x5 x6 σ = some out := hf
    unfold f_Chart_countRule_22_b at hf
    refine lv_iload C.x C.b dd_Chart_countRule_22 (lv_at hl 5 rfl) ?_
    refine lv_iload C.x C.b dd_Chart_countRule_24 (lv_at hl 4 rfl) ?_
    refine np_icmp_gt (tgt := 130) C dd_Chart_countRule_26 (by decide) hf (fun _ hf => ?_) (fun _ hf => ?_)
    · exact hQ _ _ _ _ dd_Chart_countRule_130 hf hat
    · refine lv_aload_n C.x C.b dd_Chart_countRule_29 rfl (lv_at hl 0 rfl) ?_
      refine lv_iload_n C.x C.b dd_Chart_countRule_30 rfl (lv_at hl 1 rfl) ?_
      refine lv_iload_n C.x C.b dd_Chart_countRule_31 rfl (lv_at hl 2 rfl) ?_
      refine lv_iload C.x C.b dd_Chart_countRule_32 (lv_at hl 5 rfl) ?_
      refine np_callVi (As := [.int (np_i x2), .int (np_i x3), .int (np_i x6)]) (rest := []) C (c_Chart_isReached l x2 x3 x6 _) np_allgood tw_779 tw_781 tp_11 tw_5 tw_782 (nA := 3) (by decide +kernel) rfl ⟨rfl, rfl, Nat.le_of_ble_eq_true rfl, Nat.le_of_ble_eq_true rfl⟩ (nc_o11 _) rfl hat rfl hl.1 (Nat.le_of_ble_eq_true rfl) dd_Chart_countRule_34 hf (fun o1 H locs hf hat => ?_)
      refine np_if_eq (tgt := 124) C dd_Chart_countRule_37 (by decide) hf (fun _ hf => ?_) (fun _ hf => ?_)
      · exact w_f_Chart_countRule_124 C hQ h22 _ _ _ _ _ _ _ _ _ hf hat (lv_sub hl [0, 1, 2, 3, 4, 5] rfl)
      · refine lv_aload_n C.x C.b dd_Chart_countRule_40 rfl (lv_at hl 0 rfl) ?_
        refine np_get (v := .ref (q 1)) C i_Chart hat.1 11 (nc_o11 _) rfl 0 (by decide) tw_121 rfl rfl dd_Chart_countRule_41 ?_
        refine np_get (v := .ref (q 2)) C i_Grammar hat.1 1 (nc_o1 _) rfl 0 (by decide) tw_52 rfl rfl dd_Chart_countRule_44 ?_
        refine lv_iload C.x C.b dd_Chart_countRule_47 (lv_at hl 5 rfl) ?_
        refine lv_iconst (v := np_i 1) C.x C.b dd_Chart_countRule_49 rfl ?_
        refine np_isub C dd_Chart_countRule_50 ?_
        refine np_iaload C hat.1 2 (nc_a2 _) 0 rfl (by decide) dd_Chart_countRule_51 hf (fun hf => ?_)
        refine lv_istore (lv' := [(7, .int (np_i (o1.2 2 (x6 - 1)))), (0, .ref (q 11)), (2, .int (np_i x2)), (3, .int (np_i x3)), (4, .int (np_i x4)), (5, .int (np_i x5)), (6, .int (np_i x6))]) C.x C.b dd_Chart_countRule_52 hl (by decide) rfl (fun ls hl => ?_)
        refine lv_iload C.x C.b dd_Chart_countRule_54 (lv_at hl 0 rfl) ?_
        refine lv_iconst (v := np_i (-1)) C.x C.b dd_Chart_countRule_56 rfl ?_
        refine np_icmp_ne (tgt := 91) C dd_Chart_countRule_57 (by decide) hf (fun _ hf => ?_) (fun _ hf => ?_)
        · refine lv_iload C.x C.b dd_Chart_countRule_91 (lv_at hl 6 rfl) ?_
          refine lv_iload C.x C.b dd_Chart_countRule_93 (lv_at hl 4 rfl) ?_
          refine lv_iconst (v := np_i 1) C.x C.b dd_Chart_countRule_95 rfl ?_
          refine np_iadd C dd_Chart_countRule_96 ?_
          refine np_icmp_le (tgt := 124) C dd_Chart_countRule_97 (by decide) hf (fun _ hf => ?_) (fun _ hf => ?_)
          · exact w_f_Chart_countRule_124 C hQ h22 _ _ _ _ _ _ _ _ _ hf hat (lv_sub hl [1, 2, 3, 4, 5, 6] rfl)
          · refine lv_aload_n C.x C.b dd_Chart_countRule_100 rfl (lv_at hl 1 rfl) ?_
            refine np_get (v := .ref (q 13)) C i_Chart hat.1 11 (nc_o11 _) rfl 2 (by decide) tw_123 rfl rfl dd_Chart_countRule_101 ?_
            refine lv_iload_n C.x C.b dd_Chart_countRule_104 rfl (lv_at hl 3 rfl) ?_
            refine lv_bipush (v := np_i 98) C.x C.b dd_Chart_countRule_105 (by decide +kernel) ?_
            refine np_imul C dd_Chart_countRule_107 ?_
            refine lv_iload C.x C.b dd_Chart_countRule_108 (lv_at hl 6 rfl) ?_
            refine np_iadd C dd_Chart_countRule_110 ?_
            refine lv_aload_n C.x C.b dd_Chart_countRule_111 rfl (lv_at hl 1 rfl) ?_
            refine lv_iload C.x C.b dd_Chart_countRule_112 (lv_at hl 6 rfl) ?_
            refine lv_iconst (v := np_i 1) C.x C.b dd_Chart_countRule_114 rfl ?_
            refine np_isub C dd_Chart_countRule_115 ?_
            refine lv_iload C.x C.b dd_Chart_countRule_116 (lv_at hl 0 rfl) ?_
            refine lv_iload_n C.x C.b dd_Chart_countRule_118 rfl (lv_at hl 2 rfl) ?_
            refine lv_iload_n C.x C.b dd_Chart_countRule_119 rfl (lv_at hl 3 rfl) ?_
            refine np_callVi (As := [.int (np_i (x6 - 1)), .int (np_i (o1.2 2 (x6 - 1))), .int (np_i x2), .int (np_i x3)]) (rest := [.int (np_i ((x3 * 98) + x6)), .ref (q 13)]) C (c_Chart_countSplits l (x6 - 1) (o1.2 2 (x6 - 1)) x2 x3 _) np_allgood tw_812 tw_814 tp_17 tw_5 tw_815 (nA := 4) (by decide +kernel) rfl ⟨rfl, rfl, Nat.le_of_ble_eq_true rfl, Nat.le_of_ble_eq_true rfl⟩ (nc_o11 _) rfl hat rfl hl.1 (Nat.le_of_ble_eq_true rfl) dd_Chart_countRule_120 hf (fun o2 H locs hf hat => ?_)
            refine np_iastore C hat 13 (nc_a13 _) 0 rfl (by decide) (nc_s13 _ _ _) dd_Chart_countRule_123 hf (fun H locs hat hf => ?_)
            exact w_f_Chart_countRule_124 C hQ h22 _ _ _ _ _ _ _ _ _ hf hat (lv_sub hl [1, 2, 3, 4, 5, 6] rfl)
        · refine lv_aload_n C.x C.b dd_Chart_countRule_60 rfl (lv_at hl 1 rfl) ?_
          refine np_get (v := .ref (q 13)) C i_Chart hat.1 11 (nc_o11 _) rfl 2 (by decide) tw_123 rfl rfl dd_Chart_countRule_61 ?_
          refine lv_iload_n C.x C.b dd_Chart_countRule_64 rfl (lv_at hl 3 rfl) ?_
          refine lv_bipush (v := np_i 98) C.x C.b dd_Chart_countRule_65 (by decide +kernel) ?_
          refine np_imul C dd_Chart_countRule_67 ?_
          refine lv_iload C.x C.b dd_Chart_countRule_68 (lv_at hl 6 rfl) ?_
          refine np_iadd C dd_Chart_countRule_70 ?_
          refine lv_aload_n C.x C.b dd_Chart_countRule_71 rfl (lv_at hl 1 rfl) ?_
          refine np_get (v := .ref (q 13)) C i_Chart hat.1 11 (nc_o11 _) rfl 2 (by decide) tw_123 rfl rfl dd_Chart_countRule_72 ?_
          refine lv_iload_n C.x C.b dd_Chart_countRule_75 rfl (lv_at hl 3 rfl) ?_
          refine lv_iconst (v := np_i 1) C.x C.b dd_Chart_countRule_76 rfl ?_
          refine np_isub C dd_Chart_countRule_77 ?_
          refine lv_bipush (v := np_i 98) C.x C.b dd_Chart_countRule_78 (by decide +kernel) ?_
          refine np_imul C dd_Chart_countRule_80 ?_
          refine lv_iload C.x C.b dd_Chart_countRule_81 (lv_at hl 6 rfl) ?_
          refine np_iadd C dd_Chart_countRule_83 ?_
          refine lv_iconst (v := np_i 1) C.x C.b dd_Chart_countRule_84 rfl ?_
          refine np_isub C dd_Chart_countRule_85 ?_
          refine np_iaload C hat.1 13 (nc_a13 _) 0 rfl (by decide) dd_Chart_countRule_86 hf (fun hf => ?_)
          refine np_iastore C hat 13 (nc_a13 _) 0 rfl (by decide) (nc_s13 _ _ _) dd_Chart_countRule_87 hf (fun H locs hat hf => ?_)
          refine lv_goto (tgt := 124) C.x C.b dd_Chart_countRule_88 (by decide) ?_
          exact w_f_Chart_countRule_124 C hQ h22 _ _ _ _ _ _ _ _ _ hf hat (lv_sub hl [1, 2, 3, 4, 5, 6] rfl)
set_option maxHeartbeats 4000000 in
set_option maxRecDepth 100000 in
theorem w_f_Chart_countRule (C : np_Cx gA p R s m args c D np_cl (np_ty cI cL cB) A np_al "NotationParse$Chart" prog_2_method_15_code 8 { frames := 2, cells := 0, slots := 0, locals := 50 }) (hQ : ∀ (pc : Nat) (ls : Array Slot) (H : Heap) (locs : List Loc) {σ : np_S}, decode prog_2_method_15_code pc = .ok (.return_, 1) → some ((0 : Int), σ) = some out → np_At D np_cl A (nc_wd q cI cL cB) s σ H locs → W p l e R s m args below meth c H locs 0 0 Q (F0 m pc ls []))   : ∀ (x1 x2 x3 : Int) (σ : np_S) (H : Heap) (locs : List Loc) (ls : Array Slot), f_Chart_countRule  x1 x2 x3 σ = some out → np_At D np_cl A (nc_wd q cI cL cB) s σ H locs → lv_has ls 8 [(0, .ref (q 11)), (1, .int (np_i x1)), (2, .int (np_i x2)), (3, .int (np_i x3))] → W p l e R s m args below meth c H locs 0 0 Q (F0 m 0 ls []) := by
  intro x1 x2 x3 σ H locs ls hf hat hl
  unfold f_Chart_countRule at hf
  refine lv_iload_n C.x C.b dd_Chart_countRule_0 rfl (lv_at hl 1 rfl) ?_
  refine lv_bipush (v := np_i 7) C.x C.b dd_Chart_countRule_1 (by decide +kernel) ?_
  refine np_imul C dd_Chart_countRule_3 ?_
  refine lv_istore (lv' := [(4, .int (np_i (x1 * 7))), (0, .ref (q 11)), (1, .int (np_i x1)), (2, .int (np_i x2)), (3, .int (np_i x3))]) C.x C.b dd_Chart_countRule_4 hl (by decide) rfl (fun ls hl => ?_)
  refine lv_aload_n C.x C.b dd_Chart_countRule_6 rfl (lv_at hl 1 rfl) ?_
  refine np_get (v := .ref (q 1)) C i_Chart hat.1 11 (nc_o11 _) rfl 0 (by decide) tw_121 rfl rfl dd_Chart_countRule_7 ?_
  refine lv_iload_n C.x C.b dd_Chart_countRule_10 rfl (lv_at hl 2 rfl) ?_
  refine np_callVi (As := [.int (np_i x1)]) (rest := []) C (c_Grammar_lastDot l x1 _) np_allgood tw_775 tw_776 tw_777 tw_2 tw_778 (nA := 1) (by decide +kernel) rfl ⟨rfl, rfl, Nat.le_of_ble_eq_true rfl, Nat.le_of_ble_eq_true rfl⟩ (nc_o1 _) rfl hat rfl hl.1 (Nat.le_of_ble_eq_true rfl) dd_Chart_countRule_11 hf (fun o3 H locs hf hat => ?_)
  refine lv_istore (lv' := [(5, .int (np_i o3.1)), (4, .int (np_i (x1 * 7))), (0, .ref (q 11)), (1, .int (np_i x1)), (2, .int (np_i x2)), (3, .int (np_i x3))]) C.x C.b dd_Chart_countRule_14 hl (by decide) rfl (fun ls hl => ?_)
  refine lv_iload C.x C.b dd_Chart_countRule_16 (lv_at hl 1 rfl) ?_
  refine lv_iconst (v := np_i 1) C.x C.b dd_Chart_countRule_18 rfl ?_
  refine np_iadd C dd_Chart_countRule_19 ?_
  refine lv_istore (lv' := [(6, .int (np_i ((x1 * 7) + 1))), (5, .int (np_i o3.1)), (4, .int (np_i (x1 * 7))), (0, .ref (q 11)), (1, .int (np_i x1)), (2, .int (np_i x2)), (3, .int (np_i x3))]) C.x C.b dd_Chart_countRule_20 hl (by decide) rfl (fun ls hl => ?_)
  exact w_f_Chart_countRule_22 C hQ  6000 _ _ _ _ _ _ _ _ _ hf hat (lv_sub hl [3, 5, 6, 2, 1, 0] rfl)
set_option maxHeartbeats 4000000 in
set_option maxRecDepth 100000 in
theorem c_Chart_countRule (l : Launch) {gA : Nat → Nat} {D : va_G} {q : Nat → Nat} {cI cL cB : ClassId} (x1 x2 x3 : Int) (σ : np_S) : np_Mv gA l D np_cl (np_ty cI cL cB) (nc_wd q cI cL cB) yy_Chart_countRule (.code yy_Chart_countRule prog_2_method_15_code 8 none :: np_al) { frames := 2, cells := 0, slots := 0, locals := 50 } [.ref (q 11), .int (np_i x1), .int (np_i x2), .int (np_i x3)] σ (f_Chart_countRule x1 x2 x3 σ) :=
  np_mkv (by decide +kernel) (Nat.le_of_ble_eq_true rfl) (fun o p e R s m args below meth c Q A ls hf C hQ hat hl => w_f_Chart_countRule C hQ x1 x2 x3 σ _ _ _ hf hat (lv_sub hl [0, 1, 2, 3] rfl))
set_option maxHeartbeats 4000000 in
set_option maxRecDepth 100000 in
theorem w_f_Chart_countFrom_46 (C : np_Cx gA p R s m args c D np_cl (np_ty cI cL cB) A np_al "NotationParse$Chart" prog_2_method_14_code 5 { frames := 3, cells := 0, slots := 0, locals := 77 }) (hQ : ∀ (pc : Nat) (ls : Array Slot) (H : Heap) (locs : List Loc) {σ : np_S}, decode prog_2_method_14_code pc = .ok (.return_, 1) → some ((0 : Int), σ) = some out → np_At D np_cl A (nc_wd q cI cL cB) s σ H locs → W p l e R s m args below meth c H locs 0 0 Q (F0 m pc ls [])) {k38 : (Int → Int → Int → np_S → Option np_O)} (h38 : ∀ (x1 x2 x3 : Int) (σ : np_S) (H : Heap) (locs : List Loc) (ls : Array Slot), k38 x1 x2 x3 σ = some out → np_At D np_cl A (nc_wd q cI cL cB) s σ H locs → lv_has ls 5 [(0, .ref (q 11)), (1, .int (np_i x1)), (2, .int (np_i x2)), (3, .int (np_i x3))] → W p l e R s m args below meth c H locs 0 0 Q (F0 m 38 ls [])) : ∀ (n : Nat), ∀ (x1 x2 x3 x4 : Int) (σ : np_S) (H : Heap) (locs : List Loc) (ls : Array Slot), f_Chart_countFrom_46 k38 n x1 x2 x3 x4 σ = some out → np_At D np_cl A (nc_wd q cI cL cB) s σ H locs → lv_has ls 5 [(0, .ref (q 11)), (1, .int (np_i x1)), (2, .int (np_i x2)), (3, .int (np_i x3)), (4, .int (np_i x4))] → W p l e R s m args below meth c H locs 0 0 Q (F0 m 46 ls []) := by
  intro n
  induction n with
  | zero => intro x1 x2 x3 x4 σ H locs ls hf; cases hf
  | succ n ih =>
    intro x1 x2 x3 x4 σ H locs ls hf hat hl
    have h46 := ih
    have hf : f_Chart_countFrom_46_b k38 (fun x1 x2 x3 x4 σ => f_Chart_countFrom_46 k38 n x1 x2 x3 x4 σ) x1 x2 x3 x4 σ = some out := hf
    unfold f_Chart_countFrom_46_b at hf
    refine lv_iload C.x C.b dd_Chart_countFrom_46 (lv_at hl 4 rfl) ?_
    refine lv_aload_n C.x C.b dd_Chart_countFrom_48 rfl (lv_at hl 0 rfl) ?_
    refine np_get (v := .ref (q 1)) C i_Chart hat.1 11 (nc_o11 _) rfl 0 (by decide) tw_121 rfl rfl dd_Chart_countFrom_49 ?_
    refine np_get (v := .int (np_i (σ 1 4))) C i_Grammar hat.1 1 (nc_o1 _) rfl 4 (by decide) tw_61 rfl rfl dd_Chart_countFrom_52 ?_
    refine np_icmp_ge (tgt := 72) C dd_Chart_countFrom_55 (by decide) hf (fun _ hf => ?_) (fun _ hf => ?_)
    · refine lv_aload_n C.x C.b dd_Chart_countFrom_72 rfl (lv_at hl 0 rfl) ?_
      refine lv_iload_n C.x C.b dd_Chart_countFrom_73 rfl (lv_at hl 1 rfl) ?_
      refine lv_iload_n C.x C.b dd_Chart_countFrom_74 rfl (lv_at hl 3 rfl) ?_
      refine np_callVv (As := [.int (np_i x1), .int (np_i x3)]) (rest := []) C (c_Chart_sumTerms l x1 x3 _) np_allgood tw_824 tw_826 tp_19 tw_5 tw_827 (nA := 2) (by decide +kernel) rfl ⟨rfl, rfl, Nat.le_of_ble_eq_true rfl, Nat.le_of_ble_eq_true rfl⟩ (nc_o11 _) rfl hat rfl hl.1 (Nat.le_of_ble_eq_true rfl) dd_Chart_countFrom_75 hf (fun o1 H locs hf hat => ?_)
      refine lv_aload_n C.x C.b dd_Chart_countFrom_78 rfl (lv_at hl 0 rfl) ?_
      refine lv_iload_n C.x C.b dd_Chart_countFrom_79 rfl (lv_at hl 1 rfl) ?_
      refine lv_iload_n C.x C.b dd_Chart_countFrom_80 rfl (lv_at hl 3 rfl) ?_
      refine np_callVv (As := [.int (np_i x1), .int (np_i x3)]) (rest := []) C (c_Chart_countFirstHoles l x1 x3 _) np_allgood tw_834 tw_836 tp_21 tw_5 tw_837 (nA := 2) (by decide +kernel) rfl ⟨rfl, rfl, Nat.le_of_ble_eq_true rfl, Nat.le_of_ble_eq_true rfl⟩ (nc_o11 _) rfl hat rfl hl.1 (Nat.le_of_ble_eq_true rfl) dd_Chart_countFrom_81 hf (fun o2 H locs hf hat => ?_)
      refine lv_iinc (v := np_i (x3 + 1)) (lv' := [(3, .int (np_i (x3 + 1))), (0, .ref (q 11)), (1, .int (np_i x1)), (2, .int (np_i x2)), (4, .int (np_i x4))]) C.x C.b dd_Chart_countFrom_84 hl (k := 3) rfl (np_inc _ _) (by decide) rfl (fun ls hl => ?_)
      refine lv_goto (tgt := 38) C.x C.b dd_Chart_countFrom_87 (by decide) ?_
      exact h38 _ _ _ _ _ _ _ hf hat (lv_sub hl [1, 2, 3, 0] rfl)
    · refine lv_aload_n C.x C.b dd_Chart_countFrom_58 rfl (lv_at hl 0 rfl) ?_
      refine lv_iload C.x C.b dd_Chart_countFrom_59 (lv_at hl 4 rfl) ?_
      refine lv_iload_n C.x C.b dd_Chart_countFrom_61 rfl (lv_at hl 1 rfl) ?_
      refine lv_iload_n C.x C.b dd_Chart_countFrom_62 rfl (lv_at hl 3 rfl) ?_
      refine np_callVv (As := [.int (np_i x4), .int (np_i x1), .int (np_i x3)]) (rest := []) C (c_Chart_countRule l x4 x1 x3 _) np_allgood tw_808 tw_810 tp_16 tw_5 tw_811 (nA := 3) (by decide +kernel) rfl ⟨rfl, rfl, Nat.le_of_ble_eq_true rfl, Nat.le_of_ble_eq_true rfl⟩ (nc_o11 _) rfl hat rfl hl.1 (Nat.le_of_ble_eq_true rfl) dd_Chart_countFrom_63 hf (fun o3 H locs hf hat => ?_)
      refine lv_iinc (v := np_i (x4 + 1)) (lv' := [(4, .int (np_i (x4 + 1))), (0, .ref (q 11)), (1, .int (np_i x1)), (2, .int (np_i x2)), (3, .int (np_i x3))]) C.x C.b dd_Chart_countFrom_66 hl (k := 4) rfl (np_inc _ _) (by decide) rfl (fun ls hl => ?_)
      refine lv_goto (tgt := 46) C.x C.b dd_Chart_countFrom_69 (by decide) ?_
      exact h46 _ _ _ _ _ _ _ _ hf hat (lv_sub hl [1, 2, 3, 4, 0] rfl)
set_option maxHeartbeats 4000000 in
set_option maxRecDepth 100000 in
theorem w_f_Chart_countFrom_38 (C : np_Cx gA p R s m args c D np_cl (np_ty cI cL cB) A np_al "NotationParse$Chart" prog_2_method_14_code 5 { frames := 3, cells := 0, slots := 0, locals := 77 }) (hQ : ∀ (pc : Nat) (ls : Array Slot) (H : Heap) (locs : List Loc) {σ : np_S}, decode prog_2_method_14_code pc = .ok (.return_, 1) → some ((0 : Int), σ) = some out → np_At D np_cl A (nc_wd q cI cL cB) s σ H locs → W p l e R s m args below meth c H locs 0 0 Q (F0 m pc ls []))   : ∀ (n : Nat), ∀ (x1 x2 x3 : Int) (σ : np_S) (H : Heap) (locs : List Loc) (ls : Array Slot), f_Chart_countFrom_38  n x1 x2 x3 σ = some out → np_At D np_cl A (nc_wd q cI cL cB) s σ H locs → lv_has ls 5 [(0, .ref (q 11)), (1, .int (np_i x1)), (2, .int (np_i x2)), (3, .int (np_i x3))] → W p l e R s m args below meth c H locs 0 0 Q (F0 m 38 ls []) := by
  intro n
  induction n with
  | zero => intro x1 x2 x3 σ H locs ls hf; cases hf
  | succ n ih =>
    intro x1 x2 x3 σ H locs ls hf hat hl
    have h38 := ih
    have hf : f_Chart_countFrom_38_b  (fun x1 x2 x3 σ => f_Chart_countFrom_38  n x1 x2 x3 σ) x1 x2 x3 σ = some out := hf
    unfold f_Chart_countFrom_38_b at hf
    refine lv_iload_n C.x C.b dd_Chart_countFrom_38 rfl (lv_at hl 3 rfl) ?_
    refine lv_iload_n C.x C.b dd_Chart_countFrom_39 rfl (lv_at hl 2 rfl) ?_
    refine np_icmp_gt (tgt := 90) C dd_Chart_countFrom_40 (by decide) hf (fun _ hf => ?_) (fun _ hf => ?_)
    · exact hQ _ _ _ _ dd_Chart_countFrom_90 hf hat
    · refine lv_iconst (v := np_i 0) C.x C.b dd_Chart_countFrom_43 rfl ?_
      refine lv_istore (lv' := [(4, .int (np_i 0)), (0, .ref (q 11)), (1, .int (np_i x1)), (2, .int (np_i x2)), (3, .int (np_i x3))]) C.x C.b dd_Chart_countFrom_44 hl (by decide) rfl (fun ls hl => ?_)
      exact w_f_Chart_countFrom_46 C hQ h38 6000 _ _ _ _ _ _ _ _ hf hat (lv_sub hl [1, 2, 3, 4, 0] rfl)
set_option maxHeartbeats 4000000 in
set_option maxRecDepth 100000 in
theorem w_f_Chart_countFrom_2 (C : np_Cx gA p R s m args c D np_cl (np_ty cI cL cB) A np_al "NotationParse$Chart" prog_2_method_14_code 5 { frames := 3, cells := 0, slots := 0, locals := 77 }) (hQ : ∀ (pc : Nat) (ls : Array Slot) (H : Heap) (locs : List Loc) {σ : np_S}, decode prog_2_method_14_code pc = .ok (.return_, 1) → some ((0 : Int), σ) = some out → np_At D np_cl A (nc_wd q cI cL cB) s σ H locs → W p l e R s m args below meth c H locs 0 0 Q (F0 m pc ls []))   : ∀ (n : Nat), ∀ (x1 x2 x3 : Int) (σ : np_S) (H : Heap) (locs : List Loc) (ls : Array Slot), f_Chart_countFrom_2  n x1 x2 x3 σ = some out → np_At D np_cl A (nc_wd q cI cL cB) s σ H locs → lv_has ls 5 [(0, .ref (q 11)), (1, .int (np_i x1)), (2, .int (np_i x2)), (3, .int (np_i x3))] → W p l e R s m args below meth c H locs 0 0 Q (F0 m 2 ls []) := by
  intro n
  induction n with
  | zero => intro x1 x2 x3 σ H locs ls hf; cases hf
  | succ n ih =>
    intro x1 x2 x3 σ H locs ls hf hat hl
    have h2 := ih
    have hf : f_Chart_countFrom_2_b  (fun x1 x2 x3 σ => f_Chart_countFrom_2  n x1 x2 x3 σ) x1 x2 x3 σ = some out := hf
    unfold f_Chart_countFrom_2_b at hf
    refine lv_iload_n C.x C.b dd_Chart_countFrom_2 rfl (lv_at hl 3 rfl) ?_
    refine lv_aload_n C.x C.b dd_Chart_countFrom_3 rfl (lv_at hl 0 rfl) ?_
    refine np_get (v := .ref (q 1)) C i_Chart hat.1 11 (nc_o11 _) rfl 0 (by decide) tw_121 rfl rfl dd_Chart_countFrom_4 ?_
    refine np_get (v := .int (np_i (σ 1 4))) C i_Grammar hat.1 1 (nc_o1 _) rfl 4 (by decide) tw_61 rfl rfl dd_Chart_countFrom_7 ?_
    refine np_icmp_ge (tgt := 34) C dd_Chart_countFrom_10 (by decide) hf (fun _ hf => ?_) (fun _ hf => ?_)
    · refine lv_iload_n C.x C.b dd_Chart_countFrom_34 rfl (lv_at hl 1 rfl) ?_
      refine lv_iconst (v := np_i 1) C.x C.b dd_Chart_countFrom_35 rfl ?_
      refine np_iadd C dd_Chart_countFrom_36 ?_
      refine lv_istore_n (lv' := [(3, .int (np_i (x1 + 1))), (0, .ref (q 11)), (1, .int (np_i x1)), (2, .int (np_i x2))]) C.x C.b dd_Chart_countFrom_37 rfl hl (by decide) rfl (fun ls hl => ?_)
      exact w_f_Chart_countFrom_38 C hQ  6000 _ _ _ _ _ _ _ hf hat (lv_sub hl [1, 2, 3, 0] rfl)
    · refine lv_aload_n C.x C.b dd_Chart_countFrom_13 rfl (lv_at hl 0 rfl) ?_
      refine np_get (v := .ref (q 13)) C i_Chart hat.1 11 (nc_o11 _) rfl 2 (by decide) tw_123 rfl rfl dd_Chart_countFrom_14 ?_
      refine lv_iload_n C.x C.b dd_Chart_countFrom_17 rfl (lv_at hl 1 rfl) ?_
      refine lv_bipush (v := np_i 98) C.x C.b dd_Chart_countFrom_18 (by decide +kernel) ?_
      refine np_imul C dd_Chart_countFrom_20 ?_
      refine lv_iload_n C.x C.b dd_Chart_countFrom_21 rfl (lv_at hl 3 rfl) ?_
      refine lv_bipush (v := np_i 7) C.x C.b dd_Chart_countFrom_22 (by decide +kernel) ?_
      refine np_imul C dd_Chart_countFrom_24 ?_
      refine np_iadd C dd_Chart_countFrom_25 ?_
      refine lv_iconst (v := np_i 1) C.x C.b dd_Chart_countFrom_26 rfl ?_
      refine np_iastore C hat 13 (nc_a13 _) 0 rfl (by decide) (nc_s13 _ _ _) dd_Chart_countFrom_27 hf (fun H locs hat hf => ?_)
      refine lv_iinc (v := np_i (x3 + 1)) (lv' := [(3, .int (np_i (x3 + 1))), (0, .ref (q 11)), (1, .int (np_i x1)), (2, .int (np_i x2))]) C.x C.b dd_Chart_countFrom_28 hl (k := 3) rfl (np_inc _ _) (by decide) rfl (fun ls hl => ?_)
      refine lv_goto (tgt := 2) C.x C.b dd_Chart_countFrom_31 (by decide) ?_
      exact h2 _ _ _ _ _ _ _ hf hat (lv_sub hl [1, 2, 3, 0] rfl)
set_option maxHeartbeats 4000000 in
set_option maxRecDepth 100000 in
theorem w_f_Chart_countFrom (C : np_Cx gA p R s m args c D np_cl (np_ty cI cL cB) A np_al "NotationParse$Chart" prog_2_method_14_code 5 { frames := 3, cells := 0, slots := 0, locals := 77 }) (hQ : ∀ (pc : Nat) (ls : Array Slot) (H : Heap) (locs : List Loc) {σ : np_S}, decode prog_2_method_14_code pc = .ok (.return_, 1) → some ((0 : Int), σ) = some out → np_At D np_cl A (nc_wd q cI cL cB) s σ H locs → W p l e R s m args below meth c H locs 0 0 Q (F0 m pc ls []))   : ∀ (x1 x2 : Int) (σ : np_S) (H : Heap) (locs : List Loc) (ls : Array Slot), f_Chart_countFrom  x1 x2 σ = some out → np_At D np_cl A (nc_wd q cI cL cB) s σ H locs → lv_has ls 5 [(0, .ref (q 11)), (1, .int (np_i x1)), (2, .int (np_i x2))] → W p l e R s m args below meth c H locs 0 0 Q (F0 m 0 ls []) := by
  intro x1 x2 σ H locs ls hf hat hl
  unfold f_Chart_countFrom at hf
  refine lv_iconst (v := np_i 0) C.x C.b dd_Chart_countFrom_0 rfl ?_
  refine lv_istore_n (lv' := [(3, .int (np_i 0)), (0, .ref (q 11)), (1, .int (np_i x1)), (2, .int (np_i x2))]) C.x C.b dd_Chart_countFrom_1 rfl hl (by decide) rfl (fun ls hl => ?_)
  exact w_f_Chart_countFrom_2 C hQ  6000 _ _ _ _ _ _ _ hf hat (lv_sub hl [1, 2, 3, 0] rfl)
set_option maxHeartbeats 4000000 in
set_option maxRecDepth 100000 in
theorem c_Chart_countFrom (l : Launch) {gA : Nat → Nat} {D : va_G} {q : Nat → Nat} {cI cL cB : ClassId} (x1 x2 : Int) (σ : np_S) : np_Mv gA l D np_cl (np_ty cI cL cB) (nc_wd q cI cL cB) yy_Chart_countFrom (.code yy_Chart_countFrom prog_2_method_14_code 5 none :: np_al) { frames := 3, cells := 0, slots := 0, locals := 77 } [.ref (q 11), .int (np_i x1), .int (np_i x2)] σ (f_Chart_countFrom x1 x2 σ) :=
  np_mkv (by decide +kernel) (Nat.le_of_ble_eq_true rfl) (fun o p e R s m args below meth c Q A ls hf C hQ hat hl => w_f_Chart_countFrom C hQ x1 x2 σ _ _ _ hf hat (lv_sub hl [0, 1, 2] rfl))
set_option maxHeartbeats 4000000 in
set_option maxRecDepth 100000 in
theorem w_f_Chart_countTrees_52 (C : np_Cx gA p R s m args c D np_cl (np_ty cI cL cB) A np_al "NotationParse$Chart" prog_2_method_13_code 3 { frames := 4, cells := 0, slots := 0, locals := 101 }) (hQ : ∀ (pc : Nat) (ls : Array Slot) (H : Heap) (locs : List Loc) (v : Int) {σ : np_S}, decode prog_2_method_13_code pc = .ok (.ireturn, 1) → some (v, σ) = some out → np_At D np_cl A (nc_wd q cI cL cB) s σ H locs → W p l e R s m args below meth c H locs 0 0 Q (F0 m pc ls [.int (np_i v)]))   : ∀ (t0 : Int) (σ : np_S) (H : Heap) (locs : List Loc) (ls : Array Slot), f_Chart_countTrees_52  t0 σ = some out → np_At D np_cl A (nc_wd q cI cL cB) s σ H locs → lv_has ls 3 [] → W p l e R s m args below meth c H locs 0 0 Q (F0 m 52 ls [.int (np_i t0)]) := by
  intro t0 σ H locs ls hf hat hl
  unfold f_Chart_countTrees_52 at hf
  exact hQ _ _ _ _ _ dd_Chart_countTrees_52 hf hat
set_option maxHeartbeats 4000000 in
set_option maxRecDepth 100000 in
theorem w_f_Chart_countTrees_25 (C : np_Cx gA p R s m args c D np_cl (np_ty cI cL cB) A np_al "NotationParse$Chart" prog_2_method_13_code 3 { frames := 4, cells := 0, slots := 0, locals := 101 }) (hQ : ∀ (pc : Nat) (ls : Array Slot) (H : Heap) (locs : List Loc) (v : Int) {σ : np_S}, decode prog_2_method_13_code pc = .ok (.ireturn, 1) → some (v, σ) = some out → np_At D np_cl A (nc_wd q cI cL cB) s σ H locs → W p l e R s m args below meth c H locs 0 0 Q (F0 m pc ls [.int (np_i v)])) {k4 : (Int → Int → np_S → Option np_O)} (h4 : ∀ (x1 x2 : Int) (σ : np_S) (H : Heap) (locs : List Loc) (ls : Array Slot), k4 x1 x2 σ = some out → np_At D np_cl A (nc_wd q cI cL cB) s σ H locs → lv_has ls 3 [(0, .ref (q 11)), (1, .int (np_i x1)), (2, .int (np_i x2))] → W p l e R s m args below meth c H locs 0 0 Q (F0 m 4 ls [])) : ∀ (x1 x2 : Int) (σ : np_S) (H : Heap) (locs : List Loc) (ls : Array Slot), f_Chart_countTrees_25 k4 x1 x2 σ = some out → np_At D np_cl A (nc_wd q cI cL cB) s σ H locs → lv_has ls 3 [(0, .ref (q 11)), (1, .int (np_i x1)), (2, .int (np_i x2))] → W p l e R s m args below meth c H locs 0 0 Q (F0 m 25 ls []) := by
  intro x1 x2 σ H locs ls hf hat hl
  unfold f_Chart_countTrees_25 at hf
  refine lv_iinc (v := np_i (x2 + (-1))) (lv' := [(2, .int (np_i (x2 + (-1)))), (0, .ref (q 11)), (1, .int (np_i x1))]) C.x C.b dd_Chart_countTrees_25 hl (k := 2) rfl (np_inc _ _) (by decide) rfl (fun ls hl => ?_)
  refine lv_goto (tgt := 4) C.x C.b dd_Chart_countTrees_28 (by decide) ?_
  exact h4 _ _ _ _ _ _ hf hat (lv_sub hl [1, 2, 0] rfl)
set_option maxHeartbeats 4000000 in
set_option maxRecDepth 100000 in
theorem w_f_Chart_countTrees_4 (C : np_Cx gA p R s m args c D np_cl (np_ty cI cL cB) A np_al "NotationParse$Chart" prog_2_method_13_code 3 { frames := 4, cells := 0, slots := 0, locals := 101 }) (hQ : ∀ (pc : Nat) (ls : Array Slot) (H : Heap) (locs : List Loc) (v : Int) {σ : np_S}, decode prog_2_method_13_code pc = .ok (.ireturn, 1) → some (v, σ) = some out → np_At D np_cl A (nc_wd q cI cL cB) s σ H locs → W p l e R s m args below meth c H locs 0 0 Q (F0 m pc ls [.int (np_i v)]))   : ∀ (n : Nat), ∀ (x1 x2 : Int) (σ : np_S) (H : Heap) (locs : List Loc) (ls : Array Slot), f_Chart_countTrees_4  n x1 x2 σ = some out → np_At D np_cl A (nc_wd q cI cL cB) s σ H locs → lv_has ls 3 [(0, .ref (q 11)), (1, .int (np_i x1)), (2, .int (np_i x2))] → W p l e R s m args below meth c H locs 0 0 Q (F0 m 4 ls []) := by
  intro n
  induction n with
  | zero => intro x1 x2 σ H locs ls hf; cases hf
  | succ n ih =>
    intro x1 x2 σ H locs ls hf hat hl
    have h4 := ih
    have hf : f_Chart_countTrees_4_b  (fun x1 x2 σ => f_Chart_countTrees_4  n x1 x2 σ) x1 x2 σ = some out := hf
    unfold f_Chart_countTrees_4_b at hf
    refine lv_iload_n C.x C.b dd_Chart_countTrees_4 rfl (lv_at hl 2 rfl) ?_
    refine np_if_lt (tgt := 31) C dd_Chart_countTrees_5 (by decide) hf (fun _ hf => ?_) (fun _ hf => ?_)
    · refine lv_iload_n C.x C.b dd_Chart_countTrees_31 rfl (lv_at hl 1 rfl) ?_
      refine lv_iconst (v := np_i 1) C.x C.b dd_Chart_countTrees_32 rfl ?_
      refine np_icmp_ge (tgt := 40) C dd_Chart_countTrees_33 (by decide) hf (fun _ hf => ?_) (fun _ hf => ?_)
      · refine lv_aload_n C.x C.b dd_Chart_countTrees_40 rfl (lv_at hl 0 rfl) ?_
        refine np_get (v := .ref (q 14)) C i_Chart hat.1 11 (nc_o11 _) rfl 3 (by decide) tw_124 rfl rfl dd_Chart_countTrees_41 ?_
        refine lv_aload_n C.x C.b dd_Chart_countTrees_44 rfl (lv_at hl 0 rfl) ?_
        refine lv_iconst (v := np_i 0) C.x C.b dd_Chart_countTrees_45 rfl ?_
        refine lv_iload_n C.x C.b dd_Chart_countTrees_46 rfl (lv_at hl 1 rfl) ?_
        refine lv_iconst (v := np_i 0) C.x C.b dd_Chart_countTrees_47 rfl ?_
        refine np_callVi (As := [.int (np_i 0), .int (np_i x1), .int (np_i 0)]) (rest := [.ref (q 14)]) C (c_Chart_cell l 0 x1 0 _) np_allgood tw_816 tw_818 tp_18 tw_5 tw_819 (nA := 3) (by decide +kernel) rfl ⟨rfl, rfl, Nat.le_of_ble_eq_true rfl, Nat.le_of_ble_eq_true rfl⟩ (nc_o11 _) rfl hat rfl hl.1 (Nat.le_of_ble_eq_true rfl) dd_Chart_countTrees_48 hf (fun o1 H locs hf hat => ?_)
        refine np_iaload C hat.1 14 (nc_a14 _) 0 rfl (by decide) dd_Chart_countTrees_51 hf (fun hf => ?_)
        exact w_f_Chart_countTrees_52 C hQ  _ _ _ _ _ hf hat (lv_sub hl [] rfl)
      · refine lv_iconst (v := np_i 0) C.x C.b dd_Chart_countTrees_36 rfl ?_
        refine lv_goto (tgt := 52) C.x C.b dd_Chart_countTrees_37 (by decide) ?_
        exact w_f_Chart_countTrees_52 C hQ  _ _ _ _ _ hf hat (lv_sub hl [] rfl)
    · refine lv_aload_n C.x C.b dd_Chart_countTrees_8 rfl (lv_at hl 0 rfl) ?_
      refine lv_iload_n C.x C.b dd_Chart_countTrees_9 rfl (lv_at hl 2 rfl) ?_
      refine lv_iload_n C.x C.b dd_Chart_countTrees_10 rfl (lv_at hl 2 rfl) ?_
      refine lv_bipush (v := np_i 7) C.x C.b dd_Chart_countTrees_11 (by decide +kernel) ?_
      refine np_callVi (As := [.int (np_i x2), .int (np_i x2), .int (np_i 7)]) (rest := []) C (c_Chart_isReached l x2 x2 7 _) np_allgood tw_779 tw_781 tp_11 tw_5 tw_782 (nA := 3) (by decide +kernel) rfl ⟨rfl, rfl, Nat.le_of_ble_eq_true rfl, Nat.le_of_ble_eq_true rfl⟩ (nc_o11 _) rfl hat rfl hl.1 (Nat.le_of_ble_eq_true rfl) dd_Chart_countTrees_13 hf (fun o2 H locs hf hat => ?_)
      refine np_if_eq (tgt := 25) C dd_Chart_countTrees_16 (by decide) hf (fun _ hf => ?_) (fun _ hf => ?_)
      · exact w_f_Chart_countTrees_25 C hQ h4 _ _ _ _ _ _ hf hat (lv_sub hl [0, 1, 2] rfl)
      · refine lv_aload_n C.x C.b dd_Chart_countTrees_19 rfl (lv_at hl 0 rfl) ?_
        refine lv_iload_n C.x C.b dd_Chart_countTrees_20 rfl (lv_at hl 2 rfl) ?_
        refine lv_iload_n C.x C.b dd_Chart_countTrees_21 rfl (lv_at hl 1 rfl) ?_
        refine np_callVv (As := [.int (np_i x2), .int (np_i x1)]) (rest := []) C (c_Chart_countFrom l x2 x1 _) np_allgood tw_804 tw_806 tp_15 tw_5 tw_807 (nA := 2) (by decide +kernel) rfl ⟨rfl, rfl, Nat.le_of_ble_eq_true rfl, Nat.le_of_ble_eq_true rfl⟩ (nc_o11 _) rfl hat rfl hl.1 (Nat.le_of_ble_eq_true rfl) dd_Chart_countTrees_22 hf (fun o3 H locs hf hat => ?_)
        exact w_f_Chart_countTrees_25 C hQ h4 _ _ _ _ _ _ hf hat (lv_sub hl [0, 1, 2] rfl)
set_option maxHeartbeats 4000000 in
set_option maxRecDepth 100000 in
theorem w_f_Chart_countTrees (C : np_Cx gA p R s m args c D np_cl (np_ty cI cL cB) A np_al "NotationParse$Chart" prog_2_method_13_code 3 { frames := 4, cells := 0, slots := 0, locals := 101 }) (hQ : ∀ (pc : Nat) (ls : Array Slot) (H : Heap) (locs : List Loc) (v : Int) {σ : np_S}, decode prog_2_method_13_code pc = .ok (.ireturn, 1) → some (v, σ) = some out → np_At D np_cl A (nc_wd q cI cL cB) s σ H locs → W p l e R s m args below meth c H locs 0 0 Q (F0 m pc ls [.int (np_i v)]))   : ∀ (x1 : Int) (σ : np_S) (H : Heap) (locs : List Loc) (ls : Array Slot), f_Chart_countTrees  x1 σ = some out → np_At D np_cl A (nc_wd q cI cL cB) s σ H locs → lv_has ls 3 [(0, .ref (q 11)), (1, .int (np_i x1))] → W p l e R s m args below meth c H locs 0 0 Q (F0 m 0 ls []) := by
  intro x1 σ H locs ls hf hat hl
  unfold f_Chart_countTrees at hf
  refine lv_iload_n C.x C.b dd_Chart_countTrees_0 rfl (lv_at hl 1 rfl) ?_
  refine lv_iconst (v := np_i 1) C.x C.b dd_Chart_countTrees_1 rfl ?_
  refine np_isub C dd_Chart_countTrees_2 ?_
  refine lv_istore_n (lv' := [(2, .int (np_i (x1 - 1))), (0, .ref (q 11)), (1, .int (np_i x1))]) C.x C.b dd_Chart_countTrees_3 rfl hl (by decide) rfl (fun ls hl => ?_)
  exact w_f_Chart_countTrees_4 C hQ  6000 _ _ _ _ _ _ hf hat (lv_sub hl [1, 2, 0] rfl)
set_option maxHeartbeats 4000000 in
set_option maxRecDepth 100000 in
theorem c_Chart_countTrees (l : Launch) {gA : Nat → Nat} {D : va_G} {q : Nat → Nat} {cI cL cB : ClassId} (x1 : Int) (σ : np_S) : np_Mi gA l D np_cl (np_ty cI cL cB) (nc_wd q cI cL cB) yy_Chart_countTrees (.code yy_Chart_countTrees prog_2_method_13_code 3 (some .int) :: np_al) { frames := 4, cells := 0, slots := 0, locals := 101 } [.ref (q 11), .int (np_i x1)] σ (f_Chart_countTrees x1 σ) :=
  np_mki (by decide +kernel) (Nat.le_of_ble_eq_true rfl) (fun o p e R s m args below meth c Q A ls hf C hQ hat hl => w_f_Chart_countTrees C hQ x1 σ _ _ _ hf hat (lv_sub hl [0, 1] rfl))
set_option maxHeartbeats 4000000 in
set_option maxRecDepth 100000 in
theorem w_f_Chart_onlyRule_51 (C : np_Cx gA p R s m args c D np_cl (np_ty cI cL cB) A np_al "NotationParse$Chart" prog_2_method_21_code 5 { frames := 1, cells := 0, slots := 0, locals := 23 }) (hQ : ∀ (pc : Nat) (ls : Array Slot) (H : Heap) (locs : List Loc) (v : Int) {σ : np_S}, decode prog_2_method_21_code pc = .ok (.ireturn, 1) → some (v, σ) = some out → np_At D np_cl A (nc_wd q cI cL cB) s σ H locs → W p l e R s m args below meth c H locs 0 0 Q (F0 m pc ls [.int (np_i v)])) {k11 : (Int → Int → Int → Int → np_S → Option np_O)} (h11 : ∀ (x1 x2 x3 x4 : Int) (σ : np_S) (H : Heap) (locs : List Loc) (ls : Array Slot), k11 x1 x2 x3 x4 σ = some out → np_At D np_cl A (nc_wd q cI cL cB) s σ H locs → lv_has ls 5 [(0, .ref (q 11)), (1, .int (np_i x1)), (2, .int (np_i x2)), (3, .int (np_i x3)), (4, .int (np_i x4))] → W p l e R s m args below meth c H locs 0 0 Q (F0 m 11 ls [])) : ∀ (x1 x2 x3 x4 : Int) (σ : np_S) (H : Heap) (locs : List Loc) (ls : Array Slot), f_Chart_onlyRule_51 k11 x1 x2 x3 x4 σ = some out → np_At D np_cl A (nc_wd q cI cL cB) s σ H locs → lv_has ls 5 [(0, .ref (q 11)), (1, .int (np_i x1)), (2, .int (np_i x2)), (3, .int (np_i x3)), (4, .int (np_i x4))] → W p l e R s m args below meth c H locs 0 0 Q (F0 m 51 ls []) := by
  intro x1 x2 x3 x4 σ H locs ls hf hat hl
  unfold f_Chart_onlyRule_51 at hf
  refine lv_iinc (v := np_i (x4 + (-1))) (lv' := [(4, .int (np_i (x4 + (-1)))), (0, .ref (q 11)), (1, .int (np_i x1)), (2, .int (np_i x2)), (3, .int (np_i x3))]) C.x C.b dd_Chart_onlyRule_51 hl (k := 4) rfl (np_inc _ _) (by decide) rfl (fun ls hl => ?_)
  refine lv_goto (tgt := 11) C.x C.b dd_Chart_onlyRule_54 (by decide) ?_
  exact h11 _ _ _ _ _ _ _ _ hf hat (lv_sub hl [1, 2, 3, 4, 0] rfl)
set_option maxHeartbeats 4000000 in
set_option maxRecDepth 100000 in
theorem w_f_Chart_onlyRule_11 (C : np_Cx gA p R s m args c D np_cl (np_ty cI cL cB) A np_al "NotationParse$Chart" prog_2_method_21_code 5 { frames := 1, cells := 0, slots := 0, locals := 23 }) (hQ : ∀ (pc : Nat) (ls : Array Slot) (H : Heap) (locs : List Loc) (v : Int) {σ : np_S}, decode prog_2_method_21_code pc = .ok (.ireturn, 1) → some (v, σ) = some out → np_At D np_cl A (nc_wd q cI cL cB) s σ H locs → W p l e R s m args below meth c H locs 0 0 Q (F0 m pc ls [.int (np_i v)]))   : ∀ (n : Nat), ∀ (x1 x2 x3 x4 : Int) (σ : np_S) (H : Heap) (locs : List Loc) (ls : Array Slot), f_Chart_onlyRule_11  n x1 x2 x3 x4 σ = some out → np_At D np_cl A (nc_wd q cI cL cB) s σ H locs → lv_has ls 5 [(0, .ref (q 11)), (1, .int (np_i x1)), (2, .int (np_i x2)), (3, .int (np_i x3)), (4, .int (np_i x4))] → W p l e R s m args below meth c H locs 0 0 Q (F0 m 11 ls []) := by
  intro n
  induction n with
  | zero => intro x1 x2 x3 x4 σ H locs ls hf; cases hf
  | succ n ih =>
    intro x1 x2 x3 x4 σ H locs ls hf hat hl
    have h11 := ih
    have hf : f_Chart_onlyRule_11_b  (fun x1 x2 x3 x4 σ => f_Chart_onlyRule_11  n x1 x2 x3 x4 σ) x1 x2 x3 x4 σ = some out := hf
    unfold f_Chart_onlyRule_11_b at hf
    refine lv_iload C.x C.b dd_Chart_onlyRule_11 (lv_at hl 4 rfl) ?_
    refine np_if_le (tgt := 57) C dd_Chart_onlyRule_13 (by decide) hf (fun _ hf => ?_) (fun _ hf => ?_)
    · refine lv_iconst (v := np_i 0) C.x C.b dd_Chart_onlyRule_57 rfl ?_
      exact hQ _ _ _ _ _ dd_Chart_onlyRule_58 hf hat
    · refine lv_aload_n C.x C.b dd_Chart_onlyRule_16 rfl (lv_at hl 0 rfl) ?_
      refine np_get (v := .ref (q 1)) C i_Chart hat.1 11 (nc_o11 _) rfl 0 (by decide) tw_121 rfl rfl dd_Chart_onlyRule_17 ?_
      refine np_get (v := .ref (q 4)) C i_Grammar hat.1 1 (nc_o1 _) rfl 2 (by decide) tw_56 rfl rfl dd_Chart_onlyRule_20 ?_
      refine lv_iload C.x C.b dd_Chart_onlyRule_23 (lv_at hl 4 rfl) ?_
      refine np_iaload C hat.1 4 (nc_a4 _) 0 rfl (by decide) dd_Chart_onlyRule_25 hf (fun hf => ?_)
      refine lv_iload_n C.x C.b dd_Chart_onlyRule_26 rfl (lv_at hl 3 rfl) ?_
      refine np_icmp_lt (tgt := 51) C dd_Chart_onlyRule_27 (by decide) hf (fun _ hf => ?_) (fun _ hf => ?_)
      · exact w_f_Chart_onlyRule_51 C hQ h11 _ _ _ _ _ _ _ _ hf hat (lv_sub hl [0, 1, 2, 3, 4] rfl)
      · refine lv_aload_n C.x C.b dd_Chart_onlyRule_30 rfl (lv_at hl 0 rfl) ?_
        refine lv_iload_n C.x C.b dd_Chart_onlyRule_31 rfl (lv_at hl 1 rfl) ?_
        refine lv_iload_n C.x C.b dd_Chart_onlyRule_32 rfl (lv_at hl 2 rfl) ?_
        refine lv_aload_n C.x C.b dd_Chart_onlyRule_33 rfl (lv_at hl 0 rfl) ?_
        refine np_get (v := .ref (q 1)) C i_Chart hat.1 11 (nc_o11 _) rfl 0 (by decide) tw_121 rfl rfl dd_Chart_onlyRule_34 ?_
        refine lv_iload C.x C.b dd_Chart_onlyRule_37 (lv_at hl 4 rfl) ?_
        refine np_callVi (As := [.int (np_i x4)]) (rest := [.int (np_i x2), .int (np_i x1), .ref (q 11)]) C (c_Grammar_lastDot l x4 _) np_allgood tw_775 tw_776 tw_777 tw_2 tw_778 (nA := 1) (by decide +kernel) rfl ⟨rfl, rfl, Nat.le_of_ble_eq_true rfl, Nat.le_of_ble_eq_true rfl⟩ (nc_o1 _) rfl hat rfl hl.1 (Nat.le_of_ble_eq_true rfl) dd_Chart_onlyRule_39 hf (fun o1 H locs hf hat => ?_)
        refine np_callVi (As := [.int (np_i x1), .int (np_i x2), .int (np_i o1.1)]) (rest := []) C (c_Chart_isReached l x1 x2 o1.1 _) np_allgood tw_779 tw_781 tp_11 tw_5 tw_782 (nA := 3) (by decide +kernel) rfl ⟨rfl, rfl, Nat.le_of_ble_eq_true rfl, Nat.le_of_ble_eq_true rfl⟩ (nc_o11 _) rfl hat rfl hl.1 (Nat.le_of_ble_eq_true rfl) dd_Chart_onlyRule_42 hf (fun o2 H locs hf hat => ?_)
        refine np_if_eq (tgt := 51) C dd_Chart_onlyRule_45 (by decide) hf (fun _ hf => ?_) (fun _ hf => ?_)
        · exact w_f_Chart_onlyRule_51 C hQ h11 _ _ _ _ _ _ _ _ hf hat (lv_sub hl [0, 1, 2, 3, 4] rfl)
        · refine lv_iload C.x C.b dd_Chart_onlyRule_48 (lv_at hl 4 rfl) ?_
          exact hQ _ _ _ _ _ dd_Chart_onlyRule_50 hf hat
set_option maxHeartbeats 4000000 in
set_option maxRecDepth 100000 in
theorem w_f_Chart_onlyRule (C : np_Cx gA p R s m args c D np_cl (np_ty cI cL cB) A np_al "NotationParse$Chart" prog_2_method_21_code 5 { frames := 1, cells := 0, slots := 0, locals := 23 }) (hQ : ∀ (pc : Nat) (ls : Array Slot) (H : Heap) (locs : List Loc) (v : Int) {σ : np_S}, decode prog_2_method_21_code pc = .ok (.ireturn, 1) → some (v, σ) = some out → np_At D np_cl A (nc_wd q cI cL cB) s σ H locs → W p l e R s m args below meth c H locs 0 0 Q (F0 m pc ls [.int (np_i v)]))   : ∀ (x1 x2 x3 : Int) (σ : np_S) (H : Heap) (locs : List Loc) (ls : Array Slot), f_Chart_onlyRule  x1 x2 x3 σ = some out → np_At D np_cl A (nc_wd q cI cL cB) s σ H locs → lv_has ls 5 [(0, .ref (q 11)), (1, .int (np_i x1)), (2, .int (np_i x2)), (3, .int (np_i x3))] → W p l e R s m args below meth c H locs 0 0 Q (F0 m 0 ls []) := by
  intro x1 x2 x3 σ H locs ls hf hat hl
  unfold f_Chart_onlyRule at hf
  refine lv_aload_n C.x C.b dd_Chart_onlyRule_0 rfl (lv_at hl 0 rfl) ?_
  refine np_get (v := .ref (q 1)) C i_Chart hat.1 11 (nc_o11 _) rfl 0 (by decide) tw_121 rfl rfl dd_Chart_onlyRule_1 ?_
  refine np_get (v := .int (np_i (σ 1 4))) C i_Grammar hat.1 1 (nc_o1 _) rfl 4 (by decide) tw_61 rfl rfl dd_Chart_onlyRule_4 ?_
  refine lv_iconst (v := np_i 1) C.x C.b dd_Chart_onlyRule_7 rfl ?_
  refine np_isub C dd_Chart_onlyRule_8 ?_
  refine lv_istore (lv' := [(4, .int (np_i ((σ 1 4) - 1))), (0, .ref (q 11)), (1, .int (np_i x1)), (2, .int (np_i x2)), (3, .int (np_i x3))]) C.x C.b dd_Chart_onlyRule_9 hl (by decide) rfl (fun ls hl => ?_)
  exact w_f_Chart_onlyRule_11 C hQ  6000 _ _ _ _ _ _ _ _ hf hat (lv_sub hl [1, 2, 3, 4, 0] rfl)
set_option maxHeartbeats 4000000 in
set_option maxRecDepth 100000 in
theorem c_Chart_onlyRule (l : Launch) {gA : Nat → Nat} {D : va_G} {q : Nat → Nat} {cI cL cB : ClassId} (x1 x2 x3 : Int) (σ : np_S) : np_Mi gA l D np_cl (np_ty cI cL cB) (nc_wd q cI cL cB) yy_Chart_onlyRule (.code yy_Chart_onlyRule prog_2_method_21_code 5 (some .int) :: np_al) { frames := 1, cells := 0, slots := 0, locals := 23 } [.ref (q 11), .int (np_i x1), .int (np_i x2), .int (np_i x3)] σ (f_Chart_onlyRule x1 x2 x3 σ) :=
  np_mki (by decide +kernel) (Nat.le_of_ble_eq_true rfl) (fun o p e R s m args below meth c Q A ls hf C hQ hat hl => w_f_Chart_onlyRule C hQ x1 x2 x3 σ _ _ _ hf hat (lv_sub hl [0, 1, 2, 3] rfl))
set_option maxHeartbeats 4000000 in
set_option maxRecDepth 100000 in
theorem w_f_Chart_onlySplit_53 (C : np_Cx gA p R s m args c D np_cl (np_ty cI cL cB) A np_al "NotationParse$Chart" prog_2_method_22_code 6 { frames := 1, cells := 0, slots := 0, locals := 23 }) (hQ : ∀ (pc : Nat) (ls : Array Slot) (H : Heap) (locs : List Loc) (v : Int) {σ : np_S}, decode prog_2_method_22_code pc = .ok (.ireturn, 1) → some (v, σ) = some out → np_At D np_cl A (nc_wd q cI cL cB) s σ H locs → W p l e R s m args below meth c H locs 0 0 Q (F0 m pc ls [.int (np_i v)])) {k16 : (Int → Int → Int → Int → Int → np_S → Option np_O)} (h16 : ∀ (x1 x2 x3 x4 x5 : Int) (σ : np_S) (H : Heap) (locs : List Loc) (ls : Array Slot), k16 x1 x2 x3 x4 x5 σ = some out → np_At D np_cl A (nc_wd q cI cL cB) s σ H locs → lv_has ls 6 [(0, .ref (q 11)), (1, .int (np_i x1)), (2, .int (np_i x2)), (3, .int (np_i x3)), (4, .int (np_i x4)), (5, .int (np_i x5))] → W p l e R s m args below meth c H locs 0 0 Q (F0 m 16 ls [])) : ∀ (x1 x2 x3 x4 x5 : Int) (σ : np_S) (H : Heap) (locs : List Loc) (ls : Array Slot), f_Chart_onlySplit_53 k16 x1 x2 x3 x4 x5 σ = some out → np_At D np_cl A (nc_wd q cI cL cB) s σ H locs → lv_has ls 6 [(0, .ref (q 11)), (1, .int (np_i x1)), (2, .int (np_i x2)), (3, .int (np_i x3)), (4, .int (np_i x4)), (5, .int (np_i x5))] → W p l e R s m args below meth c H locs 0 0 Q (F0 m 53 ls []) := by
  intro x1 x2 x3 x4 x5 σ H locs ls hf hat hl
  unfold f_Chart_onlySplit_53 at hf
  refine lv_iinc (v := np_i (x5 + (-1))) (lv' := [(5, .int (np_i (x5 + (-1)))), (0, .ref (q 11)), (1, .int (np_i x1)), (2, .int (np_i x2)), (3, .int (np_i x3)), (4, .int (np_i x4))]) C.x C.b dd_Chart_onlySplit_53 hl (k := 5) rfl (np_inc _ _) (by decide) rfl (fun ls hl => ?_)
  refine lv_goto (tgt := 16) C.x C.b dd_Chart_onlySplit_56 (by decide) ?_
  exact h16 _ _ _ _ _ _ _ _ _ hf hat (lv_sub hl [1, 2, 3, 4, 5, 0] rfl)
set_option maxHeartbeats 4000000 in
set_option maxRecDepth 100000 in
theorem w_f_Chart_onlySplit_16 (C : np_Cx gA p R s m args c D np_cl (np_ty cI cL cB) A np_al "NotationParse$Chart" prog_2_method_22_code 6 { frames := 1, cells := 0, slots := 0, locals := 23 }) (hQ : ∀ (pc : Nat) (ls : Array Slot) (H : Heap) (locs : List Loc) (v : Int) {σ : np_S}, decode prog_2_method_22_code pc = .ok (.ireturn, 1) → some (v, σ) = some out → np_At D np_cl A (nc_wd q cI cL cB) s σ H locs → W p l e R s m args below meth c H locs 0 0 Q (F0 m pc ls [.int (np_i v)]))   : ∀ (n : Nat), ∀ (x1 x2 x3 x4 x5 : Int) (σ : np_S) (H : Heap) (locs : List Loc) (ls : Array Slot), f_Chart_onlySplit_16  n x1 x2 x3 x4 x5 σ = some out → np_At D np_cl A (nc_wd q cI cL cB) s σ H locs → lv_has ls 6 [(0, .ref (q 11)), (1, .int (np_i x1)), (2, .int (np_i x2)), (3, .int (np_i x3)), (4, .int (np_i x4)), (5, .int (np_i x5))] → W p l e R s m args below meth c H locs 0 0 Q (F0 m 16 ls []) := by
  intro n
  induction n with
  | zero => intro x1 x2 x3 x4 x5 σ H locs ls hf; cases hf
  | succ n ih =>
    intro x1 x2 x3 x4 x5 σ H locs ls hf hat hl
    have h16 := ih
    have hf : f_Chart_onlySplit_16_b  (fun x1 x2 x3 x4 x5 σ => f_Chart_onlySplit_16  n x1 x2 x3 x4 x5 σ) x1 x2 x3 x4 x5 σ = some out := hf
    unfold f_Chart_onlySplit_16_b at hf
    refine lv_iload C.x C.b dd_Chart_onlySplit_16 (lv_at hl 5 rfl) ?_
    refine lv_iload_n C.x C.b dd_Chart_onlySplit_18 rfl (lv_at hl 2 rfl) ?_
    refine np_icmp_le (tgt := 59) C dd_Chart_onlySplit_19 (by decide) hf (fun _ hf => ?_) (fun _ hf => ?_)
    · refine lv_iload_n C.x C.b dd_Chart_onlySplit_59 rfl (lv_at hl 2 rfl) ?_
      exact hQ _ _ _ _ _ dd_Chart_onlySplit_60 hf hat
    · refine lv_aload_n C.x C.b dd_Chart_onlySplit_22 rfl (lv_at hl 0 rfl) ?_
      refine lv_iload_n C.x C.b dd_Chart_onlySplit_23 rfl (lv_at hl 2 rfl) ?_
      refine lv_iload C.x C.b dd_Chart_onlySplit_24 (lv_at hl 5 rfl) ?_
      refine lv_iload_n C.x C.b dd_Chart_onlySplit_26 rfl (lv_at hl 1 rfl) ?_
      refine np_callVi (As := [.int (np_i x2), .int (np_i x5), .int (np_i x1)]) (rest := []) C (c_Chart_isReached l x2 x5 x1 _) np_allgood tw_779 tw_781 tp_11 tw_5 tw_782 (nA := 3) (by decide +kernel) rfl ⟨rfl, rfl, Nat.le_of_ble_eq_true rfl, Nat.le_of_ble_eq_true rfl⟩ (nc_o11 _) rfl hat rfl hl.1 (Nat.le_of_ble_eq_true rfl) dd_Chart_onlySplit_27 hf (fun o1 H locs hf hat => ?_)
      refine np_if_eq (tgt := 53) C dd_Chart_onlySplit_30 (by decide) hf (fun _ hf => ?_) (fun _ hf => ?_)
      · exact w_f_Chart_onlySplit_53 C hQ h16 _ _ _ _ _ _ _ _ _ hf hat (lv_sub hl [0, 1, 2, 3, 4, 5] rfl)
      · refine lv_aload_n C.x C.b dd_Chart_onlySplit_33 rfl (lv_at hl 0 rfl) ?_
        refine np_get (v := .ref (q 14)) C i_Chart hat.1 11 (nc_o11 _) rfl 3 (by decide) tw_124 rfl rfl dd_Chart_onlySplit_34 ?_
        refine lv_aload_n C.x C.b dd_Chart_onlySplit_37 rfl (lv_at hl 0 rfl) ?_
        refine lv_iload C.x C.b dd_Chart_onlySplit_38 (lv_at hl 5 rfl) ?_
        refine lv_iload_n C.x C.b dd_Chart_onlySplit_40 rfl (lv_at hl 3 rfl) ?_
        refine lv_iload C.x C.b dd_Chart_onlySplit_41 (lv_at hl 4 rfl) ?_
        refine np_callVi (As := [.int (np_i x5), .int (np_i x3), .int (np_i x4)]) (rest := [.ref (q 14)]) C (c_Chart_cell l x5 x3 x4 _) np_allgood tw_816 tw_818 tp_18 tw_5 tw_819 (nA := 3) (by decide +kernel) rfl ⟨rfl, rfl, Nat.le_of_ble_eq_true rfl, Nat.le_of_ble_eq_true rfl⟩ (nc_o11 _) rfl hat rfl hl.1 (Nat.le_of_ble_eq_true rfl) dd_Chart_onlySplit_43 hf (fun o2 H locs hf hat => ?_)
        refine np_iaload C hat.1 14 (nc_a14 _) 0 rfl (by decide) dd_Chart_onlySplit_46 hf (fun hf => ?_)
        refine np_if_le (tgt := 53) C dd_Chart_onlySplit_47 (by decide) hf (fun _ hf => ?_) (fun _ hf => ?_)
        · exact w_f_Chart_onlySplit_53 C hQ h16 _ _ _ _ _ _ _ _ _ hf hat (lv_sub hl [0, 1, 2, 3, 4, 5] rfl)
        · refine lv_iload C.x C.b dd_Chart_onlySplit_50 (lv_at hl 5 rfl) ?_
          exact hQ _ _ _ _ _ dd_Chart_onlySplit_52 hf hat
set_option maxHeartbeats 4000000 in
set_option maxRecDepth 100000 in
theorem w_f_Chart_onlySplit (C : np_Cx gA p R s m args c D np_cl (np_ty cI cL cB) A np_al "NotationParse$Chart" prog_2_method_22_code 6 { frames := 1, cells := 0, slots := 0, locals := 23 }) (hQ : ∀ (pc : Nat) (ls : Array Slot) (H : Heap) (locs : List Loc) (v : Int) {σ : np_S}, decode prog_2_method_22_code pc = .ok (.ireturn, 1) → some (v, σ) = some out → np_At D np_cl A (nc_wd q cI cL cB) s σ H locs → W p l e R s m args below meth c H locs 0 0 Q (F0 m pc ls [.int (np_i v)]))   : ∀ (x1 x2 x3 : Int) (σ : np_S) (H : Heap) (locs : List Loc) (ls : Array Slot), f_Chart_onlySplit  x1 x2 x3 σ = some out → np_At D np_cl A (nc_wd q cI cL cB) s σ H locs → lv_has ls 6 [(0, .ref (q 11)), (1, .int (np_i x1)), (2, .int (np_i x2)), (3, .int (np_i x3))] → W p l e R s m args below meth c H locs 0 0 Q (F0 m 0 ls []) := by
  intro x1 x2 x3 σ H locs ls hf hat hl
  unfold f_Chart_onlySplit at hf
  refine lv_aload_n C.x C.b dd_Chart_onlySplit_0 rfl (lv_at hl 0 rfl) ?_
  refine np_get (v := .ref (q 1)) C i_Chart hat.1 11 (nc_o11 _) rfl 0 (by decide) tw_121 rfl rfl dd_Chart_onlySplit_1 ?_
  refine np_get (v := .ref (q 2)) C i_Grammar hat.1 1 (nc_o1 _) rfl 0 (by decide) tw_52 rfl rfl dd_Chart_onlySplit_4 ?_
  refine lv_iload_n C.x C.b dd_Chart_onlySplit_7 rfl (lv_at hl 1 rfl) ?_
  refine np_iaload C hat.1 2 (nc_a2 _) 0 rfl (by decide) dd_Chart_onlySplit_8 hf (fun hf => ?_)
  refine lv_istore (lv' := [(4, .int (np_i (σ 2 x1))), (0, .ref (q 11)), (1, .int (np_i x1)), (2, .int (np_i x2)), (3, .int (np_i x3))]) C.x C.b dd_Chart_onlySplit_9 hl (by decide) rfl (fun ls hl => ?_)
  refine lv_iload_n C.x C.b dd_Chart_onlySplit_11 rfl (lv_at hl 4 rfl) ?_
  refine lv_iconst (v := np_i 1) C.x C.b dd_Chart_onlySplit_12 rfl ?_
  refine np_isub C dd_Chart_onlySplit_13 ?_
  refine lv_istore (lv' := [(5, .int (np_i (x3 - 1))), (4, .int (np_i (σ 2 x1))), (0, .ref (q 11)), (1, .int (np_i x1)), (2, .int (np_i x2)), (3, .int (np_i x3))]) C.x C.b dd_Chart_onlySplit_14 hl (by decide) rfl (fun ls hl => ?_)
  exact w_f_Chart_onlySplit_16 C hQ  6000 _ _ _ _ _ _ _ _ _ hf hat (lv_sub hl [2, 3, 4, 5, 1, 0] rfl)
set_option maxHeartbeats 4000000 in
set_option maxRecDepth 100000 in
theorem c_Chart_onlySplit (l : Launch) {gA : Nat → Nat} {D : va_G} {q : Nat → Nat} {cI cL cB : ClassId} (x1 x2 x3 : Int) (σ : np_S) : np_Mi gA l D np_cl (np_ty cI cL cB) (nc_wd q cI cL cB) yy_Chart_onlySplit (.code yy_Chart_onlySplit prog_2_method_22_code 6 (some .int) :: np_al) { frames := 1, cells := 0, slots := 0, locals := 23 } [.ref (q 11), .int (np_i x1), .int (np_i x2), .int (np_i x3)] σ (f_Chart_onlySplit x1 x2 x3 σ) :=
  np_mki (by decide +kernel) (Nat.le_of_ble_eq_true rfl) (fun o p e R s m args below meth c Q A ls hf C hQ hat hl => w_f_Chart_onlySplit C hQ x1 x2 x3 σ _ _ _ hf hat (lv_sub hl [0, 1, 2, 3] rfl))
set_option maxHeartbeats 4000000 in
set_option maxRecDepth 100000 in
theorem w_f_Tree_await_60 (C : np_Cx gA p R s m args c D np_cl (np_ty cI cL cB) A np_al "NotationParse$Tree" prog_7_method_4_code 5 { frames := 0, cells := 0, slots := 0, locals := 0 }) (hQ : ∀ (pc : Nat) (ls : Array Slot) (H : Heap) (locs : List Loc) {σ : np_S}, decode prog_7_method_4_code pc = .ok (.return_, 1) → some ((0 : Int), σ) = some out → np_At D np_cl A (nc_wd q cI cL cB) s σ H locs → W p l e R s m args below meth c H locs 0 0 Q (F0 m pc ls []))   : ∀ (σ : np_S) (H : Heap) (locs : List Loc) (ls : Array Slot), f_Tree_await_60  σ = some out → np_At D np_cl A (nc_wd q cI cL cB) s σ H locs → lv_has ls 5 [] → W p l e R s m args below meth c H locs 0 0 Q (F0 m 60 ls []) := by
  intro σ H locs ls hf hat hl
  unfold f_Tree_await_60 at hf
  exact hQ _ _ _ _ dd_Tree_await_60 hf hat
set_option maxHeartbeats 4000000 in
set_option maxRecDepth 100000 in
theorem w_f_Tree_await (C : np_Cx gA p R s m args c D np_cl (np_ty cI cL cB) A np_al "NotationParse$Tree" prog_7_method_4_code 5 { frames := 0, cells := 0, slots := 0, locals := 0 }) (hQ : ∀ (pc : Nat) (ls : Array Slot) (H : Heap) (locs : List Loc) {σ : np_S}, decode prog_7_method_4_code pc = .ok (.return_, 1) → some ((0 : Int), σ) = some out → np_At D np_cl A (nc_wd q cI cL cB) s σ H locs → W p l e R s m args below meth c H locs 0 0 Q (F0 m pc ls []))   : ∀ (x1 x2 x3 x4 : Int) (σ : np_S) (H : Heap) (locs : List Loc) (ls : Array Slot), f_Tree_await  x1 x2 x3 x4 σ = some out → np_At D np_cl A (nc_wd q cI cL cB) s σ H locs → lv_has ls 5 [(0, .ref (q 15)), (1, .int (np_i x1)), (2, .int (np_i x2)), (3, .int (np_i x3)), (4, .int (np_i x4))] → W p l e R s m args below meth c H locs 0 0 Q (F0 m 0 ls []) := by
  intro x1 x2 x3 x4 σ H locs ls hf hat hl
  unfold f_Tree_await at hf
  refine lv_aload_n C.x C.b dd_Tree_await_0 rfl (lv_at hl 0 rfl) ?_
  refine np_get (v := .int (np_i (σ 15 9))) C i_Tree hat.1 15 (nc_o15 _) rfl 9 (by decide) tw_155 rfl rfl dd_Tree_await_1 ?_
  refine lv_bipush (v := np_i 30) C.x C.b dd_Tree_await_4 (by decide +kernel) ?_
  refine np_icmp_ge (tgt := 60) C dd_Tree_await_6 (by decide) hf (fun _ hf => ?_) (fun _ hf => ?_)
  · exact w_f_Tree_await_60 C hQ   _ _ _ _ hf hat (lv_sub hl [] rfl)
  · refine lv_aload_n C.x C.b dd_Tree_await_9 rfl (lv_at hl 0 rfl) ?_
    refine np_get (v := .ref (q 22)) C i_Tree hat.1 15 (nc_o15 _) rfl 10 (by decide) tw_156 rfl rfl dd_Tree_await_10 ?_
    refine lv_aload_n C.x C.b dd_Tree_await_13 rfl (lv_at hl 0 rfl) ?_
    refine np_get (v := .int (np_i (σ 15 9))) C i_Tree hat.1 15 (nc_o15 _) rfl 9 (by decide) tw_155 rfl rfl dd_Tree_await_14 ?_
    refine lv_iload_n C.x C.b dd_Tree_await_17 rfl (lv_at hl 1 rfl) ?_
    refine np_iastore C hat 22 (nc_a22 _) 0 rfl (by decide) (nc_s22 _ _ _) dd_Tree_await_18 hf (fun H locs hat hf => ?_)
    refine lv_aload_n C.x C.b dd_Tree_await_19 rfl (lv_at hl 0 rfl) ?_
    refine np_get (v := .ref (q 23)) C i_Tree hat.1 15 (nc_o15 _) rfl 11 (by decide) tw_157 rfl rfl dd_Tree_await_20 ?_
    refine lv_aload_n C.x C.b dd_Tree_await_23 rfl (lv_at hl 0 rfl) ?_
    refine np_get (v := .int (np_i ((np_st σ 22 (σ 15 9) x1) 15 9))) C i_Tree hat.1 15 (nc_o15 _) rfl 9 (by decide) tw_155 rfl rfl dd_Tree_await_24 ?_
    refine lv_iload_n C.x C.b dd_Tree_await_27 rfl (lv_at hl 2 rfl) ?_
    refine np_iastore C hat 23 (nc_a23 _) 0 rfl (by decide) (nc_s23 _ _ _) dd_Tree_await_28 hf (fun H locs hat hf => ?_)
    refine lv_aload_n C.x C.b dd_Tree_await_29 rfl (lv_at hl 0 rfl) ?_
    refine np_get (v := .ref (q 24)) C i_Tree hat.1 15 (nc_o15 _) rfl 12 (by decide) tw_158 rfl rfl dd_Tree_await_30 ?_
    refine lv_aload_n C.x C.b dd_Tree_await_33 rfl (lv_at hl 0 rfl) ?_
    refine np_get (v := .int (np_i ((np_st (np_st σ 22 (σ 15 9) x1) 23 ((np_st σ 22 (σ 15 9) x1) 15 9) x2) 15 9))) C i_Tree hat.1 15 (nc_o15 _) rfl 9 (by decide) tw_155 rfl rfl dd_Tree_await_34 ?_
    refine lv_iload_n C.x C.b dd_Tree_await_37 rfl (lv_at hl 3 rfl) ?_
    refine np_iastore C hat 24 (nc_a24 _) 0 rfl (by decide) (nc_s24 _ _ _) dd_Tree_await_38 hf (fun H locs hat hf => ?_)
    refine lv_aload_n C.x C.b dd_Tree_await_39 rfl (lv_at hl 0 rfl) ?_
    refine np_get (v := .ref (q 25)) C i_Tree hat.1 15 (nc_o15 _) rfl 13 (by decide) tw_159 rfl rfl dd_Tree_await_40 ?_
    refine lv_aload_n C.x C.b dd_Tree_await_43 rfl (lv_at hl 0 rfl) ?_
    refine np_get (v := .int (np_i ((np_st (np_st (np_st σ 22 (σ 15 9) x1) 23 ((np_st σ 22 (σ 15 9) x1) 15 9) x2) 24 ((np_st (np_st σ 22 (σ 15 9) x1) 23 ((np_st σ 22 (σ 15 9) x1) 15 9) x2) 15 9) x3) 15 9))) C i_Tree hat.1 15 (nc_o15 _) rfl 9 (by decide) tw_155 rfl rfl dd_Tree_await_44 ?_
    refine lv_iload C.x C.b dd_Tree_await_47 (lv_at hl 4 rfl) ?_
    refine np_iastore C hat 25 (nc_a25 _) 0 rfl (by decide) (nc_s25 _ _ _) dd_Tree_await_49 hf (fun H locs hat hf => ?_)
    refine lv_aload_n C.x C.b dd_Tree_await_50 rfl (lv_at hl 0 rfl) ?_
    refine lv_dup C.x C.b dd_Tree_await_51 rfl ?_
    refine np_get (v := .int (np_i ((np_st (np_st (np_st (np_st σ 22 (σ 15 9) x1) 23 ((np_st σ 22 (σ 15 9) x1) 15 9) x2) 24 ((np_st (np_st σ 22 (σ 15 9) x1) 23 ((np_st σ 22 (σ 15 9) x1) 15 9) x2) 15 9) x3) 25 ((np_st (np_st (np_st σ 22 (σ 15 9) x1) 23 ((np_st σ 22 (σ 15 9) x1) 15 9) x2) 24 ((np_st (np_st σ 22 (σ 15 9) x1) 23 ((np_st σ 22 (σ 15 9) x1) 15 9) x2) 15 9) x3) 15 9) x4) 15 9))) C i_Tree hat.1 15 (nc_o15 _) rfl 9 (by decide) tw_155 rfl rfl dd_Tree_await_52 ?_
    refine lv_iconst (v := np_i 1) C.x C.b dd_Tree_await_55 rfl ?_
    refine np_iadd C dd_Tree_await_56 ?_
    refine np_put C i_Tree t_Tree tok_Tree n_Tree hat 15 (nc_o15 _) rfl 9 (by decide) tw_155 rfl rfl (by decide +kernel) (np_narI (((np_st (np_st (np_st (np_st σ 22 (σ 15 9) x1) 23 ((np_st σ 22 (σ 15 9) x1) 15 9) x2) 24 ((np_st (np_st σ 22 (σ 15 9) x1) 23 ((np_st σ 22 (σ 15 9) x1) 15 9) x2) 15 9) x3) 25 ((np_st (np_st (np_st σ 22 (σ 15 9) x1) 23 ((np_st σ 22 (σ 15 9) x1) 15 9) x2) 24 ((np_st (np_st σ 22 (σ 15 9) x1) 23 ((np_st σ 22 (σ 15 9) x1) 15 9) x2) 15 9) x3) 15 9) x4) 15 9) + 1)) (np_fitI (((np_st (np_st (np_st (np_st σ 22 (σ 15 9) x1) 23 ((np_st σ 22 (σ 15 9) x1) 15 9) x2) 24 ((np_st (np_st σ 22 (σ 15 9) x1) 23 ((np_st σ 22 (σ 15 9) x1) 15 9) x2) 15 9) x3) 25 ((np_st (np_st (np_st σ 22 (σ 15 9) x1) 23 ((np_st σ 22 (σ 15 9) x1) 15 9) x2) 24 ((np_st (np_st σ 22 (σ 15 9) x1) 23 ((np_st σ 22 (σ 15 9) x1) 15 9) x2) 15 9) x3) 15 9) x4) 15 9) + 1)) (Nat.le_of_ble_eq_true rfl) (nc_s15_9 _ _) dd_Tree_await_57 (fun H locs hat => ?_)
    exact w_f_Tree_await_60 C hQ   _ _ _ _ hf hat (lv_sub hl [] rfl)
set_option maxHeartbeats 4000000 in
set_option maxRecDepth 100000 in
theorem c_Tree_await (l : Launch) {gA : Nat → Nat} {D : va_G} {q : Nat → Nat} {cI cL cB : ClassId} (x1 x2 x3 x4 : Int) (σ : np_S) : np_Mv gA l D np_cl (np_ty cI cL cB) (nc_wd q cI cL cB) yy_Tree_await (.code yy_Tree_await prog_7_method_4_code 5 none :: np_al) { frames := 0, cells := 0, slots := 0, locals := 0 } [.ref (q 15), .int (np_i x1), .int (np_i x2), .int (np_i x3), .int (np_i x4)] σ (f_Tree_await x1 x2 x3 x4 σ) :=
  np_mkv (by decide +kernel) (Nat.le_of_ble_eq_true rfl) (fun o p e R s m args below meth c Q A ls hf C hQ hat hl => w_f_Tree_await C hQ x1 x2 x3 x4 σ _ _ _ hf hat (lv_sub hl [0, 1, 2, 3, 4] rfl))
set_option maxHeartbeats 4000000 in
set_option maxRecDepth 100000 in
theorem w_f_Tree_awaitHoles_100 (C : np_Cx gA p R s m args c D np_cl (np_ty cI cL cB) A np_al "NotationParse$Tree" prog_7_method_6_code 10 { frames := 2, cells := 0, slots := 0, locals := 48 }) (hQ : ∀ (pc : Nat) (ls : Array Slot) (H : Heap) (locs : List Loc) (v : Int) {σ : np_S}, decode prog_7_method_6_code pc = .ok (.ireturn, 1) → some (v, σ) = some out → np_At D np_cl A (nc_wd q cI cL cB) s σ H locs → W p l e R s m args below meth c H locs 0 0 Q (F0 m pc ls [.int (np_i v)])) {k34 : (Int → Int → Int → Int → Int → Int → np_S → Option np_O)} (h34 : ∀ (x1 x2 x4 x5 x6 x7 : Int) (σ : np_S) (H : Heap) (locs : List Loc) (ls : Array Slot), k34 x1 x2 x4 x5 x6 x7 σ = some out → np_At D np_cl A (nc_wd q cI cL cB) s σ H locs → lv_has ls 10 [(0, .ref (q 15)), (1, .int (np_i x1)), (2, .int (np_i x2)), (4, .int (np_i x4)), (5, .int (np_i x5)), (6, .int (np_i x6)), (7, .int (np_i x7))] → W p l e R s m args below meth c H locs 0 0 Q (F0 m 34 ls [])) : ∀ (x1 x2 x4 x5 x7 x9 : Int) (σ : np_S) (H : Heap) (locs : List Loc) (ls : Array Slot), f_Tree_awaitHoles_100 k34 x1 x2 x4 x5 x7 x9 σ = some out → np_At D np_cl A (nc_wd q cI cL cB) s σ H locs → lv_has ls 10 [(0, .ref (q 15)), (1, .int (np_i x1)), (2, .int (np_i x2)), (4, .int (np_i x4)), (5, .int (np_i x5)), (7, .int (np_i x7)), (9, .int (np_i x9))] → W p l e R s m args below meth c H locs 0 0 Q (F0 m 100 ls []) := by
  intro x1 x2 x4 x5 x7 x9 σ H locs ls hf hat hl
  unfold f_Tree_awaitHoles_100 at hf
  refine lv_iload C.x C.b dd_Tree_awaitHoles_100 (lv_at hl 6 rfl) ?_
  refine lv_istore (lv' := [(6, .int (np_i x9)), (0, .ref (q 15)), (1, .int (np_i x1)), (2, .int (np_i x2)), (4, .int (np_i x4)), (5, .int (np_i x5)), (7, .int (np_i x7)), (9, .int (np_i x9))]) C.x C.b dd_Tree_awaitHoles_102 hl (by decide) rfl (fun ls hl => ?_)
  refine lv_iinc (v := np_i (x7 + (-1))) (lv' := [(7, .int (np_i (x7 + (-1)))), (6, .int (np_i x9)), (0, .ref (q 15)), (1, .int (np_i x1)), (2, .int (np_i x2)), (4, .int (np_i x4)), (5, .int (np_i x5)), (9, .int (np_i x9))]) C.x C.b dd_Tree_awaitHoles_104 hl (k := 6) rfl (np_inc _ _) (by decide) rfl (fun ls hl => ?_)
  refine lv_goto (tgt := 34) C.x C.b dd_Tree_awaitHoles_107 (by decide) ?_
  exact h34 _ _ _ _ _ _ _ _ _ _ hf hat (lv_sub hl [2, 3, 4, 5, 6, 1, 0] rfl)
set_option maxHeartbeats 4000000 in
set_option maxRecDepth 100000 in
theorem w_f_Tree_awaitHoles_78 (C : np_Cx gA p R s m args c D np_cl (np_ty cI cL cB) A np_al "NotationParse$Tree" prog_7_method_6_code 10 { frames := 2, cells := 0, slots := 0, locals := 48 }) (hQ : ∀ (pc : Nat) (ls : Array Slot) (H : Heap) (locs : List Loc) (v : Int) {σ : np_S}, decode prog_7_method_6_code pc = .ok (.ireturn, 1) → some (v, σ) = some out → np_At D np_cl A (nc_wd q cI cL cB) s σ H locs → W p l e R s m args below meth c H locs 0 0 Q (F0 m pc ls [.int (np_i v)])) {k34 : (Int → Int → Int → Int → Int → Int → np_S → Option np_O)} (h34 : ∀ (x1 x2 x4 x5 x6 x7 : Int) (σ : np_S) (H : Heap) (locs : List Loc) (ls : Array Slot), k34 x1 x2 x4 x5 x6 x7 σ = some out → np_At D np_cl A (nc_wd q cI cL cB) s σ H locs → lv_has ls 10 [(0, .ref (q 15)), (1, .int (np_i x1)), (2, .int (np_i x2)), (4, .int (np_i x4)), (5, .int (np_i x5)), (6, .int (np_i x6)), (7, .int (np_i x7))] → W p l e R s m args below meth c H locs 0 0 Q (F0 m 34 ls [])) : ∀ (x1 x2 x4 x5 x6 x7 x8 t0 : Int) (σ : np_S) (H : Heap) (locs : List Loc) (ls : Array Slot), f_Tree_awaitHoles_78 k34 x1 x2 x4 x5 x6 x7 x8 t0 σ = some out → np_At D np_cl A (nc_wd q cI cL cB) s σ H locs → lv_has ls 10 [(0, .ref (q 15)), (1, .int (np_i x1)), (2, .int (np_i x2)), (4, .int (np_i x4)), (5, .int (np_i x5)), (6, .int (np_i x6)), (7, .int (np_i x7)), (8, .int (np_i x8))] → W p l e R s m args below meth c H locs 0 0 Q (F0 m 78 ls [.int (np_i t0)]) := by
  intro x1 x2 x4 x5 x6 x7 x8 t0 σ H locs ls hf hat hl
  unfold f_Tree_awaitHoles_78 at hf
  refine lv_istore (lv' := [(9, .int (np_i t0)), (0, .ref (q 15)), (1, .int (np_i x1)), (2, .int (np_i x2)), (4, .int (np_i x4)), (5, .int (np_i x5)), (6, .int (np_i x6)), (7, .int (np_i x7)), (8, .int (np_i x8))]) C.x C.b dd_Tree_awaitHoles_78 hl (by decide) rfl (fun ls hl => ?_)
  refine lv_iload C.x C.b dd_Tree_awaitHoles_80 (lv_at hl 8 rfl) ?_
  refine lv_iconst (v := np_i (-1)) C.x C.b dd_Tree_awaitHoles_82 rfl ?_
  refine np_icmp_eq (tgt := 100) C dd_Tree_awaitHoles_83 (by decide) hf (fun _ hf => ?_) (fun _ hf => ?_)
  · exact w_f_Tree_awaitHoles_100 C hQ h34 _ _ _ _ _ _ _ _ _ _ hf hat (lv_sub hl [1, 2, 3, 4, 5, 7, 0] rfl)
  · refine lv_aload_n C.x C.b dd_Tree_awaitHoles_86 rfl (lv_at hl 1 rfl) ?_
    refine lv_iload C.x C.b dd_Tree_awaitHoles_87 (lv_at hl 0 rfl) ?_
    refine lv_iload C.x C.b dd_Tree_awaitHoles_89 (lv_at hl 6 rfl) ?_
    refine lv_iload C.x C.b dd_Tree_awaitHoles_91 (lv_at hl 8 rfl) ?_
    refine lv_iload_n C.x C.b dd_Tree_awaitHoles_93 rfl (lv_at hl 2 rfl) ?_
    refine np_callVv (As := [.int (np_i t0), .int (np_i x6), .int (np_i x8), .int (np_i x1)]) (rest := []) C (c_Tree_await l t0 x6 x8 x1 _) np_allgood tw_842 tw_844 tp_22 tw_6 tw_845 (nA := 4) (by decide +kernel) rfl ⟨rfl, rfl, Nat.le_of_ble_eq_true rfl, Nat.le_of_ble_eq_true rfl⟩ (nc_o15 _) rfl hat rfl hl.1 (Nat.le_of_ble_eq_true rfl) dd_Tree_awaitHoles_94 hf (fun o1 H locs hf hat => ?_)
    refine lv_iinc (v := np_i (x5 + 1)) (lv' := [(5, .int (np_i (x5 + 1))), (9, .int (np_i t0)), (0, .ref (q 15)), (1, .int (np_i x1)), (2, .int (np_i x2)), (4, .int (np_i x4)), (6, .int (np_i x6)), (7, .int (np_i x7)), (8, .int (np_i x8))]) C.x C.b dd_Tree_awaitHoles_97 hl (k := 5) rfl (np_inc _ _) (by decide) rfl (fun ls hl => ?_)
    exact w_f_Tree_awaitHoles_100 C hQ h34 _ _ _ _ _ _ _ _ _ _ hf hat (lv_sub hl [2, 3, 4, 5, 0, 7, 1] rfl)
set_option maxHeartbeats 4000000 in
set_option maxRecDepth 100000 in
theorem w_f_Tree_awaitHoles_34 (C : np_Cx gA p R s m args c D np_cl (np_ty cI cL cB) A np_al "NotationParse$Tree" prog_7_method_6_code 10 { frames := 2, cells := 0, slots := 0, locals := 48 }) (hQ : ∀ (pc : Nat) (ls : Array Slot) (H : Heap) (locs : List Loc) (v : Int) {σ : np_S}, decode prog_7_method_6_code pc = .ok (.ireturn, 1) → some (v, σ) = some out → np_At D np_cl A (nc_wd q cI cL cB) s σ H locs → W p l e R s m args below meth c H locs 0 0 Q (F0 m pc ls [.int (np_i v)]))   : ∀ (n : Nat), ∀ (x1 x2 x4 x5 x6 x7 : Int) (σ : np_S) (H : Heap) (locs : List Loc) (ls : Array Slot), f_Tree_awaitHoles_34  n x1 x2 x4 x5 x6 x7 σ = some out → np_At D np_cl A (nc_wd q cI cL cB) s σ H locs → lv_has ls 10 [(0, .ref (q 15)), (1, .int (np_i x1)), (2, .int (np_i x2)), (4, .int (np_i x4)), (5, .int (np_i x5)), (6, .int (np_i x6)), (7, .int (np_i x7))] → W p l e R s m args below meth c H locs 0 0 Q (F0 m 34 ls []) := by
  intro n
  induction n with
  | zero => intro x1 x2 x4 x5 x6 x7 σ H locs ls hf; cases hf
  | succ n ih =>
    intro x1 x2 x4 x5 x6 x7 σ H locs ls hf hat hl
    have h34 := ih
    have hf : f_Tree_awaitHoles_34_b  (fun x1 x2 x4 x5 x6 x7 σ => f_Tree_awaitHoles_34  n x1 x2 x4 x5 x6 x7 σ) x1 x2 x4 x5 x6 x7 σ = some out := hf
    unfold f_Tree_awaitHoles_34_b at hf
    refine lv_iload C.x C.b dd_Tree_awaitHoles_34 (lv_at hl 6 rfl) ?_
    refine lv_iload C.x C.b dd_Tree_awaitHoles_36 (lv_at hl 3 rfl) ?_
    refine np_icmp_lt (tgt := 110) C dd_Tree_awaitHoles_38 (by decide) hf (fun _ hf => ?_) (fun _ hf => ?_)
    · refine lv_iload C.x C.b dd_Tree_awaitHoles_110 (lv_at hl 4 rfl) ?_
      exact hQ _ _ _ _ _ dd_Tree_awaitHoles_112 hf hat
    · refine lv_aload_n C.x C.b dd_Tree_awaitHoles_41 rfl (lv_at hl 0 rfl) ?_
      refine np_get (v := .ref (q 1)) C i_Tree hat.1 15 (nc_o15 _) rfl 0 (by decide) tw_140 rfl rfl dd_Tree_awaitHoles_42 ?_
      refine np_get (v := .ref (q 2)) C i_Grammar hat.1 1 (nc_o1 _) rfl 0 (by decide) tw_51 rfl rfl dd_Tree_awaitHoles_45 ?_
      refine lv_iload C.x C.b dd_Tree_awaitHoles_48 (lv_at hl 6 rfl) ?_
      refine np_iaload C hat.1 2 (nc_a2 _) 0 rfl (by decide) dd_Tree_awaitHoles_50 hf (fun hf => ?_)
      refine lv_istore (lv' := [(8, .int (np_i (σ 2 x7))), (0, .ref (q 15)), (1, .int (np_i x1)), (2, .int (np_i x2)), (4, .int (np_i x4)), (5, .int (np_i x5)), (6, .int (np_i x6)), (7, .int (np_i x7))]) C.x C.b dd_Tree_awaitHoles_51 hl (by decide) rfl (fun ls hl => ?_)
      refine lv_iload C.x C.b dd_Tree_awaitHoles_53 (lv_at hl 0 rfl) ?_
      refine lv_iconst (v := np_i (-1)) C.x C.b dd_Tree_awaitHoles_55 rfl ?_
      refine np_icmp_ne (tgt := 66) C dd_Tree_awaitHoles_56 (by decide) hf (fun _ hf => ?_) (fun _ hf => ?_)
      · refine lv_aload_n C.x C.b dd_Tree_awaitHoles_66 rfl (lv_at hl 1 rfl) ?_
        refine np_get (v := .ref (q 11)) C i_Tree hat.1 15 (nc_o15 _) rfl 1 (by decide) tw_141 rfl rfl dd_Tree_awaitHoles_67 ?_
        refine lv_iload C.x C.b dd_Tree_awaitHoles_70 (lv_at hl 7 rfl) ?_
        refine lv_iload_n C.x C.b dd_Tree_awaitHoles_72 rfl (lv_at hl 3 rfl) ?_
        refine lv_iload C.x C.b dd_Tree_awaitHoles_73 (lv_at hl 6 rfl) ?_
        refine np_callVi (As := [.int (np_i x7), .int (np_i x2), .int (np_i x6)]) (rest := []) C (c_Chart_onlySplit l x7 x2 x6 _) np_allgood tw_859 tw_860 tw_861 tw_5 tw_862 (nA := 3) (by decide +kernel) rfl ⟨rfl, rfl, Nat.le_of_ble_eq_true rfl, Nat.le_of_ble_eq_true rfl⟩ (nc_o11 _) rfl hat rfl hl.1 (Nat.le_of_ble_eq_true rfl) dd_Tree_awaitHoles_75 hf (fun o2 H locs hf hat => ?_)
        exact w_f_Tree_awaitHoles_78 C hQ h34 _ _ _ _ _ _ _ _ _ _ _ _ hf hat (lv_sub hl [1, 2, 3, 4, 5, 6, 7, 0] rfl)
      · refine lv_iload C.x C.b dd_Tree_awaitHoles_59 (lv_at hl 6 rfl) ?_
        refine lv_iconst (v := np_i 1) C.x C.b dd_Tree_awaitHoles_61 rfl ?_
        refine np_isub C dd_Tree_awaitHoles_62 ?_
        refine lv_goto (tgt := 78) C.x C.b dd_Tree_awaitHoles_63 (by decide) ?_
        exact w_f_Tree_awaitHoles_78 C hQ h34 _ _ _ _ _ _ _ _ _ _ _ _ hf hat (lv_sub hl [1, 2, 3, 4, 5, 6, 7, 0] rfl)
set_option maxHeartbeats 4000000 in
set_option maxRecDepth 100000 in
theorem w_f_Tree_awaitHoles (C : np_Cx gA p R s m args c D np_cl (np_ty cI cL cB) A np_al "NotationParse$Tree" prog_7_method_6_code 10 { frames := 2, cells := 0, slots := 0, locals := 48 }) (hQ : ∀ (pc : Nat) (ls : Array Slot) (H : Heap) (locs : List Loc) (v : Int) {σ : np_S}, decode prog_7_method_6_code pc = .ok (.ireturn, 1) → some (v, σ) = some out → np_At D np_cl A (nc_wd q cI cL cB) s σ H locs → W p l e R s m args below meth c H locs 0 0 Q (F0 m pc ls [.int (np_i v)]))   : ∀ (x1 x2 x3 : Int) (σ : np_S) (H : Heap) (locs : List Loc) (ls : Array Slot), f_Tree_awaitHoles  x1 x2 x3 σ = some out → np_At D np_cl A (nc_wd q cI cL cB) s σ H locs → lv_has ls 10 [(0, .ref (q 15)), (1, .int (np_i x1)), (2, .int (np_i x2)), (3, .int (np_i x3))] → W p l e R s m args below meth c H locs 0 0 Q (F0 m 0 ls []) := by
  intro x1 x2 x3 σ H locs ls hf hat hl
  unfold f_Tree_awaitHoles at hf
  refine lv_aload_n C.x C.b dd_Tree_awaitHoles_0 rfl (lv_at hl 0 rfl) ?_
  refine np_get (v := .ref (q 16)) C i_Tree hat.1 15 (nc_o15 _) rfl 3 (by decide) tw_144 rfl rfl dd_Tree_awaitHoles_1 ?_
  refine lv_iload_n C.x C.b dd_Tree_awaitHoles_4 rfl (lv_at hl 1 rfl) ?_
  refine np_iaload C hat.1 16 (nc_a16 _) 0 rfl (by decide) dd_Tree_awaitHoles_5 hf (fun hf => ?_)
  refine lv_bipush (v := np_i 7) C.x C.b dd_Tree_awaitHoles_6 (by decide +kernel) ?_
  refine np_imul C dd_Tree_awaitHoles_8 ?_
  refine lv_istore (lv' := [(4, .int (np_i ((σ 16 x1) * 7))), (0, .ref (q 15)), (1, .int (np_i x1)), (2, .int (np_i x2)), (3, .int (np_i x3))]) C.x C.b dd_Tree_awaitHoles_9 hl (by decide) rfl (fun ls hl => ?_)
  refine lv_iconst (v := np_i 0) C.x C.b dd_Tree_awaitHoles_11 rfl ?_
  refine lv_istore (lv' := [(5, .int (np_i 0)), (4, .int (np_i ((σ 16 x1) * 7))), (0, .ref (q 15)), (1, .int (np_i x1)), (2, .int (np_i x2)), (3, .int (np_i x3))]) C.x C.b dd_Tree_awaitHoles_12 hl (by decide) rfl (fun ls hl => ?_)
  refine lv_iload_n C.x C.b dd_Tree_awaitHoles_14 rfl (lv_at hl 5 rfl) ?_
  refine lv_istore (lv' := [(6, .int (np_i x3)), (5, .int (np_i 0)), (4, .int (np_i ((σ 16 x1) * 7))), (0, .ref (q 15)), (1, .int (np_i x1)), (2, .int (np_i x2)), (3, .int (np_i x3))]) C.x C.b dd_Tree_awaitHoles_15 hl (by decide) rfl (fun ls hl => ?_)
  refine lv_aload_n C.x C.b dd_Tree_awaitHoles_17 rfl (lv_at hl 3 rfl) ?_
  refine np_get (v := .ref (q 1)) C i_Tree hat.1 15 (nc_o15 _) rfl 0 (by decide) tw_140 rfl rfl dd_Tree_awaitHoles_18 ?_
  refine lv_aload_n C.x C.b dd_Tree_awaitHoles_21 rfl (lv_at hl 3 rfl) ?_
  refine np_get (v := .ref (q 16)) C i_Tree hat.1 15 (nc_o15 _) rfl 3 (by decide) tw_144 rfl rfl dd_Tree_awaitHoles_22 ?_
  refine lv_iload_n C.x C.b dd_Tree_awaitHoles_25 rfl (lv_at hl 4 rfl) ?_
  refine np_iaload C hat.1 16 (nc_a16 _) 0 rfl (by decide) dd_Tree_awaitHoles_26 hf (fun hf => ?_)
  refine np_callVi (As := [.int (np_i (σ 16 x1))]) (rest := []) C (c_Grammar_lastDot l (σ 16 x1) _) np_allgood tw_858 tw_776 tw_777 tw_2 tw_778 (nA := 1) (by decide +kernel) rfl ⟨rfl, rfl, Nat.le_of_ble_eq_true rfl, Nat.le_of_ble_eq_true rfl⟩ (nc_o1 _) rfl hat rfl hl.1 (Nat.le_of_ble_eq_true rfl) dd_Tree_awaitHoles_27 hf (fun o3 H locs hf hat => ?_)
  refine lv_iconst (v := np_i 1) C.x C.b dd_Tree_awaitHoles_30 rfl ?_
  refine np_isub C dd_Tree_awaitHoles_31 ?_
  refine lv_istore (lv' := [(7, .int (np_i (o3.1 - 1))), (6, .int (np_i x3)), (5, .int (np_i 0)), (4, .int (np_i ((σ 16 x1) * 7))), (0, .ref (q 15)), (1, .int (np_i x1)), (2, .int (np_i x2)), (3, .int (np_i x3))]) C.x C.b dd_Tree_awaitHoles_32 hl (by decide) rfl (fun ls hl => ?_)
  exact w_f_Tree_awaitHoles_34 C hQ  6000 _ _ _ _ _ _ _ _ _ _ hf hat (lv_sub hl [4, 5, 6, 3, 2, 1, 0] rfl)
set_option maxHeartbeats 4000000 in
set_option maxRecDepth 100000 in
theorem c_Tree_awaitHoles (l : Launch) {gA : Nat → Nat} {D : va_G} {q : Nat → Nat} {cI cL cB : ClassId} (x1 x2 x3 : Int) (σ : np_S) : np_Mi gA l D np_cl (np_ty cI cL cB) (nc_wd q cI cL cB) yy_Tree_awaitHoles (.code yy_Tree_awaitHoles prog_7_method_6_code 10 (some .int) :: np_al) { frames := 2, cells := 0, slots := 0, locals := 48 } [.ref (q 15), .int (np_i x1), .int (np_i x2), .int (np_i x3)] σ (f_Tree_awaitHoles x1 x2 x3 σ) :=
  np_mki (by decide +kernel) (Nat.le_of_ble_eq_true rfl) (fun o p e R s m args below meth c Q A ls hf C hQ hat hl => w_f_Tree_awaitHoles C hQ x1 x2 x3 σ _ _ _ hf hat (lv_sub hl [0, 1, 2, 3] rfl))
end NW3
end
section
section NW4
variable {p : Program} {l : Launch} {e : Env} {R : Room} {s : State} {m : MethodId} {args : Array Value} {below : List Frame} {meth : Method} {c : Code} {Q : State → Prop} {D : va_G} {A : Nat → Prop} {q : Nat → Nat} {cI cL cB : ClassId} {out : np_O} {gA : Nat → Nat}
set_option maxHeartbeats 4000000 in
set_option maxRecDepth 100000 in
theorem w_f_Tree_growNode (C : np_Cx gA p R s m args c D np_cl (np_ty cI cL cB) A np_al "NotationParse$Tree" prog_7_method_5_code 4 { frames := 3, cells := 0, slots := 0, locals := 77 }) (hQ : ∀ (pc : Nat) (ls : Array Slot) (H : Heap) (locs : List Loc) {σ : np_S}, decode prog_7_method_5_code pc = .ok (.return_, 1) → some ((0 : Int), σ) = some out → np_At D np_cl A (nc_wd q cI cL cB) s σ H locs → W p l e R s m args below meth c H locs 0 0 Q (F0 m pc ls []))   : ∀ (x1 x2 x3 : Int) (σ : np_S) (H : Heap) (locs : List Loc) (ls : Array Slot), f_Tree_growNode  x1 x2 x3 σ = some out → np_At D np_cl A (nc_wd q cI cL cB) s σ H locs → lv_has ls 4 [(0, .ref (q 15)), (1, .int (np_i x1)), (2, .int (np_i x2)), (3, .int (np_i x3))] → W p l e R s m args below meth c H locs 0 0 Q (F0 m 0 ls []) := by
  intro x1 x2 x3 σ H locs ls hf hat hl
  unfold f_Tree_growNode at hf
  refine lv_aload_n C.x C.b dd_Tree_growNode_0 rfl (lv_at hl 0 rfl) ?_
  refine np_get (v := .ref (q 16)) C i_Tree hat.1 15 (nc_o15 _) rfl 3 (by decide) tw_144 rfl rfl dd_Tree_growNode_1 ?_
  refine lv_iload_n C.x C.b dd_Tree_growNode_4 rfl (lv_at hl 1 rfl) ?_
  refine lv_aload_n C.x C.b dd_Tree_growNode_5 rfl (lv_at hl 0 rfl) ?_
  refine np_get (v := .ref (q 11)) C i_Tree hat.1 15 (nc_o15 _) rfl 1 (by decide) tw_141 rfl rfl dd_Tree_growNode_6 ?_
  refine lv_iload_n C.x C.b dd_Tree_growNode_9 rfl (lv_at hl 2 rfl) ?_
  refine lv_iload_n C.x C.b dd_Tree_growNode_10 rfl (lv_at hl 3 rfl) ?_
  refine lv_aload_n C.x C.b dd_Tree_growNode_11 rfl (lv_at hl 0 rfl) ?_
  refine np_get (v := .ref (q 24)) C i_Tree hat.1 15 (nc_o15 _) rfl 12 (by decide) tw_158 rfl rfl dd_Tree_growNode_12 ?_
  refine lv_aload_n C.x C.b dd_Tree_growNode_15 rfl (lv_at hl 0 rfl) ?_
  refine np_get (v := .int (np_i (σ 15 9))) C i_Tree hat.1 15 (nc_o15 _) rfl 9 (by decide) tw_155 rfl rfl dd_Tree_growNode_16 ?_
  refine np_iaload C hat.1 24 (nc_a24 _) 0 rfl (by decide) dd_Tree_growNode_19 hf (fun hf => ?_)
  refine np_callVi (As := [.int (np_i x2), .int (np_i x3), .int (np_i (σ 24 (σ 15 9)))]) (rest := [.int (np_i x1), .ref (q 16)]) C (c_Chart_onlyRule l x2 x3 (σ 24 (σ 15 9)) _) np_allgood tw_850 tw_851 tw_852 tw_5 tw_853 (nA := 3) (by decide +kernel) rfl ⟨rfl, rfl, Nat.le_of_ble_eq_true rfl, Nat.le_of_ble_eq_true rfl⟩ (nc_o11 _) rfl hat rfl hl.1 (Nat.le_of_ble_eq_true rfl) dd_Tree_growNode_20 hf (fun o1 H locs hf hat => ?_)
  refine np_iastore C hat 16 (nc_a16 _) 0 rfl (by decide) (nc_s16 _ _ _) dd_Tree_growNode_23 hf (fun H locs hat hf => ?_)
  refine lv_aload_n C.x C.b dd_Tree_growNode_24 rfl (lv_at hl 0 rfl) ?_
  refine np_get (v := .ref (q 18)) C i_Tree hat.1 15 (nc_o15 _) rfl 5 (by decide) tw_148 rfl rfl dd_Tree_growNode_25 ?_
  refine lv_iload_n C.x C.b dd_Tree_growNode_28 rfl (lv_at hl 1 rfl) ?_
  refine lv_iload_n C.x C.b dd_Tree_growNode_29 rfl (lv_at hl 2 rfl) ?_
  refine np_iastore C hat 18 (nc_a18 _) 0 rfl (by decide) (nc_s18 _ _ _) dd_Tree_growNode_30 hf (fun H locs hat hf => ?_)
  refine lv_aload_n C.x C.b dd_Tree_growNode_31 rfl (lv_at hl 0 rfl) ?_
  refine np_get (v := .ref (q 19)) C i_Tree hat.1 15 (nc_o15 _) rfl 6 (by decide) tw_150 rfl rfl dd_Tree_growNode_32 ?_
  refine lv_iload_n C.x C.b dd_Tree_growNode_35 rfl (lv_at hl 1 rfl) ?_
  refine lv_iload_n C.x C.b dd_Tree_growNode_36 rfl (lv_at hl 3 rfl) ?_
  refine lv_iload_n C.x C.b dd_Tree_growNode_37 rfl (lv_at hl 2 rfl) ?_
  refine np_isub C dd_Tree_growNode_38 ?_
  refine np_iastore C hat 19 (nc_a19 _) 0 rfl (by decide) (nc_s19 _ _ _) dd_Tree_growNode_39 hf (fun H locs hat hf => ?_)
  refine lv_aload_n C.x C.b dd_Tree_growNode_40 rfl (lv_at hl 0 rfl) ?_
  refine np_get (v := .ref (q 20)) C i_Tree hat.1 15 (nc_o15 _) rfl 7 (by decide) tw_152 rfl rfl dd_Tree_growNode_41 ?_
  refine lv_iload_n C.x C.b dd_Tree_growNode_44 rfl (lv_at hl 1 rfl) ?_
  refine lv_aload_n C.x C.b dd_Tree_growNode_45 rfl (lv_at hl 0 rfl) ?_
  refine np_get (v := .ref (q 25)) C i_Tree hat.1 15 (nc_o15 _) rfl 13 (by decide) tw_159 rfl rfl dd_Tree_growNode_46 ?_
  refine lv_aload_n C.x C.b dd_Tree_growNode_49 rfl (lv_at hl 0 rfl) ?_
  refine np_get (v := .int (np_i ((np_st (np_st (np_st o1.2 16 x1 o1.1) 18 x1 x2) 19 x1 (x3 - x2)) 15 9))) C i_Tree hat.1 15 (nc_o15 _) rfl 9 (by decide) tw_155 rfl rfl dd_Tree_growNode_50 ?_
  refine np_iaload C hat.1 25 (nc_a25 _) 0 rfl (by decide) dd_Tree_growNode_53 hf (fun hf => ?_)
  refine np_iastore C hat 20 (nc_a20 _) 0 rfl (by decide) (nc_s20 _ _ _) dd_Tree_growNode_54 hf (fun H locs hat hf => ?_)
  refine lv_aload_n C.x C.b dd_Tree_growNode_55 rfl (lv_at hl 0 rfl) ?_
  refine np_get (v := .ref (q 21)) C i_Tree hat.1 15 (nc_o15 _) rfl 8 (by decide) tw_154 rfl rfl dd_Tree_growNode_56 ?_
  refine lv_iload_n C.x C.b dd_Tree_growNode_59 rfl (lv_at hl 1 rfl) ?_
  refine lv_aload_n C.x C.b dd_Tree_growNode_60 rfl (lv_at hl 0 rfl) ?_
  refine np_get (v := .ref (q 24)) C i_Tree hat.1 15 (nc_o15 _) rfl 12 (by decide) tw_158 rfl rfl dd_Tree_growNode_61 ?_
  refine lv_aload_n C.x C.b dd_Tree_growNode_64 rfl (lv_at hl 0 rfl) ?_
  refine np_get (v := .int (np_i ((np_st (np_st (np_st (np_st o1.2 16 x1 o1.1) 18 x1 x2) 19 x1 (x3 - x2)) 20 x1 ((np_st (np_st (np_st o1.2 16 x1 o1.1) 18 x1 x2) 19 x1 (x3 - x2)) 25 ((np_st (np_st (np_st o1.2 16 x1 o1.1) 18 x1 x2) 19 x1 (x3 - x2)) 15 9))) 15 9))) C i_Tree hat.1 15 (nc_o15 _) rfl 9 (by decide) tw_155 rfl rfl dd_Tree_growNode_65 ?_
  refine np_iaload C hat.1 24 (nc_a24 _) 0 rfl (by decide) dd_Tree_growNode_68 hf (fun hf => ?_)
  refine np_iastore C hat 21 (nc_a21 _) 0 rfl (by decide) (nc_s21 _ _ _) dd_Tree_growNode_69 hf (fun H locs hat hf => ?_)
  refine lv_aload_n C.x C.b dd_Tree_growNode_70 rfl (lv_at hl 0 rfl) ?_
  refine np_get (v := .ref (q 17)) C i_Tree hat.1 15 (nc_o15 _) rfl 4 (by decide) tw_146 rfl rfl dd_Tree_growNode_71 ?_
  refine lv_iload_n C.x C.b dd_Tree_growNode_74 rfl (lv_at hl 1 rfl) ?_
  refine lv_aload_n C.x C.b dd_Tree_growNode_75 rfl (lv_at hl 0 rfl) ?_
  refine lv_iload_n C.x C.b dd_Tree_growNode_76 rfl (lv_at hl 1 rfl) ?_
  refine lv_iload_n C.x C.b dd_Tree_growNode_77 rfl (lv_at hl 2 rfl) ?_
  refine lv_iload_n C.x C.b dd_Tree_growNode_78 rfl (lv_at hl 3 rfl) ?_
  refine np_callVi (As := [.int (np_i x1), .int (np_i x2), .int (np_i x3)]) (rest := [.int (np_i x1), .ref (q 17)]) C (c_Tree_awaitHoles l x1 x2 x3 _) np_allgood tw_854 tw_856 tp_24 tw_6 tw_857 (nA := 3) (by decide +kernel) rfl ⟨rfl, rfl, Nat.le_of_ble_eq_true rfl, Nat.le_of_ble_eq_true rfl⟩ (nc_o15 _) rfl hat rfl hl.1 (Nat.le_of_ble_eq_true rfl) dd_Tree_growNode_79 hf (fun o2 H locs hf hat => ?_)
  refine np_iastore C hat 17 (nc_a17 _) 0 rfl (by decide) (nc_s17 _ _ _) dd_Tree_growNode_82 hf (fun H locs hat hf => ?_)
  exact hQ _ _ _ _ dd_Tree_growNode_83 hf hat
set_option maxHeartbeats 4000000 in
set_option maxRecDepth 100000 in
theorem c_Tree_growNode (l : Launch) {gA : Nat → Nat} {D : va_G} {q : Nat → Nat} {cI cL cB : ClassId} (x1 x2 x3 : Int) (σ : np_S) : np_Mv gA l D np_cl (np_ty cI cL cB) (nc_wd q cI cL cB) yy_Tree_growNode (.code yy_Tree_growNode prog_7_method_5_code 4 none :: np_al) { frames := 3, cells := 0, slots := 0, locals := 77 } [.ref (q 15), .int (np_i x1), .int (np_i x2), .int (np_i x3)] σ (f_Tree_growNode x1 x2 x3 σ) :=
  np_mkv (by decide +kernel) (Nat.le_of_ble_eq_true rfl) (fun o p e R s m args below meth c Q A ls hf C hQ hat hl => w_f_Tree_growNode C hQ x1 x2 x3 σ _ _ _ hf hat (lv_sub hl [0, 1, 2, 3] rfl))
set_option maxHeartbeats 4000000 in
set_option maxRecDepth 100000 in
theorem w_f_Tree_grow_82 (C : np_Cx gA p R s m args c D np_cl (np_ty cI cL cB) A np_al "NotationParse$Tree" prog_7_method_3_code 3 { frames := 4, cells := 0, slots := 0, locals := 100 }) (hQ : ∀ (pc : Nat) (ls : Array Slot) (H : Heap) (locs : List Loc) {σ : np_S}, decode prog_7_method_3_code pc = .ok (.return_, 1) → some ((0 : Int), σ) = some out → np_At D np_cl A (nc_wd q cI cL cB) s σ H locs → W p l e R s m args below meth c H locs 0 0 Q (F0 m pc ls []))   : ∀ (σ : np_S) (H : Heap) (locs : List Loc) (ls : Array Slot), f_Tree_grow_82  σ = some out → np_At D np_cl A (nc_wd q cI cL cB) s σ H locs → lv_has ls 3 [] → W p l e R s m args below meth c H locs 0 0 Q (F0 m 82 ls []) := by
  intro σ H locs ls hf hat hl
  unfold f_Tree_grow_82 at hf
  exact hQ _ _ _ _ dd_Tree_grow_82 hf hat
set_option maxHeartbeats 4000000 in
set_option maxRecDepth 100000 in
theorem w_f_Tree_grow_20 (C : np_Cx gA p R s m args c D np_cl (np_ty cI cL cB) A np_al "NotationParse$Tree" prog_7_method_3_code 3 { frames := 4, cells := 0, slots := 0, locals := 100 }) (hQ : ∀ (pc : Nat) (ls : Array Slot) (H : Heap) (locs : List Loc) {σ : np_S}, decode prog_7_method_3_code pc = .ok (.return_, 1) → some ((0 : Int), σ) = some out → np_At D np_cl A (nc_wd q cI cL cB) s σ H locs → W p l e R s m args below meth c H locs 0 0 Q (F0 m pc ls []))   : ∀ (n : Nat), ∀ (x2 : Int) (σ : np_S) (H : Heap) (locs : List Loc) (ls : Array Slot), f_Tree_grow_20  n x2 σ = some out → np_At D np_cl A (nc_wd q cI cL cB) s σ H locs → lv_has ls 3 [(0, .ref (q 15)), (2, .int (np_i x2))] → W p l e R s m args below meth c H locs 0 0 Q (F0 m 20 ls []) := by
  intro n
  induction n with
  | zero => intro x2 σ H locs ls hf; cases hf
  | succ n ih =>
    intro x2 σ H locs ls hf hat hl
    have h20 := ih
    have hf : f_Tree_grow_20_b  (fun x2 σ => f_Tree_grow_20  n x2 σ) x2 σ = some out := hf
    unfold f_Tree_grow_20_b at hf
    refine lv_iload_n C.x C.b dd_Tree_grow_20 rfl (lv_at hl 1 rfl) ?_
    refine lv_bipush (v := np_i 30) C.x C.b dd_Tree_grow_21 (by decide +kernel) ?_
    refine np_icmp_ge (tgt := 82) C dd_Tree_grow_23 (by decide) hf (fun _ hf => ?_) (fun _ hf => ?_)
    · exact w_f_Tree_grow_82 C hQ   _ _ _ _ hf hat (lv_sub hl [] rfl)
    · refine lv_aload_n C.x C.b dd_Tree_grow_26 rfl (lv_at hl 0 rfl) ?_
      refine np_get (v := .int (np_i (σ 15 9))) C i_Tree hat.1 15 (nc_o15 _) rfl 9 (by decide) tw_155 rfl rfl dd_Tree_grow_27 ?_
      refine np_if_le (tgt := 82) C dd_Tree_grow_30 (by decide) hf (fun _ hf => ?_) (fun _ hf => ?_)
      · exact w_f_Tree_grow_82 C hQ   _ _ _ _ hf hat (lv_sub hl [] rfl)
      · refine lv_aload_n C.x C.b dd_Tree_grow_33 rfl (lv_at hl 0 rfl) ?_
        refine lv_dup C.x C.b dd_Tree_grow_34 rfl ?_
        refine np_get (v := .int (np_i (σ 15 9))) C i_Tree hat.1 15 (nc_o15 _) rfl 9 (by decide) tw_155 rfl rfl dd_Tree_grow_35 ?_
        refine lv_iconst (v := np_i 1) C.x C.b dd_Tree_grow_38 rfl ?_
        refine np_isub C dd_Tree_grow_39 ?_
        refine np_put C i_Tree t_Tree tok_Tree n_Tree hat 15 (nc_o15 _) rfl 9 (by decide) tw_155 rfl rfl (by decide +kernel) (np_narI ((σ 15 9) - 1)) (np_fitI ((σ 15 9) - 1)) (Nat.le_of_ble_eq_true rfl) (nc_s15_9 _ _) dd_Tree_grow_40 (fun H locs hat => ?_)
        refine lv_aload_n C.x C.b dd_Tree_grow_43 rfl (lv_at hl 0 rfl) ?_
        refine lv_iload_n C.x C.b dd_Tree_grow_44 rfl (lv_at hl 1 rfl) ?_
        refine lv_aload_n C.x C.b dd_Tree_grow_45 rfl (lv_at hl 0 rfl) ?_
        refine np_get (v := .ref (q 22)) C i_Tree hat.1 15 (nc_o15 _) rfl 10 (by decide) tw_156 rfl rfl dd_Tree_grow_46 ?_
        refine lv_aload_n C.x C.b dd_Tree_grow_49 rfl (lv_at hl 0 rfl) ?_
        refine np_get (v := .int (np_i ((np_st σ 15 9 ((σ 15 9) - 1)) 15 9))) C i_Tree hat.1 15 (nc_o15 _) rfl 9 (by decide) tw_155 rfl rfl dd_Tree_grow_50 ?_
        refine np_iaload C hat.1 22 (nc_a22 _) 0 rfl (by decide) dd_Tree_grow_53 hf (fun hf => ?_)
        refine lv_aload_n C.x C.b dd_Tree_grow_54 rfl (lv_at hl 0 rfl) ?_
        refine np_get (v := .ref (q 23)) C i_Tree hat.1 15 (nc_o15 _) rfl 11 (by decide) tw_157 rfl rfl dd_Tree_grow_55 ?_
        refine lv_aload_n C.x C.b dd_Tree_grow_58 rfl (lv_at hl 0 rfl) ?_
        refine np_get (v := .int (np_i ((np_st σ 15 9 ((σ 15 9) - 1)) 15 9))) C i_Tree hat.1 15 (nc_o15 _) rfl 9 (by decide) tw_155 rfl rfl dd_Tree_grow_59 ?_
        refine np_iaload C hat.1 23 (nc_a23 _) 0 rfl (by decide) dd_Tree_grow_62 hf (fun hf => ?_)
        refine np_callVv (As := [.int (np_i x2), .int (np_i ((np_st σ 15 9 ((σ 15 9) - 1)) 22 ((np_st σ 15 9 ((σ 15 9) - 1)) 15 9))), .int (np_i ((np_st σ 15 9 ((σ 15 9) - 1)) 23 ((np_st σ 15 9 ((σ 15 9) - 1)) 15 9)))]) (rest := []) C (c_Tree_growNode l x2 ((np_st σ 15 9 ((σ 15 9) - 1)) 22 ((np_st σ 15 9 ((σ 15 9) - 1)) 15 9)) ((np_st σ 15 9 ((σ 15 9) - 1)) 23 ((np_st σ 15 9 ((σ 15 9) - 1)) 15 9)) _) np_allgood tw_846 tw_848 tp_23 tw_6 tw_849 (nA := 3) (by decide +kernel) rfl ⟨rfl, rfl, Nat.le_of_ble_eq_true rfl, Nat.le_of_ble_eq_true rfl⟩ (nc_o15 _) rfl hat rfl hl.1 (Nat.le_of_ble_eq_true rfl) dd_Tree_grow_63 hf (fun o1 H locs hf hat => ?_)
        refine lv_aload_n C.x C.b dd_Tree_grow_66 rfl (lv_at hl 0 rfl) ?_
        refine lv_dup C.x C.b dd_Tree_grow_67 rfl ?_
        refine np_get (v := .int (np_i (o1.2 15 2))) C i_Tree hat.1 15 (nc_o15 _) rfl 2 (by decide) tw_142 rfl rfl dd_Tree_grow_68 ?_
        refine lv_iconst (v := np_i 1) C.x C.b dd_Tree_grow_71 rfl ?_
        refine np_iadd C dd_Tree_grow_72 ?_
        refine np_put C i_Tree t_Tree tok_Tree n_Tree hat 15 (nc_o15 _) rfl 2 (by decide) tw_142 rfl rfl (by decide +kernel) (np_narI ((o1.2 15 2) + 1)) (np_fitI ((o1.2 15 2) + 1)) (Nat.le_of_ble_eq_true rfl) (nc_s15_2 _ _) dd_Tree_grow_73 (fun H locs hat => ?_)
        refine lv_iinc (v := np_i (x2 + 1)) (lv' := [(2, .int (np_i (x2 + 1))), (0, .ref (q 15))]) C.x C.b dd_Tree_grow_76 hl (k := 1) rfl (np_inc _ _) (by decide) rfl (fun ls hl => ?_)
        refine lv_goto (tgt := 20) C.x C.b dd_Tree_grow_79 (by decide) ?_
        exact h20 _ _ _ _ _ hf hat (lv_sub hl [1, 0] rfl)
set_option maxHeartbeats 4000000 in
set_option maxRecDepth 100000 in
theorem w_f_Tree_grow (C : np_Cx gA p R s m args c D np_cl (np_ty cI cL cB) A np_al "NotationParse$Tree" prog_7_method_3_code 3 { frames := 4, cells := 0, slots := 0, locals := 100 }) (hQ : ∀ (pc : Nat) (ls : Array Slot) (H : Heap) (locs : List Loc) {σ : np_S}, decode prog_7_method_3_code pc = .ok (.return_, 1) → some ((0 : Int), σ) = some out → np_At D np_cl A (nc_wd q cI cL cB) s σ H locs → W p l e R s m args below meth c H locs 0 0 Q (F0 m pc ls []))   : ∀ (x1 : Int) (σ : np_S) (H : Heap) (locs : List Loc) (ls : Array Slot), f_Tree_grow  x1 σ = some out → np_At D np_cl A (nc_wd q cI cL cB) s σ H locs → lv_has ls 3 [(0, .ref (q 15)), (1, .int (np_i x1))] → W p l e R s m args below meth c H locs 0 0 Q (F0 m 0 ls []) := by
  intro x1 σ H locs ls hf hat hl
  unfold f_Tree_grow at hf
  refine lv_aload_n C.x C.b dd_Tree_grow_0 rfl (lv_at hl 0 rfl) ?_
  refine lv_iconst (v := np_i 0) C.x C.b dd_Tree_grow_1 rfl ?_
  refine np_put C i_Tree t_Tree tok_Tree n_Tree hat 15 (nc_o15 _) rfl 2 (by decide) tw_142 rfl rfl (by decide +kernel) (np_narI 0) (np_fitI 0) (Nat.le_of_ble_eq_true rfl) (nc_s15_2 _ _) dd_Tree_grow_2 (fun H locs hat => ?_)
  refine lv_aload_n C.x C.b dd_Tree_grow_5 rfl (lv_at hl 0 rfl) ?_
  refine lv_iconst (v := np_i 0) C.x C.b dd_Tree_grow_6 rfl ?_
  refine np_put C i_Tree t_Tree tok_Tree n_Tree hat 15 (nc_o15 _) rfl 9 (by decide) tw_155 rfl rfl (by decide +kernel) (np_narI 0) (np_fitI 0) (Nat.le_of_ble_eq_true rfl) (nc_s15_9 _ _) dd_Tree_grow_7 (fun H locs hat => ?_)
  refine lv_aload_n C.x C.b dd_Tree_grow_10 rfl (lv_at hl 0 rfl) ?_
  refine lv_iconst (v := np_i 0) C.x C.b dd_Tree_grow_11 rfl ?_
  refine lv_iload_n C.x C.b dd_Tree_grow_12 rfl (lv_at hl 1 rfl) ?_
  refine lv_iconst (v := np_i 0) C.x C.b dd_Tree_grow_13 rfl ?_
  refine lv_iconst (v := np_i (-1)) C.x C.b dd_Tree_grow_14 rfl ?_
  refine np_callVv (As := [.int (np_i 0), .int (np_i x1), .int (np_i 0), .int (np_i ((-1)))]) (rest := []) C (c_Tree_await l 0 x1 0 ((-1)) _) np_allgood tw_842 tw_844 tp_22 tw_6 tw_845 (nA := 4) (by decide +kernel) rfl ⟨rfl, rfl, Nat.le_of_ble_eq_true rfl, Nat.le_of_ble_eq_true rfl⟩ (nc_o15 _) rfl hat rfl hl.1 (Nat.le_of_ble_eq_true rfl) dd_Tree_grow_15 hf (fun o2 H locs hf hat => ?_)
  refine lv_iconst (v := np_i 0) C.x C.b dd_Tree_grow_18 rfl ?_
  refine lv_istore_n (lv' := [(2, .int (np_i 0)), (0, .ref (q 15)), (1, .int (np_i x1))]) C.x C.b dd_Tree_grow_19 rfl hl (by decide) rfl (fun ls hl => ?_)
  exact w_f_Tree_grow_20 C hQ  6000 _ _ _ _ _ hf hat (lv_sub hl [1, 0] rfl)
set_option maxHeartbeats 4000000 in
set_option maxRecDepth 100000 in
theorem c_Tree_grow (l : Launch) {gA : Nat → Nat} {D : va_G} {q : Nat → Nat} {cI cL cB : ClassId} (x1 : Int) (σ : np_S) : np_Mv gA l D np_cl (np_ty cI cL cB) (nc_wd q cI cL cB) yy_Tree_grow (.code yy_Tree_grow prog_7_method_3_code 3 none :: np_al) { frames := 4, cells := 0, slots := 0, locals := 100 } [.ref (q 15), .int (np_i x1)] σ (f_Tree_grow x1 σ) :=
  np_mkv (by decide +kernel) (Nat.le_of_ble_eq_true rfl) (fun o p e R s m args below meth c Q A ls hf C hQ hat hl => w_f_Tree_grow C hQ x1 σ _ _ _ hf hat (lv_sub hl [0, 1] rfl))
set_option maxHeartbeats 4000000 in
set_option maxRecDepth 100000 in
theorem w_f_Spelling_lowBytes_20 (C : np_Cx gA p R s m args c D np_cl (np_ty cI cL cB) A np_al "NotationParse$Spelling" prog_5_method_4_code 3 { frames := 0, cells := 0, slots := 0, locals := 0 }) (hQ : ∀ (pc : Nat) (ls : Array Slot) (H : Heap) (locs : List Loc) (v : Int) {σ : np_S}, decode prog_5_method_4_code pc = .ok (.lreturn, 1) → some (v, σ) = some out → np_At D np_cl A (nc_wd q cI cL cB) s σ H locs → W p l e R s m args below meth c H locs 0 0 Q (F0 m pc ls [.long (np_l v)]))   : ∀ (t0 : Int) (σ : np_S) (H : Heap) (locs : List Loc) (ls : Array Slot), f_Spelling_lowBytes_20  t0 σ = some out → np_At D np_cl A (nc_wd q cI cL cB) s σ H locs → lv_has ls 3 [] → W p l e R s m args below meth c H locs 0 0 Q (F0 m 20 ls [.long (np_l t0)]) := by
  intro t0 σ H locs ls hf hat hl
  unfold f_Spelling_lowBytes_20 at hf
  exact hQ _ _ _ _ _ dd_Spelling_lowBytes_20 hf hat
set_option maxHeartbeats 4000000 in
set_option maxRecDepth 100000 in
theorem w_f_Spelling_lowBytes (C : np_Cx gA p R s m args c D np_cl (np_ty cI cL cB) A np_al "NotationParse$Spelling" prog_5_method_4_code 3 { frames := 0, cells := 0, slots := 0, locals := 0 }) (hQ : ∀ (pc : Nat) (ls : Array Slot) (H : Heap) (locs : List Loc) (v : Int) {σ : np_S}, decode prog_5_method_4_code pc = .ok (.lreturn, 1) → some (v, σ) = some out → np_At D np_cl A (nc_wd q cI cL cB) s σ H locs → W p l e R s m args below meth c H locs 0 0 Q (F0 m pc ls [.long (np_l v)]))   : ∀ (x0 x2 : Int) (σ : np_S) (H : Heap) (locs : List Loc) (ls : Array Slot), f_Spelling_lowBytes  x0 x2 σ = some out → np_At D np_cl A (nc_wd q cI cL cB) s σ H locs → lv_has ls 3 [(0, .long (np_l x0)), (2, .int (np_i x2))] → W p l e R s m args below meth c H locs 0 0 Q (F0 m 0 ls []) := by
  intro x0 x2 σ H locs ls hf hat hl
  unfold f_Spelling_lowBytes at hf
  refine lv_iload_n C.x C.b dd_Spelling_lowBytes_0 rfl (lv_at hl 1 rfl) ?_
  refine lv_bipush (v := np_i 8) C.x C.b dd_Spelling_lowBytes_1 (by decide +kernel) ?_
  refine np_icmp_lt (tgt := 10) C dd_Spelling_lowBytes_3 (by decide) hf (fun _ hf => ?_) (fun _ hf => ?_)
  · refine lv_lload_n C.x C.b dd_Spelling_lowBytes_10 rfl (lv_at hl 0 rfl) ?_
    refine lv_lconst (v := np_l 1) C.x C.b dd_Spelling_lowBytes_11 (by decide +kernel) ?_
    refine lv_bipush (v := np_i 8) C.x C.b dd_Spelling_lowBytes_12 (by decide +kernel) ?_
    refine lv_iload_n C.x C.b dd_Spelling_lowBytes_14 rfl (lv_at hl 1 rfl) ?_
    refine np_imul C dd_Spelling_lowBytes_15 ?_
    refine np_lshl C dd_Spelling_lowBytes_16 ?_
    refine lv_lconst (v := np_l 1) C.x C.b dd_Spelling_lowBytes_17 (by decide +kernel) ?_
    refine np_lsub C dd_Spelling_lowBytes_18 ?_
    refine np_land C dd_Spelling_lowBytes_19 ?_
    exact w_f_Spelling_lowBytes_20 C hQ  _ _ _ _ _ hf hat (lv_sub hl [] rfl)
  · refine lv_lload_n C.x C.b dd_Spelling_lowBytes_6 rfl (lv_at hl 0 rfl) ?_
    refine lv_goto (tgt := 20) C.x C.b dd_Spelling_lowBytes_7 (by decide) ?_
    exact w_f_Spelling_lowBytes_20 C hQ  _ _ _ _ _ hf hat (lv_sub hl [] rfl)
set_option maxHeartbeats 4000000 in
set_option maxRecDepth 100000 in
theorem c_Spelling_lowBytes (l : Launch) {gA : Nat → Nat} {D : va_G} {q : Nat → Nat} {cI cL cB : ClassId} (x0 x2 : Int) (σ : np_S) : np_Ml gA l D np_cl (np_ty cI cL cB) (nc_wd q cI cL cB) yy_Spelling_lowBytes (.code yy_Spelling_lowBytes prog_5_method_4_code 3 (some .long) :: np_al) { frames := 0, cells := 0, slots := 0, locals := 0 } [.long (np_l x0), .int (np_i x2)] σ (f_Spelling_lowBytes x0 x2 σ) :=
  np_mkl (by decide +kernel) (Nat.le_of_ble_eq_true rfl) (fun o p e R s m args below meth c Q A ls hf C hQ hat hl => w_f_Spelling_lowBytes C hQ x0 x2 σ _ _ _ hf hat (lv_sub hl [0, 1] rfl))
end NW4
end
