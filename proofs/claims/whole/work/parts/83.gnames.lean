def yy_Grammar_init : MethodName := ⟨"NotationParse$Grammar", "<init>", "()V"⟩
def yy_Arrays_fill3 : MethodName := ⟨"java/util/Arrays", "fill", "([II)V"⟩
def yy_Arrays_fill4 : MethodName := ⟨"java/util/Arrays", "fill", "([JJ)V"⟩
theorem tw_40 : (Jvm.Cond.methodLink "NotationParse$Grammar" (3 : Nat) ({ cls := "java/lang/Object", name := "<init>", desc := "()V" } : Jvm.MethodName)) ∈ np_al := List.mem_filter.mpr ⟨List.mem_append_right _ (List.mem_append_left _ (List.mem_of_getElem? (i := 40) rfl)), rfl⟩
theorem tw_41 : (Jvm.Cond.methodLink "NotationParse$Grammar" (32 : Nat) ({ cls := "java/util/Arrays", name := "fill", desc := "([II)V" } : Jvm.MethodName)) ∈ np_al := List.mem_filter.mpr ⟨List.mem_append_right _ (List.mem_append_left _ (List.mem_of_getElem? (i := 41) rfl)), rfl⟩
theorem tw_42 : (Jvm.Cond.static ({ cls := "java/util/Arrays", name := "fill", desc := "([II)V" } : Jvm.MethodName)) ∈ np_al := List.mem_filter.mpr ⟨List.mem_append_right _ (List.mem_append_left _ (List.mem_of_getElem? (i := 42) rfl)), rfl⟩
theorem tw_43 : (Jvm.Cond.code ({ cls := "java/util/Arrays", name := "fill", desc := "([II)V" } : Jvm.MethodName) prog_25_method_103_code (4 : Nat) (Option.none : Option Jvm.ClassFile.FieldType)) ∈ np_al := List.mem_filter.mpr ⟨List.mem_append_right _ (List.mem_append_left _ (List.mem_of_getElem? (i := 43) rfl)), rfl⟩
theorem tw_45 : (Jvm.Cond.methodLink "NotationParse$Grammar" (40 : Nat) ({ cls := "java/util/Arrays", name := "fill", desc := "([JJ)V" } : Jvm.MethodName)) ∈ np_al := List.mem_filter.mpr ⟨List.mem_append_right _ (List.mem_append_left _ (List.mem_of_getElem? (i := 45) rfl)), rfl⟩
theorem tw_46 : (Jvm.Cond.static ({ cls := "java/util/Arrays", name := "fill", desc := "([JJ)V" } : Jvm.MethodName)) ∈ np_al := List.mem_filter.mpr ⟨List.mem_append_right _ (List.mem_append_left _ (List.mem_of_getElem? (i := 46) rfl)), rfl⟩
theorem tw_47 : (Jvm.Cond.code ({ cls := "java/util/Arrays", name := "fill", desc := "([JJ)V" } : Jvm.MethodName) prog_25_method_101_code (5 : Nat) (Option.none : Option Jvm.ClassFile.FieldType)) ∈ np_al := List.mem_filter.mpr ⟨List.mem_append_right _ (List.mem_append_left _ (List.mem_of_getElem? (i := 47) rfl)), rfl⟩
theorem tw_48 : (Jvm.Cond.constantLong "NotationParse$Grammar" (43 : Nat) (40 : Int64)) ∈ np_al := List.mem_filter.mpr ⟨List.mem_append_right _ (List.mem_append_left _ (List.mem_of_getElem? (i := 48) rfl)), rfl⟩
theorem tw_49 : (Jvm.Cond.constantLong "NotationParse$Grammar" (45 : Nat) (41 : Int64)) ∈ np_al := List.mem_filter.mpr ⟨List.mem_append_right _ (List.mem_append_left _ (List.mem_of_getElem? (i := 49) rfl)), rfl⟩
theorem dd_Grammar_init_0 : decode prog_3_method_1_code 0 = .ok (.aload_n 0, 1) := by decide +kernel
theorem dd_Grammar_init_1 : decode prog_3_method_1_code 1 = .ok (.invokespecial 3, 3) := by decide +kernel
theorem dd_Grammar_init_4 : decode prog_3_method_1_code 4 = .ok (.aload_n 0, 1) := by decide +kernel
theorem dd_Grammar_init_5 : decode prog_3_method_1_code 5 = .ok (.bipush 105, 2) := by decide +kernel
theorem dd_Grammar_init_7 : decode prog_3_method_1_code 7 = .ok (.newarray .int, 2) := by decide +kernel
theorem dd_Grammar_init_9 : decode prog_3_method_1_code 9 = .ok (.putfield 9, 3) := by decide +kernel
theorem dd_Grammar_init_12 : decode prog_3_method_1_code 12 = .ok (.aload_n 0, 1) := by decide +kernel
theorem dd_Grammar_init_13 : decode prog_3_method_1_code 13 = .ok (.bipush 105, 2) := by decide +kernel
theorem dd_Grammar_init_15 : decode prog_3_method_1_code 15 = .ok (.newarray .long, 2) := by decide +kernel
theorem dd_Grammar_init_17 : decode prog_3_method_1_code 17 = .ok (.putfield 15, 3) := by decide +kernel
theorem dd_Grammar_init_20 : decode prog_3_method_1_code 20 = .ok (.aload_n 0, 1) := by decide +kernel
theorem dd_Grammar_init_21 : decode prog_3_method_1_code 21 = .ok (.bipush 14, 2) := by decide +kernel
theorem dd_Grammar_init_23 : decode prog_3_method_1_code 23 = .ok (.newarray .int, 2) := by decide +kernel
theorem dd_Grammar_init_25 : decode prog_3_method_1_code 25 = .ok (.putfield 19, 3) := by decide +kernel
theorem dd_Grammar_init_28 : decode prog_3_method_1_code 28 = .ok (.aload_n 0, 1) := by decide +kernel
theorem dd_Grammar_init_29 : decode prog_3_method_1_code 29 = .ok (.bipush 14, 2) := by decide +kernel
theorem dd_Grammar_init_31 : decode prog_3_method_1_code 31 = .ok (.newarray .int, 2) := by decide +kernel
theorem dd_Grammar_init_33 : decode prog_3_method_1_code 33 = .ok (.putfield 22, 3) := by decide +kernel
theorem dd_Grammar_init_36 : decode prog_3_method_1_code 36 = .ok (.aload_n 0, 1) := by decide +kernel
theorem dd_Grammar_init_37 : decode prog_3_method_1_code 37 = .ok (.iconst 2, 1) := by decide +kernel
theorem dd_Grammar_init_38 : decode prog_3_method_1_code 38 = .ok (.putfield 25, 3) := by decide +kernel
theorem dd_Grammar_init_41 : decode prog_3_method_1_code 41 = .ok (.aload_n 0, 1) := by decide +kernel
theorem dd_Grammar_init_42 : decode prog_3_method_1_code 42 = .ok (.iconst 0, 1) := by decide +kernel
theorem dd_Grammar_init_43 : decode prog_3_method_1_code 43 = .ok (.putfield 29, 3) := by decide +kernel
theorem dd_Grammar_init_46 : decode prog_3_method_1_code 46 = .ok (.aload_n 0, 1) := by decide +kernel
theorem dd_Grammar_init_47 : decode prog_3_method_1_code 47 = .ok (.getfield 9, 3) := by decide +kernel
theorem dd_Grammar_init_50 : decode prog_3_method_1_code 50 = .ok (.iconst (-1), 1) := by decide +kernel
theorem dd_Grammar_init_51 : decode prog_3_method_1_code 51 = .ok (.invokestatic 32, 3) := by decide +kernel
theorem dd_Grammar_init_54 : decode prog_3_method_1_code 54 = .ok (.aload_n 0, 1) := by decide +kernel
theorem dd_Grammar_init_55 : decode prog_3_method_1_code 55 = .ok (.getfield 15, 3) := by decide +kernel
theorem dd_Grammar_init_58 : decode prog_3_method_1_code 58 = .ok (.ldc2_w 38, 3) := by decide +kernel
theorem dd_Grammar_init_61 : decode prog_3_method_1_code 61 = .ok (.invokestatic 40, 3) := by decide +kernel
theorem dd_Grammar_init_64 : decode prog_3_method_1_code 64 = .ok (.aload_n 0, 1) := by decide +kernel
theorem dd_Grammar_init_65 : decode prog_3_method_1_code 65 = .ok (.getfield 15, 3) := by decide +kernel
theorem dd_Grammar_init_68 : decode prog_3_method_1_code 68 = .ok (.iconst 0, 1) := by decide +kernel
theorem dd_Grammar_init_69 : decode prog_3_method_1_code 69 = .ok (.ldc2_w 43, 3) := by decide +kernel
theorem dd_Grammar_init_72 : decode prog_3_method_1_code 72 = .ok (.lastore, 1) := by decide +kernel
theorem dd_Grammar_init_73 : decode prog_3_method_1_code 73 = .ok (.aload_n 0, 1) := by decide +kernel
theorem dd_Grammar_init_74 : decode prog_3_method_1_code 74 = .ok (.getfield 9, 3) := by decide +kernel
theorem dd_Grammar_init_77 : decode prog_3_method_1_code 77 = .ok (.iconst 1, 1) := by decide +kernel
theorem dd_Grammar_init_78 : decode prog_3_method_1_code 78 = .ok (.iconst 0, 1) := by decide +kernel
theorem dd_Grammar_init_79 : decode prog_3_method_1_code 79 = .ok (.iastore, 1) := by decide +kernel
theorem dd_Grammar_init_80 : decode prog_3_method_1_code 80 = .ok (.aload_n 0, 1) := by decide +kernel
theorem dd_Grammar_init_81 : decode prog_3_method_1_code 81 = .ok (.getfield 15, 3) := by decide +kernel
theorem dd_Grammar_init_84 : decode prog_3_method_1_code 84 = .ok (.iconst 2, 1) := by decide +kernel
theorem dd_Grammar_init_85 : decode prog_3_method_1_code 85 = .ok (.ldc2_w 45, 3) := by decide +kernel
theorem dd_Grammar_init_88 : decode prog_3_method_1_code 88 = .ok (.lastore, 1) := by decide +kernel
theorem dd_Grammar_init_89 : decode prog_3_method_1_code 89 = .ok (.aload_n 0, 1) := by decide +kernel
theorem dd_Grammar_init_90 : decode prog_3_method_1_code 90 = .ok (.getfield 22, 3) := by decide +kernel
theorem dd_Grammar_init_93 : decode prog_3_method_1_code 93 = .ok (.iconst 0, 1) := by decide +kernel
theorem dd_Grammar_init_94 : decode prog_3_method_1_code 94 = .ok (.iconst 3, 1) := by decide +kernel
theorem dd_Grammar_init_95 : decode prog_3_method_1_code 95 = .ok (.iastore, 1) := by decide +kernel
theorem dd_Grammar_init_96 : decode prog_3_method_1_code 96 = .ok (.aload_n 0, 1) := by decide +kernel
theorem dd_Grammar_init_97 : decode prog_3_method_1_code 97 = .ok (.getfield 19, 3) := by decide +kernel
theorem dd_Grammar_init_100 : decode prog_3_method_1_code 100 = .ok (.iconst 0, 1) := by decide +kernel
theorem dd_Grammar_init_101 : decode prog_3_method_1_code 101 = .ok (.bipush 10, 2) := by decide +kernel
theorem dd_Grammar_init_103 : decode prog_3_method_1_code 103 = .ok (.iastore, 1) := by decide +kernel
theorem dd_Grammar_init_104 : decode prog_3_method_1_code 104 = .ok (.aload_n 0, 1) := by decide +kernel
theorem dd_Grammar_init_105 : decode prog_3_method_1_code 105 = .ok (.getfield 15, 3) := by decide +kernel
theorem dd_Grammar_init_108 : decode prog_3_method_1_code 108 = .ok (.bipush 7, 2) := by decide +kernel
theorem dd_Grammar_init_110 : decode prog_3_method_1_code 110 = .ok (.lconst 0, 1) := by decide +kernel
theorem dd_Grammar_init_111 : decode prog_3_method_1_code 111 = .ok (.lastore, 1) := by decide +kernel
theorem dd_Grammar_init_112 : decode prog_3_method_1_code 112 = .ok (.aload_n 0, 1) := by decide +kernel
theorem dd_Grammar_init_113 : decode prog_3_method_1_code 113 = .ok (.getfield 22, 3) := by decide +kernel
theorem dd_Grammar_init_116 : decode prog_3_method_1_code 116 = .ok (.iconst 1, 1) := by decide +kernel
theorem dd_Grammar_init_117 : decode prog_3_method_1_code 117 = .ok (.iconst 1, 1) := by decide +kernel
theorem dd_Grammar_init_118 : decode prog_3_method_1_code 118 = .ok (.iastore, 1) := by decide +kernel
theorem dd_Grammar_init_119 : decode prog_3_method_1_code 119 = .ok (.aload_n 0, 1) := by decide +kernel
theorem dd_Grammar_init_120 : decode prog_3_method_1_code 120 = .ok (.getfield 19, 3) := by decide +kernel
theorem dd_Grammar_init_123 : decode prog_3_method_1_code 123 = .ok (.iconst 1, 1) := by decide +kernel
theorem dd_Grammar_init_124 : decode prog_3_method_1_code 124 = .ok (.bipush 10, 2) := by decide +kernel
theorem dd_Grammar_init_126 : decode prog_3_method_1_code 126 = .ok (.iastore, 1) := by decide +kernel
theorem dd_Grammar_init_127 : decode prog_3_method_1_code 127 = .ok (.return_, 1) := by decide +kernel
theorem dd_Arrays_fill3_0 : decode prog_25_method_103_code 0 = .ok (.iconst 0, 1) := by decide +kernel
theorem dd_Arrays_fill3_1 : decode prog_25_method_103_code 1 = .ok (.istore_n 2, 1) := by decide +kernel
theorem dd_Arrays_fill3_2 : decode prog_25_method_103_code 2 = .ok (.aload_n 0, 1) := by decide +kernel
theorem dd_Arrays_fill3_3 : decode prog_25_method_103_code 3 = .ok (.arraylength, 1) := by decide +kernel
theorem dd_Arrays_fill3_4 : decode prog_25_method_103_code 4 = .ok (.istore_n 3, 1) := by decide +kernel
theorem dd_Arrays_fill3_5 : decode prog_25_method_103_code 5 = .ok (.iload_n 2, 1) := by decide +kernel
theorem dd_Arrays_fill3_6 : decode prog_25_method_103_code 6 = .ok (.iload_n 3, 1) := by decide +kernel
theorem dd_Arrays_fill3_7 : decode prog_25_method_103_code 7 = .ok (.if_icmp .ge 13, 3) := by decide +kernel
theorem dd_Arrays_fill3_10 : decode prog_25_method_103_code 10 = .ok (.aload_n 0, 1) := by decide +kernel
theorem dd_Arrays_fill3_11 : decode prog_25_method_103_code 11 = .ok (.iload_n 2, 1) := by decide +kernel
theorem dd_Arrays_fill3_12 : decode prog_25_method_103_code 12 = .ok (.iload_n 1, 1) := by decide +kernel
theorem dd_Arrays_fill3_13 : decode prog_25_method_103_code 13 = .ok (.iastore, 1) := by decide +kernel
theorem dd_Arrays_fill3_14 : decode prog_25_method_103_code 14 = .ok (.iinc 2 1, 3) := by decide +kernel
theorem dd_Arrays_fill3_17 : decode prog_25_method_103_code 17 = .ok (.goto (-12), 3) := by decide +kernel
theorem dd_Arrays_fill3_20 : decode prog_25_method_103_code 20 = .ok (.return_, 1) := by decide +kernel
theorem dd_Arrays_fill4_0 : decode prog_25_method_101_code 0 = .ok (.iconst 0, 1) := by decide +kernel
theorem dd_Arrays_fill4_1 : decode prog_25_method_101_code 1 = .ok (.istore_n 3, 1) := by decide +kernel
theorem dd_Arrays_fill4_2 : decode prog_25_method_101_code 2 = .ok (.aload_n 0, 1) := by decide +kernel
theorem dd_Arrays_fill4_3 : decode prog_25_method_101_code 3 = .ok (.arraylength, 1) := by decide +kernel
theorem dd_Arrays_fill4_4 : decode prog_25_method_101_code 4 = .ok (.istore 4, 2) := by decide +kernel
theorem dd_Arrays_fill4_6 : decode prog_25_method_101_code 6 = .ok (.iload_n 3, 1) := by decide +kernel
theorem dd_Arrays_fill4_7 : decode prog_25_method_101_code 7 = .ok (.iload 4, 2) := by decide +kernel
theorem dd_Arrays_fill4_9 : decode prog_25_method_101_code 9 = .ok (.if_icmp .ge 13, 3) := by decide +kernel
theorem dd_Arrays_fill4_12 : decode prog_25_method_101_code 12 = .ok (.aload_n 0, 1) := by decide +kernel
theorem dd_Arrays_fill4_13 : decode prog_25_method_101_code 13 = .ok (.iload_n 3, 1) := by decide +kernel
theorem dd_Arrays_fill4_14 : decode prog_25_method_101_code 14 = .ok (.lload_n 1, 1) := by decide +kernel
theorem dd_Arrays_fill4_15 : decode prog_25_method_101_code 15 = .ok (.lastore, 1) := by decide +kernel
theorem dd_Arrays_fill4_16 : decode prog_25_method_101_code 16 = .ok (.iinc 3 1, 3) := by decide +kernel
theorem dd_Arrays_fill4_19 : decode prog_25_method_101_code 19 = .ok (.goto (-13), 3) := by decide +kernel
theorem dd_Arrays_fill4_22 : decode prog_25_method_101_code 22 = .ok (.return_, 1) := by decide +kernel
def ng_wd (q : Nat → Nat) (cA : Nat → ClassId) (σ : np_S) : va_W := [
  (q 0, .inr (1, [.ref (q 1), .ref (q 2), .ref (q 3), .ref (q 4), .int (np_i (σ 0 4)), .int (np_i (σ 0 5))])),
  (q 1, .inl (cA 0, 105, .inl (fun i => np_i (σ 1 i)))),
  (q 2, .inl (cA 1, 105, .inr (.inl (fun i => np_l (σ 2 i))))),
  (q 3, .inl (cA 0, 14, .inl (fun i => np_i (σ 3 i)))),
  (q 4, .inl (cA 0, 14, .inl (fun i => np_i (σ 4 i))))]
section NGW
variable {q : Nat → Nat} {cA : Nat → ClassId}
theorem ng_o0 (σ : np_S) : (ng_wd q cA σ)[0]? = some (q 0, .inr (1, [.ref (q 1), .ref (q 2), .ref (q 3), .ref (q 4), .int (np_i (σ 0 4)), .int (np_i (σ 0 5))])) := rfl
theorem ng_s0_4 (σ : np_S) (x : Int) : (ng_wd q cA σ).set 0 (q 0, .inr (1, List.set [.ref (q 1), .ref (q 2), .ref (q 3), .ref (q 4), .int (np_i (σ 0 4)), .int (np_i (σ 0 5))] 4 (.int (np_i x)))) = ng_wd q cA (np_st σ 0 4 x) := rfl
theorem ng_s0_5 (σ : np_S) (x : Int) : (ng_wd q cA σ).set 0 (q 0, .inr (1, List.set [.ref (q 1), .ref (q 2), .ref (q 3), .ref (q 4), .int (np_i (σ 0 4)), .int (np_i (σ 0 5))] 5 (.int (np_i x)))) = ng_wd q cA (np_st σ 0 5 x) := rfl
theorem ng_a1 (σ : np_S) : (ng_wd q cA σ)[1]? = some (q 1, .inl (cA 0, 105, .inl (fun i => np_i (σ 1 i)))) := rfl
theorem ng_s1 (σ : np_S) (j x : Int) : (ng_wd q cA σ).set 1 (q 1, .inl (cA 0, 105, .inl (fun i : Nat => np_i (if (i : Int) = j then x else σ 1 i)))) = ng_wd q cA (np_st σ 1 j x) := rfl
theorem ng_a2 (σ : np_S) : (ng_wd q cA σ)[2]? = some (q 2, .inl (cA 1, 105, .inr (.inl (fun i => np_l (σ 2 i))))) := rfl
theorem ng_s2 (σ : np_S) (j x : Int) : (ng_wd q cA σ).set 2 (q 2, .inl (cA 1, 105, .inr (.inl (fun i : Nat => np_l (if (i : Int) = j then x else σ 2 i))))) = ng_wd q cA (np_st σ 2 j x) := rfl
theorem ng_a3 (σ : np_S) : (ng_wd q cA σ)[3]? = some (q 3, .inl (cA 0, 14, .inl (fun i => np_i (σ 3 i)))) := rfl
theorem ng_s3 (σ : np_S) (j x : Int) : (ng_wd q cA σ).set 3 (q 3, .inl (cA 0, 14, .inl (fun i : Nat => np_i (if (i : Int) = j then x else σ 3 i)))) = ng_wd q cA (np_st σ 3 j x) := rfl
theorem ng_a4 (σ : np_S) : (ng_wd q cA σ)[4]? = some (q 4, .inl (cA 0, 14, .inl (fun i => np_i (σ 4 i)))) := rfl
theorem ng_s4 (σ : np_S) (j x : Int) : (ng_wd q cA σ).set 4 (q 4, .inl (cA 0, 14, .inl (fun i : Nat => np_i (if (i : Int) = j then x else σ 4 i)))) = ng_wd q cA (np_st σ 4 j x) := rfl
end NGW
