def yy_Output_init : MethodName := ⟨"NotationParse$Output", "<init>", "()V"⟩
def yy_Text_init : MethodName := ⟨"NotationParse$Text", "<init>", "()V"⟩
def yy_Chart_init : MethodName := ⟨"NotationParse$Chart", "<init>", "(LNotationParse$Grammar;)V"⟩
def yy_Tree_init : MethodName := ⟨"NotationParse$Tree", "<init>", "(LNotationParse$Grammar;LNotationParse$Chart;)V"⟩
def yy_M_init : MethodName := ⟨"NotationParseModel", "<init>", "()V"⟩
theorem tw_33 : (Jvm.Cond.instanceMethod ({ cls := "java/lang/Object", name := "<init>", desc := "()V" } : Jvm.MethodName)) ∈ np_al := List.mem_filter.mpr ⟨List.mem_append_right _ (List.mem_append_left _ (List.mem_of_getElem? (i := 33) rfl)), rfl⟩
theorem tw_34 : (Jvm.Cond.code ({ cls := "java/lang/Object", name := "<init>", desc := "()V" } : Jvm.MethodName) object_method_1_code (1 : Nat) (Option.none : Option Jvm.ClassFile.FieldType)) ∈ np_al := List.mem_filter.mpr ⟨List.mem_append_right _ (List.mem_append_left _ (List.mem_of_getElem? (i := 34) rfl)), rfl⟩
theorem tw_77 : (Jvm.Cond.arrayClass Jvm.ClassFile.FieldType.int) ∈ np_al := List.mem_filter.mpr ⟨List.mem_append_right _ (List.mem_append_left _ (List.mem_of_getElem? (i := 77) rfl)), rfl⟩
theorem tw_78 : (Jvm.Cond.arrayClass Jvm.ClassFile.FieldType.long) ∈ np_al := List.mem_filter.mpr ⟨List.mem_append_right _ (List.mem_append_left _ (List.mem_of_getElem? (i := 78) rfl)), rfl⟩
theorem tw_84 : (Jvm.Cond.methodLink "NotationParse$Text" (3 : Nat) ({ cls := "java/lang/Object", name := "<init>", desc := "()V" } : Jvm.MethodName)) ∈ np_al := List.mem_filter.mpr ⟨List.mem_append_right _ (List.mem_append_left _ (List.mem_of_getElem? (i := 84) rfl)), rfl⟩
theorem tw_114 : (Jvm.Cond.arrayClass Jvm.ClassFile.FieldType.byte) ∈ np_al := List.mem_filter.mpr ⟨List.mem_append_right _ (List.mem_append_left _ (List.mem_of_getElem? (i := 114) rfl)), rfl⟩
theorem tw_120 : (Jvm.Cond.methodLink "NotationParse$Chart" (3 : Nat) ({ cls := "java/lang/Object", name := "<init>", desc := "()V" } : Jvm.MethodName)) ∈ np_al := List.mem_filter.mpr ⟨List.mem_append_right _ (List.mem_append_left _ (List.mem_of_getElem? (i := 120) rfl)), rfl⟩
theorem tw_139 : (Jvm.Cond.methodLink "NotationParse$Tree" (3 : Nat) ({ cls := "java/lang/Object", name := "<init>", desc := "()V" } : Jvm.MethodName)) ∈ np_al := List.mem_filter.mpr ⟨List.mem_append_right _ (List.mem_append_left _ (List.mem_of_getElem? (i := 139) rfl)), rfl⟩
theorem tw_194 : (Jvm.Cond.methodLink "NotationParse$Output" (3 : Nat) ({ cls := "java/lang/Object", name := "<init>", desc := "()V" } : Jvm.MethodName)) ∈ np_al := List.mem_filter.mpr ⟨List.mem_append_right _ (List.mem_append_left _ (List.mem_of_getElem? (i := 194) rfl)), rfl⟩
theorem tw_921 : (Jvm.Cond.methodLink "NotationParseModel" (1 : Nat) ({ cls := "java/lang/Object", name := "<init>", desc := "()V" } : Jvm.MethodName)) ∈ np_al := List.mem_filter.mpr ⟨List.mem_append_right _ (List.mem_append_right _ (List.mem_append_right _ (List.mem_append_right _ (List.mem_append_left _ (List.mem_of_getElem? (i := 201) rfl))))), rfl⟩
theorem tw_922 : (Jvm.Cond.constant "NotationParseModel" (39 : Nat) (80724 : Int32)) ∈ np_al := List.mem_filter.mpr ⟨List.mem_append_right _ (List.mem_append_right _ (List.mem_append_right _ (List.mem_append_right _ (List.mem_append_left _ (List.mem_of_getElem? (i := 202) rfl))))), rfl⟩
theorem tw_1017 : (Jvm.Cond.arrayClass Jvm.ClassFile.FieldType.boolean) ∈ np_al := List.mem_filter.mpr ⟨List.mem_append_right _ (List.mem_append_right _ (List.mem_append_right _ (List.mem_append_right _ (List.mem_append_right _ (List.mem_of_getElem? (i := 57) rfl))))), rfl⟩
theorem dd_Output_init_0 : decode prog_4_method_1_code 0 = .ok (.aload_n 0, 1) := by decide +kernel
theorem dd_Output_init_1 : decode prog_4_method_1_code 1 = .ok (.invokespecial 3, 3) := by decide +kernel
theorem dd_Output_init_4 : decode prog_4_method_1_code 4 = .ok (.aload_n 0, 1) := by decide +kernel
theorem dd_Output_init_5 : decode prog_4_method_1_code 5 = .ok (.sipush 230, 3) := by decide +kernel
theorem dd_Output_init_8 : decode prog_4_method_1_code 8 = .ok (.newarray .byte, 2) := by decide +kernel
theorem dd_Output_init_10 : decode prog_4_method_1_code 10 = .ok (.putfield 9, 3) := by decide +kernel
theorem dd_Output_init_13 : decode prog_4_method_1_code 13 = .ok (.aload_n 0, 1) := by decide +kernel
theorem dd_Output_init_14 : decode prog_4_method_1_code 14 = .ok (.iconst 0, 1) := by decide +kernel
theorem dd_Output_init_15 : decode prog_4_method_1_code 15 = .ok (.putfield 15, 3) := by decide +kernel
theorem dd_Output_init_18 : decode prog_4_method_1_code 18 = .ok (.return_, 1) := by decide +kernel
theorem dd_Text_init_0 : decode prog_6_method_1_code 0 = .ok (.aload_n 0, 1) := by decide +kernel
theorem dd_Text_init_1 : decode prog_6_method_1_code 1 = .ok (.invokespecial 3, 3) := by decide +kernel
theorem dd_Text_init_4 : decode prog_6_method_1_code 4 = .ok (.aload_n 0, 1) := by decide +kernel
theorem dd_Text_init_5 : decode prog_6_method_1_code 5 = .ok (.sipush 200, 3) := by decide +kernel
theorem dd_Text_init_8 : decode prog_6_method_1_code 8 = .ok (.newarray .byte, 2) := by decide +kernel
theorem dd_Text_init_10 : decode prog_6_method_1_code 10 = .ok (.putfield 9, 3) := by decide +kernel
theorem dd_Text_init_13 : decode prog_6_method_1_code 13 = .ok (.aload_n 0, 1) := by decide +kernel
theorem dd_Text_init_14 : decode prog_6_method_1_code 14 = .ok (.iconst 0, 1) := by decide +kernel
theorem dd_Text_init_15 : decode prog_6_method_1_code 15 = .ok (.putfield 15, 3) := by decide +kernel
theorem dd_Text_init_18 : decode prog_6_method_1_code 18 = .ok (.aload_n 0, 1) := by decide +kernel
theorem dd_Text_init_19 : decode prog_6_method_1_code 19 = .ok (.bipush 30, 2) := by decide +kernel
theorem dd_Text_init_21 : decode prog_6_method_1_code 21 = .ok (.newarray .long, 2) := by decide +kernel
theorem dd_Text_init_23 : decode prog_6_method_1_code 23 = .ok (.putfield 19, 3) := by decide +kernel
theorem dd_Text_init_26 : decode prog_6_method_1_code 26 = .ok (.aload_n 0, 1) := by decide +kernel
theorem dd_Text_init_27 : decode prog_6_method_1_code 27 = .ok (.bipush 30, 2) := by decide +kernel
theorem dd_Text_init_29 : decode prog_6_method_1_code 29 = .ok (.newarray .long, 2) := by decide +kernel
theorem dd_Text_init_31 : decode prog_6_method_1_code 31 = .ok (.putfield 23, 3) := by decide +kernel
theorem dd_Text_init_34 : decode prog_6_method_1_code 34 = .ok (.aload_n 0, 1) := by decide +kernel
theorem dd_Text_init_35 : decode prog_6_method_1_code 35 = .ok (.bipush 30, 2) := by decide +kernel
theorem dd_Text_init_37 : decode prog_6_method_1_code 37 = .ok (.newarray .int, 2) := by decide +kernel
theorem dd_Text_init_39 : decode prog_6_method_1_code 39 = .ok (.putfield 26, 3) := by decide +kernel
theorem dd_Text_init_42 : decode prog_6_method_1_code 42 = .ok (.aload_n 0, 1) := by decide +kernel
theorem dd_Text_init_43 : decode prog_6_method_1_code 43 = .ok (.iconst 0, 1) := by decide +kernel
theorem dd_Text_init_44 : decode prog_6_method_1_code 44 = .ok (.putfield 30, 3) := by decide +kernel
theorem dd_Text_init_47 : decode prog_6_method_1_code 47 = .ok (.aload_n 0, 1) := by decide +kernel
theorem dd_Text_init_48 : decode prog_6_method_1_code 48 = .ok (.iconst (-1), 1) := by decide +kernel
theorem dd_Text_init_49 : decode prog_6_method_1_code 49 = .ok (.putfield 33, 3) := by decide +kernel
theorem dd_Text_init_52 : decode prog_6_method_1_code 52 = .ok (.return_, 1) := by decide +kernel
theorem dd_Chart_init_0 : decode prog_2_method_1_code 0 = .ok (.aload_n 0, 1) := by decide +kernel
theorem dd_Chart_init_1 : decode prog_2_method_1_code 1 = .ok (.invokespecial 3, 3) := by decide +kernel
theorem dd_Chart_init_4 : decode prog_2_method_1_code 4 = .ok (.aload_n 0, 1) := by decide +kernel
theorem dd_Chart_init_5 : decode prog_2_method_1_code 5 = .ok (.sipush 3038, 3) := by decide +kernel
theorem dd_Chart_init_8 : decode prog_2_method_1_code 8 = .ok (.newarray .int, 2) := by decide +kernel
theorem dd_Chart_init_10 : decode prog_2_method_1_code 10 = .ok (.putfield 9, 3) := by decide +kernel
theorem dd_Chart_init_13 : decode prog_2_method_1_code 13 = .ok (.aload_n 0, 1) := by decide +kernel
theorem dd_Chart_init_14 : decode prog_2_method_1_code 14 = .ok (.sipush 3038, 3) := by decide +kernel
theorem dd_Chart_init_17 : decode prog_2_method_1_code 17 = .ok (.newarray .int, 2) := by decide +kernel
theorem dd_Chart_init_19 : decode prog_2_method_1_code 19 = .ok (.putfield 15, 3) := by decide +kernel
theorem dd_Chart_init_22 : decode prog_2_method_1_code 22 = .ok (.aload_n 0, 1) := by decide +kernel
theorem dd_Chart_init_23 : decode prog_2_method_1_code 23 = .ok (.sipush 5115, 3) := by decide +kernel
theorem dd_Chart_init_26 : decode prog_2_method_1_code 26 = .ok (.newarray .int, 2) := by decide +kernel
theorem dd_Chart_init_28 : decode prog_2_method_1_code 28 = .ok (.putfield 18, 3) := by decide +kernel
theorem dd_Chart_init_31 : decode prog_2_method_1_code 31 = .ok (.aload_n 0, 1) := by decide +kernel
theorem dd_Chart_init_32 : decode prog_2_method_1_code 32 = .ok (.aload_n 1, 1) := by decide +kernel
theorem dd_Chart_init_33 : decode prog_2_method_1_code 33 = .ok (.putfield 21, 3) := by decide +kernel
theorem dd_Chart_init_36 : decode prog_2_method_1_code 36 = .ok (.return_, 1) := by decide +kernel
theorem dd_Tree_init_0 : decode prog_7_method_1_code 0 = .ok (.aload_n 0, 1) := by decide +kernel
theorem dd_Tree_init_1 : decode prog_7_method_1_code 1 = .ok (.invokespecial 3, 3) := by decide +kernel
theorem dd_Tree_init_4 : decode prog_7_method_1_code 4 = .ok (.aload_n 0, 1) := by decide +kernel
theorem dd_Tree_init_5 : decode prog_7_method_1_code 5 = .ok (.iconst 0, 1) := by decide +kernel
theorem dd_Tree_init_6 : decode prog_7_method_1_code 6 = .ok (.putfield 9, 3) := by decide +kernel
theorem dd_Tree_init_9 : decode prog_7_method_1_code 9 = .ok (.aload_n 0, 1) := by decide +kernel
theorem dd_Tree_init_10 : decode prog_7_method_1_code 10 = .ok (.bipush 30, 2) := by decide +kernel
theorem dd_Tree_init_12 : decode prog_7_method_1_code 12 = .ok (.newarray .int, 2) := by decide +kernel
theorem dd_Tree_init_14 : decode prog_7_method_1_code 14 = .ok (.putfield 15, 3) := by decide +kernel
theorem dd_Tree_init_17 : decode prog_7_method_1_code 17 = .ok (.aload_n 0, 1) := by decide +kernel
theorem dd_Tree_init_18 : decode prog_7_method_1_code 18 = .ok (.bipush 30, 2) := by decide +kernel
theorem dd_Tree_init_20 : decode prog_7_method_1_code 20 = .ok (.newarray .int, 2) := by decide +kernel
theorem dd_Tree_init_22 : decode prog_7_method_1_code 22 = .ok (.putfield 19, 3) := by decide +kernel
theorem dd_Tree_init_25 : decode prog_7_method_1_code 25 = .ok (.aload_n 0, 1) := by decide +kernel
theorem dd_Tree_init_26 : decode prog_7_method_1_code 26 = .ok (.bipush 30, 2) := by decide +kernel
theorem dd_Tree_init_28 : decode prog_7_method_1_code 28 = .ok (.newarray .int, 2) := by decide +kernel
theorem dd_Tree_init_30 : decode prog_7_method_1_code 30 = .ok (.putfield 22, 3) := by decide +kernel
theorem dd_Tree_init_33 : decode prog_7_method_1_code 33 = .ok (.aload_n 0, 1) := by decide +kernel
theorem dd_Tree_init_34 : decode prog_7_method_1_code 34 = .ok (.bipush 30, 2) := by decide +kernel
theorem dd_Tree_init_36 : decode prog_7_method_1_code 36 = .ok (.newarray .int, 2) := by decide +kernel
theorem dd_Tree_init_38 : decode prog_7_method_1_code 38 = .ok (.putfield 25, 3) := by decide +kernel
theorem dd_Tree_init_41 : decode prog_7_method_1_code 41 = .ok (.aload_n 0, 1) := by decide +kernel
theorem dd_Tree_init_42 : decode prog_7_method_1_code 42 = .ok (.bipush 30, 2) := by decide +kernel
theorem dd_Tree_init_44 : decode prog_7_method_1_code 44 = .ok (.newarray .int, 2) := by decide +kernel
theorem dd_Tree_init_46 : decode prog_7_method_1_code 46 = .ok (.putfield 28, 3) := by decide +kernel
theorem dd_Tree_init_49 : decode prog_7_method_1_code 49 = .ok (.aload_n 0, 1) := by decide +kernel
theorem dd_Tree_init_50 : decode prog_7_method_1_code 50 = .ok (.bipush 30, 2) := by decide +kernel
theorem dd_Tree_init_52 : decode prog_7_method_1_code 52 = .ok (.newarray .int, 2) := by decide +kernel
theorem dd_Tree_init_54 : decode prog_7_method_1_code 54 = .ok (.putfield 31, 3) := by decide +kernel
theorem dd_Tree_init_57 : decode prog_7_method_1_code 57 = .ok (.aload_n 0, 1) := by decide +kernel
theorem dd_Tree_init_58 : decode prog_7_method_1_code 58 = .ok (.iconst 0, 1) := by decide +kernel
theorem dd_Tree_init_59 : decode prog_7_method_1_code 59 = .ok (.putfield 34, 3) := by decide +kernel
theorem dd_Tree_init_62 : decode prog_7_method_1_code 62 = .ok (.aload_n 0, 1) := by decide +kernel
theorem dd_Tree_init_63 : decode prog_7_method_1_code 63 = .ok (.bipush 30, 2) := by decide +kernel
theorem dd_Tree_init_65 : decode prog_7_method_1_code 65 = .ok (.newarray .int, 2) := by decide +kernel
theorem dd_Tree_init_67 : decode prog_7_method_1_code 67 = .ok (.putfield 37, 3) := by decide +kernel
theorem dd_Tree_init_70 : decode prog_7_method_1_code 70 = .ok (.aload_n 0, 1) := by decide +kernel
theorem dd_Tree_init_71 : decode prog_7_method_1_code 71 = .ok (.bipush 30, 2) := by decide +kernel
theorem dd_Tree_init_73 : decode prog_7_method_1_code 73 = .ok (.newarray .int, 2) := by decide +kernel
theorem dd_Tree_init_75 : decode prog_7_method_1_code 75 = .ok (.putfield 40, 3) := by decide +kernel
theorem dd_Tree_init_78 : decode prog_7_method_1_code 78 = .ok (.aload_n 0, 1) := by decide +kernel
theorem dd_Tree_init_79 : decode prog_7_method_1_code 79 = .ok (.bipush 30, 2) := by decide +kernel
theorem dd_Tree_init_81 : decode prog_7_method_1_code 81 = .ok (.newarray .int, 2) := by decide +kernel
theorem dd_Tree_init_83 : decode prog_7_method_1_code 83 = .ok (.putfield 43, 3) := by decide +kernel
theorem dd_Tree_init_86 : decode prog_7_method_1_code 86 = .ok (.aload_n 0, 1) := by decide +kernel
theorem dd_Tree_init_87 : decode prog_7_method_1_code 87 = .ok (.bipush 30, 2) := by decide +kernel
theorem dd_Tree_init_89 : decode prog_7_method_1_code 89 = .ok (.newarray .int, 2) := by decide +kernel
theorem dd_Tree_init_91 : decode prog_7_method_1_code 91 = .ok (.putfield 46, 3) := by decide +kernel
theorem dd_Tree_init_94 : decode prog_7_method_1_code 94 = .ok (.aload_n 0, 1) := by decide +kernel
theorem dd_Tree_init_95 : decode prog_7_method_1_code 95 = .ok (.aload_n 1, 1) := by decide +kernel
theorem dd_Tree_init_96 : decode prog_7_method_1_code 96 = .ok (.putfield 49, 3) := by decide +kernel
theorem dd_Tree_init_99 : decode prog_7_method_1_code 99 = .ok (.aload_n 0, 1) := by decide +kernel
theorem dd_Tree_init_100 : decode prog_7_method_1_code 100 = .ok (.aload_n 2, 1) := by decide +kernel
theorem dd_Tree_init_101 : decode prog_7_method_1_code 101 = .ok (.putfield 53, 3) := by decide +kernel
theorem dd_Tree_init_104 : decode prog_7_method_1_code 104 = .ok (.return_, 1) := by decide +kernel
theorem dd_M_init_0 : decode prog_9_method_1_code 0 = .ok (.aload_n 0, 1) := by decide +kernel
theorem dd_M_init_1 : decode prog_9_method_1_code 1 = .ok (.invokespecial 1, 3) := by decide +kernel
theorem dd_M_init_4 : decode prog_9_method_1_code 4 = .ok (.aload_n 0, 1) := by decide +kernel
theorem dd_M_init_5 : decode prog_9_method_1_code 5 = .ok (.bipush 91, 2) := by decide +kernel
theorem dd_M_init_7 : decode prog_9_method_1_code 7 = .ok (.newarray .int, 2) := by decide +kernel
theorem dd_M_init_9 : decode prog_9_method_1_code 9 = .ok (.putfield 7, 3) := by decide +kernel
theorem dd_M_init_12 : decode prog_9_method_1_code 12 = .ok (.aload_n 0, 1) := by decide +kernel
theorem dd_M_init_13 : decode prog_9_method_1_code 13 = .ok (.bipush 91, 2) := by decide +kernel
theorem dd_M_init_15 : decode prog_9_method_1_code 15 = .ok (.newarray .long, 2) := by decide +kernel
theorem dd_M_init_17 : decode prog_9_method_1_code 17 = .ok (.putfield 13, 3) := by decide +kernel
theorem dd_M_init_20 : decode prog_9_method_1_code 20 = .ok (.aload_n 0, 1) := by decide +kernel
theorem dd_M_init_21 : decode prog_9_method_1_code 21 = .ok (.bipush 12, 2) := by decide +kernel
theorem dd_M_init_23 : decode prog_9_method_1_code 23 = .ok (.newarray .int, 2) := by decide +kernel
theorem dd_M_init_25 : decode prog_9_method_1_code 25 = .ok (.putfield 17, 3) := by decide +kernel
theorem dd_M_init_28 : decode prog_9_method_1_code 28 = .ok (.aload_n 0, 1) := by decide +kernel
theorem dd_M_init_29 : decode prog_9_method_1_code 29 = .ok (.bipush 12, 2) := by decide +kernel
theorem dd_M_init_31 : decode prog_9_method_1_code 31 = .ok (.newarray .int, 2) := by decide +kernel
theorem dd_M_init_33 : decode prog_9_method_1_code 33 = .ok (.putfield 20, 3) := by decide +kernel
theorem dd_M_init_36 : decode prog_9_method_1_code 36 = .ok (.aload_n 0, 1) := by decide +kernel
theorem dd_M_init_37 : decode prog_9_method_1_code 37 = .ok (.sipush 200, 3) := by decide +kernel
theorem dd_M_init_40 : decode prog_9_method_1_code 40 = .ok (.newarray .int, 2) := by decide +kernel
theorem dd_M_init_42 : decode prog_9_method_1_code 42 = .ok (.putfield 23, 3) := by decide +kernel
theorem dd_M_init_45 : decode prog_9_method_1_code 45 = .ok (.aload_n 0, 1) := by decide +kernel
theorem dd_M_init_46 : decode prog_9_method_1_code 46 = .ok (.iconst (-1), 1) := by decide +kernel
theorem dd_M_init_47 : decode prog_9_method_1_code 47 = .ok (.putfield 26, 3) := by decide +kernel
theorem dd_M_init_50 : decode prog_9_method_1_code 50 = .ok (.aload_n 0, 1) := by decide +kernel
theorem dd_M_init_51 : decode prog_9_method_1_code 51 = .ok (.bipush 31, 2) := by decide +kernel
theorem dd_M_init_53 : decode prog_9_method_1_code 53 = .ok (.newarray .long, 2) := by decide +kernel
theorem dd_M_init_55 : decode prog_9_method_1_code 55 = .ok (.putfield 30, 3) := by decide +kernel
theorem dd_M_init_58 : decode prog_9_method_1_code 58 = .ok (.aload_n 0, 1) := by decide +kernel
theorem dd_M_init_59 : decode prog_9_method_1_code 59 = .ok (.bipush 31, 2) := by decide +kernel
theorem dd_M_init_61 : decode prog_9_method_1_code 61 = .ok (.newarray .int, 2) := by decide +kernel
theorem dd_M_init_63 : decode prog_9_method_1_code 63 = .ok (.putfield 33, 3) := by decide +kernel
theorem dd_M_init_66 : decode prog_9_method_1_code 66 = .ok (.aload_n 0, 1) := by decide +kernel
theorem dd_M_init_67 : decode prog_9_method_1_code 67 = .ok (.sipush 10571, 3) := by decide +kernel
theorem dd_M_init_70 : decode prog_9_method_1_code 70 = .ok (.newarray .int, 2) := by decide +kernel
theorem dd_M_init_72 : decode prog_9_method_1_code 72 = .ok (.putfield 36, 3) := by decide +kernel
theorem dd_M_init_75 : decode prog_9_method_1_code 75 = .ok (.aload_n 0, 1) := by decide +kernel
theorem dd_M_init_76 : decode prog_9_method_1_code 76 = .ok (.ldc 39, 2) := by decide +kernel
theorem dd_M_init_78 : decode prog_9_method_1_code 78 = .ok (.newarray .int, 2) := by decide +kernel
theorem dd_M_init_80 : decode prog_9_method_1_code 80 = .ok (.putfield 40, 3) := by decide +kernel
theorem dd_M_init_83 : decode prog_9_method_1_code 83 = .ok (.aload_n 0, 1) := by decide +kernel
theorem dd_M_init_84 : decode prog_9_method_1_code 84 = .ok (.sipush 341, 3) := by decide +kernel
theorem dd_M_init_87 : decode prog_9_method_1_code 87 = .ok (.newarray .boolean, 2) := by decide +kernel
theorem dd_M_init_89 : decode prog_9_method_1_code 89 = .ok (.putfield 43, 3) := by decide +kernel
theorem dd_M_init_92 : decode prog_9_method_1_code 92 = .ok (.aload_n 0, 1) := by decide +kernel
theorem dd_M_init_93 : decode prog_9_method_1_code 93 = .ok (.sipush 2604, 3) := by decide +kernel
theorem dd_M_init_96 : decode prog_9_method_1_code 96 = .ok (.newarray .boolean, 2) := by decide +kernel
theorem dd_M_init_98 : decode prog_9_method_1_code 98 = .ok (.putfield 47, 3) := by decide +kernel
theorem dd_M_init_101 : decode prog_9_method_1_code 101 = .ok (.aload_n 0, 1) := by decide +kernel
theorem dd_M_init_102 : decode prog_9_method_1_code 102 = .ok (.bipush 40, 2) := by decide +kernel
theorem dd_M_init_104 : decode prog_9_method_1_code 104 = .ok (.newarray .int, 2) := by decide +kernel
theorem dd_M_init_106 : decode prog_9_method_1_code 106 = .ok (.putfield 50, 3) := by decide +kernel
theorem dd_M_init_109 : decode prog_9_method_1_code 109 = .ok (.aload_n 0, 1) := by decide +kernel
theorem dd_M_init_110 : decode prog_9_method_1_code 110 = .ok (.bipush 40, 2) := by decide +kernel
theorem dd_M_init_112 : decode prog_9_method_1_code 112 = .ok (.newarray .int, 2) := by decide +kernel
theorem dd_M_init_114 : decode prog_9_method_1_code 114 = .ok (.putfield 53, 3) := by decide +kernel
theorem dd_M_init_117 : decode prog_9_method_1_code 117 = .ok (.aload_n 0, 1) := by decide +kernel
theorem dd_M_init_118 : decode prog_9_method_1_code 118 = .ok (.bipush 40, 2) := by decide +kernel
theorem dd_M_init_120 : decode prog_9_method_1_code 120 = .ok (.newarray .int, 2) := by decide +kernel
theorem dd_M_init_122 : decode prog_9_method_1_code 122 = .ok (.putfield 56, 3) := by decide +kernel
theorem dd_M_init_125 : decode prog_9_method_1_code 125 = .ok (.aload_n 0, 1) := by decide +kernel
theorem dd_M_init_126 : decode prog_9_method_1_code 126 = .ok (.bipush 40, 2) := by decide +kernel
theorem dd_M_init_128 : decode prog_9_method_1_code 128 = .ok (.newarray .int, 2) := by decide +kernel
theorem dd_M_init_130 : decode prog_9_method_1_code 130 = .ok (.putfield 59, 3) := by decide +kernel
theorem dd_M_init_133 : decode prog_9_method_1_code 133 = .ok (.aload_n 0, 1) := by decide +kernel
theorem dd_M_init_134 : decode prog_9_method_1_code 134 = .ok (.bipush 80, 2) := by decide +kernel
theorem dd_M_init_136 : decode prog_9_method_1_code 136 = .ok (.newarray .int, 2) := by decide +kernel
theorem dd_M_init_138 : decode prog_9_method_1_code 138 = .ok (.putfield 62, 3) := by decide +kernel
theorem dd_M_init_141 : decode prog_9_method_1_code 141 = .ok (.aload_n 0, 1) := by decide +kernel
theorem dd_M_init_142 : decode prog_9_method_1_code 142 = .ok (.bipush 80, 2) := by decide +kernel
theorem dd_M_init_144 : decode prog_9_method_1_code 144 = .ok (.newarray .int, 2) := by decide +kernel
theorem dd_M_init_146 : decode prog_9_method_1_code 146 = .ok (.putfield 65, 3) := by decide +kernel
theorem dd_M_init_149 : decode prog_9_method_1_code 149 = .ok (.aload_n 0, 1) := by decide +kernel
theorem dd_M_init_150 : decode prog_9_method_1_code 150 = .ok (.bipush 80, 2) := by decide +kernel
theorem dd_M_init_152 : decode prog_9_method_1_code 152 = .ok (.newarray .int, 2) := by decide +kernel
theorem dd_M_init_154 : decode prog_9_method_1_code 154 = .ok (.putfield 68, 3) := by decide +kernel
theorem dd_M_init_157 : decode prog_9_method_1_code 157 = .ok (.aload_n 0, 1) := by decide +kernel
theorem dd_M_init_158 : decode prog_9_method_1_code 158 = .ok (.bipush 80, 2) := by decide +kernel
theorem dd_M_init_160 : decode prog_9_method_1_code 160 = .ok (.newarray .int, 2) := by decide +kernel
theorem dd_M_init_162 : decode prog_9_method_1_code 162 = .ok (.putfield 71, 3) := by decide +kernel
theorem dd_M_init_165 : decode prog_9_method_1_code 165 = .ok (.aload_n 0, 1) := by decide +kernel
theorem dd_M_init_166 : decode prog_9_method_1_code 166 = .ok (.sipush 1200, 3) := by decide +kernel
theorem dd_M_init_169 : decode prog_9_method_1_code 169 = .ok (.newarray .int, 2) := by decide +kernel
theorem dd_M_init_171 : decode prog_9_method_1_code 171 = .ok (.putfield 74, 3) := by decide +kernel
theorem dd_M_init_174 : decode prog_9_method_1_code 174 = .ok (.aload_n 0, 1) := by decide +kernel
theorem dd_M_init_175 : decode prog_9_method_1_code 175 = .ok (.sipush 400, 3) := by decide +kernel
theorem dd_M_init_178 : decode prog_9_method_1_code 178 = .ok (.newarray .int, 2) := by decide +kernel
theorem dd_M_init_180 : decode prog_9_method_1_code 180 = .ok (.putfield 77, 3) := by decide +kernel
theorem dd_M_init_183 : decode prog_9_method_1_code 183 = .ok (.return_, 1) := by decide +kernel
