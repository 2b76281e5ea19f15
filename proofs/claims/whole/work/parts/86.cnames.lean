def yy_N_init : MethodName := ⟨"NotationParse", "<init>", "()V"⟩
theorem tw_32 : (Jvm.Cond.methodLink "NotationParse" (3 : Nat) ({ cls := "java/lang/Object", name := "<init>", desc := "()V" } : Jvm.MethodName)) ∈ np_al := List.mem_filter.mpr ⟨List.mem_append_right _ (List.mem_append_left _ (List.mem_of_getElem? (i := 32) rfl)), rfl⟩
theorem tw_35 : (Jvm.Cond.classLink "NotationParse" (9 : Nat) "NotationParse$Grammar") ∈ np_al := List.mem_filter.mpr ⟨List.mem_append_right _ (List.mem_append_left _ (List.mem_of_getElem? (i := 35) rfl)), rfl⟩
theorem tw_36 : (Jvm.Cond.instantiable "NotationParse$Grammar" (6 : Nat)) ∈ np_al := List.mem_filter.mpr ⟨List.mem_append_right _ (List.mem_append_left _ (List.mem_of_getElem? (i := 36) rfl)), rfl⟩
theorem tw_37 : (Jvm.Cond.methodLink "NotationParse" (11 : Nat) ({ cls := "NotationParse$Grammar", name := "<init>", desc := "()V" } : Jvm.MethodName)) ∈ np_al := List.mem_filter.mpr ⟨List.mem_append_right _ (List.mem_append_left _ (List.mem_of_getElem? (i := 37) rfl)), rfl⟩
theorem tw_38 : (Jvm.Cond.instanceMethod ({ cls := "NotationParse$Grammar", name := "<init>", desc := "()V" } : Jvm.MethodName)) ∈ np_al := List.mem_filter.mpr ⟨List.mem_append_right _ (List.mem_append_left _ (List.mem_of_getElem? (i := 38) rfl)), rfl⟩
theorem tw_39 : (Jvm.Cond.code ({ cls := "NotationParse$Grammar", name := "<init>", desc := "()V" } : Jvm.MethodName) prog_3_method_1_code (1 : Nat) (Option.none : Option Jvm.ClassFile.FieldType)) ∈ np_al := List.mem_filter.mpr ⟨List.mem_append_right _ (List.mem_append_left _ (List.mem_of_getElem? (i := 39) rfl)), rfl⟩
theorem tw_79 : (Jvm.Cond.classLink "NotationParse" (16 : Nat) "NotationParse$Text") ∈ np_al := List.mem_filter.mpr ⟨List.mem_append_right _ (List.mem_append_left _ (List.mem_of_getElem? (i := 79) rfl)), rfl⟩
theorem tw_80 : (Jvm.Cond.instantiable "NotationParse$Text" (7 : Nat)) ∈ np_al := List.mem_filter.mpr ⟨List.mem_append_right _ (List.mem_append_left _ (List.mem_of_getElem? (i := 80) rfl)), rfl⟩
theorem tw_82 : (Jvm.Cond.instanceMethod ({ cls := "NotationParse$Text", name := "<init>", desc := "()V" } : Jvm.MethodName)) ∈ np_al := List.mem_filter.mpr ⟨List.mem_append_right _ (List.mem_append_left _ (List.mem_of_getElem? (i := 82) rfl)), rfl⟩
theorem tw_83 : (Jvm.Cond.code ({ cls := "NotationParse$Text", name := "<init>", desc := "()V" } : Jvm.MethodName) prog_6_method_1_code (1 : Nat) (Option.none : Option Jvm.ClassFile.FieldType)) ∈ np_al := List.mem_filter.mpr ⟨List.mem_append_right _ (List.mem_append_left _ (List.mem_of_getElem? (i := 83) rfl)), rfl⟩
theorem tw_115 : (Jvm.Cond.classLink "NotationParse" (23 : Nat) "NotationParse$Chart") ∈ np_al := List.mem_filter.mpr ⟨List.mem_append_right _ (List.mem_append_left _ (List.mem_of_getElem? (i := 115) rfl)), rfl⟩
theorem tw_116 : (Jvm.Cond.instantiable "NotationParse$Chart" (4 : Nat)) ∈ np_al := List.mem_filter.mpr ⟨List.mem_append_right _ (List.mem_append_left _ (List.mem_of_getElem? (i := 116) rfl)), rfl⟩
theorem tw_117 : (Jvm.Cond.methodLink "NotationParse" (25 : Nat) ({ cls := "NotationParse$Chart", name := "<init>", desc := "(LNotationParse$Grammar;)V" } : Jvm.MethodName)) ∈ np_al := List.mem_filter.mpr ⟨List.mem_append_right _ (List.mem_append_left _ (List.mem_of_getElem? (i := 117) rfl)), rfl⟩
theorem tw_118 : (Jvm.Cond.instanceMethod ({ cls := "NotationParse$Chart", name := "<init>", desc := "(LNotationParse$Grammar;)V" } : Jvm.MethodName)) ∈ np_al := List.mem_filter.mpr ⟨List.mem_append_right _ (List.mem_append_left _ (List.mem_of_getElem? (i := 118) rfl)), rfl⟩
theorem tw_119 : (Jvm.Cond.code ({ cls := "NotationParse$Chart", name := "<init>", desc := "(LNotationParse$Grammar;)V" } : Jvm.MethodName) prog_2_method_1_code (2 : Nat) (Option.none : Option Jvm.ClassFile.FieldType)) ∈ np_al := List.mem_filter.mpr ⟨List.mem_append_right _ (List.mem_append_left _ (List.mem_of_getElem? (i := 119) rfl)), rfl⟩
theorem tw_134 : (Jvm.Cond.classLink "NotationParse" (32 : Nat) "NotationParse$Tree") ∈ np_al := List.mem_filter.mpr ⟨List.mem_append_right _ (List.mem_append_left _ (List.mem_of_getElem? (i := 134) rfl)), rfl⟩
theorem tw_135 : (Jvm.Cond.instantiable "NotationParse$Tree" (14 : Nat)) ∈ np_al := List.mem_filter.mpr ⟨List.mem_append_right _ (List.mem_append_left _ (List.mem_of_getElem? (i := 135) rfl)), rfl⟩
theorem tw_136 : (Jvm.Cond.methodLink "NotationParse" (34 : Nat) ({ cls := "NotationParse$Tree", name := "<init>", desc := "(LNotationParse$Grammar;LNotationParse$Chart;)V" } : Jvm.MethodName)) ∈ np_al := List.mem_filter.mpr ⟨List.mem_append_right _ (List.mem_append_left _ (List.mem_of_getElem? (i := 136) rfl)), rfl⟩
theorem tw_137 : (Jvm.Cond.instanceMethod ({ cls := "NotationParse$Tree", name := "<init>", desc := "(LNotationParse$Grammar;LNotationParse$Chart;)V" } : Jvm.MethodName)) ∈ np_al := List.mem_filter.mpr ⟨List.mem_append_right _ (List.mem_append_left _ (List.mem_of_getElem? (i := 137) rfl)), rfl⟩
theorem tw_138 : (Jvm.Cond.code ({ cls := "NotationParse$Tree", name := "<init>", desc := "(LNotationParse$Grammar;LNotationParse$Chart;)V" } : Jvm.MethodName) prog_7_method_1_code (3 : Nat) (Option.none : Option Jvm.ClassFile.FieldType)) ∈ np_al := List.mem_filter.mpr ⟨List.mem_append_right _ (List.mem_append_left _ (List.mem_of_getElem? (i := 138) rfl)), rfl⟩
theorem tw_189 : (Jvm.Cond.classLink "NotationParse" (41 : Nat) "NotationParse$Output") ∈ np_al := List.mem_filter.mpr ⟨List.mem_append_right _ (List.mem_append_left _ (List.mem_of_getElem? (i := 189) rfl)), rfl⟩
theorem tw_190 : (Jvm.Cond.instantiable "NotationParse$Output" (2 : Nat)) ∈ np_al := List.mem_filter.mpr ⟨List.mem_append_right _ (List.mem_append_left _ (List.mem_of_getElem? (i := 190) rfl)), rfl⟩
theorem tw_192 : (Jvm.Cond.instanceMethod ({ cls := "NotationParse$Output", name := "<init>", desc := "()V" } : Jvm.MethodName)) ∈ np_al := List.mem_filter.mpr ⟨List.mem_append_right _ (List.mem_append_left _ (List.mem_of_getElem? (i := 192) rfl)), rfl⟩
theorem tw_193 : (Jvm.Cond.code ({ cls := "NotationParse$Output", name := "<init>", desc := "()V" } : Jvm.MethodName) prog_4_method_1_code (1 : Nat) (Option.none : Option Jvm.ClassFile.FieldType)) ∈ np_al := List.mem_filter.mpr ⟨List.mem_append_right _ (List.mem_append_left _ (List.mem_of_getElem? (i := 193) rfl)), rfl⟩
theorem dd_N_init_0 : decode prog_1_method_1_code 0 = .ok (.aload_n 0, 1) := by decide +kernel
theorem dd_N_init_1 : decode prog_1_method_1_code 1 = .ok (.invokespecial 3, 3) := by decide +kernel
theorem dd_N_init_4 : decode prog_1_method_1_code 4 = .ok (.aload_n 0, 1) := by decide +kernel
theorem dd_N_init_5 : decode prog_1_method_1_code 5 = .ok (.new 9, 3) := by decide +kernel
theorem dd_N_init_8 : decode prog_1_method_1_code 8 = .ok (.dup, 1) := by decide +kernel
theorem dd_N_init_9 : decode prog_1_method_1_code 9 = .ok (.invokespecial 11, 3) := by decide +kernel
theorem dd_N_init_12 : decode prog_1_method_1_code 12 = .ok (.putfield 12, 3) := by decide +kernel
theorem dd_N_init_15 : decode prog_1_method_1_code 15 = .ok (.aload_n 0, 1) := by decide +kernel
theorem dd_N_init_16 : decode prog_1_method_1_code 16 = .ok (.new 16, 3) := by decide +kernel
theorem dd_N_init_19 : decode prog_1_method_1_code 19 = .ok (.dup, 1) := by decide +kernel
theorem dd_N_init_20 : decode prog_1_method_1_code 20 = .ok (.invokespecial 18, 3) := by decide +kernel
theorem dd_N_init_23 : decode prog_1_method_1_code 23 = .ok (.putfield 19, 3) := by decide +kernel
theorem dd_N_init_26 : decode prog_1_method_1_code 26 = .ok (.aload_n 0, 1) := by decide +kernel
theorem dd_N_init_27 : decode prog_1_method_1_code 27 = .ok (.new 23, 3) := by decide +kernel
theorem dd_N_init_30 : decode prog_1_method_1_code 30 = .ok (.dup, 1) := by decide +kernel
theorem dd_N_init_31 : decode prog_1_method_1_code 31 = .ok (.aload_n 0, 1) := by decide +kernel
theorem dd_N_init_32 : decode prog_1_method_1_code 32 = .ok (.getfield 12, 3) := by decide +kernel
theorem dd_N_init_35 : decode prog_1_method_1_code 35 = .ok (.invokespecial 25, 3) := by decide +kernel
theorem dd_N_init_38 : decode prog_1_method_1_code 38 = .ok (.putfield 28, 3) := by decide +kernel
theorem dd_N_init_41 : decode prog_1_method_1_code 41 = .ok (.aload_n 0, 1) := by decide +kernel
theorem dd_N_init_42 : decode prog_1_method_1_code 42 = .ok (.new 32, 3) := by decide +kernel
theorem dd_N_init_45 : decode prog_1_method_1_code 45 = .ok (.dup, 1) := by decide +kernel
theorem dd_N_init_46 : decode prog_1_method_1_code 46 = .ok (.aload_n 0, 1) := by decide +kernel
theorem dd_N_init_47 : decode prog_1_method_1_code 47 = .ok (.getfield 12, 3) := by decide +kernel
theorem dd_N_init_50 : decode prog_1_method_1_code 50 = .ok (.aload_n 0, 1) := by decide +kernel
theorem dd_N_init_51 : decode prog_1_method_1_code 51 = .ok (.getfield 28, 3) := by decide +kernel
theorem dd_N_init_54 : decode prog_1_method_1_code 54 = .ok (.invokespecial 34, 3) := by decide +kernel
theorem dd_N_init_57 : decode prog_1_method_1_code 57 = .ok (.putfield 37, 3) := by decide +kernel
theorem dd_N_init_60 : decode prog_1_method_1_code 60 = .ok (.aload_n 0, 1) := by decide +kernel
theorem dd_N_init_61 : decode prog_1_method_1_code 61 = .ok (.new 41, 3) := by decide +kernel
theorem dd_N_init_64 : decode prog_1_method_1_code 64 = .ok (.dup, 1) := by decide +kernel
theorem dd_N_init_65 : decode prog_1_method_1_code 65 = .ok (.invokespecial 43, 3) := by decide +kernel
theorem dd_N_init_68 : decode prog_1_method_1_code 68 = .ok (.putfield 44, 3) := by decide +kernel
theorem dd_N_init_71 : decode prog_1_method_1_code 71 = .ok (.aload_n 0, 1) := by decide +kernel
theorem dd_N_init_72 : decode prog_1_method_1_code 72 = .ok (.iconst 0, 1) := by decide +kernel
theorem dd_N_init_73 : decode prog_1_method_1_code 73 = .ok (.putfield 48, 3) := by decide +kernel
theorem dd_N_init_76 : decode prog_1_method_1_code 76 = .ok (.aload_n 0, 1) := by decide +kernel
theorem dd_N_init_77 : decode prog_1_method_1_code 77 = .ok (.iconst (-1), 1) := by decide +kernel
theorem dd_N_init_78 : decode prog_1_method_1_code 78 = .ok (.putfield 52, 3) := by decide +kernel
theorem dd_N_init_81 : decode prog_1_method_1_code 81 = .ok (.return_, 1) := by decide +kernel
