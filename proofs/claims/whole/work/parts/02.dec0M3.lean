theorem dd_M_word_5 : decode prog_9_method_12_code 5 = .ok (.ifCond .eq 31, 3) := by decide +kernel
theorem dd_M_word_8 : decode prog_9_method_12_code 8 = .ok (.lload_n 1, 1) := by decide +kernel
theorem dd_M_word_9 : decode prog_9_method_12_code 9 = .ok (.iload_n 3, 1) := by decide +kernel
theorem dd_M_word_10 : decode prog_9_method_12_code 10 = .ok (.invokestatic 114, 3) := by decide +kernel
theorem dd_M_word_13 : decode prog_9_method_12_code 13 = .ok (.ldc2_w 118, 3) := by decide +kernel
theorem dd_M_word_16 : decode prog_9_method_12_code 16 = .ok (.lcmp, 1) := by decide +kernel
theorem dd_M_word_17 : decode prog_9_method_12_code 17 = .ok (.ifCond .eq 19, 3) := by decide +kernel
theorem dd_M_word_20 : decode prog_9_method_12_code 20 = .ok (.lload_n 1, 1) := by decide +kernel
theorem dd_M_word_21 : decode prog_9_method_12_code 21 = .ok (.iload_n 3, 1) := by decide +kernel
theorem dd_M_word_22 : decode prog_9_method_12_code 22 = .ok (.invokestatic 114, 3) := by decide +kernel
theorem dd_M_word_25 : decode prog_9_method_12_code 25 = .ok (.ldc2_w 120, 3) := by decide +kernel
theorem dd_M_word_28 : decode prog_9_method_12_code 28 = .ok (.lcmp, 1) := by decide +kernel
theorem dd_M_word_29 : decode prog_9_method_12_code 29 = .ok (.ifCond .eq 7, 3) := by decide +kernel
theorem dd_M_word_32 : decode prog_9_method_12_code 32 = .ok (.iconst 1, 1) := by decide +kernel
theorem dd_M_word_33 : decode prog_9_method_12_code 33 = .ok (.goto 4, 3) := by decide +kernel
theorem dd_M_word_36 : decode prog_9_method_12_code 36 = .ok (.iconst 0, 1) := by decide +kernel
theorem dd_M_word_37 : decode prog_9_method_12_code 37 = .ok (.istore 4, 2) := by decide +kernel
theorem dd_M_word_39 : decode prog_9_method_12_code 39 = .ok (.aload_n 0, 1) := by decide +kernel
theorem dd_M_word_40 : decode prog_9_method_12_code 40 = .ok (.iload 4, 2) := by decide +kernel
theorem dd_M_word_42 : decode prog_9_method_12_code 42 = .ok (.ifCond .ne 7, 3) := by decide +kernel
theorem dd_M_word_45 : decode prog_9_method_12_code 45 = .ok (.iconst 1, 1) := by decide +kernel
theorem dd_M_word_46 : decode prog_9_method_12_code 46 = .ok (.goto 17, 3) := by decide +kernel
theorem dd_M_word_49 : decode prog_9_method_12_code 49 = .ok (.aload_n 0, 1) := by decide +kernel
theorem dd_M_word_50 : decode prog_9_method_12_code 50 = .ok (.getfield 103, 3) := by decide +kernel
theorem dd_M_word_53 : decode prog_9_method_12_code 53 = .ok (.bipush 6, 2) := by decide +kernel
theorem dd_M_word_55 : decode prog_9_method_12_code 55 = .ok (.if_icmp .ne 7, 3) := by decide +kernel
theorem dd_M_word_58 : decode prog_9_method_12_code 58 = .ok (.iconst 2, 1) := by decide +kernel
theorem dd_M_word_59 : decode prog_9_method_12_code 59 = .ok (.goto 4, 3) := by decide +kernel
theorem dd_M_word_62 : decode prog_9_method_12_code 62 = .ok (.iconst 0, 1) := by decide +kernel
theorem dd_M_word_63 : decode prog_9_method_12_code 63 = .ok (.putfield 80, 3) := by decide +kernel
theorem dd_M_word_66 : decode prog_9_method_12_code 66 = .ok (.aload_n 0, 1) := by decide +kernel
theorem dd_M_word_67 : decode prog_9_method_12_code 67 = .ok (.getfield 80, 3) := by decide +kernel
theorem dd_M_word_70 : decode prog_9_method_12_code 70 = .ok (.ifCond .le 7, 3) := by decide +kernel
theorem dd_M_word_73 : decode prog_9_method_12_code 73 = .ok (.iconst 0, 1) := by decide +kernel
theorem dd_M_word_74 : decode prog_9_method_12_code 74 = .ok (.goto 13, 3) := by decide +kernel
theorem dd_M_word_77 : decode prog_9_method_12_code 77 = .ok (.aload_n 0, 1) := by decide +kernel
theorem dd_M_word_78 : decode prog_9_method_12_code 78 = .ok (.iconst (-1), 1) := by decide +kernel
theorem dd_M_word_79 : decode prog_9_method_12_code 79 = .ok (.lload_n 1, 1) := by decide +kernel
theorem dd_M_word_80 : decode prog_9_method_12_code 80 = .ok (.iload_n 3, 1) := by decide +kernel
theorem dd_M_word_81 : decode prog_9_method_12_code 81 = .ok (.invokestatic 114, 3) := by decide +kernel
theorem dd_M_word_84 : decode prog_9_method_12_code 84 = .ok (.invokevirtual 106, 3) := by decide +kernel
theorem dd_M_word_87 : decode prog_9_method_12_code 87 = .ok (.ireturn, 1) := by decide +kernel
