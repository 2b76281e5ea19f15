theorem dd_Spelling_byteOf_0 : decode prog_5_method_3_code 0 = .ok (.lload_n 0, 1) := by decide +kernel
theorem dd_Spelling_byteOf_1 : decode prog_5_method_3_code 1 = .ok (.bipush 8, 2) := by decide +kernel
theorem dd_Spelling_byteOf_3 : decode prog_5_method_3_code 3 = .ok (.iload_n 2, 1) := by decide +kernel
theorem dd_Spelling_byteOf_4 : decode prog_5_method_3_code 4 = .ok (.imul, 1) := by decide +kernel
theorem dd_Spelling_byteOf_5 : decode prog_5_method_3_code 5 = .ok (.lushr, 1) := by decide +kernel
theorem dd_Spelling_byteOf_6 : decode prog_5_method_3_code 6 = .ok (.l2i, 1) := by decide +kernel
theorem dd_Spelling_byteOf_7 : decode prog_5_method_3_code 7 = .ok (.sipush 255, 3) := by decide +kernel
theorem dd_Spelling_byteOf_10 : decode prog_5_method_3_code 10 = .ok (.iand, 1) := by decide +kernel
theorem dd_Spelling_byteOf_11 : decode prog_5_method_3_code 11 = .ok (.ireturn, 1) := by decide +kernel
theorem dd_Spelling_isSpelled_0 : decode prog_5_method_5_code 0 = .ok (.iload_n 2, 1) := by decide +kernel
theorem dd_Spelling_isSpelled_1 : decode prog_5_method_5_code 1 = .ok (.iconst 1, 1) := by decide +kernel
theorem dd_Spelling_isSpelled_2 : decode prog_5_method_5_code 2 = .ok (.if_icmp .lt 9, 3) := by decide +kernel
theorem dd_Spelling_isSpelled_5 : decode prog_5_method_5_code 5 = .ok (.iload_n 2, 1) := by decide +kernel
theorem dd_Spelling_isSpelled_6 : decode prog_5_method_5_code 6 = .ok (.bipush 8, 2) := by decide +kernel
theorem dd_Spelling_isSpelled_8 : decode prog_5_method_5_code 8 = .ok (.if_icmp .le 5, 3) := by decide +kernel
theorem dd_Spelling_isSpelled_11 : decode prog_5_method_5_code 11 = .ok (.iconst 0, 1) := by decide +kernel
theorem dd_Spelling_isSpelled_12 : decode prog_5_method_5_code 12 = .ok (.ireturn, 1) := by decide +kernel
theorem dd_Spelling_isSpelled_13 : decode prog_5_method_5_code 13 = .ok (.lload_n 0, 1) := by decide +kernel
theorem dd_Spelling_isSpelled_14 : decode prog_5_method_5_code 14 = .ok (.iconst 0, 1) := by decide +kernel
theorem dd_Spelling_isSpelled_15 : decode prog_5_method_5_code 15 = .ok (.invokestatic 21, 3) := by decide +kernel
theorem dd_Spelling_isSpelled_18 : decode prog_5_method_5_code 18 = .ok (.invokestatic 25, 3) := by decide +kernel
theorem dd_Spelling_isSpelled_21 : decode prog_5_method_5_code 21 = .ok (.istore_n 3, 1) := by decide +kernel
theorem dd_Spelling_isSpelled_22 : decode prog_5_method_5_code 22 = .ok (.iload_n 3, 1) := by decide +kernel
theorem dd_Spelling_isSpelled_23 : decode prog_5_method_5_code 23 = .ok (.ifCond .eq 18, 3) := by decide +kernel
theorem dd_Spelling_isSpelled_26 : decode prog_5_method_5_code 26 = .ok (.iload_n 3, 1) := by decide +kernel
theorem dd_Spelling_isSpelled_27 : decode prog_5_method_5_code 27 = .ok (.iconst 1, 1) := by decide +kernel
theorem dd_Spelling_isSpelled_28 : decode prog_5_method_5_code 28 = .ok (.if_icmp .eq 13, 3) := by decide +kernel
theorem dd_Spelling_isSpelled_31 : decode prog_5_method_5_code 31 = .ok (.iload_n 3, 1) := by decide +kernel
theorem dd_Spelling_isSpelled_32 : decode prog_5_method_5_code 32 = .ok (.iconst 5, 1) := by decide +kernel
theorem dd_Spelling_isSpelled_33 : decode prog_5_method_5_code 33 = .ok (.if_icmp .ne 10, 3) := by decide +kernel
theorem dd_Spelling_isSpelled_36 : decode prog_5_method_5_code 36 = .ok (.iload_n 2, 1) := by decide +kernel
theorem dd_Spelling_isSpelled_37 : decode prog_5_method_5_code 37 = .ok (.iconst 1, 1) := by decide +kernel
theorem dd_Spelling_isSpelled_38 : decode prog_5_method_5_code 38 = .ok (.if_icmp .le 5, 3) := by decide +kernel
theorem dd_Spelling_isSpelled_41 : decode prog_5_method_5_code 41 = .ok (.iconst 0, 1) := by decide +kernel
theorem dd_Spelling_isSpelled_42 : decode prog_5_method_5_code 42 = .ok (.ireturn, 1) := by decide +kernel
theorem dd_Spelling_isSpelled_43 : decode prog_5_method_5_code 43 = .ok (.iconst 1, 1) := by decide +kernel
theorem dd_Spelling_isSpelled_44 : decode prog_5_method_5_code 44 = .ok (.istore 4, 2) := by decide +kernel
theorem dd_Spelling_isSpelled_46 : decode prog_5_method_5_code 46 = .ok (.iload 4, 2) := by decide +kernel
theorem dd_Spelling_isSpelled_48 : decode prog_5_method_5_code 48 = .ok (.iload_n 2, 1) := by decide +kernel
theorem dd_Spelling_isSpelled_49 : decode prog_5_method_5_code 49 = .ok (.if_icmp .ge 24, 3) := by decide +kernel
theorem dd_Spelling_isSpelled_52 : decode prog_5_method_5_code 52 = .ok (.lload_n 0, 1) := by decide +kernel
theorem dd_Spelling_isSpelled_53 : decode prog_5_method_5_code 53 = .ok (.iload 4, 2) := by decide +kernel
theorem dd_Spelling_isSpelled_55 : decode prog_5_method_5_code 55 = .ok (.invokestatic 21, 3) := by decide +kernel
theorem dd_Spelling_isSpelled_58 : decode prog_5_method_5_code 58 = .ok (.invokestatic 25, 3) := by decide +kernel
theorem dd_Spelling_isSpelled_61 : decode prog_5_method_5_code 61 = .ok (.iload_n 3, 1) := by decide +kernel
theorem dd_Spelling_isSpelled_62 : decode prog_5_method_5_code 62 = .ok (.if_icmp .eq 5, 3) := by decide +kernel
theorem dd_Spelling_isSpelled_65 : decode prog_5_method_5_code 65 = .ok (.iconst 0, 1) := by decide +kernel
theorem dd_Spelling_isSpelled_66 : decode prog_5_method_5_code 66 = .ok (.ireturn, 1) := by decide +kernel
theorem dd_Spelling_isSpelled_67 : decode prog_5_method_5_code 67 = .ok (.iinc 4 1, 3) := by decide +kernel
theorem dd_Spelling_isSpelled_70 : decode prog_5_method_5_code 70 = .ok (.goto (-24), 3) := by decide +kernel
theorem dd_Spelling_isSpelled_73 : decode prog_5_method_5_code 73 = .ok (.iconst 1, 1) := by decide +kernel
theorem dd_Spelling_isSpelled_74 : decode prog_5_method_5_code 74 = .ok (.ireturn, 1) := by decide +kernel
theorem dd_Spelling_kindOf_0 : decode prog_5_method_2_code 0 = .ok (.iload_n 0, 1) := by decide +kernel
theorem dd_Spelling_kindOf_1 : decode prog_5_method_2_code 1 = .ok (.bipush 32, 2) := by decide +kernel
theorem dd_Spelling_kindOf_3 : decode prog_5_method_2_code 3 = .ok (.if_icmp .eq 9, 3) := by decide +kernel
theorem dd_Spelling_kindOf_6 : decode prog_5_method_2_code 6 = .ok (.iload_n 0, 1) := by decide +kernel
theorem dd_Spelling_kindOf_7 : decode prog_5_method_2_code 7 = .ok (.bipush 10, 2) := by decide +kernel
theorem dd_Spelling_kindOf_9 : decode prog_5_method_2_code 9 = .ok (.if_icmp .ne 5, 3) := by decide +kernel
theorem dd_Spelling_kindOf_12 : decode prog_5_method_2_code 12 = .ok (.iconst 1, 1) := by decide +kernel
theorem dd_Spelling_kindOf_13 : decode prog_5_method_2_code 13 = .ok (.ireturn, 1) := by decide +kernel
theorem dd_Spelling_kindOf_14 : decode prog_5_method_2_code 14 = .ok (.iload_n 0, 1) := by decide +kernel
theorem dd_Spelling_kindOf_15 : decode prog_5_method_2_code 15 = .ok (.bipush 97, 2) := by decide +kernel
theorem dd_Spelling_kindOf_17 : decode prog_5_method_2_code 17 = .ok (.if_icmp .lt 9, 3) := by decide +kernel
theorem dd_Spelling_kindOf_20 : decode prog_5_method_2_code 20 = .ok (.iload_n 0, 1) := by decide +kernel
theorem dd_Spelling_kindOf_21 : decode prog_5_method_2_code 21 = .ok (.bipush 122, 2) := by decide +kernel
theorem dd_Spelling_kindOf_23 : decode prog_5_method_2_code 23 = .ok (.if_icmp .le 15, 3) := by decide +kernel
theorem dd_Spelling_kindOf_26 : decode prog_5_method_2_code 26 = .ok (.iload_n 0, 1) := by decide +kernel
theorem dd_Spelling_kindOf_27 : decode prog_5_method_2_code 27 = .ok (.bipush 65, 2) := by decide +kernel
theorem dd_Spelling_kindOf_29 : decode prog_5_method_2_code 29 = .ok (.if_icmp .lt 11, 3) := by decide +kernel
theorem dd_Spelling_kindOf_32 : decode prog_5_method_2_code 32 = .ok (.iload_n 0, 1) := by decide +kernel
theorem dd_Spelling_kindOf_33 : decode prog_5_method_2_code 33 = .ok (.bipush 90, 2) := by decide +kernel
theorem dd_Spelling_kindOf_35 : decode prog_5_method_2_code 35 = .ok (.if_icmp .gt 5, 3) := by decide +kernel
theorem dd_Spelling_kindOf_38 : decode prog_5_method_2_code 38 = .ok (.iconst 2, 1) := by decide +kernel
theorem dd_Spelling_kindOf_39 : decode prog_5_method_2_code 39 = .ok (.ireturn, 1) := by decide +kernel
theorem dd_Spelling_kindOf_40 : decode prog_5_method_2_code 40 = .ok (.iload_n 0, 1) := by decide +kernel
theorem dd_Spelling_kindOf_41 : decode prog_5_method_2_code 41 = .ok (.bipush 48, 2) := by decide +kernel
theorem dd_Spelling_kindOf_43 : decode prog_5_method_2_code 43 = .ok (.if_icmp .lt 11, 3) := by decide +kernel
theorem dd_Spelling_kindOf_46 : decode prog_5_method_2_code 46 = .ok (.iload_n 0, 1) := by decide +kernel
theorem dd_Spelling_kindOf_47 : decode prog_5_method_2_code 47 = .ok (.bipush 57, 2) := by decide +kernel
theorem dd_Spelling_kindOf_49 : decode prog_5_method_2_code 49 = .ok (.if_icmp .gt 5, 3) := by decide +kernel
theorem dd_Spelling_kindOf_52 : decode prog_5_method_2_code 52 = .ok (.iconst 3, 1) := by decide +kernel
theorem dd_Spelling_kindOf_53 : decode prog_5_method_2_code 53 = .ok (.ireturn, 1) := by decide +kernel
theorem dd_Spelling_kindOf_54 : decode prog_5_method_2_code 54 = .ok (.ldc 11, 2) := by decide +kernel
theorem dd_Spelling_kindOf_56 : decode prog_5_method_2_code 56 = .ok (.iload_n 0, 1) := by decide +kernel
theorem dd_Spelling_kindOf_57 : decode prog_5_method_2_code 57 = .ok (.i2c, 1) := by decide +kernel
theorem dd_Spelling_kindOf_58 : decode prog_5_method_2_code 58 = .ok (.invokevirtual 13, 3) := by decide +kernel
theorem dd_Spelling_kindOf_61 : decode prog_5_method_2_code 61 = .ok (.ifCond .lt 5, 3) := by decide +kernel
theorem dd_Spelling_kindOf_64 : decode prog_5_method_2_code 64 = .ok (.iconst 4, 1) := by decide +kernel
theorem dd_Spelling_kindOf_65 : decode prog_5_method_2_code 65 = .ok (.ireturn, 1) := by decide +kernel
theorem dd_Spelling_kindOf_66 : decode prog_5_method_2_code 66 = .ok (.ldc 19, 2) := by decide +kernel
theorem dd_Spelling_kindOf_68 : decode prog_5_method_2_code 68 = .ok (.iload_n 0, 1) := by decide +kernel
theorem dd_Spelling_kindOf_69 : decode prog_5_method_2_code 69 = .ok (.i2c, 1) := by decide +kernel
theorem dd_Spelling_kindOf_70 : decode prog_5_method_2_code 70 = .ok (.invokevirtual 13, 3) := by decide +kernel
theorem dd_Spelling_kindOf_73 : decode prog_5_method_2_code 73 = .ok (.ifCond .lt 7, 3) := by decide +kernel
theorem dd_Spelling_kindOf_76 : decode prog_5_method_2_code 76 = .ok (.iconst 5, 1) := by decide +kernel
theorem dd_Spelling_kindOf_77 : decode prog_5_method_2_code 77 = .ok (.goto 4, 3) := by decide +kernel
theorem dd_Spelling_kindOf_80 : decode prog_5_method_2_code 80 = .ok (.iconst 0, 1) := by decide +kernel
theorem dd_Spelling_kindOf_81 : decode prog_5_method_2_code 81 = .ok (.ireturn, 1) := by decide +kernel
theorem dd_Spelling_lowBytes_0 : decode prog_5_method_4_code 0 = .ok (.iload_n 2, 1) := by decide +kernel
theorem dd_Spelling_lowBytes_1 : decode prog_5_method_4_code 1 = .ok (.bipush 8, 2) := by decide +kernel
theorem dd_Spelling_lowBytes_3 : decode prog_5_method_4_code 3 = .ok (.if_icmp .lt 7, 3) := by decide +kernel
theorem dd_Spelling_lowBytes_6 : decode prog_5_method_4_code 6 = .ok (.lload_n 0, 1) := by decide +kernel
theorem dd_Spelling_lowBytes_7 : decode prog_5_method_4_code 7 = .ok (.goto 13, 3) := by decide +kernel
theorem dd_Spelling_lowBytes_10 : decode prog_5_method_4_code 10 = .ok (.lload_n 0, 1) := by decide +kernel
theorem dd_Spelling_lowBytes_11 : decode prog_5_method_4_code 11 = .ok (.lconst 1, 1) := by decide +kernel
theorem dd_Spelling_lowBytes_12 : decode prog_5_method_4_code 12 = .ok (.bipush 8, 2) := by decide +kernel
theorem dd_Spelling_lowBytes_14 : decode prog_5_method_4_code 14 = .ok (.iload_n 2, 1) := by decide +kernel
theorem dd_Spelling_lowBytes_15 : decode prog_5_method_4_code 15 = .ok (.imul, 1) := by decide +kernel
theorem dd_Spelling_lowBytes_16 : decode prog_5_method_4_code 16 = .ok (.lshl, 1) := by decide +kernel
theorem dd_Spelling_lowBytes_17 : decode prog_5_method_4_code 17 = .ok (.lconst 1, 1) := by decide +kernel
theorem dd_Spelling_lowBytes_18 : decode prog_5_method_4_code 18 = .ok (.lsub, 1) := by decide +kernel
theorem dd_Spelling_lowBytes_19 : decode prog_5_method_4_code 19 = .ok (.land, 1) := by decide +kernel
theorem dd_Spelling_lowBytes_20 : decode prog_5_method_4_code 20 = .ok (.lreturn, 1) := by decide +kernel
