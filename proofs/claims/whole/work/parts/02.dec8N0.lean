theorem dd_N_about_0 : decode prog_1_method_15_code 0 = .ok (.iload_n 1, 1) := by decide +kernel
theorem dd_N_about_1 : decode prog_1_method_15_code 1 = .ok (.tableswitch 77 0 4 #[35, 45, 53, 61, 69], 35) := by decide +kernel
theorem dd_N_about_36 : decode prog_1_method_15_code 36 = .ok (.aload_n 0, 1) := by decide +kernel
theorem dd_N_about_37 : decode prog_1_method_15_code 37 = .ok (.getfield 12, 3) := by decide +kernel
theorem dd_N_about_40 : decode prog_1_method_15_code 40 = .ok (.getfield 108, 3) := by decide +kernel
theorem dd_N_about_43 : decode prog_1_method_15_code 43 = .ok (.iconst 2, 1) := by decide +kernel
theorem dd_N_about_44 : decode prog_1_method_15_code 44 = .ok (.isub, 1) := by decide +kernel
theorem dd_N_about_45 : decode prog_1_method_15_code 45 = .ok (.ireturn, 1) := by decide +kernel
theorem dd_N_about_46 : decode prog_1_method_15_code 46 = .ok (.aload_n 0, 1) := by decide +kernel
theorem dd_N_about_47 : decode prog_1_method_15_code 47 = .ok (.getfield 12, 3) := by decide +kernel
theorem dd_N_about_50 : decode prog_1_method_15_code 50 = .ok (.getfield 68, 3) := by decide +kernel
theorem dd_N_about_53 : decode prog_1_method_15_code 53 = .ok (.ireturn, 1) := by decide +kernel
theorem dd_N_about_54 : decode prog_1_method_15_code 54 = .ok (.aload_n 0, 1) := by decide +kernel
theorem dd_N_about_55 : decode prog_1_method_15_code 55 = .ok (.getfield 19, 3) := by decide +kernel
theorem dd_N_about_58 : decode prog_1_method_15_code 58 = .ok (.getfield 120, 3) := by decide +kernel
theorem dd_N_about_61 : decode prog_1_method_15_code 61 = .ok (.ireturn, 1) := by decide +kernel
theorem dd_N_about_62 : decode prog_1_method_15_code 62 = .ok (.aload_n 0, 1) := by decide +kernel
theorem dd_N_about_63 : decode prog_1_method_15_code 63 = .ok (.getfield 37, 3) := by decide +kernel
theorem dd_N_about_66 : decode prog_1_method_15_code 66 = .ok (.getfield 168, 3) := by decide +kernel
theorem dd_N_about_69 : decode prog_1_method_15_code 69 = .ok (.ireturn, 1) := by decide +kernel
theorem dd_N_about_70 : decode prog_1_method_15_code 70 = .ok (.aload_n 0, 1) := by decide +kernel
theorem dd_N_about_71 : decode prog_1_method_15_code 71 = .ok (.getfield 44, 3) := by decide +kernel
theorem dd_N_about_74 : decode prog_1_method_15_code 74 = .ok (.getfield 198, 3) := by decide +kernel
theorem dd_N_about_77 : decode prog_1_method_15_code 77 = .ok (.ireturn, 1) := by decide +kernel
theorem dd_N_about_78 : decode prog_1_method_15_code 78 = .ok (.iconst (-1), 1) := by decide +kernel
theorem dd_N_about_79 : decode prog_1_method_15_code 79 = .ok (.ireturn, 1) := by decide +kernel
theorem dd_N_at_0 : decode prog_1_method_13_code 0 = .ok (.iload_n 1, 1) := by decide +kernel
theorem dd_N_at_1 : decode prog_1_method_13_code 1 = .ok (.ifCond .lt 14, 3) := by decide +kernel
theorem dd_N_at_4 : decode prog_1_method_13_code 4 = .ok (.iload_n 1, 1) := by decide +kernel
theorem dd_N_at_5 : decode prog_1_method_13_code 5 = .ok (.aload_n 0, 1) := by decide +kernel
theorem dd_N_at_6 : decode prog_1_method_13_code 6 = .ok (.getfield 44, 3) := by decide +kernel
theorem dd_N_at_9 : decode prog_1_method_13_code 9 = .ok (.getfield 198, 3) := by decide +kernel
theorem dd_N_at_12 : decode prog_1_method_13_code 12 = .ok (.if_icmp .lt 7, 3) := by decide +kernel
theorem dd_N_at_15 : decode prog_1_method_13_code 15 = .ok (.iconst (-1), 1) := by decide +kernel
theorem dd_N_at_16 : decode prog_1_method_13_code 16 = .ok (.goto 12, 3) := by decide +kernel
theorem dd_N_at_19 : decode prog_1_method_13_code 19 = .ok (.aload_n 0, 1) := by decide +kernel
theorem dd_N_at_20 : decode prog_1_method_13_code 20 = .ok (.getfield 44, 3) := by decide +kernel
theorem dd_N_at_23 : decode prog_1_method_13_code 23 = .ok (.getfield 199, 3) := by decide +kernel
theorem dd_N_at_26 : decode prog_1_method_13_code 26 = .ok (.iload_n 1, 1) := by decide +kernel
theorem dd_N_at_27 : decode prog_1_method_13_code 27 = .ok (.baload, 1) := by decide +kernel
theorem dd_N_at_28 : decode prog_1_method_13_code 28 = .ok (.ireturn, 1) := by decide +kernel
theorem dd_N_clear_0 : decode prog_1_method_6_code 0 = .ok (.aload_n 0, 1) := by decide +kernel
theorem dd_N_clear_1 : decode prog_1_method_6_code 1 = .ok (.getfield 19, 3) := by decide +kernel
theorem dd_N_clear_4 : decode prog_1_method_6_code 4 = .ok (.iconst 0, 1) := by decide +kernel
theorem dd_N_clear_5 : decode prog_1_method_6_code 5 = .ok (.putfield 120, 3) := by decide +kernel
theorem dd_N_clear_8 : decode prog_1_method_6_code 8 = .ok (.return_, 1) := by decide +kernel
theorem dd_N_fault_0 : decode prog_1_method_10_code 0 = .ok (.iload_n 1, 1) := by decide +kernel
theorem dd_N_fault_1 : decode prog_1_method_10_code 1 = .ok (.lookupswitch 37 #[(0, 27), (1, 32)], 27) := by decide +kernel
theorem dd_N_fault_28 : decode prog_1_method_10_code 28 = .ok (.aload_n 0, 1) := by decide +kernel
theorem dd_N_fault_29 : decode prog_1_method_10_code 29 = .ok (.getfield 48, 3) := by decide +kernel
theorem dd_N_fault_32 : decode prog_1_method_10_code 32 = .ok (.ireturn, 1) := by decide +kernel
theorem dd_N_fault_33 : decode prog_1_method_10_code 33 = .ok (.aload_n 0, 1) := by decide +kernel
theorem dd_N_fault_34 : decode prog_1_method_10_code 34 = .ok (.getfield 52, 3) := by decide +kernel
theorem dd_N_fault_37 : decode prog_1_method_10_code 37 = .ok (.ireturn, 1) := by decide +kernel
theorem dd_N_fault_38 : decode prog_1_method_10_code 38 = .ok (.iconst (-1), 1) := by decide +kernel
theorem dd_N_fault_39 : decode prog_1_method_10_code 39 = .ok (.ireturn, 1) := by decide +kernel
theorem dd_N_findFault_0 : decode prog_1_method_8_code 0 = .ok (.aload_n 0, 1) := by decide +kernel
theorem dd_N_findFault_1 : decode prog_1_method_8_code 1 = .ok (.getfield 28, 3) := by decide +kernel
theorem dd_N_findFault_4 : decode prog_1_method_8_code 4 = .ok (.aload_n 0, 1) := by decide +kernel
theorem dd_N_findFault_5 : decode prog_1_method_8_code 5 = .ok (.getfield 19, 3) := by decide +kernel
theorem dd_N_findFault_8 : decode prog_1_method_8_code 8 = .ok (.getfield 145, 3) := by decide +kernel
theorem dd_N_findFault_11 : decode prog_1_method_8_code 11 = .ok (.aload_n 0, 1) := by decide +kernel
theorem dd_N_findFault_12 : decode prog_1_method_8_code 12 = .ok (.getfield 19, 3) := by decide +kernel
theorem dd_N_findFault_15 : decode prog_1_method_8_code 15 = .ok (.getfield 135, 3) := by decide +kernel
theorem dd_N_findFault_18 : decode prog_1_method_8_code 18 = .ok (.invokevirtual 149, 3) := by decide +kernel
theorem dd_N_findFault_21 : decode prog_1_method_8_code 21 = .ok (.istore_n 1, 1) := by decide +kernel
theorem dd_N_findFault_22 : decode prog_1_method_8_code 22 = .ok (.iload_n 1, 1) := by decide +kernel
theorem dd_N_findFault_23 : decode prog_1_method_8_code 23 = .ok (.aload_n 0, 1) := by decide +kernel
theorem dd_N_findFault_24 : decode prog_1_method_8_code 24 = .ok (.getfield 19, 3) := by decide +kernel
theorem dd_N_findFault_27 : decode prog_1_method_8_code 27 = .ok (.getfield 135, 3) := by decide +kernel
theorem dd_N_findFault_30 : decode prog_1_method_8_code 30 = .ok (.if_icmp .ge 20, 3) := by decide +kernel
theorem dd_N_findFault_33 : decode prog_1_method_8_code 33 = .ok (.aload_n 0, 1) := by decide +kernel
theorem dd_N_findFault_34 : decode prog_1_method_8_code 34 = .ok (.iconst 1, 1) := by decide +kernel
theorem dd_N_findFault_35 : decode prog_1_method_8_code 35 = .ok (.aload_n 0, 1) := by decide +kernel
theorem dd_N_findFault_36 : decode prog_1_method_8_code 36 = .ok (.getfield 19, 3) := by decide +kernel
theorem dd_N_findFault_39 : decode prog_1_method_8_code 39 = .ok (.getfield 153, 3) := by decide +kernel
theorem dd_N_findFault_42 : decode prog_1_method_8_code 42 = .ok (.iload_n 1, 1) := by decide +kernel
theorem dd_N_findFault_43 : decode prog_1_method_8_code 43 = .ok (.iaload, 1) := by decide +kernel
theorem dd_N_findFault_44 : decode prog_1_method_8_code 44 = .ok (.invokevirtual 157, 3) := by decide +kernel
theorem dd_N_findFault_47 : decode prog_1_method_8_code 47 = .ok (.goto 67, 3) := by decide +kernel
theorem dd_N_findFault_50 : decode prog_1_method_8_code 50 = .ok (.aload_n 0, 1) := by decide +kernel
theorem dd_N_findFault_51 : decode prog_1_method_8_code 51 = .ok (.getfield 19, 3) := by decide +kernel
theorem dd_N_findFault_54 : decode prog_1_method_8_code 54 = .ok (.getfield 161, 3) := by decide +kernel
theorem dd_N_findFault_57 : decode prog_1_method_8_code 57 = .ok (.iconst (-1), 1) := by decide +kernel
theorem dd_N_findFault_58 : decode prog_1_method_8_code 58 = .ok (.if_icmp .eq 18, 3) := by decide +kernel
theorem dd_N_findFault_61 : decode prog_1_method_8_code 61 = .ok (.aload_n 0, 1) := by decide +kernel
theorem dd_N_findFault_62 : decode prog_1_method_8_code 62 = .ok (.iconst 2, 1) := by decide +kernel
theorem dd_N_findFault_63 : decode prog_1_method_8_code 63 = .ok (.aload_n 0, 1) := by decide +kernel
theorem dd_N_findFault_64 : decode prog_1_method_8_code 64 = .ok (.getfield 19, 3) := by decide +kernel
theorem dd_N_findFault_67 : decode prog_1_method_8_code 67 = .ok (.getfield 161, 3) := by decide +kernel
theorem dd_N_findFault_70 : decode prog_1_method_8_code 70 = .ok (.invokevirtual 157, 3) := by decide +kernel
theorem dd_N_findFault_73 : decode prog_1_method_8_code 73 = .ok (.goto 41, 3) := by decide +kernel
theorem dd_N_findFault_76 : decode prog_1_method_8_code 76 = .ok (.aload_n 0, 1) := by decide +kernel
theorem dd_N_findFault_77 : decode prog_1_method_8_code 77 = .ok (.getfield 28, 3) := by decide +kernel
theorem dd_N_findFault_80 : decode prog_1_method_8_code 80 = .ok (.aload_n 0, 1) := by decide +kernel
theorem dd_N_findFault_81 : decode prog_1_method_8_code 81 = .ok (.getfield 19, 3) := by decide +kernel
theorem dd_N_findFault_84 : decode prog_1_method_8_code 84 = .ok (.getfield 135, 3) := by decide +kernel
theorem dd_N_findFault_87 : decode prog_1_method_8_code 87 = .ok (.invokevirtual 164, 3) := by decide +kernel
theorem dd_N_findFault_90 : decode prog_1_method_8_code 90 = .ok (.ifCond .ne 18, 3) := by decide +kernel
theorem dd_N_findFault_93 : decode prog_1_method_8_code 93 = .ok (.aload_n 0, 1) := by decide +kernel
theorem dd_N_findFault_94 : decode prog_1_method_8_code 94 = .ok (.iconst 1, 1) := by decide +kernel
theorem dd_N_findFault_95 : decode prog_1_method_8_code 95 = .ok (.aload_n 0, 1) := by decide +kernel
theorem dd_N_findFault_96 : decode prog_1_method_8_code 96 = .ok (.getfield 19, 3) := by decide +kernel
theorem dd_N_findFault_99 : decode prog_1_method_8_code 99 = .ok (.getfield 120, 3) := by decide +kernel
theorem dd_N_findFault_102 : decode prog_1_method_8_code 102 = .ok (.invokevirtual 157, 3) := by decide +kernel
theorem dd_N_findFault_105 : decode prog_1_method_8_code 105 = .ok (.goto 9, 3) := by decide +kernel
theorem dd_N_findFault_108 : decode prog_1_method_8_code 108 = .ok (.aload_n 0, 1) := by decide +kernel
theorem dd_N_findFault_109 : decode prog_1_method_8_code 109 = .ok (.iconst 0, 1) := by decide +kernel
theorem dd_N_findFault_110 : decode prog_1_method_8_code 110 = .ok (.iconst (-1), 1) := by decide +kernel
theorem dd_N_findFault_111 : decode prog_1_method_8_code 111 = .ok (.invokevirtual 157, 3) := by decide +kernel
theorem dd_N_findFault_114 : decode prog_1_method_8_code 114 = .ok (.return_, 1) := by decide +kernel
theorem dd_N_isKey_0 : decode prog_1_method_14_code 0 = .ok (.lload_n 1, 1) := by decide +kernel
theorem dd_N_isKey_1 : decode prog_1_method_14_code 1 = .ok (.iload_n 3, 1) := by decide +kernel
theorem dd_N_isKey_2 : decode prog_1_method_14_code 2 = .ok (.invokestatic 82, 3) := by decide +kernel
theorem dd_N_isKey_5 : decode prog_1_method_14_code 5 = .ok (.ifCond .eq 22, 3) := by decide +kernel
theorem dd_N_isKey_8 : decode prog_1_method_14_code 8 = .ok (.aload_n 0, 1) := by decide +kernel
theorem dd_N_isKey_9 : decode prog_1_method_14_code 9 = .ok (.getfield 12, 3) := by decide +kernel
theorem dd_N_isKey_12 : decode prog_1_method_14_code 12 = .ok (.lload_n 1, 1) := by decide +kernel
theorem dd_N_isKey_13 : decode prog_1_method_14_code 13 = .ok (.iload_n 3, 1) := by decide +kernel
theorem dd_N_isKey_14 : decode prog_1_method_14_code 14 = .ok (.invokestatic 90, 3) := by decide +kernel
theorem dd_N_isKey_17 : decode prog_1_method_14_code 17 = .ok (.invokevirtual 203, 3) := by decide +kernel
theorem dd_N_isKey_20 : decode prog_1_method_14_code 20 = .ok (.ifCond .eq 7, 3) := by decide +kernel
theorem dd_N_isKey_23 : decode prog_1_method_14_code 23 = .ok (.iconst 1, 1) := by decide +kernel
theorem dd_N_isKey_24 : decode prog_1_method_14_code 24 = .ok (.goto 4, 3) := by decide +kernel
theorem dd_N_isKey_27 : decode prog_1_method_14_code 27 = .ok (.iconst 0, 1) := by decide +kernel
theorem dd_N_isKey_28 : decode prog_1_method_14_code 28 = .ok (.ireturn, 1) := by decide +kernel
theorem dd_N_noteFault_0 : decode prog_1_method_9_code 0 = .ok (.aload_n 0, 1) := by decide +kernel
theorem dd_N_noteFault_1 : decode prog_1_method_9_code 1 = .ok (.iload_n 1, 1) := by decide +kernel
theorem dd_N_noteFault_2 : decode prog_1_method_9_code 2 = .ok (.putfield 48, 3) := by decide +kernel
theorem dd_N_noteFault_5 : decode prog_1_method_9_code 5 = .ok (.aload_n 0, 1) := by decide +kernel
theorem dd_N_noteFault_6 : decode prog_1_method_9_code 6 = .ok (.iload_n 2, 1) := by decide +kernel
theorem dd_N_noteFault_7 : decode prog_1_method_9_code 7 = .ok (.putfield 52, 3) := by decide +kernel
theorem dd_N_noteFault_10 : decode prog_1_method_9_code 10 = .ok (.return_, 1) := by decide +kernel
theorem dd_N_put_0 : decode prog_1_method_5_code 0 = .ok (.iload_n 3, 1) := by decide +kernel
theorem dd_N_put_1 : decode prog_1_method_5_code 1 = .ok (.iconst 1, 1) := by decide +kernel
theorem dd_N_put_2 : decode prog_1_method_5_code 2 = .ok (.if_icmp .lt 24, 3) := by decide +kernel
theorem dd_N_put_5 : decode prog_1_method_5_code 5 = .ok (.iload_n 3, 1) := by decide +kernel
theorem dd_N_put_6 : decode prog_1_method_5_code 6 = .ok (.bipush 8, 2) := by decide +kernel
theorem dd_N_put_8 : decode prog_1_method_5_code 8 = .ok (.if_icmp .gt 18, 3) := by decide +kernel
theorem dd_N_put_11 : decode prog_1_method_5_code 11 = .ok (.iload_n 3, 1) := by decide +kernel
theorem dd_N_put_12 : decode prog_1_method_5_code 12 = .ok (.sipush 200, 3) := by decide +kernel
theorem dd_N_put_15 : decode prog_1_method_5_code 15 = .ok (.aload_n 0, 1) := by decide +kernel
theorem dd_N_put_16 : decode prog_1_method_5_code 16 = .ok (.getfield 19, 3) := by decide +kernel
theorem dd_N_put_19 : decode prog_1_method_5_code 19 = .ok (.getfield 120, 3) := by decide +kernel
theorem dd_N_put_22 : decode prog_1_method_5_code 22 = .ok (.isub, 1) := by decide +kernel
theorem dd_N_put_23 : decode prog_1_method_5_code 23 = .ok (.if_icmp .le 5, 3) := by decide +kernel
theorem dd_N_put_26 : decode prog_1_method_5_code 26 = .ok (.iconst 0, 1) := by decide +kernel
theorem dd_N_put_27 : decode prog_1_method_5_code 27 = .ok (.ireturn, 1) := by decide +kernel
theorem dd_N_put_28 : decode prog_1_method_5_code 28 = .ok (.aload_n 0, 1) := by decide +kernel
theorem dd_N_put_29 : decode prog_1_method_5_code 29 = .ok (.getfield 19, 3) := by decide +kernel
theorem dd_N_put_32 : decode prog_1_method_5_code 32 = .ok (.lload_n 1, 1) := by decide +kernel
theorem dd_N_put_33 : decode prog_1_method_5_code 33 = .ok (.iload_n 3, 1) := by decide +kernel
theorem dd_N_put_34 : decode prog_1_method_5_code 34 = .ok (.invokevirtual 123, 3) := by decide +kernel
theorem dd_N_put_37 : decode prog_1_method_5_code 37 = .ok (.iconst 1, 1) := by decide +kernel
theorem dd_N_put_38 : decode prog_1_method_5_code 38 = .ok (.ireturn, 1) := by decide +kernel
