theorem dd_N_about_0 : decode prog_1_method_15_code 0 = .ok (.iload_n 1, 1) := by decide +kernel
theorem dd_N_about_1 : decode prog_1_method_15_code 1 = .ok (.tableswitch 77 0 4 #[35, 45, 53, 61, 69], 35) := by decide +kernel
theorem dd_N_about_36 : decode prog_1_method_15_code 36 = .ok (.aload_n 0, 1) := by decide +kernel
theorem dd_N_about_37 : decode prog_1_method_15_code 37 = .ok (.getfield 12, 3) := by decide +kernel
theorem dd_N_about_40 : decode prog_1_method_15_code 40 = .ok (.getfield 108, 3) := by decide +kernel
theorem dd_N_about_43 : decode prog_1_method_15_code 43 = .ok (.iconst 2, 1) := by decide +kernel
theorem dd_N_about_44 : decode prog_1_method_15_code 44 = .ok (.isub, 1) := by decide +kernel
theorem dd_N_about_45 : decode prog_1_method_15_code 45 = .ok (.ireturn, 1) := by decide +kernel
theorem dd_N_about_46 : decode prog_1_method_15_code 46 = .ok (.aload_n 0, 1) := by decide +kernel
theorem dd_N_about_47 : decode prog_1_method_15_code 47 = .ok (.getfield 12, 3) := by decide +kernel
theorem dd_N_about_50 : decode prog_1_method_15_code 50 = .ok (.getfield 68, 3) := by decide +kernel
theorem dd_N_about_53 : decode prog_1_method_15_code 53 = .ok (.ireturn, 1) := by decide +kernel
theorem dd_N_about_54 : decode prog_1_method_15_code 54 = .ok (.aload_n 0, 1) := by decide +kernel
theorem dd_N_about_55 : decode prog_1_method_15_code 55 = .ok (.getfield 19, 3) := by decide +kernel
theorem dd_N_about_58 : decode prog_1_method_15_code 58 = .ok (.getfield 120, 3) := by decide +kernel
theorem dd_N_about_61 : decode prog_1_method_15_code 61 = .ok (.ireturn, 1) := by decide +kernel
theorem dd_N_about_62 : decode prog_1_method_15_code 62 = .ok (.aload_n 0, 1) := by decide +kernel
theorem dd_N_about_63 : decode prog_1_method_15_code 63 = .ok (.getfield 37, 3) := by decide +kernel
theorem dd_N_about_66 : decode prog_1_method_15_code 66 = .ok (.getfield 168, 3) := by decide +kernel
theorem dd_N_about_69 : decode prog_1_method_15_code 69 = .ok (.ireturn, 1) := by decide +kernel
theorem dd_N_about_70 : decode prog_1_method_15_code 70 = .ok (.aload_n 0, 1) := by decide +kernel
theorem dd_N_about_71 : decode prog_1_method_15_code 71 = .ok (.getfield 44, 3) := by decide +kernel
theorem dd_N_about_74 : decode prog_1_method_15_code 74 = .ok (.getfield 198, 3) := by decide +kernel
theorem dd_N_about_77 : decode prog_1_method_15_code 77 = .ok (.ireturn, 1) := by decide +kernel
theorem dd_N_about_78 : decode prog_1_method_15_code 78 = .ok (.iconst (-1), 1) := by decide +kernel
theorem dd_N_about_79 : decode prog_1_method_15_code 79 = .ok (.ireturn, 1) := by decide +kernel
theorem dd_N_at_0 : decode prog_1_method_13_code 0 = .ok (.iload_n 1, 1) := by decide +kernel
theorem dd_N_at_1 : decode prog_1_method_13_code 1 = .ok (.ifCond .lt 14, 3) := by decide +kernel
theorem dd_N_at_4 : decode prog_1_method_13_code 4 = .ok (.iload_n 1, 1) := by decide +kernel
theorem dd_N_at_5 : decode prog_1_method_13_code 5 = .ok (.aload_n 0, 1) := by decide +kernel
theorem dd_N_at_6 : decode prog_1_method_13_code 6 = .ok (.getfield 44, 3) := by decide +kernel
theorem dd_N_at_9 : decode prog_1_method_13_code 9 = .ok (.getfield 198, 3) := by decide +kernel
theorem dd_N_at_12 : decode prog_1_method_13_code 12 = .ok (.if_icmp .lt 7, 3) := by decide +kernel
theorem dd_N_at_15 : decode prog_1_method_13_code 15 = .ok (.iconst (-1), 1) := by decide +kernel
theorem dd_N_at_16 : decode prog_1_method_13_code 16 = .ok (.goto 12, 3) := by decide +kernel
theorem dd_N_at_19 : decode prog_1_method_13_code 19 = .ok (.aload_n 0, 1) := by decide +kernel
theorem dd_N_at_20 : decode prog_1_method_13_code 20 = .ok (.getfield 44, 3) := by decide +kernel
theorem dd_N_at_23 : decode prog_1_method_13_code 23 = .ok (.getfield 199, 3) := by decide +kernel
theorem dd_N_at_26 : decode prog_1_method_13_code 26 = .ok (.iload_n 1, 1) := by decide +kernel
theorem dd_N_at_27 : decode prog_1_method_13_code 27 = .ok (.baload, 1) := by decide +kernel
theorem dd_N_at_28 : decode prog_1_method_13_code 28 = .ok (.ireturn, 1) := by decide +kernel
theorem dd_N_clear_0 : decode prog_1_method_6_code 0 = .ok (.aload_n 0, 1) := by decide +kernel
theorem dd_N_clear_1 : decode prog_1_method_6_code 1 = .ok (.getfield 19, 3) := by decide +kernel
theorem dd_N_clear_4 : decode prog_1_method_6_code 4 = .ok (.iconst 0, 1) := by decide +kernel
theorem dd_N_clear_5 : decode prog_1_method_6_code 5 = .ok (.putfield 120, 3) := by decide +kernel
theorem dd_N_clear_8 : decode prog_1_method_6_code 8 = .ok (.return_, 1) := by decide +kernel
theorem dd_N_fault_0 : decode prog_1_method_10_code 0 = .ok (.iload_n 1, 1) := by decide +kernel
theorem dd_N_fault_1 : decode prog_1_method_10_code 1 = .ok (.lookupswitch 37 #[(0, 27), (1, 32)], 27) := by decide +kernel
theorem dd_N_fault_28 : decode prog_1_method_10_code 28 = .ok (.aload_n 0, 1) := by decide +kernel
theorem dd_N_fault_29 : decode prog_1_method_10_code 29 = .ok (.getfield 48, 3) := by decide +kernel
theorem dd_N_fault_32 : decode prog_1_method_10_code 32 = .ok (.ireturn, 1) := by decide +kernel
theorem dd_N_fault_33 : decode prog_1_method_10_code 33 = .ok (.aload_n 0, 1) := by decide +kernel
theorem dd_N_fault_34 : decode prog_1_method_10_code 34 = .ok (.getfield 52, 3) := by decide +kernel
theorem dd_N_fault_37 : decode prog_1_method_10_code 37 = .ok (.ireturn, 1) := by decide +kernel
theorem dd_N_fault_38 : decode prog_1_method_10_code 38 = .ok (.iconst (-1), 1) := by decide +kernel
theorem dd_N_fault_39 : decode prog_1_method_10_code 39 = .ok (.ireturn, 1) := by decide +kernel
theorem dd_N_findFault_0 : decode prog_1_method_8_code 0 = .ok (.aload_n 0, 1) := by decide +kernel
theorem dd_N_findFault_1 : decode prog_1_method_8_code 1 = .ok (.getfield 28, 3) := by decide +kernel
theorem dd_N_findFault_4 : decode prog_1_method_8_code 4 = .ok (.aload_n 0, 1) := by decide +kernel
theorem dd_N_findFault_5 : decode prog_1_method_8_code 5 = .ok (.getfield 19, 3) := by decide +kernel
theorem dd_N_findFault_8 : decode prog_1_method_8_code 8 = .ok (.getfield 145, 3) := by decide +kernel
theorem dd_N_findFault_11 : decode prog_1_method_8_code 11 = .ok (.aload_n 0, 1) := by decide +kernel
theorem dd_N_findFault_12 : decode prog_1_method_8_code 12 = .ok (.getfield 19, 3) := by decide +kernel
theorem dd_N_findFault_15 : decode prog_1_method_8_code 15 = .ok (.getfield 135, 3) := by decide +kernel
theorem dd_N_findFault_18 : decode prog_1_method_8_code 18 = .ok (.invokevirtual 149, 3) := by decide +kernel
theorem dd_N_findFault_21 : decode prog_1_method_8_code 21 = .ok (.istore_n 1, 1) := by decide +kernel
theorem dd_N_findFault_22 : decode prog_1_method_8_code 22 = .ok (.iload_n 1, 1) := by decide +kernel
theorem dd_N_findFault_23 : decode prog_1_method_8_code 23 = .ok (.aload_n 0, 1) := by decide +kernel
theorem dd_N_findFault_24 : decode prog_1_method_8_code 24 = .ok (.getfield 19, 3) := by decide +kernel
theorem dd_N_findFault_27 : decode prog_1_method_8_code 27 = .ok (.getfield 135, 3) := by decide +kernel
theorem dd_N_findFault_30 : decode prog_1_method_8_code 30 = .ok (.if_icmp .ge 20, 3) := by decide +kernel
theorem dd_N_findFault_33 : decode prog_1_method_8_code 33 = .ok (.aload_n 0, 1) := by decide +kernel
theorem dd_N_findFault_34 : decode prog_1_method_8_code 34 = .ok (.iconst 1, 1) := by decide +kernel
theorem dd_N_findFault_35 : decode prog_1_method_8_code 35 = .ok (.aload_n 0, 1) := by decide +kernel
theorem dd_N_findFault_36 : decode prog_1_method_8_code 36 = .ok (.getfield 19, 3) := by decide +kernel
theorem dd_N_findFault_39 : decode prog_1_method_8_code 39 = .ok (.getfield 153, 3) := by decide +kernel
theorem dd_N_findFault_42 : decode prog_1_method_8_code 42 = .ok (.iload_n 1, 1) := by decide +kernel
theorem dd_N_findFault_43 : decode prog_1_method_8_code 43 = .ok (.iaload, 1) := by decide +kernel
theorem dd_N_findFault_44 : decode prog_1_method_8_code 44 = .ok (.invokevirtual 157, 3) := by decide +kernel
theorem dd_N_findFault_47 : decode prog_1_method_8_code 47 = .ok (.goto 67, 3) := by decide +kernel
theorem dd_N_findFault_50 : decode prog_1_method_8_code 50 = .ok (.aload_n 0, 1) := by decide +kernel
theorem dd_N_findFault_51 : decode prog_1_method_8_code 51 = .ok (.getfield 19, 3) := by decide +kernel
theorem dd_N_findFault_54 : decode prog_1_method_8_code 54 = .ok (.getfield 161, 3) := by decide +kernel
theorem dd_N_findFault_57 : decode prog_1_method_8_code 57 = .ok (.iconst (-1), 1) := by decide +kernel
theorem dd_N_findFault_58 : decode prog_1_method_8_code 58 = .ok (.if_icmp .eq 18, 3) := by decide +kernel
theorem dd_N_findFault_61 : decode prog_1_method_8_code 61 = .ok (.aload_n 0, 1) := by decide +kernel
theorem dd_N_findFault_62 : decode prog_1_method_8_code 62 = .ok (.iconst 2, 1) := by decide +kernel
theorem dd_N_findFault_63 : decode prog_1_method_8_code 63 = .ok (.aload_n 0, 1) := by decide +kernel
theorem dd_N_findFault_64 : decode prog_1_method_8_code 64 = .ok (.getfield 19, 3) := by decide +kernel
theorem dd_N_findFault_67 : decode prog_1_method_8_code 67 = .ok (.getfield 161, 3) := by decide +kernel
theorem dd_N_findFault_70 : decode prog_1_method_8_code 70 = .ok (.invokevirtual 157, 3) := by decide +kernel
theorem dd_N_findFault_73 : decode prog_1_method_8_code 73 = .ok (.goto 41, 3) := by decide +kernel
theorem dd_N_findFault_76 : decode prog_1_method_8_code 76 = .ok (.aload_n 0, 1) := by decide +kernel
theorem dd_N_findFault_77 : decode prog_1_method_8_code 77 = .ok (.getfield 28, 3) := by decide +kernel
theorem dd_N_findFault_80 : decode prog_1_method_8_code 80 = .ok (.aload_n 0, 1) := by decide +kernel
theorem dd_N_findFault_81 : decode prog_1_method_8_code 81 = .ok (.getfield 19, 3) := by decide +kernel
theorem dd_N_findFault_84 : decode prog_1_method_8_code 84 = .ok (.getfield 135, 3) := by decide +kernel
theorem dd_N_findFault_87 : decode prog_1_method_8_code 87 = .ok (.invokevirtual 164, 3) := by decide +kernel
theorem dd_N_findFault_90 : decode prog_1_method_8_code 90 = .ok (.ifCond .ne 18, 3) := by decide +kernel
theorem dd_N_findFault_93 : decode prog_1_method_8_code 93 = .ok (.aload_n 0, 1) := by decide +kernel
theorem dd_N_findFault_94 : decode prog_1_method_8_code 94 = .ok (.iconst 1, 1) := by decide +kernel
theorem dd_N_findFault_95 : decode prog_1_method_8_code 95 = .ok (.aload_n 0, 1) := by decide +kernel
theorem dd_N_findFault_96 : decode prog_1_method_8_code 96 = .ok (.getfield 19, 3) := by decide +kernel
theorem dd_N_findFault_99 : decode prog_1_method_8_code 99 = .ok (.getfield 120, 3) := by decide +kernel
theorem dd_N_findFault_102 : decode prog_1_method_8_code 102 = .ok (.invokevirtual 157, 3) := by decide +kernel
theorem dd_N_findFault_105 : decode prog_1_method_8_code 105 = .ok (.goto 9, 3) := by decide +kernel
theorem dd_N_findFault_108 : decode prog_1_method_8_code 108 = .ok (.aload_n 0, 1) := by decide +kernel
theorem dd_N_findFault_109 : decode prog_1_method_8_code 109 = .ok (.iconst 0, 1) := by decide +kernel
theorem dd_N_findFault_110 : decode prog_1_method_8_code 110 = .ok (.iconst (-1), 1) := by decide +kernel
theorem dd_N_findFault_111 : decode prog_1_method_8_code 111 = .ok (.invokevirtual 157, 3) := by decide +kernel
theorem dd_N_findFault_114 : decode prog_1_method_8_code 114 = .ok (.return_, 1) := by decide +kernel
theorem dd_N_hole_0 : decode prog_1_method_2_code 0 = .ok (.iload_n 1, 1) := by decide +kernel
theorem dd_N_hole_1 : decode prog_1_method_2_code 1 = .ok (.ifCond .lt 9, 3) := by decide +kernel
theorem dd_N_hole_4 : decode prog_1_method_2_code 4 = .ok (.iload_n 1, 1) := by decide +kernel
theorem dd_N_hole_5 : decode prog_1_method_2_code 5 = .ok (.bipush 10, 2) := by decide +kernel
theorem dd_N_hole_7 : decode prog_1_method_2_code 7 = .ok (.if_icmp .le 13, 3) := by decide +kernel
theorem dd_N_hole_10 : decode prog_1_method_2_code 10 = .ok (.new 55, 3) := by decide +kernel
theorem dd_N_hole_13 : decode prog_1_method_2_code 13 = .ok (.dup, 1) := by decide +kernel
theorem dd_N_hole_14 : decode prog_1_method_2_code 14 = .ok (.ldc 57, 2) := by decide +kernel
theorem dd_N_hole_16 : decode prog_1_method_2_code 16 = .ok (.invokespecial 59, 3) := by decide +kernel
theorem dd_N_hole_19 : decode prog_1_method_2_code 19 = .ok (.athrow, 1) := by decide +kernel
theorem dd_N_hole_20 : decode prog_1_method_2_code 20 = .ok (.aload_n 0, 1) := by decide +kernel
theorem dd_N_hole_21 : decode prog_1_method_2_code 21 = .ok (.getfield 12, 3) := by decide +kernel
theorem dd_N_hole_24 : decode prog_1_method_2_code 24 = .ok (.invokevirtual 62, 3) := by decide +kernel
theorem dd_N_hole_27 : decode prog_1_method_2_code 27 = .ok (.ifCond .eq 13, 3) := by decide +kernel
theorem dd_N_hole_30 : decode prog_1_method_2_code 30 = .ok (.new 55, 3) := by decide +kernel
theorem dd_N_hole_33 : decode prog_1_method_2_code 33 = .ok (.dup, 1) := by decide +kernel
theorem dd_N_hole_34 : decode prog_1_method_2_code 34 = .ok (.ldc 66, 2) := by decide +kernel
theorem dd_N_hole_36 : decode prog_1_method_2_code 36 = .ok (.invokespecial 59, 3) := by decide +kernel
theorem dd_N_hole_39 : decode prog_1_method_2_code 39 = .ok (.athrow, 1) := by decide +kernel
theorem dd_N_hole_40 : decode prog_1_method_2_code 40 = .ok (.aload_n 0, 1) := by decide +kernel
theorem dd_N_hole_41 : decode prog_1_method_2_code 41 = .ok (.getfield 12, 3) := by decide +kernel
theorem dd_N_hole_44 : decode prog_1_method_2_code 44 = .ok (.getfield 68, 3) := by decide +kernel
theorem dd_N_hole_47 : decode prog_1_method_2_code 47 = .ok (.bipush 6, 2) := by decide +kernel
theorem dd_N_hole_49 : decode prog_1_method_2_code 49 = .ok (.if_icmp .lt 13, 3) := by decide +kernel
theorem dd_N_hole_52 : decode prog_1_method_2_code 52 = .ok (.new 71, 3) := by decide +kernel
theorem dd_N_hole_55 : decode prog_1_method_2_code 55 = .ok (.dup, 1) := by decide +kernel
theorem dd_N_hole_56 : decode prog_1_method_2_code 56 = .ok (.ldc 73, 2) := by decide +kernel
theorem dd_N_hole_58 : decode prog_1_method_2_code 58 = .ok (.invokespecial 75, 3) := by decide +kernel
theorem dd_N_hole_61 : decode prog_1_method_2_code 61 = .ok (.athrow, 1) := by decide +kernel
theorem dd_N_hole_62 : decode prog_1_method_2_code 62 = .ok (.aload_n 0, 1) := by decide +kernel
theorem dd_N_hole_63 : decode prog_1_method_2_code 63 = .ok (.getfield 12, 3) := by decide +kernel
theorem dd_N_hole_66 : decode prog_1_method_2_code 66 = .ok (.iload_n 1, 1) := by decide +kernel
theorem dd_N_hole_67 : decode prog_1_method_2_code 67 = .ok (.ldc2_w 76, 3) := by decide +kernel
theorem dd_N_hole_70 : decode prog_1_method_2_code 70 = .ok (.invokevirtual 78, 3) := by decide +kernel
theorem dd_N_hole_73 : decode prog_1_method_2_code 73 = .ok (.ireturn, 1) := by decide +kernel
theorem dd_N_isKey_0 : decode prog_1_method_14_code 0 = .ok (.lload_n 1, 1) := by decide +kernel
theorem dd_N_isKey_1 : decode prog_1_method_14_code 1 = .ok (.iload_n 3, 1) := by decide +kernel
theorem dd_N_isKey_2 : decode prog_1_method_14_code 2 = .ok (.invokestatic 82, 3) := by decide +kernel
theorem dd_N_isKey_5 : decode prog_1_method_14_code 5 = .ok (.ifCond .eq 22, 3) := by decide +kernel
theorem dd_N_isKey_8 : decode prog_1_method_14_code 8 = .ok (.aload_n 0, 1) := by decide +kernel
theorem dd_N_isKey_9 : decode prog_1_method_14_code 9 = .ok (.getfield 12, 3) := by decide +kernel
theorem dd_N_isKey_12 : decode prog_1_method_14_code 12 = .ok (.lload_n 1, 1) := by decide +kernel
theorem dd_N_isKey_13 : decode prog_1_method_14_code 13 = .ok (.iload_n 3, 1) := by decide +kernel
theorem dd_N_isKey_14 : decode prog_1_method_14_code 14 = .ok (.invokestatic 90, 3) := by decide +kernel
theorem dd_N_isKey_17 : decode prog_1_method_14_code 17 = .ok (.invokevirtual 203, 3) := by decide +kernel
theorem dd_N_isKey_20 : decode prog_1_method_14_code 20 = .ok (.ifCond .eq 7, 3) := by decide +kernel
theorem dd_N_isKey_23 : decode prog_1_method_14_code 23 = .ok (.iconst 1, 1) := by decide +kernel
theorem dd_N_isKey_24 : decode prog_1_method_14_code 24 = .ok (.goto 4, 3) := by decide +kernel
theorem dd_N_isKey_27 : decode prog_1_method_14_code 27 = .ok (.iconst 0, 1) := by decide +kernel
theorem dd_N_isKey_28 : decode prog_1_method_14_code 28 = .ok (.ireturn, 1) := by decide +kernel
theorem dd_N_node_0 : decode prog_1_method_11_code 0 = .ok (.iload_n 1, 1) := by decide +kernel
theorem dd_N_node_1 : decode prog_1_method_11_code 1 = .ok (.ifCond .lt 14, 3) := by decide +kernel
theorem dd_N_node_4 : decode prog_1_method_11_code 4 = .ok (.iload_n 1, 1) := by decide +kernel
theorem dd_N_node_5 : decode prog_1_method_11_code 5 = .ok (.aload_n 0, 1) := by decide +kernel
theorem dd_N_node_6 : decode prog_1_method_11_code 6 = .ok (.getfield 37, 3) := by decide +kernel
theorem dd_N_node_9 : decode prog_1_method_11_code 9 = .ok (.getfield 168, 3) := by decide +kernel
theorem dd_N_node_12 : decode prog_1_method_11_code 12 = .ok (.if_icmp .lt 13, 3) := by decide +kernel
theorem dd_N_node_15 : decode prog_1_method_11_code 15 = .ok (.new 169, 3) := by decide +kernel
theorem dd_N_node_18 : decode prog_1_method_11_code 18 = .ok (.dup, 1) := by decide +kernel
theorem dd_N_node_19 : decode prog_1_method_11_code 19 = .ok (.ldc 171, 2) := by decide +kernel
theorem dd_N_node_21 : decode prog_1_method_11_code 21 = .ok (.invokespecial 173, 3) := by decide +kernel
theorem dd_N_node_24 : decode prog_1_method_11_code 24 = .ok (.athrow, 1) := by decide +kernel
theorem dd_N_node_25 : decode prog_1_method_11_code 25 = .ok (.iload_n 2, 1) := by decide +kernel
theorem dd_N_node_26 : decode prog_1_method_11_code 26 = .ok (.tableswitch 94 0 4 #[34, 46, 56, 74, 84], 34) := by decide +kernel
theorem dd_N_node_60 : decode prog_1_method_11_code 60 = .ok (.aload_n 0, 1) := by decide +kernel
theorem dd_N_node_61 : decode prog_1_method_11_code 61 = .ok (.getfield 37, 3) := by decide +kernel
theorem dd_N_node_64 : decode prog_1_method_11_code 64 = .ok (.getfield 174, 3) := by decide +kernel
theorem dd_N_node_67 : decode prog_1_method_11_code 67 = .ok (.iload_n 1, 1) := by decide +kernel
theorem dd_N_node_68 : decode prog_1_method_11_code 68 = .ok (.iaload, 1) := by decide +kernel
theorem dd_N_node_69 : decode prog_1_method_11_code 69 = .ok (.iconst 2, 1) := by decide +kernel
theorem dd_N_node_70 : decode prog_1_method_11_code 70 = .ok (.isub, 1) := by decide +kernel
theorem dd_N_node_71 : decode prog_1_method_11_code 71 = .ok (.ireturn, 1) := by decide +kernel
theorem dd_N_node_72 : decode prog_1_method_11_code 72 = .ok (.aload_n 0, 1) := by decide +kernel
theorem dd_N_node_73 : decode prog_1_method_11_code 73 = .ok (.getfield 37, 3) := by decide +kernel
theorem dd_N_node_76 : decode prog_1_method_11_code 76 = .ok (.getfield 176, 3) := by decide +kernel
theorem dd_N_node_79 : decode prog_1_method_11_code 79 = .ok (.iload_n 1, 1) := by decide +kernel
theorem dd_N_node_80 : decode prog_1_method_11_code 80 = .ok (.iaload, 1) := by decide +kernel
theorem dd_N_node_81 : decode prog_1_method_11_code 81 = .ok (.ireturn, 1) := by decide +kernel
theorem dd_N_node_82 : decode prog_1_method_11_code 82 = .ok (.aload_n 0, 1) := by decide +kernel
theorem dd_N_node_83 : decode prog_1_method_11_code 83 = .ok (.getfield 19, 3) := by decide +kernel
theorem dd_N_node_86 : decode prog_1_method_11_code 86 = .ok (.getfield 153, 3) := by decide +kernel
theorem dd_N_node_89 : decode prog_1_method_11_code 89 = .ok (.aload_n 0, 1) := by decide +kernel
theorem dd_N_node_90 : decode prog_1_method_11_code 90 = .ok (.getfield 37, 3) := by decide +kernel
theorem dd_N_node_93 : decode prog_1_method_11_code 93 = .ok (.getfield 179, 3) := by decide +kernel
theorem dd_N_node_96 : decode prog_1_method_11_code 96 = .ok (.iload_n 1, 1) := by decide +kernel
theorem dd_N_node_97 : decode prog_1_method_11_code 97 = .ok (.iaload, 1) := by decide +kernel
theorem dd_N_node_98 : decode prog_1_method_11_code 98 = .ok (.iaload, 1) := by decide +kernel
theorem dd_N_node_99 : decode prog_1_method_11_code 99 = .ok (.ireturn, 1) := by decide +kernel
theorem dd_N_node_100 : decode prog_1_method_11_code 100 = .ok (.aload_n 0, 1) := by decide +kernel
theorem dd_N_node_101 : decode prog_1_method_11_code 101 = .ok (.getfield 37, 3) := by decide +kernel
theorem dd_N_node_104 : decode prog_1_method_11_code 104 = .ok (.getfield 182, 3) := by decide +kernel
theorem dd_N_node_107 : decode prog_1_method_11_code 107 = .ok (.iload_n 1, 1) := by decide +kernel
theorem dd_N_node_108 : decode prog_1_method_11_code 108 = .ok (.iaload, 1) := by decide +kernel
theorem dd_N_node_109 : decode prog_1_method_11_code 109 = .ok (.ireturn, 1) := by decide +kernel
theorem dd_N_node_110 : decode prog_1_method_11_code 110 = .ok (.aload_n 0, 1) := by decide +kernel
theorem dd_N_node_111 : decode prog_1_method_11_code 111 = .ok (.getfield 37, 3) := by decide +kernel
theorem dd_N_node_114 : decode prog_1_method_11_code 114 = .ok (.getfield 185, 3) := by decide +kernel
theorem dd_N_node_117 : decode prog_1_method_11_code 117 = .ok (.iload_n 1, 1) := by decide +kernel
theorem dd_N_node_118 : decode prog_1_method_11_code 118 = .ok (.iaload, 1) := by decide +kernel
theorem dd_N_node_119 : decode prog_1_method_11_code 119 = .ok (.ireturn, 1) := by decide +kernel
theorem dd_N_node_120 : decode prog_1_method_11_code 120 = .ok (.bipush (-3), 2) := by decide +kernel
theorem dd_N_node_122 : decode prog_1_method_11_code 122 = .ok (.ireturn, 1) := by decide +kernel
theorem dd_N_notation_0 : decode prog_1_method_4_code 0 = .ok (.iload_n 1, 1) := by decide +kernel
theorem dd_N_notation_1 : decode prog_1_method_4_code 1 = .ok (.ifCond .lt 19, 3) := by decide +kernel
theorem dd_N_notation_4 : decode prog_1_method_4_code 4 = .ok (.iload_n 1, 1) := by decide +kernel
theorem dd_N_notation_5 : decode prog_1_method_4_code 5 = .ok (.bipush 9, 2) := by decide +kernel
theorem dd_N_notation_7 : decode prog_1_method_4_code 7 = .ok (.if_icmp .gt 13, 3) := by decide +kernel
theorem dd_N_notation_10 : decode prog_1_method_4_code 10 = .ok (.aload_n 0, 1) := by decide +kernel
theorem dd_N_notation_11 : decode prog_1_method_4_code 11 = .ok (.getfield 12, 3) := by decide +kernel
theorem dd_N_notation_14 : decode prog_1_method_4_code 14 = .ok (.invokevirtual 100, 3) := by decide +kernel
theorem dd_N_notation_17 : decode prog_1_method_4_code 17 = .ok (.ifCond .ne 20, 3) := by decide +kernel
theorem dd_N_notation_20 : decode prog_1_method_4_code 20 = .ok (.aload_n 0, 1) := by decide +kernel
theorem dd_N_notation_21 : decode prog_1_method_4_code 21 = .ok (.getfield 12, 3) := by decide +kernel
theorem dd_N_notation_24 : decode prog_1_method_4_code 24 = .ok (.invokevirtual 103, 3) := by decide +kernel
theorem dd_N_notation_27 : decode prog_1_method_4_code 27 = .ok (.new 55, 3) := by decide +kernel
theorem dd_N_notation_30 : decode prog_1_method_4_code 30 = .ok (.dup, 1) := by decide +kernel
theorem dd_N_notation_31 : decode prog_1_method_4_code 31 = .ok (.ldc 106, 2) := by decide +kernel
theorem dd_N_notation_33 : decode prog_1_method_4_code 33 = .ok (.invokespecial 59, 3) := by decide +kernel
theorem dd_N_notation_36 : decode prog_1_method_4_code 36 = .ok (.athrow, 1) := by decide +kernel
theorem dd_N_notation_37 : decode prog_1_method_4_code 37 = .ok (.aload_n 0, 1) := by decide +kernel
theorem dd_N_notation_38 : decode prog_1_method_4_code 38 = .ok (.getfield 12, 3) := by decide +kernel
theorem dd_N_notation_41 : decode prog_1_method_4_code 41 = .ok (.getfield 108, 3) := by decide +kernel
theorem dd_N_notation_44 : decode prog_1_method_4_code 44 = .ok (.bipush 14, 2) := by decide +kernel
theorem dd_N_notation_46 : decode prog_1_method_4_code 46 = .ok (.if_icmp .lt 13, 3) := by decide +kernel
theorem dd_N_notation_49 : decode prog_1_method_4_code 49 = .ok (.new 71, 3) := by decide +kernel
theorem dd_N_notation_52 : decode prog_1_method_4_code 52 = .ok (.dup, 1) := by decide +kernel
theorem dd_N_notation_53 : decode prog_1_method_4_code 53 = .ok (.ldc 111, 2) := by decide +kernel
theorem dd_N_notation_55 : decode prog_1_method_4_code 55 = .ok (.invokespecial 75, 3) := by decide +kernel
theorem dd_N_notation_58 : decode prog_1_method_4_code 58 = .ok (.athrow, 1) := by decide +kernel
theorem dd_N_notation_59 : decode prog_1_method_4_code 59 = .ok (.aload_n 0, 1) := by decide +kernel
theorem dd_N_notation_60 : decode prog_1_method_4_code 60 = .ok (.getfield 37, 3) := by decide +kernel
theorem dd_N_notation_63 : decode prog_1_method_4_code 63 = .ok (.invokevirtual 113, 3) := by decide +kernel
theorem dd_N_notation_66 : decode prog_1_method_4_code 66 = .ok (.aload_n 0, 1) := by decide +kernel
theorem dd_N_notation_67 : decode prog_1_method_4_code 67 = .ok (.getfield 12, 3) := by decide +kernel
theorem dd_N_notation_70 : decode prog_1_method_4_code 70 = .ok (.iload_n 1, 1) := by decide +kernel
theorem dd_N_notation_71 : decode prog_1_method_4_code 71 = .ok (.invokevirtual 116, 3) := by decide +kernel
theorem dd_N_notation_74 : decode prog_1_method_4_code 74 = .ok (.iconst 2, 1) := by decide +kernel
theorem dd_N_notation_75 : decode prog_1_method_4_code 75 = .ok (.isub, 1) := by decide +kernel
theorem dd_N_notation_76 : decode prog_1_method_4_code 76 = .ok (.ireturn, 1) := by decide +kernel
theorem dd_N_noteFault_0 : decode prog_1_method_9_code 0 = .ok (.aload_n 0, 1) := by decide +kernel
theorem dd_N_noteFault_1 : decode prog_1_method_9_code 1 = .ok (.iload_n 1, 1) := by decide +kernel
theorem dd_N_noteFault_2 : decode prog_1_method_9_code 2 = .ok (.putfield 48, 3) := by decide +kernel
theorem dd_N_noteFault_5 : decode prog_1_method_9_code 5 = .ok (.aload_n 0, 1) := by decide +kernel
theorem dd_N_noteFault_6 : decode prog_1_method_9_code 6 = .ok (.iload_n 2, 1) := by decide +kernel
theorem dd_N_noteFault_7 : decode prog_1_method_9_code 7 = .ok (.putfield 52, 3) := by decide +kernel
theorem dd_N_noteFault_10 : decode prog_1_method_9_code 10 = .ok (.return_, 1) := by decide +kernel
theorem dd_N_print_0 : decode prog_1_method_12_code 0 = .ok (.aload_n 0, 1) := by decide +kernel
theorem dd_N_print_1 : decode prog_1_method_12_code 1 = .ok (.getfield 37, 3) := by decide +kernel
theorem dd_N_print_4 : decode prog_1_method_12_code 4 = .ok (.getfield 168, 3) := by decide +kernel
theorem dd_N_print_7 : decode prog_1_method_12_code 7 = .ok (.ifCond .ne 13, 3) := by decide +kernel
theorem dd_N_print_10 : decode prog_1_method_12_code 10 = .ok (.new 169, 3) := by decide +kernel
theorem dd_N_print_13 : decode prog_1_method_12_code 13 = .ok (.dup, 1) := by decide +kernel
theorem dd_N_print_14 : decode prog_1_method_12_code 14 = .ok (.ldc 188, 2) := by decide +kernel
theorem dd_N_print_16 : decode prog_1_method_12_code 16 = .ok (.invokespecial 173, 3) := by decide +kernel
theorem dd_N_print_19 : decode prog_1_method_12_code 19 = .ok (.athrow, 1) := by decide +kernel
theorem dd_N_print_20 : decode prog_1_method_12_code 20 = .ok (.aload_n 0, 1) := by decide +kernel
theorem dd_N_print_21 : decode prog_1_method_12_code 21 = .ok (.getfield 44, 3) := by decide +kernel
theorem dd_N_print_24 : decode prog_1_method_12_code 24 = .ok (.aload_n 0, 1) := by decide +kernel
theorem dd_N_print_25 : decode prog_1_method_12_code 25 = .ok (.getfield 19, 3) := by decide +kernel
theorem dd_N_print_28 : decode prog_1_method_12_code 28 = .ok (.aload_n 0, 1) := by decide +kernel
theorem dd_N_print_29 : decode prog_1_method_12_code 29 = .ok (.getfield 37, 3) := by decide +kernel
theorem dd_N_print_32 : decode prog_1_method_12_code 32 = .ok (.invokevirtual 190, 3) := by decide +kernel
theorem dd_N_print_35 : decode prog_1_method_12_code 35 = .ok (.invokevirtual 194, 3) := by decide +kernel
theorem dd_N_print_38 : decode prog_1_method_12_code 38 = .ok (.aload_n 0, 1) := by decide +kernel
theorem dd_N_print_39 : decode prog_1_method_12_code 39 = .ok (.getfield 44, 3) := by decide +kernel
theorem dd_N_print_42 : decode prog_1_method_12_code 42 = .ok (.getfield 198, 3) := by decide +kernel
theorem dd_N_print_45 : decode prog_1_method_12_code 45 = .ok (.ireturn, 1) := by decide +kernel
theorem dd_N_put_0 : decode prog_1_method_5_code 0 = .ok (.iload_n 3, 1) := by decide +kernel
theorem dd_N_put_1 : decode prog_1_method_5_code 1 = .ok (.iconst 1, 1) := by decide +kernel
theorem dd_N_put_2 : decode prog_1_method_5_code 2 = .ok (.if_icmp .lt 24, 3) := by decide +kernel
theorem dd_N_put_5 : decode prog_1_method_5_code 5 = .ok (.iload_n 3, 1) := by decide +kernel
theorem dd_N_put_6 : decode prog_1_method_5_code 6 = .ok (.bipush 8, 2) := by decide +kernel
theorem dd_N_put_8 : decode prog_1_method_5_code 8 = .ok (.if_icmp .gt 18, 3) := by decide +kernel
theorem dd_N_put_11 : decode prog_1_method_5_code 11 = .ok (.iload_n 3, 1) := by decide +kernel
theorem dd_N_put_12 : decode prog_1_method_5_code 12 = .ok (.sipush 200, 3) := by decide +kernel
theorem dd_N_put_15 : decode prog_1_method_5_code 15 = .ok (.aload_n 0, 1) := by decide +kernel
theorem dd_N_put_16 : decode prog_1_method_5_code 16 = .ok (.getfield 19, 3) := by decide +kernel
theorem dd_N_put_19 : decode prog_1_method_5_code 19 = .ok (.getfield 120, 3) := by decide +kernel
theorem dd_N_put_22 : decode prog_1_method_5_code 22 = .ok (.isub, 1) := by decide +kernel
theorem dd_N_put_23 : decode prog_1_method_5_code 23 = .ok (.if_icmp .le 5, 3) := by decide +kernel
theorem dd_N_put_26 : decode prog_1_method_5_code 26 = .ok (.iconst 0, 1) := by decide +kernel
theorem dd_N_put_27 : decode prog_1_method_5_code 27 = .ok (.ireturn, 1) := by decide +kernel
theorem dd_N_put_28 : decode prog_1_method_5_code 28 = .ok (.aload_n 0, 1) := by decide +kernel
theorem dd_N_put_29 : decode prog_1_method_5_code 29 = .ok (.getfield 19, 3) := by decide +kernel
theorem dd_N_put_32 : decode prog_1_method_5_code 32 = .ok (.lload_n 1, 1) := by decide +kernel
theorem dd_N_put_33 : decode prog_1_method_5_code 33 = .ok (.iload_n 3, 1) := by decide +kernel
theorem dd_N_put_34 : decode prog_1_method_5_code 34 = .ok (.invokevirtual 123, 3) := by decide +kernel
theorem dd_N_put_37 : decode prog_1_method_5_code 37 = .ok (.iconst 1, 1) := by decide +kernel
theorem dd_N_put_38 : decode prog_1_method_5_code 38 = .ok (.ireturn, 1) := by decide +kernel
theorem dd_N_read_0 : decode prog_1_method_7_code 0 = .ok (.aload_n 0, 1) := by decide +kernel
theorem dd_N_read_1 : decode prog_1_method_7_code 1 = .ok (.getfield 37, 3) := by decide +kernel
theorem dd_N_read_4 : decode prog_1_method_7_code 4 = .ok (.invokevirtual 113, 3) := by decide +kernel
theorem dd_N_read_7 : decode prog_1_method_7_code 7 = .ok (.aload_n 0, 1) := by decide +kernel
theorem dd_N_read_8 : decode prog_1_method_7_code 8 = .ok (.getfield 19, 3) := by decide +kernel
theorem dd_N_read_11 : decode prog_1_method_7_code 11 = .ok (.aload_n 0, 1) := by decide +kernel
theorem dd_N_read_12 : decode prog_1_method_7_code 12 = .ok (.getfield 12, 3) := by decide +kernel
theorem dd_N_read_15 : decode prog_1_method_7_code 15 = .ok (.invokevirtual 127, 3) := by decide +kernel
theorem dd_N_read_18 : decode prog_1_method_7_code 18 = .ok (.aload_n 0, 1) := by decide +kernel
theorem dd_N_read_19 : decode prog_1_method_7_code 19 = .ok (.invokevirtual 130, 3) := by decide +kernel
theorem dd_N_read_22 : decode prog_1_method_7_code 22 = .ok (.aload_n 0, 1) := by decide +kernel
theorem dd_N_read_23 : decode prog_1_method_7_code 23 = .ok (.getfield 48, 3) := by decide +kernel
theorem dd_N_read_26 : decode prog_1_method_7_code 26 = .ok (.ifCond .eq 13, 3) := by decide +kernel
theorem dd_N_read_29 : decode prog_1_method_7_code 29 = .ok (.new 55, 3) := by decide +kernel
theorem dd_N_read_32 : decode prog_1_method_7_code 32 = .ok (.dup, 1) := by decide +kernel
theorem dd_N_read_33 : decode prog_1_method_7_code 33 = .ok (.ldc 133, 2) := by decide +kernel
theorem dd_N_read_35 : decode prog_1_method_7_code 35 = .ok (.invokespecial 59, 3) := by decide +kernel
theorem dd_N_read_38 : decode prog_1_method_7_code 38 = .ok (.athrow, 1) := by decide +kernel
theorem dd_N_read_39 : decode prog_1_method_7_code 39 = .ok (.aload_n 0, 1) := by decide +kernel
theorem dd_N_read_40 : decode prog_1_method_7_code 40 = .ok (.getfield 28, 3) := by decide +kernel
theorem dd_N_read_43 : decode prog_1_method_7_code 43 = .ok (.aload_n 0, 1) := by decide +kernel
theorem dd_N_read_44 : decode prog_1_method_7_code 44 = .ok (.getfield 19, 3) := by decide +kernel
theorem dd_N_read_47 : decode prog_1_method_7_code 47 = .ok (.getfield 135, 3) := by decide +kernel
theorem dd_N_read_50 : decode prog_1_method_7_code 50 = .ok (.invokevirtual 138, 3) := by decide +kernel
theorem dd_N_read_53 : decode prog_1_method_7_code 53 = .ok (.istore_n 1, 1) := by decide +kernel
theorem dd_N_read_54 : decode prog_1_method_7_code 54 = .ok (.iload_n 1, 1) := by decide +kernel
theorem dd_N_read_55 : decode prog_1_method_7_code 55 = .ok (.iconst 1, 1) := by decide +kernel
theorem dd_N_read_56 : decode prog_1_method_7_code 56 = .ok (.if_icmp .ne 17, 3) := by decide +kernel
theorem dd_N_read_59 : decode prog_1_method_7_code 59 = .ok (.aload_n 0, 1) := by decide +kernel
theorem dd_N_read_60 : decode prog_1_method_7_code 60 = .ok (.getfield 37, 3) := by decide +kernel
theorem dd_N_read_63 : decode prog_1_method_7_code 63 = .ok (.aload_n 0, 1) := by decide +kernel
theorem dd_N_read_64 : decode prog_1_method_7_code 64 = .ok (.getfield 19, 3) := by decide +kernel
theorem dd_N_read_67 : decode prog_1_method_7_code 67 = .ok (.getfield 135, 3) := by decide +kernel
theorem dd_N_read_70 : decode prog_1_method_7_code 70 = .ok (.invokevirtual 141, 3) := by decide +kernel
theorem dd_N_read_73 : decode prog_1_method_7_code 73 = .ok (.iload_n 1, 1) := by decide +kernel
theorem dd_N_read_74 : decode prog_1_method_7_code 74 = .ok (.ireturn, 1) := by decide +kernel
theorem dd_N_word_0 : decode prog_1_method_3_code 0 = .ok (.lload_n 1, 1) := by decide +kernel
theorem dd_N_word_1 : decode prog_1_method_3_code 1 = .ok (.iload_n 3, 1) := by decide +kernel
theorem dd_N_word_2 : decode prog_1_method_3_code 2 = .ok (.invokestatic 82, 3) := by decide +kernel
theorem dd_N_word_5 : decode prog_1_method_3_code 5 = .ok (.ifCond .ne 13, 3) := by decide +kernel
theorem dd_N_word_8 : decode prog_1_method_3_code 8 = .ok (.new 55, 3) := by decide +kernel
theorem dd_N_word_11 : decode prog_1_method_3_code 11 = .ok (.dup, 1) := by decide +kernel
theorem dd_N_word_12 : decode prog_1_method_3_code 12 = .ok (.ldc 88, 2) := by decide +kernel
theorem dd_N_word_14 : decode prog_1_method_3_code 14 = .ok (.invokespecial 59, 3) := by decide +kernel
theorem dd_N_word_17 : decode prog_1_method_3_code 17 = .ok (.athrow, 1) := by decide +kernel
theorem dd_N_word_18 : decode prog_1_method_3_code 18 = .ok (.lload_n 1, 1) := by decide +kernel
theorem dd_N_word_19 : decode prog_1_method_3_code 19 = .ok (.iload_n 3, 1) := by decide +kernel
theorem dd_N_word_20 : decode prog_1_method_3_code 20 = .ok (.invokestatic 90, 3) := by decide +kernel
theorem dd_N_word_23 : decode prog_1_method_3_code 23 = .ok (.lstore 4, 2) := by decide +kernel
theorem dd_N_word_25 : decode prog_1_method_3_code 25 = .ok (.lload 4, 2) := by decide +kernel
theorem dd_N_word_27 : decode prog_1_method_3_code 27 = .ok (.ldc2_w 94, 3) := by decide +kernel
theorem dd_N_word_30 : decode prog_1_method_3_code 30 = .ok (.lcmp, 1) := by decide +kernel
theorem dd_N_word_31 : decode prog_1_method_3_code 31 = .ok (.ifCond .eq 12, 3) := by decide +kernel
theorem dd_N_word_34 : decode prog_1_method_3_code 34 = .ok (.lload 4, 2) := by decide +kernel
theorem dd_N_word_36 : decode prog_1_method_3_code 36 = .ok (.ldc2_w 96, 3) := by decide +kernel
theorem dd_N_word_39 : decode prog_1_method_3_code 39 = .ok (.lcmp, 1) := by decide +kernel
theorem dd_N_word_40 : decode prog_1_method_3_code 40 = .ok (.ifCond .ne 13, 3) := by decide +kernel
theorem dd_N_word_43 : decode prog_1_method_3_code 43 = .ok (.new 55, 3) := by decide +kernel
theorem dd_N_word_46 : decode prog_1_method_3_code 46 = .ok (.dup, 1) := by decide +kernel
theorem dd_N_word_47 : decode prog_1_method_3_code 47 = .ok (.ldc 98, 2) := by decide +kernel
theorem dd_N_word_49 : decode prog_1_method_3_code 49 = .ok (.invokespecial 59, 3) := by decide +kernel
theorem dd_N_word_52 : decode prog_1_method_3_code 52 = .ok (.athrow, 1) := by decide +kernel
theorem dd_N_word_53 : decode prog_1_method_3_code 53 = .ok (.aload_n 0, 1) := by decide +kernel
theorem dd_N_word_54 : decode prog_1_method_3_code 54 = .ok (.getfield 12, 3) := by decide +kernel
theorem dd_N_word_57 : decode prog_1_method_3_code 57 = .ok (.getfield 68, 3) := by decide +kernel
theorem dd_N_word_60 : decode prog_1_method_3_code 60 = .ok (.bipush 6, 2) := by decide +kernel
theorem dd_N_word_62 : decode prog_1_method_3_code 62 = .ok (.if_icmp .lt 13, 3) := by decide +kernel
theorem dd_N_word_65 : decode prog_1_method_3_code 65 = .ok (.new 71, 3) := by decide +kernel
theorem dd_N_word_68 : decode prog_1_method_3_code 68 = .ok (.dup, 1) := by decide +kernel
theorem dd_N_word_69 : decode prog_1_method_3_code 69 = .ok (.ldc 73, 2) := by decide +kernel
theorem dd_N_word_71 : decode prog_1_method_3_code 71 = .ok (.invokespecial 75, 3) := by decide +kernel
theorem dd_N_word_74 : decode prog_1_method_3_code 74 = .ok (.athrow, 1) := by decide +kernel
theorem dd_N_word_75 : decode prog_1_method_3_code 75 = .ok (.aload_n 0, 1) := by decide +kernel
theorem dd_N_word_76 : decode prog_1_method_3_code 76 = .ok (.getfield 12, 3) := by decide +kernel
theorem dd_N_word_79 : decode prog_1_method_3_code 79 = .ok (.iconst (-1), 1) := by decide +kernel
theorem dd_N_word_80 : decode prog_1_method_3_code 80 = .ok (.lload 4, 2) := by decide +kernel
theorem dd_N_word_82 : decode prog_1_method_3_code 82 = .ok (.invokevirtual 78, 3) := by decide +kernel
theorem dd_N_word_85 : decode prog_1_method_3_code 85 = .ok (.ireturn, 1) := by decide +kernel
