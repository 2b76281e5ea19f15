theorem dd_Grammar_usedDots_0 : decode prog_3_method_2_code 0 = .ok (.aload_n 0, 1) := by decide +kernel
theorem dd_Grammar_usedDots_1 : decode prog_3_method_2_code 1 = .ok (.getfield 25, 3) := by decide +kernel
theorem dd_Grammar_usedDots_4 : decode prog_3_method_2_code 4 = .ok (.bipush 7, 2) := by decide +kernel
theorem dd_Grammar_usedDots_6 : decode prog_3_method_2_code 6 = .ok (.imul, 1) := by decide +kernel
theorem dd_Grammar_usedDots_7 : decode prog_3_method_2_code 7 = .ok (.ireturn, 1) := by decide +kernel
theorem dd_Grammar_dropHand_0 : decode prog_3_method_7_code 0 = .ok (.aload_n 0, 1) := by decide +kernel
theorem dd_Grammar_dropHand_1 : decode prog_3_method_7_code 1 = .ok (.getfield 9, 3) := by decide +kernel
theorem dd_Grammar_dropHand_4 : decode prog_3_method_7_code 4 = .ok (.aload_n 0, 1) := by decide +kernel
theorem dd_Grammar_dropHand_5 : decode prog_3_method_7_code 5 = .ok (.invokevirtual 47, 3) := by decide +kernel
theorem dd_Grammar_dropHand_8 : decode prog_3_method_7_code 8 = .ok (.aload_n 0, 1) := by decide +kernel
theorem dd_Grammar_dropHand_9 : decode prog_3_method_7_code 9 = .ok (.invokevirtual 47, 3) := by decide +kernel
theorem dd_Grammar_dropHand_12 : decode prog_3_method_7_code 12 = .ok (.bipush 7, 2) := by decide +kernel
theorem dd_Grammar_dropHand_14 : decode prog_3_method_7_code 14 = .ok (.iadd, 1) := by decide +kernel
theorem dd_Grammar_dropHand_15 : decode prog_3_method_7_code 15 = .ok (.iconst (-1), 1) := by decide +kernel
theorem dd_Grammar_dropHand_16 : decode prog_3_method_7_code 16 = .ok (.invokestatic 51, 3) := by decide +kernel
theorem dd_Grammar_dropHand_19 : decode prog_3_method_7_code 19 = .ok (.aload_n 0, 1) := by decide +kernel
theorem dd_Grammar_dropHand_20 : decode prog_3_method_7_code 20 = .ok (.getfield 15, 3) := by decide +kernel
theorem dd_Grammar_dropHand_23 : decode prog_3_method_7_code 23 = .ok (.aload_n 0, 1) := by decide +kernel
theorem dd_Grammar_dropHand_24 : decode prog_3_method_7_code 24 = .ok (.invokevirtual 47, 3) := by decide +kernel
theorem dd_Grammar_dropHand_27 : decode prog_3_method_7_code 27 = .ok (.aload_n 0, 1) := by decide +kernel
theorem dd_Grammar_dropHand_28 : decode prog_3_method_7_code 28 = .ok (.invokevirtual 47, 3) := by decide +kernel
theorem dd_Grammar_dropHand_31 : decode prog_3_method_7_code 31 = .ok (.bipush 7, 2) := by decide +kernel
theorem dd_Grammar_dropHand_33 : decode prog_3_method_7_code 33 = .ok (.iadd, 1) := by decide +kernel
theorem dd_Grammar_dropHand_34 : decode prog_3_method_7_code 34 = .ok (.ldc2_w 38, 3) := by decide +kernel
theorem dd_Grammar_dropHand_37 : decode prog_3_method_7_code 37 = .ok (.invokestatic 54, 3) := by decide +kernel
theorem dd_Grammar_dropHand_40 : decode prog_3_method_7_code 40 = .ok (.aload_n 0, 1) := by decide +kernel
theorem dd_Grammar_dropHand_41 : decode prog_3_method_7_code 41 = .ok (.iconst 0, 1) := by decide +kernel
theorem dd_Grammar_dropHand_42 : decode prog_3_method_7_code 42 = .ok (.putfield 29, 3) := by decide +kernel
theorem dd_Grammar_dropHand_45 : decode prog_3_method_7_code 45 = .ok (.return_, 1) := by decide +kernel
theorem dd_Grammar_lastDot_0 : decode prog_3_method_3_code 0 = .ok (.iload_n 1, 1) := by decide +kernel
theorem dd_Grammar_lastDot_1 : decode prog_3_method_3_code 1 = .ok (.bipush 7, 2) := by decide +kernel
theorem dd_Grammar_lastDot_3 : decode prog_3_method_3_code 3 = .ok (.imul, 1) := by decide +kernel
theorem dd_Grammar_lastDot_4 : decode prog_3_method_3_code 4 = .ok (.aload_n 0, 1) := by decide +kernel
theorem dd_Grammar_lastDot_5 : decode prog_3_method_3_code 5 = .ok (.getfield 22, 3) := by decide +kernel
theorem dd_Grammar_lastDot_8 : decode prog_3_method_3_code 8 = .ok (.iload_n 1, 1) := by decide +kernel
theorem dd_Grammar_lastDot_9 : decode prog_3_method_3_code 9 = .ok (.iaload, 1) := by decide +kernel
theorem dd_Grammar_lastDot_10 : decode prog_3_method_3_code 10 = .ok (.iadd, 1) := by decide +kernel
theorem dd_Grammar_lastDot_11 : decode prog_3_method_3_code 11 = .ok (.ireturn, 1) := by decide +kernel
theorem dd_Grammar_handEndsInHole_0 : decode prog_3_method_4_code 0 = .ok (.aload_n 0, 1) := by decide +kernel
theorem dd_Grammar_handEndsInHole_1 : decode prog_3_method_4_code 1 = .ok (.getfield 29, 3) := by decide +kernel
theorem dd_Grammar_handEndsInHole_4 : decode prog_3_method_4_code 4 = .ok (.ifCond .le 27, 3) := by decide +kernel
theorem dd_Grammar_handEndsInHole_7 : decode prog_3_method_4_code 7 = .ok (.aload_n 0, 1) := by decide +kernel
theorem dd_Grammar_handEndsInHole_8 : decode prog_3_method_4_code 8 = .ok (.getfield 9, 3) := by decide +kernel
theorem dd_Grammar_handEndsInHole_11 : decode prog_3_method_4_code 11 = .ok (.aload_n 0, 1) := by decide +kernel
theorem dd_Grammar_handEndsInHole_12 : decode prog_3_method_4_code 12 = .ok (.invokevirtual 47, 3) := by decide +kernel
theorem dd_Grammar_handEndsInHole_15 : decode prog_3_method_4_code 15 = .ok (.aload_n 0, 1) := by decide +kernel
theorem dd_Grammar_handEndsInHole_16 : decode prog_3_method_4_code 16 = .ok (.getfield 29, 3) := by decide +kernel
theorem dd_Grammar_handEndsInHole_19 : decode prog_3_method_4_code 19 = .ok (.iadd, 1) := by decide +kernel
theorem dd_Grammar_handEndsInHole_20 : decode prog_3_method_4_code 20 = .ok (.iconst 1, 1) := by decide +kernel
theorem dd_Grammar_handEndsInHole_21 : decode prog_3_method_4_code 21 = .ok (.isub, 1) := by decide +kernel
theorem dd_Grammar_handEndsInHole_22 : decode prog_3_method_4_code 22 = .ok (.iaload, 1) := by decide +kernel
theorem dd_Grammar_handEndsInHole_23 : decode prog_3_method_4_code 23 = .ok (.iconst (-1), 1) := by decide +kernel
theorem dd_Grammar_handEndsInHole_24 : decode prog_3_method_4_code 24 = .ok (.if_icmp .eq 7, 3) := by decide +kernel
theorem dd_Grammar_handEndsInHole_27 : decode prog_3_method_4_code 27 = .ok (.iconst 1, 1) := by decide +kernel
theorem dd_Grammar_handEndsInHole_28 : decode prog_3_method_4_code 28 = .ok (.goto 4, 3) := by decide +kernel
theorem dd_Grammar_handEndsInHole_31 : decode prog_3_method_4_code 31 = .ok (.iconst 0, 1) := by decide +kernel
theorem dd_Grammar_handEndsInHole_32 : decode prog_3_method_4_code 32 = .ok (.ireturn, 1) := by decide +kernel
theorem dd_Grammar_handHasWord_0 : decode prog_3_method_5_code 0 = .ok (.iconst 0, 1) := by decide +kernel
theorem dd_Grammar_handHasWord_1 : decode prog_3_method_5_code 1 = .ok (.istore_n 1, 1) := by decide +kernel
theorem dd_Grammar_handHasWord_2 : decode prog_3_method_5_code 2 = .ok (.iload_n 1, 1) := by decide +kernel
theorem dd_Grammar_handHasWord_3 : decode prog_3_method_5_code 3 = .ok (.aload_n 0, 1) := by decide +kernel
theorem dd_Grammar_handHasWord_4 : decode prog_3_method_5_code 4 = .ok (.getfield 29, 3) := by decide +kernel
theorem dd_Grammar_handHasWord_7 : decode prog_3_method_5_code 7 = .ok (.if_icmp .ge 29, 3) := by decide +kernel
theorem dd_Grammar_handHasWord_10 : decode prog_3_method_5_code 10 = .ok (.aload_n 0, 1) := by decide +kernel
theorem dd_Grammar_handHasWord_11 : decode prog_3_method_5_code 11 = .ok (.getfield 15, 3) := by decide +kernel
theorem dd_Grammar_handHasWord_14 : decode prog_3_method_5_code 14 = .ok (.aload_n 0, 1) := by decide +kernel
theorem dd_Grammar_handHasWord_15 : decode prog_3_method_5_code 15 = .ok (.invokevirtual 47, 3) := by decide +kernel
theorem dd_Grammar_handHasWord_18 : decode prog_3_method_5_code 18 = .ok (.iload_n 1, 1) := by decide +kernel
theorem dd_Grammar_handHasWord_19 : decode prog_3_method_5_code 19 = .ok (.iadd, 1) := by decide +kernel
theorem dd_Grammar_handHasWord_20 : decode prog_3_method_5_code 20 = .ok (.laload, 1) := by decide +kernel
theorem dd_Grammar_handHasWord_21 : decode prog_3_method_5_code 21 = .ok (.ldc2_w 38, 3) := by decide +kernel
theorem dd_Grammar_handHasWord_24 : decode prog_3_method_5_code 24 = .ok (.lcmp, 1) := by decide +kernel
theorem dd_Grammar_handHasWord_25 : decode prog_3_method_5_code 25 = .ok (.ifCond .eq 5, 3) := by decide +kernel
theorem dd_Grammar_handHasWord_28 : decode prog_3_method_5_code 28 = .ok (.iconst 1, 1) := by decide +kernel
theorem dd_Grammar_handHasWord_29 : decode prog_3_method_5_code 29 = .ok (.ireturn, 1) := by decide +kernel
theorem dd_Grammar_handHasWord_30 : decode prog_3_method_5_code 30 = .ok (.iinc 1 1, 3) := by decide +kernel
theorem dd_Grammar_handHasWord_33 : decode prog_3_method_5_code 33 = .ok (.goto (-31), 3) := by decide +kernel
theorem dd_Grammar_handHasWord_36 : decode prog_3_method_5_code 36 = .ok (.iconst 0, 1) := by decide +kernel
theorem dd_Grammar_handHasWord_37 : decode prog_3_method_5_code 37 = .ok (.ireturn, 1) := by decide +kernel
theorem dd_Grammar_takePart_0 : decode prog_3_method_6_code 0 = .ok (.aload_n 0, 1) := by decide +kernel
theorem dd_Grammar_takePart_1 : decode prog_3_method_6_code 1 = .ok (.getfield 9, 3) := by decide +kernel
theorem dd_Grammar_takePart_4 : decode prog_3_method_6_code 4 = .ok (.aload_n 0, 1) := by decide +kernel
theorem dd_Grammar_takePart_5 : decode prog_3_method_6_code 5 = .ok (.invokevirtual 47, 3) := by decide +kernel
theorem dd_Grammar_takePart_8 : decode prog_3_method_6_code 8 = .ok (.aload_n 0, 1) := by decide +kernel
theorem dd_Grammar_takePart_9 : decode prog_3_method_6_code 9 = .ok (.getfield 29, 3) := by decide +kernel
theorem dd_Grammar_takePart_12 : decode prog_3_method_6_code 12 = .ok (.iadd, 1) := by decide +kernel
theorem dd_Grammar_takePart_13 : decode prog_3_method_6_code 13 = .ok (.iload_n 1, 1) := by decide +kernel
theorem dd_Grammar_takePart_14 : decode prog_3_method_6_code 14 = .ok (.iastore, 1) := by decide +kernel
theorem dd_Grammar_takePart_15 : decode prog_3_method_6_code 15 = .ok (.aload_n 0, 1) := by decide +kernel
theorem dd_Grammar_takePart_16 : decode prog_3_method_6_code 16 = .ok (.getfield 15, 3) := by decide +kernel
theorem dd_Grammar_takePart_19 : decode prog_3_method_6_code 19 = .ok (.aload_n 0, 1) := by decide +kernel
theorem dd_Grammar_takePart_20 : decode prog_3_method_6_code 20 = .ok (.invokevirtual 47, 3) := by decide +kernel
theorem dd_Grammar_takePart_23 : decode prog_3_method_6_code 23 = .ok (.aload_n 0, 1) := by decide +kernel
theorem dd_Grammar_takePart_24 : decode prog_3_method_6_code 24 = .ok (.getfield 29, 3) := by decide +kernel
theorem dd_Grammar_takePart_27 : decode prog_3_method_6_code 27 = .ok (.iadd, 1) := by decide +kernel
theorem dd_Grammar_takePart_28 : decode prog_3_method_6_code 28 = .ok (.lload_n 2, 1) := by decide +kernel
theorem dd_Grammar_takePart_29 : decode prog_3_method_6_code 29 = .ok (.lastore, 1) := by decide +kernel
theorem dd_Grammar_takePart_30 : decode prog_3_method_6_code 30 = .ok (.aload_n 0, 1) := by decide +kernel
theorem dd_Grammar_takePart_31 : decode prog_3_method_6_code 31 = .ok (.dup, 1) := by decide +kernel
theorem dd_Grammar_takePart_32 : decode prog_3_method_6_code 32 = .ok (.getfield 29, 3) := by decide +kernel
theorem dd_Grammar_takePart_35 : decode prog_3_method_6_code 35 = .ok (.iconst 1, 1) := by decide +kernel
theorem dd_Grammar_takePart_36 : decode prog_3_method_6_code 36 = .ok (.iadd, 1) := by decide +kernel
theorem dd_Grammar_takePart_37 : decode prog_3_method_6_code 37 = .ok (.putfield 29, 3) := by decide +kernel
theorem dd_Grammar_takePart_40 : decode prog_3_method_6_code 40 = .ok (.aload_n 0, 1) := by decide +kernel
theorem dd_Grammar_takePart_41 : decode prog_3_method_6_code 41 = .ok (.getfield 29, 3) := by decide +kernel
theorem dd_Grammar_takePart_44 : decode prog_3_method_6_code 44 = .ok (.ireturn, 1) := by decide +kernel
theorem dd_Grammar_makeRule_0 : decode prog_3_method_8_code 0 = .ok (.aload_n 0, 1) := by decide +kernel
theorem dd_Grammar_makeRule_1 : decode prog_3_method_8_code 1 = .ok (.getfield 25, 3) := by decide +kernel
theorem dd_Grammar_makeRule_4 : decode prog_3_method_8_code 4 = .ok (.istore_n 2, 1) := by decide +kernel
theorem dd_Grammar_makeRule_5 : decode prog_3_method_8_code 5 = .ok (.aload_n 0, 1) := by decide +kernel
theorem dd_Grammar_makeRule_6 : decode prog_3_method_8_code 6 = .ok (.getfield 19, 3) := by decide +kernel
theorem dd_Grammar_makeRule_9 : decode prog_3_method_8_code 9 = .ok (.iload_n 2, 1) := by decide +kernel
theorem dd_Grammar_makeRule_10 : decode prog_3_method_8_code 10 = .ok (.iload_n 1, 1) := by decide +kernel
theorem dd_Grammar_makeRule_11 : decode prog_3_method_8_code 11 = .ok (.iastore, 1) := by decide +kernel
theorem dd_Grammar_makeRule_12 : decode prog_3_method_8_code 12 = .ok (.aload_n 0, 1) := by decide +kernel
theorem dd_Grammar_makeRule_13 : decode prog_3_method_8_code 13 = .ok (.getfield 22, 3) := by decide +kernel
theorem dd_Grammar_makeRule_16 : decode prog_3_method_8_code 16 = .ok (.iload_n 2, 1) := by decide +kernel
theorem dd_Grammar_makeRule_17 : decode prog_3_method_8_code 17 = .ok (.aload_n 0, 1) := by decide +kernel
theorem dd_Grammar_makeRule_18 : decode prog_3_method_8_code 18 = .ok (.getfield 29, 3) := by decide +kernel
theorem dd_Grammar_makeRule_21 : decode prog_3_method_8_code 21 = .ok (.iastore, 1) := by decide +kernel
theorem dd_Grammar_makeRule_22 : decode prog_3_method_8_code 22 = .ok (.aload_n 0, 1) := by decide +kernel
theorem dd_Grammar_makeRule_23 : decode prog_3_method_8_code 23 = .ok (.dup, 1) := by decide +kernel
theorem dd_Grammar_makeRule_24 : decode prog_3_method_8_code 24 = .ok (.getfield 25, 3) := by decide +kernel
theorem dd_Grammar_makeRule_27 : decode prog_3_method_8_code 27 = .ok (.iconst 1, 1) := by decide +kernel
theorem dd_Grammar_makeRule_28 : decode prog_3_method_8_code 28 = .ok (.iadd, 1) := by decide +kernel
theorem dd_Grammar_makeRule_29 : decode prog_3_method_8_code 29 = .ok (.putfield 25, 3) := by decide +kernel
theorem dd_Grammar_makeRule_32 : decode prog_3_method_8_code 32 = .ok (.aload_n 0, 1) := by decide +kernel
theorem dd_Grammar_makeRule_33 : decode prog_3_method_8_code 33 = .ok (.iconst 0, 1) := by decide +kernel
theorem dd_Grammar_makeRule_34 : decode prog_3_method_8_code 34 = .ok (.putfield 29, 3) := by decide +kernel
theorem dd_Grammar_makeRule_37 : decode prog_3_method_8_code 37 = .ok (.iload_n 2, 1) := by decide +kernel
theorem dd_Grammar_makeRule_38 : decode prog_3_method_8_code 38 = .ok (.ireturn, 1) := by decide +kernel
theorem dd_Grammar_hasKey_0 : decode prog_3_method_9_code 0 = .ok (.bipush 14, 2) := by decide +kernel
theorem dd_Grammar_hasKey_2 : decode prog_3_method_9_code 2 = .ok (.istore_n 3, 1) := by decide +kernel
theorem dd_Grammar_hasKey_3 : decode prog_3_method_9_code 3 = .ok (.iload_n 3, 1) := by decide +kernel
theorem dd_Grammar_hasKey_4 : decode prog_3_method_9_code 4 = .ok (.aload_n 0, 1) := by decide +kernel
theorem dd_Grammar_hasKey_5 : decode prog_3_method_9_code 5 = .ok (.invokevirtual 47, 3) := by decide +kernel
theorem dd_Grammar_hasKey_8 : decode prog_3_method_9_code 8 = .ok (.if_icmp .ge 22, 3) := by decide +kernel
theorem dd_Grammar_hasKey_11 : decode prog_3_method_9_code 11 = .ok (.aload_n 0, 1) := by decide +kernel
theorem dd_Grammar_hasKey_12 : decode prog_3_method_9_code 12 = .ok (.getfield 15, 3) := by decide +kernel
theorem dd_Grammar_hasKey_15 : decode prog_3_method_9_code 15 = .ok (.iload_n 3, 1) := by decide +kernel
theorem dd_Grammar_hasKey_16 : decode prog_3_method_9_code 16 = .ok (.laload, 1) := by decide +kernel
theorem dd_Grammar_hasKey_17 : decode prog_3_method_9_code 17 = .ok (.lload_n 1, 1) := by decide +kernel
theorem dd_Grammar_hasKey_18 : decode prog_3_method_9_code 18 = .ok (.lcmp, 1) := by decide +kernel
theorem dd_Grammar_hasKey_19 : decode prog_3_method_9_code 19 = .ok (.ifCond .ne 5, 3) := by decide +kernel
theorem dd_Grammar_hasKey_22 : decode prog_3_method_9_code 22 = .ok (.iconst 1, 1) := by decide +kernel
theorem dd_Grammar_hasKey_23 : decode prog_3_method_9_code 23 = .ok (.ireturn, 1) := by decide +kernel
theorem dd_Grammar_hasKey_24 : decode prog_3_method_9_code 24 = .ok (.iinc 3 1, 3) := by decide +kernel
theorem dd_Grammar_hasKey_27 : decode prog_3_method_9_code 27 = .ok (.goto (-24), 3) := by decide +kernel
theorem dd_Grammar_hasKey_30 : decode prog_3_method_9_code 30 = .ok (.iconst 0, 1) := by decide +kernel
theorem dd_Grammar_hasKey_31 : decode prog_3_method_9_code 31 = .ok (.ireturn, 1) := by decide +kernel
theorem dd_Arrays_rangeCheck_0 : decode prog_25_method_30_code 0 = .ok (.iload_n 1, 1) := by decide +kernel
theorem dd_Arrays_rangeCheck_1 : decode prog_25_method_30_code 1 = .ok (.iload_n 2, 1) := by decide +kernel
theorem dd_Arrays_rangeCheck_2 : decode prog_25_method_30_code 2 = .ok (.if_icmp .le 44, 3) := by decide +kernel
theorem dd_Arrays_rangeCheck_5 : decode prog_25_method_30_code 5 = .ok (.new 43, 3) := by decide +kernel
theorem dd_Arrays_rangeCheck_8 : decode prog_25_method_30_code 8 = .ok (.dup, 1) := by decide +kernel
theorem dd_Arrays_rangeCheck_9 : decode prog_25_method_30_code 9 = .ok (.new 45, 3) := by decide +kernel
theorem dd_Arrays_rangeCheck_12 : decode prog_25_method_30_code 12 = .ok (.dup, 1) := by decide +kernel
theorem dd_Arrays_rangeCheck_13 : decode prog_25_method_30_code 13 = .ok (.invokespecial 47, 3) := by decide +kernel
theorem dd_Arrays_rangeCheck_16 : decode prog_25_method_30_code 16 = .ok (.ldc 48, 2) := by decide +kernel
theorem dd_Arrays_rangeCheck_18 : decode prog_25_method_30_code 18 = .ok (.invokevirtual 50, 3) := by decide +kernel
theorem dd_Arrays_rangeCheck_21 : decode prog_25_method_30_code 21 = .ok (.iload_n 1, 1) := by decide +kernel
theorem dd_Arrays_rangeCheck_22 : decode prog_25_method_30_code 22 = .ok (.invokevirtual 54, 3) := by decide +kernel
theorem dd_Arrays_rangeCheck_25 : decode prog_25_method_30_code 25 = .ok (.ldc 57, 2) := by decide +kernel
theorem dd_Arrays_rangeCheck_27 : decode prog_25_method_30_code 27 = .ok (.invokevirtual 50, 3) := by decide +kernel
theorem dd_Arrays_rangeCheck_30 : decode prog_25_method_30_code 30 = .ok (.iload_n 2, 1) := by decide +kernel
theorem dd_Arrays_rangeCheck_31 : decode prog_25_method_30_code 31 = .ok (.invokevirtual 54, 3) := by decide +kernel
theorem dd_Arrays_rangeCheck_34 : decode prog_25_method_30_code 34 = .ok (.ldc 59, 2) := by decide +kernel
theorem dd_Arrays_rangeCheck_36 : decode prog_25_method_30_code 36 = .ok (.invokevirtual 50, 3) := by decide +kernel
theorem dd_Arrays_rangeCheck_39 : decode prog_25_method_30_code 39 = .ok (.invokevirtual 61, 3) := by decide +kernel
theorem dd_Arrays_rangeCheck_42 : decode prog_25_method_30_code 42 = .ok (.invokespecial 65, 3) := by decide +kernel
theorem dd_Arrays_rangeCheck_45 : decode prog_25_method_30_code 45 = .ok (.athrow, 1) := by decide +kernel
theorem dd_Arrays_rangeCheck_46 : decode prog_25_method_30_code 46 = .ok (.iload_n 1, 1) := by decide +kernel
theorem dd_Arrays_rangeCheck_47 : decode prog_25_method_30_code 47 = .ok (.ifCond .ge 12, 3) := by decide +kernel
theorem dd_Arrays_rangeCheck_50 : decode prog_25_method_30_code 50 = .ok (.new 68, 3) := by decide +kernel
theorem dd_Arrays_rangeCheck_53 : decode prog_25_method_30_code 53 = .ok (.dup, 1) := by decide +kernel
theorem dd_Arrays_rangeCheck_54 : decode prog_25_method_30_code 54 = .ok (.iload_n 1, 1) := by decide +kernel
theorem dd_Arrays_rangeCheck_55 : decode prog_25_method_30_code 55 = .ok (.invokespecial 70, 3) := by decide +kernel
theorem dd_Arrays_rangeCheck_58 : decode prog_25_method_30_code 58 = .ok (.athrow, 1) := by decide +kernel
theorem dd_Arrays_rangeCheck_59 : decode prog_25_method_30_code 59 = .ok (.iload_n 2, 1) := by decide +kernel
theorem dd_Arrays_rangeCheck_60 : decode prog_25_method_30_code 60 = .ok (.iload_n 0, 1) := by decide +kernel
theorem dd_Arrays_rangeCheck_61 : decode prog_25_method_30_code 61 = .ok (.if_icmp .le 12, 3) := by decide +kernel
theorem dd_Arrays_rangeCheck_64 : decode prog_25_method_30_code 64 = .ok (.new 68, 3) := by decide +kernel
theorem dd_Arrays_rangeCheck_67 : decode prog_25_method_30_code 67 = .ok (.dup, 1) := by decide +kernel
theorem dd_Arrays_rangeCheck_68 : decode prog_25_method_30_code 68 = .ok (.iload_n 2, 1) := by decide +kernel
theorem dd_Arrays_rangeCheck_69 : decode prog_25_method_30_code 69 = .ok (.invokespecial 70, 3) := by decide +kernel
theorem dd_Arrays_rangeCheck_72 : decode prog_25_method_30_code 72 = .ok (.athrow, 1) := by decide +kernel
theorem dd_Arrays_rangeCheck_73 : decode prog_25_method_30_code 73 = .ok (.return_, 1) := by decide +kernel
theorem dd_Arrays_fill_0 : decode prog_25_method_104_code 0 = .ok (.aload_n 0, 1) := by decide +kernel
theorem dd_Arrays_fill_1 : decode prog_25_method_104_code 1 = .ok (.arraylength, 1) := by decide +kernel
theorem dd_Arrays_fill_2 : decode prog_25_method_104_code 2 = .ok (.iload_n 1, 1) := by decide +kernel
theorem dd_Arrays_fill_3 : decode prog_25_method_104_code 3 = .ok (.iload_n 2, 1) := by decide +kernel
theorem dd_Arrays_fill_4 : decode prog_25_method_104_code 4 = .ok (.invokestatic 13, 3) := by decide +kernel
theorem dd_Arrays_fill_7 : decode prog_25_method_104_code 7 = .ok (.iload_n 1, 1) := by decide +kernel
theorem dd_Arrays_fill_8 : decode prog_25_method_104_code 8 = .ok (.istore 4, 2) := by decide +kernel
theorem dd_Arrays_fill_10 : decode prog_25_method_104_code 10 = .ok (.iload 4, 2) := by decide +kernel
theorem dd_Arrays_fill_12 : decode prog_25_method_104_code 12 = .ok (.iload_n 2, 1) := by decide +kernel
theorem dd_Arrays_fill_13 : decode prog_25_method_104_code 13 = .ok (.if_icmp .ge 14, 3) := by decide +kernel
theorem dd_Arrays_fill_16 : decode prog_25_method_104_code 16 = .ok (.aload_n 0, 1) := by decide +kernel
theorem dd_Arrays_fill_17 : decode prog_25_method_104_code 17 = .ok (.iload 4, 2) := by decide +kernel
theorem dd_Arrays_fill_19 : decode prog_25_method_104_code 19 = .ok (.iload_n 3, 1) := by decide +kernel
theorem dd_Arrays_fill_20 : decode prog_25_method_104_code 20 = .ok (.iastore, 1) := by decide +kernel
theorem dd_Arrays_fill_21 : decode prog_25_method_104_code 21 = .ok (.iinc 4 1, 3) := by decide +kernel
theorem dd_Arrays_fill_24 : decode prog_25_method_104_code 24 = .ok (.goto (-14), 3) := by decide +kernel
theorem dd_Arrays_fill_27 : decode prog_25_method_104_code 27 = .ok (.return_, 1) := by decide +kernel
theorem dd_Arrays_fill2_0 : decode prog_25_method_102_code 0 = .ok (.aload_n 0, 1) := by decide +kernel
theorem dd_Arrays_fill2_1 : decode prog_25_method_102_code 1 = .ok (.arraylength, 1) := by decide +kernel
theorem dd_Arrays_fill2_2 : decode prog_25_method_102_code 2 = .ok (.iload_n 1, 1) := by decide +kernel
theorem dd_Arrays_fill2_3 : decode prog_25_method_102_code 3 = .ok (.iload_n 2, 1) := by decide +kernel
theorem dd_Arrays_fill2_4 : decode prog_25_method_102_code 4 = .ok (.invokestatic 13, 3) := by decide +kernel
theorem dd_Arrays_fill2_7 : decode prog_25_method_102_code 7 = .ok (.iload_n 1, 1) := by decide +kernel
theorem dd_Arrays_fill2_8 : decode prog_25_method_102_code 8 = .ok (.istore 5, 2) := by decide +kernel
theorem dd_Arrays_fill2_10 : decode prog_25_method_102_code 10 = .ok (.iload 5, 2) := by decide +kernel
theorem dd_Arrays_fill2_12 : decode prog_25_method_102_code 12 = .ok (.iload_n 2, 1) := by decide +kernel
theorem dd_Arrays_fill2_13 : decode prog_25_method_102_code 13 = .ok (.if_icmp .ge 14, 3) := by decide +kernel
theorem dd_Arrays_fill2_16 : decode prog_25_method_102_code 16 = .ok (.aload_n 0, 1) := by decide +kernel
theorem dd_Arrays_fill2_17 : decode prog_25_method_102_code 17 = .ok (.iload 5, 2) := by decide +kernel
theorem dd_Arrays_fill2_19 : decode prog_25_method_102_code 19 = .ok (.lload_n 3, 1) := by decide +kernel
theorem dd_Arrays_fill2_20 : decode prog_25_method_102_code 20 = .ok (.lastore, 1) := by decide +kernel
theorem dd_Arrays_fill2_21 : decode prog_25_method_102_code 21 = .ok (.iinc 5 1, 3) := by decide +kernel
theorem dd_Arrays_fill2_24 : decode prog_25_method_102_code 24 = .ok (.goto (-14), 3) := by decide +kernel
theorem dd_Arrays_fill2_27 : decode prog_25_method_102_code 27 = .ok (.return_, 1) := by decide +kernel
theorem dd_Spelling_byteOf_0 : decode prog_5_method_3_code 0 = .ok (.lload_n 0, 1) := by decide +kernel
theorem dd_Spelling_byteOf_1 : decode prog_5_method_3_code 1 = .ok (.bipush 8, 2) := by decide +kernel
theorem dd_Spelling_byteOf_3 : decode prog_5_method_3_code 3 = .ok (.iload_n 2, 1) := by decide +kernel
theorem dd_Spelling_byteOf_4 : decode prog_5_method_3_code 4 = .ok (.imul, 1) := by decide +kernel
theorem dd_Spelling_byteOf_5 : decode prog_5_method_3_code 5 = .ok (.lushr, 1) := by decide +kernel
theorem dd_Spelling_byteOf_6 : decode prog_5_method_3_code 6 = .ok (.l2i, 1) := by decide +kernel
theorem dd_Spelling_byteOf_7 : decode prog_5_method_3_code 7 = .ok (.sipush 255, 3) := by decide +kernel
theorem dd_Spelling_byteOf_10 : decode prog_5_method_3_code 10 = .ok (.iand, 1) := by decide +kernel
theorem dd_Spelling_byteOf_11 : decode prog_5_method_3_code 11 = .ok (.ireturn, 1) := by decide +kernel
theorem dd_Spelling_lowBytes_0 : decode prog_5_method_4_code 0 = .ok (.iload_n 2, 1) := by decide +kernel
theorem dd_Spelling_lowBytes_1 : decode prog_5_method_4_code 1 = .ok (.bipush 8, 2) := by decide +kernel
theorem dd_Spelling_lowBytes_3 : decode prog_5_method_4_code 3 = .ok (.if_icmp .lt 7, 3) := by decide +kernel
theorem dd_Spelling_lowBytes_6 : decode prog_5_method_4_code 6 = .ok (.lload_n 0, 1) := by decide +kernel
theorem dd_Spelling_lowBytes_7 : decode prog_5_method_4_code 7 = .ok (.goto 13, 3) := by decide +kernel
theorem dd_Spelling_lowBytes_10 : decode prog_5_method_4_code 10 = .ok (.lload_n 0, 1) := by decide +kernel
theorem dd_Spelling_lowBytes_11 : decode prog_5_method_4_code 11 = .ok (.lconst 1, 1) := by decide +kernel
theorem dd_Spelling_lowBytes_12 : decode prog_5_method_4_code 12 = .ok (.bipush 8, 2) := by decide +kernel
theorem dd_Spelling_lowBytes_14 : decode prog_5_method_4_code 14 = .ok (.iload_n 2, 1) := by decide +kernel
theorem dd_Spelling_lowBytes_15 : decode prog_5_method_4_code 15 = .ok (.imul, 1) := by decide +kernel
theorem dd_Spelling_lowBytes_16 : decode prog_5_method_4_code 16 = .ok (.lshl, 1) := by decide +kernel
theorem dd_Spelling_lowBytes_17 : decode prog_5_method_4_code 17 = .ok (.lconst 1, 1) := by decide +kernel
theorem dd_Spelling_lowBytes_18 : decode prog_5_method_4_code 18 = .ok (.lsub, 1) := by decide +kernel
theorem dd_Spelling_lowBytes_19 : decode prog_5_method_4_code 19 = .ok (.land, 1) := by decide +kernel
theorem dd_Spelling_lowBytes_20 : decode prog_5_method_4_code 20 = .ok (.lreturn, 1) := by decide +kernel
theorem dd_Text_append_0 : decode prog_6_method_2_code 0 = .ok (.iload_n 3, 1) := by decide +kernel
theorem dd_Text_append_1 : decode prog_6_method_2_code 1 = .ok (.iconst 1, 1) := by decide +kernel
theorem dd_Text_append_2 : decode prog_6_method_2_code 2 = .ok (.isub, 1) := by decide +kernel
theorem dd_Text_append_3 : decode prog_6_method_2_code 3 = .ok (.istore 4, 2) := by decide +kernel
theorem dd_Text_append_5 : decode prog_6_method_2_code 5 = .ok (.iload 4, 2) := by decide +kernel
theorem dd_Text_append_7 : decode prog_6_method_2_code 7 = .ok (.ifCond .lt 35, 3) := by decide +kernel
theorem dd_Text_append_10 : decode prog_6_method_2_code 10 = .ok (.aload_n 0, 1) := by decide +kernel
theorem dd_Text_append_11 : decode prog_6_method_2_code 11 = .ok (.getfield 9, 3) := by decide +kernel
theorem dd_Text_append_14 : decode prog_6_method_2_code 14 = .ok (.aload_n 0, 1) := by decide +kernel
theorem dd_Text_append_15 : decode prog_6_method_2_code 15 = .ok (.getfield 15, 3) := by decide +kernel
theorem dd_Text_append_18 : decode prog_6_method_2_code 18 = .ok (.lload_n 1, 1) := by decide +kernel
theorem dd_Text_append_19 : decode prog_6_method_2_code 19 = .ok (.iload 4, 2) := by decide +kernel
theorem dd_Text_append_21 : decode prog_6_method_2_code 21 = .ok (.invokestatic 36, 3) := by decide +kernel
theorem dd_Text_append_24 : decode prog_6_method_2_code 24 = .ok (.i2b, 1) := by decide +kernel
theorem dd_Text_append_25 : decode prog_6_method_2_code 25 = .ok (.bastore, 1) := by decide +kernel
theorem dd_Text_append_26 : decode prog_6_method_2_code 26 = .ok (.aload_n 0, 1) := by decide +kernel
theorem dd_Text_append_27 : decode prog_6_method_2_code 27 = .ok (.dup, 1) := by decide +kernel
theorem dd_Text_append_28 : decode prog_6_method_2_code 28 = .ok (.getfield 15, 3) := by decide +kernel
theorem dd_Text_append_31 : decode prog_6_method_2_code 31 = .ok (.iconst 1, 1) := by decide +kernel
theorem dd_Text_append_32 : decode prog_6_method_2_code 32 = .ok (.iadd, 1) := by decide +kernel
theorem dd_Text_append_33 : decode prog_6_method_2_code 33 = .ok (.putfield 15, 3) := by decide +kernel
theorem dd_Text_append_36 : decode prog_6_method_2_code 36 = .ok (.iinc 4 (-1), 3) := by decide +kernel
theorem dd_Text_append_39 : decode prog_6_method_2_code 39 = .ok (.goto (-34), 3) := by decide +kernel
theorem dd_Text_append_42 : decode prog_6_method_2_code 42 = .ok (.return_, 1) := by decide +kernel
theorem dd_Text_takeRow_0 : decode prog_6_method_6_code 0 = .ok (.iload_n 2, 1) := by decide +kernel
theorem dd_Text_takeRow_1 : decode prog_6_method_6_code 1 = .ok (.iload_n 1, 1) := by decide +kernel
theorem dd_Text_takeRow_2 : decode prog_6_method_6_code 2 = .ok (.isub, 1) := by decide +kernel
theorem dd_Text_takeRow_3 : decode prog_6_method_6_code 3 = .ok (.bipush 8, 2) := by decide +kernel
theorem dd_Text_takeRow_5 : decode prog_6_method_6_code 5 = .ok (.if_icmp .le 7, 3) := by decide +kernel
theorem dd_Text_takeRow_8 : decode prog_6_method_6_code 8 = .ok (.iconst 1, 1) := by decide +kernel
theorem dd_Text_takeRow_9 : decode prog_6_method_6_code 9 = .ok (.goto 4, 3) := by decide +kernel
theorem dd_Text_takeRow_12 : decode prog_6_method_6_code 12 = .ok (.iconst 0, 1) := by decide +kernel
theorem dd_Text_takeRow_13 : decode prog_6_method_6_code 13 = .ok (.istore 5, 2) := by decide +kernel
theorem dd_Text_takeRow_15 : decode prog_6_method_6_code 15 = .ok (.iload_n 3, 1) := by decide +kernel
theorem dd_Text_takeRow_16 : decode prog_6_method_6_code 16 = .ok (.ifCond .eq 17, 3) := by decide +kernel
theorem dd_Text_takeRow_19 : decode prog_6_method_6_code 19 = .ok (.iload 5, 2) := by decide +kernel
theorem dd_Text_takeRow_21 : decode prog_6_method_6_code 21 = .ok (.ifCond .ne 12, 3) := by decide +kernel
theorem dd_Text_takeRow_24 : decode prog_6_method_6_code 24 = .ok (.aload_n 0, 1) := by decide +kernel
theorem dd_Text_takeRow_25 : decode prog_6_method_6_code 25 = .ok (.getfield 30, 3) := by decide +kernel
theorem dd_Text_takeRow_28 : decode prog_6_method_6_code 28 = .ok (.bipush 30, 2) := by decide +kernel
theorem dd_Text_takeRow_30 : decode prog_6_method_6_code 30 = .ok (.if_icmp .lt 9, 3) := by decide +kernel
theorem dd_Text_takeRow_33 : decode prog_6_method_6_code 33 = .ok (.aload_n 0, 1) := by decide +kernel
theorem dd_Text_takeRow_34 : decode prog_6_method_6_code 34 = .ok (.iload_n 1, 1) := by decide +kernel
theorem dd_Text_takeRow_35 : decode prog_6_method_6_code 35 = .ok (.putfield 33, 3) := by decide +kernel
theorem dd_Text_takeRow_38 : decode prog_6_method_6_code 38 = .ok (.return_, 1) := by decide +kernel
theorem dd_Text_takeRow_39 : decode prog_6_method_6_code 39 = .ok (.lconst 0, 1) := by decide +kernel
theorem dd_Text_takeRow_40 : decode prog_6_method_6_code 40 = .ok (.lstore 6, 2) := by decide +kernel
theorem dd_Text_takeRow_42 : decode prog_6_method_6_code 42 = .ok (.iload_n 1, 1) := by decide +kernel
theorem dd_Text_takeRow_43 : decode prog_6_method_6_code 43 = .ok (.istore 8, 2) := by decide +kernel
theorem dd_Text_takeRow_45 : decode prog_6_method_6_code 45 = .ok (.iload 8, 2) := by decide +kernel
theorem dd_Text_takeRow_47 : decode prog_6_method_6_code 47 = .ok (.iload_n 2, 1) := by decide +kernel
theorem dd_Text_takeRow_48 : decode prog_6_method_6_code 48 = .ok (.if_icmp .ge 29, 3) := by decide +kernel
theorem dd_Text_takeRow_51 : decode prog_6_method_6_code 51 = .ok (.lload 6, 2) := by decide +kernel
theorem dd_Text_takeRow_53 : decode prog_6_method_6_code 53 = .ok (.bipush 8, 2) := by decide +kernel
theorem dd_Text_takeRow_55 : decode prog_6_method_6_code 55 = .ok (.lshl, 1) := by decide +kernel
theorem dd_Text_takeRow_56 : decode prog_6_method_6_code 56 = .ok (.aload_n 0, 1) := by decide +kernel
theorem dd_Text_takeRow_57 : decode prog_6_method_6_code 57 = .ok (.getfield 9, 3) := by decide +kernel
theorem dd_Text_takeRow_60 : decode prog_6_method_6_code 60 = .ok (.iload 8, 2) := by decide +kernel
theorem dd_Text_takeRow_62 : decode prog_6_method_6_code 62 = .ok (.baload, 1) := by decide +kernel
theorem dd_Text_takeRow_63 : decode prog_6_method_6_code 63 = .ok (.sipush 255, 3) := by decide +kernel
theorem dd_Text_takeRow_66 : decode prog_6_method_6_code 66 = .ok (.iand, 1) := by decide +kernel
theorem dd_Text_takeRow_67 : decode prog_6_method_6_code 67 = .ok (.i2l, 1) := by decide +kernel
theorem dd_Text_takeRow_68 : decode prog_6_method_6_code 68 = .ok (.lor, 1) := by decide +kernel
theorem dd_Text_takeRow_69 : decode prog_6_method_6_code 69 = .ok (.lstore 6, 2) := by decide +kernel
theorem dd_Text_takeRow_71 : decode prog_6_method_6_code 71 = .ok (.iinc 8 1, 3) := by decide +kernel
theorem dd_Text_takeRow_74 : decode prog_6_method_6_code 74 = .ok (.goto (-29), 3) := by decide +kernel
theorem dd_Text_takeRow_77 : decode prog_6_method_6_code 77 = .ok (.iload_n 3, 1) := by decide +kernel
theorem dd_Text_takeRow_78 : decode prog_6_method_6_code 78 = .ok (.iconst 2, 1) := by decide +kernel
theorem dd_Text_takeRow_79 : decode prog_6_method_6_code 79 = .ok (.if_icmp .eq 8, 3) := by decide +kernel
theorem dd_Text_takeRow_82 : decode prog_6_method_6_code 82 = .ok (.iload_n 3, 1) := by decide +kernel
theorem dd_Text_takeRow_83 : decode prog_6_method_6_code 83 = .ok (.iconst 3, 1) := by decide +kernel
theorem dd_Text_takeRow_84 : decode prog_6_method_6_code 84 = .ok (.if_icmp .ne 7, 3) := by decide +kernel
theorem dd_Text_takeRow_87 : decode prog_6_method_6_code 87 = .ok (.iconst 1, 1) := by decide +kernel
theorem dd_Text_takeRow_88 : decode prog_6_method_6_code 88 = .ok (.goto 4, 3) := by decide +kernel
theorem dd_Text_takeRow_91 : decode prog_6_method_6_code 91 = .ok (.iconst 0, 1) := by decide +kernel
theorem dd_Text_takeRow_92 : decode prog_6_method_6_code 92 = .ok (.istore 8, 2) := by decide +kernel
theorem dd_Text_takeRow_94 : decode prog_6_method_6_code 94 = .ok (.aload_n 0, 1) := by decide +kernel
theorem dd_Text_takeRow_95 : decode prog_6_method_6_code 95 = .ok (.getfield 19, 3) := by decide +kernel
theorem dd_Text_takeRow_98 : decode prog_6_method_6_code 98 = .ok (.aload_n 0, 1) := by decide +kernel
theorem dd_Text_takeRow_99 : decode prog_6_method_6_code 99 = .ok (.getfield 30, 3) := by decide +kernel
theorem dd_Text_takeRow_102 : decode prog_6_method_6_code 102 = .ok (.lload 6, 2) := by decide +kernel
theorem dd_Text_takeRow_104 : decode prog_6_method_6_code 104 = .ok (.lastore, 1) := by decide +kernel
theorem dd_Text_takeRow_105 : decode prog_6_method_6_code 105 = .ok (.aload_n 0, 1) := by decide +kernel
theorem dd_Text_takeRow_106 : decode prog_6_method_6_code 106 = .ok (.getfield 23, 3) := by decide +kernel
theorem dd_Text_takeRow_109 : decode prog_6_method_6_code 109 = .ok (.aload_n 0, 1) := by decide +kernel
theorem dd_Text_takeRow_110 : decode prog_6_method_6_code 110 = .ok (.getfield 30, 3) := by decide +kernel
theorem dd_Text_takeRow_113 : decode prog_6_method_6_code 113 = .ok (.iload 8, 2) := by decide +kernel
theorem dd_Text_takeRow_115 : decode prog_6_method_6_code 115 = .ok (.ifCond .eq 17, 3) := by decide +kernel
theorem dd_Text_takeRow_118 : decode prog_6_method_6_code 118 = .ok (.aload 4, 2) := by decide +kernel
theorem dd_Text_takeRow_120 : decode prog_6_method_6_code 120 = .ok (.lload 6, 2) := by decide +kernel
theorem dd_Text_takeRow_122 : decode prog_6_method_6_code 122 = .ok (.invokevirtual 57, 3) := by decide +kernel
theorem dd_Text_takeRow_125 : decode prog_6_method_6_code 125 = .ok (.ifCond .ne 7, 3) := by decide +kernel
theorem dd_Text_takeRow_128 : decode prog_6_method_6_code 128 = .ok (.lconst 0, 1) := by decide +kernel
theorem dd_Text_takeRow_129 : decode prog_6_method_6_code 129 = .ok (.goto 5, 3) := by decide +kernel
theorem dd_Text_takeRow_132 : decode prog_6_method_6_code 132 = .ok (.lload 6, 2) := by decide +kernel
theorem dd_Text_takeRow_134 : decode prog_6_method_6_code 134 = .ok (.lastore, 1) := by decide +kernel
theorem dd_Text_takeRow_135 : decode prog_6_method_6_code 135 = .ok (.aload_n 0, 1) := by decide +kernel
theorem dd_Text_takeRow_136 : decode prog_6_method_6_code 136 = .ok (.getfield 26, 3) := by decide +kernel
theorem dd_Text_takeRow_139 : decode prog_6_method_6_code 139 = .ok (.aload_n 0, 1) := by decide +kernel
theorem dd_Text_takeRow_140 : decode prog_6_method_6_code 140 = .ok (.getfield 30, 3) := by decide +kernel
theorem dd_Text_takeRow_143 : decode prog_6_method_6_code 143 = .ok (.iload_n 1, 1) := by decide +kernel
theorem dd_Text_takeRow_144 : decode prog_6_method_6_code 144 = .ok (.iastore, 1) := by decide +kernel
theorem dd_Text_takeRow_145 : decode prog_6_method_6_code 145 = .ok (.aload_n 0, 1) := by decide +kernel
theorem dd_Text_takeRow_146 : decode prog_6_method_6_code 146 = .ok (.dup, 1) := by decide +kernel
theorem dd_Text_takeRow_147 : decode prog_6_method_6_code 147 = .ok (.getfield 30, 3) := by decide +kernel
theorem dd_Text_takeRow_150 : decode prog_6_method_6_code 150 = .ok (.iconst 1, 1) := by decide +kernel
theorem dd_Text_takeRow_151 : decode prog_6_method_6_code 151 = .ok (.iadd, 1) := by decide +kernel
theorem dd_Text_takeRow_152 : decode prog_6_method_6_code 152 = .ok (.putfield 30, 3) := by decide +kernel
theorem dd_Text_takeRow_155 : decode prog_6_method_6_code 155 = .ok (.return_, 1) := by decide +kernel
theorem dd_N_put_0 : decode prog_1_method_5_code 0 = .ok (.iload_n 3, 1) := by decide +kernel
theorem dd_N_put_1 : decode prog_1_method_5_code 1 = .ok (.iconst 1, 1) := by decide +kernel
theorem dd_N_put_2 : decode prog_1_method_5_code 2 = .ok (.if_icmp .lt 24, 3) := by decide +kernel
theorem dd_N_put_5 : decode prog_1_method_5_code 5 = .ok (.iload_n 3, 1) := by decide +kernel
theorem dd_N_put_6 : decode prog_1_method_5_code 6 = .ok (.bipush 8, 2) := by decide +kernel
theorem dd_N_put_8 : decode prog_1_method_5_code 8 = .ok (.if_icmp .gt 18, 3) := by decide +kernel
theorem dd_N_put_11 : decode prog_1_method_5_code 11 = .ok (.iload_n 3, 1) := by decide +kernel
theorem dd_N_put_12 : decode prog_1_method_5_code 12 = .ok (.sipush 200, 3) := by decide +kernel
theorem dd_N_put_15 : decode prog_1_method_5_code 15 = .ok (.aload_n 0, 1) := by decide +kernel
theorem dd_N_put_16 : decode prog_1_method_5_code 16 = .ok (.getfield 19, 3) := by decide +kernel
theorem dd_N_put_19 : decode prog_1_method_5_code 19 = .ok (.getfield 120, 3) := by decide +kernel
theorem dd_N_put_22 : decode prog_1_method_5_code 22 = .ok (.isub, 1) := by decide +kernel
theorem dd_N_put_23 : decode prog_1_method_5_code 23 = .ok (.if_icmp .le 5, 3) := by decide +kernel
theorem dd_N_put_26 : decode prog_1_method_5_code 26 = .ok (.iconst 0, 1) := by decide +kernel
theorem dd_N_put_27 : decode prog_1_method_5_code 27 = .ok (.ireturn, 1) := by decide +kernel
theorem dd_N_put_28 : decode prog_1_method_5_code 28 = .ok (.aload_n 0, 1) := by decide +kernel
theorem dd_N_put_29 : decode prog_1_method_5_code 29 = .ok (.getfield 19, 3) := by decide +kernel
theorem dd_N_put_32 : decode prog_1_method_5_code 32 = .ok (.lload_n 1, 1) := by decide +kernel
theorem dd_N_put_33 : decode prog_1_method_5_code 33 = .ok (.iload_n 3, 1) := by decide +kernel
theorem dd_N_put_34 : decode prog_1_method_5_code 34 = .ok (.invokevirtual 123, 3) := by decide +kernel
theorem dd_N_put_37 : decode prog_1_method_5_code 37 = .ok (.iconst 1, 1) := by decide +kernel
theorem dd_N_put_38 : decode prog_1_method_5_code 38 = .ok (.ireturn, 1) := by decide +kernel
theorem dd_N_clear_0 : decode prog_1_method_6_code 0 = .ok (.aload_n 0, 1) := by decide +kernel
theorem dd_N_clear_1 : decode prog_1_method_6_code 1 = .ok (.getfield 19, 3) := by decide +kernel
theorem dd_N_clear_4 : decode prog_1_method_6_code 4 = .ok (.iconst 0, 1) := by decide +kernel
theorem dd_N_clear_5 : decode prog_1_method_6_code 5 = .ok (.putfield 120, 3) := by decide +kernel
theorem dd_N_clear_8 : decode prog_1_method_6_code 8 = .ok (.return_, 1) := by decide +kernel
theorem dd_N_noteFault_0 : decode prog_1_method_9_code 0 = .ok (.aload_n 0, 1) := by decide +kernel
theorem dd_N_noteFault_1 : decode prog_1_method_9_code 1 = .ok (.iload_n 1, 1) := by decide +kernel
theorem dd_N_noteFault_2 : decode prog_1_method_9_code 2 = .ok (.putfield 48, 3) := by decide +kernel
theorem dd_N_noteFault_5 : decode prog_1_method_9_code 5 = .ok (.aload_n 0, 1) := by decide +kernel
theorem dd_N_noteFault_6 : decode prog_1_method_9_code 6 = .ok (.iload_n 2, 1) := by decide +kernel
theorem dd_N_noteFault_7 : decode prog_1_method_9_code 7 = .ok (.putfield 52, 3) := by decide +kernel
theorem dd_N_noteFault_10 : decode prog_1_method_9_code 10 = .ok (.return_, 1) := by decide +kernel
theorem dd_N_findFault_0 : decode prog_1_method_8_code 0 = .ok (.aload_n 0, 1) := by decide +kernel
theorem dd_N_findFault_1 : decode prog_1_method_8_code 1 = .ok (.getfield 28, 3) := by decide +kernel
theorem dd_N_findFault_4 : decode prog_1_method_8_code 4 = .ok (.aload_n 0, 1) := by decide +kernel
theorem dd_N_findFault_5 : decode prog_1_method_8_code 5 = .ok (.getfield 19, 3) := by decide +kernel
theorem dd_N_findFault_8 : decode prog_1_method_8_code 8 = .ok (.getfield 145, 3) := by decide +kernel
theorem dd_N_findFault_11 : decode prog_1_method_8_code 11 = .ok (.aload_n 0, 1) := by decide +kernel
theorem dd_N_findFault_12 : decode prog_1_method_8_code 12 = .ok (.getfield 19, 3) := by decide +kernel
theorem dd_N_findFault_15 : decode prog_1_method_8_code 15 = .ok (.getfield 135, 3) := by decide +kernel
theorem dd_N_findFault_18 : decode prog_1_method_8_code 18 = .ok (.invokevirtual 149, 3) := by decide +kernel
theorem dd_N_findFault_21 : decode prog_1_method_8_code 21 = .ok (.istore_n 1, 1) := by decide +kernel
theorem dd_N_findFault_22 : decode prog_1_method_8_code 22 = .ok (.iload_n 1, 1) := by decide +kernel
theorem dd_N_findFault_23 : decode prog_1_method_8_code 23 = .ok (.aload_n 0, 1) := by decide +kernel
theorem dd_N_findFault_24 : decode prog_1_method_8_code 24 = .ok (.getfield 19, 3) := by decide +kernel
theorem dd_N_findFault_27 : decode prog_1_method_8_code 27 = .ok (.getfield 135, 3) := by decide +kernel
theorem dd_N_findFault_30 : decode prog_1_method_8_code 30 = .ok (.if_icmp .ge 20, 3) := by decide +kernel
theorem dd_N_findFault_33 : decode prog_1_method_8_code 33 = .ok (.aload_n 0, 1) := by decide +kernel
theorem dd_N_findFault_34 : decode prog_1_method_8_code 34 = .ok (.iconst 1, 1) := by decide +kernel
theorem dd_N_findFault_35 : decode prog_1_method_8_code 35 = .ok (.aload_n 0, 1) := by decide +kernel
theorem dd_N_findFault_36 : decode prog_1_method_8_code 36 = .ok (.getfield 19, 3) := by decide +kernel
theorem dd_N_findFault_39 : decode prog_1_method_8_code 39 = .ok (.getfield 153, 3) := by decide +kernel
theorem dd_N_findFault_42 : decode prog_1_method_8_code 42 = .ok (.iload_n 1, 1) := by decide +kernel
theorem dd_N_findFault_43 : decode prog_1_method_8_code 43 = .ok (.iaload, 1) := by decide +kernel
theorem dd_N_findFault_44 : decode prog_1_method_8_code 44 = .ok (.invokevirtual 157, 3) := by decide +kernel
theorem dd_N_findFault_47 : decode prog_1_method_8_code 47 = .ok (.goto 67, 3) := by decide +kernel
theorem dd_N_findFault_50 : decode prog_1_method_8_code 50 = .ok (.aload_n 0, 1) := by decide +kernel
theorem dd_N_findFault_51 : decode prog_1_method_8_code 51 = .ok (.getfield 19, 3) := by decide +kernel
theorem dd_N_findFault_54 : decode prog_1_method_8_code 54 = .ok (.getfield 161, 3) := by decide +kernel
theorem dd_N_findFault_57 : decode prog_1_method_8_code 57 = .ok (.iconst (-1), 1) := by decide +kernel
theorem dd_N_findFault_58 : decode prog_1_method_8_code 58 = .ok (.if_icmp .eq 18, 3) := by decide +kernel
theorem dd_N_findFault_61 : decode prog_1_method_8_code 61 = .ok (.aload_n 0, 1) := by decide +kernel
theorem dd_N_findFault_62 : decode prog_1_method_8_code 62 = .ok (.iconst 2, 1) := by decide +kernel
theorem dd_N_findFault_63 : decode prog_1_method_8_code 63 = .ok (.aload_n 0, 1) := by decide +kernel
theorem dd_N_findFault_64 : decode prog_1_method_8_code 64 = .ok (.getfield 19, 3) := by decide +kernel
theorem dd_N_findFault_67 : decode prog_1_method_8_code 67 = .ok (.getfield 161, 3) := by decide +kernel
theorem dd_N_findFault_70 : decode prog_1_method_8_code 70 = .ok (.invokevirtual 157, 3) := by decide +kernel
theorem dd_N_findFault_73 : decode prog_1_method_8_code 73 = .ok (.goto 41, 3) := by decide +kernel
theorem dd_N_findFault_76 : decode prog_1_method_8_code 76 = .ok (.aload_n 0, 1) := by decide +kernel
theorem dd_N_findFault_77 : decode prog_1_method_8_code 77 = .ok (.getfield 28, 3) := by decide +kernel
theorem dd_N_findFault_80 : decode prog_1_method_8_code 80 = .ok (.aload_n 0, 1) := by decide +kernel
theorem dd_N_findFault_81 : decode prog_1_method_8_code 81 = .ok (.getfield 19, 3) := by decide +kernel
theorem dd_N_findFault_84 : decode prog_1_method_8_code 84 = .ok (.getfield 135, 3) := by decide +kernel
theorem dd_N_findFault_87 : decode prog_1_method_8_code 87 = .ok (.invokevirtual 164, 3) := by decide +kernel
theorem dd_N_findFault_90 : decode prog_1_method_8_code 90 = .ok (.ifCond .ne 18, 3) := by decide +kernel
theorem dd_N_findFault_93 : decode prog_1_method_8_code 93 = .ok (.aload_n 0, 1) := by decide +kernel
theorem dd_N_findFault_94 : decode prog_1_method_8_code 94 = .ok (.iconst 1, 1) := by decide +kernel
theorem dd_N_findFault_95 : decode prog_1_method_8_code 95 = .ok (.aload_n 0, 1) := by decide +kernel
theorem dd_N_findFault_96 : decode prog_1_method_8_code 96 = .ok (.getfield 19, 3) := by decide +kernel
theorem dd_N_findFault_99 : decode prog_1_method_8_code 99 = .ok (.getfield 120, 3) := by decide +kernel
theorem dd_N_findFault_102 : decode prog_1_method_8_code 102 = .ok (.invokevirtual 157, 3) := by decide +kernel
theorem dd_N_findFault_105 : decode prog_1_method_8_code 105 = .ok (.goto 9, 3) := by decide +kernel
theorem dd_N_findFault_108 : decode prog_1_method_8_code 108 = .ok (.aload_n 0, 1) := by decide +kernel
theorem dd_N_findFault_109 : decode prog_1_method_8_code 109 = .ok (.iconst 0, 1) := by decide +kernel
theorem dd_N_findFault_110 : decode prog_1_method_8_code 110 = .ok (.iconst (-1), 1) := by decide +kernel
theorem dd_N_findFault_111 : decode prog_1_method_8_code 111 = .ok (.invokevirtual 157, 3) := by decide +kernel
theorem dd_N_findFault_114 : decode prog_1_method_8_code 114 = .ok (.return_, 1) := by decide +kernel
theorem dd_N_fault_0 : decode prog_1_method_10_code 0 = .ok (.iload_n 1, 1) := by decide +kernel
theorem dd_N_fault_1 : decode prog_1_method_10_code 1 = .ok (.lookupswitch 37 #[(0, 27), (1, 32)], 27) := by decide +kernel
theorem dd_N_fault_28 : decode prog_1_method_10_code 28 = .ok (.aload_n 0, 1) := by decide +kernel
theorem dd_N_fault_29 : decode prog_1_method_10_code 29 = .ok (.getfield 48, 3) := by decide +kernel
theorem dd_N_fault_32 : decode prog_1_method_10_code 32 = .ok (.ireturn, 1) := by decide +kernel
theorem dd_N_fault_33 : decode prog_1_method_10_code 33 = .ok (.aload_n 0, 1) := by decide +kernel
theorem dd_N_fault_34 : decode prog_1_method_10_code 34 = .ok (.getfield 52, 3) := by decide +kernel
theorem dd_N_fault_37 : decode prog_1_method_10_code 37 = .ok (.ireturn, 1) := by decide +kernel
theorem dd_N_fault_38 : decode prog_1_method_10_code 38 = .ok (.iconst (-1), 1) := by decide +kernel
theorem dd_N_fault_39 : decode prog_1_method_10_code 39 = .ok (.ireturn, 1) := by decide +kernel
theorem dd_N_at_0 : decode prog_1_method_13_code 0 = .ok (.iload_n 1, 1) := by decide +kernel
theorem dd_N_at_1 : decode prog_1_method_13_code 1 = .ok (.ifCond .lt 14, 3) := by decide +kernel
theorem dd_N_at_4 : decode prog_1_method_13_code 4 = .ok (.iload_n 1, 1) := by decide +kernel
theorem dd_N_at_5 : decode prog_1_method_13_code 5 = .ok (.aload_n 0, 1) := by decide +kernel
theorem dd_N_at_6 : decode prog_1_method_13_code 6 = .ok (.getfield 44, 3) := by decide +kernel
theorem dd_N_at_9 : decode prog_1_method_13_code 9 = .ok (.getfield 198, 3) := by decide +kernel
theorem dd_N_at_12 : decode prog_1_method_13_code 12 = .ok (.if_icmp .lt 7, 3) := by decide +kernel
theorem dd_N_at_15 : decode prog_1_method_13_code 15 = .ok (.iconst (-1), 1) := by decide +kernel
theorem dd_N_at_16 : decode prog_1_method_13_code 16 = .ok (.goto 12, 3) := by decide +kernel
theorem dd_N_at_19 : decode prog_1_method_13_code 19 = .ok (.aload_n 0, 1) := by decide +kernel
theorem dd_N_at_20 : decode prog_1_method_13_code 20 = .ok (.getfield 44, 3) := by decide +kernel
theorem dd_N_at_23 : decode prog_1_method_13_code 23 = .ok (.getfield 199, 3) := by decide +kernel
theorem dd_N_at_26 : decode prog_1_method_13_code 26 = .ok (.iload_n 1, 1) := by decide +kernel
theorem dd_N_at_27 : decode prog_1_method_13_code 27 = .ok (.baload, 1) := by decide +kernel
theorem dd_N_at_28 : decode prog_1_method_13_code 28 = .ok (.ireturn, 1) := by decide +kernel
theorem dd_N_about_0 : decode prog_1_method_15_code 0 = .ok (.iload_n 1, 1) := by decide +kernel
theorem dd_N_about_1 : decode prog_1_method_15_code 1 = .ok (.tableswitch 77 0 4 #[35, 45, 53, 61, 69], 35) := by decide +kernel
theorem dd_N_about_36 : decode prog_1_method_15_code 36 = .ok (.aload_n 0, 1) := by decide +kernel
theorem dd_N_about_37 : decode prog_1_method_15_code 37 = .ok (.getfield 12, 3) := by decide +kernel
theorem dd_N_about_40 : decode prog_1_method_15_code 40 = .ok (.getfield 108, 3) := by decide +kernel
theorem dd_N_about_43 : decode prog_1_method_15_code 43 = .ok (.iconst 2, 1) := by decide +kernel
theorem dd_N_about_44 : decode prog_1_method_15_code 44 = .ok (.isub, 1) := by decide +kernel
theorem dd_N_about_45 : decode prog_1_method_15_code 45 = .ok (.ireturn, 1) := by decide +kernel
theorem dd_N_about_46 : decode prog_1_method_15_code 46 = .ok (.aload_n 0, 1) := by decide +kernel
theorem dd_N_about_47 : decode prog_1_method_15_code 47 = .ok (.getfield 12, 3) := by decide +kernel
theorem dd_N_about_50 : decode prog_1_method_15_code 50 = .ok (.getfield 68, 3) := by decide +kernel
theorem dd_N_about_53 : decode prog_1_method_15_code 53 = .ok (.ireturn, 1) := by decide +kernel
theorem dd_N_about_54 : decode prog_1_method_15_code 54 = .ok (.aload_n 0, 1) := by decide +kernel
theorem dd_N_about_55 : decode prog_1_method_15_code 55 = .ok (.getfield 19, 3) := by decide +kernel
theorem dd_N_about_58 : decode prog_1_method_15_code 58 = .ok (.getfield 120, 3) := by decide +kernel
theorem dd_N_about_61 : decode prog_1_method_15_code 61 = .ok (.ireturn, 1) := by decide +kernel
theorem dd_N_about_62 : decode prog_1_method_15_code 62 = .ok (.aload_n 0, 1) := by decide +kernel
theorem dd_N_about_63 : decode prog_1_method_15_code 63 = .ok (.getfield 37, 3) := by decide +kernel
theorem dd_N_about_66 : decode prog_1_method_15_code 66 = .ok (.getfield 168, 3) := by decide +kernel
theorem dd_N_about_69 : decode prog_1_method_15_code 69 = .ok (.ireturn, 1) := by decide +kernel
theorem dd_N_about_70 : decode prog_1_method_15_code 70 = .ok (.aload_n 0, 1) := by decide +kernel
theorem dd_N_about_71 : decode prog_1_method_15_code 71 = .ok (.getfield 44, 3) := by decide +kernel
theorem dd_N_about_74 : decode prog_1_method_15_code 74 = .ok (.getfield 198, 3) := by decide +kernel
theorem dd_N_about_77 : decode prog_1_method_15_code 77 = .ok (.ireturn, 1) := by decide +kernel
theorem dd_N_about_78 : decode prog_1_method_15_code 78 = .ok (.iconst (-1), 1) := by decide +kernel
theorem dd_N_about_79 : decode prog_1_method_15_code 79 = .ok (.ireturn, 1) := by decide +kernel
theorem dd_Tree_fell_0 : decode prog_7_method_2_code 0 = .ok (.aload_n 0, 1) := by decide +kernel
theorem dd_Tree_fell_1 : decode prog_7_method_2_code 1 = .ok (.iconst 0, 1) := by decide +kernel
theorem dd_Tree_fell_2 : decode prog_7_method_2_code 2 = .ok (.putfield 9, 3) := by decide +kernel
theorem dd_Tree_fell_5 : decode prog_7_method_2_code 5 = .ok (.return_, 1) := by decide +kernel
theorem dd_Tree_levelWithin_0 : decode prog_7_method_8_code 0 = .ok (.iload_n 1, 1) := by decide +kernel
theorem dd_Tree_levelWithin_1 : decode prog_7_method_8_code 1 = .ok (.istore_n 2, 1) := by decide +kernel
theorem dd_Tree_levelWithin_2 : decode prog_7_method_8_code 2 = .ok (.iload_n 2, 1) := by decide +kernel
theorem dd_Tree_levelWithin_3 : decode prog_7_method_8_code 3 = .ok (.aload_n 0, 1) := by decide +kernel
theorem dd_Tree_levelWithin_4 : decode prog_7_method_8_code 4 = .ok (.getfield 9, 3) := by decide +kernel
theorem dd_Tree_levelWithin_7 : decode prog_7_method_8_code 7 = .ok (.iconst 1, 1) := by decide +kernel
theorem dd_Tree_levelWithin_8 : decode prog_7_method_8_code 8 = .ok (.isub, 1) := by decide +kernel
theorem dd_Tree_levelWithin_9 : decode prog_7_method_8_code 9 = .ok (.if_icmp .ge 18, 3) := by decide +kernel
theorem dd_Tree_levelWithin_12 : decode prog_7_method_8_code 12 = .ok (.aload_n 0, 1) := by decide +kernel
theorem dd_Tree_levelWithin_13 : decode prog_7_method_8_code 13 = .ok (.getfield 15, 3) := by decide +kernel
theorem dd_Tree_levelWithin_16 : decode prog_7_method_8_code 16 = .ok (.iload_n 2, 1) := by decide +kernel
theorem dd_Tree_levelWithin_17 : decode prog_7_method_8_code 17 = .ok (.iaload, 1) := by decide +kernel
theorem dd_Tree_levelWithin_18 : decode prog_7_method_8_code 18 = .ok (.ifCond .ne 9, 3) := by decide +kernel
theorem dd_Tree_levelWithin_21 : decode prog_7_method_8_code 21 = .ok (.iinc 2 1, 3) := by decide +kernel
theorem dd_Tree_levelWithin_24 : decode prog_7_method_8_code 24 = .ok (.goto (-22), 3) := by decide +kernel
theorem dd_Tree_levelWithin_27 : decode prog_7_method_8_code 27 = .ok (.aload_n 0, 1) := by decide +kernel
theorem dd_Tree_levelWithin_28 : decode prog_7_method_8_code 28 = .ok (.getfield 49, 3) := by decide +kernel
theorem dd_Tree_levelWithin_31 : decode prog_7_method_8_code 31 = .ok (.getfield 89, 3) := by decide +kernel
theorem dd_Tree_levelWithin_34 : decode prog_7_method_8_code 34 = .ok (.aload_n 0, 1) := by decide +kernel
theorem dd_Tree_levelWithin_35 : decode prog_7_method_8_code 35 = .ok (.getfield 15, 3) := by decide +kernel
theorem dd_Tree_levelWithin_38 : decode prog_7_method_8_code 38 = .ok (.iload_n 2, 1) := by decide +kernel
theorem dd_Tree_levelWithin_39 : decode prog_7_method_8_code 39 = .ok (.iaload, 1) := by decide +kernel
theorem dd_Tree_levelWithin_40 : decode prog_7_method_8_code 40 = .ok (.iaload, 1) := by decide +kernel
theorem dd_Tree_levelWithin_41 : decode prog_7_method_8_code 41 = .ok (.ireturn, 1) := by decide +kernel
theorem dd_Tree_needlessBrackets_0 : decode prog_7_method_7_code 0 = .ok (.iconst 0, 1) := by decide +kernel
theorem dd_Tree_needlessBrackets_1 : decode prog_7_method_7_code 1 = .ok (.istore_n 1, 1) := by decide +kernel
theorem dd_Tree_needlessBrackets_2 : decode prog_7_method_7_code 2 = .ok (.iconst 0, 1) := by decide +kernel
theorem dd_Tree_needlessBrackets_3 : decode prog_7_method_7_code 3 = .ok (.istore_n 2, 1) := by decide +kernel
theorem dd_Tree_needlessBrackets_4 : decode prog_7_method_7_code 4 = .ok (.iload_n 2, 1) := by decide +kernel
theorem dd_Tree_needlessBrackets_5 : decode prog_7_method_7_code 5 = .ok (.aload_n 0, 1) := by decide +kernel
theorem dd_Tree_needlessBrackets_6 : decode prog_7_method_7_code 6 = .ok (.getfield 9, 3) := by decide +kernel
theorem dd_Tree_needlessBrackets_9 : decode prog_7_method_7_code 9 = .ok (.if_icmp .ge 61, 3) := by decide +kernel
theorem dd_Tree_needlessBrackets_12 : decode prog_7_method_7_code 12 = .ok (.aload_n 0, 1) := by decide +kernel
theorem dd_Tree_needlessBrackets_13 : decode prog_7_method_7_code 13 = .ok (.getfield 15, 3) := by decide +kernel
theorem dd_Tree_needlessBrackets_16 : decode prog_7_method_7_code 16 = .ok (.iload_n 2, 1) := by decide +kernel
theorem dd_Tree_needlessBrackets_17 : decode prog_7_method_7_code 17 = .ok (.iaload, 1) := by decide +kernel
theorem dd_Tree_needlessBrackets_18 : decode prog_7_method_7_code 18 = .ok (.ifCond .ne 46, 3) := by decide +kernel
theorem dd_Tree_needlessBrackets_21 : decode prog_7_method_7_code 21 = .ok (.aload_n 0, 1) := by decide +kernel
theorem dd_Tree_needlessBrackets_22 : decode prog_7_method_7_code 22 = .ok (.iload_n 2, 1) := by decide +kernel
theorem dd_Tree_needlessBrackets_23 : decode prog_7_method_7_code 23 = .ok (.invokevirtual 86, 3) := by decide +kernel
theorem dd_Tree_needlessBrackets_26 : decode prog_7_method_7_code 26 = .ok (.aload_n 0, 1) := by decide +kernel
theorem dd_Tree_needlessBrackets_27 : decode prog_7_method_7_code 27 = .ok (.getfield 31, 3) := by decide +kernel
theorem dd_Tree_needlessBrackets_30 : decode prog_7_method_7_code 30 = .ok (.iload_n 2, 1) := by decide +kernel
theorem dd_Tree_needlessBrackets_31 : decode prog_7_method_7_code 31 = .ok (.iaload, 1) := by decide +kernel
theorem dd_Tree_needlessBrackets_32 : decode prog_7_method_7_code 32 = .ok (.if_icmp .lt 32, 3) := by decide +kernel
theorem dd_Tree_needlessBrackets_35 : decode prog_7_method_7_code 35 = .ok (.iload_n 1, 1) := by decide +kernel
theorem dd_Tree_needlessBrackets_36 : decode prog_7_method_7_code 36 = .ok (.iconst 1, 1) := by decide +kernel
theorem dd_Tree_needlessBrackets_37 : decode prog_7_method_7_code 37 = .ok (.aload_n 0, 1) := by decide +kernel
theorem dd_Tree_needlessBrackets_38 : decode prog_7_method_7_code 38 = .ok (.getfield 22, 3) := by decide +kernel
theorem dd_Tree_needlessBrackets_41 : decode prog_7_method_7_code 41 = .ok (.iload_n 2, 1) := by decide +kernel
theorem dd_Tree_needlessBrackets_42 : decode prog_7_method_7_code 42 = .ok (.iaload, 1) := by decide +kernel
theorem dd_Tree_needlessBrackets_43 : decode prog_7_method_7_code 43 = .ok (.ishl, 1) := by decide +kernel
theorem dd_Tree_needlessBrackets_44 : decode prog_7_method_7_code 44 = .ok (.iconst 1, 1) := by decide +kernel
theorem dd_Tree_needlessBrackets_45 : decode prog_7_method_7_code 45 = .ok (.aload_n 0, 1) := by decide +kernel
theorem dd_Tree_needlessBrackets_46 : decode prog_7_method_7_code 46 = .ok (.getfield 22, 3) := by decide +kernel
theorem dd_Tree_needlessBrackets_49 : decode prog_7_method_7_code 49 = .ok (.iload_n 2, 1) := by decide +kernel
theorem dd_Tree_needlessBrackets_50 : decode prog_7_method_7_code 50 = .ok (.iaload, 1) := by decide +kernel
theorem dd_Tree_needlessBrackets_51 : decode prog_7_method_7_code 51 = .ok (.aload_n 0, 1) := by decide +kernel
theorem dd_Tree_needlessBrackets_52 : decode prog_7_method_7_code 52 = .ok (.getfield 25, 3) := by decide +kernel
theorem dd_Tree_needlessBrackets_55 : decode prog_7_method_7_code 55 = .ok (.iload_n 2, 1) := by decide +kernel
theorem dd_Tree_needlessBrackets_56 : decode prog_7_method_7_code 56 = .ok (.iaload, 1) := by decide +kernel
theorem dd_Tree_needlessBrackets_57 : decode prog_7_method_7_code 57 = .ok (.iadd, 1) := by decide +kernel
theorem dd_Tree_needlessBrackets_58 : decode prog_7_method_7_code 58 = .ok (.iconst 1, 1) := by decide +kernel
theorem dd_Tree_needlessBrackets_59 : decode prog_7_method_7_code 59 = .ok (.isub, 1) := by decide +kernel
theorem dd_Tree_needlessBrackets_60 : decode prog_7_method_7_code 60 = .ok (.ishl, 1) := by decide +kernel
theorem dd_Tree_needlessBrackets_61 : decode prog_7_method_7_code 61 = .ok (.ior, 1) := by decide +kernel
theorem dd_Tree_needlessBrackets_62 : decode prog_7_method_7_code 62 = .ok (.ior, 1) := by decide +kernel
theorem dd_Tree_needlessBrackets_63 : decode prog_7_method_7_code 63 = .ok (.istore_n 1, 1) := by decide +kernel
theorem dd_Tree_needlessBrackets_64 : decode prog_7_method_7_code 64 = .ok (.iinc 2 1, 3) := by decide +kernel
theorem dd_Tree_needlessBrackets_67 : decode prog_7_method_7_code 67 = .ok (.goto (-63), 3) := by decide +kernel
theorem dd_Tree_needlessBrackets_70 : decode prog_7_method_7_code 70 = .ok (.iload_n 1, 1) := by decide +kernel
theorem dd_Tree_needlessBrackets_71 : decode prog_7_method_7_code 71 = .ok (.ireturn, 1) := by decide +kernel
theorem dd_Tree_await_0 : decode prog_7_method_4_code 0 = .ok (.aload_n 0, 1) := by decide +kernel
theorem dd_Tree_await_1 : decode prog_7_method_4_code 1 = .ok (.getfield 34, 3) := by decide +kernel
theorem dd_Tree_await_4 : decode prog_7_method_4_code 4 = .ok (.bipush 30, 2) := by decide +kernel
theorem dd_Tree_await_6 : decode prog_7_method_4_code 6 = .ok (.if_icmp .ge 54, 3) := by decide +kernel
theorem dd_Tree_await_9 : decode prog_7_method_4_code 9 = .ok (.aload_n 0, 1) := by decide +kernel
theorem dd_Tree_await_10 : decode prog_7_method_4_code 10 = .ok (.getfield 37, 3) := by decide +kernel
theorem dd_Tree_await_13 : decode prog_7_method_4_code 13 = .ok (.aload_n 0, 1) := by decide +kernel
theorem dd_Tree_await_14 : decode prog_7_method_4_code 14 = .ok (.getfield 34, 3) := by decide +kernel
theorem dd_Tree_await_17 : decode prog_7_method_4_code 17 = .ok (.iload_n 1, 1) := by decide +kernel
theorem dd_Tree_await_18 : decode prog_7_method_4_code 18 = .ok (.iastore, 1) := by decide +kernel
theorem dd_Tree_await_19 : decode prog_7_method_4_code 19 = .ok (.aload_n 0, 1) := by decide +kernel
theorem dd_Tree_await_20 : decode prog_7_method_4_code 20 = .ok (.getfield 40, 3) := by decide +kernel
theorem dd_Tree_await_23 : decode prog_7_method_4_code 23 = .ok (.aload_n 0, 1) := by decide +kernel
theorem dd_Tree_await_24 : decode prog_7_method_4_code 24 = .ok (.getfield 34, 3) := by decide +kernel
theorem dd_Tree_await_27 : decode prog_7_method_4_code 27 = .ok (.iload_n 2, 1) := by decide +kernel
theorem dd_Tree_await_28 : decode prog_7_method_4_code 28 = .ok (.iastore, 1) := by decide +kernel
theorem dd_Tree_await_29 : decode prog_7_method_4_code 29 = .ok (.aload_n 0, 1) := by decide +kernel
theorem dd_Tree_await_30 : decode prog_7_method_4_code 30 = .ok (.getfield 43, 3) := by decide +kernel
theorem dd_Tree_await_33 : decode prog_7_method_4_code 33 = .ok (.aload_n 0, 1) := by decide +kernel
theorem dd_Tree_await_34 : decode prog_7_method_4_code 34 = .ok (.getfield 34, 3) := by decide +kernel
theorem dd_Tree_await_37 : decode prog_7_method_4_code 37 = .ok (.iload_n 3, 1) := by decide +kernel
theorem dd_Tree_await_38 : decode prog_7_method_4_code 38 = .ok (.iastore, 1) := by decide +kernel
theorem dd_Tree_await_39 : decode prog_7_method_4_code 39 = .ok (.aload_n 0, 1) := by decide +kernel
theorem dd_Tree_await_40 : decode prog_7_method_4_code 40 = .ok (.getfield 46, 3) := by decide +kernel
theorem dd_Tree_await_43 : decode prog_7_method_4_code 43 = .ok (.aload_n 0, 1) := by decide +kernel
theorem dd_Tree_await_44 : decode prog_7_method_4_code 44 = .ok (.getfield 34, 3) := by decide +kernel
theorem dd_Tree_await_47 : decode prog_7_method_4_code 47 = .ok (.iload 4, 2) := by decide +kernel
theorem dd_Tree_await_49 : decode prog_7_method_4_code 49 = .ok (.iastore, 1) := by decide +kernel
theorem dd_Tree_await_50 : decode prog_7_method_4_code 50 = .ok (.aload_n 0, 1) := by decide +kernel
theorem dd_Tree_await_51 : decode prog_7_method_4_code 51 = .ok (.dup, 1) := by decide +kernel
theorem dd_Tree_await_52 : decode prog_7_method_4_code 52 = .ok (.getfield 34, 3) := by decide +kernel
theorem dd_Tree_await_55 : decode prog_7_method_4_code 55 = .ok (.iconst 1, 1) := by decide +kernel
theorem dd_Tree_await_56 : decode prog_7_method_4_code 56 = .ok (.iadd, 1) := by decide +kernel
theorem dd_Tree_await_57 : decode prog_7_method_4_code 57 = .ok (.putfield 34, 3) := by decide +kernel
theorem dd_Tree_await_60 : decode prog_7_method_4_code 60 = .ok (.return_, 1) := by decide +kernel
theorem dd_Tree_awaitHoles_0 : decode prog_7_method_6_code 0 = .ok (.aload_n 0, 1) := by decide +kernel
theorem dd_Tree_awaitHoles_1 : decode prog_7_method_6_code 1 = .ok (.getfield 15, 3) := by decide +kernel
theorem dd_Tree_awaitHoles_4 : decode prog_7_method_6_code 4 = .ok (.iload_n 1, 1) := by decide +kernel
theorem dd_Tree_awaitHoles_5 : decode prog_7_method_6_code 5 = .ok (.iaload, 1) := by decide +kernel
theorem dd_Tree_awaitHoles_6 : decode prog_7_method_6_code 6 = .ok (.bipush 7, 2) := by decide +kernel
theorem dd_Tree_awaitHoles_8 : decode prog_7_method_6_code 8 = .ok (.imul, 1) := by decide +kernel
theorem dd_Tree_awaitHoles_9 : decode prog_7_method_6_code 9 = .ok (.istore 4, 2) := by decide +kernel
theorem dd_Tree_awaitHoles_11 : decode prog_7_method_6_code 11 = .ok (.iconst 0, 1) := by decide +kernel
theorem dd_Tree_awaitHoles_12 : decode prog_7_method_6_code 12 = .ok (.istore 5, 2) := by decide +kernel
theorem dd_Tree_awaitHoles_14 : decode prog_7_method_6_code 14 = .ok (.iload_n 3, 1) := by decide +kernel
theorem dd_Tree_awaitHoles_15 : decode prog_7_method_6_code 15 = .ok (.istore 6, 2) := by decide +kernel
theorem dd_Tree_awaitHoles_17 : decode prog_7_method_6_code 17 = .ok (.aload_n 0, 1) := by decide +kernel
theorem dd_Tree_awaitHoles_18 : decode prog_7_method_6_code 18 = .ok (.getfield 49, 3) := by decide +kernel
theorem dd_Tree_awaitHoles_21 : decode prog_7_method_6_code 21 = .ok (.aload_n 0, 1) := by decide +kernel
theorem dd_Tree_awaitHoles_22 : decode prog_7_method_6_code 22 = .ok (.getfield 15, 3) := by decide +kernel
theorem dd_Tree_awaitHoles_25 : decode prog_7_method_6_code 25 = .ok (.iload_n 1, 1) := by decide +kernel
theorem dd_Tree_awaitHoles_26 : decode prog_7_method_6_code 26 = .ok (.iaload, 1) := by decide +kernel
theorem dd_Tree_awaitHoles_27 : decode prog_7_method_6_code 27 = .ok (.invokevirtual 74, 3) := by decide +kernel
theorem dd_Tree_awaitHoles_30 : decode prog_7_method_6_code 30 = .ok (.iconst 1, 1) := by decide +kernel
theorem dd_Tree_awaitHoles_31 : decode prog_7_method_6_code 31 = .ok (.isub, 1) := by decide +kernel
theorem dd_Tree_awaitHoles_32 : decode prog_7_method_6_code 32 = .ok (.istore 7, 2) := by decide +kernel
theorem dd_Tree_awaitHoles_34 : decode prog_7_method_6_code 34 = .ok (.iload 7, 2) := by decide +kernel
theorem dd_Tree_awaitHoles_36 : decode prog_7_method_6_code 36 = .ok (.iload 4, 2) := by decide +kernel
theorem dd_Tree_awaitHoles_38 : decode prog_7_method_6_code 38 = .ok (.if_icmp .lt 72, 3) := by decide +kernel
theorem dd_Tree_awaitHoles_41 : decode prog_7_method_6_code 41 = .ok (.aload_n 0, 1) := by decide +kernel
theorem dd_Tree_awaitHoles_42 : decode prog_7_method_6_code 42 = .ok (.getfield 49, 3) := by decide +kernel
theorem dd_Tree_awaitHoles_45 : decode prog_7_method_6_code 45 = .ok (.getfield 80, 3) := by decide +kernel
theorem dd_Tree_awaitHoles_48 : decode prog_7_method_6_code 48 = .ok (.iload 7, 2) := by decide +kernel
theorem dd_Tree_awaitHoles_50 : decode prog_7_method_6_code 50 = .ok (.iaload, 1) := by decide +kernel
theorem dd_Tree_awaitHoles_51 : decode prog_7_method_6_code 51 = .ok (.istore 8, 2) := by decide +kernel
theorem dd_Tree_awaitHoles_53 : decode prog_7_method_6_code 53 = .ok (.iload 8, 2) := by decide +kernel
theorem dd_Tree_awaitHoles_55 : decode prog_7_method_6_code 55 = .ok (.iconst (-1), 1) := by decide +kernel
theorem dd_Tree_awaitHoles_56 : decode prog_7_method_6_code 56 = .ok (.if_icmp .ne 10, 3) := by decide +kernel
theorem dd_Tree_awaitHoles_59 : decode prog_7_method_6_code 59 = .ok (.iload 6, 2) := by decide +kernel
theorem dd_Tree_awaitHoles_61 : decode prog_7_method_6_code 61 = .ok (.iconst 1, 1) := by decide +kernel
theorem dd_Tree_awaitHoles_62 : decode prog_7_method_6_code 62 = .ok (.isub, 1) := by decide +kernel
theorem dd_Tree_awaitHoles_63 : decode prog_7_method_6_code 63 = .ok (.goto 15, 3) := by decide +kernel
theorem dd_Tree_awaitHoles_66 : decode prog_7_method_6_code 66 = .ok (.aload_n 0, 1) := by decide +kernel
theorem dd_Tree_awaitHoles_67 : decode prog_7_method_6_code 67 = .ok (.getfield 53, 3) := by decide +kernel
theorem dd_Tree_awaitHoles_70 : decode prog_7_method_6_code 70 = .ok (.iload 7, 2) := by decide +kernel
theorem dd_Tree_awaitHoles_72 : decode prog_7_method_6_code 72 = .ok (.iload_n 2, 1) := by decide +kernel
theorem dd_Tree_awaitHoles_73 : decode prog_7_method_6_code 73 = .ok (.iload 6, 2) := by decide +kernel
theorem dd_Tree_awaitHoles_75 : decode prog_7_method_6_code 75 = .ok (.invokevirtual 83, 3) := by decide +kernel
theorem dd_Tree_awaitHoles_78 : decode prog_7_method_6_code 78 = .ok (.istore 9, 2) := by decide +kernel
theorem dd_Tree_awaitHoles_80 : decode prog_7_method_6_code 80 = .ok (.iload 8, 2) := by decide +kernel
theorem dd_Tree_awaitHoles_82 : decode prog_7_method_6_code 82 = .ok (.iconst (-1), 1) := by decide +kernel
theorem dd_Tree_awaitHoles_83 : decode prog_7_method_6_code 83 = .ok (.if_icmp .eq 17, 3) := by decide +kernel
theorem dd_Tree_awaitHoles_86 : decode prog_7_method_6_code 86 = .ok (.aload_n 0, 1) := by decide +kernel
theorem dd_Tree_awaitHoles_87 : decode prog_7_method_6_code 87 = .ok (.iload 9, 2) := by decide +kernel
theorem dd_Tree_awaitHoles_89 : decode prog_7_method_6_code 89 = .ok (.iload 6, 2) := by decide +kernel
theorem dd_Tree_awaitHoles_91 : decode prog_7_method_6_code 91 = .ok (.iload 8, 2) := by decide +kernel
theorem dd_Tree_awaitHoles_93 : decode prog_7_method_6_code 93 = .ok (.iload_n 1, 1) := by decide +kernel
theorem dd_Tree_awaitHoles_94 : decode prog_7_method_6_code 94 = .ok (.invokevirtual 57, 3) := by decide +kernel
theorem dd_Tree_awaitHoles_97 : decode prog_7_method_6_code 97 = .ok (.iinc 5 1, 3) := by decide +kernel
theorem dd_Tree_awaitHoles_100 : decode prog_7_method_6_code 100 = .ok (.iload 9, 2) := by decide +kernel
theorem dd_Tree_awaitHoles_102 : decode prog_7_method_6_code 102 = .ok (.istore 6, 2) := by decide +kernel
theorem dd_Tree_awaitHoles_104 : decode prog_7_method_6_code 104 = .ok (.iinc 7 (-1), 3) := by decide +kernel
theorem dd_Tree_awaitHoles_107 : decode prog_7_method_6_code 107 = .ok (.goto (-73), 3) := by decide +kernel
theorem dd_Tree_awaitHoles_110 : decode prog_7_method_6_code 110 = .ok (.iload 5, 2) := by decide +kernel
theorem dd_Tree_awaitHoles_112 : decode prog_7_method_6_code 112 = .ok (.ireturn, 1) := by decide +kernel
theorem dd_Tree_growNode_0 : decode prog_7_method_5_code 0 = .ok (.aload_n 0, 1) := by decide +kernel
theorem dd_Tree_growNode_1 : decode prog_7_method_5_code 1 = .ok (.getfield 15, 3) := by decide +kernel
theorem dd_Tree_growNode_4 : decode prog_7_method_5_code 4 = .ok (.iload_n 1, 1) := by decide +kernel
theorem dd_Tree_growNode_5 : decode prog_7_method_5_code 5 = .ok (.aload_n 0, 1) := by decide +kernel
theorem dd_Tree_growNode_6 : decode prog_7_method_5_code 6 = .ok (.getfield 53, 3) := by decide +kernel
theorem dd_Tree_growNode_9 : decode prog_7_method_5_code 9 = .ok (.iload_n 2, 1) := by decide +kernel
theorem dd_Tree_growNode_10 : decode prog_7_method_5_code 10 = .ok (.iload_n 3, 1) := by decide +kernel
theorem dd_Tree_growNode_11 : decode prog_7_method_5_code 11 = .ok (.aload_n 0, 1) := by decide +kernel
theorem dd_Tree_growNode_12 : decode prog_7_method_5_code 12 = .ok (.getfield 43, 3) := by decide +kernel
theorem dd_Tree_growNode_15 : decode prog_7_method_5_code 15 = .ok (.aload_n 0, 1) := by decide +kernel
theorem dd_Tree_growNode_16 : decode prog_7_method_5_code 16 = .ok (.getfield 34, 3) := by decide +kernel
theorem dd_Tree_growNode_19 : decode prog_7_method_5_code 19 = .ok (.iaload, 1) := by decide +kernel
theorem dd_Tree_growNode_20 : decode prog_7_method_5_code 20 = .ok (.invokevirtual 65, 3) := by decide +kernel
theorem dd_Tree_growNode_23 : decode prog_7_method_5_code 23 = .ok (.iastore, 1) := by decide +kernel
theorem dd_Tree_growNode_24 : decode prog_7_method_5_code 24 = .ok (.aload_n 0, 1) := by decide +kernel
theorem dd_Tree_growNode_25 : decode prog_7_method_5_code 25 = .ok (.getfield 22, 3) := by decide +kernel
theorem dd_Tree_growNode_28 : decode prog_7_method_5_code 28 = .ok (.iload_n 1, 1) := by decide +kernel
theorem dd_Tree_growNode_29 : decode prog_7_method_5_code 29 = .ok (.iload_n 2, 1) := by decide +kernel
theorem dd_Tree_growNode_30 : decode prog_7_method_5_code 30 = .ok (.iastore, 1) := by decide +kernel
theorem dd_Tree_growNode_31 : decode prog_7_method_5_code 31 = .ok (.aload_n 0, 1) := by decide +kernel
theorem dd_Tree_growNode_32 : decode prog_7_method_5_code 32 = .ok (.getfield 25, 3) := by decide +kernel
theorem dd_Tree_growNode_35 : decode prog_7_method_5_code 35 = .ok (.iload_n 1, 1) := by decide +kernel
theorem dd_Tree_growNode_36 : decode prog_7_method_5_code 36 = .ok (.iload_n 3, 1) := by decide +kernel
theorem dd_Tree_growNode_37 : decode prog_7_method_5_code 37 = .ok (.iload_n 2, 1) := by decide +kernel
theorem dd_Tree_growNode_38 : decode prog_7_method_5_code 38 = .ok (.isub, 1) := by decide +kernel
theorem dd_Tree_growNode_39 : decode prog_7_method_5_code 39 = .ok (.iastore, 1) := by decide +kernel
theorem dd_Tree_growNode_40 : decode prog_7_method_5_code 40 = .ok (.aload_n 0, 1) := by decide +kernel
theorem dd_Tree_growNode_41 : decode prog_7_method_5_code 41 = .ok (.getfield 28, 3) := by decide +kernel
theorem dd_Tree_growNode_44 : decode prog_7_method_5_code 44 = .ok (.iload_n 1, 1) := by decide +kernel
theorem dd_Tree_growNode_45 : decode prog_7_method_5_code 45 = .ok (.aload_n 0, 1) := by decide +kernel
theorem dd_Tree_growNode_46 : decode prog_7_method_5_code 46 = .ok (.getfield 46, 3) := by decide +kernel
theorem dd_Tree_growNode_49 : decode prog_7_method_5_code 49 = .ok (.aload_n 0, 1) := by decide +kernel
theorem dd_Tree_growNode_50 : decode prog_7_method_5_code 50 = .ok (.getfield 34, 3) := by decide +kernel
theorem dd_Tree_growNode_53 : decode prog_7_method_5_code 53 = .ok (.iaload, 1) := by decide +kernel
theorem dd_Tree_growNode_54 : decode prog_7_method_5_code 54 = .ok (.iastore, 1) := by decide +kernel
theorem dd_Tree_growNode_55 : decode prog_7_method_5_code 55 = .ok (.aload_n 0, 1) := by decide +kernel
theorem dd_Tree_growNode_56 : decode prog_7_method_5_code 56 = .ok (.getfield 31, 3) := by decide +kernel
theorem dd_Tree_growNode_59 : decode prog_7_method_5_code 59 = .ok (.iload_n 1, 1) := by decide +kernel
theorem dd_Tree_growNode_60 : decode prog_7_method_5_code 60 = .ok (.aload_n 0, 1) := by decide +kernel
theorem dd_Tree_growNode_61 : decode prog_7_method_5_code 61 = .ok (.getfield 43, 3) := by decide +kernel
theorem dd_Tree_growNode_64 : decode prog_7_method_5_code 64 = .ok (.aload_n 0, 1) := by decide +kernel
theorem dd_Tree_growNode_65 : decode prog_7_method_5_code 65 = .ok (.getfield 34, 3) := by decide +kernel
theorem dd_Tree_growNode_68 : decode prog_7_method_5_code 68 = .ok (.iaload, 1) := by decide +kernel
theorem dd_Tree_growNode_69 : decode prog_7_method_5_code 69 = .ok (.iastore, 1) := by decide +kernel
theorem dd_Tree_growNode_70 : decode prog_7_method_5_code 70 = .ok (.aload_n 0, 1) := by decide +kernel
theorem dd_Tree_growNode_71 : decode prog_7_method_5_code 71 = .ok (.getfield 19, 3) := by decide +kernel
theorem dd_Tree_growNode_74 : decode prog_7_method_5_code 74 = .ok (.iload_n 1, 1) := by decide +kernel
theorem dd_Tree_growNode_75 : decode prog_7_method_5_code 75 = .ok (.aload_n 0, 1) := by decide +kernel
theorem dd_Tree_growNode_76 : decode prog_7_method_5_code 76 = .ok (.iload_n 1, 1) := by decide +kernel
theorem dd_Tree_growNode_77 : decode prog_7_method_5_code 77 = .ok (.iload_n 2, 1) := by decide +kernel
theorem dd_Tree_growNode_78 : decode prog_7_method_5_code 78 = .ok (.iload_n 3, 1) := by decide +kernel
theorem dd_Tree_growNode_79 : decode prog_7_method_5_code 79 = .ok (.invokevirtual 71, 3) := by decide +kernel
theorem dd_Tree_growNode_82 : decode prog_7_method_5_code 82 = .ok (.iastore, 1) := by decide +kernel
theorem dd_Tree_growNode_83 : decode prog_7_method_5_code 83 = .ok (.return_, 1) := by decide +kernel
theorem dd_Tree_grow_0 : decode prog_7_method_3_code 0 = .ok (.aload_n 0, 1) := by decide +kernel
theorem dd_Tree_grow_1 : decode prog_7_method_3_code 1 = .ok (.iconst 0, 1) := by decide +kernel
theorem dd_Tree_grow_2 : decode prog_7_method_3_code 2 = .ok (.putfield 9, 3) := by decide +kernel
theorem dd_Tree_grow_5 : decode prog_7_method_3_code 5 = .ok (.aload_n 0, 1) := by decide +kernel
theorem dd_Tree_grow_6 : decode prog_7_method_3_code 6 = .ok (.iconst 0, 1) := by decide +kernel
theorem dd_Tree_grow_7 : decode prog_7_method_3_code 7 = .ok (.putfield 34, 3) := by decide +kernel
theorem dd_Tree_grow_10 : decode prog_7_method_3_code 10 = .ok (.aload_n 0, 1) := by decide +kernel
theorem dd_Tree_grow_11 : decode prog_7_method_3_code 11 = .ok (.iconst 0, 1) := by decide +kernel
theorem dd_Tree_grow_12 : decode prog_7_method_3_code 12 = .ok (.iload_n 1, 1) := by decide +kernel
theorem dd_Tree_grow_13 : decode prog_7_method_3_code 13 = .ok (.iconst 0, 1) := by decide +kernel
theorem dd_Tree_grow_14 : decode prog_7_method_3_code 14 = .ok (.iconst (-1), 1) := by decide +kernel
theorem dd_Tree_grow_15 : decode prog_7_method_3_code 15 = .ok (.invokevirtual 57, 3) := by decide +kernel
theorem dd_Tree_grow_18 : decode prog_7_method_3_code 18 = .ok (.iconst 0, 1) := by decide +kernel
theorem dd_Tree_grow_19 : decode prog_7_method_3_code 19 = .ok (.istore_n 2, 1) := by decide +kernel
theorem dd_Tree_grow_20 : decode prog_7_method_3_code 20 = .ok (.iload_n 2, 1) := by decide +kernel
theorem dd_Tree_grow_21 : decode prog_7_method_3_code 21 = .ok (.bipush 30, 2) := by decide +kernel
theorem dd_Tree_grow_23 : decode prog_7_method_3_code 23 = .ok (.if_icmp .ge 59, 3) := by decide +kernel
theorem dd_Tree_grow_26 : decode prog_7_method_3_code 26 = .ok (.aload_n 0, 1) := by decide +kernel
theorem dd_Tree_grow_27 : decode prog_7_method_3_code 27 = .ok (.getfield 34, 3) := by decide +kernel
theorem dd_Tree_grow_30 : decode prog_7_method_3_code 30 = .ok (.ifCond .le 52, 3) := by decide +kernel
theorem dd_Tree_grow_33 : decode prog_7_method_3_code 33 = .ok (.aload_n 0, 1) := by decide +kernel
theorem dd_Tree_grow_34 : decode prog_7_method_3_code 34 = .ok (.dup, 1) := by decide +kernel
theorem dd_Tree_grow_35 : decode prog_7_method_3_code 35 = .ok (.getfield 34, 3) := by decide +kernel
theorem dd_Tree_grow_38 : decode prog_7_method_3_code 38 = .ok (.iconst 1, 1) := by decide +kernel
theorem dd_Tree_grow_39 : decode prog_7_method_3_code 39 = .ok (.isub, 1) := by decide +kernel
theorem dd_Tree_grow_40 : decode prog_7_method_3_code 40 = .ok (.putfield 34, 3) := by decide +kernel
theorem dd_Tree_grow_43 : decode prog_7_method_3_code 43 = .ok (.aload_n 0, 1) := by decide +kernel
theorem dd_Tree_grow_44 : decode prog_7_method_3_code 44 = .ok (.iload_n 2, 1) := by decide +kernel
theorem dd_Tree_grow_45 : decode prog_7_method_3_code 45 = .ok (.aload_n 0, 1) := by decide +kernel
theorem dd_Tree_grow_46 : decode prog_7_method_3_code 46 = .ok (.getfield 37, 3) := by decide +kernel
theorem dd_Tree_grow_49 : decode prog_7_method_3_code 49 = .ok (.aload_n 0, 1) := by decide +kernel
theorem dd_Tree_grow_50 : decode prog_7_method_3_code 50 = .ok (.getfield 34, 3) := by decide +kernel
theorem dd_Tree_grow_53 : decode prog_7_method_3_code 53 = .ok (.iaload, 1) := by decide +kernel
theorem dd_Tree_grow_54 : decode prog_7_method_3_code 54 = .ok (.aload_n 0, 1) := by decide +kernel
theorem dd_Tree_grow_55 : decode prog_7_method_3_code 55 = .ok (.getfield 40, 3) := by decide +kernel
theorem dd_Tree_grow_58 : decode prog_7_method_3_code 58 = .ok (.aload_n 0, 1) := by decide +kernel
theorem dd_Tree_grow_59 : decode prog_7_method_3_code 59 = .ok (.getfield 34, 3) := by decide +kernel
theorem dd_Tree_grow_62 : decode prog_7_method_3_code 62 = .ok (.iaload, 1) := by decide +kernel
theorem dd_Tree_grow_63 : decode prog_7_method_3_code 63 = .ok (.invokevirtual 61, 3) := by decide +kernel
theorem dd_Tree_grow_66 : decode prog_7_method_3_code 66 = .ok (.aload_n 0, 1) := by decide +kernel
theorem dd_Tree_grow_67 : decode prog_7_method_3_code 67 = .ok (.dup, 1) := by decide +kernel
theorem dd_Tree_grow_68 : decode prog_7_method_3_code 68 = .ok (.getfield 9, 3) := by decide +kernel
theorem dd_Tree_grow_71 : decode prog_7_method_3_code 71 = .ok (.iconst 1, 1) := by decide +kernel
theorem dd_Tree_grow_72 : decode prog_7_method_3_code 72 = .ok (.iadd, 1) := by decide +kernel
theorem dd_Tree_grow_73 : decode prog_7_method_3_code 73 = .ok (.putfield 9, 3) := by decide +kernel
theorem dd_Tree_grow_76 : decode prog_7_method_3_code 76 = .ok (.iinc 2 1, 3) := by decide +kernel
theorem dd_Tree_grow_79 : decode prog_7_method_3_code 79 = .ok (.goto (-59), 3) := by decide +kernel
theorem dd_Tree_grow_82 : decode prog_7_method_3_code 82 = .ok (.return_, 1) := by decide +kernel
theorem dd_Chart_emptyRow_0 : decode prog_2_method_4_code 0 = .ok (.aload_n 0, 1) := by decide +kernel
theorem dd_Chart_emptyRow_1 : decode prog_2_method_4_code 1 = .ok (.getfield 9, 3) := by decide +kernel
theorem dd_Chart_emptyRow_4 : decode prog_2_method_4_code 4 = .ok (.iload_n 1, 1) := by decide +kernel
theorem dd_Chart_emptyRow_5 : decode prog_2_method_4_code 5 = .ok (.bipush 98, 2) := by decide +kernel
theorem dd_Chart_emptyRow_7 : decode prog_2_method_4_code 7 = .ok (.imul, 1) := by decide +kernel
theorem dd_Chart_emptyRow_8 : decode prog_2_method_4_code 8 = .ok (.iload_n 1, 1) := by decide +kernel
theorem dd_Chart_emptyRow_9 : decode prog_2_method_4_code 9 = .ok (.iconst 1, 1) := by decide +kernel
theorem dd_Chart_emptyRow_10 : decode prog_2_method_4_code 10 = .ok (.iadd, 1) := by decide +kernel
theorem dd_Chart_emptyRow_11 : decode prog_2_method_4_code 11 = .ok (.bipush 98, 2) := by decide +kernel
theorem dd_Chart_emptyRow_13 : decode prog_2_method_4_code 13 = .ok (.imul, 1) := by decide +kernel
theorem dd_Chart_emptyRow_14 : decode prog_2_method_4_code 14 = .ok (.iconst 0, 1) := by decide +kernel
theorem dd_Chart_emptyRow_15 : decode prog_2_method_4_code 15 = .ok (.invokestatic 48, 3) := by decide +kernel
theorem dd_Chart_emptyRow_18 : decode prog_2_method_4_code 18 = .ok (.return_, 1) := by decide +kernel
theorem dd_Chart_scan_0 : decode prog_2_method_6_code 0 = .ok (.iload_n 1, 1) := by decide +kernel
theorem dd_Chart_scan_1 : decode prog_2_method_6_code 1 = .ok (.bipush 98, 2) := by decide +kernel
theorem dd_Chart_scan_3 : decode prog_2_method_6_code 3 = .ok (.imul, 1) := by decide +kernel
theorem dd_Chart_scan_4 : decode prog_2_method_6_code 4 = .ok (.istore 4, 2) := by decide +kernel
theorem dd_Chart_scan_6 : decode prog_2_method_6_code 6 = .ok (.iload 4, 2) := by decide +kernel
theorem dd_Chart_scan_8 : decode prog_2_method_6_code 8 = .ok (.bipush 98, 2) := by decide +kernel
theorem dd_Chart_scan_10 : decode prog_2_method_6_code 10 = .ok (.iadd, 1) := by decide +kernel
theorem dd_Chart_scan_11 : decode prog_2_method_6_code 11 = .ok (.istore 5, 2) := by decide +kernel
theorem dd_Chart_scan_13 : decode prog_2_method_6_code 13 = .ok (.iconst 0, 1) := by decide +kernel
theorem dd_Chart_scan_14 : decode prog_2_method_6_code 14 = .ok (.istore 6, 2) := by decide +kernel
theorem dd_Chart_scan_16 : decode prog_2_method_6_code 16 = .ok (.iconst 0, 1) := by decide +kernel
theorem dd_Chart_scan_17 : decode prog_2_method_6_code 17 = .ok (.istore 7, 2) := by decide +kernel
theorem dd_Chart_scan_19 : decode prog_2_method_6_code 19 = .ok (.iload 7, 2) := by decide +kernel
theorem dd_Chart_scan_21 : decode prog_2_method_6_code 21 = .ok (.aload_n 0, 1) := by decide +kernel
theorem dd_Chart_scan_22 : decode prog_2_method_6_code 22 = .ok (.getfield 21, 3) := by decide +kernel
theorem dd_Chart_scan_25 : decode prog_2_method_6_code 25 = .ok (.invokevirtual 54, 3) := by decide +kernel
theorem dd_Chart_scan_28 : decode prog_2_method_6_code 28 = .ok (.if_icmp .ge 62, 3) := by decide +kernel
theorem dd_Chart_scan_31 : decode prog_2_method_6_code 31 = .ok (.aload_n 0, 1) := by decide +kernel
theorem dd_Chart_scan_32 : decode prog_2_method_6_code 32 = .ok (.getfield 9, 3) := by decide +kernel
theorem dd_Chart_scan_35 : decode prog_2_method_6_code 35 = .ok (.iload 4, 2) := by decide +kernel
theorem dd_Chart_scan_37 : decode prog_2_method_6_code 37 = .ok (.iload 7, 2) := by decide +kernel
theorem dd_Chart_scan_39 : decode prog_2_method_6_code 39 = .ok (.iadd, 1) := by decide +kernel
theorem dd_Chart_scan_40 : decode prog_2_method_6_code 40 = .ok (.iaload, 1) := by decide +kernel
theorem dd_Chart_scan_41 : decode prog_2_method_6_code 41 = .ok (.ifCond .eq 43, 3) := by decide +kernel
theorem dd_Chart_scan_44 : decode prog_2_method_6_code 44 = .ok (.aload_n 0, 1) := by decide +kernel
theorem dd_Chart_scan_45 : decode prog_2_method_6_code 45 = .ok (.getfield 21, 3) := by decide +kernel
theorem dd_Chart_scan_48 : decode prog_2_method_6_code 48 = .ok (.getfield 60, 3) := by decide +kernel
theorem dd_Chart_scan_51 : decode prog_2_method_6_code 51 = .ok (.iload 7, 2) := by decide +kernel
theorem dd_Chart_scan_53 : decode prog_2_method_6_code 53 = .ok (.laload, 1) := by decide +kernel
theorem dd_Chart_scan_54 : decode prog_2_method_6_code 54 = .ok (.lload_n 2, 1) := by decide +kernel
theorem dd_Chart_scan_55 : decode prog_2_method_6_code 55 = .ok (.lcmp, 1) := by decide +kernel
theorem dd_Chart_scan_56 : decode prog_2_method_6_code 56 = .ok (.ifCond .ne 28, 3) := by decide +kernel
theorem dd_Chart_scan_59 : decode prog_2_method_6_code 59 = .ok (.aload_n 0, 1) := by decide +kernel
theorem dd_Chart_scan_60 : decode prog_2_method_6_code 60 = .ok (.getfield 9, 3) := by decide +kernel
theorem dd_Chart_scan_63 : decode prog_2_method_6_code 63 = .ok (.iload 5, 2) := by decide +kernel
theorem dd_Chart_scan_65 : decode prog_2_method_6_code 65 = .ok (.iload 7, 2) := by decide +kernel
theorem dd_Chart_scan_67 : decode prog_2_method_6_code 67 = .ok (.iadd, 1) := by decide +kernel
theorem dd_Chart_scan_68 : decode prog_2_method_6_code 68 = .ok (.iconst 1, 1) := by decide +kernel
theorem dd_Chart_scan_69 : decode prog_2_method_6_code 69 = .ok (.iadd, 1) := by decide +kernel
theorem dd_Chart_scan_70 : decode prog_2_method_6_code 70 = .ok (.aload_n 0, 1) := by decide +kernel
theorem dd_Chart_scan_71 : decode prog_2_method_6_code 71 = .ok (.getfield 9, 3) := by decide +kernel
theorem dd_Chart_scan_74 : decode prog_2_method_6_code 74 = .ok (.iload 4, 2) := by decide +kernel
theorem dd_Chart_scan_76 : decode prog_2_method_6_code 76 = .ok (.iload 7, 2) := by decide +kernel
theorem dd_Chart_scan_78 : decode prog_2_method_6_code 78 = .ok (.iadd, 1) := by decide +kernel
theorem dd_Chart_scan_79 : decode prog_2_method_6_code 79 = .ok (.iaload, 1) := by decide +kernel
theorem dd_Chart_scan_80 : decode prog_2_method_6_code 80 = .ok (.iastore, 1) := by decide +kernel
theorem dd_Chart_scan_81 : decode prog_2_method_6_code 81 = .ok (.iconst 1, 1) := by decide +kernel
theorem dd_Chart_scan_82 : decode prog_2_method_6_code 82 = .ok (.istore 6, 2) := by decide +kernel
theorem dd_Chart_scan_84 : decode prog_2_method_6_code 84 = .ok (.iinc 7 1, 3) := by decide +kernel
theorem dd_Chart_scan_87 : decode prog_2_method_6_code 87 = .ok (.goto (-68), 3) := by decide +kernel
theorem dd_Chart_scan_90 : decode prog_2_method_6_code 90 = .ok (.iload 6, 2) := by decide +kernel
theorem dd_Chart_scan_92 : decode prog_2_method_6_code 92 = .ok (.ireturn, 1) := by decide +kernel
theorem dd_Chart_isReached_0 : decode prog_2_method_5_code 0 = .ok (.aload_n 0, 1) := by decide +kernel
theorem dd_Chart_isReached_1 : decode prog_2_method_5_code 1 = .ok (.getfield 9, 3) := by decide +kernel
theorem dd_Chart_isReached_4 : decode prog_2_method_5_code 4 = .ok (.iload_n 2, 1) := by decide +kernel
theorem dd_Chart_isReached_5 : decode prog_2_method_5_code 5 = .ok (.bipush 98, 2) := by decide +kernel
theorem dd_Chart_isReached_7 : decode prog_2_method_5_code 7 = .ok (.imul, 1) := by decide +kernel
theorem dd_Chart_isReached_8 : decode prog_2_method_5_code 8 = .ok (.iload_n 3, 1) := by decide +kernel
theorem dd_Chart_isReached_9 : decode prog_2_method_5_code 9 = .ok (.iadd, 1) := by decide +kernel
theorem dd_Chart_isReached_10 : decode prog_2_method_5_code 10 = .ok (.iaload, 1) := by decide +kernel
theorem dd_Chart_isReached_11 : decode prog_2_method_5_code 11 = .ok (.iload_n 1, 1) := by decide +kernel
theorem dd_Chart_isReached_12 : decode prog_2_method_5_code 12 = .ok (.iushr, 1) := by decide +kernel
theorem dd_Chart_isReached_13 : decode prog_2_method_5_code 13 = .ok (.iconst 1, 1) := by decide +kernel
theorem dd_Chart_isReached_14 : decode prog_2_method_5_code 14 = .ok (.iand, 1) := by decide +kernel
theorem dd_Chart_isReached_15 : decode prog_2_method_5_code 15 = .ok (.ifCond .eq 7, 3) := by decide +kernel
theorem dd_Chart_isReached_18 : decode prog_2_method_5_code 18 = .ok (.iconst 1, 1) := by decide +kernel
theorem dd_Chart_isReached_19 : decode prog_2_method_5_code 19 = .ok (.goto 4, 3) := by decide +kernel
theorem dd_Chart_isReached_22 : decode prog_2_method_5_code 22 = .ok (.iconst 0, 1) := by decide +kernel
theorem dd_Chart_isReached_23 : decode prog_2_method_5_code 23 = .ok (.ireturn, 1) := by decide +kernel
theorem dd_Chart_highestTerm_0 : decode prog_2_method_8_code 0 = .ok (.iconst (-1), 1) := by decide +kernel
theorem dd_Chart_highestTerm_1 : decode prog_2_method_8_code 1 = .ok (.istore_n 3, 1) := by decide +kernel
theorem dd_Chart_highestTerm_2 : decode prog_2_method_8_code 2 = .ok (.iconst 0, 1) := by decide +kernel
theorem dd_Chart_highestTerm_3 : decode prog_2_method_8_code 3 = .ok (.istore 4, 2) := by decide +kernel
theorem dd_Chart_highestTerm_5 : decode prog_2_method_8_code 5 = .ok (.iload 4, 2) := by decide +kernel
theorem dd_Chart_highestTerm_7 : decode prog_2_method_8_code 7 = .ok (.aload_n 0, 1) := by decide +kernel
theorem dd_Chart_highestTerm_8 : decode prog_2_method_8_code 8 = .ok (.getfield 21, 3) := by decide +kernel
theorem dd_Chart_highestTerm_11 : decode prog_2_method_8_code 11 = .ok (.getfield 68, 3) := by decide +kernel
theorem dd_Chart_highestTerm_14 : decode prog_2_method_8_code 14 = .ok (.if_icmp .ge 52, 3) := by decide +kernel
theorem dd_Chart_highestTerm_17 : decode prog_2_method_8_code 17 = .ok (.aload_n 0, 1) := by decide +kernel
theorem dd_Chart_highestTerm_18 : decode prog_2_method_8_code 18 = .ok (.getfield 21, 3) := by decide +kernel
theorem dd_Chart_highestTerm_21 : decode prog_2_method_8_code 21 = .ok (.getfield 72, 3) := by decide +kernel
theorem dd_Chart_highestTerm_24 : decode prog_2_method_8_code 24 = .ok (.iload 4, 2) := by decide +kernel
theorem dd_Chart_highestTerm_26 : decode prog_2_method_8_code 26 = .ok (.iaload, 1) := by decide +kernel
theorem dd_Chart_highestTerm_27 : decode prog_2_method_8_code 27 = .ok (.iload_n 3, 1) := by decide +kernel
theorem dd_Chart_highestTerm_28 : decode prog_2_method_8_code 28 = .ok (.if_icmp .le 32, 3) := by decide +kernel
theorem dd_Chart_highestTerm_31 : decode prog_2_method_8_code 31 = .ok (.aload_n 0, 1) := by decide +kernel
theorem dd_Chart_highestTerm_32 : decode prog_2_method_8_code 32 = .ok (.iload_n 1, 1) := by decide +kernel
theorem dd_Chart_highestTerm_33 : decode prog_2_method_8_code 33 = .ok (.iload_n 2, 1) := by decide +kernel
theorem dd_Chart_highestTerm_34 : decode prog_2_method_8_code 34 = .ok (.aload_n 0, 1) := by decide +kernel
theorem dd_Chart_highestTerm_35 : decode prog_2_method_8_code 35 = .ok (.getfield 21, 3) := by decide +kernel
theorem dd_Chart_highestTerm_38 : decode prog_2_method_8_code 38 = .ok (.iload 4, 2) := by decide +kernel
theorem dd_Chart_highestTerm_40 : decode prog_2_method_8_code 40 = .ok (.invokevirtual 75, 3) := by decide +kernel
theorem dd_Chart_highestTerm_43 : decode prog_2_method_8_code 43 = .ok (.invokevirtual 78, 3) := by decide +kernel
theorem dd_Chart_highestTerm_46 : decode prog_2_method_8_code 46 = .ok (.ifCond .eq 14, 3) := by decide +kernel
theorem dd_Chart_highestTerm_49 : decode prog_2_method_8_code 49 = .ok (.aload_n 0, 1) := by decide +kernel
theorem dd_Chart_highestTerm_50 : decode prog_2_method_8_code 50 = .ok (.getfield 21, 3) := by decide +kernel
theorem dd_Chart_highestTerm_53 : decode prog_2_method_8_code 53 = .ok (.getfield 72, 3) := by decide +kernel
theorem dd_Chart_highestTerm_56 : decode prog_2_method_8_code 56 = .ok (.iload 4, 2) := by decide +kernel
theorem dd_Chart_highestTerm_58 : decode prog_2_method_8_code 58 = .ok (.iaload, 1) := by decide +kernel
theorem dd_Chart_highestTerm_59 : decode prog_2_method_8_code 59 = .ok (.istore_n 3, 1) := by decide +kernel
theorem dd_Chart_highestTerm_60 : decode prog_2_method_8_code 60 = .ok (.iinc 4 1, 3) := by decide +kernel
theorem dd_Chart_highestTerm_63 : decode prog_2_method_8_code 63 = .ok (.goto (-58), 3) := by decide +kernel
theorem dd_Chart_highestTerm_66 : decode prog_2_method_8_code 66 = .ok (.iload_n 3, 1) := by decide +kernel
theorem dd_Chart_highestTerm_67 : decode prog_2_method_8_code 67 = .ok (.ireturn, 1) := by decide +kernel
theorem dd_Chart_fillHoles_0 : decode prog_2_method_9_code 0 = .ok (.iload_n 1, 1) := by decide +kernel
theorem dd_Chart_fillHoles_1 : decode prog_2_method_9_code 1 = .ok (.bipush 98, 2) := by decide +kernel
theorem dd_Chart_fillHoles_3 : decode prog_2_method_9_code 3 = .ok (.imul, 1) := by decide +kernel
theorem dd_Chart_fillHoles_4 : decode prog_2_method_9_code 4 = .ok (.istore 4, 2) := by decide +kernel
theorem dd_Chart_fillHoles_6 : decode prog_2_method_9_code 6 = .ok (.iload_n 2, 1) := by decide +kernel
theorem dd_Chart_fillHoles_7 : decode prog_2_method_9_code 7 = .ok (.bipush 98, 2) := by decide +kernel
theorem dd_Chart_fillHoles_9 : decode prog_2_method_9_code 9 = .ok (.imul, 1) := by decide +kernel
theorem dd_Chart_fillHoles_10 : decode prog_2_method_9_code 10 = .ok (.istore 5, 2) := by decide +kernel
theorem dd_Chart_fillHoles_12 : decode prog_2_method_9_code 12 = .ok (.iconst 0, 1) := by decide +kernel
theorem dd_Chart_fillHoles_13 : decode prog_2_method_9_code 13 = .ok (.istore 6, 2) := by decide +kernel
theorem dd_Chart_fillHoles_15 : decode prog_2_method_9_code 15 = .ok (.iload 6, 2) := by decide +kernel
theorem dd_Chart_fillHoles_17 : decode prog_2_method_9_code 17 = .ok (.aload_n 0, 1) := by decide +kernel
theorem dd_Chart_fillHoles_18 : decode prog_2_method_9_code 18 = .ok (.getfield 21, 3) := by decide +kernel
theorem dd_Chart_fillHoles_21 : decode prog_2_method_9_code 21 = .ok (.invokevirtual 54, 3) := by decide +kernel
theorem dd_Chart_fillHoles_24 : decode prog_2_method_9_code 24 = .ok (.if_icmp .ge 58, 3) := by decide +kernel
theorem dd_Chart_fillHoles_27 : decode prog_2_method_9_code 27 = .ok (.aload_n 0, 1) := by decide +kernel
theorem dd_Chart_fillHoles_28 : decode prog_2_method_9_code 28 = .ok (.getfield 21, 3) := by decide +kernel
theorem dd_Chart_fillHoles_31 : decode prog_2_method_9_code 31 = .ok (.getfield 82, 3) := by decide +kernel
theorem dd_Chart_fillHoles_34 : decode prog_2_method_9_code 34 = .ok (.iload 6, 2) := by decide +kernel
theorem dd_Chart_fillHoles_36 : decode prog_2_method_9_code 36 = .ok (.iaload, 1) := by decide +kernel
theorem dd_Chart_fillHoles_37 : decode prog_2_method_9_code 37 = .ok (.istore 7, 2) := by decide +kernel
theorem dd_Chart_fillHoles_39 : decode prog_2_method_9_code 39 = .ok (.iload 7, 2) := by decide +kernel
theorem dd_Chart_fillHoles_41 : decode prog_2_method_9_code 41 = .ok (.iconst (-1), 1) := by decide +kernel
theorem dd_Chart_fillHoles_42 : decode prog_2_method_9_code 42 = .ok (.if_icmp .eq 34, 3) := by decide +kernel
theorem dd_Chart_fillHoles_45 : decode prog_2_method_9_code 45 = .ok (.iload 7, 2) := by decide +kernel
theorem dd_Chart_fillHoles_47 : decode prog_2_method_9_code 47 = .ok (.iload_n 3, 1) := by decide +kernel
theorem dd_Chart_fillHoles_48 : decode prog_2_method_9_code 48 = .ok (.if_icmp .gt 28, 3) := by decide +kernel
theorem dd_Chart_fillHoles_51 : decode prog_2_method_9_code 51 = .ok (.aload_n 0, 1) := by decide +kernel
theorem dd_Chart_fillHoles_52 : decode prog_2_method_9_code 52 = .ok (.getfield 9, 3) := by decide +kernel
theorem dd_Chart_fillHoles_55 : decode prog_2_method_9_code 55 = .ok (.iload 5, 2) := by decide +kernel
theorem dd_Chart_fillHoles_57 : decode prog_2_method_9_code 57 = .ok (.iload 6, 2) := by decide +kernel
theorem dd_Chart_fillHoles_59 : decode prog_2_method_9_code 59 = .ok (.iadd, 1) := by decide +kernel
theorem dd_Chart_fillHoles_60 : decode prog_2_method_9_code 60 = .ok (.iconst 1, 1) := by decide +kernel
theorem dd_Chart_fillHoles_61 : decode prog_2_method_9_code 61 = .ok (.iadd, 1) := by decide +kernel
theorem dd_Chart_fillHoles_62 : decode prog_2_method_9_code 62 = .ok (.dup2, 1) := by decide +kernel
theorem dd_Chart_fillHoles_63 : decode prog_2_method_9_code 63 = .ok (.iaload, 1) := by decide +kernel
theorem dd_Chart_fillHoles_64 : decode prog_2_method_9_code 64 = .ok (.aload_n 0, 1) := by decide +kernel
theorem dd_Chart_fillHoles_65 : decode prog_2_method_9_code 65 = .ok (.getfield 9, 3) := by decide +kernel
theorem dd_Chart_fillHoles_68 : decode prog_2_method_9_code 68 = .ok (.iload 4, 2) := by decide +kernel
theorem dd_Chart_fillHoles_70 : decode prog_2_method_9_code 70 = .ok (.iload 6, 2) := by decide +kernel
theorem dd_Chart_fillHoles_72 : decode prog_2_method_9_code 72 = .ok (.iadd, 1) := by decide +kernel
theorem dd_Chart_fillHoles_73 : decode prog_2_method_9_code 73 = .ok (.iaload, 1) := by decide +kernel
theorem dd_Chart_fillHoles_74 : decode prog_2_method_9_code 74 = .ok (.ior, 1) := by decide +kernel
theorem dd_Chart_fillHoles_75 : decode prog_2_method_9_code 75 = .ok (.iastore, 1) := by decide +kernel
theorem dd_Chart_fillHoles_76 : decode prog_2_method_9_code 76 = .ok (.iinc 6 1, 3) := by decide +kernel
theorem dd_Chart_fillHoles_79 : decode prog_2_method_9_code 79 = .ok (.goto (-64), 3) := by decide +kernel
theorem dd_Chart_fillHoles_82 : decode prog_2_method_9_code 82 = .ok (.return_, 1) := by decide +kernel
theorem dd_Chart_complete_0 : decode prog_2_method_7_code 0 = .ok (.iload_n 1, 1) := by decide +kernel
theorem dd_Chart_complete_1 : decode prog_2_method_7_code 1 = .ok (.iconst 1, 1) := by decide +kernel
theorem dd_Chart_complete_2 : decode prog_2_method_7_code 2 = .ok (.isub, 1) := by decide +kernel
theorem dd_Chart_complete_3 : decode prog_2_method_7_code 3 = .ok (.istore_n 2, 1) := by decide +kernel
theorem dd_Chart_complete_4 : decode prog_2_method_7_code 4 = .ok (.iload_n 2, 1) := by decide +kernel
theorem dd_Chart_complete_5 : decode prog_2_method_7_code 5 = .ok (.ifCond .lt 28, 3) := by decide +kernel
theorem dd_Chart_complete_8 : decode prog_2_method_7_code 8 = .ok (.aload_n 0, 1) := by decide +kernel
theorem dd_Chart_complete_9 : decode prog_2_method_7_code 9 = .ok (.iload_n 2, 1) := by decide +kernel
theorem dd_Chart_complete_10 : decode prog_2_method_7_code 10 = .ok (.iload_n 1, 1) := by decide +kernel
theorem dd_Chart_complete_11 : decode prog_2_method_7_code 11 = .ok (.invokevirtual 44, 3) := by decide +kernel
theorem dd_Chart_complete_14 : decode prog_2_method_7_code 14 = .ok (.istore_n 3, 1) := by decide +kernel
theorem dd_Chart_complete_15 : decode prog_2_method_7_code 15 = .ok (.iload_n 3, 1) := by decide +kernel
theorem dd_Chart_complete_16 : decode prog_2_method_7_code 16 = .ok (.iconst (-1), 1) := by decide +kernel
theorem dd_Chart_complete_17 : decode prog_2_method_7_code 17 = .ok (.if_icmp .eq 10, 3) := by decide +kernel
theorem dd_Chart_complete_20 : decode prog_2_method_7_code 20 = .ok (.aload_n 0, 1) := by decide +kernel
theorem dd_Chart_complete_21 : decode prog_2_method_7_code 21 = .ok (.iload_n 2, 1) := by decide +kernel
theorem dd_Chart_complete_22 : decode prog_2_method_7_code 22 = .ok (.iload_n 1, 1) := by decide +kernel
theorem dd_Chart_complete_23 : decode prog_2_method_7_code 23 = .ok (.iload_n 3, 1) := by decide +kernel
theorem dd_Chart_complete_24 : decode prog_2_method_7_code 24 = .ok (.invokevirtual 64, 3) := by decide +kernel
theorem dd_Chart_complete_27 : decode prog_2_method_7_code 27 = .ok (.iinc 2 (-1), 3) := by decide +kernel
theorem dd_Chart_complete_30 : decode prog_2_method_7_code 30 = .ok (.goto (-26), 3) := by decide +kernel
theorem dd_Chart_complete_33 : decode prog_2_method_7_code 33 = .ok (.return_, 1) := by decide +kernel
theorem dd_Chart_leastWanted_0 : decode prog_2_method_10_code 0 = .ok (.bipush 11, 2) := by decide +kernel
theorem dd_Chart_leastWanted_2 : decode prog_2_method_10_code 2 = .ok (.istore_n 2, 1) := by decide +kernel
theorem dd_Chart_leastWanted_3 : decode prog_2_method_10_code 3 = .ok (.iconst 0, 1) := by decide +kernel
theorem dd_Chart_leastWanted_4 : decode prog_2_method_10_code 4 = .ok (.istore_n 3, 1) := by decide +kernel
theorem dd_Chart_leastWanted_5 : decode prog_2_method_10_code 5 = .ok (.iload_n 3, 1) := by decide +kernel
theorem dd_Chart_leastWanted_6 : decode prog_2_method_10_code 6 = .ok (.aload_n 0, 1) := by decide +kernel
theorem dd_Chart_leastWanted_7 : decode prog_2_method_10_code 7 = .ok (.getfield 21, 3) := by decide +kernel
theorem dd_Chart_leastWanted_10 : decode prog_2_method_10_code 10 = .ok (.invokevirtual 54, 3) := by decide +kernel
theorem dd_Chart_leastWanted_13 : decode prog_2_method_10_code 13 = .ok (.if_icmp .ge 49, 3) := by decide +kernel
theorem dd_Chart_leastWanted_16 : decode prog_2_method_10_code 16 = .ok (.aload_n 0, 1) := by decide +kernel
theorem dd_Chart_leastWanted_17 : decode prog_2_method_10_code 17 = .ok (.getfield 21, 3) := by decide +kernel
theorem dd_Chart_leastWanted_20 : decode prog_2_method_10_code 20 = .ok (.getfield 82, 3) := by decide +kernel
theorem dd_Chart_leastWanted_23 : decode prog_2_method_10_code 23 = .ok (.iload_n 3, 1) := by decide +kernel
theorem dd_Chart_leastWanted_24 : decode prog_2_method_10_code 24 = .ok (.iaload, 1) := by decide +kernel
theorem dd_Chart_leastWanted_25 : decode prog_2_method_10_code 25 = .ok (.istore 4, 2) := by decide +kernel
theorem dd_Chart_leastWanted_27 : decode prog_2_method_10_code 27 = .ok (.iload 4, 2) := by decide +kernel
theorem dd_Chart_leastWanted_29 : decode prog_2_method_10_code 29 = .ok (.iconst (-1), 1) := by decide +kernel
theorem dd_Chart_leastWanted_30 : decode prog_2_method_10_code 30 = .ok (.if_icmp .eq 26, 3) := by decide +kernel
theorem dd_Chart_leastWanted_33 : decode prog_2_method_10_code 33 = .ok (.iload 4, 2) := by decide +kernel
theorem dd_Chart_leastWanted_35 : decode prog_2_method_10_code 35 = .ok (.iload_n 2, 1) := by decide +kernel
theorem dd_Chart_leastWanted_36 : decode prog_2_method_10_code 36 = .ok (.if_icmp .ge 20, 3) := by decide +kernel
theorem dd_Chart_leastWanted_39 : decode prog_2_method_10_code 39 = .ok (.aload_n 0, 1) := by decide +kernel
theorem dd_Chart_leastWanted_40 : decode prog_2_method_10_code 40 = .ok (.getfield 9, 3) := by decide +kernel
theorem dd_Chart_leastWanted_43 : decode prog_2_method_10_code 43 = .ok (.iload_n 1, 1) := by decide +kernel
theorem dd_Chart_leastWanted_44 : decode prog_2_method_10_code 44 = .ok (.bipush 98, 2) := by decide +kernel
theorem dd_Chart_leastWanted_46 : decode prog_2_method_10_code 46 = .ok (.imul, 1) := by decide +kernel
theorem dd_Chart_leastWanted_47 : decode prog_2_method_10_code 47 = .ok (.iload_n 3, 1) := by decide +kernel
theorem dd_Chart_leastWanted_48 : decode prog_2_method_10_code 48 = .ok (.iadd, 1) := by decide +kernel
theorem dd_Chart_leastWanted_49 : decode prog_2_method_10_code 49 = .ok (.iaload, 1) := by decide +kernel
theorem dd_Chart_leastWanted_50 : decode prog_2_method_10_code 50 = .ok (.ifCond .eq 6, 3) := by decide +kernel
theorem dd_Chart_leastWanted_53 : decode prog_2_method_10_code 53 = .ok (.iload 4, 2) := by decide +kernel
theorem dd_Chart_leastWanted_55 : decode prog_2_method_10_code 55 = .ok (.istore_n 2, 1) := by decide +kernel
theorem dd_Chart_leastWanted_56 : decode prog_2_method_10_code 56 = .ok (.iinc 3 1, 3) := by decide +kernel
theorem dd_Chart_leastWanted_59 : decode prog_2_method_10_code 59 = .ok (.goto (-54), 3) := by decide +kernel
theorem dd_Chart_leastWanted_62 : decode prog_2_method_10_code 62 = .ok (.iload_n 2, 1) := by decide +kernel
theorem dd_Chart_leastWanted_63 : decode prog_2_method_10_code 63 = .ok (.ireturn, 1) := by decide +kernel
theorem dd_Chart_leastFirstHole_0 : decode prog_2_method_12_code 0 = .ok (.iload_n 1, 1) := by decide +kernel
theorem dd_Chart_leastFirstHole_1 : decode prog_2_method_12_code 1 = .ok (.istore_n 2, 1) := by decide +kernel
theorem dd_Chart_leastFirstHole_2 : decode prog_2_method_12_code 2 = .ok (.iconst 2, 1) := by decide +kernel
theorem dd_Chart_leastFirstHole_3 : decode prog_2_method_12_code 3 = .ok (.istore_n 3, 1) := by decide +kernel
theorem dd_Chart_leastFirstHole_4 : decode prog_2_method_12_code 4 = .ok (.iload_n 3, 1) := by decide +kernel
theorem dd_Chart_leastFirstHole_5 : decode prog_2_method_12_code 5 = .ok (.aload_n 0, 1) := by decide +kernel
theorem dd_Chart_leastFirstHole_6 : decode prog_2_method_12_code 6 = .ok (.getfield 21, 3) := by decide +kernel
theorem dd_Chart_leastFirstHole_9 : decode prog_2_method_12_code 9 = .ok (.getfield 68, 3) := by decide +kernel
theorem dd_Chart_leastFirstHole_12 : decode prog_2_method_12_code 12 = .ok (.if_icmp .ge 51, 3) := by decide +kernel
theorem dd_Chart_leastFirstHole_15 : decode prog_2_method_12_code 15 = .ok (.aload_n 0, 1) := by decide +kernel
theorem dd_Chart_leastFirstHole_16 : decode prog_2_method_12_code 16 = .ok (.getfield 21, 3) := by decide +kernel
theorem dd_Chart_leastFirstHole_19 : decode prog_2_method_12_code 19 = .ok (.getfield 82, 3) := by decide +kernel
theorem dd_Chart_leastFirstHole_22 : decode prog_2_method_12_code 22 = .ok (.iload_n 3, 1) := by decide +kernel
theorem dd_Chart_leastFirstHole_23 : decode prog_2_method_12_code 23 = .ok (.bipush 7, 2) := by decide +kernel
theorem dd_Chart_leastFirstHole_25 : decode prog_2_method_12_code 25 = .ok (.imul, 1) := by decide +kernel
theorem dd_Chart_leastFirstHole_26 : decode prog_2_method_12_code 26 = .ok (.iaload, 1) := by decide +kernel
theorem dd_Chart_leastFirstHole_27 : decode prog_2_method_12_code 27 = .ok (.istore 4, 2) := by decide +kernel
theorem dd_Chart_leastFirstHole_29 : decode prog_2_method_12_code 29 = .ok (.aload_n 0, 1) := by decide +kernel
theorem dd_Chart_leastFirstHole_30 : decode prog_2_method_12_code 30 = .ok (.getfield 21, 3) := by decide +kernel
theorem dd_Chart_leastFirstHole_33 : decode prog_2_method_12_code 33 = .ok (.getfield 72, 3) := by decide +kernel
theorem dd_Chart_leastFirstHole_36 : decode prog_2_method_12_code 36 = .ok (.iload_n 3, 1) := by decide +kernel
theorem dd_Chart_leastFirstHole_37 : decode prog_2_method_12_code 37 = .ok (.iaload, 1) := by decide +kernel
theorem dd_Chart_leastFirstHole_38 : decode prog_2_method_12_code 38 = .ok (.iload_n 1, 1) := by decide +kernel
theorem dd_Chart_leastFirstHole_39 : decode prog_2_method_12_code 39 = .ok (.if_icmp .lt 18, 3) := by decide +kernel
theorem dd_Chart_leastFirstHole_42 : decode prog_2_method_12_code 42 = .ok (.iload 4, 2) := by decide +kernel
theorem dd_Chart_leastFirstHole_44 : decode prog_2_method_12_code 44 = .ok (.iconst (-1), 1) := by decide +kernel
theorem dd_Chart_leastFirstHole_45 : decode prog_2_method_12_code 45 = .ok (.if_icmp .eq 12, 3) := by decide +kernel
theorem dd_Chart_leastFirstHole_48 : decode prog_2_method_12_code 48 = .ok (.iload 4, 2) := by decide +kernel
theorem dd_Chart_leastFirstHole_50 : decode prog_2_method_12_code 50 = .ok (.iload_n 2, 1) := by decide +kernel
theorem dd_Chart_leastFirstHole_51 : decode prog_2_method_12_code 51 = .ok (.if_icmp .ge 6, 3) := by decide +kernel
theorem dd_Chart_leastFirstHole_54 : decode prog_2_method_12_code 54 = .ok (.iload 4, 2) := by decide +kernel
theorem dd_Chart_leastFirstHole_56 : decode prog_2_method_12_code 56 = .ok (.istore_n 2, 1) := by decide +kernel
theorem dd_Chart_leastFirstHole_57 : decode prog_2_method_12_code 57 = .ok (.iinc 3 1, 3) := by decide +kernel
theorem dd_Chart_leastFirstHole_60 : decode prog_2_method_12_code 60 = .ok (.goto (-56), 3) := by decide +kernel
theorem dd_Chart_leastFirstHole_63 : decode prog_2_method_12_code 63 = .ok (.iload_n 2, 1) := by decide +kernel
theorem dd_Chart_leastFirstHole_64 : decode prog_2_method_12_code 64 = .ok (.ireturn, 1) := by decide +kernel
theorem dd_Chart_predict_0 : decode prog_2_method_11_code 0 = .ok (.iload_n 2, 1) := by decide +kernel
theorem dd_Chart_predict_1 : decode prog_2_method_11_code 1 = .ok (.istore_n 3, 1) := by decide +kernel
theorem dd_Chart_predict_2 : decode prog_2_method_11_code 2 = .ok (.iconst 1, 1) := by decide +kernel
theorem dd_Chart_predict_3 : decode prog_2_method_11_code 3 = .ok (.istore 4, 2) := by decide +kernel
theorem dd_Chart_predict_5 : decode prog_2_method_11_code 5 = .ok (.iconst 0, 1) := by decide +kernel
theorem dd_Chart_predict_6 : decode prog_2_method_11_code 6 = .ok (.istore 5, 2) := by decide +kernel
theorem dd_Chart_predict_8 : decode prog_2_method_11_code 8 = .ok (.iload 5, 2) := by decide +kernel
theorem dd_Chart_predict_10 : decode prog_2_method_11_code 10 = .ok (.bipush 10, 2) := by decide +kernel
theorem dd_Chart_predict_12 : decode prog_2_method_11_code 12 = .ok (.if_icmp .gt 37, 3) := by decide +kernel
theorem dd_Chart_predict_15 : decode prog_2_method_11_code 15 = .ok (.iload 4, 2) := by decide +kernel
theorem dd_Chart_predict_17 : decode prog_2_method_11_code 17 = .ok (.ifCond .eq 32, 3) := by decide +kernel
theorem dd_Chart_predict_20 : decode prog_2_method_11_code 20 = .ok (.iload_n 3, 1) := by decide +kernel
theorem dd_Chart_predict_21 : decode prog_2_method_11_code 21 = .ok (.istore 6, 2) := by decide +kernel
theorem dd_Chart_predict_23 : decode prog_2_method_11_code 23 = .ok (.aload_n 0, 1) := by decide +kernel
theorem dd_Chart_predict_24 : decode prog_2_method_11_code 24 = .ok (.iload 6, 2) := by decide +kernel
theorem dd_Chart_predict_26 : decode prog_2_method_11_code 26 = .ok (.invokevirtual 85, 3) := by decide +kernel
theorem dd_Chart_predict_29 : decode prog_2_method_11_code 29 = .ok (.istore_n 3, 1) := by decide +kernel
theorem dd_Chart_predict_30 : decode prog_2_method_11_code 30 = .ok (.iload_n 3, 1) := by decide +kernel
theorem dd_Chart_predict_31 : decode prog_2_method_11_code 31 = .ok (.iload 6, 2) := by decide +kernel
theorem dd_Chart_predict_33 : decode prog_2_method_11_code 33 = .ok (.if_icmp .ge 7, 3) := by decide +kernel
theorem dd_Chart_predict_36 : decode prog_2_method_11_code 36 = .ok (.iconst 1, 1) := by decide +kernel
theorem dd_Chart_predict_37 : decode prog_2_method_11_code 37 = .ok (.goto 4, 3) := by decide +kernel
theorem dd_Chart_predict_40 : decode prog_2_method_11_code 40 = .ok (.iconst 0, 1) := by decide +kernel
theorem dd_Chart_predict_41 : decode prog_2_method_11_code 41 = .ok (.istore 4, 2) := by decide +kernel
theorem dd_Chart_predict_43 : decode prog_2_method_11_code 43 = .ok (.iinc 5 1, 3) := by decide +kernel
theorem dd_Chart_predict_46 : decode prog_2_method_11_code 46 = .ok (.goto (-38), 3) := by decide +kernel
theorem dd_Chart_predict_49 : decode prog_2_method_11_code 49 = .ok (.iconst 0, 1) := by decide +kernel
theorem dd_Chart_predict_50 : decode prog_2_method_11_code 50 = .ok (.istore 5, 2) := by decide +kernel
theorem dd_Chart_predict_52 : decode prog_2_method_11_code 52 = .ok (.iload 5, 2) := by decide +kernel
theorem dd_Chart_predict_54 : decode prog_2_method_11_code 54 = .ok (.aload_n 0, 1) := by decide +kernel
theorem dd_Chart_predict_55 : decode prog_2_method_11_code 55 = .ok (.getfield 21, 3) := by decide +kernel
theorem dd_Chart_predict_58 : decode prog_2_method_11_code 58 = .ok (.getfield 68, 3) := by decide +kernel
theorem dd_Chart_predict_61 : decode prog_2_method_11_code 61 = .ok (.if_icmp .ge 41, 3) := by decide +kernel
theorem dd_Chart_predict_64 : decode prog_2_method_11_code 64 = .ok (.aload_n 0, 1) := by decide +kernel
theorem dd_Chart_predict_65 : decode prog_2_method_11_code 65 = .ok (.getfield 21, 3) := by decide +kernel
theorem dd_Chart_predict_68 : decode prog_2_method_11_code 68 = .ok (.getfield 72, 3) := by decide +kernel
theorem dd_Chart_predict_71 : decode prog_2_method_11_code 71 = .ok (.iload 5, 2) := by decide +kernel
theorem dd_Chart_predict_73 : decode prog_2_method_11_code 73 = .ok (.iaload, 1) := by decide +kernel
theorem dd_Chart_predict_74 : decode prog_2_method_11_code 74 = .ok (.iload_n 3, 1) := by decide +kernel
theorem dd_Chart_predict_75 : decode prog_2_method_11_code 75 = .ok (.if_icmp .lt 21, 3) := by decide +kernel
theorem dd_Chart_predict_78 : decode prog_2_method_11_code 78 = .ok (.aload_n 0, 1) := by decide +kernel
theorem dd_Chart_predict_79 : decode prog_2_method_11_code 79 = .ok (.getfield 9, 3) := by decide +kernel
theorem dd_Chart_predict_82 : decode prog_2_method_11_code 82 = .ok (.iload_n 1, 1) := by decide +kernel
theorem dd_Chart_predict_83 : decode prog_2_method_11_code 83 = .ok (.bipush 98, 2) := by decide +kernel
theorem dd_Chart_predict_85 : decode prog_2_method_11_code 85 = .ok (.imul, 1) := by decide +kernel
theorem dd_Chart_predict_86 : decode prog_2_method_11_code 86 = .ok (.iload 5, 2) := by decide +kernel
theorem dd_Chart_predict_88 : decode prog_2_method_11_code 88 = .ok (.bipush 7, 2) := by decide +kernel
theorem dd_Chart_predict_90 : decode prog_2_method_11_code 90 = .ok (.imul, 1) := by decide +kernel
theorem dd_Chart_predict_91 : decode prog_2_method_11_code 91 = .ok (.iadd, 1) := by decide +kernel
theorem dd_Chart_predict_92 : decode prog_2_method_11_code 92 = .ok (.iconst 1, 1) := by decide +kernel
theorem dd_Chart_predict_93 : decode prog_2_method_11_code 93 = .ok (.iload_n 1, 1) := by decide +kernel
theorem dd_Chart_predict_94 : decode prog_2_method_11_code 94 = .ok (.ishl, 1) := by decide +kernel
theorem dd_Chart_predict_95 : decode prog_2_method_11_code 95 = .ok (.iastore, 1) := by decide +kernel
theorem dd_Chart_predict_96 : decode prog_2_method_11_code 96 = .ok (.iinc 5 1, 3) := by decide +kernel
theorem dd_Chart_predict_99 : decode prog_2_method_11_code 99 = .ok (.goto (-47), 3) := by decide +kernel
theorem dd_Chart_predict_102 : decode prog_2_method_11_code 102 = .ok (.return_, 1) := by decide +kernel
theorem dd_Chart_follow_0 : decode prog_2_method_2_code 0 = .ok (.aload_n 0, 1) := by decide +kernel
theorem dd_Chart_follow_1 : decode prog_2_method_2_code 1 = .ok (.iconst 0, 1) := by decide +kernel
theorem dd_Chart_follow_2 : decode prog_2_method_2_code 2 = .ok (.invokevirtual 25, 3) := by decide +kernel
theorem dd_Chart_follow_5 : decode prog_2_method_2_code 5 = .ok (.aload_n 0, 1) := by decide +kernel
theorem dd_Chart_follow_6 : decode prog_2_method_2_code 6 = .ok (.iconst 0, 1) := by decide +kernel
theorem dd_Chart_follow_7 : decode prog_2_method_2_code 7 = .ok (.iconst 0, 1) := by decide +kernel
theorem dd_Chart_follow_8 : decode prog_2_method_2_code 8 = .ok (.invokevirtual 29, 3) := by decide +kernel
theorem dd_Chart_follow_11 : decode prog_2_method_2_code 11 = .ok (.iconst 0, 1) := by decide +kernel
theorem dd_Chart_follow_12 : decode prog_2_method_2_code 12 = .ok (.istore_n 3, 1) := by decide +kernel
theorem dd_Chart_follow_13 : decode prog_2_method_2_code 13 = .ok (.iload_n 3, 1) := by decide +kernel
theorem dd_Chart_follow_14 : decode prog_2_method_2_code 14 = .ok (.iload_n 2, 1) := by decide +kernel
theorem dd_Chart_follow_15 : decode prog_2_method_2_code 15 = .ok (.if_icmp .ge 50, 3) := by decide +kernel
theorem dd_Chart_follow_18 : decode prog_2_method_2_code 18 = .ok (.aload_n 0, 1) := by decide +kernel
theorem dd_Chart_follow_19 : decode prog_2_method_2_code 19 = .ok (.iload_n 3, 1) := by decide +kernel
theorem dd_Chart_follow_20 : decode prog_2_method_2_code 20 = .ok (.iconst 1, 1) := by decide +kernel
theorem dd_Chart_follow_21 : decode prog_2_method_2_code 21 = .ok (.iadd, 1) := by decide +kernel
theorem dd_Chart_follow_22 : decode prog_2_method_2_code 22 = .ok (.invokevirtual 25, 3) := by decide +kernel
theorem dd_Chart_follow_25 : decode prog_2_method_2_code 25 = .ok (.aload_n 0, 1) := by decide +kernel
theorem dd_Chart_follow_26 : decode prog_2_method_2_code 26 = .ok (.iload_n 3, 1) := by decide +kernel
theorem dd_Chart_follow_27 : decode prog_2_method_2_code 27 = .ok (.aload_n 1, 1) := by decide +kernel
theorem dd_Chart_follow_28 : decode prog_2_method_2_code 28 = .ok (.iload_n 3, 1) := by decide +kernel
theorem dd_Chart_follow_29 : decode prog_2_method_2_code 29 = .ok (.laload, 1) := by decide +kernel
theorem dd_Chart_follow_30 : decode prog_2_method_2_code 30 = .ok (.invokevirtual 33, 3) := by decide +kernel
theorem dd_Chart_follow_33 : decode prog_2_method_2_code 33 = .ok (.ifCond .ne 5, 3) := by decide +kernel
theorem dd_Chart_follow_36 : decode prog_2_method_2_code 36 = .ok (.iload_n 3, 1) := by decide +kernel
theorem dd_Chart_follow_37 : decode prog_2_method_2_code 37 = .ok (.ireturn, 1) := by decide +kernel
theorem dd_Chart_follow_38 : decode prog_2_method_2_code 38 = .ok (.aload_n 0, 1) := by decide +kernel
theorem dd_Chart_follow_39 : decode prog_2_method_2_code 39 = .ok (.iload_n 3, 1) := by decide +kernel
theorem dd_Chart_follow_40 : decode prog_2_method_2_code 40 = .ok (.iconst 1, 1) := by decide +kernel
theorem dd_Chart_follow_41 : decode prog_2_method_2_code 41 = .ok (.iadd, 1) := by decide +kernel
theorem dd_Chart_follow_42 : decode prog_2_method_2_code 42 = .ok (.invokevirtual 37, 3) := by decide +kernel
theorem dd_Chart_follow_45 : decode prog_2_method_2_code 45 = .ok (.aload_n 0, 1) := by decide +kernel
theorem dd_Chart_follow_46 : decode prog_2_method_2_code 46 = .ok (.iload_n 3, 1) := by decide +kernel
theorem dd_Chart_follow_47 : decode prog_2_method_2_code 47 = .ok (.iconst 1, 1) := by decide +kernel
theorem dd_Chart_follow_48 : decode prog_2_method_2_code 48 = .ok (.iadd, 1) := by decide +kernel
theorem dd_Chart_follow_49 : decode prog_2_method_2_code 49 = .ok (.aload_n 0, 1) := by decide +kernel
theorem dd_Chart_follow_50 : decode prog_2_method_2_code 50 = .ok (.iload_n 3, 1) := by decide +kernel
theorem dd_Chart_follow_51 : decode prog_2_method_2_code 51 = .ok (.iconst 1, 1) := by decide +kernel
theorem dd_Chart_follow_52 : decode prog_2_method_2_code 52 = .ok (.iadd, 1) := by decide +kernel
theorem dd_Chart_follow_53 : decode prog_2_method_2_code 53 = .ok (.invokevirtual 40, 3) := by decide +kernel
theorem dd_Chart_follow_56 : decode prog_2_method_2_code 56 = .ok (.invokevirtual 29, 3) := by decide +kernel
theorem dd_Chart_follow_59 : decode prog_2_method_2_code 59 = .ok (.iinc 3 1, 3) := by decide +kernel
theorem dd_Chart_follow_62 : decode prog_2_method_2_code 62 = .ok (.goto (-49), 3) := by decide +kernel
theorem dd_Chart_follow_65 : decode prog_2_method_2_code 65 = .ok (.iload_n 2, 1) := by decide +kernel
theorem dd_Chart_follow_66 : decode prog_2_method_2_code 66 = .ok (.ireturn, 1) := by decide +kernel
theorem dd_Chart_isWhole_0 : decode prog_2_method_3_code 0 = .ok (.aload_n 0, 1) := by decide +kernel
theorem dd_Chart_isWhole_1 : decode prog_2_method_3_code 1 = .ok (.iconst 0, 1) := by decide +kernel
theorem dd_Chart_isWhole_2 : decode prog_2_method_3_code 2 = .ok (.iload_n 1, 1) := by decide +kernel
theorem dd_Chart_isWhole_3 : decode prog_2_method_3_code 3 = .ok (.invokevirtual 44, 3) := by decide +kernel
theorem dd_Chart_isWhole_6 : decode prog_2_method_3_code 6 = .ok (.iconst (-1), 1) := by decide +kernel
theorem dd_Chart_isWhole_7 : decode prog_2_method_3_code 7 = .ok (.if_icmp .eq 7, 3) := by decide +kernel
theorem dd_Chart_isWhole_10 : decode prog_2_method_3_code 10 = .ok (.iconst 1, 1) := by decide +kernel
theorem dd_Chart_isWhole_11 : decode prog_2_method_3_code 11 = .ok (.goto 4, 3) := by decide +kernel
theorem dd_Chart_isWhole_14 : decode prog_2_method_3_code 14 = .ok (.iconst 0, 1) := by decide +kernel
theorem dd_Chart_isWhole_15 : decode prog_2_method_3_code 15 = .ok (.ireturn, 1) := by decide +kernel
theorem dd_Chart_cell_0 : decode prog_2_method_20_code 0 = .ok (.iload_n 2, 1) := by decide +kernel
theorem dd_Chart_cell_1 : decode prog_2_method_20_code 1 = .ok (.iload_n 2, 1) := by decide +kernel
theorem dd_Chart_cell_2 : decode prog_2_method_20_code 2 = .ok (.iconst 1, 1) := by decide +kernel
theorem dd_Chart_cell_3 : decode prog_2_method_20_code 3 = .ok (.isub, 1) := by decide +kernel
theorem dd_Chart_cell_4 : decode prog_2_method_20_code 4 = .ok (.imul, 1) := by decide +kernel
theorem dd_Chart_cell_5 : decode prog_2_method_20_code 5 = .ok (.iconst 2, 1) := by decide +kernel
theorem dd_Chart_cell_6 : decode prog_2_method_20_code 6 = .ok (.idiv, 1) := by decide +kernel
theorem dd_Chart_cell_7 : decode prog_2_method_20_code 7 = .ok (.iload_n 1, 1) := by decide +kernel
theorem dd_Chart_cell_8 : decode prog_2_method_20_code 8 = .ok (.iadd, 1) := by decide +kernel
theorem dd_Chart_cell_9 : decode prog_2_method_20_code 9 = .ok (.bipush 11, 2) := by decide +kernel
theorem dd_Chart_cell_11 : decode prog_2_method_20_code 11 = .ok (.imul, 1) := by decide +kernel
theorem dd_Chart_cell_12 : decode prog_2_method_20_code 12 = .ok (.iload_n 3, 1) := by decide +kernel
theorem dd_Chart_cell_13 : decode prog_2_method_20_code 13 = .ok (.iadd, 1) := by decide +kernel
theorem dd_Chart_cell_14 : decode prog_2_method_20_code 14 = .ok (.ireturn, 1) := by decide +kernel
theorem dd_Chart_addTrees_0 : decode prog_2_method_18_code 0 = .ok (.aload_n 0, 1) := by decide +kernel
theorem dd_Chart_addTrees_1 : decode prog_2_method_18_code 1 = .ok (.getfield 18, 3) := by decide +kernel
theorem dd_Chart_addTrees_4 : decode prog_2_method_18_code 4 = .ok (.iload_n 1, 1) := by decide +kernel
theorem dd_Chart_addTrees_5 : decode prog_2_method_18_code 5 = .ok (.aload_n 0, 1) := by decide +kernel
theorem dd_Chart_addTrees_6 : decode prog_2_method_18_code 6 = .ok (.getfield 18, 3) := by decide +kernel
theorem dd_Chart_addTrees_9 : decode prog_2_method_18_code 9 = .ok (.iload_n 1, 1) := by decide +kernel
theorem dd_Chart_addTrees_10 : decode prog_2_method_18_code 10 = .ok (.iaload, 1) := by decide +kernel
theorem dd_Chart_addTrees_11 : decode prog_2_method_18_code 11 = .ok (.iload_n 2, 1) := by decide +kernel
theorem dd_Chart_addTrees_12 : decode prog_2_method_18_code 12 = .ok (.iadd, 1) := by decide +kernel
theorem dd_Chart_addTrees_13 : decode prog_2_method_18_code 13 = .ok (.ldc 119, 2) := by decide +kernel
theorem dd_Chart_addTrees_15 : decode prog_2_method_18_code 15 = .ok (.invokestatic 120, 3) := by decide +kernel
theorem dd_Chart_addTrees_18 : decode prog_2_method_18_code 18 = .ok (.iastore, 1) := by decide +kernel
theorem dd_Chart_addTrees_19 : decode prog_2_method_18_code 19 = .ok (.return_, 1) := by decide +kernel
theorem dd_Chart_sumTerms_0 : decode prog_2_method_17_code 0 = .ok (.aload_n 0, 1) := by decide +kernel
theorem dd_Chart_sumTerms_1 : decode prog_2_method_17_code 1 = .ok (.iload_n 1, 1) := by decide +kernel
theorem dd_Chart_sumTerms_2 : decode prog_2_method_17_code 2 = .ok (.iload_n 2, 1) := by decide +kernel
theorem dd_Chart_sumTerms_3 : decode prog_2_method_17_code 3 = .ok (.iconst 0, 1) := by decide +kernel
theorem dd_Chart_sumTerms_4 : decode prog_2_method_17_code 4 = .ok (.invokevirtual 91, 3) := by decide +kernel
theorem dd_Chart_sumTerms_7 : decode prog_2_method_17_code 7 = .ok (.istore_n 3, 1) := by decide +kernel
theorem dd_Chart_sumTerms_8 : decode prog_2_method_17_code 8 = .ok (.iconst 0, 1) := by decide +kernel
theorem dd_Chart_sumTerms_9 : decode prog_2_method_17_code 9 = .ok (.istore 4, 2) := by decide +kernel
theorem dd_Chart_sumTerms_11 : decode prog_2_method_17_code 11 = .ok (.iload 4, 2) := by decide +kernel
theorem dd_Chart_sumTerms_13 : decode prog_2_method_17_code 13 = .ok (.bipush 10, 2) := by decide +kernel
theorem dd_Chart_sumTerms_15 : decode prog_2_method_17_code 15 = .ok (.if_icmp .gt 19, 3) := by decide +kernel
theorem dd_Chart_sumTerms_18 : decode prog_2_method_17_code 18 = .ok (.aload_n 0, 1) := by decide +kernel
theorem dd_Chart_sumTerms_19 : decode prog_2_method_17_code 19 = .ok (.getfield 18, 3) := by decide +kernel
theorem dd_Chart_sumTerms_22 : decode prog_2_method_17_code 22 = .ok (.iload_n 3, 1) := by decide +kernel
theorem dd_Chart_sumTerms_23 : decode prog_2_method_17_code 23 = .ok (.iload 4, 2) := by decide +kernel
theorem dd_Chart_sumTerms_25 : decode prog_2_method_17_code 25 = .ok (.iadd, 1) := by decide +kernel
theorem dd_Chart_sumTerms_26 : decode prog_2_method_17_code 26 = .ok (.iconst 0, 1) := by decide +kernel
theorem dd_Chart_sumTerms_27 : decode prog_2_method_17_code 27 = .ok (.iastore, 1) := by decide +kernel
theorem dd_Chart_sumTerms_28 : decode prog_2_method_17_code 28 = .ok (.iinc 4 1, 3) := by decide +kernel
theorem dd_Chart_sumTerms_31 : decode prog_2_method_17_code 31 = .ok (.goto (-20), 3) := by decide +kernel
theorem dd_Chart_sumTerms_34 : decode prog_2_method_17_code 34 = .ok (.iconst 0, 1) := by decide +kernel
theorem dd_Chart_sumTerms_35 : decode prog_2_method_17_code 35 = .ok (.istore 4, 2) := by decide +kernel
theorem dd_Chart_sumTerms_37 : decode prog_2_method_17_code 37 = .ok (.iload 4, 2) := by decide +kernel
theorem dd_Chart_sumTerms_39 : decode prog_2_method_17_code 39 = .ok (.aload_n 0, 1) := by decide +kernel
theorem dd_Chart_sumTerms_40 : decode prog_2_method_17_code 40 = .ok (.getfield 21, 3) := by decide +kernel
theorem dd_Chart_sumTerms_43 : decode prog_2_method_17_code 43 = .ok (.getfield 68, 3) := by decide +kernel
theorem dd_Chart_sumTerms_46 : decode prog_2_method_17_code 46 = .ok (.if_icmp .ge 59, 3) := by decide +kernel
theorem dd_Chart_sumTerms_49 : decode prog_2_method_17_code 49 = .ok (.aload_n 0, 1) := by decide +kernel
theorem dd_Chart_sumTerms_50 : decode prog_2_method_17_code 50 = .ok (.getfield 21, 3) := by decide +kernel
theorem dd_Chart_sumTerms_53 : decode prog_2_method_17_code 53 = .ok (.iload 4, 2) := by decide +kernel
theorem dd_Chart_sumTerms_55 : decode prog_2_method_17_code 55 = .ok (.invokevirtual 75, 3) := by decide +kernel
theorem dd_Chart_sumTerms_58 : decode prog_2_method_17_code 58 = .ok (.istore 5, 2) := by decide +kernel
theorem dd_Chart_sumTerms_60 : decode prog_2_method_17_code 60 = .ok (.aload_n 0, 1) := by decide +kernel
theorem dd_Chart_sumTerms_61 : decode prog_2_method_17_code 61 = .ok (.iload_n 1, 1) := by decide +kernel
theorem dd_Chart_sumTerms_62 : decode prog_2_method_17_code 62 = .ok (.iload_n 2, 1) := by decide +kernel
theorem dd_Chart_sumTerms_63 : decode prog_2_method_17_code 63 = .ok (.iload 5, 2) := by decide +kernel
theorem dd_Chart_sumTerms_65 : decode prog_2_method_17_code 65 = .ok (.invokevirtual 78, 3) := by decide +kernel
theorem dd_Chart_sumTerms_68 : decode prog_2_method_17_code 68 = .ok (.ifCond .eq 31, 3) := by decide +kernel
theorem dd_Chart_sumTerms_71 : decode prog_2_method_17_code 71 = .ok (.aload_n 0, 1) := by decide +kernel
theorem dd_Chart_sumTerms_72 : decode prog_2_method_17_code 72 = .ok (.iload_n 3, 1) := by decide +kernel
theorem dd_Chart_sumTerms_73 : decode prog_2_method_17_code 73 = .ok (.aload_n 0, 1) := by decide +kernel
theorem dd_Chart_sumTerms_74 : decode prog_2_method_17_code 74 = .ok (.getfield 21, 3) := by decide +kernel
theorem dd_Chart_sumTerms_77 : decode prog_2_method_17_code 77 = .ok (.getfield 72, 3) := by decide +kernel
theorem dd_Chart_sumTerms_80 : decode prog_2_method_17_code 80 = .ok (.iload 4, 2) := by decide +kernel
theorem dd_Chart_sumTerms_82 : decode prog_2_method_17_code 82 = .ok (.iaload, 1) := by decide +kernel
theorem dd_Chart_sumTerms_83 : decode prog_2_method_17_code 83 = .ok (.iadd, 1) := by decide +kernel
theorem dd_Chart_sumTerms_84 : decode prog_2_method_17_code 84 = .ok (.aload_n 0, 1) := by decide +kernel
theorem dd_Chart_sumTerms_85 : decode prog_2_method_17_code 85 = .ok (.getfield 15, 3) := by decide +kernel
theorem dd_Chart_sumTerms_88 : decode prog_2_method_17_code 88 = .ok (.iload_n 2, 1) := by decide +kernel
theorem dd_Chart_sumTerms_89 : decode prog_2_method_17_code 89 = .ok (.bipush 98, 2) := by decide +kernel
theorem dd_Chart_sumTerms_91 : decode prog_2_method_17_code 91 = .ok (.imul, 1) := by decide +kernel
theorem dd_Chart_sumTerms_92 : decode prog_2_method_17_code 92 = .ok (.iload 5, 2) := by decide +kernel
theorem dd_Chart_sumTerms_94 : decode prog_2_method_17_code 94 = .ok (.iadd, 1) := by decide +kernel
theorem dd_Chart_sumTerms_95 : decode prog_2_method_17_code 95 = .ok (.iaload, 1) := by decide +kernel
theorem dd_Chart_sumTerms_96 : decode prog_2_method_17_code 96 = .ok (.invokevirtual 116, 3) := by decide +kernel
theorem dd_Chart_sumTerms_99 : decode prog_2_method_17_code 99 = .ok (.iinc 4 1, 3) := by decide +kernel
theorem dd_Chart_sumTerms_102 : decode prog_2_method_17_code 102 = .ok (.goto (-65), 3) := by decide +kernel
theorem dd_Chart_sumTerms_105 : decode prog_2_method_17_code 105 = .ok (.bipush 9, 2) := by decide +kernel
theorem dd_Chart_sumTerms_107 : decode prog_2_method_17_code 107 = .ok (.istore 4, 2) := by decide +kernel
theorem dd_Chart_sumTerms_109 : decode prog_2_method_17_code 109 = .ok (.iload 4, 2) := by decide +kernel
theorem dd_Chart_sumTerms_111 : decode prog_2_method_17_code 111 = .ok (.ifCond .lt 28, 3) := by decide +kernel
theorem dd_Chart_sumTerms_114 : decode prog_2_method_17_code 114 = .ok (.aload_n 0, 1) := by decide +kernel
theorem dd_Chart_sumTerms_115 : decode prog_2_method_17_code 115 = .ok (.iload_n 3, 1) := by decide +kernel
theorem dd_Chart_sumTerms_116 : decode prog_2_method_17_code 116 = .ok (.iload 4, 2) := by decide +kernel
theorem dd_Chart_sumTerms_118 : decode prog_2_method_17_code 118 = .ok (.iadd, 1) := by decide +kernel
theorem dd_Chart_sumTerms_119 : decode prog_2_method_17_code 119 = .ok (.aload_n 0, 1) := by decide +kernel
theorem dd_Chart_sumTerms_120 : decode prog_2_method_17_code 120 = .ok (.getfield 18, 3) := by decide +kernel
theorem dd_Chart_sumTerms_123 : decode prog_2_method_17_code 123 = .ok (.iload_n 3, 1) := by decide +kernel
theorem dd_Chart_sumTerms_124 : decode prog_2_method_17_code 124 = .ok (.iload 4, 2) := by decide +kernel
theorem dd_Chart_sumTerms_126 : decode prog_2_method_17_code 126 = .ok (.iadd, 1) := by decide +kernel
theorem dd_Chart_sumTerms_127 : decode prog_2_method_17_code 127 = .ok (.iconst 1, 1) := by decide +kernel
theorem dd_Chart_sumTerms_128 : decode prog_2_method_17_code 128 = .ok (.iadd, 1) := by decide +kernel
theorem dd_Chart_sumTerms_129 : decode prog_2_method_17_code 129 = .ok (.iaload, 1) := by decide +kernel
theorem dd_Chart_sumTerms_130 : decode prog_2_method_17_code 130 = .ok (.invokevirtual 116, 3) := by decide +kernel
theorem dd_Chart_sumTerms_133 : decode prog_2_method_17_code 133 = .ok (.iinc 4 (-1), 3) := by decide +kernel
theorem dd_Chart_sumTerms_136 : decode prog_2_method_17_code 136 = .ok (.goto (-27), 3) := by decide +kernel
theorem dd_Chart_sumTerms_139 : decode prog_2_method_17_code 139 = .ok (.return_, 1) := by decide +kernel
theorem dd_Chart_countFirstHoles_0 : decode prog_2_method_19_code 0 = .ok (.iconst 0, 1) := by decide +kernel
theorem dd_Chart_countFirstHoles_1 : decode prog_2_method_19_code 1 = .ok (.istore_n 3, 1) := by decide +kernel
theorem dd_Chart_countFirstHoles_2 : decode prog_2_method_19_code 2 = .ok (.iload_n 3, 1) := by decide +kernel
theorem dd_Chart_countFirstHoles_3 : decode prog_2_method_19_code 3 = .ok (.aload_n 0, 1) := by decide +kernel
theorem dd_Chart_countFirstHoles_4 : decode prog_2_method_19_code 4 = .ok (.getfield 21, 3) := by decide +kernel
theorem dd_Chart_countFirstHoles_7 : decode prog_2_method_19_code 7 = .ok (.getfield 68, 3) := by decide +kernel
theorem dd_Chart_countFirstHoles_10 : decode prog_2_method_19_code 10 = .ok (.if_icmp .ge 60, 3) := by decide +kernel
theorem dd_Chart_countFirstHoles_13 : decode prog_2_method_19_code 13 = .ok (.iload_n 3, 1) := by decide +kernel
theorem dd_Chart_countFirstHoles_14 : decode prog_2_method_19_code 14 = .ok (.bipush 7, 2) := by decide +kernel
theorem dd_Chart_countFirstHoles_16 : decode prog_2_method_19_code 16 = .ok (.imul, 1) := by decide +kernel
theorem dd_Chart_countFirstHoles_17 : decode prog_2_method_19_code 17 = .ok (.istore 4, 2) := by decide +kernel
theorem dd_Chart_countFirstHoles_19 : decode prog_2_method_19_code 19 = .ok (.aload_n 0, 1) := by decide +kernel
theorem dd_Chart_countFirstHoles_20 : decode prog_2_method_19_code 20 = .ok (.getfield 21, 3) := by decide +kernel
theorem dd_Chart_countFirstHoles_23 : decode prog_2_method_19_code 23 = .ok (.getfield 82, 3) := by decide +kernel
theorem dd_Chart_countFirstHoles_26 : decode prog_2_method_19_code 26 = .ok (.iload 4, 2) := by decide +kernel
theorem dd_Chart_countFirstHoles_28 : decode prog_2_method_19_code 28 = .ok (.iaload, 1) := by decide +kernel
theorem dd_Chart_countFirstHoles_29 : decode prog_2_method_19_code 29 = .ok (.istore 5, 2) := by decide +kernel
theorem dd_Chart_countFirstHoles_31 : decode prog_2_method_19_code 31 = .ok (.iload 5, 2) := by decide +kernel
theorem dd_Chart_countFirstHoles_33 : decode prog_2_method_19_code 33 = .ok (.iconst (-1), 1) := by decide +kernel
theorem dd_Chart_countFirstHoles_34 : decode prog_2_method_19_code 34 = .ok (.if_icmp .eq 30, 3) := by decide +kernel
theorem dd_Chart_countFirstHoles_37 : decode prog_2_method_19_code 37 = .ok (.aload_n 0, 1) := by decide +kernel
theorem dd_Chart_countFirstHoles_38 : decode prog_2_method_19_code 38 = .ok (.getfield 15, 3) := by decide +kernel
theorem dd_Chart_countFirstHoles_41 : decode prog_2_method_19_code 41 = .ok (.iload_n 2, 1) := by decide +kernel
theorem dd_Chart_countFirstHoles_42 : decode prog_2_method_19_code 42 = .ok (.bipush 98, 2) := by decide +kernel
theorem dd_Chart_countFirstHoles_44 : decode prog_2_method_19_code 44 = .ok (.imul, 1) := by decide +kernel
theorem dd_Chart_countFirstHoles_45 : decode prog_2_method_19_code 45 = .ok (.iload 4, 2) := by decide +kernel
theorem dd_Chart_countFirstHoles_47 : decode prog_2_method_19_code 47 = .ok (.iadd, 1) := by decide +kernel
theorem dd_Chart_countFirstHoles_48 : decode prog_2_method_19_code 48 = .ok (.iconst 1, 1) := by decide +kernel
theorem dd_Chart_countFirstHoles_49 : decode prog_2_method_19_code 49 = .ok (.iadd, 1) := by decide +kernel
theorem dd_Chart_countFirstHoles_50 : decode prog_2_method_19_code 50 = .ok (.aload_n 0, 1) := by decide +kernel
theorem dd_Chart_countFirstHoles_51 : decode prog_2_method_19_code 51 = .ok (.getfield 18, 3) := by decide +kernel
theorem dd_Chart_countFirstHoles_54 : decode prog_2_method_19_code 54 = .ok (.aload_n 0, 1) := by decide +kernel
theorem dd_Chart_countFirstHoles_55 : decode prog_2_method_19_code 55 = .ok (.iload_n 1, 1) := by decide +kernel
theorem dd_Chart_countFirstHoles_56 : decode prog_2_method_19_code 56 = .ok (.iload_n 2, 1) := by decide +kernel
theorem dd_Chart_countFirstHoles_57 : decode prog_2_method_19_code 57 = .ok (.iload 5, 2) := by decide +kernel
theorem dd_Chart_countFirstHoles_59 : decode prog_2_method_19_code 59 = .ok (.invokevirtual 91, 3) := by decide +kernel
theorem dd_Chart_countFirstHoles_62 : decode prog_2_method_19_code 62 = .ok (.iaload, 1) := by decide +kernel
theorem dd_Chart_countFirstHoles_63 : decode prog_2_method_19_code 63 = .ok (.iastore, 1) := by decide +kernel
theorem dd_Chart_countFirstHoles_64 : decode prog_2_method_19_code 64 = .ok (.iinc 3 1, 3) := by decide +kernel
theorem dd_Chart_countFirstHoles_67 : decode prog_2_method_19_code 67 = .ok (.goto (-65), 3) := by decide +kernel
theorem dd_Chart_countFirstHoles_70 : decode prog_2_method_19_code 70 = .ok (.return_, 1) := by decide +kernel
theorem dd_Chart_countSplits_0 : decode prog_2_method_16_code 0 = .ok (.lconst 0, 1) := by decide +kernel
theorem dd_Chart_countSplits_1 : decode prog_2_method_16_code 1 = .ok (.lstore 5, 2) := by decide +kernel
theorem dd_Chart_countSplits_3 : decode prog_2_method_16_code 3 = .ok (.iload_n 3, 1) := by decide +kernel
theorem dd_Chart_countSplits_4 : decode prog_2_method_16_code 4 = .ok (.iconst 1, 1) := by decide +kernel
theorem dd_Chart_countSplits_5 : decode prog_2_method_16_code 5 = .ok (.iadd, 1) := by decide +kernel
theorem dd_Chart_countSplits_6 : decode prog_2_method_16_code 6 = .ok (.istore 7, 2) := by decide +kernel
theorem dd_Chart_countSplits_8 : decode prog_2_method_16_code 8 = .ok (.iload 7, 2) := by decide +kernel
theorem dd_Chart_countSplits_10 : decode prog_2_method_16_code 10 = .ok (.iload 4, 2) := by decide +kernel
theorem dd_Chart_countSplits_12 : decode prog_2_method_16_code 12 = .ok (.if_icmp .ge 54, 3) := by decide +kernel
theorem dd_Chart_countSplits_15 : decode prog_2_method_16_code 15 = .ok (.aload_n 0, 1) := by decide +kernel
theorem dd_Chart_countSplits_16 : decode prog_2_method_16_code 16 = .ok (.iload_n 3, 1) := by decide +kernel
theorem dd_Chart_countSplits_17 : decode prog_2_method_16_code 17 = .ok (.iload 7, 2) := by decide +kernel
theorem dd_Chart_countSplits_19 : decode prog_2_method_16_code 19 = .ok (.iload_n 1, 1) := by decide +kernel
theorem dd_Chart_countSplits_20 : decode prog_2_method_16_code 20 = .ok (.invokevirtual 78, 3) := by decide +kernel
theorem dd_Chart_countSplits_23 : decode prog_2_method_16_code 23 = .ok (.ifCond .eq 37, 3) := by decide +kernel
theorem dd_Chart_countSplits_26 : decode prog_2_method_16_code 26 = .ok (.lload 5, 2) := by decide +kernel
theorem dd_Chart_countSplits_28 : decode prog_2_method_16_code 28 = .ok (.aload_n 0, 1) := by decide +kernel
theorem dd_Chart_countSplits_29 : decode prog_2_method_16_code 29 = .ok (.getfield 15, 3) := by decide +kernel
theorem dd_Chart_countSplits_32 : decode prog_2_method_16_code 32 = .ok (.iload 7, 2) := by decide +kernel
theorem dd_Chart_countSplits_34 : decode prog_2_method_16_code 34 = .ok (.bipush 98, 2) := by decide +kernel
theorem dd_Chart_countSplits_36 : decode prog_2_method_16_code 36 = .ok (.imul, 1) := by decide +kernel
theorem dd_Chart_countSplits_37 : decode prog_2_method_16_code 37 = .ok (.iload_n 1, 1) := by decide +kernel
theorem dd_Chart_countSplits_38 : decode prog_2_method_16_code 38 = .ok (.iadd, 1) := by decide +kernel
theorem dd_Chart_countSplits_39 : decode prog_2_method_16_code 39 = .ok (.iaload, 1) := by decide +kernel
theorem dd_Chart_countSplits_40 : decode prog_2_method_16_code 40 = .ok (.i2l, 1) := by decide +kernel
theorem dd_Chart_countSplits_41 : decode prog_2_method_16_code 41 = .ok (.aload_n 0, 1) := by decide +kernel
theorem dd_Chart_countSplits_42 : decode prog_2_method_16_code 42 = .ok (.getfield 18, 3) := by decide +kernel
theorem dd_Chart_countSplits_45 : decode prog_2_method_16_code 45 = .ok (.aload_n 0, 1) := by decide +kernel
theorem dd_Chart_countSplits_46 : decode prog_2_method_16_code 46 = .ok (.iload 7, 2) := by decide +kernel
theorem dd_Chart_countSplits_48 : decode prog_2_method_16_code 48 = .ok (.iload 4, 2) := by decide +kernel
theorem dd_Chart_countSplits_50 : decode prog_2_method_16_code 50 = .ok (.iload_n 2, 1) := by decide +kernel
theorem dd_Chart_countSplits_51 : decode prog_2_method_16_code 51 = .ok (.invokevirtual 91, 3) := by decide +kernel
theorem dd_Chart_countSplits_54 : decode prog_2_method_16_code 54 = .ok (.iaload, 1) := by decide +kernel
theorem dd_Chart_countSplits_55 : decode prog_2_method_16_code 55 = .ok (.i2l, 1) := by decide +kernel
theorem dd_Chart_countSplits_56 : decode prog_2_method_16_code 56 = .ok (.lmul, 1) := by decide +kernel
theorem dd_Chart_countSplits_57 : decode prog_2_method_16_code 57 = .ok (.ladd, 1) := by decide +kernel
theorem dd_Chart_countSplits_58 : decode prog_2_method_16_code 58 = .ok (.lstore 5, 2) := by decide +kernel
theorem dd_Chart_countSplits_60 : decode prog_2_method_16_code 60 = .ok (.iinc 7 1, 3) := by decide +kernel
theorem dd_Chart_countSplits_63 : decode prog_2_method_16_code 63 = .ok (.goto (-55), 3) := by decide +kernel
theorem dd_Chart_countSplits_66 : decode prog_2_method_16_code 66 = .ok (.lload 5, 2) := by decide +kernel
theorem dd_Chart_countSplits_68 : decode prog_2_method_16_code 68 = .ok (.ldc2_w 108, 3) := by decide +kernel
theorem dd_Chart_countSplits_71 : decode prog_2_method_16_code 71 = .ok (.invokestatic 110, 3) := by decide +kernel
theorem dd_Chart_countSplits_74 : decode prog_2_method_16_code 74 = .ok (.l2i, 1) := by decide +kernel
theorem dd_Chart_countSplits_75 : decode prog_2_method_16_code 75 = .ok (.ireturn, 1) := by decide +kernel
theorem dd_Chart_countRule_0 : decode prog_2_method_15_code 0 = .ok (.iload_n 1, 1) := by decide +kernel
theorem dd_Chart_countRule_1 : decode prog_2_method_15_code 1 = .ok (.bipush 7, 2) := by decide +kernel
theorem dd_Chart_countRule_3 : decode prog_2_method_15_code 3 = .ok (.imul, 1) := by decide +kernel
theorem dd_Chart_countRule_4 : decode prog_2_method_15_code 4 = .ok (.istore 4, 2) := by decide +kernel
theorem dd_Chart_countRule_6 : decode prog_2_method_15_code 6 = .ok (.aload_n 0, 1) := by decide +kernel
theorem dd_Chart_countRule_7 : decode prog_2_method_15_code 7 = .ok (.getfield 21, 3) := by decide +kernel
theorem dd_Chart_countRule_10 : decode prog_2_method_15_code 10 = .ok (.iload_n 1, 1) := by decide +kernel
theorem dd_Chart_countRule_11 : decode prog_2_method_15_code 11 = .ok (.invokevirtual 75, 3) := by decide +kernel
theorem dd_Chart_countRule_14 : decode prog_2_method_15_code 14 = .ok (.istore 5, 2) := by decide +kernel
theorem dd_Chart_countRule_16 : decode prog_2_method_15_code 16 = .ok (.iload 4, 2) := by decide +kernel
theorem dd_Chart_countRule_18 : decode prog_2_method_15_code 18 = .ok (.iconst 1, 1) := by decide +kernel
theorem dd_Chart_countRule_19 : decode prog_2_method_15_code 19 = .ok (.iadd, 1) := by decide +kernel
theorem dd_Chart_countRule_20 : decode prog_2_method_15_code 20 = .ok (.istore 6, 2) := by decide +kernel
theorem dd_Chart_countRule_22 : decode prog_2_method_15_code 22 = .ok (.iload 6, 2) := by decide +kernel
theorem dd_Chart_countRule_24 : decode prog_2_method_15_code 24 = .ok (.iload 5, 2) := by decide +kernel
theorem dd_Chart_countRule_26 : decode prog_2_method_15_code 26 = .ok (.if_icmp .gt 104, 3) := by decide +kernel
theorem dd_Chart_countRule_29 : decode prog_2_method_15_code 29 = .ok (.aload_n 0, 1) := by decide +kernel
theorem dd_Chart_countRule_30 : decode prog_2_method_15_code 30 = .ok (.iload_n 2, 1) := by decide +kernel
theorem dd_Chart_countRule_31 : decode prog_2_method_15_code 31 = .ok (.iload_n 3, 1) := by decide +kernel
theorem dd_Chart_countRule_32 : decode prog_2_method_15_code 32 = .ok (.iload 6, 2) := by decide +kernel
theorem dd_Chart_countRule_34 : decode prog_2_method_15_code 34 = .ok (.invokevirtual 78, 3) := by decide +kernel
theorem dd_Chart_countRule_37 : decode prog_2_method_15_code 37 = .ok (.ifCond .eq 87, 3) := by decide +kernel
theorem dd_Chart_countRule_40 : decode prog_2_method_15_code 40 = .ok (.aload_n 0, 1) := by decide +kernel
theorem dd_Chart_countRule_41 : decode prog_2_method_15_code 41 = .ok (.getfield 21, 3) := by decide +kernel
theorem dd_Chart_countRule_44 : decode prog_2_method_15_code 44 = .ok (.getfield 82, 3) := by decide +kernel
theorem dd_Chart_countRule_47 : decode prog_2_method_15_code 47 = .ok (.iload 6, 2) := by decide +kernel
theorem dd_Chart_countRule_49 : decode prog_2_method_15_code 49 = .ok (.iconst 1, 1) := by decide +kernel
theorem dd_Chart_countRule_50 : decode prog_2_method_15_code 50 = .ok (.isub, 1) := by decide +kernel
theorem dd_Chart_countRule_51 : decode prog_2_method_15_code 51 = .ok (.iaload, 1) := by decide +kernel
theorem dd_Chart_countRule_52 : decode prog_2_method_15_code 52 = .ok (.istore 7, 2) := by decide +kernel
theorem dd_Chart_countRule_54 : decode prog_2_method_15_code 54 = .ok (.iload 7, 2) := by decide +kernel
theorem dd_Chart_countRule_56 : decode prog_2_method_15_code 56 = .ok (.iconst (-1), 1) := by decide +kernel
theorem dd_Chart_countRule_57 : decode prog_2_method_15_code 57 = .ok (.if_icmp .ne 34, 3) := by decide +kernel
theorem dd_Chart_countRule_60 : decode prog_2_method_15_code 60 = .ok (.aload_n 0, 1) := by decide +kernel
theorem dd_Chart_countRule_61 : decode prog_2_method_15_code 61 = .ok (.getfield 15, 3) := by decide +kernel
theorem dd_Chart_countRule_64 : decode prog_2_method_15_code 64 = .ok (.iload_n 3, 1) := by decide +kernel
theorem dd_Chart_countRule_65 : decode prog_2_method_15_code 65 = .ok (.bipush 98, 2) := by decide +kernel
theorem dd_Chart_countRule_67 : decode prog_2_method_15_code 67 = .ok (.imul, 1) := by decide +kernel
theorem dd_Chart_countRule_68 : decode prog_2_method_15_code 68 = .ok (.iload 6, 2) := by decide +kernel
theorem dd_Chart_countRule_70 : decode prog_2_method_15_code 70 = .ok (.iadd, 1) := by decide +kernel
theorem dd_Chart_countRule_71 : decode prog_2_method_15_code 71 = .ok (.aload_n 0, 1) := by decide +kernel
theorem dd_Chart_countRule_72 : decode prog_2_method_15_code 72 = .ok (.getfield 15, 3) := by decide +kernel
theorem dd_Chart_countRule_75 : decode prog_2_method_15_code 75 = .ok (.iload_n 3, 1) := by decide +kernel
theorem dd_Chart_countRule_76 : decode prog_2_method_15_code 76 = .ok (.iconst 1, 1) := by decide +kernel
theorem dd_Chart_countRule_77 : decode prog_2_method_15_code 77 = .ok (.isub, 1) := by decide +kernel
theorem dd_Chart_countRule_78 : decode prog_2_method_15_code 78 = .ok (.bipush 98, 2) := by decide +kernel
theorem dd_Chart_countRule_80 : decode prog_2_method_15_code 80 = .ok (.imul, 1) := by decide +kernel
theorem dd_Chart_countRule_81 : decode prog_2_method_15_code 81 = .ok (.iload 6, 2) := by decide +kernel
theorem dd_Chart_countRule_83 : decode prog_2_method_15_code 83 = .ok (.iadd, 1) := by decide +kernel
theorem dd_Chart_countRule_84 : decode prog_2_method_15_code 84 = .ok (.iconst 1, 1) := by decide +kernel
theorem dd_Chart_countRule_85 : decode prog_2_method_15_code 85 = .ok (.isub, 1) := by decide +kernel
theorem dd_Chart_countRule_86 : decode prog_2_method_15_code 86 = .ok (.iaload, 1) := by decide +kernel
theorem dd_Chart_countRule_87 : decode prog_2_method_15_code 87 = .ok (.iastore, 1) := by decide +kernel
theorem dd_Chart_countRule_88 : decode prog_2_method_15_code 88 = .ok (.goto 36, 3) := by decide +kernel
theorem dd_Chart_countRule_91 : decode prog_2_method_15_code 91 = .ok (.iload 6, 2) := by decide +kernel
theorem dd_Chart_countRule_93 : decode prog_2_method_15_code 93 = .ok (.iload 4, 2) := by decide +kernel
theorem dd_Chart_countRule_95 : decode prog_2_method_15_code 95 = .ok (.iconst 1, 1) := by decide +kernel
theorem dd_Chart_countRule_96 : decode prog_2_method_15_code 96 = .ok (.iadd, 1) := by decide +kernel
theorem dd_Chart_countRule_97 : decode prog_2_method_15_code 97 = .ok (.if_icmp .le 27, 3) := by decide +kernel
theorem dd_Chart_countRule_100 : decode prog_2_method_15_code 100 = .ok (.aload_n 0, 1) := by decide +kernel
theorem dd_Chart_countRule_101 : decode prog_2_method_15_code 101 = .ok (.getfield 15, 3) := by decide +kernel
theorem dd_Chart_countRule_104 : decode prog_2_method_15_code 104 = .ok (.iload_n 3, 1) := by decide +kernel
theorem dd_Chart_countRule_105 : decode prog_2_method_15_code 105 = .ok (.bipush 98, 2) := by decide +kernel
theorem dd_Chart_countRule_107 : decode prog_2_method_15_code 107 = .ok (.imul, 1) := by decide +kernel
theorem dd_Chart_countRule_108 : decode prog_2_method_15_code 108 = .ok (.iload 6, 2) := by decide +kernel
theorem dd_Chart_countRule_110 : decode prog_2_method_15_code 110 = .ok (.iadd, 1) := by decide +kernel
theorem dd_Chart_countRule_111 : decode prog_2_method_15_code 111 = .ok (.aload_n 0, 1) := by decide +kernel
theorem dd_Chart_countRule_112 : decode prog_2_method_15_code 112 = .ok (.iload 6, 2) := by decide +kernel
theorem dd_Chart_countRule_114 : decode prog_2_method_15_code 114 = .ok (.iconst 1, 1) := by decide +kernel
theorem dd_Chart_countRule_115 : decode prog_2_method_15_code 115 = .ok (.isub, 1) := by decide +kernel
theorem dd_Chart_countRule_116 : decode prog_2_method_15_code 116 = .ok (.iload 7, 2) := by decide +kernel
theorem dd_Chart_countRule_118 : decode prog_2_method_15_code 118 = .ok (.iload_n 2, 1) := by decide +kernel
theorem dd_Chart_countRule_119 : decode prog_2_method_15_code 119 = .ok (.iload_n 3, 1) := by decide +kernel
theorem dd_Chart_countRule_120 : decode prog_2_method_15_code 120 = .ok (.invokevirtual 104, 3) := by decide +kernel
theorem dd_Chart_countRule_123 : decode prog_2_method_15_code 123 = .ok (.iastore, 1) := by decide +kernel
theorem dd_Chart_countRule_124 : decode prog_2_method_15_code 124 = .ok (.iinc 6 1, 3) := by decide +kernel
theorem dd_Chart_countRule_127 : decode prog_2_method_15_code 127 = .ok (.goto (-105), 3) := by decide +kernel
theorem dd_Chart_countRule_130 : decode prog_2_method_15_code 130 = .ok (.return_, 1) := by decide +kernel
theorem dd_Chart_countFrom_0 : decode prog_2_method_14_code 0 = .ok (.iconst 0, 1) := by decide +kernel
theorem dd_Chart_countFrom_1 : decode prog_2_method_14_code 1 = .ok (.istore_n 3, 1) := by decide +kernel
theorem dd_Chart_countFrom_2 : decode prog_2_method_14_code 2 = .ok (.iload_n 3, 1) := by decide +kernel
theorem dd_Chart_countFrom_3 : decode prog_2_method_14_code 3 = .ok (.aload_n 0, 1) := by decide +kernel
theorem dd_Chart_countFrom_4 : decode prog_2_method_14_code 4 = .ok (.getfield 21, 3) := by decide +kernel
theorem dd_Chart_countFrom_7 : decode prog_2_method_14_code 7 = .ok (.getfield 68, 3) := by decide +kernel
theorem dd_Chart_countFrom_10 : decode prog_2_method_14_code 10 = .ok (.if_icmp .ge 24, 3) := by decide +kernel
theorem dd_Chart_countFrom_13 : decode prog_2_method_14_code 13 = .ok (.aload_n 0, 1) := by decide +kernel
theorem dd_Chart_countFrom_14 : decode prog_2_method_14_code 14 = .ok (.getfield 15, 3) := by decide +kernel
theorem dd_Chart_countFrom_17 : decode prog_2_method_14_code 17 = .ok (.iload_n 1, 1) := by decide +kernel
theorem dd_Chart_countFrom_18 : decode prog_2_method_14_code 18 = .ok (.bipush 98, 2) := by decide +kernel
theorem dd_Chart_countFrom_20 : decode prog_2_method_14_code 20 = .ok (.imul, 1) := by decide +kernel
theorem dd_Chart_countFrom_21 : decode prog_2_method_14_code 21 = .ok (.iload_n 3, 1) := by decide +kernel
theorem dd_Chart_countFrom_22 : decode prog_2_method_14_code 22 = .ok (.bipush 7, 2) := by decide +kernel
theorem dd_Chart_countFrom_24 : decode prog_2_method_14_code 24 = .ok (.imul, 1) := by decide +kernel
theorem dd_Chart_countFrom_25 : decode prog_2_method_14_code 25 = .ok (.iadd, 1) := by decide +kernel
theorem dd_Chart_countFrom_26 : decode prog_2_method_14_code 26 = .ok (.iconst 1, 1) := by decide +kernel
theorem dd_Chart_countFrom_27 : decode prog_2_method_14_code 27 = .ok (.iastore, 1) := by decide +kernel
theorem dd_Chart_countFrom_28 : decode prog_2_method_14_code 28 = .ok (.iinc 3 1, 3) := by decide +kernel
theorem dd_Chart_countFrom_31 : decode prog_2_method_14_code 31 = .ok (.goto (-29), 3) := by decide +kernel
theorem dd_Chart_countFrom_34 : decode prog_2_method_14_code 34 = .ok (.iload_n 1, 1) := by decide +kernel
theorem dd_Chart_countFrom_35 : decode prog_2_method_14_code 35 = .ok (.iconst 1, 1) := by decide +kernel
theorem dd_Chart_countFrom_36 : decode prog_2_method_14_code 36 = .ok (.iadd, 1) := by decide +kernel
theorem dd_Chart_countFrom_37 : decode prog_2_method_14_code 37 = .ok (.istore_n 3, 1) := by decide +kernel
theorem dd_Chart_countFrom_38 : decode prog_2_method_14_code 38 = .ok (.iload_n 3, 1) := by decide +kernel
theorem dd_Chart_countFrom_39 : decode prog_2_method_14_code 39 = .ok (.iload_n 2, 1) := by decide +kernel
theorem dd_Chart_countFrom_40 : decode prog_2_method_14_code 40 = .ok (.if_icmp .gt 50, 3) := by decide +kernel
theorem dd_Chart_countFrom_43 : decode prog_2_method_14_code 43 = .ok (.iconst 0, 1) := by decide +kernel
theorem dd_Chart_countFrom_44 : decode prog_2_method_14_code 44 = .ok (.istore 4, 2) := by decide +kernel
theorem dd_Chart_countFrom_46 : decode prog_2_method_14_code 46 = .ok (.iload 4, 2) := by decide +kernel
theorem dd_Chart_countFrom_48 : decode prog_2_method_14_code 48 = .ok (.aload_n 0, 1) := by decide +kernel
theorem dd_Chart_countFrom_49 : decode prog_2_method_14_code 49 = .ok (.getfield 21, 3) := by decide +kernel
theorem dd_Chart_countFrom_52 : decode prog_2_method_14_code 52 = .ok (.getfield 68, 3) := by decide +kernel
theorem dd_Chart_countFrom_55 : decode prog_2_method_14_code 55 = .ok (.if_icmp .ge 17, 3) := by decide +kernel
theorem dd_Chart_countFrom_58 : decode prog_2_method_14_code 58 = .ok (.aload_n 0, 1) := by decide +kernel
theorem dd_Chart_countFrom_59 : decode prog_2_method_14_code 59 = .ok (.iload 4, 2) := by decide +kernel
theorem dd_Chart_countFrom_61 : decode prog_2_method_14_code 61 = .ok (.iload_n 1, 1) := by decide +kernel
theorem dd_Chart_countFrom_62 : decode prog_2_method_14_code 62 = .ok (.iload_n 3, 1) := by decide +kernel
theorem dd_Chart_countFrom_63 : decode prog_2_method_14_code 63 = .ok (.invokevirtual 95, 3) := by decide +kernel
theorem dd_Chart_countFrom_66 : decode prog_2_method_14_code 66 = .ok (.iinc 4 1, 3) := by decide +kernel
theorem dd_Chart_countFrom_69 : decode prog_2_method_14_code 69 = .ok (.goto (-23), 3) := by decide +kernel
theorem dd_Chart_countFrom_72 : decode prog_2_method_14_code 72 = .ok (.aload_n 0, 1) := by decide +kernel
theorem dd_Chart_countFrom_73 : decode prog_2_method_14_code 73 = .ok (.iload_n 1, 1) := by decide +kernel
theorem dd_Chart_countFrom_74 : decode prog_2_method_14_code 74 = .ok (.iload_n 3, 1) := by decide +kernel
theorem dd_Chart_countFrom_75 : decode prog_2_method_14_code 75 = .ok (.invokevirtual 98, 3) := by decide +kernel
theorem dd_Chart_countFrom_78 : decode prog_2_method_14_code 78 = .ok (.aload_n 0, 1) := by decide +kernel
theorem dd_Chart_countFrom_79 : decode prog_2_method_14_code 79 = .ok (.iload_n 1, 1) := by decide +kernel
theorem dd_Chart_countFrom_80 : decode prog_2_method_14_code 80 = .ok (.iload_n 3, 1) := by decide +kernel
theorem dd_Chart_countFrom_81 : decode prog_2_method_14_code 81 = .ok (.invokevirtual 101, 3) := by decide +kernel
theorem dd_Chart_countFrom_84 : decode prog_2_method_14_code 84 = .ok (.iinc 3 1, 3) := by decide +kernel
theorem dd_Chart_countFrom_87 : decode prog_2_method_14_code 87 = .ok (.goto (-49), 3) := by decide +kernel
theorem dd_Chart_countFrom_90 : decode prog_2_method_14_code 90 = .ok (.return_, 1) := by decide +kernel
theorem dd_Chart_countTrees_0 : decode prog_2_method_13_code 0 = .ok (.iload_n 1, 1) := by decide +kernel
theorem dd_Chart_countTrees_1 : decode prog_2_method_13_code 1 = .ok (.iconst 1, 1) := by decide +kernel
theorem dd_Chart_countTrees_2 : decode prog_2_method_13_code 2 = .ok (.isub, 1) := by decide +kernel
theorem dd_Chart_countTrees_3 : decode prog_2_method_13_code 3 = .ok (.istore_n 2, 1) := by decide +kernel
theorem dd_Chart_countTrees_4 : decode prog_2_method_13_code 4 = .ok (.iload_n 2, 1) := by decide +kernel
theorem dd_Chart_countTrees_5 : decode prog_2_method_13_code 5 = .ok (.ifCond .lt 26, 3) := by decide +kernel
theorem dd_Chart_countTrees_8 : decode prog_2_method_13_code 8 = .ok (.aload_n 0, 1) := by decide +kernel
theorem dd_Chart_countTrees_9 : decode prog_2_method_13_code 9 = .ok (.iload_n 2, 1) := by decide +kernel
theorem dd_Chart_countTrees_10 : decode prog_2_method_13_code 10 = .ok (.iload_n 2, 1) := by decide +kernel
theorem dd_Chart_countTrees_11 : decode prog_2_method_13_code 11 = .ok (.bipush 7, 2) := by decide +kernel
theorem dd_Chart_countTrees_13 : decode prog_2_method_13_code 13 = .ok (.invokevirtual 78, 3) := by decide +kernel
theorem dd_Chart_countTrees_16 : decode prog_2_method_13_code 16 = .ok (.ifCond .eq 9, 3) := by decide +kernel
theorem dd_Chart_countTrees_19 : decode prog_2_method_13_code 19 = .ok (.aload_n 0, 1) := by decide +kernel
theorem dd_Chart_countTrees_20 : decode prog_2_method_13_code 20 = .ok (.iload_n 2, 1) := by decide +kernel
theorem dd_Chart_countTrees_21 : decode prog_2_method_13_code 21 = .ok (.iload_n 1, 1) := by decide +kernel
theorem dd_Chart_countTrees_22 : decode prog_2_method_13_code 22 = .ok (.invokevirtual 88, 3) := by decide +kernel
theorem dd_Chart_countTrees_25 : decode prog_2_method_13_code 25 = .ok (.iinc 2 (-1), 3) := by decide +kernel
theorem dd_Chart_countTrees_28 : decode prog_2_method_13_code 28 = .ok (.goto (-24), 3) := by decide +kernel
theorem dd_Chart_countTrees_31 : decode prog_2_method_13_code 31 = .ok (.iload_n 1, 1) := by decide +kernel
theorem dd_Chart_countTrees_32 : decode prog_2_method_13_code 32 = .ok (.iconst 1, 1) := by decide +kernel
theorem dd_Chart_countTrees_33 : decode prog_2_method_13_code 33 = .ok (.if_icmp .ge 7, 3) := by decide +kernel
theorem dd_Chart_countTrees_36 : decode prog_2_method_13_code 36 = .ok (.iconst 0, 1) := by decide +kernel
theorem dd_Chart_countTrees_37 : decode prog_2_method_13_code 37 = .ok (.goto 15, 3) := by decide +kernel
theorem dd_Chart_countTrees_40 : decode prog_2_method_13_code 40 = .ok (.aload_n 0, 1) := by decide +kernel
theorem dd_Chart_countTrees_41 : decode prog_2_method_13_code 41 = .ok (.getfield 18, 3) := by decide +kernel
theorem dd_Chart_countTrees_44 : decode prog_2_method_13_code 44 = .ok (.aload_n 0, 1) := by decide +kernel
theorem dd_Chart_countTrees_45 : decode prog_2_method_13_code 45 = .ok (.iconst 0, 1) := by decide +kernel
theorem dd_Chart_countTrees_46 : decode prog_2_method_13_code 46 = .ok (.iload_n 1, 1) := by decide +kernel
theorem dd_Chart_countTrees_47 : decode prog_2_method_13_code 47 = .ok (.iconst 0, 1) := by decide +kernel
theorem dd_Chart_countTrees_48 : decode prog_2_method_13_code 48 = .ok (.invokevirtual 91, 3) := by decide +kernel
theorem dd_Chart_countTrees_51 : decode prog_2_method_13_code 51 = .ok (.iaload, 1) := by decide +kernel
theorem dd_Chart_countTrees_52 : decode prog_2_method_13_code 52 = .ok (.ireturn, 1) := by decide +kernel
theorem dd_Chart_onlyRule_0 : decode prog_2_method_21_code 0 = .ok (.aload_n 0, 1) := by decide +kernel
theorem dd_Chart_onlyRule_1 : decode prog_2_method_21_code 1 = .ok (.getfield 21, 3) := by decide +kernel
theorem dd_Chart_onlyRule_4 : decode prog_2_method_21_code 4 = .ok (.getfield 68, 3) := by decide +kernel
theorem dd_Chart_onlyRule_7 : decode prog_2_method_21_code 7 = .ok (.iconst 1, 1) := by decide +kernel
theorem dd_Chart_onlyRule_8 : decode prog_2_method_21_code 8 = .ok (.isub, 1) := by decide +kernel
theorem dd_Chart_onlyRule_9 : decode prog_2_method_21_code 9 = .ok (.istore 4, 2) := by decide +kernel
theorem dd_Chart_onlyRule_11 : decode prog_2_method_21_code 11 = .ok (.iload 4, 2) := by decide +kernel
theorem dd_Chart_onlyRule_13 : decode prog_2_method_21_code 13 = .ok (.ifCond .le 44, 3) := by decide +kernel
theorem dd_Chart_onlyRule_16 : decode prog_2_method_21_code 16 = .ok (.aload_n 0, 1) := by decide +kernel
theorem dd_Chart_onlyRule_17 : decode prog_2_method_21_code 17 = .ok (.getfield 21, 3) := by decide +kernel
theorem dd_Chart_onlyRule_20 : decode prog_2_method_21_code 20 = .ok (.getfield 72, 3) := by decide +kernel
theorem dd_Chart_onlyRule_23 : decode prog_2_method_21_code 23 = .ok (.iload 4, 2) := by decide +kernel
theorem dd_Chart_onlyRule_25 : decode prog_2_method_21_code 25 = .ok (.iaload, 1) := by decide +kernel
theorem dd_Chart_onlyRule_26 : decode prog_2_method_21_code 26 = .ok (.iload_n 3, 1) := by decide +kernel
theorem dd_Chart_onlyRule_27 : decode prog_2_method_21_code 27 = .ok (.if_icmp .lt 24, 3) := by decide +kernel
theorem dd_Chart_onlyRule_30 : decode prog_2_method_21_code 30 = .ok (.aload_n 0, 1) := by decide +kernel
theorem dd_Chart_onlyRule_31 : decode prog_2_method_21_code 31 = .ok (.iload_n 1, 1) := by decide +kernel
theorem dd_Chart_onlyRule_32 : decode prog_2_method_21_code 32 = .ok (.iload_n 2, 1) := by decide +kernel
theorem dd_Chart_onlyRule_33 : decode prog_2_method_21_code 33 = .ok (.aload_n 0, 1) := by decide +kernel
theorem dd_Chart_onlyRule_34 : decode prog_2_method_21_code 34 = .ok (.getfield 21, 3) := by decide +kernel
theorem dd_Chart_onlyRule_37 : decode prog_2_method_21_code 37 = .ok (.iload 4, 2) := by decide +kernel
theorem dd_Chart_onlyRule_39 : decode prog_2_method_21_code 39 = .ok (.invokevirtual 75, 3) := by decide +kernel
theorem dd_Chart_onlyRule_42 : decode prog_2_method_21_code 42 = .ok (.invokevirtual 78, 3) := by decide +kernel
theorem dd_Chart_onlyRule_45 : decode prog_2_method_21_code 45 = .ok (.ifCond .eq 6, 3) := by decide +kernel
theorem dd_Chart_onlyRule_48 : decode prog_2_method_21_code 48 = .ok (.iload 4, 2) := by decide +kernel
theorem dd_Chart_onlyRule_50 : decode prog_2_method_21_code 50 = .ok (.ireturn, 1) := by decide +kernel
theorem dd_Chart_onlyRule_51 : decode prog_2_method_21_code 51 = .ok (.iinc 4 (-1), 3) := by decide +kernel
theorem dd_Chart_onlyRule_54 : decode prog_2_method_21_code 54 = .ok (.goto (-43), 3) := by decide +kernel
theorem dd_Chart_onlyRule_57 : decode prog_2_method_21_code 57 = .ok (.iconst 0, 1) := by decide +kernel
theorem dd_Chart_onlyRule_58 : decode prog_2_method_21_code 58 = .ok (.ireturn, 1) := by decide +kernel
theorem dd_Chart_onlySplit_0 : decode prog_2_method_22_code 0 = .ok (.aload_n 0, 1) := by decide +kernel
theorem dd_Chart_onlySplit_1 : decode prog_2_method_22_code 1 = .ok (.getfield 21, 3) := by decide +kernel
theorem dd_Chart_onlySplit_4 : decode prog_2_method_22_code 4 = .ok (.getfield 82, 3) := by decide +kernel
theorem dd_Chart_onlySplit_7 : decode prog_2_method_22_code 7 = .ok (.iload_n 1, 1) := by decide +kernel
theorem dd_Chart_onlySplit_8 : decode prog_2_method_22_code 8 = .ok (.iaload, 1) := by decide +kernel
theorem dd_Chart_onlySplit_9 : decode prog_2_method_22_code 9 = .ok (.istore 4, 2) := by decide +kernel
theorem dd_Chart_onlySplit_11 : decode prog_2_method_22_code 11 = .ok (.iload_n 3, 1) := by decide +kernel
theorem dd_Chart_onlySplit_12 : decode prog_2_method_22_code 12 = .ok (.iconst 1, 1) := by decide +kernel
theorem dd_Chart_onlySplit_13 : decode prog_2_method_22_code 13 = .ok (.isub, 1) := by decide +kernel
theorem dd_Chart_onlySplit_14 : decode prog_2_method_22_code 14 = .ok (.istore 5, 2) := by decide +kernel
theorem dd_Chart_onlySplit_16 : decode prog_2_method_22_code 16 = .ok (.iload 5, 2) := by decide +kernel
theorem dd_Chart_onlySplit_18 : decode prog_2_method_22_code 18 = .ok (.iload_n 2, 1) := by decide +kernel
theorem dd_Chart_onlySplit_19 : decode prog_2_method_22_code 19 = .ok (.if_icmp .le 40, 3) := by decide +kernel
theorem dd_Chart_onlySplit_22 : decode prog_2_method_22_code 22 = .ok (.aload_n 0, 1) := by decide +kernel
theorem dd_Chart_onlySplit_23 : decode prog_2_method_22_code 23 = .ok (.iload_n 2, 1) := by decide +kernel
theorem dd_Chart_onlySplit_24 : decode prog_2_method_22_code 24 = .ok (.iload 5, 2) := by decide +kernel
theorem dd_Chart_onlySplit_26 : decode prog_2_method_22_code 26 = .ok (.iload_n 1, 1) := by decide +kernel
theorem dd_Chart_onlySplit_27 : decode prog_2_method_22_code 27 = .ok (.invokevirtual 78, 3) := by decide +kernel
theorem dd_Chart_onlySplit_30 : decode prog_2_method_22_code 30 = .ok (.ifCond .eq 23, 3) := by decide +kernel
theorem dd_Chart_onlySplit_33 : decode prog_2_method_22_code 33 = .ok (.aload_n 0, 1) := by decide +kernel
theorem dd_Chart_onlySplit_34 : decode prog_2_method_22_code 34 = .ok (.getfield 18, 3) := by decide +kernel
theorem dd_Chart_onlySplit_37 : decode prog_2_method_22_code 37 = .ok (.aload_n 0, 1) := by decide +kernel
theorem dd_Chart_onlySplit_38 : decode prog_2_method_22_code 38 = .ok (.iload 5, 2) := by decide +kernel
theorem dd_Chart_onlySplit_40 : decode prog_2_method_22_code 40 = .ok (.iload_n 3, 1) := by decide +kernel
theorem dd_Chart_onlySplit_41 : decode prog_2_method_22_code 41 = .ok (.iload 4, 2) := by decide +kernel
theorem dd_Chart_onlySplit_43 : decode prog_2_method_22_code 43 = .ok (.invokevirtual 91, 3) := by decide +kernel
theorem dd_Chart_onlySplit_46 : decode prog_2_method_22_code 46 = .ok (.iaload, 1) := by decide +kernel
theorem dd_Chart_onlySplit_47 : decode prog_2_method_22_code 47 = .ok (.ifCond .le 6, 3) := by decide +kernel
theorem dd_Chart_onlySplit_50 : decode prog_2_method_22_code 50 = .ok (.iload 5, 2) := by decide +kernel
theorem dd_Chart_onlySplit_52 : decode prog_2_method_22_code 52 = .ok (.ireturn, 1) := by decide +kernel
theorem dd_Chart_onlySplit_53 : decode prog_2_method_22_code 53 = .ok (.iinc 5 (-1), 3) := by decide +kernel
theorem dd_Chart_onlySplit_56 : decode prog_2_method_22_code 56 = .ok (.goto (-40), 3) := by decide +kernel
theorem dd_Chart_onlySplit_59 : decode prog_2_method_22_code 59 = .ok (.iload_n 2, 1) := by decide +kernel
theorem dd_Chart_onlySplit_60 : decode prog_2_method_22_code 60 = .ok (.ireturn, 1) := by decide +kernel
theorem dd_Output_addByte_0 : decode prog_4_method_4_code 0 = .ok (.aload_n 0, 1) := by decide +kernel
theorem dd_Output_addByte_1 : decode prog_4_method_4_code 1 = .ok (.getfield 15, 3) := by decide +kernel
theorem dd_Output_addByte_4 : decode prog_4_method_4_code 4 = .ok (.aload_n 0, 1) := by decide +kernel
theorem dd_Output_addByte_5 : decode prog_4_method_4_code 5 = .ok (.getfield 9, 3) := by decide +kernel
theorem dd_Output_addByte_8 : decode prog_4_method_4_code 8 = .ok (.arraylength, 1) := by decide +kernel
theorem dd_Output_addByte_9 : decode prog_4_method_4_code 9 = .ok (.if_icmp .ge 24, 3) := by decide +kernel
theorem dd_Output_addByte_12 : decode prog_4_method_4_code 12 = .ok (.aload_n 0, 1) := by decide +kernel
theorem dd_Output_addByte_13 : decode prog_4_method_4_code 13 = .ok (.getfield 9, 3) := by decide +kernel
theorem dd_Output_addByte_16 : decode prog_4_method_4_code 16 = .ok (.aload_n 0, 1) := by decide +kernel
theorem dd_Output_addByte_17 : decode prog_4_method_4_code 17 = .ok (.getfield 15, 3) := by decide +kernel
theorem dd_Output_addByte_20 : decode prog_4_method_4_code 20 = .ok (.iload_n 1, 1) := by decide +kernel
theorem dd_Output_addByte_21 : decode prog_4_method_4_code 21 = .ok (.i2b, 1) := by decide +kernel
theorem dd_Output_addByte_22 : decode prog_4_method_4_code 22 = .ok (.bastore, 1) := by decide +kernel
theorem dd_Output_addByte_23 : decode prog_4_method_4_code 23 = .ok (.aload_n 0, 1) := by decide +kernel
theorem dd_Output_addByte_24 : decode prog_4_method_4_code 24 = .ok (.dup, 1) := by decide +kernel
theorem dd_Output_addByte_25 : decode prog_4_method_4_code 25 = .ok (.getfield 15, 3) := by decide +kernel
theorem dd_Output_addByte_28 : decode prog_4_method_4_code 28 = .ok (.iconst 1, 1) := by decide +kernel
theorem dd_Output_addByte_29 : decode prog_4_method_4_code 29 = .ok (.iadd, 1) := by decide +kernel
theorem dd_Output_addByte_30 : decode prog_4_method_4_code 30 = .ok (.putfield 15, 3) := by decide +kernel
theorem dd_Output_addByte_33 : decode prog_4_method_4_code 33 = .ok (.return_, 1) := by decide +kernel
theorem dd_Output_writeWord_0 : decode prog_4_method_3_code 0 = .ok (.bipush 7, 2) := by decide +kernel
theorem dd_Output_writeWord_2 : decode prog_4_method_3_code 2 = .ok (.istore_n 3, 1) := by decide +kernel
theorem dd_Output_writeWord_3 : decode prog_4_method_3_code 3 = .ok (.iload_n 3, 1) := by decide +kernel
theorem dd_Output_writeWord_4 : decode prog_4_method_3_code 4 = .ok (.ifCond .lt 27, 3) := by decide +kernel
theorem dd_Output_writeWord_7 : decode prog_4_method_3_code 7 = .ok (.lload_n 1, 1) := by decide +kernel
theorem dd_Output_writeWord_8 : decode prog_4_method_3_code 8 = .ok (.iload_n 3, 1) := by decide +kernel
theorem dd_Output_writeWord_9 : decode prog_4_method_3_code 9 = .ok (.invokestatic 36, 3) := by decide +kernel
theorem dd_Output_writeWord_12 : decode prog_4_method_3_code 12 = .ok (.istore 4, 2) := by decide +kernel
theorem dd_Output_writeWord_14 : decode prog_4_method_3_code 14 = .ok (.iload 4, 2) := by decide +kernel
theorem dd_Output_writeWord_16 : decode prog_4_method_3_code 16 = .ok (.ifCond .eq 9, 3) := by decide +kernel
theorem dd_Output_writeWord_19 : decode prog_4_method_3_code 19 = .ok (.aload_n 0, 1) := by decide +kernel
theorem dd_Output_writeWord_20 : decode prog_4_method_3_code 20 = .ok (.iload 4, 2) := by decide +kernel
theorem dd_Output_writeWord_22 : decode prog_4_method_3_code 22 = .ok (.invokevirtual 24, 3) := by decide +kernel
theorem dd_Output_writeWord_25 : decode prog_4_method_3_code 25 = .ok (.iinc 3 (-1), 3) := by decide +kernel
theorem dd_Output_writeWord_28 : decode prog_4_method_3_code 28 = .ok (.goto (-25), 3) := by decide +kernel
theorem dd_Output_writeWord_31 : decode prog_4_method_3_code 31 = .ok (.return_, 1) := by decide +kernel
theorem dd_Output_writeWords_0 : decode prog_4_method_2_code 0 = .ok (.aload_n 0, 1) := by decide +kernel
theorem dd_Output_writeWords_1 : decode prog_4_method_2_code 1 = .ok (.iconst 0, 1) := by decide +kernel
theorem dd_Output_writeWords_2 : decode prog_4_method_2_code 2 = .ok (.putfield 15, 3) := by decide +kernel
theorem dd_Output_writeWords_5 : decode prog_4_method_2_code 5 = .ok (.iconst 0, 1) := by decide +kernel
theorem dd_Output_writeWords_6 : decode prog_4_method_2_code 6 = .ok (.istore_n 3, 1) := by decide +kernel
theorem dd_Output_writeWords_7 : decode prog_4_method_2_code 7 = .ok (.iload_n 3, 1) := by decide +kernel
theorem dd_Output_writeWords_8 : decode prog_4_method_2_code 8 = .ok (.aload_n 1, 1) := by decide +kernel
theorem dd_Output_writeWords_9 : decode prog_4_method_2_code 9 = .ok (.getfield 19, 3) := by decide +kernel
theorem dd_Output_writeWords_12 : decode prog_4_method_2_code 12 = .ok (.if_icmp .ge 40, 3) := by decide +kernel
theorem dd_Output_writeWords_15 : decode prog_4_method_2_code 15 = .ok (.iload_n 2, 1) := by decide +kernel
theorem dd_Output_writeWords_16 : decode prog_4_method_2_code 16 = .ok (.iload_n 3, 1) := by decide +kernel
theorem dd_Output_writeWords_17 : decode prog_4_method_2_code 17 = .ok (.iushr, 1) := by decide +kernel
theorem dd_Output_writeWords_18 : decode prog_4_method_2_code 18 = .ok (.iconst 1, 1) := by decide +kernel
theorem dd_Output_writeWords_19 : decode prog_4_method_2_code 19 = .ok (.iand, 1) := by decide +kernel
theorem dd_Output_writeWords_20 : decode prog_4_method_2_code 20 = .ok (.ifCond .ne 26, 3) := by decide +kernel
theorem dd_Output_writeWords_23 : decode prog_4_method_2_code 23 = .ok (.aload_n 0, 1) := by decide +kernel
theorem dd_Output_writeWords_24 : decode prog_4_method_2_code 24 = .ok (.getfield 15, 3) := by decide +kernel
theorem dd_Output_writeWords_27 : decode prog_4_method_2_code 27 = .ok (.ifCond .le 9, 3) := by decide +kernel
theorem dd_Output_writeWords_30 : decode prog_4_method_2_code 30 = .ok (.aload_n 0, 1) := by decide +kernel
theorem dd_Output_writeWords_31 : decode prog_4_method_2_code 31 = .ok (.bipush 32, 2) := by decide +kernel
theorem dd_Output_writeWords_33 : decode prog_4_method_2_code 33 = .ok (.invokevirtual 24, 3) := by decide +kernel
theorem dd_Output_writeWords_36 : decode prog_4_method_2_code 36 = .ok (.aload_n 0, 1) := by decide +kernel
theorem dd_Output_writeWords_37 : decode prog_4_method_2_code 37 = .ok (.aload_n 1, 1) := by decide +kernel
theorem dd_Output_writeWords_38 : decode prog_4_method_2_code 38 = .ok (.getfield 28, 3) := by decide +kernel
theorem dd_Output_writeWords_41 : decode prog_4_method_2_code 41 = .ok (.iload_n 3, 1) := by decide +kernel
theorem dd_Output_writeWords_42 : decode prog_4_method_2_code 42 = .ok (.laload, 1) := by decide +kernel
theorem dd_Output_writeWords_43 : decode prog_4_method_2_code 43 = .ok (.invokevirtual 32, 3) := by decide +kernel
theorem dd_Output_writeWords_46 : decode prog_4_method_2_code 46 = .ok (.iinc 3 1, 3) := by decide +kernel
theorem dd_Output_writeWords_49 : decode prog_4_method_2_code 49 = .ok (.goto (-42), 3) := by decide +kernel
theorem dd_Output_writeWords_52 : decode prog_4_method_2_code 52 = .ok (.return_, 1) := by decide +kernel
