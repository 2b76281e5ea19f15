theorem dd_Grammar_usedDots_0 : decode prog_3_method_2_code 0 = .ok (.aload_n 0, 1) := by decide +kernel
theorem dd_Grammar_usedDots_1 : decode prog_3_method_2_code 1 = .ok (.getfield 25, 3) := by decide +kernel
theorem dd_Grammar_usedDots_4 : decode prog_3_method_2_code 4 = .ok (.bipush 7, 2) := by decide +kernel
theorem dd_Grammar_usedDots_6 : decode prog_3_method_2_code 6 = .ok (.imul, 1) := by decide +kernel
theorem dd_Grammar_usedDots_7 : decode prog_3_method_2_code 7 = .ok (.ireturn, 1) := by decide +kernel
theorem dd_Grammar_dropHand_0 : decode prog_3_method_7_code 0 = .ok (.aload_n 0, 1) := by decide +kernel
theorem dd_Grammar_dropHand_1 : decode prog_3_method_7_code 1 = .ok (.getfield 9, 3) := by decide +kernel
theorem dd_Grammar_dropHand_4 : decode prog_3_method_7_code 4 = .ok (.aload_n 0, 1) := by decide +kernel
theorem dd_Grammar_dropHand_5 : decode prog_3_method_7_code 5 = .ok (.invokevirtual 47, 3) := by decide +kernel
theorem dd_Grammar_dropHand_8 : decode prog_3_method_7_code 8 = .ok (.aload_n 0, 1) := by decide +kernel
theorem dd_Grammar_dropHand_9 : decode prog_3_method_7_code 9 = .ok (.invokevirtual 47, 3) := by decide +kernel
theorem dd_Grammar_dropHand_12 : decode prog_3_method_7_code 12 = .ok (.bipush 7, 2) := by decide +kernel
theorem dd_Grammar_dropHand_14 : decode prog_3_method_7_code 14 = .ok (.iadd, 1) := by decide +kernel
theorem dd_Grammar_dropHand_15 : decode prog_3_method_7_code 15 = .ok (.iconst (-1), 1) := by decide +kernel
theorem dd_Grammar_dropHand_16 : decode prog_3_method_7_code 16 = .ok (.invokestatic 51, 3) := by decide +kernel
theorem dd_Grammar_dropHand_19 : decode prog_3_method_7_code 19 = .ok (.aload_n 0, 1) := by decide +kernel
theorem dd_Grammar_dropHand_20 : decode prog_3_method_7_code 20 = .ok (.getfield 15, 3) := by decide +kernel
theorem dd_Grammar_dropHand_23 : decode prog_3_method_7_code 23 = .ok (.aload_n 0, 1) := by decide +kernel
theorem dd_Grammar_dropHand_24 : decode prog_3_method_7_code 24 = .ok (.invokevirtual 47, 3) := by decide +kernel
theorem dd_Grammar_dropHand_27 : decode prog_3_method_7_code 27 = .ok (.aload_n 0, 1) := by decide +kernel
theorem dd_Grammar_dropHand_28 : decode prog_3_method_7_code 28 = .ok (.invokevirtual 47, 3) := by decide +kernel
theorem dd_Grammar_dropHand_31 : decode prog_3_method_7_code 31 = .ok (.bipush 7, 2) := by decide +kernel
theorem dd_Grammar_dropHand_33 : decode prog_3_method_7_code 33 = .ok (.iadd, 1) := by decide +kernel
theorem dd_Grammar_dropHand_34 : decode prog_3_method_7_code 34 = .ok (.ldc2_w 38, 3) := by decide +kernel
theorem dd_Grammar_dropHand_37 : decode prog_3_method_7_code 37 = .ok (.invokestatic 54, 3) := by decide +kernel
theorem dd_Grammar_dropHand_40 : decode prog_3_method_7_code 40 = .ok (.aload_n 0, 1) := by decide +kernel
theorem dd_Grammar_dropHand_41 : decode prog_3_method_7_code 41 = .ok (.iconst 0, 1) := by decide +kernel
theorem dd_Grammar_dropHand_42 : decode prog_3_method_7_code 42 = .ok (.putfield 29, 3) := by decide +kernel
theorem dd_Grammar_dropHand_45 : decode prog_3_method_7_code 45 = .ok (.return_, 1) := by decide +kernel
theorem dd_Grammar_lastDot_0 : decode prog_3_method_3_code 0 = .ok (.iload_n 1, 1) := by decide +kernel
theorem dd_Grammar_lastDot_1 : decode prog_3_method_3_code 1 = .ok (.bipush 7, 2) := by decide +kernel
theorem dd_Grammar_lastDot_3 : decode prog_3_method_3_code 3 = .ok (.imul, 1) := by decide +kernel
theorem dd_Grammar_lastDot_4 : decode prog_3_method_3_code 4 = .ok (.aload_n 0, 1) := by decide +kernel
theorem dd_Grammar_lastDot_5 : decode prog_3_method_3_code 5 = .ok (.getfield 22, 3) := by decide +kernel
theorem dd_Grammar_lastDot_8 : decode prog_3_method_3_code 8 = .ok (.iload_n 1, 1) := by decide +kernel
theorem dd_Grammar_lastDot_9 : decode prog_3_method_3_code 9 = .ok (.iaload, 1) := by decide +kernel
theorem dd_Grammar_lastDot_10 : decode prog_3_method_3_code 10 = .ok (.iadd, 1) := by decide +kernel
theorem dd_Grammar_lastDot_11 : decode prog_3_method_3_code 11 = .ok (.ireturn, 1) := by decide +kernel
theorem dd_Grammar_handEndsInHole_0 : decode prog_3_method_4_code 0 = .ok (.aload_n 0, 1) := by decide +kernel
theorem dd_Grammar_handEndsInHole_1 : decode prog_3_method_4_code 1 = .ok (.getfield 29, 3) := by decide +kernel
theorem dd_Grammar_handEndsInHole_4 : decode prog_3_method_4_code 4 = .ok (.ifCond .le 27, 3) := by decide +kernel
theorem dd_Grammar_handEndsInHole_7 : decode prog_3_method_4_code 7 = .ok (.aload_n 0, 1) := by decide +kernel
theorem dd_Grammar_handEndsInHole_8 : decode prog_3_method_4_code 8 = .ok (.getfield 9, 3) := by decide +kernel
theorem dd_Grammar_handEndsInHole_11 : decode prog_3_method_4_code 11 = .ok (.aload_n 0, 1) := by decide +kernel
theorem dd_Grammar_handEndsInHole_12 : decode prog_3_method_4_code 12 = .ok (.invokevirtual 47, 3) := by decide +kernel
theorem dd_Grammar_handEndsInHole_15 : decode prog_3_method_4_code 15 = .ok (.aload_n 0, 1) := by decide +kernel
theorem dd_Grammar_handEndsInHole_16 : decode prog_3_method_4_code 16 = .ok (.getfield 29, 3) := by decide +kernel
theorem dd_Grammar_handEndsInHole_19 : decode prog_3_method_4_code 19 = .ok (.iadd, 1) := by decide +kernel
theorem dd_Grammar_handEndsInHole_20 : decode prog_3_method_4_code 20 = .ok (.iconst 1, 1) := by decide +kernel
theorem dd_Grammar_handEndsInHole_21 : decode prog_3_method_4_code 21 = .ok (.isub, 1) := by decide +kernel
theorem dd_Grammar_handEndsInHole_22 : decode prog_3_method_4_code 22 = .ok (.iaload, 1) := by decide +kernel
theorem dd_Grammar_handEndsInHole_23 : decode prog_3_method_4_code 23 = .ok (.iconst (-1), 1) := by decide +kernel
theorem dd_Grammar_handEndsInHole_24 : decode prog_3_method_4_code 24 = .ok (.if_icmp .eq 7, 3) := by decide +kernel
theorem dd_Grammar_handEndsInHole_27 : decode prog_3_method_4_code 27 = .ok (.iconst 1, 1) := by decide +kernel
theorem dd_Grammar_handEndsInHole_28 : decode prog_3_method_4_code 28 = .ok (.goto 4, 3) := by decide +kernel
theorem dd_Grammar_handEndsInHole_31 : decode prog_3_method_4_code 31 = .ok (.iconst 0, 1) := by decide +kernel
theorem dd_Grammar_handEndsInHole_32 : decode prog_3_method_4_code 32 = .ok (.ireturn, 1) := by decide +kernel
theorem dd_Grammar_handHasWord_0 : decode prog_3_method_5_code 0 = .ok (.iconst 0, 1) := by decide +kernel
theorem dd_Grammar_handHasWord_1 : decode prog_3_method_5_code 1 = .ok (.istore_n 1, 1) := by decide +kernel
theorem dd_Grammar_handHasWord_2 : decode prog_3_method_5_code 2 = .ok (.iload_n 1, 1) := by decide +kernel
theorem dd_Grammar_handHasWord_3 : decode prog_3_method_5_code 3 = .ok (.aload_n 0, 1) := by decide +kernel
theorem dd_Grammar_handHasWord_4 : decode prog_3_method_5_code 4 = .ok (.getfield 29, 3) := by decide +kernel
theorem dd_Grammar_handHasWord_7 : decode prog_3_method_5_code 7 = .ok (.if_icmp .ge 29, 3) := by decide +kernel
theorem dd_Grammar_handHasWord_10 : decode prog_3_method_5_code 10 = .ok (.aload_n 0, 1) := by decide +kernel
theorem dd_Grammar_handHasWord_11 : decode prog_3_method_5_code 11 = .ok (.getfield 15, 3) := by decide +kernel
theorem dd_Grammar_handHasWord_14 : decode prog_3_method_5_code 14 = .ok (.aload_n 0, 1) := by decide +kernel
theorem dd_Grammar_handHasWord_15 : decode prog_3_method_5_code 15 = .ok (.invokevirtual 47, 3) := by decide +kernel
theorem dd_Grammar_handHasWord_18 : decode prog_3_method_5_code 18 = .ok (.iload_n 1, 1) := by decide +kernel
theorem dd_Grammar_handHasWord_19 : decode prog_3_method_5_code 19 = .ok (.iadd, 1) := by decide +kernel
theorem dd_Grammar_handHasWord_20 : decode prog_3_method_5_code 20 = .ok (.laload, 1) := by decide +kernel
theorem dd_Grammar_handHasWord_21 : decode prog_3_method_5_code 21 = .ok (.ldc2_w 38, 3) := by decide +kernel
theorem dd_Grammar_handHasWord_24 : decode prog_3_method_5_code 24 = .ok (.lcmp, 1) := by decide +kernel
theorem dd_Grammar_handHasWord_25 : decode prog_3_method_5_code 25 = .ok (.ifCond .eq 5, 3) := by decide +kernel
theorem dd_Grammar_handHasWord_28 : decode prog_3_method_5_code 28 = .ok (.iconst 1, 1) := by decide +kernel
theorem dd_Grammar_handHasWord_29 : decode prog_3_method_5_code 29 = .ok (.ireturn, 1) := by decide +kernel
theorem dd_Grammar_handHasWord_30 : decode prog_3_method_5_code 30 = .ok (.iinc 1 1, 3) := by decide +kernel
theorem dd_Grammar_handHasWord_33 : decode prog_3_method_5_code 33 = .ok (.goto (-31), 3) := by decide +kernel
theorem dd_Grammar_handHasWord_36 : decode prog_3_method_5_code 36 = .ok (.iconst 0, 1) := by decide +kernel
theorem dd_Grammar_handHasWord_37 : decode prog_3_method_5_code 37 = .ok (.ireturn, 1) := by decide +kernel
theorem dd_Grammar_takePart_0 : decode prog_3_method_6_code 0 = .ok (.aload_n 0, 1) := by decide +kernel
theorem dd_Grammar_takePart_1 : decode prog_3_method_6_code 1 = .ok (.getfield 9, 3) := by decide +kernel
theorem dd_Grammar_takePart_4 : decode prog_3_method_6_code 4 = .ok (.aload_n 0, 1) := by decide +kernel
theorem dd_Grammar_takePart_5 : decode prog_3_method_6_code 5 = .ok (.invokevirtual 47, 3) := by decide +kernel
theorem dd_Grammar_takePart_8 : decode prog_3_method_6_code 8 = .ok (.aload_n 0, 1) := by decide +kernel
theorem dd_Grammar_takePart_9 : decode prog_3_method_6_code 9 = .ok (.getfield 29, 3) := by decide +kernel
theorem dd_Grammar_takePart_12 : decode prog_3_method_6_code 12 = .ok (.iadd, 1) := by decide +kernel
theorem dd_Grammar_takePart_13 : decode prog_3_method_6_code 13 = .ok (.iload_n 1, 1) := by decide +kernel
theorem dd_Grammar_takePart_14 : decode prog_3_method_6_code 14 = .ok (.iastore, 1) := by decide +kernel
theorem dd_Grammar_takePart_15 : decode prog_3_method_6_code 15 = .ok (.aload_n 0, 1) := by decide +kernel
theorem dd_Grammar_takePart_16 : decode prog_3_method_6_code 16 = .ok (.getfield 15, 3) := by decide +kernel
theorem dd_Grammar_takePart_19 : decode prog_3_method_6_code 19 = .ok (.aload_n 0, 1) := by decide +kernel
theorem dd_Grammar_takePart_20 : decode prog_3_method_6_code 20 = .ok (.invokevirtual 47, 3) := by decide +kernel
theorem dd_Grammar_takePart_23 : decode prog_3_method_6_code 23 = .ok (.aload_n 0, 1) := by decide +kernel
theorem dd_Grammar_takePart_24 : decode prog_3_method_6_code 24 = .ok (.getfield 29, 3) := by decide +kernel
theorem dd_Grammar_takePart_27 : decode prog_3_method_6_code 27 = .ok (.iadd, 1) := by decide +kernel
theorem dd_Grammar_takePart_28 : decode prog_3_method_6_code 28 = .ok (.lload_n 2, 1) := by decide +kernel
theorem dd_Grammar_takePart_29 : decode prog_3_method_6_code 29 = .ok (.lastore, 1) := by decide +kernel
theorem dd_Grammar_takePart_30 : decode prog_3_method_6_code 30 = .ok (.aload_n 0, 1) := by decide +kernel
theorem dd_Grammar_takePart_31 : decode prog_3_method_6_code 31 = .ok (.dup, 1) := by decide +kernel
theorem dd_Grammar_takePart_32 : decode prog_3_method_6_code 32 = .ok (.getfield 29, 3) := by decide +kernel
theorem dd_Grammar_takePart_35 : decode prog_3_method_6_code 35 = .ok (.iconst 1, 1) := by decide +kernel
theorem dd_Grammar_takePart_36 : decode prog_3_method_6_code 36 = .ok (.iadd, 1) := by decide +kernel
theorem dd_Grammar_takePart_37 : decode prog_3_method_6_code 37 = .ok (.putfield 29, 3) := by decide +kernel
theorem dd_Grammar_takePart_40 : decode prog_3_method_6_code 40 = .ok (.aload_n 0, 1) := by decide +kernel
theorem dd_Grammar_takePart_41 : decode prog_3_method_6_code 41 = .ok (.getfield 29, 3) := by decide +kernel
theorem dd_Grammar_takePart_44 : decode prog_3_method_6_code 44 = .ok (.ireturn, 1) := by decide +kernel
theorem dd_Grammar_makeRule_0 : decode prog_3_method_8_code 0 = .ok (.aload_n 0, 1) := by decide +kernel
theorem dd_Grammar_makeRule_1 : decode prog_3_method_8_code 1 = .ok (.getfield 25, 3) := by decide +kernel
theorem dd_Grammar_makeRule_4 : decode prog_3_method_8_code 4 = .ok (.istore_n 2, 1) := by decide +kernel
theorem dd_Grammar_makeRule_5 : decode prog_3_method_8_code 5 = .ok (.aload_n 0, 1) := by decide +kernel
theorem dd_Grammar_makeRule_6 : decode prog_3_method_8_code 6 = .ok (.getfield 19, 3) := by decide +kernel
theorem dd_Grammar_makeRule_9 : decode prog_3_method_8_code 9 = .ok (.iload_n 2, 1) := by decide +kernel
theorem dd_Grammar_makeRule_10 : decode prog_3_method_8_code 10 = .ok (.iload_n 1, 1) := by decide +kernel
theorem dd_Grammar_makeRule_11 : decode prog_3_method_8_code 11 = .ok (.iastore, 1) := by decide +kernel
theorem dd_Grammar_makeRule_12 : decode prog_3_method_8_code 12 = .ok (.aload_n 0, 1) := by decide +kernel
theorem dd_Grammar_makeRule_13 : decode prog_3_method_8_code 13 = .ok (.getfield 22, 3) := by decide +kernel
theorem dd_Grammar_makeRule_16 : decode prog_3_method_8_code 16 = .ok (.iload_n 2, 1) := by decide +kernel
theorem dd_Grammar_makeRule_17 : decode prog_3_method_8_code 17 = .ok (.aload_n 0, 1) := by decide +kernel
theorem dd_Grammar_makeRule_18 : decode prog_3_method_8_code 18 = .ok (.getfield 29, 3) := by decide +kernel
theorem dd_Grammar_makeRule_21 : decode prog_3_method_8_code 21 = .ok (.iastore, 1) := by decide +kernel
theorem dd_Grammar_makeRule_22 : decode prog_3_method_8_code 22 = .ok (.aload_n 0, 1) := by decide +kernel
theorem dd_Grammar_makeRule_23 : decode prog_3_method_8_code 23 = .ok (.dup, 1) := by decide +kernel
theorem dd_Grammar_makeRule_24 : decode prog_3_method_8_code 24 = .ok (.getfield 25, 3) := by decide +kernel
theorem dd_Grammar_makeRule_27 : decode prog_3_method_8_code 27 = .ok (.iconst 1, 1) := by decide +kernel
theorem dd_Grammar_makeRule_28 : decode prog_3_method_8_code 28 = .ok (.iadd, 1) := by decide +kernel
theorem dd_Grammar_makeRule_29 : decode prog_3_method_8_code 29 = .ok (.putfield 25, 3) := by decide +kernel
theorem dd_Grammar_makeRule_32 : decode prog_3_method_8_code 32 = .ok (.aload_n 0, 1) := by decide +kernel
theorem dd_Grammar_makeRule_33 : decode prog_3_method_8_code 33 = .ok (.iconst 0, 1) := by decide +kernel
theorem dd_Grammar_makeRule_34 : decode prog_3_method_8_code 34 = .ok (.putfield 29, 3) := by decide +kernel
theorem dd_Grammar_makeRule_37 : decode prog_3_method_8_code 37 = .ok (.iload_n 2, 1) := by decide +kernel
theorem dd_Grammar_makeRule_38 : decode prog_3_method_8_code 38 = .ok (.ireturn, 1) := by decide +kernel
theorem dd_Grammar_hasKey_0 : decode prog_3_method_9_code 0 = .ok (.bipush 14, 2) := by decide +kernel
theorem dd_Grammar_hasKey_2 : decode prog_3_method_9_code 2 = .ok (.istore_n 3, 1) := by decide +kernel
theorem dd_Grammar_hasKey_3 : decode prog_3_method_9_code 3 = .ok (.iload_n 3, 1) := by decide +kernel
theorem dd_Grammar_hasKey_4 : decode prog_3_method_9_code 4 = .ok (.aload_n 0, 1) := by decide +kernel
theorem dd_Grammar_hasKey_5 : decode prog_3_method_9_code 5 = .ok (.invokevirtual 47, 3) := by decide +kernel
theorem dd_Grammar_hasKey_8 : decode prog_3_method_9_code 8 = .ok (.if_icmp .ge 22, 3) := by decide +kernel
theorem dd_Grammar_hasKey_11 : decode prog_3_method_9_code 11 = .ok (.aload_n 0, 1) := by decide +kernel
theorem dd_Grammar_hasKey_12 : decode prog_3_method_9_code 12 = .ok (.getfield 15, 3) := by decide +kernel
theorem dd_Grammar_hasKey_15 : decode prog_3_method_9_code 15 = .ok (.iload_n 3, 1) := by decide +kernel
theorem dd_Grammar_hasKey_16 : decode prog_3_method_9_code 16 = .ok (.laload, 1) := by decide +kernel
theorem dd_Grammar_hasKey_17 : decode prog_3_method_9_code 17 = .ok (.lload_n 1, 1) := by decide +kernel
theorem dd_Grammar_hasKey_18 : decode prog_3_method_9_code 18 = .ok (.lcmp, 1) := by decide +kernel
theorem dd_Grammar_hasKey_19 : decode prog_3_method_9_code 19 = .ok (.ifCond .ne 5, 3) := by decide +kernel
theorem dd_Grammar_hasKey_22 : decode prog_3_method_9_code 22 = .ok (.iconst 1, 1) := by decide +kernel
theorem dd_Grammar_hasKey_23 : decode prog_3_method_9_code 23 = .ok (.ireturn, 1) := by decide +kernel
theorem dd_Grammar_hasKey_24 : decode prog_3_method_9_code 24 = .ok (.iinc 3 1, 3) := by decide +kernel
theorem dd_Grammar_hasKey_27 : decode prog_3_method_9_code 27 = .ok (.goto (-24), 3) := by decide +kernel
theorem dd_Grammar_hasKey_30 : decode prog_3_method_9_code 30 = .ok (.iconst 0, 1) := by decide +kernel
theorem dd_Grammar_hasKey_31 : decode prog_3_method_9_code 31 = .ok (.ireturn, 1) := by decide +kernel
theorem dd_Arrays_rangeCheck_0 : decode prog_25_method_30_code 0 = .ok (.iload_n 1, 1) := by decide +kernel
theorem dd_Arrays_rangeCheck_1 : decode prog_25_method_30_code 1 = .ok (.iload_n 2, 1) := by decide +kernel
theorem dd_Arrays_rangeCheck_2 : decode prog_25_method_30_code 2 = .ok (.if_icmp .le 44, 3) := by decide +kernel
theorem dd_Arrays_rangeCheck_5 : decode prog_25_method_30_code 5 = .ok (.new 43, 3) := by decide +kernel
theorem dd_Arrays_rangeCheck_8 : decode prog_25_method_30_code 8 = .ok (.dup, 1) := by decide +kernel
theorem dd_Arrays_rangeCheck_9 : decode prog_25_method_30_code 9 = .ok (.new 45, 3) := by decide +kernel
theorem dd_Arrays_rangeCheck_12 : decode prog_25_method_30_code 12 = .ok (.dup, 1) := by decide +kernel
theorem dd_Arrays_rangeCheck_13 : decode prog_25_method_30_code 13 = .ok (.invokespecial 47, 3) := by decide +kernel
theorem dd_Arrays_rangeCheck_16 : decode prog_25_method_30_code 16 = .ok (.ldc 48, 2) := by decide +kernel
theorem dd_Arrays_rangeCheck_18 : decode prog_25_method_30_code 18 = .ok (.invokevirtual 50, 3) := by decide +kernel
theorem dd_Arrays_rangeCheck_21 : decode prog_25_method_30_code 21 = .ok (.iload_n 1, 1) := by decide +kernel
theorem dd_Arrays_rangeCheck_22 : decode prog_25_method_30_code 22 = .ok (.invokevirtual 54, 3) := by decide +kernel
theorem dd_Arrays_rangeCheck_25 : decode prog_25_method_30_code 25 = .ok (.ldc 57, 2) := by decide +kernel
theorem dd_Arrays_rangeCheck_27 : decode prog_25_method_30_code 27 = .ok (.invokevirtual 50, 3) := by decide +kernel
theorem dd_Arrays_rangeCheck_30 : decode prog_25_method_30_code 30 = .ok (.iload_n 2, 1) := by decide +kernel
theorem dd_Arrays_rangeCheck_31 : decode prog_25_method_30_code 31 = .ok (.invokevirtual 54, 3) := by decide +kernel
theorem dd_Arrays_rangeCheck_34 : decode prog_25_method_30_code 34 = .ok (.ldc 59, 2) := by decide +kernel
theorem dd_Arrays_rangeCheck_36 : decode prog_25_method_30_code 36 = .ok (.invokevirtual 50, 3) := by decide +kernel
theorem dd_Arrays_rangeCheck_39 : decode prog_25_method_30_code 39 = .ok (.invokevirtual 61, 3) := by decide +kernel
theorem dd_Arrays_rangeCheck_42 : decode prog_25_method_30_code 42 = .ok (.invokespecial 65, 3) := by decide +kernel
theorem dd_Arrays_rangeCheck_45 : decode prog_25_method_30_code 45 = .ok (.athrow, 1) := by decide +kernel
theorem dd_Arrays_rangeCheck_46 : decode prog_25_method_30_code 46 = .ok (.iload_n 1, 1) := by decide +kernel
theorem dd_Arrays_rangeCheck_47 : decode prog_25_method_30_code 47 = .ok (.ifCond .ge 12, 3) := by decide +kernel
theorem dd_Arrays_rangeCheck_50 : decode prog_25_method_30_code 50 = .ok (.new 68, 3) := by decide +kernel
theorem dd_Arrays_rangeCheck_53 : decode prog_25_method_30_code 53 = .ok (.dup, 1) := by decide +kernel
theorem dd_Arrays_rangeCheck_54 : decode prog_25_method_30_code 54 = .ok (.iload_n 1, 1) := by decide +kernel
theorem dd_Arrays_rangeCheck_55 : decode prog_25_method_30_code 55 = .ok (.invokespecial 70, 3) := by decide +kernel
theorem dd_Arrays_rangeCheck_58 : decode prog_25_method_30_code 58 = .ok (.athrow, 1) := by decide +kernel
theorem dd_Arrays_rangeCheck_59 : decode prog_25_method_30_code 59 = .ok (.iload_n 2, 1) := by decide +kernel
theorem dd_Arrays_rangeCheck_60 : decode prog_25_method_30_code 60 = .ok (.iload_n 0, 1) := by decide +kernel
theorem dd_Arrays_rangeCheck_61 : decode prog_25_method_30_code 61 = .ok (.if_icmp .le 12, 3) := by decide +kernel
theorem dd_Arrays_rangeCheck_64 : decode prog_25_method_30_code 64 = .ok (.new 68, 3) := by decide +kernel
theorem dd_Arrays_rangeCheck_67 : decode prog_25_method_30_code 67 = .ok (.dup, 1) := by decide +kernel
theorem dd_Arrays_rangeCheck_68 : decode prog_25_method_30_code 68 = .ok (.iload_n 2, 1) := by decide +kernel
theorem dd_Arrays_rangeCheck_69 : decode prog_25_method_30_code 69 = .ok (.invokespecial 70, 3) := by decide +kernel
theorem dd_Arrays_rangeCheck_72 : decode prog_25_method_30_code 72 = .ok (.athrow, 1) := by decide +kernel
theorem dd_Arrays_rangeCheck_73 : decode prog_25_method_30_code 73 = .ok (.return_, 1) := by decide +kernel
theorem dd_Arrays_fill_0 : decode prog_25_method_104_code 0 = .ok (.aload_n 0, 1) := by decide +kernel
theorem dd_Arrays_fill_1 : decode prog_25_method_104_code 1 = .ok (.arraylength, 1) := by decide +kernel
theorem dd_Arrays_fill_2 : decode prog_25_method_104_code 2 = .ok (.iload_n 1, 1) := by decide +kernel
theorem dd_Arrays_fill_3 : decode prog_25_method_104_code 3 = .ok (.iload_n 2, 1) := by decide +kernel
theorem dd_Arrays_fill_4 : decode prog_25_method_104_code 4 = .ok (.invokestatic 13, 3) := by decide +kernel
theorem dd_Arrays_fill_7 : decode prog_25_method_104_code 7 = .ok (.iload_n 1, 1) := by decide +kernel
theorem dd_Arrays_fill_8 : decode prog_25_method_104_code 8 = .ok (.istore 4, 2) := by decide +kernel
theorem dd_Arrays_fill_10 : decode prog_25_method_104_code 10 = .ok (.iload 4, 2) := by decide +kernel
theorem dd_Arrays_fill_12 : decode prog_25_method_104_code 12 = .ok (.iload_n 2, 1) := by decide +kernel
theorem dd_Arrays_fill_13 : decode prog_25_method_104_code 13 = .ok (.if_icmp .ge 14, 3) := by decide +kernel
theorem dd_Arrays_fill_16 : decode prog_25_method_104_code 16 = .ok (.aload_n 0, 1) := by decide +kernel
theorem dd_Arrays_fill_17 : decode prog_25_method_104_code 17 = .ok (.iload 4, 2) := by decide +kernel
theorem dd_Arrays_fill_19 : decode prog_25_method_104_code 19 = .ok (.iload_n 3, 1) := by decide +kernel
theorem dd_Arrays_fill_20 : decode prog_25_method_104_code 20 = .ok (.iastore, 1) := by decide +kernel
theorem dd_Arrays_fill_21 : decode prog_25_method_104_code 21 = .ok (.iinc 4 1, 3) := by decide +kernel
theorem dd_Arrays_fill_24 : decode prog_25_method_104_code 24 = .ok (.goto (-14), 3) := by decide +kernel
theorem dd_Arrays_fill_27 : decode prog_25_method_104_code 27 = .ok (.return_, 1) := by decide +kernel
theorem dd_Arrays_fill2_0 : decode prog_25_method_102_code 0 = .ok (.aload_n 0, 1) := by decide +kernel
theorem dd_Arrays_fill2_1 : decode prog_25_method_102_code 1 = .ok (.arraylength, 1) := by decide +kernel
theorem dd_Arrays_fill2_2 : decode prog_25_method_102_code 2 = .ok (.iload_n 1, 1) := by decide +kernel
theorem dd_Arrays_fill2_3 : decode prog_25_method_102_code 3 = .ok (.iload_n 2, 1) := by decide +kernel
theorem dd_Arrays_fill2_4 : decode prog_25_method_102_code 4 = .ok (.invokestatic 13, 3) := by decide +kernel
theorem dd_Arrays_fill2_7 : decode prog_25_method_102_code 7 = .ok (.iload_n 1, 1) := by decide +kernel
theorem dd_Arrays_fill2_8 : decode prog_25_method_102_code 8 = .ok (.istore 5, 2) := by decide +kernel
theorem dd_Arrays_fill2_10 : decode prog_25_method_102_code 10 = .ok (.iload 5, 2) := by decide +kernel
theorem dd_Arrays_fill2_12 : decode prog_25_method_102_code 12 = .ok (.iload_n 2, 1) := by decide +kernel
theorem dd_Arrays_fill2_13 : decode prog_25_method_102_code 13 = .ok (.if_icmp .ge 14, 3) := by decide +kernel
theorem dd_Arrays_fill2_16 : decode prog_25_method_102_code 16 = .ok (.aload_n 0, 1) := by decide +kernel
theorem dd_Arrays_fill2_17 : decode prog_25_method_102_code 17 = .ok (.iload 5, 2) := by decide +kernel
theorem dd_Arrays_fill2_19 : decode prog_25_method_102_code 19 = .ok (.lload_n 3, 1) := by decide +kernel
theorem dd_Arrays_fill2_20 : decode prog_25_method_102_code 20 = .ok (.lastore, 1) := by decide +kernel
theorem dd_Arrays_fill2_21 : decode prog_25_method_102_code 21 = .ok (.iinc 5 1, 3) := by decide +kernel
theorem dd_Arrays_fill2_24 : decode prog_25_method_102_code 24 = .ok (.goto (-14), 3) := by decide +kernel
theorem dd_Arrays_fill2_27 : decode prog_25_method_102_code 27 = .ok (.return_, 1) := by decide +kernel
theorem dd_Spelling_byteOf_0 : decode prog_5_method_3_code 0 = .ok (.lload_n 0, 1) := by decide +kernel
theorem dd_Spelling_byteOf_1 : decode prog_5_method_3_code 1 = .ok (.bipush 8, 2) := by decide +kernel
theorem dd_Spelling_byteOf_3 : decode prog_5_method_3_code 3 = .ok (.iload_n 2, 1) := by decide +kernel
theorem dd_Spelling_byteOf_4 : decode prog_5_method_3_code 4 = .ok (.imul, 1) := by decide +kernel
theorem dd_Spelling_byteOf_5 : decode prog_5_method_3_code 5 = .ok (.lushr, 1) := by decide +kernel
theorem dd_Spelling_byteOf_6 : decode prog_5_method_3_code 6 = .ok (.l2i, 1) := by decide +kernel
theorem dd_Spelling_byteOf_7 : decode prog_5_method_3_code 7 = .ok (.sipush 255, 3) := by decide +kernel
theorem dd_Spelling_byteOf_10 : decode prog_5_method_3_code 10 = .ok (.iand, 1) := by decide +kernel
theorem dd_Spelling_byteOf_11 : decode prog_5_method_3_code 11 = .ok (.ireturn, 1) := by decide +kernel
theorem dd_Spelling_lowBytes_0 : decode prog_5_method_4_code 0 = .ok (.iload_n 2, 1) := by decide +kernel
theorem dd_Spelling_lowBytes_1 : decode prog_5_method_4_code 1 = .ok (.bipush 8, 2) := by decide +kernel
theorem dd_Spelling_lowBytes_3 : decode prog_5_method_4_code 3 = .ok (.if_icmp .lt 7, 3) := by decide +kernel
theorem dd_Spelling_lowBytes_6 : decode prog_5_method_4_code 6 = .ok (.lload_n 0, 1) := by decide +kernel
theorem dd_Spelling_lowBytes_7 : decode prog_5_method_4_code 7 = .ok (.goto 13, 3) := by decide +kernel
theorem dd_Spelling_lowBytes_10 : decode prog_5_method_4_code 10 = .ok (.lload_n 0, 1) := by decide +kernel
theorem dd_Spelling_lowBytes_11 : decode prog_5_method_4_code 11 = .ok (.lconst 1, 1) := by decide +kernel
theorem dd_Spelling_lowBytes_12 : decode prog_5_method_4_code 12 = .ok (.bipush 8, 2) := by decide +kernel
theorem dd_Spelling_lowBytes_14 : decode prog_5_method_4_code 14 = .ok (.iload_n 2, 1) := by decide +kernel
theorem dd_Spelling_lowBytes_15 : decode prog_5_method_4_code 15 = .ok (.imul, 1) := by decide +kernel
theorem dd_Spelling_lowBytes_16 : decode prog_5_method_4_code 16 = .ok (.lshl, 1) := by decide +kernel
theorem dd_Spelling_lowBytes_17 : decode prog_5_method_4_code 17 = .ok (.lconst 1, 1) := by decide +kernel
theorem dd_Spelling_lowBytes_18 : decode prog_5_method_4_code 18 = .ok (.lsub, 1) := by decide +kernel
theorem dd_Spelling_lowBytes_19 : decode prog_5_method_4_code 19 = .ok (.land, 1) := by decide +kernel
theorem dd_Spelling_lowBytes_20 : decode prog_5_method_4_code 20 = .ok (.lreturn, 1) := by decide +kernel
theorem dd_Text_append_0 : decode prog_6_method_2_code 0 = .ok (.iload_n 3, 1) := by decide +kernel
theorem dd_Text_append_1 : decode prog_6_method_2_code 1 = .ok (.iconst 1, 1) := by decide +kernel
theorem dd_Text_append_2 : decode prog_6_method_2_code 2 = .ok (.isub, 1) := by decide +kernel
theorem dd_Text_append_3 : decode prog_6_method_2_code 3 = .ok (.istore 4, 2) := by decide +kernel
theorem dd_Text_append_5 : decode prog_6_method_2_code 5 = .ok (.iload 4, 2) := by decide +kernel
theorem dd_Text_append_7 : decode prog_6_method_2_code 7 = .ok (.ifCond .lt 35, 3) := by decide +kernel
theorem dd_Text_append_10 : decode prog_6_method_2_code 10 = .ok (.aload_n 0, 1) := by decide +kernel
theorem dd_Text_append_11 : decode prog_6_method_2_code 11 = .ok (.getfield 9, 3) := by decide +kernel
theorem dd_Text_append_14 : decode prog_6_method_2_code 14 = .ok (.aload_n 0, 1) := by decide +kernel
theorem dd_Text_append_15 : decode prog_6_method_2_code 15 = .ok (.getfield 15, 3) := by decide +kernel
theorem dd_Text_append_18 : decode prog_6_method_2_code 18 = .ok (.lload_n 1, 1) := by decide +kernel
theorem dd_Text_append_19 : decode prog_6_method_2_code 19 = .ok (.iload 4, 2) := by decide +kernel
theorem dd_Text_append_21 : decode prog_6_method_2_code 21 = .ok (.invokestatic 36, 3) := by decide +kernel
theorem dd_Text_append_24 : decode prog_6_method_2_code 24 = .ok (.i2b, 1) := by decide +kernel
theorem dd_Text_append_25 : decode prog_6_method_2_code 25 = .ok (.bastore, 1) := by decide +kernel
theorem dd_Text_append_26 : decode prog_6_method_2_code 26 = .ok (.aload_n 0, 1) := by decide +kernel
theorem dd_Text_append_27 : decode prog_6_method_2_code 27 = .ok (.dup, 1) := by decide +kernel
theorem dd_Text_append_28 : decode prog_6_method_2_code 28 = .ok (.getfield 15, 3) := by decide +kernel
theorem dd_Text_append_31 : decode prog_6_method_2_code 31 = .ok (.iconst 1, 1) := by decide +kernel
theorem dd_Text_append_32 : decode prog_6_method_2_code 32 = .ok (.iadd, 1) := by decide +kernel
theorem dd_Text_append_33 : decode prog_6_method_2_code 33 = .ok (.putfield 15, 3) := by decide +kernel
theorem dd_Text_append_36 : decode prog_6_method_2_code 36 = .ok (.iinc 4 (-1), 3) := by decide +kernel
theorem dd_Text_append_39 : decode prog_6_method_2_code 39 = .ok (.goto (-34), 3) := by decide +kernel
theorem dd_Text_append_42 : decode prog_6_method_2_code 42 = .ok (.return_, 1) := by decide +kernel
theorem dd_Text_takeRow_0 : decode prog_6_method_6_code 0 = .ok (.iload_n 2, 1) := by decide +kernel
theorem dd_Text_takeRow_1 : decode prog_6_method_6_code 1 = .ok (.iload_n 1, 1) := by decide +kernel
theorem dd_Text_takeRow_2 : decode prog_6_method_6_code 2 = .ok (.isub, 1) := by decide +kernel
theorem dd_Text_takeRow_3 : decode prog_6_method_6_code 3 = .ok (.bipush 8, 2) := by decide +kernel
theorem dd_Text_takeRow_5 : decode prog_6_method_6_code 5 = .ok (.if_icmp .le 7, 3) := by decide +kernel
theorem dd_Text_takeRow_8 : decode prog_6_method_6_code 8 = .ok (.iconst 1, 1) := by decide +kernel
theorem dd_Text_takeRow_9 : decode prog_6_method_6_code 9 = .ok (.goto 4, 3) := by decide +kernel
theorem dd_Text_takeRow_12 : decode prog_6_method_6_code 12 = .ok (.iconst 0, 1) := by decide +kernel
theorem dd_Text_takeRow_13 : decode prog_6_method_6_code 13 = .ok (.istore 5, 2) := by decide +kernel
theorem dd_Text_takeRow_15 : decode prog_6_method_6_code 15 = .ok (.iload_n 3, 1) := by decide +kernel
theorem dd_Text_takeRow_16 : decode prog_6_method_6_code 16 = .ok (.ifCond .eq 17, 3) := by decide +kernel
theorem dd_Text_takeRow_19 : decode prog_6_method_6_code 19 = .ok (.iload 5, 2) := by decide +kernel
theorem dd_Text_takeRow_21 : decode prog_6_method_6_code 21 = .ok (.ifCond .ne 12, 3) := by decide +kernel
theorem dd_Text_takeRow_24 : decode prog_6_method_6_code 24 = .ok (.aload_n 0, 1) := by decide +kernel
theorem dd_Text_takeRow_25 : decode prog_6_method_6_code 25 = .ok (.getfield 30, 3) := by decide +kernel
theorem dd_Text_takeRow_28 : decode prog_6_method_6_code 28 = .ok (.bipush 30, 2) := by decide +kernel
theorem dd_Text_takeRow_30 : decode prog_6_method_6_code 30 = .ok (.if_icmp .lt 9, 3) := by decide +kernel
theorem dd_Text_takeRow_33 : decode prog_6_method_6_code 33 = .ok (.aload_n 0, 1) := by decide +kernel
theorem dd_Text_takeRow_34 : decode prog_6_method_6_code 34 = .ok (.iload_n 1, 1) := by decide +kernel
theorem dd_Text_takeRow_35 : decode prog_6_method_6_code 35 = .ok (.putfield 33, 3) := by decide +kernel
theorem dd_Text_takeRow_38 : decode prog_6_method_6_code 38 = .ok (.return_, 1) := by decide +kernel
theorem dd_Text_takeRow_39 : decode prog_6_method_6_code 39 = .ok (.lconst 0, 1) := by decide +kernel
theorem dd_Text_takeRow_40 : decode prog_6_method_6_code 40 = .ok (.lstore 6, 2) := by decide +kernel
theorem dd_Text_takeRow_42 : decode prog_6_method_6_code 42 = .ok (.iload_n 1, 1) := by decide +kernel
theorem dd_Text_takeRow_43 : decode prog_6_method_6_code 43 = .ok (.istore 8, 2) := by decide +kernel
theorem dd_Text_takeRow_45 : decode prog_6_method_6_code 45 = .ok (.iload 8, 2) := by decide +kernel
theorem dd_Text_takeRow_47 : decode prog_6_method_6_code 47 = .ok (.iload_n 2, 1) := by decide +kernel
theorem dd_Text_takeRow_48 : decode prog_6_method_6_code 48 = .ok (.if_icmp .ge 29, 3) := by decide +kernel
theorem dd_Text_takeRow_51 : decode prog_6_method_6_code 51 = .ok (.lload 6, 2) := by decide +kernel
theorem dd_Text_takeRow_53 : decode prog_6_method_6_code 53 = .ok (.bipush 8, 2) := by decide +kernel
theorem dd_Text_takeRow_55 : decode prog_6_method_6_code 55 = .ok (.lshl, 1) := by decide +kernel
theorem dd_Text_takeRow_56 : decode prog_6_method_6_code 56 = .ok (.aload_n 0, 1) := by decide +kernel
theorem dd_Text_takeRow_57 : decode prog_6_method_6_code 57 = .ok (.getfield 9, 3) := by decide +kernel
theorem dd_Text_takeRow_60 : decode prog_6_method_6_code 60 = .ok (.iload 8, 2) := by decide +kernel
theorem dd_Text_takeRow_62 : decode prog_6_method_6_code 62 = .ok (.baload, 1) := by decide +kernel
theorem dd_Text_takeRow_63 : decode prog_6_method_6_code 63 = .ok (.sipush 255, 3) := by decide +kernel
theorem dd_Text_takeRow_66 : decode prog_6_method_6_code 66 = .ok (.iand, 1) := by decide +kernel
theorem dd_Text_takeRow_67 : decode prog_6_method_6_code 67 = .ok (.i2l, 1) := by decide +kernel
theorem dd_Text_takeRow_68 : decode prog_6_method_6_code 68 = .ok (.lor, 1) := by decide +kernel
theorem dd_Text_takeRow_69 : decode prog_6_method_6_code 69 = .ok (.lstore 6, 2) := by decide +kernel
theorem dd_Text_takeRow_71 : decode prog_6_method_6_code 71 = .ok (.iinc 8 1, 3) := by decide +kernel
theorem dd_Text_takeRow_74 : decode prog_6_method_6_code 74 = .ok (.goto (-29), 3) := by decide +kernel
theorem dd_Text_takeRow_77 : decode prog_6_method_6_code 77 = .ok (.iload_n 3, 1) := by decide +kernel
theorem dd_Text_takeRow_78 : decode prog_6_method_6_code 78 = .ok (.iconst 2, 1) := by decide +kernel
theorem dd_Text_takeRow_79 : decode prog_6_method_6_code 79 = .ok (.if_icmp .eq 8, 3) := by decide +kernel
theorem dd_Text_takeRow_82 : decode prog_6_method_6_code 82 = .ok (.iload_n 3, 1) := by decide +kernel
theorem dd_Text_takeRow_83 : decode prog_6_method_6_code 83 = .ok (.iconst 3, 1) := by decide +kernel
theorem dd_Text_takeRow_84 : decode prog_6_method_6_code 84 = .ok (.if_icmp .ne 7, 3) := by decide +kernel
theorem dd_Text_takeRow_87 : decode prog_6_method_6_code 87 = .ok (.iconst 1, 1) := by decide +kernel
theorem dd_Text_takeRow_88 : decode prog_6_method_6_code 88 = .ok (.goto 4, 3) := by decide +kernel
theorem dd_Text_takeRow_91 : decode prog_6_method_6_code 91 = .ok (.iconst 0, 1) := by decide +kernel
theorem dd_Text_takeRow_92 : decode prog_6_method_6_code 92 = .ok (.istore 8, 2) := by decide +kernel
theorem dd_Text_takeRow_94 : decode prog_6_method_6_code 94 = .ok (.aload_n 0, 1) := by decide +kernel
theorem dd_Text_takeRow_95 : decode prog_6_method_6_code 95 = .ok (.getfield 19, 3) := by decide +kernel
theorem dd_Text_takeRow_98 : decode prog_6_method_6_code 98 = .ok (.aload_n 0, 1) := by decide +kernel
theorem dd_Text_takeRow_99 : decode prog_6_method_6_code 99 = .ok (.getfield 30, 3) := by decide +kernel
theorem dd_Text_takeRow_102 : decode prog_6_method_6_code 102 = .ok (.lload 6, 2) := by decide +kernel
theorem dd_Text_takeRow_104 : decode prog_6_method_6_code 104 = .ok (.lastore, 1) := by decide +kernel
theorem dd_Text_takeRow_105 : decode prog_6_method_6_code 105 = .ok (.aload_n 0, 1) := by decide +kernel
theorem dd_Text_takeRow_106 : decode prog_6_method_6_code 106 = .ok (.getfield 23, 3) := by decide +kernel
theorem dd_Text_takeRow_109 : decode prog_6_method_6_code 109 = .ok (.aload_n 0, 1) := by decide +kernel
theorem dd_Text_takeRow_110 : decode prog_6_method_6_code 110 = .ok (.getfield 30, 3) := by decide +kernel
theorem dd_Text_takeRow_113 : decode prog_6_method_6_code 113 = .ok (.iload 8, 2) := by decide +kernel
theorem dd_Text_takeRow_115 : decode prog_6_method_6_code 115 = .ok (.ifCond .eq 17, 3) := by decide +kernel
theorem dd_Text_takeRow_118 : decode prog_6_method_6_code 118 = .ok (.aload 4, 2) := by decide +kernel
theorem dd_Text_takeRow_120 : decode prog_6_method_6_code 120 = .ok (.lload 6, 2) := by decide +kernel
theorem dd_Text_takeRow_122 : decode prog_6_method_6_code 122 = .ok (.invokevirtual 57, 3) := by decide +kernel
theorem dd_Text_takeRow_125 : decode prog_6_method_6_code 125 = .ok (.ifCond .ne 7, 3) := by decide +kernel
theorem dd_Text_takeRow_128 : decode prog_6_method_6_code 128 = .ok (.lconst 0, 1) := by decide +kernel
theorem dd_Text_takeRow_129 : decode prog_6_method_6_code 129 = .ok (.goto 5, 3) := by decide +kernel
theorem dd_Text_takeRow_132 : decode prog_6_method_6_code 132 = .ok (.lload 6, 2) := by decide +kernel
theorem dd_Text_takeRow_134 : decode prog_6_method_6_code 134 = .ok (.lastore, 1) := by decide +kernel
theorem dd_Text_takeRow_135 : decode prog_6_method_6_code 135 = .ok (.aload_n 0, 1) := by decide +kernel
theorem dd_Text_takeRow_136 : decode prog_6_method_6_code 136 = .ok (.getfield 26, 3) := by decide +kernel
theorem dd_Text_takeRow_139 : decode prog_6_method_6_code 139 = .ok (.aload_n 0, 1) := by decide +kernel
theorem dd_Text_takeRow_140 : decode prog_6_method_6_code 140 = .ok (.getfield 30, 3) := by decide +kernel
theorem dd_Text_takeRow_143 : decode prog_6_method_6_code 143 = .ok (.iload_n 1, 1) := by decide +kernel
theorem dd_Text_takeRow_144 : decode prog_6_method_6_code 144 = .ok (.iastore, 1) := by decide +kernel
theorem dd_Text_takeRow_145 : decode prog_6_method_6_code 145 = .ok (.aload_n 0, 1) := by decide +kernel
theorem dd_Text_takeRow_146 : decode prog_6_method_6_code 146 = .ok (.dup, 1) := by decide +kernel
theorem dd_Text_takeRow_147 : decode prog_6_method_6_code 147 = .ok (.getfield 30, 3) := by decide +kernel
theorem dd_Text_takeRow_150 : decode prog_6_method_6_code 150 = .ok (.iconst 1, 1) := by decide +kernel
theorem dd_Text_takeRow_151 : decode prog_6_method_6_code 151 = .ok (.iadd, 1) := by decide +kernel
theorem dd_Text_takeRow_152 : decode prog_6_method_6_code 152 = .ok (.putfield 30, 3) := by decide +kernel
theorem dd_Text_takeRow_155 : decode prog_6_method_6_code 155 = .ok (.return_, 1) := by decide +kernel
theorem dd_N_put_0 : decode prog_1_method_5_code 0 = .ok (.iload_n 3, 1) := by decide +kernel
theorem dd_N_put_1 : decode prog_1_method_5_code 1 = .ok (.iconst 1, 1) := by decide +kernel
theorem dd_N_put_2 : decode prog_1_method_5_code 2 = .ok (.if_icmp .lt 24, 3) := by decide +kernel
theorem dd_N_put_5 : decode prog_1_method_5_code 5 = .ok (.iload_n 3, 1) := by decide +kernel
theorem dd_N_put_6 : decode prog_1_method_5_code 6 = .ok (.bipush 8, 2) := by decide +kernel
theorem dd_N_put_8 : decode prog_1_method_5_code 8 = .ok (.if_icmp .gt 18, 3) := by decide +kernel
theorem dd_N_put_11 : decode prog_1_method_5_code 11 = .ok (.iload_n 3, 1) := by decide +kernel
theorem dd_N_put_12 : decode prog_1_method_5_code 12 = .ok (.sipush 200, 3) := by decide +kernel
theorem dd_N_put_15 : decode prog_1_method_5_code 15 = .ok (.aload_n 0, 1) := by decide +kernel
theorem dd_N_put_16 : decode prog_1_method_5_code 16 = .ok (.getfield 19, 3) := by decide +kernel
theorem dd_N_put_19 : decode prog_1_method_5_code 19 = .ok (.getfield 120, 3) := by decide +kernel
theorem dd_N_put_22 : decode prog_1_method_5_code 22 = .ok (.isub, 1) := by decide +kernel
theorem dd_N_put_23 : decode prog_1_method_5_code 23 = .ok (.if_icmp .le 5, 3) := by decide +kernel
theorem dd_N_put_26 : decode prog_1_method_5_code 26 = .ok (.iconst 0, 1) := by decide +kernel
theorem dd_N_put_27 : decode prog_1_method_5_code 27 = .ok (.ireturn, 1) := by decide +kernel
theorem dd_N_put_28 : decode prog_1_method_5_code 28 = .ok (.aload_n 0, 1) := by decide +kernel
theorem dd_N_put_29 : decode prog_1_method_5_code 29 = .ok (.getfield 19, 3) := by decide +kernel
theorem dd_N_put_32 : decode prog_1_method_5_code 32 = .ok (.lload_n 1, 1) := by decide +kernel
theorem dd_N_put_33 : decode prog_1_method_5_code 33 = .ok (.iload_n 3, 1) := by decide +kernel
theorem dd_N_put_34 : decode prog_1_method_5_code 34 = .ok (.invokevirtual 123, 3) := by decide +kernel
theorem dd_N_put_37 : decode prog_1_method_5_code 37 = .ok (.iconst 1, 1) := by decide +kernel
theorem dd_N_put_38 : decode prog_1_method_5_code 38 = .ok (.ireturn, 1) := by decide +kernel
theorem dd_N_clear_0 : decode prog_1_method_6_code 0 = .ok (.aload_n 0, 1) := by decide +kernel
theorem dd_N_clear_1 : decode prog_1_method_6_code 1 = .ok (.getfield 19, 3) := by decide +kernel
theorem dd_N_clear_4 : decode prog_1_method_6_code 4 = .ok (.iconst 0, 1) := by decide +kernel
theorem dd_N_clear_5 : decode prog_1_method_6_code 5 = .ok (.putfield 120, 3) := by decide +kernel
theorem dd_N_clear_8 : decode prog_1_method_6_code 8 = .ok (.return_, 1) := by decide +kernel
theorem dd_N_noteFault_0 : decode prog_1_method_9_code 0 = .ok (.aload_n 0, 1) := by decide +kernel
theorem dd_N_noteFault_1 : decode prog_1_method_9_code 1 = .ok (.iload_n 1, 1) := by decide +kernel
theorem dd_N_noteFault_2 : decode prog_1_method_9_code 2 = .ok (.putfield 48, 3) := by decide +kernel
theorem dd_N_noteFault_5 : decode prog_1_method_9_code 5 = .ok (.aload_n 0, 1) := by decide +kernel
theorem dd_N_noteFault_6 : decode prog_1_method_9_code 6 = .ok (.iload_n 2, 1) := by decide +kernel
theorem dd_N_noteFault_7 : decode prog_1_method_9_code 7 = .ok (.putfield 52, 3) := by decide +kernel
theorem dd_N_noteFault_10 : decode prog_1_method_9_code 10 = .ok (.return_, 1) := by decide +kernel
theorem dd_N_findFault_0 : decode prog_1_method_8_code 0 = .ok (.aload_n 0, 1) := by decide +kernel
theorem dd_N_findFault_1 : decode prog_1_method_8_code 1 = .ok (.getfield 28, 3) := by decide +kernel
theorem dd_N_findFault_4 : decode prog_1_method_8_code 4 = .ok (.aload_n 0, 1) := by decide +kernel
theorem dd_N_findFault_5 : decode prog_1_method_8_code 5 = .ok (.getfield 19, 3) := by decide +kernel
theorem dd_N_findFault_8 : decode prog_1_method_8_code 8 = .ok (.getfield 145, 3) := by decide +kernel
theorem dd_N_findFault_11 : decode prog_1_method_8_code 11 = .ok (.aload_n 0, 1) := by decide +kernel
theorem dd_N_findFault_12 : decode prog_1_method_8_code 12 = .ok (.getfield 19, 3) := by decide +kernel
theorem dd_N_findFault_15 : decode prog_1_method_8_code 15 = .ok (.getfield 135, 3) := by decide +kernel
theorem dd_N_findFault_18 : decode prog_1_method_8_code 18 = .ok (.invokevirtual 149, 3) := by decide +kernel
theorem dd_N_findFault_21 : decode prog_1_method_8_code 21 = .ok (.istore_n 1, 1) := by decide +kernel
theorem dd_N_findFault_22 : decode prog_1_method_8_code 22 = .ok (.iload_n 1, 1) := by decide +kernel
theorem dd_N_findFault_23 : decode prog_1_method_8_code 23 = .ok (.aload_n 0, 1) := by decide +kernel
theorem dd_N_findFault_24 : decode prog_1_method_8_code 24 = .ok (.getfield 19, 3) := by decide +kernel
theorem dd_N_findFault_27 : decode prog_1_method_8_code 27 = .ok (.getfield 135, 3) := by decide +kernel
theorem dd_N_findFault_30 : decode prog_1_method_8_code 30 = .ok (.if_icmp .ge 20, 3) := by decide +kernel
theorem dd_N_findFault_33 : decode prog_1_method_8_code 33 = .ok (.aload_n 0, 1) := by decide +kernel
theorem dd_N_findFault_34 : decode prog_1_method_8_code 34 = .ok (.iconst 1, 1) := by decide +kernel
theorem dd_N_findFault_35 : decode prog_1_method_8_code 35 = .ok (.aload_n 0, 1) := by decide +kernel
theorem dd_N_findFault_36 : decode prog_1_method_8_code 36 = .ok (.getfield 19, 3) := by decide +kernel
theorem dd_N_findFault_39 : decode prog_1_method_8_code 39 = .ok (.getfield 153, 3) := by decide +kernel
theorem dd_N_findFault_42 : decode prog_1_method_8_code 42 = .ok (.iload_n 1, 1) := by decide +kernel
theorem dd_N_findFault_43 : decode prog_1_method_8_code 43 = .ok (.iaload, 1) := by decide +kernel
theorem dd_N_findFault_44 : decode prog_1_method_8_code 44 = .ok (.invokevirtual 157, 3) := by decide +kernel
theorem dd_N_findFault_47 : decode prog_1_method_8_code 47 = .ok (.goto 67, 3) := by decide +kernel
theorem dd_N_findFault_50 : decode prog_1_method_8_code 50 = .ok (.aload_n 0, 1) := by decide +kernel
theorem dd_N_findFault_51 : decode prog_1_method_8_code 51 = .ok (.getfield 19, 3) := by decide +kernel
theorem dd_N_findFault_54 : decode prog_1_method_8_code 54 = .ok (.getfield 161, 3) := by decide +kernel
theorem dd_N_findFault_57 : decode prog_1_method_8_code 57 = .ok (.iconst (-1), 1) := by decide +kernel
theorem dd_N_findFault_58 : decode prog_1_method_8_code 58 = .ok (.if_icmp .eq 18, 3) := by decide +kernel
theorem dd_N_findFault_61 : decode prog_1_method_8_code 61 = .ok (.aload_n 0, 1) := by decide +kernel
theorem dd_N_findFault_62 : decode prog_1_method_8_code 62 = .ok (.iconst 2, 1) := by decide +kernel
theorem dd_N_findFault_63 : decode prog_1_method_8_code 63 = .ok (.aload_n 0, 1) := by decide +kernel
theorem dd_N_findFault_64 : decode prog_1_method_8_code 64 = .ok (.getfield 19, 3) := by decide +kernel
theorem dd_N_findFault_67 : decode prog_1_method_8_code 67 = .ok (.getfield 161, 3) := by decide +kernel
theorem dd_N_findFault_70 : decode prog_1_method_8_code 70 = .ok (.invokevirtual 157, 3) := by decide +kernel
theorem dd_N_findFault_73 : decode prog_1_method_8_code 73 = .ok (.goto 41, 3) := by decide +kernel
theorem dd_N_findFault_76 : decode prog_1_method_8_code 76 = .ok (.aload_n 0, 1) := by decide +kernel
theorem dd_N_findFault_77 : decode prog_1_method_8_code 77 = .ok (.getfield 28, 3) := by decide +kernel
theorem dd_N_findFault_80 : decode prog_1_method_8_code 80 = .ok (.aload_n 0, 1) := by decide +kernel
theorem dd_N_findFault_81 : decode prog_1_method_8_code 81 = .ok (.getfield 19, 3) := by decide +kernel
theorem dd_N_findFault_84 : decode prog_1_method_8_code 84 = .ok (.getfield 135, 3) := by decide +kernel
theorem dd_N_findFault_87 : decode prog_1_method_8_code 87 = .ok (.invokevirtual 164, 3) := by decide +kernel
theorem dd_N_findFault_90 : decode prog_1_method_8_code 90 = .ok (.ifCond .ne 18, 3) := by decide +kernel
theorem dd_N_findFault_93 : decode prog_1_method_8_code 93 = .ok (.aload_n 0, 1) := by decide +kernel
theorem dd_N_findFault_94 : decode prog_1_method_8_code 94 = .ok (.iconst 1, 1) := by decide +kernel
theorem dd_N_findFault_95 : decode prog_1_method_8_code 95 = .ok (.aload_n 0, 1) := by decide +kernel
theorem dd_N_findFault_96 : decode prog_1_method_8_code 96 = .ok (.getfield 19, 3) := by decide +kernel
theorem dd_N_findFault_99 : decode prog_1_method_8_code 99 = .ok (.getfield 120, 3) := by decide +kernel
theorem dd_N_findFault_102 : decode prog_1_method_8_code 102 = .ok (.invokevirtual 157, 3) := by decide +kernel
theorem dd_N_findFault_105 : decode prog_1_method_8_code 105 = .ok (.goto 9, 3) := by decide +kernel
theorem dd_N_findFault_108 : decode prog_1_method_8_code 108 = .ok (.aload_n 0, 1) := by decide +kernel
theorem dd_N_findFault_109 : decode prog_1_method_8_code 109 = .ok (.iconst 0, 1) := by decide +kernel
theorem dd_N_findFault_110 : decode prog_1_method_8_code 110 = .ok (.iconst (-1), 1) := by decide +kernel
theorem dd_N_findFault_111 : decode prog_1_method_8_code 111 = .ok (.invokevirtual 157, 3) := by decide +kernel
theorem dd_N_findFault_114 : decode prog_1_method_8_code 114 = .ok (.return_, 1) := by decide +kernel
theorem dd_N_fault_0 : decode prog_1_method_10_code 0 = .ok (.iload_n 1, 1) := by decide +kernel
theorem dd_N_fault_1 : decode prog_1_method_10_code 1 = .ok (.lookupswitch 37 #[(0, 27), (1, 32)], 27) := by decide +kernel
theorem dd_N_fault_28 : decode prog_1_method_10_code 28 = .ok (.aload_n 0, 1) := by decide +kernel
theorem dd_N_fault_29 : decode prog_1_method_10_code 29 = .ok (.getfield 48, 3) := by decide +kernel
theorem dd_N_fault_32 : decode prog_1_method_10_code 32 = .ok (.ireturn, 1) := by decide +kernel
theorem dd_N_fault_33 : decode prog_1_method_10_code 33 = .ok (.aload_n 0, 1) := by decide +kernel
theorem dd_N_fault_34 : decode prog_1_method_10_code 34 = .ok (.getfield 52, 3) := by decide +kernel
theorem dd_N_fault_37 : decode prog_1_method_10_code 37 = .ok (.ireturn, 1) := by decide +kernel
theorem dd_N_fault_38 : decode prog_1_method_10_code 38 = .ok (.iconst (-1), 1) := by decide +kernel
theorem dd_N_fault_39 : decode prog_1_method_10_code 39 = .ok (.ireturn, 1) := by decide +kernel
theorem dd_N_at_0 : decode prog_1_method_13_code 0 = .ok (.iload_n 1, 1) := by decide +kernel
theorem dd_N_at_1 : decode prog_1_method_13_code 1 = .ok (.ifCond .lt 14, 3) := by decide +kernel
theorem dd_N_at_4 : decode prog_1_method_13_code 4 = .ok (.iload_n 1, 1) := by decide +kernel
theorem dd_N_at_5 : decode prog_1_method_13_code 5 = .ok (.aload_n 0, 1) := by decide +kernel
theorem dd_N_at_6 : decode prog_1_method_13_code 6 = .ok (.getfield 44, 3) := by decide +kernel
theorem dd_N_at_9 : decode prog_1_method_13_code 9 = .ok (.getfield 198, 3) := by decide +kernel
theorem dd_N_at_12 : decode prog_1_method_13_code 12 = .ok (.if_icmp .lt 7, 3) := by decide +kernel
theorem dd_N_at_15 : decode prog_1_method_13_code 15 = .ok (.iconst (-1), 1) := by decide +kernel
theorem dd_N_at_16 : decode prog_1_method_13_code 16 = .ok (.goto 12, 3) := by decide +kernel
theorem dd_N_at_19 : decode prog_1_method_13_code 19 = .ok (.aload_n 0, 1) := by decide +kernel
theorem dd_N_at_20 : decode prog_1_method_13_code 20 = .ok (.getfield 44, 3) := by decide +kernel
theorem dd_N_at_23 : decode prog_1_method_13_code 23 = .ok (.getfield 199, 3) := by decide +kernel
theorem dd_N_at_26 : decode prog_1_method_13_code 26 = .ok (.iload_n 1, 1) := by decide +kernel
theorem dd_N_at_27 : decode prog_1_method_13_code 27 = .ok (.baload, 1) := by decide +kernel
theorem dd_N_at_28 : decode prog_1_method_13_code 28 = .ok (.ireturn, 1) := by decide +kernel
theorem dd_N_about_0 : decode prog_1_method_15_code 0 = .ok (.iload_n 1, 1) := by decide +kernel
theorem dd_N_about_1 : decode prog_1_method_15_code 1 = .ok (.tableswitch 77 0 4 #[35, 45, 53, 61, 69], 35) := by decide +kernel
theorem dd_N_about_36 : decode prog_1_method_15_code 36 = .ok (.aload_n 0, 1) := by decide +kernel
theorem dd_N_about_37 : decode prog_1_method_15_code 37 = .ok (.getfield 12, 3) := by decide +kernel
theorem dd_N_about_40 : decode prog_1_method_15_code 40 = .ok (.getfield 108, 3) := by decide +kernel
theorem dd_N_about_43 : decode prog_1_method_15_code 43 = .ok (.iconst 2, 1) := by decide +kernel
theorem dd_N_about_44 : decode prog_1_method_15_code 44 = .ok (.isub, 1) := by decide +kernel
theorem dd_N_about_45 : decode prog_1_method_15_code 45 = .ok (.ireturn, 1) := by decide +kernel
theorem dd_N_about_46 : decode prog_1_method_15_code 46 = .ok (.aload_n 0, 1) := by decide +kernel
theorem dd_N_about_47 : decode prog_1_method_15_code 47 = .ok (.getfield 12, 3) := by decide +kernel
theorem dd_N_about_50 : decode prog_1_method_15_code 50 = .ok (.getfield 68, 3) := by decide +kernel
theorem dd_N_about_53 : decode prog_1_method_15_code 53 = .ok (.ireturn, 1) := by decide +kernel
theorem dd_N_about_54 : decode prog_1_method_15_code 54 = .ok (.aload_n 0, 1) := by decide +kernel
theorem dd_N_about_55 : decode prog_1_method_15_code 55 = .ok (.getfield 19, 3) := by decide +kernel
theorem dd_N_about_58 : decode prog_1_method_15_code 58 = .ok (.getfield 120, 3) := by decide +kernel
theorem dd_N_about_61 : decode prog_1_method_15_code 61 = .ok (.ireturn, 1) := by decide +kernel
theorem dd_N_about_62 : decode prog_1_method_15_code 62 = .ok (.aload_n 0, 1) := by decide +kernel
theorem dd_N_about_63 : decode prog_1_method_15_code 63 = .ok (.getfield 37, 3) := by decide +kernel
theorem dd_N_about_66 : decode prog_1_method_15_code 66 = .ok (.getfield 168, 3) := by decide +kernel
theorem dd_N_about_69 : decode prog_1_method_15_code 69 = .ok (.ireturn, 1) := by decide +kernel
theorem dd_N_about_70 : decode prog_1_method_15_code 70 = .ok (.aload_n 0, 1) := by decide +kernel
theorem dd_N_about_71 : decode prog_1_method_15_code 71 = .ok (.getfield 44, 3) := by decide +kernel
theorem dd_N_about_74 : decode prog_1_method_15_code 74 = .ok (.getfield 198, 3) := by decide +kernel
theorem dd_N_about_77 : decode prog_1_method_15_code 77 = .ok (.ireturn, 1) := by decide +kernel
theorem dd_N_about_78 : decode prog_1_method_15_code 78 = .ok (.iconst (-1), 1) := by decide +kernel
theorem dd_N_about_79 : decode prog_1_method_15_code 79 = .ok (.ireturn, 1) := by decide +kernel
theorem dd_Tree_fell_0 : decode prog_7_method_2_code 0 = .ok (.aload_n 0, 1) := by decide +kernel
theorem dd_Tree_fell_1 : decode prog_7_method_2_code 1 = .ok (.iconst 0, 1) := by decide +kernel
theorem dd_Tree_fell_2 : decode prog_7_method_2_code 2 = .ok (.putfield 9, 3) := by decide +kernel
theorem dd_Tree_fell_5 : decode prog_7_method_2_code 5 = .ok (.return_, 1) := by decide +kernel
theorem dd_Tree_levelWithin_0 : decode prog_7_method_8_code 0 = .ok (.iload_n 1, 1) := by decide +kernel
theorem dd_Tree_levelWithin_1 : decode prog_7_method_8_code 1 = .ok (.istore_n 2, 1) := by decide +kernel
theorem dd_Tree_levelWithin_2 : decode prog_7_method_8_code 2 = .ok (.iload_n 2, 1) := by decide +kernel
theorem dd_Tree_levelWithin_3 : decode prog_7_method_8_code 3 = .ok (.aload_n 0, 1) := by decide +kernel
theorem dd_Tree_levelWithin_4 : decode prog_7_method_8_code 4 = .ok (.getfield 9, 3) := by decide +kernel
theorem dd_Tree_levelWithin_7 : decode prog_7_method_8_code 7 = .ok (.iconst 1, 1) := by decide +kernel
theorem dd_Tree_levelWithin_8 : decode prog_7_method_8_code 8 = .ok (.isub, 1) := by decide +kernel
theorem dd_Tree_levelWithin_9 : decode prog_7_method_8_code 9 = .ok (.if_icmp .ge 18, 3) := by decide +kernel
theorem dd_Tree_levelWithin_12 : decode prog_7_method_8_code 12 = .ok (.aload_n 0, 1) := by decide +kernel
theorem dd_Tree_levelWithin_13 : decode prog_7_method_8_code 13 = .ok (.getfield 15, 3) := by decide +kernel
theorem dd_Tree_levelWithin_16 : decode prog_7_method_8_code 16 = .ok (.iload_n 2, 1) := by decide +kernel
theorem dd_Tree_levelWithin_17 : decode prog_7_method_8_code 17 = .ok (.iaload, 1) := by decide +kernel
theorem dd_Tree_levelWithin_18 : decode prog_7_method_8_code 18 = .ok (.ifCond .ne 9, 3) := by decide +kernel
theorem dd_Tree_levelWithin_21 : decode prog_7_method_8_code 21 = .ok (.iinc 2 1, 3) := by decide +kernel
theorem dd_Tree_levelWithin_24 : decode prog_7_method_8_code 24 = .ok (.goto (-22), 3) := by decide +kernel
theorem dd_Tree_levelWithin_27 : decode prog_7_method_8_code 27 = .ok (.aload_n 0, 1) := by decide +kernel
theorem dd_Tree_levelWithin_28 : decode prog_7_method_8_code 28 = .ok (.getfield 49, 3) := by decide +kernel
theorem dd_Tree_levelWithin_31 : decode prog_7_method_8_code 31 = .ok (.getfield 89, 3) := by decide +kernel
theorem dd_Tree_levelWithin_34 : decode prog_7_method_8_code 34 = .ok (.aload_n 0, 1) := by decide +kernel
theorem dd_Tree_levelWithin_35 : decode prog_7_method_8_code 35 = .ok (.getfield 15, 3) := by decide +kernel
theorem dd_Tree_levelWithin_38 : decode prog_7_method_8_code 38 = .ok (.iload_n 2, 1) := by decide +kernel
theorem dd_Tree_levelWithin_39 : decode prog_7_method_8_code 39 = .ok (.iaload, 1) := by decide +kernel
theorem dd_Tree_levelWithin_40 : decode prog_7_method_8_code 40 = .ok (.iaload, 1) := by decide +kernel
theorem dd_Tree_levelWithin_41 : decode prog_7_method_8_code 41 = .ok (.ireturn, 1) := by decide +kernel
theorem dd_Tree_needlessBrackets_0 : decode prog_7_method_7_code 0 = .ok (.iconst 0, 1) := by decide +kernel
theorem dd_Tree_needlessBrackets_1 : decode prog_7_method_7_code 1 = .ok (.istore_n 1, 1) := by decide +kernel
theorem dd_Tree_needlessBrackets_2 : decode prog_7_method_7_code 2 = .ok (.iconst 0, 1) := by decide +kernel
theorem dd_Tree_needlessBrackets_3 : decode prog_7_method_7_code 3 = .ok (.istore_n 2, 1) := by decide +kernel
theorem dd_Tree_needlessBrackets_4 : decode prog_7_method_7_code 4 = .ok (.iload_n 2, 1) := by decide +kernel
theorem dd_Tree_needlessBrackets_5 : decode prog_7_method_7_code 5 = .ok (.aload_n 0, 1) := by decide +kernel
theorem dd_Tree_needlessBrackets_6 : decode prog_7_method_7_code 6 = .ok (.getfield 9, 3) := by decide +kernel
theorem dd_Tree_needlessBrackets_9 : decode prog_7_method_7_code 9 = .ok (.if_icmp .ge 61, 3) := by decide +kernel
theorem dd_Tree_needlessBrackets_12 : decode prog_7_method_7_code 12 = .ok (.aload_n 0, 1) := by decide +kernel
theorem dd_Tree_needlessBrackets_13 : decode prog_7_method_7_code 13 = .ok (.getfield 15, 3) := by decide +kernel
theorem dd_Tree_needlessBrackets_16 : decode prog_7_method_7_code 16 = .ok (.iload_n 2, 1) := by decide +kernel
theorem dd_Tree_needlessBrackets_17 : decode prog_7_method_7_code 17 = .ok (.iaload, 1) := by decide +kernel
theorem dd_Tree_needlessBrackets_18 : decode prog_7_method_7_code 18 = .ok (.ifCond .ne 46, 3) := by decide +kernel
theorem dd_Tree_needlessBrackets_21 : decode prog_7_method_7_code 21 = .ok (.aload_n 0, 1) := by decide +kernel
theorem dd_Tree_needlessBrackets_22 : decode prog_7_method_7_code 22 = .ok (.iload_n 2, 1) := by decide +kernel
theorem dd_Tree_needlessBrackets_23 : decode prog_7_method_7_code 23 = .ok (.invokevirtual 86, 3) := by decide +kernel
theorem dd_Tree_needlessBrackets_26 : decode prog_7_method_7_code 26 = .ok (.aload_n 0, 1) := by decide +kernel
theorem dd_Tree_needlessBrackets_27 : decode prog_7_method_7_code 27 = .ok (.getfield 31, 3) := by decide +kernel
theorem dd_Tree_needlessBrackets_30 : decode prog_7_method_7_code 30 = .ok (.iload_n 2, 1) := by decide +kernel
theorem dd_Tree_needlessBrackets_31 : decode prog_7_method_7_code 31 = .ok (.iaload, 1) := by decide +kernel
theorem dd_Tree_needlessBrackets_32 : decode prog_7_method_7_code 32 = .ok (.if_icmp .lt 32, 3) := by decide +kernel
theorem dd_Tree_needlessBrackets_35 : decode prog_7_method_7_code 35 = .ok (.iload_n 1, 1) := by decide +kernel
theorem dd_Tree_needlessBrackets_36 : decode prog_7_method_7_code 36 = .ok (.iconst 1, 1) := by decide +kernel
theorem dd_Tree_needlessBrackets_37 : decode prog_7_method_7_code 37 = .ok (.aload_n 0, 1) := by decide +kernel
theorem dd_Tree_needlessBrackets_38 : decode prog_7_method_7_code 38 = .ok (.getfield 22, 3) := by decide +kernel
theorem dd_Tree_needlessBrackets_41 : decode prog_7_method_7_code 41 = .ok (.iload_n 2, 1) := by decide +kernel
theorem dd_Tree_needlessBrackets_42 : decode prog_7_method_7_code 42 = .ok (.iaload, 1) := by decide +kernel
theorem dd_Tree_needlessBrackets_43 : decode prog_7_method_7_code 43 = .ok (.ishl, 1) := by decide +kernel
theorem dd_Tree_needlessBrackets_44 : decode prog_7_method_7_code 44 = .ok (.iconst 1, 1) := by decide +kernel
theorem dd_Tree_needlessBrackets_45 : decode prog_7_method_7_code 45 = .ok (.aload_n 0, 1) := by decide +kernel
theorem dd_Tree_needlessBrackets_46 : decode prog_7_method_7_code 46 = .ok (.getfield 22, 3) := by decide +kernel
theorem dd_Tree_needlessBrackets_49 : decode prog_7_method_7_code 49 = .ok (.iload_n 2, 1) := by decide +kernel
theorem dd_Tree_needlessBrackets_50 : decode prog_7_method_7_code 50 = .ok (.iaload, 1) := by decide +kernel
theorem dd_Tree_needlessBrackets_51 : decode prog_7_method_7_code 51 = .ok (.aload_n 0, 1) := by decide +kernel
theorem dd_Tree_needlessBrackets_52 : decode prog_7_method_7_code 52 = .ok (.getfield 25, 3) := by decide +kernel
theorem dd_Tree_needlessBrackets_55 : decode prog_7_method_7_code 55 = .ok (.iload_n 2, 1) := by decide +kernel
theorem dd_Tree_needlessBrackets_56 : decode prog_7_method_7_code 56 = .ok (.iaload, 1) := by decide +kernel
theorem dd_Tree_needlessBrackets_57 : decode prog_7_method_7_code 57 = .ok (.iadd, 1) := by decide +kernel
theorem dd_Tree_needlessBrackets_58 : decode prog_7_method_7_code 58 = .ok (.iconst 1, 1) := by decide +kernel
theorem dd_Tree_needlessBrackets_59 : decode prog_7_method_7_code 59 = .ok (.isub, 1) := by decide +kernel
theorem dd_Tree_needlessBrackets_60 : decode prog_7_method_7_code 60 = .ok (.ishl, 1) := by decide +kernel
theorem dd_Tree_needlessBrackets_61 : decode prog_7_method_7_code 61 = .ok (.ior, 1) := by decide +kernel
theorem dd_Tree_needlessBrackets_62 : decode prog_7_method_7_code 62 = .ok (.ior, 1) := by decide +kernel
theorem dd_Tree_needlessBrackets_63 : decode prog_7_method_7_code 63 = .ok (.istore_n 1, 1) := by decide +kernel
theorem dd_Tree_needlessBrackets_64 : decode prog_7_method_7_code 64 = .ok (.iinc 2 1, 3) := by decide +kernel
theorem dd_Tree_needlessBrackets_67 : decode prog_7_method_7_code 67 = .ok (.goto (-63), 3) := by decide +kernel
theorem dd_Tree_needlessBrackets_70 : decode prog_7_method_7_code 70 = .ok (.iload_n 1, 1) := by decide +kernel
theorem dd_Tree_needlessBrackets_71 : decode prog_7_method_7_code 71 = .ok (.ireturn, 1) := by decide +kernel
theorem dd_Tree_await_0 : decode prog_7_method_4_code 0 = .ok (.aload_n 0, 1) := by decide +kernel
theorem dd_Tree_await_1 : decode prog_7_method_4_code 1 = .ok (.getfield 34, 3) := by decide +kernel
theorem dd_Tree_await_4 : decode prog_7_method_4_code 4 = .ok (.bipush 30, 2) := by decide +kernel
theorem dd_Tree_await_6 : decode prog_7_method_4_code 6 = .ok (.if_icmp .ge 54, 3) := by decide +kernel
theorem dd_Tree_await_9 : decode prog_7_method_4_code 9 = .ok (.aload_n 0, 1) := by decide +kernel
theorem dd_Tree_await_10 : decode prog_7_method_4_code 10 = .ok (.getfield 37, 3) := by decide +kernel
theorem dd_Tree_await_13 : decode prog_7_method_4_code 13 = .ok (.aload_n 0, 1) := by decide +kernel
theorem dd_Tree_await_14 : decode prog_7_method_4_code 14 = .ok (.getfield 34, 3) := by decide +kernel
theorem dd_Tree_await_17 : decode prog_7_method_4_code 17 = .ok (.iload_n 1, 1) := by decide +kernel
theorem dd_Tree_await_18 : decode prog_7_method_4_code 18 = .ok (.iastore, 1) := by decide +kernel
theorem dd_Tree_await_19 : decode prog_7_method_4_code 19 = .ok (.aload_n 0, 1) := by decide +kernel
theorem dd_Tree_await_20 : decode prog_7_method_4_code 20 = .ok (.getfield 40, 3) := by decide +kernel
theorem dd_Tree_await_23 : decode prog_7_method_4_code 23 = .ok (.aload_n 0, 1) := by decide +kernel
theorem dd_Tree_await_24 : decode prog_7_method_4_code 24 = .ok (.getfield 34, 3) := by decide +kernel
theorem dd_Tree_await_27 : decode prog_7_method_4_code 27 = .ok (.iload_n 2, 1) := by decide +kernel
theorem dd_Tree_await_28 : decode prog_7_method_4_code 28 = .ok (.iastore, 1) := by decide +kernel
theorem dd_Tree_await_29 : decode prog_7_method_4_code 29 = .ok (.aload_n 0, 1) := by decide +kernel
theorem dd_Tree_await_30 : decode prog_7_method_4_code 30 = .ok (.getfield 43, 3) := by decide +kernel
theorem dd_Tree_await_33 : decode prog_7_method_4_code 33 = .ok (.aload_n 0, 1) := by decide +kernel
theorem dd_Tree_await_34 : decode prog_7_method_4_code 34 = .ok (.getfield 34, 3) := by decide +kernel
theorem dd_Tree_await_37 : decode prog_7_method_4_code 37 = .ok (.iload_n 3, 1) := by decide +kernel
theorem dd_Tree_await_38 : decode prog_7_method_4_code 38 = .ok (.iastore, 1) := by decide +kernel
theorem dd_Tree_await_39 : decode prog_7_method_4_code 39 = .ok (.aload_n 0, 1) := by decide +kernel
theorem dd_Tree_await_40 : decode prog_7_method_4_code 40 = .ok (.getfield 46, 3) := by decide +kernel
theorem dd_Tree_await_43 : decode prog_7_method_4_code 43 = .ok (.aload_n 0, 1) := by decide +kernel
theorem dd_Tree_await_44 : decode prog_7_method_4_code 44 = .ok (.getfield 34, 3) := by decide +kernel
theorem dd_Tree_await_47 : decode prog_7_method_4_code 47 = .ok (.iload 4, 2) := by decide +kernel
theorem dd_Tree_await_49 : decode prog_7_method_4_code 49 = .ok (.iastore, 1) := by decide +kernel
theorem dd_Tree_await_50 : decode prog_7_method_4_code 50 = .ok (.aload_n 0, 1) := by decide +kernel
theorem dd_Tree_await_51 : decode prog_7_method_4_code 51 = .ok (.dup, 1) := by decide +kernel
theorem dd_Tree_await_52 : decode prog_7_method_4_code 52 = .ok (.getfield 34, 3) := by decide +kernel
theorem dd_Tree_await_55 : decode prog_7_method_4_code 55 = .ok (.iconst 1, 1) := by decide +kernel
theorem dd_Tree_await_56 : decode prog_7_method_4_code 56 = .ok (.iadd, 1) := by decide +kernel
theorem dd_Tree_await_57 : decode prog_7_method_4_code 57 = .ok (.putfield 34, 3) := by decide +kernel
theorem dd_Tree_await_60 : decode prog_7_method_4_code 60 = .ok (.return_, 1) := by decide +kernel
theorem dd_Tree_awaitHoles_0 : decode prog_7_method_6_code 0 = .ok (.aload_n 0, 1) := by decide +kernel
theorem dd_Tree_awaitHoles_1 : decode prog_7_method_6_code 1 = .ok (.getfield 15, 3) := by decide +kernel
theorem dd_Tree_awaitHoles_4 : decode prog_7_method_6_code 4 = .ok (.iload_n 1, 1) := by decide +kernel
theorem dd_Tree_awaitHoles_5 : decode prog_7_method_6_code 5 = .ok (.iaload, 1) := by decide +kernel
theorem dd_Tree_awaitHoles_6 : decode prog_7_method_6_code 6 = .ok (.bipush 7, 2) := by decide +kernel
theorem dd_Tree_awaitHoles_8 : decode prog_7_method_6_code 8 = .ok (.imul, 1) := by decide +kernel
theorem dd_Tree_awaitHoles_9 : decode prog_7_method_6_code 9 = .ok (.istore 4, 2) := by decide +kernel
theorem dd_Tree_awaitHoles_11 : decode prog_7_method_6_code 11 = .ok (.iconst 0, 1) := by decide +kernel
theorem dd_Tree_awaitHoles_12 : decode prog_7_method_6_code 12 = .ok (.istore 5, 2) := by decide +kernel
theorem dd_Tree_awaitHoles_14 : decode prog_7_method_6_code 14 = .ok (.iload_n 3, 1) := by decide +kernel
theorem dd_Tree_awaitHoles_15 : decode prog_7_method_6_code 15 = .ok (.istore 6, 2) := by decide +kernel
theorem dd_Tree_awaitHoles_17 : decode prog_7_method_6_code 17 = .ok (.aload_n 0, 1) := by decide +kernel
theorem dd_Tree_awaitHoles_18 : decode prog_7_method_6_code 18 = .ok (.getfield 49, 3) := by decide +kernel
theorem dd_Tree_awaitHoles_21 : decode prog_7_method_6_code 21 = .ok (.aload_n 0, 1) := by decide +kernel
theorem dd_Tree_awaitHoles_22 : decode prog_7_method_6_code 22 = .ok (.getfield 15, 3) := by decide +kernel
theorem dd_Tree_awaitHoles_25 : decode prog_7_method_6_code 25 = .ok (.iload_n 1, 1) := by decide +kernel
theorem dd_Tree_awaitHoles_26 : decode prog_7_method_6_code 26 = .ok (.iaload, 1) := by decide +kernel
theorem dd_Tree_awaitHoles_27 : decode prog_7_method_6_code 27 = .ok (.invokevirtual 74, 3) := by decide +kernel
theorem dd_Tree_awaitHoles_30 : decode prog_7_method_6_code 30 = .ok (.iconst 1, 1) := by decide +kernel
theorem dd_Tree_awaitHoles_31 : decode prog_7_method_6_code 31 = .ok (.isub, 1) := by decide +kernel
theorem dd_Tree_awaitHoles_32 : decode prog_7_method_6_code 32 = .ok (.istore 7, 2) := by decide +kernel
theorem dd_Tree_awaitHoles_34 : decode prog_7_method_6_code 34 = .ok (.iload 7, 2) := by decide +kernel
theorem dd_Tree_awaitHoles_36 : decode prog_7_method_6_code 36 = .ok (.iload 4, 2) := by decide +kernel
theorem dd_Tree_awaitHoles_38 : decode prog_7_method_6_code 38 = .ok (.if_icmp .lt 72, 3) := by decide +kernel
theorem dd_Tree_awaitHoles_41 : decode prog_7_method_6_code 41 = .ok (.aload_n 0, 1) := by decide +kernel
theorem dd_Tree_awaitHoles_42 : decode prog_7_method_6_code 42 = .ok (.getfield 49, 3) := by decide +kernel
theorem dd_Tree_awaitHoles_45 : decode prog_7_method_6_code 45 = .ok (.getfield 80, 3) := by decide +kernel
theorem dd_Tree_awaitHoles_48 : decode prog_7_method_6_code 48 = .ok (.iload 7, 2) := by decide +kernel
theorem dd_Tree_awaitHoles_50 : decode prog_7_method_6_code 50 = .ok (.iaload, 1) := by decide +kernel
theorem dd_Tree_awaitHoles_51 : decode prog_7_method_6_code 51 = .ok (.istore 8, 2) := by decide +kernel
theorem dd_Tree_awaitHoles_53 : decode prog_7_method_6_code 53 = .ok (.iload 8, 2) := by decide +kernel
theorem dd_Tree_awaitHoles_55 : decode prog_7_method_6_code 55 = .ok (.iconst (-1), 1) := by decide +kernel
theorem dd_Tree_awaitHoles_56 : decode prog_7_method_6_code 56 = .ok (.if_icmp .ne 10, 3) := by decide +kernel
theorem dd_Tree_awaitHoles_59 : decode prog_7_method_6_code 59 = .ok (.iload 6, 2) := by decide +kernel
theorem dd_Tree_awaitHoles_61 : decode prog_7_method_6_code 61 = .ok (.iconst 1, 1) := by decide +kernel
theorem dd_Tree_awaitHoles_62 : decode prog_7_method_6_code 62 = .ok (.isub, 1) := by decide +kernel
theorem dd_Tree_awaitHoles_63 : decode prog_7_method_6_code 63 = .ok (.goto 15, 3) := by decide +kernel
theorem dd_Tree_awaitHoles_66 : decode prog_7_method_6_code 66 = .ok (.aload_n 0, 1) := by decide +kernel
theorem dd_Tree_awaitHoles_67 : decode prog_7_method_6_code 67 = .ok (.getfield 53, 3) := by decide +kernel
theorem dd_Tree_awaitHoles_70 : decode prog_7_method_6_code 70 = .ok (.iload 7, 2) := by decide +kernel
theorem dd_Tree_awaitHoles_72 : decode prog_7_method_6_code 72 = .ok (.iload_n 2, 1) := by decide +kernel
theorem dd_Tree_awaitHoles_73 : decode prog_7_method_6_code 73 = .ok (.iload 6, 2) := by decide +kernel
theorem dd_Tree_awaitHoles_75 : decode prog_7_method_6_code 75 = .ok (.invokevirtual 83, 3) := by decide +kernel
theorem dd_Tree_awaitHoles_78 : decode prog_7_method_6_code 78 = .ok (.istore 9, 2) := by decide +kernel
theorem dd_Tree_awaitHoles_80 : decode prog_7_method_6_code 80 = .ok (.iload 8, 2) := by decide +kernel
theorem dd_Tree_awaitHoles_82 : decode prog_7_method_6_code 82 = .ok (.iconst (-1), 1) := by decide +kernel
theorem dd_Tree_awaitHoles_83 : decode prog_7_method_6_code 83 = .ok (.if_icmp .eq 17, 3) := by decide +kernel
theorem dd_Tree_awaitHoles_86 : decode prog_7_method_6_code 86 = .ok (.aload_n 0, 1) := by decide +kernel
theorem dd_Tree_awaitHoles_87 : decode prog_7_method_6_code 87 = .ok (.iload 9, 2) := by decide +kernel
theorem dd_Tree_awaitHoles_89 : decode prog_7_method_6_code 89 = .ok (.iload 6, 2) := by decide +kernel
theorem dd_Tree_awaitHoles_91 : decode prog_7_method_6_code 91 = .ok (.iload 8, 2) := by decide +kernel
theorem dd_Tree_awaitHoles_93 : decode prog_7_method_6_code 93 = .ok (.iload_n 1, 1) := by decide +kernel
theorem dd_Tree_awaitHoles_94 : decode prog_7_method_6_code 94 = .ok (.invokevirtual 57, 3) := by decide +kernel
theorem dd_Tree_awaitHoles_97 : decode prog_7_method_6_code 97 = .ok (.iinc 5 1, 3) := by decide +kernel
theorem dd_Tree_awaitHoles_100 : decode prog_7_method_6_code 100 = .ok (.iload 9, 2) := by decide +kernel
theorem dd_Tree_awaitHoles_102 : decode prog_7_method_6_code 102 = .ok (.istore 6, 2) := by decide +kernel
theorem dd_Tree_awaitHoles_104 : decode prog_7_method_6_code 104 = .ok (.iinc 7 (-1), 3) := by decide +kernel
theorem dd_Tree_awaitHoles_107 : decode prog_7_method_6_code 107 = .ok (.goto (-73), 3) := by decide +kernel
theorem dd_Tree_awaitHoles_110 : decode prog_7_method_6_code 110 = .ok (.iload 5, 2) := by decide +kernel
theorem dd_Tree_awaitHoles_112 : decode prog_7_method_6_code 112 = .ok (.ireturn, 1) := by decide +kernel
theorem dd_Tree_growNode_0 : decode prog_7_method_5_code 0 = .ok (.aload_n 0, 1) := by decide +kernel
theorem dd_Tree_growNode_1 : decode prog_7_method_5_code 1 = .ok (.getfield 15, 3) := by decide +kernel
theorem dd_Tree_growNode_4 : decode prog_7_method_5_code 4 = .ok (.iload_n 1, 1) := by decide +kernel
theorem dd_Tree_growNode_5 : decode prog_7_method_5_code 5 = .ok (.aload_n 0, 1) := by decide +kernel
theorem dd_Tree_growNode_6 : decode prog_7_method_5_code 6 = .ok (.getfield 53, 3) := by decide +kernel
theorem dd_Tree_growNode_9 : decode prog_7_method_5_code 9 = .ok (.iload_n 2, 1) := by decide +kernel
theorem dd_Tree_growNode_10 : decode prog_7_method_5_code 10 = .ok (.iload_n 3, 1) := by decide +kernel
theorem dd_Tree_growNode_11 : decode prog_7_method_5_code 11 = .ok (.aload_n 0, 1) := by decide +kernel
theorem dd_Tree_growNode_12 : decode prog_7_method_5_code 12 = .ok (.getfield 43, 3) := by decide +kernel
theorem dd_Tree_growNode_15 : decode prog_7_method_5_code 15 = .ok (.aload_n 0, 1) := by decide +kernel
theorem dd_Tree_growNode_16 : decode prog_7_method_5_code 16 = .ok (.getfield 34, 3) := by decide +kernel
theorem dd_Tree_growNode_19 : decode prog_7_method_5_code 19 = .ok (.iaload, 1) := by decide +kernel
theorem dd_Tree_growNode_20 : decode prog_7_method_5_code 20 = .ok (.invokevirtual 65, 3) := by decide +kernel
theorem dd_Tree_growNode_23 : decode prog_7_method_5_code 23 = .ok (.iastore, 1) := by decide +kernel
theorem dd_Tree_growNode_24 : decode prog_7_method_5_code 24 = .ok (.aload_n 0, 1) := by decide +kernel
theorem dd_Tree_growNode_25 : decode prog_7_method_5_code 25 = .ok (.getfield 22, 3) := by decide +kernel
theorem dd_Tree_growNode_28 : decode prog_7_method_5_code 28 = .ok (.iload_n 1, 1) := by decide +kernel
theorem dd_Tree_growNode_29 : decode prog_7_method_5_code 29 = .ok (.iload_n 2, 1) := by decide +kernel
theorem dd_Tree_growNode_30 : decode prog_7_method_5_code 30 = .ok (.iastore, 1) := by decide +kernel
theorem dd_Tree_growNode_31 : decode prog_7_method_5_code 31 = .ok (.aload_n 0, 1) := by decide +kernel
theorem dd_Tree_growNode_32 : decode prog_7_method_5_code 32 = .ok (.getfield 25, 3) := by decide +kernel
theorem dd_Tree_growNode_35 : decode prog_7_method_5_code 35 = .ok (.iload_n 1, 1) := by decide +kernel
theorem dd_Tree_growNode_36 : decode prog_7_method_5_code 36 = .ok (.iload_n 3, 1) := by decide +kernel
theorem dd_Tree_growNode_37 : decode prog_7_method_5_code 37 = .ok (.iload_n 2, 1) := by decide +kernel
theorem dd_Tree_growNode_38 : decode prog_7_method_5_code 38 = .ok (.isub, 1) := by decide +kernel
theorem dd_Tree_growNode_39 : decode prog_7_method_5_code 39 = .ok (.iastore, 1) := by decide +kernel
theorem dd_Tree_growNode_40 : decode prog_7_method_5_code 40 = .ok (.aload_n 0, 1) := by decide +kernel
theorem dd_Tree_growNode_41 : decode prog_7_method_5_code 41 = .ok (.getfield 28, 3) := by decide +kernel
theorem dd_Tree_growNode_44 : decode prog_7_method_5_code 44 = .ok (.iload_n 1, 1) := by decide +kernel
theorem dd_Tree_growNode_45 : decode prog_7_method_5_code 45 = .ok (.aload_n 0, 1) := by decide +kernel
theorem dd_Tree_growNode_46 : decode prog_7_method_5_code 46 = .ok (.getfield 46, 3) := by decide +kernel
theorem dd_Tree_growNode_49 : decode prog_7_method_5_code 49 = .ok (.aload_n 0, 1) := by decide +kernel
theorem dd_Tree_growNode_50 : decode prog_7_method_5_code 50 = .ok (.getfield 34, 3) := by decide +kernel
theorem dd_Tree_growNode_53 : decode prog_7_method_5_code 53 = .ok (.iaload, 1) := by decide +kernel
theorem dd_Tree_growNode_54 : decode prog_7_method_5_code 54 = .ok (.iastore, 1) := by decide +kernel
theorem dd_Tree_growNode_55 : decode prog_7_method_5_code 55 = .ok (.aload_n 0, 1) := by decide +kernel
theorem dd_Tree_growNode_56 : decode prog_7_method_5_code 56 = .ok (.getfield 31, 3) := by decide +kernel
theorem dd_Tree_growNode_59 : decode prog_7_method_5_code 59 = .ok (.iload_n 1, 1) := by decide +kernel
theorem dd_Tree_growNode_60 : decode prog_7_method_5_code 60 = .ok (.aload_n 0, 1) := by decide +kernel
theorem dd_Tree_growNode_61 : decode prog_7_method_5_code 61 = .ok (.getfield 43, 3) := by decide +kernel
theorem dd_Tree_growNode_64 : decode prog_7_method_5_code 64 = .ok (.aload_n 0, 1) := by decide +kernel
theorem dd_Tree_growNode_65 : decode prog_7_method_5_code 65 = .ok (.getfield 34, 3) := by decide +kernel
theorem dd_Tree_growNode_68 : decode prog_7_method_5_code 68 = .ok (.iaload, 1) := by decide +kernel
theorem dd_Tree_growNode_69 : decode prog_7_method_5_code 69 = .ok (.iastore, 1) := by decide +kernel
theorem dd_Tree_growNode_70 : decode prog_7_method_5_code 70 = .ok (.aload_n 0, 1) := by decide +kernel
theorem dd_Tree_growNode_71 : decode prog_7_method_5_code 71 = .ok (.getfield 19, 3) := by decide +kernel
theorem dd_Tree_growNode_74 : decode prog_7_method_5_code 74 = .ok (.iload_n 1, 1) := by decide +kernel
theorem dd_Tree_growNode_75 : decode prog_7_method_5_code 75 = .ok (.aload_n 0, 1) := by decide +kernel
theorem dd_Tree_growNode_76 : decode prog_7_method_5_code 76 = .ok (.iload_n 1, 1) := by decide +kernel
theorem dd_Tree_growNode_77 : decode prog_7_method_5_code 77 = .ok (.iload_n 2, 1) := by decide +kernel
theorem dd_Tree_growNode_78 : decode prog_7_method_5_code 78 = .ok (.iload_n 3, 1) := by decide +kernel
theorem dd_Tree_growNode_79 : decode prog_7_method_5_code 79 = .ok (.invokevirtual 71, 3) := by decide +kernel
theorem dd_Tree_growNode_82 : decode prog_7_method_5_code 82 = .ok (.iastore, 1) := by decide +kernel
theorem dd_Tree_growNode_83 : decode prog_7_method_5_code 83 = .ok (.return_, 1) := by decide +kernel
theorem dd_Tree_grow_0 : decode prog_7_method_3_code 0 = .ok (.aload_n 0, 1) := by decide +kernel
theorem dd_Tree_grow_1 : decode prog_7_method_3_code 1 = .ok (.iconst 0, 1) := by decide +kernel
theorem dd_Tree_grow_2 : decode prog_7_method_3_code 2 = .ok (.putfield 9, 3) := by decide +kernel
theorem dd_Tree_grow_5 : decode prog_7_method_3_code 5 = .ok (.aload_n 0, 1) := by decide +kernel
theorem dd_Tree_grow_6 : decode prog_7_method_3_code 6 = .ok (.iconst 0, 1) := by decide +kernel
theorem dd_Tree_grow_7 : decode prog_7_method_3_code 7 = .ok (.putfield 34, 3) := by decide +kernel
theorem dd_Tree_grow_10 : decode prog_7_method_3_code 10 = .ok (.aload_n 0, 1) := by decide +kernel
theorem dd_Tree_grow_11 : decode prog_7_method_3_code 11 = .ok (.iconst 0, 1) := by decide +kernel
theorem dd_Tree_grow_12 : decode prog_7_method_3_code 12 = .ok (.iload_n 1, 1) := by decide +kernel
theorem dd_Tree_grow_13 : decode prog_7_method_3_code 13 = .ok (.iconst 0, 1) := by decide +kernel
theorem dd_Tree_grow_14 : decode prog_7_method_3_code 14 = .ok (.iconst (-1), 1) := by decide +kernel
theorem dd_Tree_grow_15 : decode prog_7_method_3_code 15 = .ok (.invokevirtual 57, 3) := by decide +kernel
theorem dd_Tree_grow_18 : decode prog_7_method_3_code 18 = .ok (.iconst 0, 1) := by decide +kernel
theorem dd_Tree_grow_19 : decode prog_7_method_3_code 19 = .ok (.istore_n 2, 1) := by decide +kernel
theorem dd_Tree_grow_20 : decode prog_7_method_3_code 20 = .ok (.iload_n 2, 1) := by decide +kernel
theorem dd_Tree_grow_21 : decode prog_7_method_3_code 21 = .ok (.bipush 30, 2) := by decide +kernel
theorem dd_Tree_grow_23 : decode prog_7_method_3_code 23 = .ok (.if_icmp .ge 59, 3) := by decide +kernel
theorem dd_Tree_grow_26 : decode prog_7_method_3_code 26 = .ok (.aload_n 0, 1) := by decide +kernel
theorem dd_Tree_grow_27 : decode prog_7_method_3_code 27 = .ok (.getfield 34, 3) := by decide +kernel
theorem dd_Tree_grow_30 : decode prog_7_method_3_code 30 = .ok (.ifCond .le 52, 3) := by decide +kernel
theorem dd_Tree_grow_33 : decode prog_7_method_3_code 33 = .ok (.aload_n 0, 1) := by decide +kernel
theorem dd_Tree_grow_34 : decode prog_7_method_3_code 34 = .ok (.dup, 1) := by decide +kernel
theorem dd_Tree_grow_35 : decode prog_7_method_3_code 35 = .ok (.getfield 34, 3) := by decide +kernel
theorem dd_Tree_grow_38 : decode prog_7_method_3_code 38 = .ok (.iconst 1, 1) := by decide +kernel
theorem dd_Tree_grow_39 : decode prog_7_method_3_code 39 = .ok (.isub, 1) := by decide +kernel
theorem dd_Tree_grow_40 : decode prog_7_method_3_code 40 = .ok (.putfield 34, 3) := by decide +kernel
theorem dd_Tree_grow_43 : decode prog_7_method_3_code 43 = .ok (.aload_n 0, 1) := by decide +kernel
theorem dd_Tree_grow_44 : decode prog_7_method_3_code 44 = .ok (.iload_n 2, 1) := by decide +kernel
theorem dd_Tree_grow_45 : decode prog_7_method_3_code 45 = .ok (.aload_n 0, 1) := by decide +kernel
theorem dd_Tree_grow_46 : decode prog_7_method_3_code 46 = .ok (.getfield 37, 3) := by decide +kernel
theorem dd_Tree_grow_49 : decode prog_7_method_3_code 49 = .ok (.aload_n 0, 1) := by decide +kernel
theorem dd_Tree_grow_50 : decode prog_7_method_3_code 50 = .ok (.getfield 34, 3) := by decide +kernel
theorem dd_Tree_grow_53 : decode prog_7_method_3_code 53 = .ok (.iaload, 1) := by decide +kernel
theorem dd_Tree_grow_54 : decode prog_7_method_3_code 54 = .ok (.aload_n 0, 1) := by decide +kernel
theorem dd_Tree_grow_55 : decode prog_7_method_3_code 55 = .ok (.getfield 40, 3) := by decide +kernel
theorem dd_Tree_grow_58 : decode prog_7_method_3_code 58 = .ok (.aload_n 0, 1) := by decide +kernel
theorem dd_Tree_grow_59 : decode prog_7_method_3_code 59 = .ok (.getfield 34, 3) := by decide +kernel
theorem dd_Tree_grow_62 : decode prog_7_method_3_code 62 = .ok (.iaload, 1) := by decide +kernel
theorem dd_Tree_grow_63 : decode prog_7_method_3_code 63 = .ok (.invokevirtual 61, 3) := by decide +kernel
theorem dd_Tree_grow_66 : decode prog_7_method_3_code 66 = .ok (.aload_n 0, 1) := by decide +kernel
theorem dd_Tree_grow_67 : decode prog_7_method_3_code 67 = .ok (.dup, 1) := by decide +kernel
theorem dd_Tree_grow_68 : decode prog_7_method_3_code 68 = .ok (.getfield 9, 3) := by decide +kernel
theorem dd_Tree_grow_71 : decode prog_7_method_3_code 71 = .ok (.iconst 1, 1) := by decide +kernel
theorem dd_Tree_grow_72 : decode prog_7_method_3_code 72 = .ok (.iadd, 1) := by decide +kernel
theorem dd_Tree_grow_73 : decode prog_7_method_3_code 73 = .ok (.putfield 9, 3) := by decide +kernel
theorem dd_Tree_grow_76 : decode prog_7_method_3_code 76 = .ok (.iinc 2 1, 3) := by decide +kernel
theorem dd_Tree_grow_79 : decode prog_7_method_3_code 79 = .ok (.goto (-59), 3) := by decide +kernel
theorem dd_Tree_grow_82 : decode prog_7_method_3_code 82 = .ok (.return_, 1) := by decide +kernel
theorem dd_Chart_emptyRow_0 : decode prog_2_method_4_code 0 = .ok (.aload_n 0, 1) := by decide +kernel
theorem dd_Chart_emptyRow_1 : decode prog_2_method_4_code 1 = .ok (.getfield 9, 3) := by decide +kernel
theorem dd_Chart_emptyRow_4 : decode prog_2_method_4_code 4 = .ok (.iload_n 1, 1) := by decide +kernel
theorem dd_Chart_emptyRow_5 : decode prog_2_method_4_code 5 = .ok (.bipush 98, 2) := by decide +kernel
theorem dd_Chart_emptyRow_7 : decode prog_2_method_4_code 7 = .ok (.imul, 1) := by decide +kernel
theorem dd_Chart_emptyRow_8 : decode prog_2_method_4_code 8 = .ok (.iload_n 1, 1) := by decide +kernel
theorem dd_Chart_emptyRow_9 : decode prog_2_method_4_code 9 = .ok (.iconst 1, 1) := by decide +kernel
theorem dd_Chart_emptyRow_10 : decode prog_2_method_4_code 10 = .ok (.iadd, 1) := by decide +kernel
theorem dd_Chart_emptyRow_11 : decode prog_2_method_4_code 11 = .ok (.bipush 98, 2) := by decide +kernel
theorem dd_Chart_emptyRow_13 : decode prog_2_method_4_code 13 = .ok (.imul, 1) := by decide +kernel
theorem dd_Chart_emptyRow_14 : decode prog_2_method_4_code 14 = .ok (.iconst 0, 1) := by decide +kernel
theorem dd_Chart_emptyRow_15 : decode prog_2_method_4_code 15 = .ok (.invokestatic 48, 3) := by decide +kernel
theorem dd_Chart_emptyRow_18 : decode prog_2_method_4_code 18 = .ok (.return_, 1) := by decide +kernel
theorem dd_Chart_scan_0 : decode prog_2_method_6_code 0 = .ok (.iload_n 1, 1) := by decide +kernel
theorem dd_Chart_scan_1 : decode prog_2_method_6_code 1 = .ok (.bipush 98, 2) := by decide +kernel
theorem dd_Chart_scan_3 : decode prog_2_method_6_code 3 = .ok (.imul, 1) := by decide +kernel
theorem dd_Chart_scan_4 : decode prog_2_method_6_code 4 = .ok (.istore 4, 2) := by decide +kernel
theorem dd_Chart_scan_6 : decode prog_2_method_6_code 6 = .ok (.iload 4, 2) := by decide +kernel
theorem dd_Chart_scan_8 : decode prog_2_method_6_code 8 = .ok (.bipush 98, 2) := by decide +kernel
theorem dd_Chart_scan_10 : decode prog_2_method_6_code 10 = .ok (.iadd, 1) := by decide +kernel
theorem dd_Chart_scan_11 : decode prog_2_method_6_code 11 = .ok (.istore 5, 2) := by decide +kernel
theorem dd_Chart_scan_13 : decode prog_2_method_6_code 13 = .ok (.iconst 0, 1) := by decide +kernel
theorem dd_Chart_scan_14 : decode prog_2_method_6_code 14 = .ok (.istore 6, 2) := by decide +kernel
theorem dd_Chart_scan_16 : decode prog_2_method_6_code 16 = .ok (.iconst 0, 1) := by decide +kernel
theorem dd_Chart_scan_17 : decode prog_2_method_6_code 17 = .ok (.istore 7, 2) := by decide +kernel
theorem dd_Chart_scan_19 : decode prog_2_method_6_code 19 = .ok (.iload 7, 2) := by decide +kernel
theorem dd_Chart_scan_21 : decode prog_2_method_6_code 21 = .ok (.aload_n 0, 1) := by decide +kernel
theorem dd_Chart_scan_22 : decode prog_2_method_6_code 22 = .ok (.getfield 21, 3) := by decide +kernel
theorem dd_Chart_scan_25 : decode prog_2_method_6_code 25 = .ok (.invokevirtual 54, 3) := by decide +kernel
theorem dd_Chart_scan_28 : decode prog_2_method_6_code 28 = .ok (.if_icmp .ge 62, 3) := by decide +kernel
theorem dd_Chart_scan_31 : decode prog_2_method_6_code 31 = .ok (.aload_n 0, 1) := by decide +kernel
theorem dd_Chart_scan_32 : decode prog_2_method_6_code 32 = .ok (.getfield 9, 3) := by decide +kernel
theorem dd_Chart_scan_35 : decode prog_2_method_6_code 35 = .ok (.iload 4, 2) := by decide +kernel
theorem dd_Chart_scan_37 : decode prog_2_method_6_code 37 = .ok (.iload 7, 2) := by decide +kernel
theorem dd_Chart_scan_39 : decode prog_2_method_6_code 39 = .ok (.iadd, 1) := by decide +kernel
theorem dd_Chart_scan_40 : decode prog_2_method_6_code 40 = .ok (.iaload, 1) := by decide +kernel
theorem dd_Chart_scan_41 : decode prog_2_method_6_code 41 = .ok (.ifCond .eq 43, 3) := by decide +kernel
theorem dd_Chart_scan_44 : decode prog_2_method_6_code 44 = .ok (.aload_n 0, 1) := by decide +kernel
theorem dd_Chart_scan_45 : decode prog_2_method_6_code 45 = .ok (.getfield 21, 3) := by decide +kernel
theorem dd_Chart_scan_48 : decode prog_2_method_6_code 48 = .ok (.getfield 60, 3) := by decide +kernel
theorem dd_Chart_scan_51 : decode prog_2_method_6_code 51 = .ok (.iload 7, 2) := by decide +kernel
theorem dd_Chart_scan_53 : decode prog_2_method_6_code 53 = .ok (.laload, 1) := by decide +kernel
theorem dd_Chart_scan_54 : decode prog_2_method_6_code 54 = .ok (.lload_n 2, 1) := by decide +kernel
theorem dd_Chart_scan_55 : decode prog_2_method_6_code 55 = .ok (.lcmp, 1) := by decide +kernel
theorem dd_Chart_scan_56 : decode prog_2_method_6_code 56 = .ok (.ifCond .ne 28, 3) := by decide +kernel
theorem dd_Chart_scan_59 : decode prog_2_method_6_code 59 = .ok (.aload_n 0, 1) := by decide +kernel
theorem dd_Chart_scan_60 : decode prog_2_method_6_code 60 = .ok (.getfield 9, 3) := by decide +kernel
theorem dd_Chart_scan_63 : decode prog_2_method_6_code 63 = .ok (.iload 5, 2) := by decide +kernel
theorem dd_Chart_scan_65 : decode prog_2_method_6_code 65 = .ok (.iload 7, 2) := by decide +kernel
theorem dd_Chart_scan_67 : decode prog_2_method_6_code 67 = .ok (.iadd, 1) := by decide +kernel
theorem dd_Chart_scan_68 : decode prog_2_method_6_code 68 = .ok (.iconst 1, 1) := by decide +kernel
theorem dd_Chart_scan_69 : decode prog_2_method_6_code 69 = .ok (.iadd, 1) := by decide +kernel
theorem dd_Chart_scan_70 : decode prog_2_method_6_code 70 = .ok (.aload_n 0, 1) := by decide +kernel
theorem dd_Chart_scan_71 : decode prog_2_method_6_code 71 = .ok (.getfield 9, 3) := by decide +kernel
theorem dd_Chart_scan_74 : decode prog_2_method_6_code 74 = .ok (.iload 4, 2) := by decide +kernel
theorem dd_Chart_scan_76 : decode prog_2_method_6_code 76 = .ok (.iload 7, 2) := by decide +kernel
theorem dd_Chart_scan_78 : decode prog_2_method_6_code 78 = .ok (.iadd, 1) := by decide +kernel
theorem dd_Chart_scan_79 : decode prog_2_method_6_code 79 = .ok (.iaload, 1) := by decide +kernel
theorem dd_Chart_scan_80 : decode prog_2_method_6_code 80 = .ok (.iastore, 1) := by decide +kernel
theorem dd_Chart_scan_81 : decode prog_2_method_6_code 81 = .ok (.iconst 1, 1) := by decide +kernel
theorem dd_Chart_scan_82 : decode prog_2_method_6_code 82 = .ok (.istore 6, 2) := by decide +kernel
theorem dd_Chart_scan_84 : decode prog_2_method_6_code 84 = .ok (.iinc 7 1, 3) := by decide +kernel
theorem dd_Chart_scan_87 : decode prog_2_method_6_code 87 = .ok (.goto (-68), 3) := by decide +kernel
theorem dd_Chart_scan_90 : decode prog_2_method_6_code 90 = .ok (.iload 6, 2) := by decide +kernel
theorem dd_Chart_scan_92 : decode prog_2_method_6_code 92 = .ok (.ireturn, 1) := by decide +kernel
theorem dd_Chart_isReached_0 : decode prog_2_method_5_code 0 = .ok (.aload_n 0, 1) := by decide +kernel
theorem dd_Chart_isReached_1 : decode prog_2_method_5_code 1 = .ok (.getfield 9, 3) := by decide +kernel
theorem dd_Chart_isReached_4 : decode prog_2_method_5_code 4 = .ok (.iload_n 2, 1) := by decide +kernel
theorem dd_Chart_isReached_5 : decode prog_2_method_5_code 5 = .ok (.bipush 98, 2) := by decide +kernel
theorem dd_Chart_isReached_7 : decode prog_2_method_5_code 7 = .ok (.imul, 1) := by decide +kernel
theorem dd_Chart_isReached_8 : decode prog_2_method_5_code 8 = .ok (.iload_n 3, 1) := by decide +kernel
theorem dd_Chart_isReached_9 : decode prog_2_method_5_code 9 = .ok (.iadd, 1) := by decide +kernel
theorem dd_Chart_isReached_10 : decode prog_2_method_5_code 10 = .ok (.iaload, 1) := by decide +kernel
theorem dd_Chart_isReached_11 : decode prog_2_method_5_code 11 = .ok (.iload_n 1, 1) := by decide +kernel
theorem dd_Chart_isReached_12 : decode prog_2_method_5_code 12 = .ok (.iushr, 1) := by decide +kernel
theorem dd_Chart_isReached_13 : decode prog_2_method_5_code 13 = .ok (.iconst 1, 1) := by decide +kernel
theorem dd_Chart_isReached_14 : decode prog_2_method_5_code 14 = .ok (.iand, 1) := by decide +kernel
theorem dd_Chart_isReached_15 : decode prog_2_method_5_code 15 = .ok (.ifCond .eq 7, 3) := by decide +kernel
theorem dd_Chart_isReached_18 : decode prog_2_method_5_code 18 = .ok (.iconst 1, 1) := by decide +kernel
theorem dd_Chart_isReached_19 : decode prog_2_method_5_code 19 = .ok (.goto 4, 3) := by decide +kernel
theorem dd_Chart_isReached_22 : decode prog_2_method_5_code 22 = .ok (.iconst 0, 1) := by decide +kernel
theorem dd_Chart_isReached_23 : decode prog_2_method_5_code 23 = .ok (.ireturn, 1) := by decide +kernel
theorem dd_Chart_highestTerm_0 : decode prog_2_method_8_code 0 = .ok (.iconst (-1), 1) := by decide +kernel
theorem dd_Chart_highestTerm_1 : decode prog_2_method_8_code 1 = .ok (.istore_n 3, 1) := by decide +kernel
theorem dd_Chart_highestTerm_2 : decode prog_2_method_8_code 2 = .ok (.iconst 0, 1) := by decide +kernel
theorem dd_Chart_highestTerm_3 : decode prog_2_method_8_code 3 = .ok (.istore 4, 2) := by decide +kernel
theorem dd_Chart_highestTerm_5 : decode prog_2_method_8_code 5 = .ok (.iload 4, 2) := by decide +kernel
theorem dd_Chart_highestTerm_7 : decode prog_2_method_8_code 7 = .ok (.aload_n 0, 1) := by decide +kernel
theorem dd_Chart_highestTerm_8 : decode prog_2_method_8_code 8 = .ok (.getfield 21, 3) := by decide +kernel
theorem dd_Chart_highestTerm_11 : decode prog_2_method_8_code 11 = .ok (.getfield 68, 3) := by decide +kernel
theorem dd_Chart_highestTerm_14 : decode prog_2_method_8_code 14 = .ok (.if_icmp .ge 52, 3) := by decide +kernel
theorem dd_Chart_highestTerm_17 : decode prog_2_method_8_code 17 = .ok (.aload_n 0, 1) := by decide +kernel
theorem dd_Chart_highestTerm_18 : decode prog_2_method_8_code 18 = .ok (.getfield 21, 3) := by decide +kernel
theorem dd_Chart_highestTerm_21 : decode prog_2_method_8_code 21 = .ok (.getfield 72, 3) := by decide +kernel
theorem dd_Chart_highestTerm_24 : decode prog_2_method_8_code 24 = .ok (.iload 4, 2) := by decide +kernel
theorem dd_Chart_highestTerm_26 : decode prog_2_method_8_code 26 = .ok (.iaload, 1) := by decide +kernel
theorem dd_Chart_highestTerm_27 : decode prog_2_method_8_code 27 = .ok (.iload_n 3, 1) := by decide +kernel
theorem dd_Chart_highestTerm_28 : decode prog_2_method_8_code 28 = .ok (.if_icmp .le 32, 3) := by decide +kernel
theorem dd_Chart_highestTerm_31 : decode prog_2_method_8_code 31 = .ok (.aload_n 0, 1) := by decide +kernel
theorem dd_Chart_highestTerm_32 : decode prog_2_method_8_code 32 = .ok (.iload_n 1, 1) := by decide +kernel
theorem dd_Chart_highestTerm_33 : decode prog_2_method_8_code 33 = .ok (.iload_n 2, 1) := by decide +kernel
theorem dd_Chart_highestTerm_34 : decode prog_2_method_8_code 34 = .ok (.aload_n 0, 1) := by decide +kernel
theorem dd_Chart_highestTerm_35 : decode prog_2_method_8_code 35 = .ok (.getfield 21, 3) := by decide +kernel
theorem dd_Chart_highestTerm_38 : decode prog_2_method_8_code 38 = .ok (.iload 4, 2) := by decide +kernel
theorem dd_Chart_highestTerm_40 : decode prog_2_method_8_code 40 = .ok (.invokevirtual 75, 3) := by decide +kernel
theorem dd_Chart_highestTerm_43 : decode prog_2_method_8_code 43 = .ok (.invokevirtual 78, 3) := by decide +kernel
theorem dd_Chart_highestTerm_46 : decode prog_2_method_8_code 46 = .ok (.ifCond .eq 14, 3) := by decide +kernel
theorem dd_Chart_highestTerm_49 : decode prog_2_method_8_code 49 = .ok (.aload_n 0, 1) := by decide +kernel
theorem dd_Chart_highestTerm_50 : decode prog_2_method_8_code 50 = .ok (.getfield 21, 3) := by decide +kernel
theorem dd_Chart_highestTerm_53 : decode prog_2_method_8_code 53 = .ok (.getfield 72, 3) := by decide +kernel
theorem dd_Chart_highestTerm_56 : decode prog_2_method_8_code 56 = .ok (.iload 4, 2) := by decide +kernel
theorem dd_Chart_highestTerm_58 : decode prog_2_method_8_code 58 = .ok (.iaload, 1) := by decide +kernel
theorem dd_Chart_highestTerm_59 : decode prog_2_method_8_code 59 = .ok (.istore_n 3, 1) := by decide +kernel
theorem dd_Chart_highestTerm_60 : decode prog_2_method_8_code 60 = .ok (.iinc 4 1, 3) := by decide +kernel
theorem dd_Chart_highestTerm_63 : decode prog_2_method_8_code 63 = .ok (.goto (-58), 3) := by decide +kernel
theorem dd_Chart_highestTerm_66 : decode prog_2_method_8_code 66 = .ok (.iload_n 3, 1) := by decide +kernel
theorem dd_Chart_highestTerm_67 : decode prog_2_method_8_code 67 = .ok (.ireturn, 1) := by decide +kernel
theorem dd_Chart_fillHoles_0 : decode prog_2_method_9_code 0 = .ok (.iload_n 1, 1) := by decide +kernel
theorem dd_Chart_fillHoles_1 : decode prog_2_method_9_code 1 = .ok (.bipush 98, 2) := by decide +kernel
theorem dd_Chart_fillHoles_3 : decode prog_2_method_9_code 3 = .ok (.imul, 1) := by decide +kernel
theorem dd_Chart_fillHoles_4 : decode prog_2_method_9_code 4 = .ok (.istore 4, 2) := by decide +kernel
theorem dd_Chart_fillHoles_6 : decode prog_2_method_9_code 6 = .ok (.iload_n 2, 1) := by decide +kernel
theorem dd_Chart_fillHoles_7 : decode prog_2_method_9_code 7 = .ok (.bipush 98, 2) := by decide +kernel
theorem dd_Chart_fillHoles_9 : decode prog_2_method_9_code 9 = .ok (.imul, 1) := by decide +kernel
theorem dd_Chart_fillHoles_10 : decode prog_2_method_9_code 10 = .ok (.istore 5, 2) := by decide +kernel
theorem dd_Chart_fillHoles_12 : decode prog_2_method_9_code 12 = .ok (.iconst 0, 1) := by decide +kernel
theorem dd_Chart_fillHoles_13 : decode prog_2_method_9_code 13 = .ok (.istore 6, 2) := by decide +kernel
theorem dd_Chart_fillHoles_15 : decode prog_2_method_9_code 15 = .ok (.iload 6, 2) := by decide +kernel
theorem dd_Chart_fillHoles_17 : decode prog_2_method_9_code 17 = .ok (.aload_n 0, 1) := by decide +kernel
theorem dd_Chart_fillHoles_18 : decode prog_2_method_9_code 18 = .ok (.getfield 21, 3) := by decide +kernel
theorem dd_Chart_fillHoles_21 : decode prog_2_method_9_code 21 = .ok (.invokevirtual 54, 3) := by decide +kernel
theorem dd_Chart_fillHoles_24 : decode prog_2_method_9_code 24 = .ok (.if_icmp .ge 58, 3) := by decide +kernel
theorem dd_Chart_fillHoles_27 : decode prog_2_method_9_code 27 = .ok (.aload_n 0, 1) := by decide +kernel
theorem dd_Chart_fillHoles_28 : decode prog_2_method_9_code 28 = .ok (.getfield 21, 3) := by decide +kernel
theorem dd_Chart_fillHoles_31 : decode prog_2_method_9_code 31 = .ok (.getfield 82, 3) := by decide +kernel
theorem dd_Chart_fillHoles_34 : decode prog_2_method_9_code 34 = .ok (.iload 6, 2) := by decide +kernel
theorem dd_Chart_fillHoles_36 : decode prog_2_method_9_code 36 = .ok (.iaload, 1) := by decide +kernel
theorem dd_Chart_fillHoles_37 : decode prog_2_method_9_code 37 = .ok (.istore 7, 2) := by decide +kernel
theorem dd_Chart_fillHoles_39 : decode prog_2_method_9_code 39 = .ok (.iload 7, 2) := by decide +kernel
theorem dd_Chart_fillHoles_41 : decode prog_2_method_9_code 41 = .ok (.iconst (-1), 1) := by decide +kernel
theorem dd_Chart_fillHoles_42 : decode prog_2_method_9_code 42 = .ok (.if_icmp .eq 34, 3) := by decide +kernel
theorem dd_Chart_fillHoles_45 : decode prog_2_method_9_code 45 = .ok (.iload 7, 2) := by decide +kernel
theorem dd_Chart_fillHoles_47 : decode prog_2_method_9_code 47 = .ok (.iload_n 3, 1) := by decide +kernel
theorem dd_Chart_fillHoles_48 : decode prog_2_method_9_code 48 = .ok (.if_icmp .gt 28, 3) := by decide +kernel
theorem dd_Chart_fillHoles_51 : decode prog_2_method_9_code 51 = .ok (.aload_n 0, 1) := by decide +kernel
theorem dd_Chart_fillHoles_52 : decode prog_2_method_9_code 52 = .ok (.getfield 9, 3) := by decide +kernel
theorem dd_Chart_fillHoles_55 : decode prog_2_method_9_code 55 = .ok (.iload 5, 2) := by decide +kernel
theorem dd_Chart_fillHoles_57 : decode prog_2_method_9_code 57 = .ok (.iload 6, 2) := by decide +kernel
theorem dd_Chart_fillHoles_59 : decode prog_2_method_9_code 59 = .ok (.iadd, 1) := by decide +kernel
theorem dd_Chart_fillHoles_60 : decode prog_2_method_9_code 60 = .ok (.iconst 1, 1) := by decide +kernel
theorem dd_Chart_fillHoles_61 : decode prog_2_method_9_code 61 = .ok (.iadd, 1) := by decide +kernel
theorem dd_Chart_fillHoles_62 : decode prog_2_method_9_code 62 = .ok (.dup2, 1) := by decide +kernel
theorem dd_Chart_fillHoles_63 : decode prog_2_method_9_code 63 = .ok (.iaload, 1) := by decide +kernel
theorem dd_Chart_fillHoles_64 : decode prog_2_method_9_code 64 = .ok (.aload_n 0, 1) := by decide +kernel
theorem dd_Chart_fillHoles_65 : decode prog_2_method_9_code 65 = .ok (.getfield 9, 3) := by decide +kernel
theorem dd_Chart_fillHoles_68 : decode prog_2_method_9_code 68 = .ok (.iload 4, 2) := by decide +kernel
theorem dd_Chart_fillHoles_70 : decode prog_2_method_9_code 70 = .ok (.iload 6, 2) := by decide +kernel
theorem dd_Chart_fillHoles_72 : decode prog_2_method_9_code 72 = .ok (.iadd, 1) := by decide +kernel
theorem dd_Chart_fillHoles_73 : decode prog_2_method_9_code 73 = .ok (.iaload, 1) := by decide +kernel
theorem dd_Chart_fillHoles_74 : decode prog_2_method_9_code 74 = .ok (.ior, 1) := by decide +kernel
theorem dd_Chart_fillHoles_75 : decode prog_2_method_9_code 75 = .ok (.iastore, 1) := by decide +kernel
theorem dd_Chart_fillHoles_76 : decode prog_2_method_9_code 76 = .ok (.iinc 6 1, 3) := by decide +kernel
theorem dd_Chart_fillHoles_79 : decode prog_2_method_9_code 79 = .ok (.goto (-64), 3) := by decide +kernel
theorem dd_Chart_fillHoles_82 : decode prog_2_method_9_code 82 = .ok (.return_, 1) := by decide +kernel
theorem dd_Chart_complete_0 : decode prog_2_method_7_code 0 = .ok (.iload_n 1, 1) := by decide +kernel
theorem dd_Chart_complete_1 : decode prog_2_method_7_code 1 = .ok (.iconst 1, 1) := by decide +kernel
theorem dd_Chart_complete_2 : decode prog_2_method_7_code 2 = .ok (.isub, 1) := by decide +kernel
theorem dd_Chart_complete_3 : decode prog_2_method_7_code 3 = .ok (.istore_n 2, 1) := by decide +kernel
theorem dd_Chart_complete_4 : decode prog_2_method_7_code 4 = .ok (.iload_n 2, 1) := by decide +kernel
theorem dd_Chart_complete_5 : decode prog_2_method_7_code 5 = .ok (.ifCond .lt 28, 3) := by decide +kernel
theorem dd_Chart_complete_8 : decode prog_2_method_7_code 8 = .ok (.aload_n 0, 1) := by decide +kernel
theorem dd_Chart_complete_9 : decode prog_2_method_7_code 9 = .ok (.iload_n 2, 1) := by decide +kernel
theorem dd_Chart_complete_10 : decode prog_2_method_7_code 10 = .ok (.iload_n 1, 1) := by decide +kernel
theorem dd_Chart_complete_11 : decode prog_2_method_7_code 11 = .ok (.invokevirtual 44, 3) := by decide +kernel
theorem dd_Chart_complete_14 : decode prog_2_method_7_code 14 = .ok (.istore_n 3, 1) := by decide +kernel
theorem dd_Chart_complete_15 : decode prog_2_method_7_code 15 = .ok (.iload_n 3, 1) := by decide +kernel
theorem dd_Chart_complete_16 : decode prog_2_method_7_code 16 = .ok (.iconst (-1), 1) := by decide +kernel
theorem dd_Chart_complete_17 : decode prog_2_method_7_code 17 = .ok (.if_icmp .eq 10, 3) := by decide +kernel
theorem dd_Chart_complete_20 : decode prog_2_method_7_code 20 = .ok (.aload_n 0, 1) := by decide +kernel
theorem dd_Chart_complete_21 : decode prog_2_method_7_code 21 = .ok (.iload_n 2, 1) := by decide +kernel
theorem dd_Chart_complete_22 : decode prog_2_method_7_code 22 = .ok (.iload_n 1, 1) := by decide +kernel
theorem dd_Chart_complete_23 : decode prog_2_method_7_code 23 = .ok (.iload_n 3, 1) := by decide +kernel
theorem dd_Chart_complete_24 : decode prog_2_method_7_code 24 = .ok (.invokevirtual 64, 3) := by decide +kernel
theorem dd_Chart_complete_27 : decode prog_2_method_7_code 27 = .ok (.iinc 2 (-1), 3) := by decide +kernel
theorem dd_Chart_complete_30 : decode prog_2_method_7_code 30 = .ok (.goto (-26), 3) := by decide +kernel
theorem dd_Chart_complete_33 : decode prog_2_method_7_code 33 = .ok (.return_, 1) := by decide +kernel
theorem dd_Chart_leastWanted_0 : decode prog_2_method_10_code 0 = .ok (.bipush 11, 2) := by decide +kernel
theorem dd_Chart_leastWanted_2 : decode prog_2_method_10_code 2 = .ok (.istore_n 2, 1) := by decide +kernel
theorem dd_Chart_leastWanted_3 : decode prog_2_method_10_code 3 = .ok (.iconst 0, 1) := by decide +kernel
theorem dd_Chart_leastWanted_4 : decode prog_2_method_10_code 4 = .ok (.istore_n 3, 1) := by decide +kernel
theorem dd_Chart_leastWanted_5 : decode prog_2_method_10_code 5 = .ok (.iload_n 3, 1) := by decide +kernel
theorem dd_Chart_leastWanted_6 : decode prog_2_method_10_code 6 = .ok (.aload_n 0, 1) := by decide +kernel
theorem dd_Chart_leastWanted_7 : decode prog_2_method_10_code 7 = .ok (.getfield 21, 3) := by decide +kernel
theorem dd_Chart_leastWanted_10 : decode prog_2_method_10_code 10 = .ok (.invokevirtual 54, 3) := by decide +kernel
theorem dd_Chart_leastWanted_13 : decode prog_2_method_10_code 13 = .ok (.if_icmp .ge 49, 3) := by decide +kernel
theorem dd_Chart_leastWanted_16 : decode prog_2_method_10_code 16 = .ok (.aload_n 0, 1) := by decide +kernel
theorem dd_Chart_leastWanted_17 : decode prog_2_method_10_code 17 = .ok (.getfield 21, 3) := by decide +kernel
theorem dd_Chart_leastWanted_20 : decode prog_2_method_10_code 20 = .ok (.getfield 82, 3) := by decide +kernel
theorem dd_Chart_leastWanted_23 : decode prog_2_method_10_code 23 = .ok (.iload_n 3, 1) := by decide +kernel
theorem dd_Chart_leastWanted_24 : decode prog_2_method_10_code 24 = .ok (.iaload, 1) := by decide +kernel
theorem dd_Chart_leastWanted_25 : decode prog_2_method_10_code 25 = .ok (.istore 4, 2) := by decide +kernel
theorem dd_Chart_leastWanted_27 : decode prog_2_method_10_code 27 = .ok (.iload 4, 2) := by decide +kernel
theorem dd_Chart_leastWanted_29 : decode prog_2_method_10_code 29 = .ok (.iconst (-1), 1) := by decide +kernel
theorem dd_Chart_leastWanted_30 : decode prog_2_method_10_code 30 = .ok (.if_icmp .eq 26, 3) := by decide +kernel
theorem dd_Chart_leastWanted_33 : decode prog_2_method_10_code 33 = .ok (.iload 4, 2) := by decide +kernel
theorem dd_Chart_leastWanted_35 : decode prog_2_method_10_code 35 = .ok (.iload_n 2, 1) := by decide +kernel
theorem dd_Chart_leastWanted_36 : decode prog_2_method_10_code 36 = .ok (.if_icmp .ge 20, 3) := by decide +kernel
theorem dd_Chart_leastWanted_39 : decode prog_2_method_10_code 39 = .ok (.aload_n 0, 1) := by decide +kernel
theorem dd_Chart_leastWanted_40 : decode prog_2_method_10_code 40 = .ok (.getfield 9, 3) := by decide +kernel
theorem dd_Chart_leastWanted_43 : decode prog_2_method_10_code 43 = .ok (.iload_n 1, 1) := by decide +kernel
theorem dd_Chart_leastWanted_44 : decode prog_2_method_10_code 44 = .ok (.bipush 98, 2) := by decide +kernel
theorem dd_Chart_leastWanted_46 : decode prog_2_method_10_code 46 = .ok (.imul, 1) := by decide +kernel
theorem dd_Chart_leastWanted_47 : decode prog_2_method_10_code 47 = .ok (.iload_n 3, 1) := by decide +kernel
theorem dd_Chart_leastWanted_48 : decode prog_2_method_10_code 48 = .ok (.iadd, 1) := by decide +kernel
theorem dd_Chart_leastWanted_49 : decode prog_2_method_10_code 49 = .ok (.iaload, 1) := by decide +kernel
theorem dd_Chart_leastWanted_50 : decode prog_2_method_10_code 50 = .ok (.ifCond .eq 6, 3) := by decide +kernel
theorem dd_Chart_leastWanted_53 : decode prog_2_method_10_code 53 = .ok (.iload 4, 2) := by decide +kernel
theorem dd_Chart_leastWanted_55 : decode prog_2_method_10_code 55 = .ok (.istore_n 2, 1) := by decide +kernel
theorem dd_Chart_leastWanted_56 : decode prog_2_method_10_code 56 = .ok (.iinc 3 1, 3) := by decide +kernel
theorem dd_Chart_leastWanted_59 : decode prog_2_method_10_code 59 = .ok (.goto (-54), 3) := by decide +kernel
theorem dd_Chart_leastWanted_62 : decode prog_2_method_10_code 62 = .ok (.iload_n 2, 1) := by decide +kernel
theorem dd_Chart_leastWanted_63 : decode prog_2_method_10_code 63 = .ok (.ireturn, 1) := by decide +kernel
theorem dd_Chart_leastFirstHole_0 : decode prog_2_method_12_code 0 = .ok (.iload_n 1, 1) := by decide +kernel
theorem dd_Chart_leastFirstHole_1 : decode prog_2_method_12_code 1 = .ok (.istore_n 2, 1) := by decide +kernel
theorem dd_Chart_leastFirstHole_2 : decode prog_2_method_12_code 2 = .ok (.iconst 2, 1) := by decide +kernel
theorem dd_Chart_leastFirstHole_3 : decode prog_2_method_12_code 3 = .ok (.istore_n 3, 1) := by decide +kernel
theorem dd_Chart_leastFirstHole_4 : decode prog_2_method_12_code 4 = .ok (.iload_n 3, 1) := by decide +kernel
theorem dd_Chart_leastFirstHole_5 : decode prog_2_method_12_code 5 = .ok (.aload_n 0, 1) := by decide +kernel
theorem dd_Chart_leastFirstHole_6 : decode prog_2_method_12_code 6 = .ok (.getfield 21, 3) := by decide +kernel
theorem dd_Chart_leastFirstHole_9 : decode prog_2_method_12_code 9 = .ok (.getfield 68, 3) := by decide +kernel
theorem dd_Chart_leastFirstHole_12 : decode prog_2_method_12_code 12 = .ok (.if_icmp .ge 51, 3) := by decide +kernel
theorem dd_Chart_leastFirstHole_15 : decode prog_2_method_12_code 15 = .ok (.aload_n 0, 1) := by decide +kernel
theorem dd_Chart_leastFirstHole_16 : decode prog_2_method_12_code 16 = .ok (.getfield 21, 3) := by decide +kernel
theorem dd_Chart_leastFirstHole_19 : decode prog_2_method_12_code 19 = .ok (.getfield 82, 3) := by decide +kernel
theorem dd_Chart_leastFirstHole_22 : decode prog_2_method_12_code 22 = .ok (.iload_n 3, 1) := by decide +kernel
theorem dd_Chart_leastFirstHole_23 : decode prog_2_method_12_code 23 = .ok (.bipush 7, 2) := by decide +kernel
theorem dd_Chart_leastFirstHole_25 : decode prog_2_method_12_code 25 = .ok (.imul, 1) := by decide +kernel
theorem dd_Chart_leastFirstHole_26 : decode prog_2_method_12_code 26 = .ok (.iaload, 1) := by decide +kernel
theorem dd_Chart_leastFirstHole_27 : decode prog_2_method_12_code 27 = .ok (.istore 4, 2) := by decide +kernel
theorem dd_Chart_leastFirstHole_29 : decode prog_2_method_12_code 29 = .ok (.aload_n 0, 1) := by decide +kernel
theorem dd_Chart_leastFirstHole_30 : decode prog_2_method_12_code 30 = .ok (.getfield 21, 3) := by decide +kernel
theorem dd_Chart_leastFirstHole_33 : decode prog_2_method_12_code 33 = .ok (.getfield 72, 3) := by decide +kernel
theorem dd_Chart_leastFirstHole_36 : decode prog_2_method_12_code 36 = .ok (.iload_n 3, 1) := by decide +kernel
theorem dd_Chart_leastFirstHole_37 : decode prog_2_method_12_code 37 = .ok (.iaload, 1) := by decide +kernel
theorem dd_Chart_leastFirstHole_38 : decode prog_2_method_12_code 38 = .ok (.iload_n 1, 1) := by decide +kernel
theorem dd_Chart_leastFirstHole_39 : decode prog_2_method_12_code 39 = .ok (.if_icmp .lt 18, 3) := by decide +kernel
theorem dd_Chart_leastFirstHole_42 : decode prog_2_method_12_code 42 = .ok (.iload 4, 2) := by decide +kernel
theorem dd_Chart_leastFirstHole_44 : decode prog_2_method_12_code 44 = .ok (.iconst (-1), 1) := by decide +kernel
theorem dd_Chart_leastFirstHole_45 : decode prog_2_method_12_code 45 = .ok (.if_icmp .eq 12, 3) := by decide +kernel
theorem dd_Chart_leastFirstHole_48 : decode prog_2_method_12_code 48 = .ok (.iload 4, 2) := by decide +kernel
theorem dd_Chart_leastFirstHole_50 : decode prog_2_method_12_code 50 = .ok (.iload_n 2, 1) := by decide +kernel
theorem dd_Chart_leastFirstHole_51 : decode prog_2_method_12_code 51 = .ok (.if_icmp .ge 6, 3) := by decide +kernel
theorem dd_Chart_leastFirstHole_54 : decode prog_2_method_12_code 54 = .ok (.iload 4, 2) := by decide +kernel
theorem dd_Chart_leastFirstHole_56 : decode prog_2_method_12_code 56 = .ok (.istore_n 2, 1) := by decide +kernel
theorem dd_Chart_leastFirstHole_57 : decode prog_2_method_12_code 57 = .ok (.iinc 3 1, 3) := by decide +kernel
theorem dd_Chart_leastFirstHole_60 : decode prog_2_method_12_code 60 = .ok (.goto (-56), 3) := by decide +kernel
theorem dd_Chart_leastFirstHole_63 : decode prog_2_method_12_code 63 = .ok (.iload_n 2, 1) := by decide +kernel
theorem dd_Chart_leastFirstHole_64 : decode prog_2_method_12_code 64 = .ok (.ireturn, 1) := by decide +kernel
theorem dd_Chart_predict_0 : decode prog_2_method_11_code 0 = .ok (.iload_n 2, 1) := by decide +kernel
theorem dd_Chart_predict_1 : decode prog_2_method_11_code 1 = .ok (.istore_n 3, 1) := by decide +kernel
theorem dd_Chart_predict_2 : decode prog_2_method_11_code 2 = .ok (.iconst 1, 1) := by decide +kernel
theorem dd_Chart_predict_3 : decode prog_2_method_11_code 3 = .ok (.istore 4, 2) := by decide +kernel
theorem dd_Chart_predict_5 : decode prog_2_method_11_code 5 = .ok (.iconst 0, 1) := by decide +kernel
theorem dd_Chart_predict_6 : decode prog_2_method_11_code 6 = .ok (.istore 5, 2) := by decide +kernel
theorem dd_Chart_predict_8 : decode prog_2_method_11_code 8 = .ok (.iload 5, 2) := by decide +kernel
theorem dd_Chart_predict_10 : decode prog_2_method_11_code 10 = .ok (.bipush 10, 2) := by decide +kernel
theorem dd_Chart_predict_12 : decode prog_2_method_11_code 12 = .ok (.if_icmp .gt 37, 3) := by decide +kernel
theorem dd_Chart_predict_15 : decode prog_2_method_11_code 15 = .ok (.iload 4, 2) := by decide +kernel
theorem dd_Chart_predict_17 : decode prog_2_method_11_code 17 = .ok (.ifCond .eq 32, 3) := by decide +kernel
theorem dd_Chart_predict_20 : decode prog_2_method_11_code 20 = .ok (.iload_n 3, 1) := by decide +kernel
theorem dd_Chart_predict_21 : decode prog_2_method_11_code 21 = .ok (.istore 6, 2) := by decide +kernel
theorem dd_Chart_predict_23 : decode prog_2_method_11_code 23 = .ok (.aload_n 0, 1) := by decide +kernel
theorem dd_Chart_predict_24 : decode prog_2_method_11_code 24 = .ok (.iload 6, 2) := by decide +kernel
theorem dd_Chart_predict_26 : decode prog_2_method_11_code 26 = .ok (.invokevirtual 85, 3) := by decide +kernel
theorem dd_Chart_predict_29 : decode prog_2_method_11_code 29 = .ok (.istore_n 3, 1) := by decide +kernel
theorem dd_Chart_predict_30 : decode prog_2_method_11_code 30 = .ok (.iload_n 3, 1) := by decide +kernel
theorem dd_Chart_predict_31 : decode prog_2_method_11_code 31 = .ok (.iload 6, 2) := by decide +kernel
theorem dd_Chart_predict_33 : decode prog_2_method_11_code 33 = .ok (.if_icmp .ge 7, 3) := by decide +kernel
theorem dd_Chart_predict_36 : decode prog_2_method_11_code 36 = .ok (.iconst 1, 1) := by decide +kernel
theorem dd_Chart_predict_37 : decode prog_2_method_11_code 37 = .ok (.goto 4, 3) := by decide +kernel
theorem dd_Chart_predict_40 : decode prog_2_method_11_code 40 = .ok (.iconst 0, 1) := by decide +kernel
theorem dd_Chart_predict_41 : decode prog_2_method_11_code 41 = .ok (.istore 4, 2) := by decide +kernel
theorem dd_Chart_predict_43 : decode prog_2_method_11_code 43 = .ok (.iinc 5 1, 3) := by decide +kernel
theorem dd_Chart_predict_46 : decode prog_2_method_11_code 46 = .ok (.goto (-38), 3) := by decide +kernel
theorem dd_Chart_predict_49 : decode prog_2_method_11_code 49 = .ok (.iconst 0, 1) := by decide +kernel
theorem dd_Chart_predict_50 : decode prog_2_method_11_code 50 = .ok (.istore 5, 2) := by decide +kernel
theorem dd_Chart_predict_52 : decode prog_2_method_11_code 52 = .ok (.iload 5, 2) := by decide +kernel
theorem dd_Chart_predict_54 : decode prog_2_method_11_code 54 = .ok (.aload_n 0, 1) := by decide +kernel
theorem dd_Chart_predict_55 : decode prog_2_method_11_code 55 = .ok (.getfield 21, 3) := by decide +kernel
theorem dd_Chart_predict_58 : decode prog_2_method_11_code 58 = .ok (.getfield 68, 3) := by decide +kernel
theorem dd_Chart_predict_61 : decode prog_2_method_11_code 61 = .ok (.if_icmp .ge 41, 3) := by decide +kernel
theorem dd_Chart_predict_64 : decode prog_2_method_11_code 64 = .ok (.aload_n 0, 1) := by decide +kernel
theorem dd_Chart_predict_65 : decode prog_2_method_11_code 65 = .ok (.getfield 21, 3) := by decide +kernel
theorem dd_Chart_predict_68 : decode prog_2_method_11_code 68 = .ok (.getfield 72, 3) := by decide +kernel
theorem dd_Chart_predict_71 : decode prog_2_method_11_code 71 = .ok (.iload 5, 2) := by decide +kernel
theorem dd_Chart_predict_73 : decode prog_2_method_11_code 73 = .ok (.iaload, 1) := by decide +kernel
theorem dd_Chart_predict_74 : decode prog_2_method_11_code 74 = .ok (.iload_n 3, 1) := by decide +kernel
theorem dd_Chart_predict_75 : decode prog_2_method_11_code 75 = .ok (.if_icmp .lt 21, 3) := by decide +kernel
theorem dd_Chart_predict_78 : decode prog_2_method_11_code 78 = .ok (.aload_n 0, 1) := by decide +kernel
theorem dd_Chart_predict_79 : decode prog_2_method_11_code 79 = .ok (.getfield 9, 3) := by decide +kernel
theorem dd_Chart_predict_82 : decode prog_2_method_11_code 82 = .ok (.iload_n 1, 1) := by decide +kernel
theorem dd_Chart_predict_83 : decode prog_2_method_11_code 83 = .ok (.bipush 98, 2) := by decide +kernel
theorem dd_Chart_predict_85 : decode prog_2_method_11_code 85 = .ok (.imul, 1) := by decide +kernel
theorem dd_Chart_predict_86 : decode prog_2_method_11_code 86 = .ok (.iload 5, 2) := by decide +kernel
theorem dd_Chart_predict_88 : decode prog_2_method_11_code 88 = .ok (.bipush 7, 2) := by decide +kernel
theorem dd_Chart_predict_90 : decode prog_2_method_11_code 90 = .ok (.imul, 1) := by decide +kernel
theorem dd_Chart_predict_91 : decode prog_2_method_11_code 91 = .ok (.iadd, 1) := by decide +kernel
theorem dd_Chart_predict_92 : decode prog_2_method_11_code 92 = .ok (.iconst 1, 1) := by decide +kernel
theorem dd_Chart_predict_93 : decode prog_2_method_11_code 93 = .ok (.iload_n 1, 1) := by decide +kernel
theorem dd_Chart_predict_94 : decode prog_2_method_11_code 94 = .ok (.ishl, 1) := by decide +kernel
theorem dd_Chart_predict_95 : decode prog_2_method_11_code 95 = .ok (.iastore, 1) := by decide +kernel
theorem dd_Chart_predict_96 : decode prog_2_method_11_code 96 = .ok (.iinc 5 1, 3) := by decide +kernel
theorem dd_Chart_predict_99 : decode prog_2_method_11_code 99 = .ok (.goto (-47), 3) := by decide +kernel
theorem dd_Chart_predict_102 : decode prog_2_method_11_code 102 = .ok (.return_, 1) := by decide +kernel
theorem dd_Chart_follow_0 : decode prog_2_method_2_code 0 = .ok (.aload_n 0, 1) := by decide +kernel
theorem dd_Chart_follow_1 : decode prog_2_method_2_code 1 = .ok (.iconst 0, 1) := by decide +kernel
theorem dd_Chart_follow_2 : decode prog_2_method_2_code 2 = .ok (.invokevirtual 25, 3) := by decide +kernel
theorem dd_Chart_follow_5 : decode prog_2_method_2_code 5 = .ok (.aload_n 0, 1) := by decide +kernel
theorem dd_Chart_follow_6 : decode prog_2_method_2_code 6 = .ok (.iconst 0, 1) := by decide +kernel
theorem dd_Chart_follow_7 : decode prog_2_method_2_code 7 = .ok (.iconst 0, 1) := by decide +kernel
theorem dd_Chart_follow_8 : decode prog_2_method_2_code 8 = .ok (.invokevirtual 29, 3) := by decide +kernel
theorem dd_Chart_follow_11 : decode prog_2_method_2_code 11 = .ok (.iconst 0, 1) := by decide +kernel
theorem dd_Chart_follow_12 : decode prog_2_method_2_code 12 = .ok (.istore_n 3, 1) := by decide +kernel
theorem dd_Chart_follow_13 : decode prog_2_method_2_code 13 = .ok (.iload_n 3, 1) := by decide +kernel
theorem dd_Chart_follow_14 : decode prog_2_method_2_code 14 = .ok (.iload_n 2, 1) := by decide +kernel
theorem dd_Chart_follow_15 : decode prog_2_method_2_code 15 = .ok (.if_icmp .ge 50, 3) := by decide +kernel
theorem dd_Chart_follow_18 : decode prog_2_method_2_code 18 = .ok (.aload_n 0, 1) := by decide +kernel
theorem dd_Chart_follow_19 : decode prog_2_method_2_code 19 = .ok (.iload_n 3, 1) := by decide +kernel
theorem dd_Chart_follow_20 : decode prog_2_method_2_code 20 = .ok (.iconst 1, 1) := by decide +kernel
theorem dd_Chart_follow_21 : decode prog_2_method_2_code 21 = .ok (.iadd, 1) := by decide +kernel
theorem dd_Chart_follow_22 : decode prog_2_method_2_code 22 = .ok (.invokevirtual 25, 3) := by decide +kernel
theorem dd_Chart_follow_25 : decode prog_2_method_2_code 25 = .ok (.aload_n 0, 1) := by decide +kernel
theorem dd_Chart_follow_26 : decode prog_2_method_2_code 26 = .ok (.iload_n 3, 1) := by decide +kernel
theorem dd_Chart_follow_27 : decode prog_2_method_2_code 27 = .ok (.aload_n 1, 1) := by decide +kernel
theorem dd_Chart_follow_28 : decode prog_2_method_2_code 28 = .ok (.iload_n 3, 1) := by decide +kernel
theorem dd_Chart_follow_29 : decode prog_2_method_2_code 29 = .ok (.laload, 1) := by decide +kernel
theorem dd_Chart_follow_30 : decode prog_2_method_2_code 30 = .ok (.invokevirtual 33, 3) := by decide +kernel
theorem dd_Chart_follow_33 : decode prog_2_method_2_code 33 = .ok (.ifCond .ne 5, 3) := by decide +kernel
theorem dd_Chart_follow_36 : decode prog_2_method_2_code 36 = .ok (.iload_n 3, 1) := by decide +kernel
theorem dd_Chart_follow_37 : decode prog_2_method_2_code 37 = .ok (.ireturn, 1) := by decide +kernel
theorem dd_Chart_follow_38 : decode prog_2_method_2_code 38 = .ok (.aload_n 0, 1) := by decide +kernel
theorem dd_Chart_follow_39 : decode prog_2_method_2_code 39 = .ok (.iload_n 3, 1) := by decide +kernel
theorem dd_Chart_follow_40 : decode prog_2_method_2_code 40 = .ok (.iconst 1, 1) := by decide +kernel
theorem dd_Chart_follow_41 : decode prog_2_method_2_code 41 = .ok (.iadd, 1) := by decide +kernel
theorem dd_Chart_follow_42 : decode prog_2_method_2_code 42 = .ok (.invokevirtual 37, 3) := by decide +kernel
theorem dd_Chart_follow_45 : decode prog_2_method_2_code 45 = .ok (.aload_n 0, 1) := by decide +kernel
theorem dd_Chart_follow_46 : decode prog_2_method_2_code 46 = .ok (.iload_n 3, 1) := by decide +kernel
theorem dd_Chart_follow_47 : decode prog_2_method_2_code 47 = .ok (.iconst 1, 1) := by decide +kernel
theorem dd_Chart_follow_48 : decode prog_2_method_2_code 48 = .ok (.iadd, 1) := by decide +kernel
theorem dd_Chart_follow_49 : decode prog_2_method_2_code 49 = .ok (.aload_n 0, 1) := by decide +kernel
theorem dd_Chart_follow_50 : decode prog_2_method_2_code 50 = .ok (.iload_n 3, 1) := by decide +kernel
theorem dd_Chart_follow_51 : decode prog_2_method_2_code 51 = .ok (.iconst 1, 1) := by decide +kernel
theorem dd_Chart_follow_52 : decode prog_2_method_2_code 52 = .ok (.iadd, 1) := by decide +kernel
theorem dd_Chart_follow_53 : decode prog_2_method_2_code 53 = .ok (.invokevirtual 40, 3) := by decide +kernel
theorem dd_Chart_follow_56 : decode prog_2_method_2_code 56 = .ok (.invokevirtual 29, 3) := by decide +kernel
theorem dd_Chart_follow_59 : decode prog_2_method_2_code 59 = .ok (.iinc 3 1, 3) := by decide +kernel
theorem dd_Chart_follow_62 : decode prog_2_method_2_code 62 = .ok (.goto (-49), 3) := by decide +kernel
theorem dd_Chart_follow_65 : decode prog_2_method_2_code 65 = .ok (.iload_n 2, 1) := by decide +kernel
theorem dd_Chart_follow_66 : decode prog_2_method_2_code 66 = .ok (.ireturn, 1) := by decide +kernel
theorem dd_Chart_isWhole_0 : decode prog_2_method_3_code 0 = .ok (.aload_n 0, 1) := by decide +kernel
theorem dd_Chart_isWhole_1 : decode prog_2_method_3_code 1 = .ok (.iconst 0, 1) := by decide +kernel
theorem dd_Chart_isWhole_2 : decode prog_2_method_3_code 2 = .ok (.iload_n 1, 1) := by decide +kernel
theorem dd_Chart_isWhole_3 : decode prog_2_method_3_code 3 = .ok (.invokevirtual 44, 3) := by decide +kernel
theorem dd_Chart_isWhole_6 : decode prog_2_method_3_code 6 = .ok (.iconst (-1), 1) := by decide +kernel
theorem dd_Chart_isWhole_7 : decode prog_2_method_3_code 7 = .ok (.if_icmp .eq 7, 3) := by decide +kernel
theorem dd_Chart_isWhole_10 : decode prog_2_method_3_code 10 = .ok (.iconst 1, 1) := by decide +kernel
theorem dd_Chart_isWhole_11 : decode prog_2_method_3_code 11 = .ok (.goto 4, 3) := by decide +kernel
theorem dd_Chart_isWhole_14 : decode prog_2_method_3_code 14 = .ok (.iconst 0, 1) := by decide +kernel
theorem dd_Chart_isWhole_15 : decode prog_2_method_3_code 15 = .ok (.ireturn, 1) := by decide +kernel
theorem dd_Chart_cell_0 : decode prog_2_method_20_code 0 = .ok (.iload_n 2, 1) := by decide +kernel
theorem dd_Chart_cell_1 : decode prog_2_method_20_code 1 = .ok (.iload_n 2, 1) := by decide +kernel
theorem dd_Chart_cell_2 : decode prog_2_method_20_code 2 = .ok (.iconst 1, 1) := by decide +kernel
theorem dd_Chart_cell_3 : decode prog_2_method_20_code 3 = .ok (.isub, 1) := by decide +kernel
theorem dd_Chart_cell_4 : decode prog_2_method_20_code 4 = .ok (.imul, 1) := by decide +kernel
theorem dd_Chart_cell_5 : decode prog_2_method_20_code 5 = .ok (.iconst 2, 1) := by decide +kernel
theorem dd_Chart_cell_6 : decode prog_2_method_20_code 6 = .ok (.idiv, 1) := by decide +kernel
theorem dd_Chart_cell_7 : decode prog_2_method_20_code 7 = .ok (.iload_n 1, 1) := by decide +kernel
theorem dd_Chart_cell_8 : decode prog_2_method_20_code 8 = .ok (.iadd, 1) := by decide +kernel
theorem dd_Chart_cell_9 : decode prog_2_method_20_code 9 = .ok (.bipush 11, 2) := by decide +kernel
theorem dd_Chart_cell_11 : decode prog_2_method_20_code 11 = .ok (.imul, 1) := by decide +kernel
theorem dd_Chart_cell_12 : decode prog_2_method_20_code 12 = .ok (.iload_n 3, 1) := by decide +kernel
theorem dd_Chart_cell_13 : decode prog_2_method_20_code 13 = .ok (.iadd, 1) := by decide +kernel
theorem dd_Chart_cell_14 : decode prog_2_method_20_code 14 = .ok (.ireturn, 1) := by decide +kernel
theorem dd_Chart_addTrees_0 : decode prog_2_method_18_code 0 = .ok (.aload_n 0, 1) := by decide +kernel
theorem dd_Chart_addTrees_1 : decode prog_2_method_18_code 1 = .ok (.getfield 18, 3) := by decide +kernel
theorem dd_Chart_addTrees_4 : decode prog_2_method_18_code 4 = .ok (.iload_n 1, 1) := by decide +kernel
theorem dd_Chart_addTrees_5 : decode prog_2_method_18_code 5 = .ok (.aload_n 0, 1) := by decide +kernel
theorem dd_Chart_addTrees_6 : decode prog_2_method_18_code 6 = .ok (.getfield 18, 3) := by decide +kernel
theorem dd_Chart_addTrees_9 : decode prog_2_method_18_code 9 = .ok (.iload_n 1, 1) := by decide +kernel
theorem dd_Chart_addTrees_10 : decode prog_2_method_18_code 10 = .ok (.iaload, 1) := by decide +kernel
theorem dd_Chart_addTrees_11 : decode prog_2_method_18_code 11 = .ok (.iload_n 2, 1) := by decide +kernel
theorem dd_Chart_addTrees_12 : decode prog_2_method_18_code 12 = .ok (.iadd, 1) := by decide +kernel
theorem dd_Chart_addTrees_13 : decode prog_2_method_18_code 13 = .ok (.ldc 119, 2) := by decide +kernel
theorem dd_Chart_addTrees_15 : decode prog_2_method_18_code 15 = .ok (.invokestatic 120, 3) := by decide +kernel
theorem dd_Chart_addTrees_18 : decode prog_2_method_18_code 18 = .ok (.iastore, 1) := by decide +kernel
theorem dd_Chart_addTrees_19 : decode prog_2_method_18_code 19 = .ok (.return_, 1) := by decide +kernel
theorem dd_Chart_sumTerms_0 : decode prog_2_method_17_code 0 = .ok (.aload_n 0, 1) := by decide +kernel
theorem dd_Chart_sumTerms_1 : decode prog_2_method_17_code 1 = .ok (.iload_n 1, 1) := by decide +kernel
theorem dd_Chart_sumTerms_2 : decode prog_2_method_17_code 2 = .ok (.iload_n 2, 1) := by decide +kernel
theorem dd_Chart_sumTerms_3 : decode prog_2_method_17_code 3 = .ok (.iconst 0, 1) := by decide +kernel
theorem dd_Chart_sumTerms_4 : decode prog_2_method_17_code 4 = .ok (.invokevirtual 91, 3) := by decide +kernel
theorem dd_Chart_sumTerms_7 : decode prog_2_method_17_code 7 = .ok (.istore_n 3, 1) := by decide +kernel
theorem dd_Chart_sumTerms_8 : decode prog_2_method_17_code 8 = .ok (.iconst 0, 1) := by decide +kernel
theorem dd_Chart_sumTerms_9 : decode prog_2_method_17_code 9 = .ok (.istore 4, 2) := by decide +kernel
theorem dd_Chart_sumTerms_11 : decode prog_2_method_17_code 11 = .ok (.iload 4, 2) := by decide +kernel
theorem dd_Chart_sumTerms_13 : decode prog_2_method_17_code 13 = .ok (.bipush 10, 2) := by decide +kernel
theorem dd_Chart_sumTerms_15 : decode prog_2_method_17_code 15 = .ok (.if_icmp .gt 19, 3) := by decide +kernel
theorem dd_Chart_sumTerms_18 : decode prog_2_method_17_code 18 = .ok (.aload_n 0, 1) := by decide +kernel
theorem dd_Chart_sumTerms_19 : decode prog_2_method_17_code 19 = .ok (.getfield 18, 3) := by decide +kernel
theorem dd_Chart_sumTerms_22 : decode prog_2_method_17_code 22 = .ok (.iload_n 3, 1) := by decide +kernel
theorem dd_Chart_sumTerms_23 : decode prog_2_method_17_code 23 = .ok (.iload 4, 2) := by decide +kernel
theorem dd_Chart_sumTerms_25 : decode prog_2_method_17_code 25 = .ok (.iadd, 1) := by decide +kernel
theorem dd_Chart_sumTerms_26 : decode prog_2_method_17_code 26 = .ok (.iconst 0, 1) := by decide +kernel
theorem dd_Chart_sumTerms_27 : decode prog_2_method_17_code 27 = .ok (.iastore, 1) := by decide +kernel
theorem dd_Chart_sumTerms_28 : decode prog_2_method_17_code 28 = .ok (.iinc 4 1, 3) := by decide +kernel
theorem dd_Chart_sumTerms_31 : decode prog_2_method_17_code 31 = .ok (.goto (-20), 3) := by decide +kernel
theorem dd_Chart_sumTerms_34 : decode prog_2_method_17_code 34 = .ok (.iconst 0, 1) := by decide +kernel
theorem dd_Chart_sumTerms_35 : decode prog_2_method_17_code 35 = .ok (.istore 4, 2) := by decide +kernel
theorem dd_Chart_sumTerms_37 : decode prog_2_method_17_code 37 = .ok (.iload 4, 2) := by decide +kernel
theorem dd_Chart_sumTerms_39 : decode prog_2_method_17_code 39 = .ok (.aload_n 0, 1) := by decide +kernel
theorem dd_Chart_sumTerms_40 : decode prog_2_method_17_code 40 = .ok (.getfield 21, 3) := by decide +kernel
theorem dd_Chart_sumTerms_43 : decode prog_2_method_17_code 43 = .ok (.getfield 68, 3) := by decide +kernel
theorem dd_Chart_sumTerms_46 : decode prog_2_method_17_code 46 = .ok (.if_icmp .ge 59, 3) := by decide +kernel
theorem dd_Chart_sumTerms_49 : decode prog_2_method_17_code 49 = .ok (.aload_n 0, 1) := by decide +kernel
theorem dd_Chart_sumTerms_50 : decode prog_2_method_17_code 50 = .ok (.getfield 21, 3) := by decide +kernel
theorem dd_Chart_sumTerms_53 : decode prog_2_method_17_code 53 = .ok (.iload 4, 2) := by decide +kernel
theorem dd_Chart_sumTerms_55 : decode prog_2_method_17_code 55 = .ok (.invokevirtual 75, 3) := by decide +kernel
theorem dd_Chart_sumTerms_58 : decode prog_2_method_17_code 58 = .ok (.istore 5, 2) := by decide +kernel
theorem dd_Chart_sumTerms_60 : decode prog_2_method_17_code 60 = .ok (.aload_n 0, 1) := by decide +kernel
theorem dd_Chart_sumTerms_61 : decode prog_2_method_17_code 61 = .ok (.iload_n 1, 1) := by decide +kernel
theorem dd_Chart_sumTerms_62 : decode prog_2_method_17_code 62 = .ok (.iload_n 2, 1) := by decide +kernel
theorem dd_Chart_sumTerms_63 : decode prog_2_method_17_code 63 = .ok (.iload 5, 2) := by decide +kernel
theorem dd_Chart_sumTerms_65 : decode prog_2_method_17_code 65 = .ok (.invokevirtual 78, 3) := by decide +kernel
theorem dd_Chart_sumTerms_68 : decode prog_2_method_17_code 68 = .ok (.ifCond .eq 31, 3) := by decide +kernel
theorem dd_Chart_sumTerms_71 : decode prog_2_method_17_code 71 = .ok (.aload_n 0, 1) := by decide +kernel
theorem dd_Chart_sumTerms_72 : decode prog_2_method_17_code 72 = .ok (.iload_n 3, 1) := by decide +kernel
theorem dd_Chart_sumTerms_73 : decode prog_2_method_17_code 73 = .ok (.aload_n 0, 1) := by decide +kernel
theorem dd_Chart_sumTerms_74 : decode prog_2_method_17_code 74 = .ok (.getfield 21, 3) := by decide +kernel
theorem dd_Chart_sumTerms_77 : decode prog_2_method_17_code 77 = .ok (.getfield 72, 3) := by decide +kernel
theorem dd_Chart_sumTerms_80 : decode prog_2_method_17_code 80 = .ok (.iload 4, 2) := by decide +kernel
theorem dd_Chart_sumTerms_82 : decode prog_2_method_17_code 82 = .ok (.iaload, 1) := by decide +kernel
theorem dd_Chart_sumTerms_83 : decode prog_2_method_17_code 83 = .ok (.iadd, 1) := by decide +kernel
theorem dd_Chart_sumTerms_84 : decode prog_2_method_17_code 84 = .ok (.aload_n 0, 1) := by decide +kernel
theorem dd_Chart_sumTerms_85 : decode prog_2_method_17_code 85 = .ok (.getfield 15, 3) := by decide +kernel
theorem dd_Chart_sumTerms_88 : decode prog_2_method_17_code 88 = .ok (.iload_n 2, 1) := by decide +kernel
theorem dd_Chart_sumTerms_89 : decode prog_2_method_17_code 89 = .ok (.bipush 98, 2) := by decide +kernel
theorem dd_Chart_sumTerms_91 : decode prog_2_method_17_code 91 = .ok (.imul, 1) := by decide +kernel
theorem dd_Chart_sumTerms_92 : decode prog_2_method_17_code 92 = .ok (.iload 5, 2) := by decide +kernel
theorem dd_Chart_sumTerms_94 : decode prog_2_method_17_code 94 = .ok (.iadd, 1) := by decide +kernel
theorem dd_Chart_sumTerms_95 : decode prog_2_method_17_code 95 = .ok (.iaload, 1) := by decide +kernel
theorem dd_Chart_sumTerms_96 : decode prog_2_method_17_code 96 = .ok (.invokevirtual 116, 3) := by decide +kernel
theorem dd_Chart_sumTerms_99 : decode prog_2_method_17_code 99 = .ok (.iinc 4 1, 3) := by decide +kernel
theorem dd_Chart_sumTerms_102 : decode prog_2_method_17_code 102 = .ok (.goto (-65), 3) := by decide +kernel
theorem dd_Chart_sumTerms_105 : decode prog_2_method_17_code 105 = .ok (.bipush 9, 2) := by decide +kernel
theorem dd_Chart_sumTerms_107 : decode prog_2_method_17_code 107 = .ok (.istore 4, 2) := by decide +kernel
theorem dd_Chart_sumTerms_109 : decode prog_2_method_17_code 109 = .ok (.iload 4, 2) := by decide +kernel
theorem dd_Chart_sumTerms_111 : decode prog_2_method_17_code 111 = .ok (.ifCond .lt 28, 3) := by decide +kernel
theorem dd_Chart_sumTerms_114 : decode prog_2_method_17_code 114 = .ok (.aload_n 0, 1) := by decide +kernel
theorem dd_Chart_sumTerms_115 : decode prog_2_method_17_code 115 = .ok (.iload_n 3, 1) := by decide +kernel
theorem dd_Chart_sumTerms_116 : decode prog_2_method_17_code 116 = .ok (.iload 4, 2) := by decide +kernel
theorem dd_Chart_sumTerms_118 : decode prog_2_method_17_code 118 = .ok (.iadd, 1) := by decide +kernel
theorem dd_Chart_sumTerms_119 : decode prog_2_method_17_code 119 = .ok (.aload_n 0, 1) := by decide +kernel
theorem dd_Chart_sumTerms_120 : decode prog_2_method_17_code 120 = .ok (.getfield 18, 3) := by decide +kernel
theorem dd_Chart_sumTerms_123 : decode prog_2_method_17_code 123 = .ok (.iload_n 3, 1) := by decide +kernel
theorem dd_Chart_sumTerms_124 : decode prog_2_method_17_code 124 = .ok (.iload 4, 2) := by decide +kernel
theorem dd_Chart_sumTerms_126 : decode prog_2_method_17_code 126 = .ok (.iadd, 1) := by decide +kernel
theorem dd_Chart_sumTerms_127 : decode prog_2_method_17_code 127 = .ok (.iconst 1, 1) := by decide +kernel
theorem dd_Chart_sumTerms_128 : decode prog_2_method_17_code 128 = .ok (.iadd, 1) := by decide +kernel
theorem dd_Chart_sumTerms_129 : decode prog_2_method_17_code 129 = .ok (.iaload, 1) := by decide +kernel
theorem dd_Chart_sumTerms_130 : decode prog_2_method_17_code 130 = .ok (.invokevirtual 116, 3) := by decide +kernel
theorem dd_Chart_sumTerms_133 : decode prog_2_method_17_code 133 = .ok (.iinc 4 (-1), 3) := by decide +kernel
theorem dd_Chart_sumTerms_136 : decode prog_2_method_17_code 136 = .ok (.goto (-27), 3) := by decide +kernel
theorem dd_Chart_sumTerms_139 : decode prog_2_method_17_code 139 = .ok (.return_, 1) := by decide +kernel
theorem dd_Chart_countFirstHoles_0 : decode prog_2_method_19_code 0 = .ok (.iconst 0, 1) := by decide +kernel
theorem dd_Chart_countFirstHoles_1 : decode prog_2_method_19_code 1 = .ok (.istore_n 3, 1) := by decide +kernel
theorem dd_Chart_countFirstHoles_2 : decode prog_2_method_19_code 2 = .ok (.iload_n 3, 1) := by decide +kernel
theorem dd_Chart_countFirstHoles_3 : decode prog_2_method_19_code 3 = .ok (.aload_n 0, 1) := by decide +kernel
theorem dd_Chart_countFirstHoles_4 : decode prog_2_method_19_code 4 = .ok (.getfield 21, 3) := by decide +kernel
theorem dd_Chart_countFirstHoles_7 : decode prog_2_method_19_code 7 = .ok (.getfield 68, 3) := by decide +kernel
theorem dd_Chart_countFirstHoles_10 : decode prog_2_method_19_code 10 = .ok (.if_icmp .ge 60, 3) := by decide +kernel
theorem dd_Chart_countFirstHoles_13 : decode prog_2_method_19_code 13 = .ok (.iload_n 3, 1) := by decide +kernel
theorem dd_Chart_countFirstHoles_14 : decode prog_2_method_19_code 14 = .ok (.bipush 7, 2) := by decide +kernel
theorem dd_Chart_countFirstHoles_16 : decode prog_2_method_19_code 16 = .ok (.imul, 1) := by decide +kernel
theorem dd_Chart_countFirstHoles_17 : decode prog_2_method_19_code 17 = .ok (.istore 4, 2) := by decide +kernel
theorem dd_Chart_countFirstHoles_19 : decode prog_2_method_19_code 19 = .ok (.aload_n 0, 1) := by decide +kernel
theorem dd_Chart_countFirstHoles_20 : decode prog_2_method_19_code 20 = .ok (.getfield 21, 3) := by decide +kernel
theorem dd_Chart_countFirstHoles_23 : decode prog_2_method_19_code 23 = .ok (.getfield 82, 3) := by decide +kernel
theorem dd_Chart_countFirstHoles_26 : decode prog_2_method_19_code 26 = .ok (.iload 4, 2) := by decide +kernel
theorem dd_Chart_countFirstHoles_28 : decode prog_2_method_19_code 28 = .ok (.iaload, 1) := by decide +kernel
theorem dd_Chart_countFirstHoles_29 : decode prog_2_method_19_code 29 = .ok (.istore 5, 2) := by decide +kernel
theorem dd_Chart_countFirstHoles_31 : decode prog_2_method_19_code 31 = .ok (.iload 5, 2) := by decide +kernel
theorem dd_Chart_countFirstHoles_33 : decode prog_2_method_19_code 33 = .ok (.iconst (-1), 1) := by decide +kernel
theorem dd_Chart_countFirstHoles_34 : decode prog_2_method_19_code 34 = .ok (.if_icmp .eq 30, 3) := by decide +kernel
theorem dd_Chart_countFirstHoles_37 : decode prog_2_method_19_code 37 = .ok (.aload_n 0, 1) := by decide +kernel
theorem dd_Chart_countFirstHoles_38 : decode prog_2_method_19_code 38 = .ok (.getfield 15, 3) := by decide +kernel
theorem dd_Chart_countFirstHoles_41 : decode prog_2_method_19_code 41 = .ok (.iload_n 2, 1) := by decide +kernel
theorem dd_Chart_countFirstHoles_42 : decode prog_2_method_19_code 42 = .ok (.bipush 98, 2) := by decide +kernel
theorem dd_Chart_countFirstHoles_44 : decode prog_2_method_19_code 44 = .ok (.imul, 1) := by decide +kernel
theorem dd_Chart_countFirstHoles_45 : decode prog_2_method_19_code 45 = .ok (.iload 4, 2) := by decide +kernel
theorem dd_Chart_countFirstHoles_47 : decode prog_2_method_19_code 47 = .ok (.iadd, 1) := by decide +kernel
theorem dd_Chart_countFirstHoles_48 : decode prog_2_method_19_code 48 = .ok (.iconst 1, 1) := by decide +kernel
theorem dd_Chart_countFirstHoles_49 : decode prog_2_method_19_code 49 = .ok (.iadd, 1) := by decide +kernel
theorem dd_Chart_countFirstHoles_50 : decode prog_2_method_19_code 50 = .ok (.aload_n 0, 1) := by decide +kernel
theorem dd_Chart_countFirstHoles_51 : decode prog_2_method_19_code 51 = .ok (.getfield 18, 3) := by decide +kernel
theorem dd_Chart_countFirstHoles_54 : decode prog_2_method_19_code 54 = .ok (.aload_n 0, 1) := by decide +kernel
theorem dd_Chart_countFirstHoles_55 : decode prog_2_method_19_code 55 = .ok (.iload_n 1, 1) := by decide +kernel
theorem dd_Chart_countFirstHoles_56 : decode prog_2_method_19_code 56 = .ok (.iload_n 2, 1) := by decide +kernel
theorem dd_Chart_countFirstHoles_57 : decode prog_2_method_19_code 57 = .ok (.iload 5, 2) := by decide +kernel
theorem dd_Chart_countFirstHoles_59 : decode prog_2_method_19_code 59 = .ok (.invokevirtual 91, 3) := by decide +kernel
theorem dd_Chart_countFirstHoles_62 : decode prog_2_method_19_code 62 = .ok (.iaload, 1) := by decide +kernel
theorem dd_Chart_countFirstHoles_63 : decode prog_2_method_19_code 63 = .ok (.iastore, 1) := by decide +kernel
theorem dd_Chart_countFirstHoles_64 : decode prog_2_method_19_code 64 = .ok (.iinc 3 1, 3) := by decide +kernel
theorem dd_Chart_countFirstHoles_67 : decode prog_2_method_19_code 67 = .ok (.goto (-65), 3) := by decide +kernel
theorem dd_Chart_countFirstHoles_70 : decode prog_2_method_19_code 70 = .ok (.return_, 1) := by decide +kernel
theorem dd_Chart_countSplits_0 : decode prog_2_method_16_code 0 = .ok (.lconst 0, 1) := by decide +kernel
theorem dd_Chart_countSplits_1 : decode prog_2_method_16_code 1 = .ok (.lstore 5, 2) := by decide +kernel
theorem dd_Chart_countSplits_3 : decode prog_2_method_16_code 3 = .ok (.iload_n 3, 1) := by decide +kernel
theorem dd_Chart_countSplits_4 : decode prog_2_method_16_code 4 = .ok (.iconst 1, 1) := by decide +kernel
theorem dd_Chart_countSplits_5 : decode prog_2_method_16_code 5 = .ok (.iadd, 1) := by decide +kernel
theorem dd_Chart_countSplits_6 : decode prog_2_method_16_code 6 = .ok (.istore 7, 2) := by decide +kernel
theorem dd_Chart_countSplits_8 : decode prog_2_method_16_code 8 = .ok (.iload 7, 2) := by decide +kernel
theorem dd_Chart_countSplits_10 : decode prog_2_method_16_code 10 = .ok (.iload 4, 2) := by decide +kernel
theorem dd_Chart_countSplits_12 : decode prog_2_method_16_code 12 = .ok (.if_icmp .ge 54, 3) := by decide +kernel
theorem dd_Chart_countSplits_15 : decode prog_2_method_16_code 15 = .ok (.aload_n 0, 1) := by decide +kernel
theorem dd_Chart_countSplits_16 : decode prog_2_method_16_code 16 = .ok (.iload_n 3, 1) := by decide +kernel
theorem dd_Chart_countSplits_17 : decode prog_2_method_16_code 17 = .ok (.iload 7, 2) := by decide +kernel
theorem dd_Chart_countSplits_19 : decode prog_2_method_16_code 19 = .ok (.iload_n 1, 1) := by decide +kernel
theorem dd_Chart_countSplits_20 : decode prog_2_method_16_code 20 = .ok (.invokevirtual 78, 3) := by decide +kernel
theorem dd_Chart_countSplits_23 : decode prog_2_method_16_code 23 = .ok (.ifCond .eq 37, 3) := by decide +kernel
theorem dd_Chart_countSplits_26 : decode prog_2_method_16_code 26 = .ok (.lload 5, 2) := by decide +kernel
theorem dd_Chart_countSplits_28 : decode prog_2_method_16_code 28 = .ok (.aload_n 0, 1) := by decide +kernel
theorem dd_Chart_countSplits_29 : decode prog_2_method_16_code 29 = .ok (.getfield 15, 3) := by decide +kernel
theorem dd_Chart_countSplits_32 : decode prog_2_method_16_code 32 = .ok (.iload 7, 2) := by decide +kernel
theorem dd_Chart_countSplits_34 : decode prog_2_method_16_code 34 = .ok (.bipush 98, 2) := by decide +kernel
theorem dd_Chart_countSplits_36 : decode prog_2_method_16_code 36 = .ok (.imul, 1) := by decide +kernel
theorem dd_Chart_countSplits_37 : decode prog_2_method_16_code 37 = .ok (.iload_n 1, 1) := by decide +kernel
theorem dd_Chart_countSplits_38 : decode prog_2_method_16_code 38 = .ok (.iadd, 1) := by decide +kernel
theorem dd_Chart_countSplits_39 : decode prog_2_method_16_code 39 = .ok (.iaload, 1) := by decide +kernel
theorem dd_Chart_countSplits_40 : decode prog_2_method_16_code 40 = .ok (.i2l, 1) := by decide +kernel
theorem dd_Chart_countSplits_41 : decode prog_2_method_16_code 41 = .ok (.aload_n 0, 1) := by decide +kernel
theorem dd_Chart_countSplits_42 : decode prog_2_method_16_code 42 = .ok (.getfield 18, 3) := by decide +kernel
theorem dd_Chart_countSplits_45 : decode prog_2_method_16_code 45 = .ok (.aload_n 0, 1) := by decide +kernel
theorem dd_Chart_countSplits_46 : decode prog_2_method_16_code 46 = .ok (.iload 7, 2) := by decide +kernel
theorem dd_Chart_countSplits_48 : decode prog_2_method_16_code 48 = .ok (.iload 4, 2) := by decide +kernel
theorem dd_Chart_countSplits_50 : decode prog_2_method_16_code 50 = .ok (.iload_n 2, 1) := by decide +kernel
theorem dd_Chart_countSplits_51 : decode prog_2_method_16_code 51 = .ok (.invokevirtual 91, 3) := by decide +kernel
theorem dd_Chart_countSplits_54 : decode prog_2_method_16_code 54 = .ok (.iaload, 1) := by decide +kernel
theorem dd_Chart_countSplits_55 : decode prog_2_method_16_code 55 = .ok (.i2l, 1) := by decide +kernel
theorem dd_Chart_countSplits_56 : decode prog_2_method_16_code 56 = .ok (.lmul, 1) := by decide +kernel
theorem dd_Chart_countSplits_57 : decode prog_2_method_16_code 57 = .ok (.ladd, 1) := by decide +kernel
theorem dd_Chart_countSplits_58 : decode prog_2_method_16_code 58 = .ok (.lstore 5, 2) := by decide +kernel
theorem dd_Chart_countSplits_60 : decode prog_2_method_16_code 60 = .ok (.iinc 7 1, 3) := by decide +kernel
theorem dd_Chart_countSplits_63 : decode prog_2_method_16_code 63 = .ok (.goto (-55), 3) := by decide +kernel
theorem dd_Chart_countSplits_66 : decode prog_2_method_16_code 66 = .ok (.lload 5, 2) := by decide +kernel
theorem dd_Chart_countSplits_68 : decode prog_2_method_16_code 68 = .ok (.ldc2_w 108, 3) := by decide +kernel
theorem dd_Chart_countSplits_71 : decode prog_2_method_16_code 71 = .ok (.invokestatic 110, 3) := by decide +kernel
theorem dd_Chart_countSplits_74 : decode prog_2_method_16_code 74 = .ok (.l2i, 1) := by decide +kernel
theorem dd_Chart_countSplits_75 : decode prog_2_method_16_code 75 = .ok (.ireturn, 1) := by decide +kernel
theorem dd_Chart_countRule_0 : decode prog_2_method_15_code 0 = .ok (.iload_n 1, 1) := by decide +kernel
theorem dd_Chart_countRule_1 : decode prog_2_method_15_code 1 = .ok (.bipush 7, 2) := by decide +kernel
theorem dd_Chart_countRule_3 : decode prog_2_method_15_code 3 = .ok (.imul, 1) := by decide +kernel
theorem dd_Chart_countRule_4 : decode prog_2_method_15_code 4 = .ok (.istore 4, 2) := by decide +kernel
theorem dd_Chart_countRule_6 : decode prog_2_method_15_code 6 = .ok (.aload_n 0, 1) := by decide +kernel
theorem dd_Chart_countRule_7 : decode prog_2_method_15_code 7 = .ok (.getfield 21, 3) := by decide +kernel
theorem dd_Chart_countRule_10 : decode prog_2_method_15_code 10 = .ok (.iload_n 1, 1) := by decide +kernel
theorem dd_Chart_countRule_11 : decode prog_2_method_15_code 11 = .ok (.invokevirtual 75, 3) := by decide +kernel
theorem dd_Chart_countRule_14 : decode prog_2_method_15_code 14 = .ok (.istore 5, 2) := by decide +kernel
theorem dd_Chart_countRule_16 : decode prog_2_method_15_code 16 = .ok (.iload 4, 2) := by decide +kernel
theorem dd_Chart_countRule_18 : decode prog_2_method_15_code 18 = .ok (.iconst 1, 1) := by decide +kernel
theorem dd_Chart_countRule_19 : decode prog_2_method_15_code 19 = .ok (.iadd, 1) := by decide +kernel
theorem dd_Chart_countRule_20 : decode prog_2_method_15_code 20 = .ok (.istore 6, 2) := by decide +kernel
theorem dd_Chart_countRule_22 : decode prog_2_method_15_code 22 = .ok (.iload 6, 2) := by decide +kernel
theorem dd_Chart_countRule_24 : decode prog_2_method_15_code 24 = .ok (.iload 5, 2) := by decide +kernel
theorem dd_Chart_countRule_26 : decode prog_2_method_15_code 26 = .ok (.if_icmp .gt 104, 3) := by decide +kernel
theorem dd_Chart_countRule_29 : decode prog_2_method_15_code 29 = .ok (.aload_n 0, 1) := by decide +kernel
theorem dd_Chart_countRule_30 : decode prog_2_method_15_code 30 = .ok (.iload_n 2, 1) := by decide +kernel
theorem dd_Chart_countRule_31 : decode prog_2_method_15_code 31 = .ok (.iload_n 3, 1) := by decide +kernel
theorem dd_Chart_countRule_32 : decode prog_2_method_15_code 32 = .ok (.iload 6, 2) := by decide +kernel
theorem dd_Chart_countRule_34 : decode prog_2_method_15_code 34 = .ok (.invokevirtual 78, 3) := by decide +kernel
theorem dd_Chart_countRule_37 : decode prog_2_method_15_code 37 = .ok (.ifCond .eq 87, 3) := by decide +kernel
theorem dd_Chart_countRule_40 : decode prog_2_method_15_code 40 = .ok (.aload_n 0, 1) := by decide +kernel
theorem dd_Chart_countRule_41 : decode prog_2_method_15_code 41 = .ok (.getfield 21, 3) := by decide +kernel
theorem dd_Chart_countRule_44 : decode prog_2_method_15_code 44 = .ok (.getfield 82, 3) := by decide +kernel
theorem dd_Chart_countRule_47 : decode prog_2_method_15_code 47 = .ok (.iload 6, 2) := by decide +kernel
theorem dd_Chart_countRule_49 : decode prog_2_method_15_code 49 = .ok (.iconst 1, 1) := by decide +kernel
theorem dd_Chart_countRule_50 : decode prog_2_method_15_code 50 = .ok (.isub, 1) := by decide +kernel
theorem dd_Chart_countRule_51 : decode prog_2_method_15_code 51 = .ok (.iaload, 1) := by decide +kernel
theorem dd_Chart_countRule_52 : decode prog_2_method_15_code 52 = .ok (.istore 7, 2) := by decide +kernel
theorem dd_Chart_countRule_54 : decode prog_2_method_15_code 54 = .ok (.iload 7, 2) := by decide +kernel
theorem dd_Chart_countRule_56 : decode prog_2_method_15_code 56 = .ok (.iconst (-1), 1) := by decide +kernel
theorem dd_Chart_countRule_57 : decode prog_2_method_15_code 57 = .ok (.if_icmp .ne 34, 3) := by decide +kernel
theorem dd_Chart_countRule_60 : decode prog_2_method_15_code 60 = .ok (.aload_n 0, 1) := by decide +kernel
theorem dd_Chart_countRule_61 : decode prog_2_method_15_code 61 = .ok (.getfield 15, 3) := by decide +kernel
theorem dd_Chart_countRule_64 : decode prog_2_method_15_code 64 = .ok (.iload_n 3, 1) := by decide +kernel
theorem dd_Chart_countRule_65 : decode prog_2_method_15_code 65 = .ok (.bipush 98, 2) := by decide +kernel
theorem dd_Chart_countRule_67 : decode prog_2_method_15_code 67 = .ok (.imul, 1) := by decide +kernel
theorem dd_Chart_countRule_68 : decode prog_2_method_15_code 68 = .ok (.iload 6, 2) := by decide +kernel
theorem dd_Chart_countRule_70 : decode prog_2_method_15_code 70 = .ok (.iadd, 1) := by decide +kernel
theorem dd_Chart_countRule_71 : decode prog_2_method_15_code 71 = .ok (.aload_n 0, 1) := by decide +kernel
theorem dd_Chart_countRule_72 : decode prog_2_method_15_code 72 = .ok (.getfield 15, 3) := by decide +kernel
theorem dd_Chart_countRule_75 : decode prog_2_method_15_code 75 = .ok (.iload_n 3, 1) := by decide +kernel
theorem dd_Chart_countRule_76 : decode prog_2_method_15_code 76 = .ok (.iconst 1, 1) := by decide +kernel
theorem dd_Chart_countRule_77 : decode prog_2_method_15_code 77 = .ok (.isub, 1) := by decide +kernel
theorem dd_Chart_countRule_78 : decode prog_2_method_15_code 78 = .ok (.bipush 98, 2) := by decide +kernel
theorem dd_Chart_countRule_80 : decode prog_2_method_15_code 80 = .ok (.imul, 1) := by decide +kernel
theorem dd_Chart_countRule_81 : decode prog_2_method_15_code 81 = .ok (.iload 6, 2) := by decide +kernel
theorem dd_Chart_countRule_83 : decode prog_2_method_15_code 83 = .ok (.iadd, 1) := by decide +kernel
theorem dd_Chart_countRule_84 : decode prog_2_method_15_code 84 = .ok (.iconst 1, 1) := by decide +kernel
theorem dd_Chart_countRule_85 : decode prog_2_method_15_code 85 = .ok (.isub, 1) := by decide +kernel
theorem dd_Chart_countRule_86 : decode prog_2_method_15_code 86 = .ok (.iaload, 1) := by decide +kernel
theorem dd_Chart_countRule_87 : decode prog_2_method_15_code 87 = .ok (.iastore, 1) := by decide +kernel
theorem dd_Chart_countRule_88 : decode prog_2_method_15_code 88 = .ok (.goto 36, 3) := by decide +kernel
theorem dd_Chart_countRule_91 : decode prog_2_method_15_code 91 = .ok (.iload 6, 2) := by decide +kernel
theorem dd_Chart_countRule_93 : decode prog_2_method_15_code 93 = .ok (.iload 4, 2) := by decide +kernel
theorem dd_Chart_countRule_95 : decode prog_2_method_15_code 95 = .ok (.iconst 1, 1) := by decide +kernel
theorem dd_Chart_countRule_96 : decode prog_2_method_15_code 96 = .ok (.iadd, 1) := by decide +kernel
theorem dd_Chart_countRule_97 : decode prog_2_method_15_code 97 = .ok (.if_icmp .le 27, 3) := by decide +kernel
theorem dd_Chart_countRule_100 : decode prog_2_method_15_code 100 = .ok (.aload_n 0, 1) := by decide +kernel
theorem dd_Chart_countRule_101 : decode prog_2_method_15_code 101 = .ok (.getfield 15, 3) := by decide +kernel
theorem dd_Chart_countRule_104 : decode prog_2_method_15_code 104 = .ok (.iload_n 3, 1) := by decide +kernel
theorem dd_Chart_countRule_105 : decode prog_2_method_15_code 105 = .ok (.bipush 98, 2) := by decide +kernel
theorem dd_Chart_countRule_107 : decode prog_2_method_15_code 107 = .ok (.imul, 1) := by decide +kernel
theorem dd_Chart_countRule_108 : decode prog_2_method_15_code 108 = .ok (.iload 6, 2) := by decide +kernel
theorem dd_Chart_countRule_110 : decode prog_2_method_15_code 110 = .ok (.iadd, 1) := by decide +kernel
theorem dd_Chart_countRule_111 : decode prog_2_method_15_code 111 = .ok (.aload_n 0, 1) := by decide +kernel
theorem dd_Chart_countRule_112 : decode prog_2_method_15_code 112 = .ok (.iload 6, 2) := by decide +kernel
theorem dd_Chart_countRule_114 : decode prog_2_method_15_code 114 = .ok (.iconst 1, 1) := by decide +kernel
theorem dd_Chart_countRule_115 : decode prog_2_method_15_code 115 = .ok (.isub, 1) := by decide +kernel
theorem dd_Chart_countRule_116 : decode prog_2_method_15_code 116 = .ok (.iload 7, 2) := by decide +kernel
theorem dd_Chart_countRule_118 : decode prog_2_method_15_code 118 = .ok (.iload_n 2, 1) := by decide +kernel
theorem dd_Chart_countRule_119 : decode prog_2_method_15_code 119 = .ok (.iload_n 3, 1) := by decide +kernel
theorem dd_Chart_countRule_120 : decode prog_2_method_15_code 120 = .ok (.invokevirtual 104, 3) := by decide +kernel
theorem dd_Chart_countRule_123 : decode prog_2_method_15_code 123 = .ok (.iastore, 1) := by decide +kernel
theorem dd_Chart_countRule_124 : decode prog_2_method_15_code 124 = .ok (.iinc 6 1, 3) := by decide +kernel
theorem dd_Chart_countRule_127 : decode prog_2_method_15_code 127 = .ok (.goto (-105), 3) := by decide +kernel
theorem dd_Chart_countRule_130 : decode prog_2_method_15_code 130 = .ok (.return_, 1) := by decide +kernel
theorem dd_Chart_countFrom_0 : decode prog_2_method_14_code 0 = .ok (.iconst 0, 1) := by decide +kernel
theorem dd_Chart_countFrom_1 : decode prog_2_method_14_code 1 = .ok (.istore_n 3, 1) := by decide +kernel
theorem dd_Chart_countFrom_2 : decode prog_2_method_14_code 2 = .ok (.iload_n 3, 1) := by decide +kernel
theorem dd_Chart_countFrom_3 : decode prog_2_method_14_code 3 = .ok (.aload_n 0, 1) := by decide +kernel
theorem dd_Chart_countFrom_4 : decode prog_2_method_14_code 4 = .ok (.getfield 21, 3) := by decide +kernel
theorem dd_Chart_countFrom_7 : decode prog_2_method_14_code 7 = .ok (.getfield 68, 3) := by decide +kernel
theorem dd_Chart_countFrom_10 : decode prog_2_method_14_code 10 = .ok (.if_icmp .ge 24, 3) := by decide +kernel
theorem dd_Chart_countFrom_13 : decode prog_2_method_14_code 13 = .ok (.aload_n 0, 1) := by decide +kernel
theorem dd_Chart_countFrom_14 : decode prog_2_method_14_code 14 = .ok (.getfield 15, 3) := by decide +kernel
theorem dd_Chart_countFrom_17 : decode prog_2_method_14_code 17 = .ok (.iload_n 1, 1) := by decide +kernel
theorem dd_Chart_countFrom_18 : decode prog_2_method_14_code 18 = .ok (.bipush 98, 2) := by decide +kernel
theorem dd_Chart_countFrom_20 : decode prog_2_method_14_code 20 = .ok (.imul, 1) := by decide +kernel
theorem dd_Chart_countFrom_21 : decode prog_2_method_14_code 21 = .ok (.iload_n 3, 1) := by decide +kernel
theorem dd_Chart_countFrom_22 : decode prog_2_method_14_code 22 = .ok (.bipush 7, 2) := by decide +kernel
theorem dd_Chart_countFrom_24 : decode prog_2_method_14_code 24 = .ok (.imul, 1) := by decide +kernel
theorem dd_Chart_countFrom_25 : decode prog_2_method_14_code 25 = .ok (.iadd, 1) := by decide +kernel
theorem dd_Chart_countFrom_26 : decode prog_2_method_14_code 26 = .ok (.iconst 1, 1) := by decide +kernel
theorem dd_Chart_countFrom_27 : decode prog_2_method_14_code 27 = .ok (.iastore, 1) := by decide +kernel
theorem dd_Chart_countFrom_28 : decode prog_2_method_14_code 28 = .ok (.iinc 3 1, 3) := by decide +kernel
theorem dd_Chart_countFrom_31 : decode prog_2_method_14_code 31 = .ok (.goto (-29), 3) := by decide +kernel
theorem dd_Chart_countFrom_34 : decode prog_2_method_14_code 34 = .ok (.iload_n 1, 1) := by decide +kernel
theorem dd_Chart_countFrom_35 : decode prog_2_method_14_code 35 = .ok (.iconst 1, 1) := by decide +kernel
theorem dd_Chart_countFrom_36 : decode prog_2_method_14_code 36 = .ok (.iadd, 1) := by decide +kernel
theorem dd_Chart_countFrom_37 : decode prog_2_method_14_code 37 = .ok (.istore_n 3, 1) := by decide +kernel
theorem dd_Chart_countFrom_38 : decode prog_2_method_14_code 38 = .ok (.iload_n 3, 1) := by decide +kernel
theorem dd_Chart_countFrom_39 : decode prog_2_method_14_code 39 = .ok (.iload_n 2, 1) := by decide +kernel
theorem dd_Chart_countFrom_40 : decode prog_2_method_14_code 40 = .ok (.if_icmp .gt 50, 3) := by decide +kernel
theorem dd_Chart_countFrom_43 : decode prog_2_method_14_code 43 = .ok (.iconst 0, 1) := by decide +kernel
theorem dd_Chart_countFrom_44 : decode prog_2_method_14_code 44 = .ok (.istore 4, 2) := by decide +kernel
theorem dd_Chart_countFrom_46 : decode prog_2_method_14_code 46 = .ok (.iload 4, 2) := by decide +kernel
theorem dd_Chart_countFrom_48 : decode prog_2_method_14_code 48 = .ok (.aload_n 0, 1) := by decide +kernel
theorem dd_Chart_countFrom_49 : decode prog_2_method_14_code 49 = .ok (.getfield 21, 3) := by decide +kernel
theorem dd_Chart_countFrom_52 : decode prog_2_method_14_code 52 = .ok (.getfield 68, 3) := by decide +kernel
theorem dd_Chart_countFrom_55 : decode prog_2_method_14_code 55 = .ok (.if_icmp .ge 17, 3) := by decide +kernel
theorem dd_Chart_countFrom_58 : decode prog_2_method_14_code 58 = .ok (.aload_n 0, 1) := by decide +kernel
theorem dd_Chart_countFrom_59 : decode prog_2_method_14_code 59 = .ok (.iload 4, 2) := by decide +kernel
theorem dd_Chart_countFrom_61 : decode prog_2_method_14_code 61 = .ok (.iload_n 1, 1) := by decide +kernel
theorem dd_Chart_countFrom_62 : decode prog_2_method_14_code 62 = .ok (.iload_n 3, 1) := by decide +kernel
theorem dd_Chart_countFrom_63 : decode prog_2_method_14_code 63 = .ok (.invokevirtual 95, 3) := by decide +kernel
theorem dd_Chart_countFrom_66 : decode prog_2_method_14_code 66 = .ok (.iinc 4 1, 3) := by decide +kernel
theorem dd_Chart_countFrom_69 : decode prog_2_method_14_code 69 = .ok (.goto (-23), 3) := by decide +kernel
theorem dd_Chart_countFrom_72 : decode prog_2_method_14_code 72 = .ok (.aload_n 0, 1) := by decide +kernel
theorem dd_Chart_countFrom_73 : decode prog_2_method_14_code 73 = .ok (.iload_n 1, 1) := by decide +kernel
theorem dd_Chart_countFrom_74 : decode prog_2_method_14_code 74 = .ok (.iload_n 3, 1) := by decide +kernel
theorem dd_Chart_countFrom_75 : decode prog_2_method_14_code 75 = .ok (.invokevirtual 98, 3) := by decide +kernel
theorem dd_Chart_countFrom_78 : decode prog_2_method_14_code 78 = .ok (.aload_n 0, 1) := by decide +kernel
theorem dd_Chart_countFrom_79 : decode prog_2_method_14_code 79 = .ok (.iload_n 1, 1) := by decide +kernel
theorem dd_Chart_countFrom_80 : decode prog_2_method_14_code 80 = .ok (.iload_n 3, 1) := by decide +kernel
theorem dd_Chart_countFrom_81 : decode prog_2_method_14_code 81 = .ok (.invokevirtual 101, 3) := by decide +kernel
theorem dd_Chart_countFrom_84 : decode prog_2_method_14_code 84 = .ok (.iinc 3 1, 3) := by decide +kernel
theorem dd_Chart_countFrom_87 : decode prog_2_method_14_code 87 = .ok (.goto (-49), 3) := by decide +kernel
theorem dd_Chart_countFrom_90 : decode prog_2_method_14_code 90 = .ok (.return_, 1) := by decide +kernel
theorem dd_Chart_countTrees_0 : decode prog_2_method_13_code 0 = .ok (.iload_n 1, 1) := by decide +kernel
theorem dd_Chart_countTrees_1 : decode prog_2_method_13_code 1 = .ok (.iconst 1, 1) := by decide +kernel
theorem dd_Chart_countTrees_2 : decode prog_2_method_13_code 2 = .ok (.isub, 1) := by decide +kernel
theorem dd_Chart_countTrees_3 : decode prog_2_method_13_code 3 = .ok (.istore_n 2, 1) := by decide +kernel
theorem dd_Chart_countTrees_4 : decode prog_2_method_13_code 4 = .ok (.iload_n 2, 1) := by decide +kernel
theorem dd_Chart_countTrees_5 : decode prog_2_method_13_code 5 = .ok (.ifCond .lt 26, 3) := by decide +kernel
theorem dd_Chart_countTrees_8 : decode prog_2_method_13_code 8 = .ok (.aload_n 0, 1) := by decide +kernel
theorem dd_Chart_countTrees_9 : decode prog_2_method_13_code 9 = .ok (.iload_n 2, 1) := by decide +kernel
theorem dd_Chart_countTrees_10 : decode prog_2_method_13_code 10 = .ok (.iload_n 2, 1) := by decide +kernel
theorem dd_Chart_countTrees_11 : decode prog_2_method_13_code 11 = .ok (.bipush 7, 2) := by decide +kernel
theorem dd_Chart_countTrees_13 : decode prog_2_method_13_code 13 = .ok (.invokevirtual 78, 3) := by decide +kernel
theorem dd_Chart_countTrees_16 : decode prog_2_method_13_code 16 = .ok (.ifCond .eq 9, 3) := by decide +kernel
theorem dd_Chart_countTrees_19 : decode prog_2_method_13_code 19 = .ok (.aload_n 0, 1) := by decide +kernel
theorem dd_Chart_countTrees_20 : decode prog_2_method_13_code 20 = .ok (.iload_n 2, 1) := by decide +kernel
theorem dd_Chart_countTrees_21 : decode prog_2_method_13_code 21 = .ok (.iload_n 1, 1) := by decide +kernel
theorem dd_Chart_countTrees_22 : decode prog_2_method_13_code 22 = .ok (.invokevirtual 88, 3) := by decide +kernel
theorem dd_Chart_countTrees_25 : decode prog_2_method_13_code 25 = .ok (.iinc 2 (-1), 3) := by decide +kernel
theorem dd_Chart_countTrees_28 : decode prog_2_method_13_code 28 = .ok (.goto (-24), 3) := by decide +kernel
theorem dd_Chart_countTrees_31 : decode prog_2_method_13_code 31 = .ok (.iload_n 1, 1) := by decide +kernel
theorem dd_Chart_countTrees_32 : decode prog_2_method_13_code 32 = .ok (.iconst 1, 1) := by decide +kernel
theorem dd_Chart_countTrees_33 : decode prog_2_method_13_code 33 = .ok (.if_icmp .ge 7, 3) := by decide +kernel
theorem dd_Chart_countTrees_36 : decode prog_2_method_13_code 36 = .ok (.iconst 0, 1) := by decide +kernel
theorem dd_Chart_countTrees_37 : decode prog_2_method_13_code 37 = .ok (.goto 15, 3) := by decide +kernel
theorem dd_Chart_countTrees_40 : decode prog_2_method_13_code 40 = .ok (.aload_n 0, 1) := by decide +kernel
theorem dd_Chart_countTrees_41 : decode prog_2_method_13_code 41 = .ok (.getfield 18, 3) := by decide +kernel
theorem dd_Chart_countTrees_44 : decode prog_2_method_13_code 44 = .ok (.aload_n 0, 1) := by decide +kernel
theorem dd_Chart_countTrees_45 : decode prog_2_method_13_code 45 = .ok (.iconst 0, 1) := by decide +kernel
theorem dd_Chart_countTrees_46 : decode prog_2_method_13_code 46 = .ok (.iload_n 1, 1) := by decide +kernel
theorem dd_Chart_countTrees_47 : decode prog_2_method_13_code 47 = .ok (.iconst 0, 1) := by decide +kernel
theorem dd_Chart_countTrees_48 : decode prog_2_method_13_code 48 = .ok (.invokevirtual 91, 3) := by decide +kernel
theorem dd_Chart_countTrees_51 : decode prog_2_method_13_code 51 = .ok (.iaload, 1) := by decide +kernel
theorem dd_Chart_countTrees_52 : decode prog_2_method_13_code 52 = .ok (.ireturn, 1) := by decide +kernel
theorem dd_Chart_onlyRule_0 : decode prog_2_method_21_code 0 = .ok (.aload_n 0, 1) := by decide +kernel
theorem dd_Chart_onlyRule_1 : decode prog_2_method_21_code 1 = .ok (.getfield 21, 3) := by decide +kernel
theorem dd_Chart_onlyRule_4 : decode prog_2_method_21_code 4 = .ok (.getfield 68, 3) := by decide +kernel
theorem dd_Chart_onlyRule_7 : decode prog_2_method_21_code 7 = .ok (.iconst 1, 1) := by decide +kernel
theorem dd_Chart_onlyRule_8 : decode prog_2_method_21_code 8 = .ok (.isub, 1) := by decide +kernel
theorem dd_Chart_onlyRule_9 : decode prog_2_method_21_code 9 = .ok (.istore 4, 2) := by decide +kernel
theorem dd_Chart_onlyRule_11 : decode prog_2_method_21_code 11 = .ok (.iload 4, 2) := by decide +kernel
theorem dd_Chart_onlyRule_13 : decode prog_2_method_21_code 13 = .ok (.ifCond .le 44, 3) := by decide +kernel
theorem dd_Chart_onlyRule_16 : decode prog_2_method_21_code 16 = .ok (.aload_n 0, 1) := by decide +kernel
theorem dd_Chart_onlyRule_17 : decode prog_2_method_21_code 17 = .ok (.getfield 21, 3) := by decide +kernel
theorem dd_Chart_onlyRule_20 : decode prog_2_method_21_code 20 = .ok (.getfield 72, 3) := by decide +kernel
theorem dd_Chart_onlyRule_23 : decode prog_2_method_21_code 23 = .ok (.iload 4, 2) := by decide +kernel
theorem dd_Chart_onlyRule_25 : decode prog_2_method_21_code 25 = .ok (.iaload, 1) := by decide +kernel
theorem dd_Chart_onlyRule_26 : decode prog_2_method_21_code 26 = .ok (.iload_n 3, 1) := by decide +kernel
theorem dd_Chart_onlyRule_27 : decode prog_2_method_21_code 27 = .ok (.if_icmp .lt 24, 3) := by decide +kernel
theorem dd_Chart_onlyRule_30 : decode prog_2_method_21_code 30 = .ok (.aload_n 0, 1) := by decide +kernel
theorem dd_Chart_onlyRule_31 : decode prog_2_method_21_code 31 = .ok (.iload_n 1, 1) := by decide +kernel
theorem dd_Chart_onlyRule_32 : decode prog_2_method_21_code 32 = .ok (.iload_n 2, 1) := by decide +kernel
theorem dd_Chart_onlyRule_33 : decode prog_2_method_21_code 33 = .ok (.aload_n 0, 1) := by decide +kernel
theorem dd_Chart_onlyRule_34 : decode prog_2_method_21_code 34 = .ok (.getfield 21, 3) := by decide +kernel
theorem dd_Chart_onlyRule_37 : decode prog_2_method_21_code 37 = .ok (.iload 4, 2) := by decide +kernel
theorem dd_Chart_onlyRule_39 : decode prog_2_method_21_code 39 = .ok (.invokevirtual 75, 3) := by decide +kernel
theorem dd_Chart_onlyRule_42 : decode prog_2_method_21_code 42 = .ok (.invokevirtual 78, 3) := by decide +kernel
theorem dd_Chart_onlyRule_45 : decode prog_2_method_21_code 45 = .ok (.ifCond .eq 6, 3) := by decide +kernel
theorem dd_Chart_onlyRule_48 : decode prog_2_method_21_code 48 = .ok (.iload 4, 2) := by decide +kernel
theorem dd_Chart_onlyRule_50 : decode prog_2_method_21_code 50 = .ok (.ireturn, 1) := by decide +kernel
theorem dd_Chart_onlyRule_51 : decode prog_2_method_21_code 51 = .ok (.iinc 4 (-1), 3) := by decide +kernel
theorem dd_Chart_onlyRule_54 : decode prog_2_method_21_code 54 = .ok (.goto (-43), 3) := by decide +kernel
theorem dd_Chart_onlyRule_57 : decode prog_2_method_21_code 57 = .ok (.iconst 0, 1) := by decide +kernel
theorem dd_Chart_onlyRule_58 : decode prog_2_method_21_code 58 = .ok (.ireturn, 1) := by decide +kernel
theorem dd_Chart_onlySplit_0 : decode prog_2_method_22_code 0 = .ok (.aload_n 0, 1) := by decide +kernel
theorem dd_Chart_onlySplit_1 : decode prog_2_method_22_code 1 = .ok (.getfield 21, 3) := by decide +kernel
theorem dd_Chart_onlySplit_4 : decode prog_2_method_22_code 4 = .ok (.getfield 82, 3) := by decide +kernel
theorem dd_Chart_onlySplit_7 : decode prog_2_method_22_code 7 = .ok (.iload_n 1, 1) := by decide +kernel
theorem dd_Chart_onlySplit_8 : decode prog_2_method_22_code 8 = .ok (.iaload, 1) := by decide +kernel
theorem dd_Chart_onlySplit_9 : decode prog_2_method_22_code 9 = .ok (.istore 4, 2) := by decide +kernel
theorem dd_Chart_onlySplit_11 : decode prog_2_method_22_code 11 = .ok (.iload_n 3, 1) := by decide +kernel
theorem dd_Chart_onlySplit_12 : decode prog_2_method_22_code 12 = .ok (.iconst 1, 1) := by decide +kernel
theorem dd_Chart_onlySplit_13 : decode prog_2_method_22_code 13 = .ok (.isub, 1) := by decide +kernel
theorem dd_Chart_onlySplit_14 : decode prog_2_method_22_code 14 = .ok (.istore 5, 2) := by decide +kernel
theorem dd_Chart_onlySplit_16 : decode prog_2_method_22_code 16 = .ok (.iload 5, 2) := by decide +kernel
theorem dd_Chart_onlySplit_18 : decode prog_2_method_22_code 18 = .ok (.iload_n 2, 1) := by decide +kernel
theorem dd_Chart_onlySplit_19 : decode prog_2_method_22_code 19 = .ok (.if_icmp .le 40, 3) := by decide +kernel
theorem dd_Chart_onlySplit_22 : decode prog_2_method_22_code 22 = .ok (.aload_n 0, 1) := by decide +kernel
theorem dd_Chart_onlySplit_23 : decode prog_2_method_22_code 23 = .ok (.iload_n 2, 1) := by decide +kernel
theorem dd_Chart_onlySplit_24 : decode prog_2_method_22_code 24 = .ok (.iload 5, 2) := by decide +kernel
theorem dd_Chart_onlySplit_26 : decode prog_2_method_22_code 26 = .ok (.iload_n 1, 1) := by decide +kernel
theorem dd_Chart_onlySplit_27 : decode prog_2_method_22_code 27 = .ok (.invokevirtual 78, 3) := by decide +kernel
theorem dd_Chart_onlySplit_30 : decode prog_2_method_22_code 30 = .ok (.ifCond .eq 23, 3) := by decide +kernel
theorem dd_Chart_onlySplit_33 : decode prog_2_method_22_code 33 = .ok (.aload_n 0, 1) := by decide +kernel
theorem dd_Chart_onlySplit_34 : decode prog_2_method_22_code 34 = .ok (.getfield 18, 3) := by decide +kernel
theorem dd_Chart_onlySplit_37 : decode prog_2_method_22_code 37 = .ok (.aload_n 0, 1) := by decide +kernel
theorem dd_Chart_onlySplit_38 : decode prog_2_method_22_code 38 = .ok (.iload 5, 2) := by decide +kernel
theorem dd_Chart_onlySplit_40 : decode prog_2_method_22_code 40 = .ok (.iload_n 3, 1) := by decide +kernel
theorem dd_Chart_onlySplit_41 : decode prog_2_method_22_code 41 = .ok (.iload 4, 2) := by decide +kernel
theorem dd_Chart_onlySplit_43 : decode prog_2_method_22_code 43 = .ok (.invokevirtual 91, 3) := by decide +kernel
theorem dd_Chart_onlySplit_46 : decode prog_2_method_22_code 46 = .ok (.iaload, 1) := by decide +kernel
theorem dd_Chart_onlySplit_47 : decode prog_2_method_22_code 47 = .ok (.ifCond .le 6, 3) := by decide +kernel
theorem dd_Chart_onlySplit_50 : decode prog_2_method_22_code 50 = .ok (.iload 5, 2) := by decide +kernel
theorem dd_Chart_onlySplit_52 : decode prog_2_method_22_code 52 = .ok (.ireturn, 1) := by decide +kernel
theorem dd_Chart_onlySplit_53 : decode prog_2_method_22_code 53 = .ok (.iinc 5 (-1), 3) := by decide +kernel
theorem dd_Chart_onlySplit_56 : decode prog_2_method_22_code 56 = .ok (.goto (-40), 3) := by decide +kernel
theorem dd_Chart_onlySplit_59 : decode prog_2_method_22_code 59 = .ok (.iload_n 2, 1) := by decide +kernel
theorem dd_Chart_onlySplit_60 : decode prog_2_method_22_code 60 = .ok (.ireturn, 1) := by decide +kernel
theorem dd_Output_addByte_0 : decode prog_4_method_4_code 0 = .ok (.aload_n 0, 1) := by decide +kernel
theorem dd_Output_addByte_1 : decode prog_4_method_4_code 1 = .ok (.getfield 15, 3) := by decide +kernel
theorem dd_Output_addByte_4 : decode prog_4_method_4_code 4 = .ok (.aload_n 0, 1) := by decide +kernel
theorem dd_Output_addByte_5 : decode prog_4_method_4_code 5 = .ok (.getfield 9, 3) := by decide +kernel
theorem dd_Output_addByte_8 : decode prog_4_method_4_code 8 = .ok (.arraylength, 1) := by decide +kernel
theorem dd_Output_addByte_9 : decode prog_4_method_4_code 9 = .ok (.if_icmp .ge 24, 3) := by decide +kernel
theorem dd_Output_addByte_12 : decode prog_4_method_4_code 12 = .ok (.aload_n 0, 1) := by decide +kernel
theorem dd_Output_addByte_13 : decode prog_4_method_4_code 13 = .ok (.getfield 9, 3) := by decide +kernel
theorem dd_Output_addByte_16 : decode prog_4_method_4_code 16 = .ok (.aload_n 0, 1) := by decide +kernel
theorem dd_Output_addByte_17 : decode prog_4_method_4_code 17 = .ok (.getfield 15, 3) := by decide +kernel
theorem dd_Output_addByte_20 : decode prog_4_method_4_code 20 = .ok (.iload_n 1, 1) := by decide +kernel
theorem dd_Output_addByte_21 : decode prog_4_method_4_code 21 = .ok (.i2b, 1) := by decide +kernel
theorem dd_Output_addByte_22 : decode prog_4_method_4_code 22 = .ok (.bastore, 1) := by decide +kernel
theorem dd_Output_addByte_23 : decode prog_4_method_4_code 23 = .ok (.aload_n 0, 1) := by decide +kernel
theorem dd_Output_addByte_24 : decode prog_4_method_4_code 24 = .ok (.dup, 1) := by decide +kernel
theorem dd_Output_addByte_25 : decode prog_4_method_4_code 25 = .ok (.getfield 15, 3) := by decide +kernel
theorem dd_Output_addByte_28 : decode prog_4_method_4_code 28 = .ok (.iconst 1, 1) := by decide +kernel
theorem dd_Output_addByte_29 : decode prog_4_method_4_code 29 = .ok (.iadd, 1) := by decide +kernel
theorem dd_Output_addByte_30 : decode prog_4_method_4_code 30 = .ok (.putfield 15, 3) := by decide +kernel
theorem dd_Output_addByte_33 : decode prog_4_method_4_code 33 = .ok (.return_, 1) := by decide +kernel
theorem dd_Output_writeWord_0 : decode prog_4_method_3_code 0 = .ok (.bipush 7, 2) := by decide +kernel
theorem dd_Output_writeWord_2 : decode prog_4_method_3_code 2 = .ok (.istore_n 3, 1) := by decide +kernel
theorem dd_Output_writeWord_3 : decode prog_4_method_3_code 3 = .ok (.iload_n 3, 1) := by decide +kernel
theorem dd_Output_writeWord_4 : decode prog_4_method_3_code 4 = .ok (.ifCond .lt 27, 3) := by decide +kernel
theorem dd_Output_writeWord_7 : decode prog_4_method_3_code 7 = .ok (.lload_n 1, 1) := by decide +kernel
theorem dd_Output_writeWord_8 : decode prog_4_method_3_code 8 = .ok (.iload_n 3, 1) := by decide +kernel
theorem dd_Output_writeWord_9 : decode prog_4_method_3_code 9 = .ok (.invokestatic 36, 3) := by decide +kernel
theorem dd_Output_writeWord_12 : decode prog_4_method_3_code 12 = .ok (.istore 4, 2) := by decide +kernel
theorem dd_Output_writeWord_14 : decode prog_4_method_3_code 14 = .ok (.iload 4, 2) := by decide +kernel
theorem dd_Output_writeWord_16 : decode prog_4_method_3_code 16 = .ok (.ifCond .eq 9, 3) := by decide +kernel
theorem dd_Output_writeWord_19 : decode prog_4_method_3_code 19 = .ok (.aload_n 0, 1) := by decide +kernel
theorem dd_Output_writeWord_20 : decode prog_4_method_3_code 20 = .ok (.iload 4, 2) := by decide +kernel
theorem dd_Output_writeWord_22 : decode prog_4_method_3_code 22 = .ok (.invokevirtual 24, 3) := by decide +kernel
theorem dd_Output_writeWord_25 : decode prog_4_method_3_code 25 = .ok (.iinc 3 (-1), 3) := by decide +kernel
theorem dd_Output_writeWord_28 : decode prog_4_method_3_code 28 = .ok (.goto (-25), 3) := by decide +kernel
theorem dd_Output_writeWord_31 : decode prog_4_method_3_code 31 = .ok (.return_, 1) := by decide +kernel
theorem dd_Output_writeWords_0 : decode prog_4_method_2_code 0 = .ok (.aload_n 0, 1) := by decide +kernel
theorem dd_Output_writeWords_1 : decode prog_4_method_2_code 1 = .ok (.iconst 0, 1) := by decide +kernel
theorem dd_Output_writeWords_2 : decode prog_4_method_2_code 2 = .ok (.putfield 15, 3) := by decide +kernel
theorem dd_Output_writeWords_5 : decode prog_4_method_2_code 5 = .ok (.iconst 0, 1) := by decide +kernel
theorem dd_Output_writeWords_6 : decode prog_4_method_2_code 6 = .ok (.istore_n 3, 1) := by decide +kernel
theorem dd_Output_writeWords_7 : decode prog_4_method_2_code 7 = .ok (.iload_n 3, 1) := by decide +kernel
theorem dd_Output_writeWords_8 : decode prog_4_method_2_code 8 = .ok (.aload_n 1, 1) := by decide +kernel
theorem dd_Output_writeWords_9 : decode prog_4_method_2_code 9 = .ok (.getfield 19, 3) := by decide +kernel
theorem dd_Output_writeWords_12 : decode prog_4_method_2_code 12 = .ok (.if_icmp .ge 40, 3) := by decide +kernel
theorem dd_Output_writeWords_15 : decode prog_4_method_2_code 15 = .ok (.iload_n 2, 1) := by decide +kernel
theorem dd_Output_writeWords_16 : decode prog_4_method_2_code 16 = .ok (.iload_n 3, 1) := by decide +kernel
theorem dd_Output_writeWords_17 : decode prog_4_method_2_code 17 = .ok (.iushr, 1) := by decide +kernel
theorem dd_Output_writeWords_18 : decode prog_4_method_2_code 18 = .ok (.iconst 1, 1) := by decide +kernel
theorem dd_Output_writeWords_19 : decode prog_4_method_2_code 19 = .ok (.iand, 1) := by decide +kernel
theorem dd_Output_writeWords_20 : decode prog_4_method_2_code 20 = .ok (.ifCond .ne 26, 3) := by decide +kernel
theorem dd_Output_writeWords_23 : decode prog_4_method_2_code 23 = .ok (.aload_n 0, 1) := by decide +kernel
theorem dd_Output_writeWords_24 : decode prog_4_method_2_code 24 = .ok (.getfield 15, 3) := by decide +kernel
theorem dd_Output_writeWords_27 : decode prog_4_method_2_code 27 = .ok (.ifCond .le 9, 3) := by decide +kernel
theorem dd_Output_writeWords_30 : decode prog_4_method_2_code 30 = .ok (.aload_n 0, 1) := by decide +kernel
theorem dd_Output_writeWords_31 : decode prog_4_method_2_code 31 = .ok (.bipush 32, 2) := by decide +kernel
theorem dd_Output_writeWords_33 : decode prog_4_method_2_code 33 = .ok (.invokevirtual 24, 3) := by decide +kernel
theorem dd_Output_writeWords_36 : decode prog_4_method_2_code 36 = .ok (.aload_n 0, 1) := by decide +kernel
theorem dd_Output_writeWords_37 : decode prog_4_method_2_code 37 = .ok (.aload_n 1, 1) := by decide +kernel
theorem dd_Output_writeWords_38 : decode prog_4_method_2_code 38 = .ok (.getfield 28, 3) := by decide +kernel
theorem dd_Output_writeWords_41 : decode prog_4_method_2_code 41 = .ok (.iload_n 3, 1) := by decide +kernel
theorem dd_Output_writeWords_42 : decode prog_4_method_2_code 42 = .ok (.laload, 1) := by decide +kernel
theorem dd_Output_writeWords_43 : decode prog_4_method_2_code 43 = .ok (.invokevirtual 32, 3) := by decide +kernel
theorem dd_Output_writeWords_46 : decode prog_4_method_2_code 46 = .ok (.iinc 3 1, 3) := by decide +kernel
theorem dd_Output_writeWords_49 : decode prog_4_method_2_code 49 = .ok (.goto (-42), 3) := by decide +kernel
theorem dd_Output_writeWords_52 : decode prog_4_method_2_code 52 = .ok (.return_, 1) := by decide +kernel
theorem dd_M_thrown_0 : decode prog_9_method_2_code 0 = .ok (.aload_n 0, 1) := by decide +kernel
theorem dd_M_thrown_1 : decode prog_9_method_2_code 1 = .ok (.getfield 80, 3) := by decide +kernel
theorem dd_M_thrown_4 : decode prog_9_method_2_code 4 = .ok (.ireturn, 1) := by decide +kernel
theorem dd_M_isLetter_0 : decode prog_9_method_3_code 0 = .ok (.iload_n 0, 1) := by decide +kernel
theorem dd_M_isLetter_1 : decode prog_9_method_3_code 1 = .ok (.bipush 97, 2) := by decide +kernel
theorem dd_M_isLetter_3 : decode prog_9_method_3_code 3 = .ok (.if_icmp .lt 9, 3) := by decide +kernel
theorem dd_M_isLetter_6 : decode prog_9_method_3_code 6 = .ok (.iload_n 0, 1) := by decide +kernel
theorem dd_M_isLetter_7 : decode prog_9_method_3_code 7 = .ok (.bipush 122, 2) := by decide +kernel
theorem dd_M_isLetter_9 : decode prog_9_method_3_code 9 = .ok (.if_icmp .le 15, 3) := by decide +kernel
theorem dd_M_isLetter_12 : decode prog_9_method_3_code 12 = .ok (.iload_n 0, 1) := by decide +kernel
theorem dd_M_isLetter_13 : decode prog_9_method_3_code 13 = .ok (.bipush 65, 2) := by decide +kernel
theorem dd_M_isLetter_15 : decode prog_9_method_3_code 15 = .ok (.if_icmp .lt 13, 3) := by decide +kernel
theorem dd_M_isLetter_18 : decode prog_9_method_3_code 18 = .ok (.iload_n 0, 1) := by decide +kernel
theorem dd_M_isLetter_19 : decode prog_9_method_3_code 19 = .ok (.bipush 90, 2) := by decide +kernel
theorem dd_M_isLetter_21 : decode prog_9_method_3_code 21 = .ok (.if_icmp .gt 7, 3) := by decide +kernel
theorem dd_M_isLetter_24 : decode prog_9_method_3_code 24 = .ok (.iconst 1, 1) := by decide +kernel
theorem dd_M_isLetter_25 : decode prog_9_method_3_code 25 = .ok (.goto 4, 3) := by decide +kernel
theorem dd_M_isLetter_28 : decode prog_9_method_3_code 28 = .ok (.iconst 0, 1) := by decide +kernel
theorem dd_M_isLetter_29 : decode prog_9_method_3_code 29 = .ok (.ireturn, 1) := by decide +kernel
theorem dd_M_isDigit_0 : decode prog_9_method_4_code 0 = .ok (.iload_n 0, 1) := by decide +kernel
theorem dd_M_isDigit_1 : decode prog_9_method_4_code 1 = .ok (.bipush 48, 2) := by decide +kernel
theorem dd_M_isDigit_3 : decode prog_9_method_4_code 3 = .ok (.if_icmp .lt 13, 3) := by decide +kernel
theorem dd_M_isDigit_6 : decode prog_9_method_4_code 6 = .ok (.iload_n 0, 1) := by decide +kernel
theorem dd_M_isDigit_7 : decode prog_9_method_4_code 7 = .ok (.bipush 57, 2) := by decide +kernel
theorem dd_M_isDigit_9 : decode prog_9_method_4_code 9 = .ok (.if_icmp .gt 7, 3) := by decide +kernel
theorem dd_M_isDigit_12 : decode prog_9_method_4_code 12 = .ok (.iconst 1, 1) := by decide +kernel
theorem dd_M_isDigit_13 : decode prog_9_method_4_code 13 = .ok (.goto 4, 3) := by decide +kernel
theorem dd_M_isDigit_16 : decode prog_9_method_4_code 16 = .ok (.iconst 0, 1) := by decide +kernel
theorem dd_M_isDigit_17 : decode prog_9_method_4_code 17 = .ok (.ireturn, 1) := by decide +kernel
theorem dd_M_sort_0 : decode prog_9_method_5_code 0 = .ok (.iload_n 0, 1) := by decide +kernel
theorem dd_M_sort_1 : decode prog_9_method_5_code 1 = .ok (.invokestatic 83, 3) := by decide +kernel
theorem dd_M_sort_4 : decode prog_9_method_5_code 4 = .ok (.ifCond .eq 5, 3) := by decide +kernel
theorem dd_M_sort_7 : decode prog_9_method_5_code 7 = .ok (.iconst 1, 1) := by decide +kernel
theorem dd_M_sort_8 : decode prog_9_method_5_code 8 = .ok (.ireturn, 1) := by decide +kernel
theorem dd_M_sort_9 : decode prog_9_method_5_code 9 = .ok (.iload_n 0, 1) := by decide +kernel
theorem dd_M_sort_10 : decode prog_9_method_5_code 10 = .ok (.invokestatic 87, 3) := by decide +kernel
theorem dd_M_sort_13 : decode prog_9_method_5_code 13 = .ok (.ifCond .eq 5, 3) := by decide +kernel
theorem dd_M_sort_16 : decode prog_9_method_5_code 16 = .ok (.iconst 2, 1) := by decide +kernel
theorem dd_M_sort_17 : decode prog_9_method_5_code 17 = .ok (.ireturn, 1) := by decide +kernel
theorem dd_M_sort_18 : decode prog_9_method_5_code 18 = .ok (.iload_n 0, 1) := by decide +kernel
theorem dd_M_sort_19 : decode prog_9_method_5_code 19 = .ok (.tableswitch 393 33 126 #[389, 393, 389, 389, 389, 389, 393, 391, 391, 389, 389, 391, 389, 389, 389, 393, 393, 393, 393, 393, 393, 393, 393, 393, 393, 389, 391, 389, 389, 389, 389, 389, 393, 393, 393, 393, 393, 393, 393, 393, 393, 393, 393, 393, 393, 393, 393, 393, 393, 393, 393, 393, 393, 393, 393, 393, 393, 393, 391, 393, 391, 389, 393, 393, 393, 393, 393, 393, 393, 393, 393, 393, 393, 393, 393, 393, 393, 393, 393, 393, 393, 393, 393, 393, 393, 393, 393, 393, 393, 393, 391, 389, 391, 389], 389) := by decide +kernel
theorem dd_M_sort_408 : decode prog_9_method_5_code 408 = .ok (.iconst 3, 1) := by decide +kernel
theorem dd_M_sort_409 : decode prog_9_method_5_code 409 = .ok (.ireturn, 1) := by decide +kernel
theorem dd_M_sort_410 : decode prog_9_method_5_code 410 = .ok (.iconst 4, 1) := by decide +kernel
theorem dd_M_sort_411 : decode prog_9_method_5_code 411 = .ok (.ireturn, 1) := by decide +kernel
theorem dd_M_sort_412 : decode prog_9_method_5_code 412 = .ok (.iconst 0, 1) := by decide +kernel
theorem dd_M_sort_413 : decode prog_9_method_5_code 413 = .ok (.ireturn, 1) := by decide +kernel
theorem dd_M_byteOf_0 : decode prog_9_method_6_code 0 = .ok (.lload_n 0, 1) := by decide +kernel
theorem dd_M_byteOf_1 : decode prog_9_method_6_code 1 = .ok (.bipush 8, 2) := by decide +kernel
theorem dd_M_byteOf_3 : decode prog_9_method_6_code 3 = .ok (.iload_n 2, 1) := by decide +kernel
theorem dd_M_byteOf_4 : decode prog_9_method_6_code 4 = .ok (.iconst 1, 1) := by decide +kernel
theorem dd_M_byteOf_5 : decode prog_9_method_6_code 5 = .ok (.isub, 1) := by decide +kernel
theorem dd_M_byteOf_6 : decode prog_9_method_6_code 6 = .ok (.iload_n 3, 1) := by decide +kernel
theorem dd_M_byteOf_7 : decode prog_9_method_6_code 7 = .ok (.isub, 1) := by decide +kernel
theorem dd_M_byteOf_8 : decode prog_9_method_6_code 8 = .ok (.imul, 1) := by decide +kernel
theorem dd_M_byteOf_9 : decode prog_9_method_6_code 9 = .ok (.lshr, 1) := by decide +kernel
theorem dd_M_byteOf_10 : decode prog_9_method_6_code 10 = .ok (.ldc2_w 90, 3) := by decide +kernel
theorem dd_M_byteOf_13 : decode prog_9_method_6_code 13 = .ok (.land, 1) := by decide +kernel
theorem dd_M_byteOf_14 : decode prog_9_method_6_code 14 = .ok (.l2i, 1) := by decide +kernel
theorem dd_M_byteOf_15 : decode prog_9_method_6_code 15 = .ok (.ireturn, 1) := by decide +kernel
theorem dd_M_lowest_0 : decode prog_9_method_7_code 0 = .ok (.iload_n 2, 1) := by decide +kernel
theorem dd_M_lowest_1 : decode prog_9_method_7_code 1 = .ok (.bipush 8, 2) := by decide +kernel
theorem dd_M_lowest_3 : decode prog_9_method_7_code 3 = .ok (.if_icmp .ne 7, 3) := by decide +kernel
theorem dd_M_lowest_6 : decode prog_9_method_7_code 6 = .ok (.lload_n 0, 1) := by decide +kernel
theorem dd_M_lowest_7 : decode prog_9_method_7_code 7 = .ok (.goto 13, 3) := by decide +kernel
theorem dd_M_lowest_10 : decode prog_9_method_7_code 10 = .ok (.lload_n 0, 1) := by decide +kernel
theorem dd_M_lowest_11 : decode prog_9_method_7_code 11 = .ok (.lconst 1, 1) := by decide +kernel
theorem dd_M_lowest_12 : decode prog_9_method_7_code 12 = .ok (.bipush 8, 2) := by decide +kernel
theorem dd_M_lowest_14 : decode prog_9_method_7_code 14 = .ok (.iload_n 2, 1) := by decide +kernel
theorem dd_M_lowest_15 : decode prog_9_method_7_code 15 = .ok (.imul, 1) := by decide +kernel
theorem dd_M_lowest_16 : decode prog_9_method_7_code 16 = .ok (.lshl, 1) := by decide +kernel
theorem dd_M_lowest_17 : decode prog_9_method_7_code 17 = .ok (.lconst 1, 1) := by decide +kernel
theorem dd_M_lowest_18 : decode prog_9_method_7_code 18 = .ok (.lsub, 1) := by decide +kernel
theorem dd_M_lowest_19 : decode prog_9_method_7_code 19 = .ok (.land, 1) := by decide +kernel
theorem dd_M_lowest_20 : decode prog_9_method_7_code 20 = .ok (.lreturn, 1) := by decide +kernel
theorem dd_M_isWord_0 : decode prog_9_method_8_code 0 = .ok (.iload_n 2, 1) := by decide +kernel
theorem dd_M_isWord_1 : decode prog_9_method_8_code 1 = .ok (.iconst 1, 1) := by decide +kernel
theorem dd_M_isWord_2 : decode prog_9_method_8_code 2 = .ok (.if_icmp .lt 9, 3) := by decide +kernel
theorem dd_M_isWord_5 : decode prog_9_method_8_code 5 = .ok (.iload_n 2, 1) := by decide +kernel
theorem dd_M_isWord_6 : decode prog_9_method_8_code 6 = .ok (.bipush 8, 2) := by decide +kernel
theorem dd_M_isWord_8 : decode prog_9_method_8_code 8 = .ok (.if_icmp .le 5, 3) := by decide +kernel
theorem dd_M_isWord_11 : decode prog_9_method_8_code 11 = .ok (.iconst 0, 1) := by decide +kernel
theorem dd_M_isWord_12 : decode prog_9_method_8_code 12 = .ok (.ireturn, 1) := by decide +kernel
theorem dd_M_isWord_13 : decode prog_9_method_8_code 13 = .ok (.lload_n 0, 1) := by decide +kernel
theorem dd_M_isWord_14 : decode prog_9_method_8_code 14 = .ok (.iload_n 2, 1) := by decide +kernel
theorem dd_M_isWord_15 : decode prog_9_method_8_code 15 = .ok (.iconst 0, 1) := by decide +kernel
theorem dd_M_isWord_16 : decode prog_9_method_8_code 16 = .ok (.invokestatic 92, 3) := by decide +kernel
theorem dd_M_isWord_19 : decode prog_9_method_8_code 19 = .ok (.invokestatic 96, 3) := by decide +kernel
theorem dd_M_isWord_22 : decode prog_9_method_8_code 22 = .ok (.istore_n 3, 1) := by decide +kernel
theorem dd_M_isWord_23 : decode prog_9_method_8_code 23 = .ok (.iload_n 3, 1) := by decide +kernel
theorem dd_M_isWord_24 : decode prog_9_method_8_code 24 = .ok (.ifCond .le 17, 3) := by decide +kernel
theorem dd_M_isWord_27 : decode prog_9_method_8_code 27 = .ok (.iload_n 3, 1) := by decide +kernel
theorem dd_M_isWord_28 : decode prog_9_method_8_code 28 = .ok (.iconst 4, 1) := by decide +kernel
theorem dd_M_isWord_29 : decode prog_9_method_8_code 29 = .ok (.if_icmp .lt 8, 3) := by decide +kernel
theorem dd_M_isWord_32 : decode prog_9_method_8_code 32 = .ok (.iload_n 2, 1) := by decide +kernel
theorem dd_M_isWord_33 : decode prog_9_method_8_code 33 = .ok (.iconst 1, 1) := by decide +kernel
theorem dd_M_isWord_34 : decode prog_9_method_8_code 34 = .ok (.if_icmp .ne 7, 3) := by decide +kernel
theorem dd_M_isWord_37 : decode prog_9_method_8_code 37 = .ok (.iconst 1, 1) := by decide +kernel
theorem dd_M_isWord_38 : decode prog_9_method_8_code 38 = .ok (.goto 4, 3) := by decide +kernel
theorem dd_M_isWord_41 : decode prog_9_method_8_code 41 = .ok (.iconst 0, 1) := by decide +kernel
theorem dd_M_isWord_42 : decode prog_9_method_8_code 42 = .ok (.istore 4, 2) := by decide +kernel
theorem dd_M_isWord_44 : decode prog_9_method_8_code 44 = .ok (.iconst 1, 1) := by decide +kernel
theorem dd_M_isWord_45 : decode prog_9_method_8_code 45 = .ok (.istore 5, 2) := by decide +kernel
theorem dd_M_isWord_47 : decode prog_9_method_8_code 47 = .ok (.iload 5, 2) := by decide +kernel
theorem dd_M_isWord_49 : decode prog_9_method_8_code 49 = .ok (.iload_n 2, 1) := by decide +kernel
theorem dd_M_isWord_50 : decode prog_9_method_8_code 50 = .ok (.if_icmp .ge 35, 3) := by decide +kernel
theorem dd_M_isWord_53 : decode prog_9_method_8_code 53 = .ok (.iload 4, 2) := by decide +kernel
theorem dd_M_isWord_55 : decode prog_9_method_8_code 55 = .ok (.ifCond .eq 21, 3) := by decide +kernel
theorem dd_M_isWord_58 : decode prog_9_method_8_code 58 = .ok (.lload_n 0, 1) := by decide +kernel
theorem dd_M_isWord_59 : decode prog_9_method_8_code 59 = .ok (.iload_n 2, 1) := by decide +kernel
theorem dd_M_isWord_60 : decode prog_9_method_8_code 60 = .ok (.iload 5, 2) := by decide +kernel
theorem dd_M_isWord_62 : decode prog_9_method_8_code 62 = .ok (.invokestatic 92, 3) := by decide +kernel
theorem dd_M_isWord_65 : decode prog_9_method_8_code 65 = .ok (.invokestatic 96, 3) := by decide +kernel
theorem dd_M_isWord_68 : decode prog_9_method_8_code 68 = .ok (.iload_n 3, 1) := by decide +kernel
theorem dd_M_isWord_69 : decode prog_9_method_8_code 69 = .ok (.if_icmp .ne 7, 3) := by decide +kernel
theorem dd_M_isWord_72 : decode prog_9_method_8_code 72 = .ok (.iconst 1, 1) := by decide +kernel
theorem dd_M_isWord_73 : decode prog_9_method_8_code 73 = .ok (.goto 4, 3) := by decide +kernel
theorem dd_M_isWord_76 : decode prog_9_method_8_code 76 = .ok (.iconst 0, 1) := by decide +kernel
theorem dd_M_isWord_77 : decode prog_9_method_8_code 77 = .ok (.istore 4, 2) := by decide +kernel
theorem dd_M_isWord_79 : decode prog_9_method_8_code 79 = .ok (.iinc 5 1, 3) := by decide +kernel
theorem dd_M_isWord_82 : decode prog_9_method_8_code 82 = .ok (.goto (-35), 3) := by decide +kernel
theorem dd_M_isWord_85 : decode prog_9_method_8_code 85 = .ok (.iload 4, 2) := by decide +kernel
theorem dd_M_isWord_87 : decode prog_9_method_8_code 87 = .ok (.ireturn, 1) := by decide +kernel
theorem dd_M_isKeyWord_0 : decode prog_9_method_9_code 0 = .ok (.iconst 0, 1) := by decide +kernel
theorem dd_M_isKeyWord_1 : decode prog_9_method_9_code 1 = .ok (.istore_n 3, 1) := by decide +kernel
theorem dd_M_isKeyWord_2 : decode prog_9_method_9_code 2 = .ok (.iconst 0, 1) := by decide +kernel
theorem dd_M_isKeyWord_3 : decode prog_9_method_9_code 3 = .ok (.istore 4, 2) := by decide +kernel
theorem dd_M_isKeyWord_5 : decode prog_9_method_9_code 5 = .ok (.iload 4, 2) := by decide +kernel
theorem dd_M_isKeyWord_7 : decode prog_9_method_9_code 7 = .ok (.aload_n 0, 1) := by decide +kernel
theorem dd_M_isKeyWord_8 : decode prog_9_method_9_code 8 = .ok (.getfield 100, 3) := by decide +kernel
theorem dd_M_isKeyWord_11 : decode prog_9_method_9_code 11 = .ok (.if_icmp .ge 75, 3) := by decide +kernel
theorem dd_M_isKeyWord_14 : decode prog_9_method_9_code 14 = .ok (.iconst 0, 1) := by decide +kernel
theorem dd_M_isKeyWord_15 : decode prog_9_method_9_code 15 = .ok (.istore 5, 2) := by decide +kernel
theorem dd_M_isKeyWord_17 : decode prog_9_method_9_code 17 = .ok (.iload 5, 2) := by decide +kernel
theorem dd_M_isKeyWord_19 : decode prog_9_method_9_code 19 = .ok (.aload_n 0, 1) := by decide +kernel
theorem dd_M_isKeyWord_20 : decode prog_9_method_9_code 20 = .ok (.getfield 17, 3) := by decide +kernel
theorem dd_M_isKeyWord_23 : decode prog_9_method_9_code 23 = .ok (.iload 4, 2) := by decide +kernel
theorem dd_M_isKeyWord_25 : decode prog_9_method_9_code 25 = .ok (.iaload, 1) := by decide +kernel
theorem dd_M_isKeyWord_26 : decode prog_9_method_9_code 26 = .ok (.if_icmp .ge 54, 3) := by decide +kernel
theorem dd_M_isKeyWord_29 : decode prog_9_method_9_code 29 = .ok (.iload_n 3, 1) := by decide +kernel
theorem dd_M_isKeyWord_30 : decode prog_9_method_9_code 30 = .ok (.ifCond .ne 38, 3) := by decide +kernel
theorem dd_M_isKeyWord_33 : decode prog_9_method_9_code 33 = .ok (.aload_n 0, 1) := by decide +kernel
theorem dd_M_isKeyWord_34 : decode prog_9_method_9_code 34 = .ok (.getfield 7, 3) := by decide +kernel
theorem dd_M_isKeyWord_37 : decode prog_9_method_9_code 37 = .ok (.bipush 7, 2) := by decide +kernel
theorem dd_M_isKeyWord_39 : decode prog_9_method_9_code 39 = .ok (.iload 4, 2) := by decide +kernel
theorem dd_M_isKeyWord_41 : decode prog_9_method_9_code 41 = .ok (.imul, 1) := by decide +kernel
theorem dd_M_isKeyWord_42 : decode prog_9_method_9_code 42 = .ok (.iload 5, 2) := by decide +kernel
theorem dd_M_isKeyWord_44 : decode prog_9_method_9_code 44 = .ok (.iadd, 1) := by decide +kernel
theorem dd_M_isKeyWord_45 : decode prog_9_method_9_code 45 = .ok (.iaload, 1) := by decide +kernel
theorem dd_M_isKeyWord_46 : decode prog_9_method_9_code 46 = .ok (.iconst (-1), 1) := by decide +kernel
theorem dd_M_isKeyWord_47 : decode prog_9_method_9_code 47 = .ok (.if_icmp .ne 25, 3) := by decide +kernel
theorem dd_M_isKeyWord_50 : decode prog_9_method_9_code 50 = .ok (.aload_n 0, 1) := by decide +kernel
theorem dd_M_isKeyWord_51 : decode prog_9_method_9_code 51 = .ok (.getfield 13, 3) := by decide +kernel
theorem dd_M_isKeyWord_54 : decode prog_9_method_9_code 54 = .ok (.bipush 7, 2) := by decide +kernel
theorem dd_M_isKeyWord_56 : decode prog_9_method_9_code 56 = .ok (.iload 4, 2) := by decide +kernel
theorem dd_M_isKeyWord_58 : decode prog_9_method_9_code 58 = .ok (.imul, 1) := by decide +kernel
theorem dd_M_isKeyWord_59 : decode prog_9_method_9_code 59 = .ok (.iload 5, 2) := by decide +kernel
theorem dd_M_isKeyWord_61 : decode prog_9_method_9_code 61 = .ok (.iadd, 1) := by decide +kernel
theorem dd_M_isKeyWord_62 : decode prog_9_method_9_code 62 = .ok (.laload, 1) := by decide +kernel
theorem dd_M_isKeyWord_63 : decode prog_9_method_9_code 63 = .ok (.lload_n 1, 1) := by decide +kernel
theorem dd_M_isKeyWord_64 : decode prog_9_method_9_code 64 = .ok (.lcmp, 1) := by decide +kernel
theorem dd_M_isKeyWord_65 : decode prog_9_method_9_code 65 = .ok (.ifCond .ne 7, 3) := by decide +kernel
theorem dd_M_isKeyWord_68 : decode prog_9_method_9_code 68 = .ok (.iconst 1, 1) := by decide +kernel
theorem dd_M_isKeyWord_69 : decode prog_9_method_9_code 69 = .ok (.goto 4, 3) := by decide +kernel
theorem dd_M_isKeyWord_72 : decode prog_9_method_9_code 72 = .ok (.iconst 0, 1) := by decide +kernel
theorem dd_M_isKeyWord_73 : decode prog_9_method_9_code 73 = .ok (.istore_n 3, 1) := by decide +kernel
theorem dd_M_isKeyWord_74 : decode prog_9_method_9_code 74 = .ok (.iinc 5 1, 3) := by decide +kernel
theorem dd_M_isKeyWord_77 : decode prog_9_method_9_code 77 = .ok (.goto (-60), 3) := by decide +kernel
theorem dd_M_isKeyWord_80 : decode prog_9_method_9_code 80 = .ok (.iinc 4 1, 3) := by decide +kernel
theorem dd_M_isKeyWord_83 : decode prog_9_method_9_code 83 = .ok (.goto (-78), 3) := by decide +kernel
theorem dd_M_isKeyWord_86 : decode prog_9_method_9_code 86 = .ok (.iload_n 3, 1) := by decide +kernel
theorem dd_M_isKeyWord_87 : decode prog_9_method_9_code 87 = .ok (.ireturn, 1) := by decide +kernel
theorem dd_M_part_0 : decode prog_9_method_10_code 0 = .ok (.aload_n 0, 1) := by decide +kernel
theorem dd_M_part_1 : decode prog_9_method_10_code 1 = .ok (.getfield 7, 3) := by decide +kernel
theorem dd_M_part_4 : decode prog_9_method_10_code 4 = .ok (.bipush 84, 2) := by decide +kernel
theorem dd_M_part_6 : decode prog_9_method_10_code 6 = .ok (.aload_n 0, 1) := by decide +kernel
theorem dd_M_part_7 : decode prog_9_method_10_code 7 = .ok (.getfield 103, 3) := by decide +kernel
theorem dd_M_part_10 : decode prog_9_method_10_code 10 = .ok (.iadd, 1) := by decide +kernel
theorem dd_M_part_11 : decode prog_9_method_10_code 11 = .ok (.iload_n 1, 1) := by decide +kernel
theorem dd_M_part_12 : decode prog_9_method_10_code 12 = .ok (.iastore, 1) := by decide +kernel
theorem dd_M_part_13 : decode prog_9_method_10_code 13 = .ok (.aload_n 0, 1) := by decide +kernel
theorem dd_M_part_14 : decode prog_9_method_10_code 14 = .ok (.getfield 13, 3) := by decide +kernel
theorem dd_M_part_17 : decode prog_9_method_10_code 17 = .ok (.bipush 84, 2) := by decide +kernel
theorem dd_M_part_19 : decode prog_9_method_10_code 19 = .ok (.aload_n 0, 1) := by decide +kernel
theorem dd_M_part_20 : decode prog_9_method_10_code 20 = .ok (.getfield 103, 3) := by decide +kernel
theorem dd_M_part_23 : decode prog_9_method_10_code 23 = .ok (.iadd, 1) := by decide +kernel
theorem dd_M_part_24 : decode prog_9_method_10_code 24 = .ok (.lload_n 2, 1) := by decide +kernel
theorem dd_M_part_25 : decode prog_9_method_10_code 25 = .ok (.lastore, 1) := by decide +kernel
theorem dd_M_part_26 : decode prog_9_method_10_code 26 = .ok (.aload_n 0, 1) := by decide +kernel
theorem dd_M_part_27 : decode prog_9_method_10_code 27 = .ok (.dup, 1) := by decide +kernel
theorem dd_M_part_28 : decode prog_9_method_10_code 28 = .ok (.getfield 103, 3) := by decide +kernel
theorem dd_M_part_31 : decode prog_9_method_10_code 31 = .ok (.iconst 1, 1) := by decide +kernel
theorem dd_M_part_32 : decode prog_9_method_10_code 32 = .ok (.iadd, 1) := by decide +kernel
theorem dd_M_part_33 : decode prog_9_method_10_code 33 = .ok (.putfield 103, 3) := by decide +kernel
theorem dd_M_part_36 : decode prog_9_method_10_code 36 = .ok (.aload_n 0, 1) := by decide +kernel
theorem dd_M_part_37 : decode prog_9_method_10_code 37 = .ok (.getfield 103, 3) := by decide +kernel
theorem dd_M_part_40 : decode prog_9_method_10_code 40 = .ok (.ireturn, 1) := by decide +kernel
theorem dd_M_hole_0 : decode prog_9_method_11_code 0 = .ok (.aload_n 0, 1) := by decide +kernel
theorem dd_M_hole_1 : decode prog_9_method_11_code 1 = .ok (.getfield 103, 3) := by decide +kernel
theorem dd_M_hole_4 : decode prog_9_method_11_code 4 = .ok (.ifCond .le 25, 3) := by decide +kernel
theorem dd_M_hole_7 : decode prog_9_method_11_code 7 = .ok (.aload_n 0, 1) := by decide +kernel
theorem dd_M_hole_8 : decode prog_9_method_11_code 8 = .ok (.getfield 7, 3) := by decide +kernel
theorem dd_M_hole_11 : decode prog_9_method_11_code 11 = .ok (.bipush 84, 2) := by decide +kernel
theorem dd_M_hole_13 : decode prog_9_method_11_code 13 = .ok (.aload_n 0, 1) := by decide +kernel
theorem dd_M_hole_14 : decode prog_9_method_11_code 14 = .ok (.getfield 103, 3) := by decide +kernel
theorem dd_M_hole_17 : decode prog_9_method_11_code 17 = .ok (.iadd, 1) := by decide +kernel
theorem dd_M_hole_18 : decode prog_9_method_11_code 18 = .ok (.iconst 1, 1) := by decide +kernel
theorem dd_M_hole_19 : decode prog_9_method_11_code 19 = .ok (.isub, 1) := by decide +kernel
theorem dd_M_hole_20 : decode prog_9_method_11_code 20 = .ok (.iaload, 1) := by decide +kernel
theorem dd_M_hole_21 : decode prog_9_method_11_code 21 = .ok (.iconst (-1), 1) := by decide +kernel
theorem dd_M_hole_22 : decode prog_9_method_11_code 22 = .ok (.if_icmp .eq 7, 3) := by decide +kernel
theorem dd_M_hole_25 : decode prog_9_method_11_code 25 = .ok (.iconst 1, 1) := by decide +kernel
theorem dd_M_hole_26 : decode prog_9_method_11_code 26 = .ok (.goto 4, 3) := by decide +kernel
theorem dd_M_hole_29 : decode prog_9_method_11_code 29 = .ok (.iconst 0, 1) := by decide +kernel
theorem dd_M_hole_30 : decode prog_9_method_11_code 30 = .ok (.istore_n 2, 1) := by decide +kernel
theorem dd_M_hole_31 : decode prog_9_method_11_code 31 = .ok (.aload_n 0, 1) := by decide +kernel
theorem dd_M_hole_32 : decode prog_9_method_11_code 32 = .ok (.iload_n 1, 1) := by decide +kernel
theorem dd_M_hole_33 : decode prog_9_method_11_code 33 = .ok (.ifCond .lt 13, 3) := by decide +kernel
theorem dd_M_hole_36 : decode prog_9_method_11_code 36 = .ok (.iload_n 1, 1) := by decide +kernel
theorem dd_M_hole_37 : decode prog_9_method_11_code 37 = .ok (.bipush 10, 2) := by decide +kernel
theorem dd_M_hole_39 : decode prog_9_method_11_code 39 = .ok (.if_icmp .gt 7, 3) := by decide +kernel
theorem dd_M_hole_42 : decode prog_9_method_11_code 42 = .ok (.iload_n 2, 1) := by decide +kernel
theorem dd_M_hole_43 : decode prog_9_method_11_code 43 = .ok (.ifCond .eq 7, 3) := by decide +kernel
theorem dd_M_hole_46 : decode prog_9_method_11_code 46 = .ok (.iconst 1, 1) := by decide +kernel
theorem dd_M_hole_47 : decode prog_9_method_11_code 47 = .ok (.goto 17, 3) := by decide +kernel
theorem dd_M_hole_50 : decode prog_9_method_11_code 50 = .ok (.aload_n 0, 1) := by decide +kernel
theorem dd_M_hole_51 : decode prog_9_method_11_code 51 = .ok (.getfield 103, 3) := by decide +kernel
theorem dd_M_hole_54 : decode prog_9_method_11_code 54 = .ok (.bipush 6, 2) := by decide +kernel
theorem dd_M_hole_56 : decode prog_9_method_11_code 56 = .ok (.if_icmp .ne 7, 3) := by decide +kernel
theorem dd_M_hole_59 : decode prog_9_method_11_code 59 = .ok (.iconst 2, 1) := by decide +kernel
theorem dd_M_hole_60 : decode prog_9_method_11_code 60 = .ok (.goto 4, 3) := by decide +kernel
theorem dd_M_hole_63 : decode prog_9_method_11_code 63 = .ok (.iconst 0, 1) := by decide +kernel
theorem dd_M_hole_64 : decode prog_9_method_11_code 64 = .ok (.putfield 80, 3) := by decide +kernel
theorem dd_M_hole_67 : decode prog_9_method_11_code 67 = .ok (.aload_n 0, 1) := by decide +kernel
theorem dd_M_hole_68 : decode prog_9_method_11_code 68 = .ok (.getfield 80, 3) := by decide +kernel
theorem dd_M_hole_71 : decode prog_9_method_11_code 71 = .ok (.ifCond .le 7, 3) := by decide +kernel
theorem dd_M_hole_74 : decode prog_9_method_11_code 74 = .ok (.iconst 0, 1) := by decide +kernel
theorem dd_M_hole_75 : decode prog_9_method_11_code 75 = .ok (.goto 9, 3) := by decide +kernel
theorem dd_M_hole_78 : decode prog_9_method_11_code 78 = .ok (.aload_n 0, 1) := by decide +kernel
theorem dd_M_hole_79 : decode prog_9_method_11_code 79 = .ok (.iload_n 1, 1) := by decide +kernel
theorem dd_M_hole_80 : decode prog_9_method_11_code 80 = .ok (.lconst 0, 1) := by decide +kernel
theorem dd_M_hole_81 : decode prog_9_method_11_code 81 = .ok (.invokevirtual 106, 3) := by decide +kernel
theorem dd_M_hole_84 : decode prog_9_method_11_code 84 = .ok (.ireturn, 1) := by decide +kernel
theorem dd_M_word_0 : decode prog_9_method_12_code 0 = .ok (.lload_n 1, 1) := by decide +kernel
theorem dd_M_word_1 : decode prog_9_method_12_code 1 = .ok (.iload_n 3, 1) := by decide +kernel
theorem dd_M_word_2 : decode prog_9_method_12_code 2 = .ok (.invokestatic 110, 3) := by decide +kernel
theorem dd_M_word_5 : decode prog_9_method_12_code 5 = .ok (.ifCond .eq 31, 3) := by decide +kernel
theorem dd_M_word_8 : decode prog_9_method_12_code 8 = .ok (.lload_n 1, 1) := by decide +kernel
theorem dd_M_word_9 : decode prog_9_method_12_code 9 = .ok (.iload_n 3, 1) := by decide +kernel
theorem dd_M_word_10 : decode prog_9_method_12_code 10 = .ok (.invokestatic 114, 3) := by decide +kernel
theorem dd_M_word_13 : decode prog_9_method_12_code 13 = .ok (.ldc2_w 118, 3) := by decide +kernel
theorem dd_M_word_16 : decode prog_9_method_12_code 16 = .ok (.lcmp, 1) := by decide +kernel
theorem dd_M_word_17 : decode prog_9_method_12_code 17 = .ok (.ifCond .eq 19, 3) := by decide +kernel
theorem dd_M_word_20 : decode prog_9_method_12_code 20 = .ok (.lload_n 1, 1) := by decide +kernel
theorem dd_M_word_21 : decode prog_9_method_12_code 21 = .ok (.iload_n 3, 1) := by decide +kernel
theorem dd_M_word_22 : decode prog_9_method_12_code 22 = .ok (.invokestatic 114, 3) := by decide +kernel
theorem dd_M_word_25 : decode prog_9_method_12_code 25 = .ok (.ldc2_w 120, 3) := by decide +kernel
theorem dd_M_word_28 : decode prog_9_method_12_code 28 = .ok (.lcmp, 1) := by decide +kernel
theorem dd_M_word_29 : decode prog_9_method_12_code 29 = .ok (.ifCond .eq 7, 3) := by decide +kernel
theorem dd_M_word_32 : decode prog_9_method_12_code 32 = .ok (.iconst 1, 1) := by decide +kernel
theorem dd_M_word_33 : decode prog_9_method_12_code 33 = .ok (.goto 4, 3) := by decide +kernel
theorem dd_M_word_36 : decode prog_9_method_12_code 36 = .ok (.iconst 0, 1) := by decide +kernel
theorem dd_M_word_37 : decode prog_9_method_12_code 37 = .ok (.istore 4, 2) := by decide +kernel
theorem dd_M_word_39 : decode prog_9_method_12_code 39 = .ok (.aload_n 0, 1) := by decide +kernel
theorem dd_M_word_40 : decode prog_9_method_12_code 40 = .ok (.iload 4, 2) := by decide +kernel
theorem dd_M_word_42 : decode prog_9_method_12_code 42 = .ok (.ifCond .ne 7, 3) := by decide +kernel
theorem dd_M_word_45 : decode prog_9_method_12_code 45 = .ok (.iconst 1, 1) := by decide +kernel
theorem dd_M_word_46 : decode prog_9_method_12_code 46 = .ok (.goto 17, 3) := by decide +kernel
theorem dd_M_word_49 : decode prog_9_method_12_code 49 = .ok (.aload_n 0, 1) := by decide +kernel
theorem dd_M_word_50 : decode prog_9_method_12_code 50 = .ok (.getfield 103, 3) := by decide +kernel
theorem dd_M_word_53 : decode prog_9_method_12_code 53 = .ok (.bipush 6, 2) := by decide +kernel
theorem dd_M_word_55 : decode prog_9_method_12_code 55 = .ok (.if_icmp .ne 7, 3) := by decide +kernel
theorem dd_M_word_58 : decode prog_9_method_12_code 58 = .ok (.iconst 2, 1) := by decide +kernel
theorem dd_M_word_59 : decode prog_9_method_12_code 59 = .ok (.goto 4, 3) := by decide +kernel
theorem dd_M_word_62 : decode prog_9_method_12_code 62 = .ok (.iconst 0, 1) := by decide +kernel
theorem dd_M_word_63 : decode prog_9_method_12_code 63 = .ok (.putfield 80, 3) := by decide +kernel
theorem dd_M_word_66 : decode prog_9_method_12_code 66 = .ok (.aload_n 0, 1) := by decide +kernel
theorem dd_M_word_67 : decode prog_9_method_12_code 67 = .ok (.getfield 80, 3) := by decide +kernel
theorem dd_M_word_70 : decode prog_9_method_12_code 70 = .ok (.ifCond .le 7, 3) := by decide +kernel
theorem dd_M_word_73 : decode prog_9_method_12_code 73 = .ok (.iconst 0, 1) := by decide +kernel
theorem dd_M_word_74 : decode prog_9_method_12_code 74 = .ok (.goto 13, 3) := by decide +kernel
theorem dd_M_word_77 : decode prog_9_method_12_code 77 = .ok (.aload_n 0, 1) := by decide +kernel
theorem dd_M_word_78 : decode prog_9_method_12_code 78 = .ok (.iconst (-1), 1) := by decide +kernel
theorem dd_M_word_79 : decode prog_9_method_12_code 79 = .ok (.lload_n 1, 1) := by decide +kernel
theorem dd_M_word_80 : decode prog_9_method_12_code 80 = .ok (.iload_n 3, 1) := by decide +kernel
theorem dd_M_word_81 : decode prog_9_method_12_code 81 = .ok (.invokestatic 114, 3) := by decide +kernel
theorem dd_M_word_84 : decode prog_9_method_12_code 84 = .ok (.invokevirtual 106, 3) := by decide +kernel
theorem dd_M_word_87 : decode prog_9_method_12_code 87 = .ok (.ireturn, 1) := by decide +kernel
theorem dd_M_notation_0 : decode prog_9_method_13_code 0 = .ok (.iconst 0, 1) := by decide +kernel
theorem dd_M_notation_1 : decode prog_9_method_13_code 1 = .ok (.istore_n 2, 1) := by decide +kernel
theorem dd_M_notation_2 : decode prog_9_method_13_code 2 = .ok (.iconst 0, 1) := by decide +kernel
theorem dd_M_notation_3 : decode prog_9_method_13_code 3 = .ok (.istore_n 3, 1) := by decide +kernel
theorem dd_M_notation_4 : decode prog_9_method_13_code 4 = .ok (.iload_n 3, 1) := by decide +kernel
theorem dd_M_notation_5 : decode prog_9_method_13_code 5 = .ok (.aload_n 0, 1) := by decide +kernel
theorem dd_M_notation_6 : decode prog_9_method_13_code 6 = .ok (.getfield 103, 3) := by decide +kernel
theorem dd_M_notation_9 : decode prog_9_method_13_code 9 = .ok (.if_icmp .ge 32, 3) := by decide +kernel
theorem dd_M_notation_12 : decode prog_9_method_13_code 12 = .ok (.iload_n 2, 1) := by decide +kernel
theorem dd_M_notation_13 : decode prog_9_method_13_code 13 = .ok (.ifCond .ne 16, 3) := by decide +kernel
theorem dd_M_notation_16 : decode prog_9_method_13_code 16 = .ok (.aload_n 0, 1) := by decide +kernel
theorem dd_M_notation_17 : decode prog_9_method_13_code 17 = .ok (.getfield 7, 3) := by decide +kernel
theorem dd_M_notation_20 : decode prog_9_method_13_code 20 = .ok (.bipush 84, 2) := by decide +kernel
theorem dd_M_notation_22 : decode prog_9_method_13_code 22 = .ok (.iload_n 3, 1) := by decide +kernel
theorem dd_M_notation_23 : decode prog_9_method_13_code 23 = .ok (.iadd, 1) := by decide +kernel
theorem dd_M_notation_24 : decode prog_9_method_13_code 24 = .ok (.iaload, 1) := by decide +kernel
theorem dd_M_notation_25 : decode prog_9_method_13_code 25 = .ok (.iconst (-1), 1) := by decide +kernel
theorem dd_M_notation_26 : decode prog_9_method_13_code 26 = .ok (.if_icmp .ne 7, 3) := by decide +kernel
theorem dd_M_notation_29 : decode prog_9_method_13_code 29 = .ok (.iconst 1, 1) := by decide +kernel
theorem dd_M_notation_30 : decode prog_9_method_13_code 30 = .ok (.goto 4, 3) := by decide +kernel
theorem dd_M_notation_33 : decode prog_9_method_13_code 33 = .ok (.iconst 0, 1) := by decide +kernel
theorem dd_M_notation_34 : decode prog_9_method_13_code 34 = .ok (.istore_n 2, 1) := by decide +kernel
theorem dd_M_notation_35 : decode prog_9_method_13_code 35 = .ok (.iinc 3 1, 3) := by decide +kernel
theorem dd_M_notation_38 : decode prog_9_method_13_code 38 = .ok (.goto (-34), 3) := by decide +kernel
theorem dd_M_notation_41 : decode prog_9_method_13_code 41 = .ok (.aload_n 0, 1) := by decide +kernel
theorem dd_M_notation_42 : decode prog_9_method_13_code 42 = .ok (.iload_n 1, 1) := by decide +kernel
theorem dd_M_notation_43 : decode prog_9_method_13_code 43 = .ok (.ifCond .lt 13, 3) := by decide +kernel
theorem dd_M_notation_46 : decode prog_9_method_13_code 46 = .ok (.iload_n 1, 1) := by decide +kernel
theorem dd_M_notation_47 : decode prog_9_method_13_code 47 = .ok (.bipush 9, 2) := by decide +kernel
theorem dd_M_notation_49 : decode prog_9_method_13_code 49 = .ok (.if_icmp .gt 7, 3) := by decide +kernel
theorem dd_M_notation_52 : decode prog_9_method_13_code 52 = .ok (.iload_n 2, 1) := by decide +kernel
theorem dd_M_notation_53 : decode prog_9_method_13_code 53 = .ok (.ifCond .ne 7, 3) := by decide +kernel
theorem dd_M_notation_56 : decode prog_9_method_13_code 56 = .ok (.iconst 1, 1) := by decide +kernel
theorem dd_M_notation_57 : decode prog_9_method_13_code 57 = .ok (.goto 17, 3) := by decide +kernel
theorem dd_M_notation_60 : decode prog_9_method_13_code 60 = .ok (.aload_n 0, 1) := by decide +kernel
theorem dd_M_notation_61 : decode prog_9_method_13_code 61 = .ok (.getfield 100, 3) := by decide +kernel
theorem dd_M_notation_64 : decode prog_9_method_13_code 64 = .ok (.bipush 12, 2) := by decide +kernel
theorem dd_M_notation_66 : decode prog_9_method_13_code 66 = .ok (.if_icmp .ne 7, 3) := by decide +kernel
theorem dd_M_notation_69 : decode prog_9_method_13_code 69 = .ok (.iconst 2, 1) := by decide +kernel
theorem dd_M_notation_70 : decode prog_9_method_13_code 70 = .ok (.goto 4, 3) := by decide +kernel
theorem dd_M_notation_73 : decode prog_9_method_13_code 73 = .ok (.iconst 0, 1) := by decide +kernel
theorem dd_M_notation_74 : decode prog_9_method_13_code 74 = .ok (.putfield 80, 3) := by decide +kernel
theorem dd_M_notation_77 : decode prog_9_method_13_code 77 = .ok (.aload_n 0, 1) := by decide +kernel
theorem dd_M_notation_78 : decode prog_9_method_13_code 78 = .ok (.getfield 80, 3) := by decide +kernel
theorem dd_M_notation_81 : decode prog_9_method_13_code 81 = .ok (.iconst 1, 1) := by decide +kernel
theorem dd_M_notation_82 : decode prog_9_method_13_code 82 = .ok (.if_icmp .ne 8, 3) := by decide +kernel
theorem dd_M_notation_85 : decode prog_9_method_13_code 85 = .ok (.aload_n 0, 1) := by decide +kernel
theorem dd_M_notation_86 : decode prog_9_method_13_code 86 = .ok (.iconst 0, 1) := by decide +kernel
theorem dd_M_notation_87 : decode prog_9_method_13_code 87 = .ok (.putfield 103, 3) := by decide +kernel
theorem dd_M_notation_90 : decode prog_9_method_13_code 90 = .ok (.aload_n 0, 1) := by decide +kernel
theorem dd_M_notation_91 : decode prog_9_method_13_code 91 = .ok (.getfield 80, 3) := by decide +kernel
theorem dd_M_notation_94 : decode prog_9_method_13_code 94 = .ok (.ifCond .le 5, 3) := by decide +kernel
theorem dd_M_notation_97 : decode prog_9_method_13_code 97 = .ok (.iconst 0, 1) := by decide +kernel
theorem dd_M_notation_98 : decode prog_9_method_13_code 98 = .ok (.ireturn, 1) := by decide +kernel
theorem dd_M_notation_99 : decode prog_9_method_13_code 99 = .ok (.iconst 0, 1) := by decide +kernel
theorem dd_M_notation_100 : decode prog_9_method_13_code 100 = .ok (.istore_n 3, 1) := by decide +kernel
theorem dd_M_notation_101 : decode prog_9_method_13_code 101 = .ok (.iload_n 3, 1) := by decide +kernel
theorem dd_M_notation_102 : decode prog_9_method_13_code 102 = .ok (.aload_n 0, 1) := by decide +kernel
theorem dd_M_notation_103 : decode prog_9_method_13_code 103 = .ok (.getfield 103, 3) := by decide +kernel
theorem dd_M_notation_106 : decode prog_9_method_13_code 106 = .ok (.if_icmp .ge 55, 3) := by decide +kernel
theorem dd_M_notation_109 : decode prog_9_method_13_code 109 = .ok (.aload_n 0, 1) := by decide +kernel
theorem dd_M_notation_110 : decode prog_9_method_13_code 110 = .ok (.getfield 7, 3) := by decide +kernel
theorem dd_M_notation_113 : decode prog_9_method_13_code 113 = .ok (.bipush 7, 2) := by decide +kernel
theorem dd_M_notation_115 : decode prog_9_method_13_code 115 = .ok (.aload_n 0, 1) := by decide +kernel
theorem dd_M_notation_116 : decode prog_9_method_13_code 116 = .ok (.getfield 100, 3) := by decide +kernel
theorem dd_M_notation_119 : decode prog_9_method_13_code 119 = .ok (.imul, 1) := by decide +kernel
theorem dd_M_notation_120 : decode prog_9_method_13_code 120 = .ok (.iload_n 3, 1) := by decide +kernel
theorem dd_M_notation_121 : decode prog_9_method_13_code 121 = .ok (.iadd, 1) := by decide +kernel
theorem dd_M_notation_122 : decode prog_9_method_13_code 122 = .ok (.aload_n 0, 1) := by decide +kernel
theorem dd_M_notation_123 : decode prog_9_method_13_code 123 = .ok (.getfield 7, 3) := by decide +kernel
theorem dd_M_notation_126 : decode prog_9_method_13_code 126 = .ok (.bipush 84, 2) := by decide +kernel
theorem dd_M_notation_128 : decode prog_9_method_13_code 128 = .ok (.iload_n 3, 1) := by decide +kernel
theorem dd_M_notation_129 : decode prog_9_method_13_code 129 = .ok (.iadd, 1) := by decide +kernel
theorem dd_M_notation_130 : decode prog_9_method_13_code 130 = .ok (.iaload, 1) := by decide +kernel
theorem dd_M_notation_131 : decode prog_9_method_13_code 131 = .ok (.iastore, 1) := by decide +kernel
theorem dd_M_notation_132 : decode prog_9_method_13_code 132 = .ok (.aload_n 0, 1) := by decide +kernel
theorem dd_M_notation_133 : decode prog_9_method_13_code 133 = .ok (.getfield 13, 3) := by decide +kernel
theorem dd_M_notation_136 : decode prog_9_method_13_code 136 = .ok (.bipush 7, 2) := by decide +kernel
theorem dd_M_notation_138 : decode prog_9_method_13_code 138 = .ok (.aload_n 0, 1) := by decide +kernel
theorem dd_M_notation_139 : decode prog_9_method_13_code 139 = .ok (.getfield 100, 3) := by decide +kernel
theorem dd_M_notation_142 : decode prog_9_method_13_code 142 = .ok (.imul, 1) := by decide +kernel
theorem dd_M_notation_143 : decode prog_9_method_13_code 143 = .ok (.iload_n 3, 1) := by decide +kernel
theorem dd_M_notation_144 : decode prog_9_method_13_code 144 = .ok (.iadd, 1) := by decide +kernel
theorem dd_M_notation_145 : decode prog_9_method_13_code 145 = .ok (.aload_n 0, 1) := by decide +kernel
theorem dd_M_notation_146 : decode prog_9_method_13_code 146 = .ok (.getfield 13, 3) := by decide +kernel
theorem dd_M_notation_149 : decode prog_9_method_13_code 149 = .ok (.bipush 84, 2) := by decide +kernel
theorem dd_M_notation_151 : decode prog_9_method_13_code 151 = .ok (.iload_n 3, 1) := by decide +kernel
theorem dd_M_notation_152 : decode prog_9_method_13_code 152 = .ok (.iadd, 1) := by decide +kernel
theorem dd_M_notation_153 : decode prog_9_method_13_code 153 = .ok (.laload, 1) := by decide +kernel
theorem dd_M_notation_154 : decode prog_9_method_13_code 154 = .ok (.lastore, 1) := by decide +kernel
theorem dd_M_notation_155 : decode prog_9_method_13_code 155 = .ok (.iinc 3 1, 3) := by decide +kernel
theorem dd_M_notation_158 : decode prog_9_method_13_code 158 = .ok (.goto (-57), 3) := by decide +kernel
theorem dd_M_notation_161 : decode prog_9_method_13_code 161 = .ok (.aload_n 0, 1) := by decide +kernel
theorem dd_M_notation_162 : decode prog_9_method_13_code 162 = .ok (.getfield 17, 3) := by decide +kernel
theorem dd_M_notation_165 : decode prog_9_method_13_code 165 = .ok (.aload_n 0, 1) := by decide +kernel
theorem dd_M_notation_166 : decode prog_9_method_13_code 166 = .ok (.getfield 100, 3) := by decide +kernel
theorem dd_M_notation_169 : decode prog_9_method_13_code 169 = .ok (.aload_n 0, 1) := by decide +kernel
theorem dd_M_notation_170 : decode prog_9_method_13_code 170 = .ok (.getfield 103, 3) := by decide +kernel
theorem dd_M_notation_173 : decode prog_9_method_13_code 173 = .ok (.iastore, 1) := by decide +kernel
theorem dd_M_notation_174 : decode prog_9_method_13_code 174 = .ok (.aload_n 0, 1) := by decide +kernel
theorem dd_M_notation_175 : decode prog_9_method_13_code 175 = .ok (.getfield 20, 3) := by decide +kernel
theorem dd_M_notation_178 : decode prog_9_method_13_code 178 = .ok (.aload_n 0, 1) := by decide +kernel
theorem dd_M_notation_179 : decode prog_9_method_13_code 179 = .ok (.getfield 100, 3) := by decide +kernel
theorem dd_M_notation_182 : decode prog_9_method_13_code 182 = .ok (.iload_n 1, 1) := by decide +kernel
theorem dd_M_notation_183 : decode prog_9_method_13_code 183 = .ok (.iastore, 1) := by decide +kernel
theorem dd_M_notation_184 : decode prog_9_method_13_code 184 = .ok (.aload_n 0, 1) := by decide +kernel
theorem dd_M_notation_185 : decode prog_9_method_13_code 185 = .ok (.dup, 1) := by decide +kernel
theorem dd_M_notation_186 : decode prog_9_method_13_code 186 = .ok (.getfield 100, 3) := by decide +kernel
theorem dd_M_notation_189 : decode prog_9_method_13_code 189 = .ok (.iconst 1, 1) := by decide +kernel
theorem dd_M_notation_190 : decode prog_9_method_13_code 190 = .ok (.iadd, 1) := by decide +kernel
theorem dd_M_notation_191 : decode prog_9_method_13_code 191 = .ok (.putfield 100, 3) := by decide +kernel
theorem dd_M_notation_194 : decode prog_9_method_13_code 194 = .ok (.aload_n 0, 1) := by decide +kernel
theorem dd_M_notation_195 : decode prog_9_method_13_code 195 = .ok (.iconst 0, 1) := by decide +kernel
theorem dd_M_notation_196 : decode prog_9_method_13_code 196 = .ok (.putfield 103, 3) := by decide +kernel
theorem dd_M_notation_199 : decode prog_9_method_13_code 199 = .ok (.aload_n 0, 1) := by decide +kernel
theorem dd_M_notation_200 : decode prog_9_method_13_code 200 = .ok (.iconst 0, 1) := by decide +kernel
theorem dd_M_notation_201 : decode prog_9_method_13_code 201 = .ok (.putfield 122, 3) := by decide +kernel
theorem dd_M_notation_204 : decode prog_9_method_13_code 204 = .ok (.aload_n 0, 1) := by decide +kernel
theorem dd_M_notation_205 : decode prog_9_method_13_code 205 = .ok (.getfield 100, 3) := by decide +kernel
theorem dd_M_notation_208 : decode prog_9_method_13_code 208 = .ok (.iconst 1, 1) := by decide +kernel
theorem dd_M_notation_209 : decode prog_9_method_13_code 209 = .ok (.isub, 1) := by decide +kernel
theorem dd_M_notation_210 : decode prog_9_method_13_code 210 = .ok (.ireturn, 1) := by decide +kernel
theorem dd_M_put_0 : decode prog_9_method_14_code 0 = .ok (.aload_n 0, 1) := by decide +kernel
theorem dd_M_put_1 : decode prog_9_method_14_code 1 = .ok (.iconst 0, 1) := by decide +kernel
theorem dd_M_put_2 : decode prog_9_method_14_code 2 = .ok (.putfield 80, 3) := by decide +kernel
theorem dd_M_put_5 : decode prog_9_method_14_code 5 = .ok (.iload_n 3, 1) := by decide +kernel
theorem dd_M_put_6 : decode prog_9_method_14_code 6 = .ok (.iconst 1, 1) := by decide +kernel
theorem dd_M_put_7 : decode prog_9_method_14_code 7 = .ok (.if_icmp .lt 21, 3) := by decide +kernel
theorem dd_M_put_10 : decode prog_9_method_14_code 10 = .ok (.iload_n 3, 1) := by decide +kernel
theorem dd_M_put_11 : decode prog_9_method_14_code 11 = .ok (.bipush 8, 2) := by decide +kernel
theorem dd_M_put_13 : decode prog_9_method_14_code 13 = .ok (.if_icmp .gt 15, 3) := by decide +kernel
theorem dd_M_put_16 : decode prog_9_method_14_code 16 = .ok (.aload_n 0, 1) := by decide +kernel
theorem dd_M_put_17 : decode prog_9_method_14_code 17 = .ok (.getfield 125, 3) := by decide +kernel
theorem dd_M_put_20 : decode prog_9_method_14_code 20 = .ok (.iload_n 3, 1) := by decide +kernel
theorem dd_M_put_21 : decode prog_9_method_14_code 21 = .ok (.iadd, 1) := by decide +kernel
theorem dd_M_put_22 : decode prog_9_method_14_code 22 = .ok (.sipush 200, 3) := by decide +kernel
theorem dd_M_put_25 : decode prog_9_method_14_code 25 = .ok (.if_icmp .le 5, 3) := by decide +kernel
theorem dd_M_put_28 : decode prog_9_method_14_code 28 = .ok (.iconst 0, 1) := by decide +kernel
theorem dd_M_put_29 : decode prog_9_method_14_code 29 = .ok (.ireturn, 1) := by decide +kernel
theorem dd_M_put_30 : decode prog_9_method_14_code 30 = .ok (.iconst 0, 1) := by decide +kernel
theorem dd_M_put_31 : decode prog_9_method_14_code 31 = .ok (.istore 4, 2) := by decide +kernel
theorem dd_M_put_33 : decode prog_9_method_14_code 33 = .ok (.iload 4, 2) := by decide +kernel
theorem dd_M_put_35 : decode prog_9_method_14_code 35 = .ok (.iload_n 3, 1) := by decide +kernel
theorem dd_M_put_36 : decode prog_9_method_14_code 36 = .ok (.if_icmp .ge 28, 3) := by decide +kernel
theorem dd_M_put_39 : decode prog_9_method_14_code 39 = .ok (.aload_n 0, 1) := by decide +kernel
theorem dd_M_put_40 : decode prog_9_method_14_code 40 = .ok (.getfield 23, 3) := by decide +kernel
theorem dd_M_put_43 : decode prog_9_method_14_code 43 = .ok (.aload_n 0, 1) := by decide +kernel
theorem dd_M_put_44 : decode prog_9_method_14_code 44 = .ok (.getfield 125, 3) := by decide +kernel
theorem dd_M_put_47 : decode prog_9_method_14_code 47 = .ok (.iload 4, 2) := by decide +kernel
theorem dd_M_put_49 : decode prog_9_method_14_code 49 = .ok (.iadd, 1) := by decide +kernel
theorem dd_M_put_50 : decode prog_9_method_14_code 50 = .ok (.lload_n 1, 1) := by decide +kernel
theorem dd_M_put_51 : decode prog_9_method_14_code 51 = .ok (.iload_n 3, 1) := by decide +kernel
theorem dd_M_put_52 : decode prog_9_method_14_code 52 = .ok (.iload 4, 2) := by decide +kernel
theorem dd_M_put_54 : decode prog_9_method_14_code 54 = .ok (.invokestatic 92, 3) := by decide +kernel
theorem dd_M_put_57 : decode prog_9_method_14_code 57 = .ok (.iastore, 1) := by decide +kernel
theorem dd_M_put_58 : decode prog_9_method_14_code 58 = .ok (.iinc 4 1, 3) := by decide +kernel
theorem dd_M_put_61 : decode prog_9_method_14_code 61 = .ok (.goto (-28), 3) := by decide +kernel
theorem dd_M_put_64 : decode prog_9_method_14_code 64 = .ok (.aload_n 0, 1) := by decide +kernel
theorem dd_M_put_65 : decode prog_9_method_14_code 65 = .ok (.dup, 1) := by decide +kernel
theorem dd_M_put_66 : decode prog_9_method_14_code 66 = .ok (.getfield 125, 3) := by decide +kernel
theorem dd_M_put_69 : decode prog_9_method_14_code 69 = .ok (.iload_n 3, 1) := by decide +kernel
theorem dd_M_put_70 : decode prog_9_method_14_code 70 = .ok (.iadd, 1) := by decide +kernel
theorem dd_M_put_71 : decode prog_9_method_14_code 71 = .ok (.putfield 125, 3) := by decide +kernel
theorem dd_M_put_74 : decode prog_9_method_14_code 74 = .ok (.iconst 1, 1) := by decide +kernel
theorem dd_M_put_75 : decode prog_9_method_14_code 75 = .ok (.ireturn, 1) := by decide +kernel
theorem dd_M_clear_0 : decode prog_9_method_15_code 0 = .ok (.aload_n 0, 1) := by decide +kernel
theorem dd_M_clear_1 : decode prog_9_method_15_code 1 = .ok (.iconst 0, 1) := by decide +kernel
theorem dd_M_clear_2 : decode prog_9_method_15_code 2 = .ok (.putfield 80, 3) := by decide +kernel
theorem dd_M_clear_5 : decode prog_9_method_15_code 5 = .ok (.aload_n 0, 1) := by decide +kernel
theorem dd_M_clear_6 : decode prog_9_method_15_code 6 = .ok (.iconst 0, 1) := by decide +kernel
theorem dd_M_clear_7 : decode prog_9_method_15_code 7 = .ok (.putfield 125, 3) := by decide +kernel
theorem dd_M_clear_10 : decode prog_9_method_15_code 10 = .ok (.return_, 1) := by decide +kernel
theorem dd_M_takeWords_0 : decode prog_9_method_16_code 0 = .ok (.aload_n 0, 1) := by decide +kernel
theorem dd_M_takeWords_1 : decode prog_9_method_16_code 1 = .ok (.iconst 0, 1) := by decide +kernel
theorem dd_M_takeWords_2 : decode prog_9_method_16_code 2 = .ok (.putfield 128, 3) := by decide +kernel
theorem dd_M_takeWords_5 : decode prog_9_method_16_code 5 = .ok (.iconst 0, 1) := by decide +kernel
theorem dd_M_takeWords_6 : decode prog_9_method_16_code 6 = .ok (.istore_n 1, 1) := by decide +kernel
theorem dd_M_takeWords_7 : decode prog_9_method_16_code 7 = .ok (.iload_n 1, 1) := by decide +kernel
theorem dd_M_takeWords_8 : decode prog_9_method_16_code 8 = .ok (.aload_n 0, 1) := by decide +kernel
theorem dd_M_takeWords_9 : decode prog_9_method_16_code 9 = .ok (.getfield 125, 3) := by decide +kernel
theorem dd_M_takeWords_12 : decode prog_9_method_16_code 12 = .ok (.if_icmp .ge 170, 3) := by decide +kernel
theorem dd_M_takeWords_15 : decode prog_9_method_16_code 15 = .ok (.aload_n 0, 1) := by decide +kernel
theorem dd_M_takeWords_16 : decode prog_9_method_16_code 16 = .ok (.getfield 23, 3) := by decide +kernel
theorem dd_M_takeWords_19 : decode prog_9_method_16_code 19 = .ok (.iload_n 1, 1) := by decide +kernel
theorem dd_M_takeWords_20 : decode prog_9_method_16_code 20 = .ok (.iaload, 1) := by decide +kernel
theorem dd_M_takeWords_21 : decode prog_9_method_16_code 21 = .ok (.bipush 32, 2) := by decide +kernel
theorem dd_M_takeWords_23 : decode prog_9_method_16_code 23 = .ok (.if_icmp .eq 14, 3) := by decide +kernel
theorem dd_M_takeWords_26 : decode prog_9_method_16_code 26 = .ok (.aload_n 0, 1) := by decide +kernel
theorem dd_M_takeWords_27 : decode prog_9_method_16_code 27 = .ok (.getfield 23, 3) := by decide +kernel
theorem dd_M_takeWords_30 : decode prog_9_method_16_code 30 = .ok (.iload_n 1, 1) := by decide +kernel
theorem dd_M_takeWords_31 : decode prog_9_method_16_code 31 = .ok (.iaload, 1) := by decide +kernel
theorem dd_M_takeWords_32 : decode prog_9_method_16_code 32 = .ok (.bipush 10, 2) := by decide +kernel
theorem dd_M_takeWords_34 : decode prog_9_method_16_code 34 = .ok (.if_icmp .ne 9, 3) := by decide +kernel
theorem dd_M_takeWords_37 : decode prog_9_method_16_code 37 = .ok (.iinc 1 1, 3) := by decide +kernel
theorem dd_M_takeWords_40 : decode prog_9_method_16_code 40 = .ok (.goto (-33), 3) := by decide +kernel
theorem dd_M_takeWords_43 : decode prog_9_method_16_code 43 = .ok (.aload_n 0, 1) := by decide +kernel
theorem dd_M_takeWords_44 : decode prog_9_method_16_code 44 = .ok (.getfield 23, 3) := by decide +kernel
theorem dd_M_takeWords_47 : decode prog_9_method_16_code 47 = .ok (.iload_n 1, 1) := by decide +kernel
theorem dd_M_takeWords_48 : decode prog_9_method_16_code 48 = .ok (.iaload, 1) := by decide +kernel
theorem dd_M_takeWords_49 : decode prog_9_method_16_code 49 = .ok (.invokestatic 96, 3) := by decide +kernel
theorem dd_M_takeWords_52 : decode prog_9_method_16_code 52 = .ok (.istore_n 2, 1) := by decide +kernel
theorem dd_M_takeWords_53 : decode prog_9_method_16_code 53 = .ok (.iload_n 1, 1) := by decide +kernel
theorem dd_M_takeWords_54 : decode prog_9_method_16_code 54 = .ok (.iconst 1, 1) := by decide +kernel
theorem dd_M_takeWords_55 : decode prog_9_method_16_code 55 = .ok (.iadd, 1) := by decide +kernel
theorem dd_M_takeWords_56 : decode prog_9_method_16_code 56 = .ok (.istore_n 3, 1) := by decide +kernel
theorem dd_M_takeWords_57 : decode prog_9_method_16_code 57 = .ok (.iload_n 2, 1) := by decide +kernel
theorem dd_M_takeWords_58 : decode prog_9_method_16_code 58 = .ok (.iconst 4, 1) := by decide +kernel
theorem dd_M_takeWords_59 : decode prog_9_method_16_code 59 = .ok (.if_icmp .ge 30, 3) := by decide +kernel
theorem dd_M_takeWords_62 : decode prog_9_method_16_code 62 = .ok (.iload_n 3, 1) := by decide +kernel
theorem dd_M_takeWords_63 : decode prog_9_method_16_code 63 = .ok (.aload_n 0, 1) := by decide +kernel
theorem dd_M_takeWords_64 : decode prog_9_method_16_code 64 = .ok (.getfield 125, 3) := by decide +kernel
theorem dd_M_takeWords_67 : decode prog_9_method_16_code 67 = .ok (.if_icmp .ge 22, 3) := by decide +kernel
theorem dd_M_takeWords_70 : decode prog_9_method_16_code 70 = .ok (.aload_n 0, 1) := by decide +kernel
theorem dd_M_takeWords_71 : decode prog_9_method_16_code 71 = .ok (.getfield 23, 3) := by decide +kernel
theorem dd_M_takeWords_74 : decode prog_9_method_16_code 74 = .ok (.iload_n 3, 1) := by decide +kernel
theorem dd_M_takeWords_75 : decode prog_9_method_16_code 75 = .ok (.iaload, 1) := by decide +kernel
theorem dd_M_takeWords_76 : decode prog_9_method_16_code 76 = .ok (.invokestatic 96, 3) := by decide +kernel
theorem dd_M_takeWords_79 : decode prog_9_method_16_code 79 = .ok (.iload_n 2, 1) := by decide +kernel
theorem dd_M_takeWords_80 : decode prog_9_method_16_code 80 = .ok (.if_icmp .ne 9, 3) := by decide +kernel
theorem dd_M_takeWords_83 : decode prog_9_method_16_code 83 = .ok (.iinc 3 1, 3) := by decide +kernel
theorem dd_M_takeWords_86 : decode prog_9_method_16_code 86 = .ok (.goto (-29), 3) := by decide +kernel
theorem dd_M_takeWords_89 : decode prog_9_method_16_code 89 = .ok (.iload_n 2, 1) := by decide +kernel
theorem dd_M_takeWords_90 : decode prog_9_method_16_code 90 = .ok (.ifCond .eq 20, 3) := by decide +kernel
theorem dd_M_takeWords_93 : decode prog_9_method_16_code 93 = .ok (.iload_n 3, 1) := by decide +kernel
theorem dd_M_takeWords_94 : decode prog_9_method_16_code 94 = .ok (.iload_n 1, 1) := by decide +kernel
theorem dd_M_takeWords_95 : decode prog_9_method_16_code 95 = .ok (.isub, 1) := by decide +kernel
theorem dd_M_takeWords_96 : decode prog_9_method_16_code 96 = .ok (.bipush 8, 2) := by decide +kernel
theorem dd_M_takeWords_98 : decode prog_9_method_16_code 98 = .ok (.if_icmp .gt 12, 3) := by decide +kernel
theorem dd_M_takeWords_101 : decode prog_9_method_16_code 101 = .ok (.aload_n 0, 1) := by decide +kernel
theorem dd_M_takeWords_102 : decode prog_9_method_16_code 102 = .ok (.getfield 128, 3) := by decide +kernel
theorem dd_M_takeWords_105 : decode prog_9_method_16_code 105 = .ok (.bipush 30, 2) := by decide +kernel
theorem dd_M_takeWords_107 : decode prog_9_method_16_code 107 = .ok (.if_icmp .ne 5, 3) := by decide +kernel
theorem dd_M_takeWords_110 : decode prog_9_method_16_code 110 = .ok (.iload_n 1, 1) := by decide +kernel
theorem dd_M_takeWords_111 : decode prog_9_method_16_code 111 = .ok (.ireturn, 1) := by decide +kernel
theorem dd_M_takeWords_112 : decode prog_9_method_16_code 112 = .ok (.lconst 0, 1) := by decide +kernel
theorem dd_M_takeWords_113 : decode prog_9_method_16_code 113 = .ok (.lstore 4, 2) := by decide +kernel
theorem dd_M_takeWords_115 : decode prog_9_method_16_code 115 = .ok (.iload_n 1, 1) := by decide +kernel
theorem dd_M_takeWords_116 : decode prog_9_method_16_code 116 = .ok (.istore 6, 2) := by decide +kernel
theorem dd_M_takeWords_118 : decode prog_9_method_16_code 118 = .ok (.iload 6, 2) := by decide +kernel
theorem dd_M_takeWords_120 : decode prog_9_method_16_code 120 = .ok (.iload_n 3, 1) := by decide +kernel
theorem dd_M_takeWords_121 : decode prog_9_method_16_code 121 = .ok (.if_icmp .ge 25, 3) := by decide +kernel
theorem dd_M_takeWords_124 : decode prog_9_method_16_code 124 = .ok (.lload 4, 2) := by decide +kernel
theorem dd_M_takeWords_126 : decode prog_9_method_16_code 126 = .ok (.bipush 8, 2) := by decide +kernel
theorem dd_M_takeWords_128 : decode prog_9_method_16_code 128 = .ok (.lshl, 1) := by decide +kernel
theorem dd_M_takeWords_129 : decode prog_9_method_16_code 129 = .ok (.aload_n 0, 1) := by decide +kernel
theorem dd_M_takeWords_130 : decode prog_9_method_16_code 130 = .ok (.getfield 23, 3) := by decide +kernel
theorem dd_M_takeWords_133 : decode prog_9_method_16_code 133 = .ok (.iload 6, 2) := by decide +kernel
theorem dd_M_takeWords_135 : decode prog_9_method_16_code 135 = .ok (.iaload, 1) := by decide +kernel
theorem dd_M_takeWords_136 : decode prog_9_method_16_code 136 = .ok (.i2l, 1) := by decide +kernel
theorem dd_M_takeWords_137 : decode prog_9_method_16_code 137 = .ok (.lor, 1) := by decide +kernel
theorem dd_M_takeWords_138 : decode prog_9_method_16_code 138 = .ok (.lstore 4, 2) := by decide +kernel
theorem dd_M_takeWords_140 : decode prog_9_method_16_code 140 = .ok (.iinc 6 1, 3) := by decide +kernel
theorem dd_M_takeWords_143 : decode prog_9_method_16_code 143 = .ok (.goto (-25), 3) := by decide +kernel
theorem dd_M_takeWords_146 : decode prog_9_method_16_code 146 = .ok (.aload_n 0, 1) := by decide +kernel
theorem dd_M_takeWords_147 : decode prog_9_method_16_code 147 = .ok (.getfield 30, 3) := by decide +kernel
theorem dd_M_takeWords_150 : decode prog_9_method_16_code 150 = .ok (.aload_n 0, 1) := by decide +kernel
theorem dd_M_takeWords_151 : decode prog_9_method_16_code 151 = .ok (.getfield 128, 3) := by decide +kernel
theorem dd_M_takeWords_154 : decode prog_9_method_16_code 154 = .ok (.lload 4, 2) := by decide +kernel
theorem dd_M_takeWords_156 : decode prog_9_method_16_code 156 = .ok (.lastore, 1) := by decide +kernel
theorem dd_M_takeWords_157 : decode prog_9_method_16_code 157 = .ok (.aload_n 0, 1) := by decide +kernel
theorem dd_M_takeWords_158 : decode prog_9_method_16_code 158 = .ok (.getfield 33, 3) := by decide +kernel
theorem dd_M_takeWords_161 : decode prog_9_method_16_code 161 = .ok (.aload_n 0, 1) := by decide +kernel
theorem dd_M_takeWords_162 : decode prog_9_method_16_code 162 = .ok (.getfield 128, 3) := by decide +kernel
theorem dd_M_takeWords_165 : decode prog_9_method_16_code 165 = .ok (.iload_n 1, 1) := by decide +kernel
theorem dd_M_takeWords_166 : decode prog_9_method_16_code 166 = .ok (.iastore, 1) := by decide +kernel
theorem dd_M_takeWords_167 : decode prog_9_method_16_code 167 = .ok (.aload_n 0, 1) := by decide +kernel
theorem dd_M_takeWords_168 : decode prog_9_method_16_code 168 = .ok (.dup, 1) := by decide +kernel
theorem dd_M_takeWords_169 : decode prog_9_method_16_code 169 = .ok (.getfield 128, 3) := by decide +kernel
theorem dd_M_takeWords_172 : decode prog_9_method_16_code 172 = .ok (.iconst 1, 1) := by decide +kernel
theorem dd_M_takeWords_173 : decode prog_9_method_16_code 173 = .ok (.iadd, 1) := by decide +kernel
theorem dd_M_takeWords_174 : decode prog_9_method_16_code 174 = .ok (.putfield 128, 3) := by decide +kernel
theorem dd_M_takeWords_177 : decode prog_9_method_16_code 177 = .ok (.iload_n 3, 1) := by decide +kernel
theorem dd_M_takeWords_178 : decode prog_9_method_16_code 178 = .ok (.istore_n 1, 1) := by decide +kernel
theorem dd_M_takeWords_179 : decode prog_9_method_16_code 179 = .ok (.goto (-172), 3) := by decide +kernel
theorem dd_M_takeWords_182 : decode prog_9_method_16_code 182 = .ok (.iconst (-1), 1) := by decide +kernel
theorem dd_M_takeWords_183 : decode prog_9_method_16_code 183 = .ok (.ireturn, 1) := by decide +kernel
theorem dd_M_isAtom_0 : decode prog_9_method_17_code 0 = .ok (.aload_n 0, 1) := by decide +kernel
theorem dd_M_isAtom_1 : decode prog_9_method_17_code 1 = .ok (.getfield 30, 3) := by decide +kernel
theorem dd_M_isAtom_4 : decode prog_9_method_17_code 4 = .ok (.iload_n 1, 1) := by decide +kernel
theorem dd_M_isAtom_5 : decode prog_9_method_17_code 5 = .ok (.laload, 1) := by decide +kernel
theorem dd_M_isAtom_6 : decode prog_9_method_17_code 6 = .ok (.ldc2_w 90, 3) := by decide +kernel
theorem dd_M_isAtom_9 : decode prog_9_method_17_code 9 = .ok (.land, 1) := by decide +kernel
theorem dd_M_isAtom_10 : decode prog_9_method_17_code 10 = .ok (.l2i, 1) := by decide +kernel
theorem dd_M_isAtom_11 : decode prog_9_method_17_code 11 = .ok (.invokestatic 96, 3) := by decide +kernel
theorem dd_M_isAtom_14 : decode prog_9_method_17_code 14 = .ok (.istore_n 2, 1) := by decide +kernel
theorem dd_M_isAtom_15 : decode prog_9_method_17_code 15 = .ok (.iload_n 2, 1) := by decide +kernel
theorem dd_M_isAtom_16 : decode prog_9_method_17_code 16 = .ok (.ifCond .le 25, 3) := by decide +kernel
theorem dd_M_isAtom_19 : decode prog_9_method_17_code 19 = .ok (.iload_n 2, 1) := by decide +kernel
theorem dd_M_isAtom_20 : decode prog_9_method_17_code 20 = .ok (.iconst 3, 1) := by decide +kernel
theorem dd_M_isAtom_21 : decode prog_9_method_17_code 21 = .ok (.if_icmp .ge 20, 3) := by decide +kernel
theorem dd_M_isAtom_24 : decode prog_9_method_17_code 24 = .ok (.aload_n 0, 1) := by decide +kernel
theorem dd_M_isAtom_25 : decode prog_9_method_17_code 25 = .ok (.aload_n 0, 1) := by decide +kernel
theorem dd_M_isAtom_26 : decode prog_9_method_17_code 26 = .ok (.getfield 30, 3) := by decide +kernel
theorem dd_M_isAtom_29 : decode prog_9_method_17_code 29 = .ok (.iload_n 1, 1) := by decide +kernel
theorem dd_M_isAtom_30 : decode prog_9_method_17_code 30 = .ok (.laload, 1) := by decide +kernel
theorem dd_M_isAtom_31 : decode prog_9_method_17_code 31 = .ok (.invokevirtual 131, 3) := by decide +kernel
theorem dd_M_isAtom_34 : decode prog_9_method_17_code 34 = .ok (.ifCond .ne 7, 3) := by decide +kernel
theorem dd_M_isAtom_37 : decode prog_9_method_17_code 37 = .ok (.iconst 1, 1) := by decide +kernel
theorem dd_M_isAtom_38 : decode prog_9_method_17_code 38 = .ok (.goto 4, 3) := by decide +kernel
theorem dd_M_isAtom_41 : decode prog_9_method_17_code 41 = .ok (.iconst 0, 1) := by decide +kernel
theorem dd_M_isAtom_42 : decode prog_9_method_17_code 42 = .ok (.ireturn, 1) := by decide +kernel
theorem dd_M_is_0 : decode prog_9_method_18_code 0 = .ok (.iload_n 1, 1) := by decide +kernel
theorem dd_M_is_1 : decode prog_9_method_18_code 1 = .ok (.aload_n 0, 1) := by decide +kernel
theorem dd_M_is_2 : decode prog_9_method_18_code 2 = .ok (.getfield 128, 3) := by decide +kernel
theorem dd_M_is_5 : decode prog_9_method_18_code 5 = .ok (.if_icmp .ge 19, 3) := by decide +kernel
theorem dd_M_is_8 : decode prog_9_method_18_code 8 = .ok (.aload_n 0, 1) := by decide +kernel
theorem dd_M_is_9 : decode prog_9_method_18_code 9 = .ok (.getfield 30, 3) := by decide +kernel
theorem dd_M_is_12 : decode prog_9_method_18_code 12 = .ok (.iload_n 1, 1) := by decide +kernel
theorem dd_M_is_13 : decode prog_9_method_18_code 13 = .ok (.laload, 1) := by decide +kernel
theorem dd_M_is_14 : decode prog_9_method_18_code 14 = .ok (.iload_n 2, 1) := by decide +kernel
theorem dd_M_is_15 : decode prog_9_method_18_code 15 = .ok (.i2l, 1) := by decide +kernel
theorem dd_M_is_16 : decode prog_9_method_18_code 16 = .ok (.lcmp, 1) := by decide +kernel
theorem dd_M_is_17 : decode prog_9_method_18_code 17 = .ok (.ifCond .ne 7, 3) := by decide +kernel
theorem dd_M_is_20 : decode prog_9_method_18_code 20 = .ok (.iconst 1, 1) := by decide +kernel
theorem dd_M_is_21 : decode prog_9_method_18_code 21 = .ok (.goto 4, 3) := by decide +kernel
theorem dd_M_is_24 : decode prog_9_method_18_code 24 = .ok (.iconst 0, 1) := by decide +kernel
theorem dd_M_is_25 : decode prog_9_method_18_code 25 = .ok (.ireturn, 1) := by decide +kernel
theorem dd_M_less_0 : decode prog_9_method_19_code 0 = .ok (.lload_n 0, 1) := by decide +kernel
theorem dd_M_less_1 : decode prog_9_method_19_code 1 = .ok (.ldc2_w 135, 3) := by decide +kernel
theorem dd_M_less_4 : decode prog_9_method_19_code 4 = .ok (.lcmp, 1) := by decide +kernel
theorem dd_M_less_5 : decode prog_9_method_19_code 5 = .ok (.ifCond .le 8, 3) := by decide +kernel
theorem dd_M_less_8 : decode prog_9_method_19_code 8 = .ok (.ldc 137, 2) := by decide +kernel
theorem dd_M_less_10 : decode prog_9_method_19_code 10 = .ok (.goto 5, 3) := by decide +kernel
theorem dd_M_less_13 : decode prog_9_method_19_code 13 = .ok (.lload_n 0, 1) := by decide +kernel
theorem dd_M_less_14 : decode prog_9_method_19_code 14 = .ok (.l2i, 1) := by decide +kernel
theorem dd_M_less_15 : decode prog_9_method_19_code 15 = .ok (.ireturn, 1) := by decide +kernel
theorem dd_M_cell_0 : decode prog_9_method_20_code 0 = .ok (.iload_n 0, 1) := by decide +kernel
theorem dd_M_cell_1 : decode prog_9_method_20_code 1 = .ok (.bipush 31, 2) := by decide +kernel
theorem dd_M_cell_3 : decode prog_9_method_20_code 3 = .ok (.imul, 1) := by decide +kernel
theorem dd_M_cell_4 : decode prog_9_method_20_code 4 = .ok (.iload_n 1, 1) := by decide +kernel
theorem dd_M_cell_5 : decode prog_9_method_20_code 5 = .ok (.iadd, 1) := by decide +kernel
theorem dd_M_cell_6 : decode prog_9_method_20_code 6 = .ok (.bipush 31, 2) := by decide +kernel
theorem dd_M_cell_8 : decode prog_9_method_20_code 8 = .ok (.imul, 1) := by decide +kernel
theorem dd_M_cell_9 : decode prog_9_method_20_code 9 = .ok (.iload_n 2, 1) := by decide +kernel
theorem dd_M_cell_10 : decode prog_9_method_20_code 10 = .ok (.iadd, 1) := by decide +kernel
theorem dd_M_cell_11 : decode prog_9_method_20_code 11 = .ok (.ireturn, 1) := by decide +kernel
theorem dd_M_waysOf_0 : decode prog_9_method_21_code 0 = .ok (.bipush 7, 2) := by decide +kernel
theorem dd_M_waysOf_2 : decode prog_9_method_21_code 2 = .ok (.iload_n 1, 1) := by decide +kernel
theorem dd_M_waysOf_3 : decode prog_9_method_21_code 3 = .ok (.imul, 1) := by decide +kernel
theorem dd_M_waysOf_4 : decode prog_9_method_21_code 4 = .ok (.iload_n 2, 1) := by decide +kernel
theorem dd_M_waysOf_5 : decode prog_9_method_21_code 5 = .ok (.iadd, 1) := by decide +kernel
theorem dd_M_waysOf_6 : decode prog_9_method_21_code 6 = .ok (.istore 5, 2) := by decide +kernel
theorem dd_M_waysOf_8 : decode prog_9_method_21_code 8 = .ok (.iload_n 2, 1) := by decide +kernel
theorem dd_M_waysOf_9 : decode prog_9_method_21_code 9 = .ok (.aload_n 0, 1) := by decide +kernel
theorem dd_M_waysOf_10 : decode prog_9_method_21_code 10 = .ok (.getfield 17, 3) := by decide +kernel
theorem dd_M_waysOf_13 : decode prog_9_method_21_code 13 = .ok (.iload_n 1, 1) := by decide +kernel
theorem dd_M_waysOf_14 : decode prog_9_method_21_code 14 = .ok (.iaload, 1) := by decide +kernel
theorem dd_M_waysOf_15 : decode prog_9_method_21_code 15 = .ok (.if_icmp .ne 15, 3) := by decide +kernel
theorem dd_M_waysOf_18 : decode prog_9_method_21_code 18 = .ok (.iload_n 3, 1) := by decide +kernel
theorem dd_M_waysOf_19 : decode prog_9_method_21_code 19 = .ok (.iload 4, 2) := by decide +kernel
theorem dd_M_waysOf_21 : decode prog_9_method_21_code 21 = .ok (.if_icmp .ne 7, 3) := by decide +kernel
theorem dd_M_waysOf_24 : decode prog_9_method_21_code 24 = .ok (.iconst 1, 1) := by decide +kernel
theorem dd_M_waysOf_25 : decode prog_9_method_21_code 25 = .ok (.goto 4, 3) := by decide +kernel
theorem dd_M_waysOf_28 : decode prog_9_method_21_code 28 = .ok (.iconst 0, 1) := by decide +kernel
theorem dd_M_waysOf_29 : decode prog_9_method_21_code 29 = .ok (.ireturn, 1) := by decide +kernel
theorem dd_M_waysOf_30 : decode prog_9_method_21_code 30 = .ok (.aload_n 0, 1) := by decide +kernel
theorem dd_M_waysOf_31 : decode prog_9_method_21_code 31 = .ok (.getfield 7, 3) := by decide +kernel
theorem dd_M_waysOf_34 : decode prog_9_method_21_code 34 = .ok (.iload 5, 2) := by decide +kernel
theorem dd_M_waysOf_36 : decode prog_9_method_21_code 36 = .ok (.iaload, 1) := by decide +kernel
theorem dd_M_waysOf_37 : decode prog_9_method_21_code 37 = .ok (.iconst (-1), 1) := by decide +kernel
theorem dd_M_waysOf_38 : decode prog_9_method_21_code 38 = .ok (.if_icmp .ne 48, 3) := by decide +kernel
theorem dd_M_waysOf_41 : decode prog_9_method_21_code 41 = .ok (.iload_n 3, 1) := by decide +kernel
theorem dd_M_waysOf_42 : decode prog_9_method_21_code 42 = .ok (.iload 4, 2) := by decide +kernel
theorem dd_M_waysOf_44 : decode prog_9_method_21_code 44 = .ok (.if_icmp .ge 40, 3) := by decide +kernel
theorem dd_M_waysOf_47 : decode prog_9_method_21_code 47 = .ok (.aload_n 0, 1) := by decide +kernel
theorem dd_M_waysOf_48 : decode prog_9_method_21_code 48 = .ok (.getfield 30, 3) := by decide +kernel
theorem dd_M_waysOf_51 : decode prog_9_method_21_code 51 = .ok (.iload_n 3, 1) := by decide +kernel
theorem dd_M_waysOf_52 : decode prog_9_method_21_code 52 = .ok (.laload, 1) := by decide +kernel
theorem dd_M_waysOf_53 : decode prog_9_method_21_code 53 = .ok (.aload_n 0, 1) := by decide +kernel
theorem dd_M_waysOf_54 : decode prog_9_method_21_code 54 = .ok (.getfield 13, 3) := by decide +kernel
theorem dd_M_waysOf_57 : decode prog_9_method_21_code 57 = .ok (.iload 5, 2) := by decide +kernel
theorem dd_M_waysOf_59 : decode prog_9_method_21_code 59 = .ok (.laload, 1) := by decide +kernel
theorem dd_M_waysOf_60 : decode prog_9_method_21_code 60 = .ok (.lcmp, 1) := by decide +kernel
theorem dd_M_waysOf_61 : decode prog_9_method_21_code 61 = .ok (.ifCond .ne 23, 3) := by decide +kernel
theorem dd_M_waysOf_64 : decode prog_9_method_21_code 64 = .ok (.aload_n 0, 1) := by decide +kernel
theorem dd_M_waysOf_65 : decode prog_9_method_21_code 65 = .ok (.getfield 40, 3) := by decide +kernel
theorem dd_M_waysOf_68 : decode prog_9_method_21_code 68 = .ok (.iload 5, 2) := by decide +kernel
theorem dd_M_waysOf_70 : decode prog_9_method_21_code 70 = .ok (.iconst 1, 1) := by decide +kernel
theorem dd_M_waysOf_71 : decode prog_9_method_21_code 71 = .ok (.iadd, 1) := by decide +kernel
theorem dd_M_waysOf_72 : decode prog_9_method_21_code 72 = .ok (.iload_n 3, 1) := by decide +kernel
theorem dd_M_waysOf_73 : decode prog_9_method_21_code 73 = .ok (.iconst 1, 1) := by decide +kernel
theorem dd_M_waysOf_74 : decode prog_9_method_21_code 74 = .ok (.iadd, 1) := by decide +kernel
theorem dd_M_waysOf_75 : decode prog_9_method_21_code 75 = .ok (.iload 4, 2) := by decide +kernel
theorem dd_M_waysOf_77 : decode prog_9_method_21_code 77 = .ok (.invokestatic 138, 3) := by decide +kernel
theorem dd_M_waysOf_80 : decode prog_9_method_21_code 80 = .ok (.iaload, 1) := by decide +kernel
theorem dd_M_waysOf_81 : decode prog_9_method_21_code 81 = .ok (.goto 4, 3) := by decide +kernel
theorem dd_M_waysOf_84 : decode prog_9_method_21_code 84 = .ok (.iconst 0, 1) := by decide +kernel
theorem dd_M_waysOf_85 : decode prog_9_method_21_code 85 = .ok (.ireturn, 1) := by decide +kernel
theorem dd_M_waysOf_86 : decode prog_9_method_21_code 86 = .ok (.lconst 0, 1) := by decide +kernel
theorem dd_M_waysOf_87 : decode prog_9_method_21_code 87 = .ok (.lstore 6, 2) := by decide +kernel
theorem dd_M_waysOf_89 : decode prog_9_method_21_code 89 = .ok (.iload_n 3, 1) := by decide +kernel
theorem dd_M_waysOf_90 : decode prog_9_method_21_code 90 = .ok (.iconst 1, 1) := by decide +kernel
theorem dd_M_waysOf_91 : decode prog_9_method_21_code 91 = .ok (.iadd, 1) := by decide +kernel
theorem dd_M_waysOf_92 : decode prog_9_method_21_code 92 = .ok (.istore 8, 2) := by decide +kernel
theorem dd_M_waysOf_94 : decode prog_9_method_21_code 94 = .ok (.iload 8, 2) := by decide +kernel
theorem dd_M_waysOf_96 : decode prog_9_method_21_code 96 = .ok (.iload 4, 2) := by decide +kernel
theorem dd_M_waysOf_98 : decode prog_9_method_21_code 98 = .ok (.if_icmp .gt 55, 3) := by decide +kernel
theorem dd_M_waysOf_101 : decode prog_9_method_21_code 101 = .ok (.lload 6, 2) := by decide +kernel
theorem dd_M_waysOf_103 : decode prog_9_method_21_code 103 = .ok (.aload_n 0, 1) := by decide +kernel
theorem dd_M_waysOf_104 : decode prog_9_method_21_code 104 = .ok (.getfield 36, 3) := by decide +kernel
theorem dd_M_waysOf_107 : decode prog_9_method_21_code 107 = .ok (.aload_n 0, 1) := by decide +kernel
theorem dd_M_waysOf_108 : decode prog_9_method_21_code 108 = .ok (.getfield 7, 3) := by decide +kernel
theorem dd_M_waysOf_111 : decode prog_9_method_21_code 111 = .ok (.iload 5, 2) := by decide +kernel
theorem dd_M_waysOf_113 : decode prog_9_method_21_code 113 = .ok (.iaload, 1) := by decide +kernel
theorem dd_M_waysOf_114 : decode prog_9_method_21_code 114 = .ok (.iload_n 3, 1) := by decide +kernel
theorem dd_M_waysOf_115 : decode prog_9_method_21_code 115 = .ok (.iload 8, 2) := by decide +kernel
theorem dd_M_waysOf_117 : decode prog_9_method_21_code 117 = .ok (.invokestatic 138, 3) := by decide +kernel
theorem dd_M_waysOf_120 : decode prog_9_method_21_code 120 = .ok (.iaload, 1) := by decide +kernel
theorem dd_M_waysOf_121 : decode prog_9_method_21_code 121 = .ok (.i2l, 1) := by decide +kernel
theorem dd_M_waysOf_122 : decode prog_9_method_21_code 122 = .ok (.aload_n 0, 1) := by decide +kernel
theorem dd_M_waysOf_123 : decode prog_9_method_21_code 123 = .ok (.getfield 40, 3) := by decide +kernel
theorem dd_M_waysOf_126 : decode prog_9_method_21_code 126 = .ok (.iload 5, 2) := by decide +kernel
theorem dd_M_waysOf_128 : decode prog_9_method_21_code 128 = .ok (.iconst 1, 1) := by decide +kernel
theorem dd_M_waysOf_129 : decode prog_9_method_21_code 129 = .ok (.iadd, 1) := by decide +kernel
theorem dd_M_waysOf_130 : decode prog_9_method_21_code 130 = .ok (.iload 8, 2) := by decide +kernel
theorem dd_M_waysOf_132 : decode prog_9_method_21_code 132 = .ok (.iload 4, 2) := by decide +kernel
theorem dd_M_waysOf_134 : decode prog_9_method_21_code 134 = .ok (.invokestatic 138, 3) := by decide +kernel
theorem dd_M_waysOf_137 : decode prog_9_method_21_code 137 = .ok (.iaload, 1) := by decide +kernel
theorem dd_M_waysOf_138 : decode prog_9_method_21_code 138 = .ok (.i2l, 1) := by decide +kernel
theorem dd_M_waysOf_139 : decode prog_9_method_21_code 139 = .ok (.lmul, 1) := by decide +kernel
theorem dd_M_waysOf_140 : decode prog_9_method_21_code 140 = .ok (.ladd, 1) := by decide +kernel
theorem dd_M_waysOf_141 : decode prog_9_method_21_code 141 = .ok (.invokestatic 142, 3) := by decide +kernel
theorem dd_M_waysOf_144 : decode prog_9_method_21_code 144 = .ok (.i2l, 1) := by decide +kernel
theorem dd_M_waysOf_145 : decode prog_9_method_21_code 145 = .ok (.lstore 6, 2) := by decide +kernel
theorem dd_M_waysOf_147 : decode prog_9_method_21_code 147 = .ok (.iinc 8 1, 3) := by decide +kernel
theorem dd_M_waysOf_150 : decode prog_9_method_21_code 150 = .ok (.goto (-56), 3) := by decide +kernel
theorem dd_M_waysOf_153 : decode prog_9_method_21_code 153 = .ok (.lload 6, 2) := by decide +kernel
theorem dd_M_waysOf_155 : decode prog_9_method_21_code 155 = .ok (.l2i, 1) := by decide +kernel
theorem dd_M_waysOf_156 : decode prog_9_method_21_code 156 = .ok (.ireturn, 1) := by decide +kernel
theorem dd_M_countTerms_0 : decode prog_9_method_22_code 0 = .ok (.iconst 0, 1) := by decide +kernel
theorem dd_M_countTerms_1 : decode prog_9_method_22_code 1 = .ok (.istore_n 3, 1) := by decide +kernel
theorem dd_M_countTerms_2 : decode prog_9_method_22_code 2 = .ok (.iload_n 3, 1) := by decide +kernel
theorem dd_M_countTerms_3 : decode prog_9_method_22_code 3 = .ok (.bipush 11, 2) := by decide +kernel
theorem dd_M_countTerms_5 : decode prog_9_method_22_code 5 = .ok (.if_icmp .ge 147, 3) := by decide +kernel
theorem dd_M_countTerms_8 : decode prog_9_method_22_code 8 = .ok (.iload_n 2, 1) := by decide +kernel
theorem dd_M_countTerms_9 : decode prog_9_method_22_code 9 = .ok (.iload_n 1, 1) := by decide +kernel
theorem dd_M_countTerms_10 : decode prog_9_method_22_code 10 = .ok (.iconst 1, 1) := by decide +kernel
theorem dd_M_countTerms_11 : decode prog_9_method_22_code 11 = .ok (.iadd, 1) := by decide +kernel
theorem dd_M_countTerms_12 : decode prog_9_method_22_code 12 = .ok (.if_icmp .ne 15, 3) := by decide +kernel
theorem dd_M_countTerms_15 : decode prog_9_method_22_code 15 = .ok (.aload_n 0, 1) := by decide +kernel
theorem dd_M_countTerms_16 : decode prog_9_method_22_code 16 = .ok (.iload_n 1, 1) := by decide +kernel
theorem dd_M_countTerms_17 : decode prog_9_method_22_code 17 = .ok (.invokevirtual 146, 3) := by decide +kernel
theorem dd_M_countTerms_20 : decode prog_9_method_22_code 20 = .ok (.ifCond .eq 7, 3) := by decide +kernel
theorem dd_M_countTerms_23 : decode prog_9_method_22_code 23 = .ok (.lconst 1, 1) := by decide +kernel
theorem dd_M_countTerms_24 : decode prog_9_method_22_code 24 = .ok (.goto 4, 3) := by decide +kernel
theorem dd_M_countTerms_27 : decode prog_9_method_22_code 27 = .ok (.lconst 0, 1) := by decide +kernel
theorem dd_M_countTerms_28 : decode prog_9_method_22_code 28 = .ok (.lstore 4, 2) := by decide +kernel
theorem dd_M_countTerms_30 : decode prog_9_method_22_code 30 = .ok (.iload_n 2, 1) := by decide +kernel
theorem dd_M_countTerms_31 : decode prog_9_method_22_code 31 = .ok (.iload_n 1, 1) := by decide +kernel
theorem dd_M_countTerms_32 : decode prog_9_method_22_code 32 = .ok (.iconst 2, 1) := by decide +kernel
theorem dd_M_countTerms_33 : decode prog_9_method_22_code 33 = .ok (.iadd, 1) := by decide +kernel
theorem dd_M_countTerms_34 : decode prog_9_method_22_code 34 = .ok (.if_icmp .le 46, 3) := by decide +kernel
theorem dd_M_countTerms_37 : decode prog_9_method_22_code 37 = .ok (.aload_n 0, 1) := by decide +kernel
theorem dd_M_countTerms_38 : decode prog_9_method_22_code 38 = .ok (.iload_n 1, 1) := by decide +kernel
theorem dd_M_countTerms_39 : decode prog_9_method_22_code 39 = .ok (.bipush 40, 2) := by decide +kernel
theorem dd_M_countTerms_41 : decode prog_9_method_22_code 41 = .ok (.invokevirtual 149, 3) := by decide +kernel
theorem dd_M_countTerms_44 : decode prog_9_method_22_code 44 = .ok (.ifCond .eq 36, 3) := by decide +kernel
theorem dd_M_countTerms_47 : decode prog_9_method_22_code 47 = .ok (.aload_n 0, 1) := by decide +kernel
theorem dd_M_countTerms_48 : decode prog_9_method_22_code 48 = .ok (.iload_n 2, 1) := by decide +kernel
theorem dd_M_countTerms_49 : decode prog_9_method_22_code 49 = .ok (.iconst 1, 1) := by decide +kernel
theorem dd_M_countTerms_50 : decode prog_9_method_22_code 50 = .ok (.isub, 1) := by decide +kernel
theorem dd_M_countTerms_51 : decode prog_9_method_22_code 51 = .ok (.bipush 41, 2) := by decide +kernel
theorem dd_M_countTerms_53 : decode prog_9_method_22_code 53 = .ok (.invokevirtual 149, 3) := by decide +kernel
theorem dd_M_countTerms_56 : decode prog_9_method_22_code 56 = .ok (.ifCond .eq 24, 3) := by decide +kernel
theorem dd_M_countTerms_59 : decode prog_9_method_22_code 59 = .ok (.lload 4, 2) := by decide +kernel
theorem dd_M_countTerms_61 : decode prog_9_method_22_code 61 = .ok (.aload_n 0, 1) := by decide +kernel
theorem dd_M_countTerms_62 : decode prog_9_method_22_code 62 = .ok (.getfield 36, 3) := by decide +kernel
theorem dd_M_countTerms_65 : decode prog_9_method_22_code 65 = .ok (.iconst 0, 1) := by decide +kernel
theorem dd_M_countTerms_66 : decode prog_9_method_22_code 66 = .ok (.iload_n 1, 1) := by decide +kernel
theorem dd_M_countTerms_67 : decode prog_9_method_22_code 67 = .ok (.iconst 1, 1) := by decide +kernel
theorem dd_M_countTerms_68 : decode prog_9_method_22_code 68 = .ok (.iadd, 1) := by decide +kernel
theorem dd_M_countTerms_69 : decode prog_9_method_22_code 69 = .ok (.iload_n 2, 1) := by decide +kernel
theorem dd_M_countTerms_70 : decode prog_9_method_22_code 70 = .ok (.iconst 1, 1) := by decide +kernel
theorem dd_M_countTerms_71 : decode prog_9_method_22_code 71 = .ok (.isub, 1) := by decide +kernel
theorem dd_M_countTerms_72 : decode prog_9_method_22_code 72 = .ok (.invokestatic 138, 3) := by decide +kernel
theorem dd_M_countTerms_75 : decode prog_9_method_22_code 75 = .ok (.iaload, 1) := by decide +kernel
theorem dd_M_countTerms_76 : decode prog_9_method_22_code 76 = .ok (.i2l, 1) := by decide +kernel
theorem dd_M_countTerms_77 : decode prog_9_method_22_code 77 = .ok (.ladd, 1) := by decide +kernel
theorem dd_M_countTerms_78 : decode prog_9_method_22_code 78 = .ok (.lstore 4, 2) := by decide +kernel
theorem dd_M_countTerms_80 : decode prog_9_method_22_code 80 = .ok (.iconst 0, 1) := by decide +kernel
theorem dd_M_countTerms_81 : decode prog_9_method_22_code 81 = .ok (.istore 6, 2) := by decide +kernel
theorem dd_M_countTerms_83 : decode prog_9_method_22_code 83 = .ok (.iload 6, 2) := by decide +kernel
theorem dd_M_countTerms_85 : decode prog_9_method_22_code 85 = .ok (.aload_n 0, 1) := by decide +kernel
theorem dd_M_countTerms_86 : decode prog_9_method_22_code 86 = .ok (.getfield 100, 3) := by decide +kernel
theorem dd_M_countTerms_89 : decode prog_9_method_22_code 89 = .ok (.if_icmp .ge 41, 3) := by decide +kernel
theorem dd_M_countTerms_92 : decode prog_9_method_22_code 92 = .ok (.aload_n 0, 1) := by decide +kernel
theorem dd_M_countTerms_93 : decode prog_9_method_22_code 93 = .ok (.getfield 20, 3) := by decide +kernel
theorem dd_M_countTerms_96 : decode prog_9_method_22_code 96 = .ok (.iload 6, 2) := by decide +kernel
theorem dd_M_countTerms_98 : decode prog_9_method_22_code 98 = .ok (.iaload, 1) := by decide +kernel
theorem dd_M_countTerms_99 : decode prog_9_method_22_code 99 = .ok (.iload_n 3, 1) := by decide +kernel
theorem dd_M_countTerms_100 : decode prog_9_method_22_code 100 = .ok (.if_icmp .lt 24, 3) := by decide +kernel
theorem dd_M_countTerms_103 : decode prog_9_method_22_code 103 = .ok (.lload 4, 2) := by decide +kernel
theorem dd_M_countTerms_105 : decode prog_9_method_22_code 105 = .ok (.aload_n 0, 1) := by decide +kernel
theorem dd_M_countTerms_106 : decode prog_9_method_22_code 106 = .ok (.getfield 40, 3) := by decide +kernel
theorem dd_M_countTerms_109 : decode prog_9_method_22_code 109 = .ok (.bipush 7, 2) := by decide +kernel
theorem dd_M_countTerms_111 : decode prog_9_method_22_code 111 = .ok (.iload 6, 2) := by decide +kernel
theorem dd_M_countTerms_113 : decode prog_9_method_22_code 113 = .ok (.imul, 1) := by decide +kernel
theorem dd_M_countTerms_114 : decode prog_9_method_22_code 114 = .ok (.iload_n 1, 1) := by decide +kernel
theorem dd_M_countTerms_115 : decode prog_9_method_22_code 115 = .ok (.iload_n 2, 1) := by decide +kernel
theorem dd_M_countTerms_116 : decode prog_9_method_22_code 116 = .ok (.invokestatic 138, 3) := by decide +kernel
theorem dd_M_countTerms_119 : decode prog_9_method_22_code 119 = .ok (.iaload, 1) := by decide +kernel
theorem dd_M_countTerms_120 : decode prog_9_method_22_code 120 = .ok (.i2l, 1) := by decide +kernel
theorem dd_M_countTerms_121 : decode prog_9_method_22_code 121 = .ok (.ladd, 1) := by decide +kernel
theorem dd_M_countTerms_122 : decode prog_9_method_22_code 122 = .ok (.lstore 4, 2) := by decide +kernel
theorem dd_M_countTerms_124 : decode prog_9_method_22_code 124 = .ok (.iinc 6 1, 3) := by decide +kernel
theorem dd_M_countTerms_127 : decode prog_9_method_22_code 127 = .ok (.goto (-44), 3) := by decide +kernel
theorem dd_M_countTerms_130 : decode prog_9_method_22_code 130 = .ok (.aload_n 0, 1) := by decide +kernel
theorem dd_M_countTerms_131 : decode prog_9_method_22_code 131 = .ok (.getfield 36, 3) := by decide +kernel
theorem dd_M_countTerms_134 : decode prog_9_method_22_code 134 = .ok (.iload_n 3, 1) := by decide +kernel
theorem dd_M_countTerms_135 : decode prog_9_method_22_code 135 = .ok (.iload_n 1, 1) := by decide +kernel
theorem dd_M_countTerms_136 : decode prog_9_method_22_code 136 = .ok (.iload_n 2, 1) := by decide +kernel
theorem dd_M_countTerms_137 : decode prog_9_method_22_code 137 = .ok (.invokestatic 138, 3) := by decide +kernel
theorem dd_M_countTerms_140 : decode prog_9_method_22_code 140 = .ok (.lload 4, 2) := by decide +kernel
theorem dd_M_countTerms_142 : decode prog_9_method_22_code 142 = .ok (.invokestatic 142, 3) := by decide +kernel
theorem dd_M_countTerms_145 : decode prog_9_method_22_code 145 = .ok (.iastore, 1) := by decide +kernel
theorem dd_M_countTerms_146 : decode prog_9_method_22_code 146 = .ok (.iinc 3 1, 3) := by decide +kernel
theorem dd_M_countTerms_149 : decode prog_9_method_22_code 149 = .ok (.goto (-147), 3) := by decide +kernel
theorem dd_M_countTerms_152 : decode prog_9_method_22_code 152 = .ok (.return_, 1) := by decide +kernel
theorem dd_M_count_0 : decode prog_9_method_23_code 0 = .ok (.iconst 0, 1) := by decide +kernel
theorem dd_M_count_1 : decode prog_9_method_23_code 1 = .ok (.istore_n 1, 1) := by decide +kernel
theorem dd_M_count_2 : decode prog_9_method_23_code 2 = .ok (.iload_n 1, 1) := by decide +kernel
theorem dd_M_count_3 : decode prog_9_method_23_code 3 = .ok (.sipush 10571, 3) := by decide +kernel
theorem dd_M_count_6 : decode prog_9_method_23_code 6 = .ok (.if_icmp .ge 16, 3) := by decide +kernel
theorem dd_M_count_9 : decode prog_9_method_23_code 9 = .ok (.aload_n 0, 1) := by decide +kernel
theorem dd_M_count_10 : decode prog_9_method_23_code 10 = .ok (.getfield 36, 3) := by decide +kernel
theorem dd_M_count_13 : decode prog_9_method_23_code 13 = .ok (.iload_n 1, 1) := by decide +kernel
theorem dd_M_count_14 : decode prog_9_method_23_code 14 = .ok (.iconst 0, 1) := by decide +kernel
theorem dd_M_count_15 : decode prog_9_method_23_code 15 = .ok (.iastore, 1) := by decide +kernel
theorem dd_M_count_16 : decode prog_9_method_23_code 16 = .ok (.iinc 1 1, 3) := by decide +kernel
theorem dd_M_count_19 : decode prog_9_method_23_code 19 = .ok (.goto (-17), 3) := by decide +kernel
theorem dd_M_count_22 : decode prog_9_method_23_code 22 = .ok (.iconst 0, 1) := by decide +kernel
theorem dd_M_count_23 : decode prog_9_method_23_code 23 = .ok (.istore_n 1, 1) := by decide +kernel
theorem dd_M_count_24 : decode prog_9_method_23_code 24 = .ok (.iload_n 1, 1) := by decide +kernel
theorem dd_M_count_25 : decode prog_9_method_23_code 25 = .ok (.aload_n 0, 1) := by decide +kernel
theorem dd_M_count_26 : decode prog_9_method_23_code 26 = .ok (.getfield 128, 3) := by decide +kernel
theorem dd_M_count_29 : decode prog_9_method_23_code 29 = .ok (.if_icmp .gt 157, 3) := by decide +kernel
theorem dd_M_count_32 : decode prog_9_method_23_code 32 = .ok (.iconst 0, 1) := by decide +kernel
theorem dd_M_count_33 : decode prog_9_method_23_code 33 = .ok (.istore_n 2, 1) := by decide +kernel
theorem dd_M_count_34 : decode prog_9_method_23_code 34 = .ok (.iload_n 2, 1) := by decide +kernel
theorem dd_M_count_35 : decode prog_9_method_23_code 35 = .ok (.iload_n 1, 1) := by decide +kernel
theorem dd_M_count_36 : decode prog_9_method_23_code 36 = .ok (.iadd, 1) := by decide +kernel
theorem dd_M_count_37 : decode prog_9_method_23_code 37 = .ok (.aload_n 0, 1) := by decide +kernel
theorem dd_M_count_38 : decode prog_9_method_23_code 38 = .ok (.getfield 128, 3) := by decide +kernel
theorem dd_M_count_41 : decode prog_9_method_23_code 41 = .ok (.if_icmp .gt 139, 3) := by decide +kernel
theorem dd_M_count_44 : decode prog_9_method_23_code 44 = .ok (.iload_n 2, 1) := by decide +kernel
theorem dd_M_count_45 : decode prog_9_method_23_code 45 = .ok (.iload_n 1, 1) := by decide +kernel
theorem dd_M_count_46 : decode prog_9_method_23_code 46 = .ok (.iadd, 1) := by decide +kernel
theorem dd_M_count_47 : decode prog_9_method_23_code 47 = .ok (.istore_n 3, 1) := by decide +kernel
theorem dd_M_count_48 : decode prog_9_method_23_code 48 = .ok (.iconst 0, 1) := by decide +kernel
theorem dd_M_count_49 : decode prog_9_method_23_code 49 = .ok (.istore 4, 2) := by decide +kernel
theorem dd_M_count_51 : decode prog_9_method_23_code 51 = .ok (.iload 4, 2) := by decide +kernel
theorem dd_M_count_53 : decode prog_9_method_23_code 53 = .ok (.aload_n 0, 1) := by decide +kernel
theorem dd_M_count_54 : decode prog_9_method_23_code 54 = .ok (.getfield 100, 3) := by decide +kernel
theorem dd_M_count_57 : decode prog_9_method_23_code 57 = .ok (.if_icmp .ge 41, 3) := by decide +kernel
theorem dd_M_count_60 : decode prog_9_method_23_code 60 = .ok (.aload_n 0, 1) := by decide +kernel
theorem dd_M_count_61 : decode prog_9_method_23_code 61 = .ok (.getfield 40, 3) := by decide +kernel
theorem dd_M_count_64 : decode prog_9_method_23_code 64 = .ok (.bipush 7, 2) := by decide +kernel
theorem dd_M_count_66 : decode prog_9_method_23_code 66 = .ok (.iload 4, 2) := by decide +kernel
theorem dd_M_count_68 : decode prog_9_method_23_code 68 = .ok (.imul, 1) := by decide +kernel
theorem dd_M_count_69 : decode prog_9_method_23_code 69 = .ok (.iload_n 2, 1) := by decide +kernel
theorem dd_M_count_70 : decode prog_9_method_23_code 70 = .ok (.iload_n 3, 1) := by decide +kernel
theorem dd_M_count_71 : decode prog_9_method_23_code 71 = .ok (.invokestatic 138, 3) := by decide +kernel
theorem dd_M_count_74 : decode prog_9_method_23_code 74 = .ok (.iload_n 1, 1) := by decide +kernel
theorem dd_M_count_75 : decode prog_9_method_23_code 75 = .ok (.ifCond .ne 7, 3) := by decide +kernel
theorem dd_M_count_78 : decode prog_9_method_23_code 78 = .ok (.iconst 0, 1) := by decide +kernel
theorem dd_M_count_79 : decode prog_9_method_23_code 79 = .ok (.goto 12, 3) := by decide +kernel
theorem dd_M_count_82 : decode prog_9_method_23_code 82 = .ok (.aload_n 0, 1) := by decide +kernel
theorem dd_M_count_83 : decode prog_9_method_23_code 83 = .ok (.iload 4, 2) := by decide +kernel
theorem dd_M_count_85 : decode prog_9_method_23_code 85 = .ok (.iconst 0, 1) := by decide +kernel
theorem dd_M_count_86 : decode prog_9_method_23_code 86 = .ok (.iload_n 2, 1) := by decide +kernel
theorem dd_M_count_87 : decode prog_9_method_23_code 87 = .ok (.iload_n 3, 1) := by decide +kernel
theorem dd_M_count_88 : decode prog_9_method_23_code 88 = .ok (.invokevirtual 153, 3) := by decide +kernel
theorem dd_M_count_91 : decode prog_9_method_23_code 91 = .ok (.iastore, 1) := by decide +kernel
theorem dd_M_count_92 : decode prog_9_method_23_code 92 = .ok (.iinc 4 1, 3) := by decide +kernel
theorem dd_M_count_95 : decode prog_9_method_23_code 95 = .ok (.goto (-44), 3) := by decide +kernel
theorem dd_M_count_98 : decode prog_9_method_23_code 98 = .ok (.iload_n 1, 1) := by decide +kernel
theorem dd_M_count_99 : decode prog_9_method_23_code 99 = .ok (.ifCond .le 9, 3) := by decide +kernel
theorem dd_M_count_102 : decode prog_9_method_23_code 102 = .ok (.aload_n 0, 1) := by decide +kernel
theorem dd_M_count_103 : decode prog_9_method_23_code 103 = .ok (.iload_n 2, 1) := by decide +kernel
theorem dd_M_count_104 : decode prog_9_method_23_code 104 = .ok (.iload_n 3, 1) := by decide +kernel
theorem dd_M_count_105 : decode prog_9_method_23_code 105 = .ok (.invokevirtual 157, 3) := by decide +kernel
theorem dd_M_count_108 : decode prog_9_method_23_code 108 = .ok (.iconst 0, 1) := by decide +kernel
theorem dd_M_count_109 : decode prog_9_method_23_code 109 = .ok (.istore 4, 2) := by decide +kernel
theorem dd_M_count_111 : decode prog_9_method_23_code 111 = .ok (.iload 4, 2) := by decide +kernel
theorem dd_M_count_113 : decode prog_9_method_23_code 113 = .ok (.aload_n 0, 1) := by decide +kernel
theorem dd_M_count_114 : decode prog_9_method_23_code 114 = .ok (.getfield 100, 3) := by decide +kernel
theorem dd_M_count_117 : decode prog_9_method_23_code 117 = .ok (.if_icmp .ge 57, 3) := by decide +kernel
theorem dd_M_count_120 : decode prog_9_method_23_code 120 = .ok (.aload_n 0, 1) := by decide +kernel
theorem dd_M_count_121 : decode prog_9_method_23_code 121 = .ok (.getfield 17, 3) := by decide +kernel
theorem dd_M_count_124 : decode prog_9_method_23_code 124 = .ok (.iload 4, 2) := by decide +kernel
theorem dd_M_count_126 : decode prog_9_method_23_code 126 = .ok (.iaload, 1) := by decide +kernel
theorem dd_M_count_127 : decode prog_9_method_23_code 127 = .ok (.istore 5, 2) := by decide +kernel
theorem dd_M_count_129 : decode prog_9_method_23_code 129 = .ok (.iload 5, 2) := by decide +kernel
theorem dd_M_count_131 : decode prog_9_method_23_code 131 = .ok (.ifCond .le 37, 3) := by decide +kernel
theorem dd_M_count_134 : decode prog_9_method_23_code 134 = .ok (.aload_n 0, 1) := by decide +kernel
theorem dd_M_count_135 : decode prog_9_method_23_code 135 = .ok (.getfield 40, 3) := by decide +kernel
theorem dd_M_count_138 : decode prog_9_method_23_code 138 = .ok (.bipush 7, 2) := by decide +kernel
theorem dd_M_count_140 : decode prog_9_method_23_code 140 = .ok (.iload 4, 2) := by decide +kernel
theorem dd_M_count_142 : decode prog_9_method_23_code 142 = .ok (.imul, 1) := by decide +kernel
theorem dd_M_count_143 : decode prog_9_method_23_code 143 = .ok (.iload 5, 2) := by decide +kernel
theorem dd_M_count_145 : decode prog_9_method_23_code 145 = .ok (.iadd, 1) := by decide +kernel
theorem dd_M_count_146 : decode prog_9_method_23_code 146 = .ok (.iload_n 2, 1) := by decide +kernel
theorem dd_M_count_147 : decode prog_9_method_23_code 147 = .ok (.iload_n 3, 1) := by decide +kernel
theorem dd_M_count_148 : decode prog_9_method_23_code 148 = .ok (.invokestatic 138, 3) := by decide +kernel
theorem dd_M_count_151 : decode prog_9_method_23_code 151 = .ok (.aload_n 0, 1) := by decide +kernel
theorem dd_M_count_152 : decode prog_9_method_23_code 152 = .ok (.iload 4, 2) := by decide +kernel
theorem dd_M_count_154 : decode prog_9_method_23_code 154 = .ok (.iload 5, 2) := by decide +kernel
theorem dd_M_count_156 : decode prog_9_method_23_code 156 = .ok (.iload_n 2, 1) := by decide +kernel
theorem dd_M_count_157 : decode prog_9_method_23_code 157 = .ok (.iload_n 3, 1) := by decide +kernel
theorem dd_M_count_158 : decode prog_9_method_23_code 158 = .ok (.invokevirtual 153, 3) := by decide +kernel
theorem dd_M_count_161 : decode prog_9_method_23_code 161 = .ok (.iastore, 1) := by decide +kernel
theorem dd_M_count_162 : decode prog_9_method_23_code 162 = .ok (.iinc 5 (-1), 3) := by decide +kernel
theorem dd_M_count_165 : decode prog_9_method_23_code 165 = .ok (.goto (-36), 3) := by decide +kernel
theorem dd_M_count_168 : decode prog_9_method_23_code 168 = .ok (.iinc 4 1, 3) := by decide +kernel
theorem dd_M_count_171 : decode prog_9_method_23_code 171 = .ok (.goto (-60), 3) := by decide +kernel
theorem dd_M_count_174 : decode prog_9_method_23_code 174 = .ok (.iinc 2 1, 3) := by decide +kernel
theorem dd_M_count_177 : decode prog_9_method_23_code 177 = .ok (.goto (-143), 3) := by decide +kernel
theorem dd_M_count_180 : decode prog_9_method_23_code 180 = .ok (.iinc 1 1, 3) := by decide +kernel
theorem dd_M_count_183 : decode prog_9_method_23_code 183 = .ok (.goto (-159), 3) := by decide +kernel
theorem dd_M_count_186 : decode prog_9_method_23_code 186 = .ok (.return_, 1) := by decide +kernel
theorem dd_M_mayBegin_0 : decode prog_9_method_24_code 0 = .ok (.bipush 7, 2) := by decide +kernel
theorem dd_M_mayBegin_2 : decode prog_9_method_24_code 2 = .ok (.iload_n 1, 1) := by decide +kernel
theorem dd_M_mayBegin_3 : decode prog_9_method_24_code 3 = .ok (.imul, 1) := by decide +kernel
theorem dd_M_mayBegin_4 : decode prog_9_method_24_code 4 = .ok (.iload_n 2, 1) := by decide +kernel
theorem dd_M_mayBegin_5 : decode prog_9_method_24_code 5 = .ok (.iadd, 1) := by decide +kernel
theorem dd_M_mayBegin_6 : decode prog_9_method_24_code 6 = .ok (.istore 5, 2) := by decide +kernel
theorem dd_M_mayBegin_8 : decode prog_9_method_24_code 8 = .ok (.iload_n 3, 1) := by decide +kernel
theorem dd_M_mayBegin_9 : decode prog_9_method_24_code 9 = .ok (.iload 4, 2) := by decide +kernel
theorem dd_M_mayBegin_11 : decode prog_9_method_24_code 11 = .ok (.if_icmp .ne 5, 3) := by decide +kernel
theorem dd_M_mayBegin_14 : decode prog_9_method_24_code 14 = .ok (.iconst 1, 1) := by decide +kernel
theorem dd_M_mayBegin_15 : decode prog_9_method_24_code 15 = .ok (.ireturn, 1) := by decide +kernel
theorem dd_M_mayBegin_16 : decode prog_9_method_24_code 16 = .ok (.iload_n 2, 1) := by decide +kernel
theorem dd_M_mayBegin_17 : decode prog_9_method_24_code 17 = .ok (.aload_n 0, 1) := by decide +kernel
theorem dd_M_mayBegin_18 : decode prog_9_method_24_code 18 = .ok (.getfield 17, 3) := by decide +kernel
theorem dd_M_mayBegin_21 : decode prog_9_method_24_code 21 = .ok (.iload_n 1, 1) := by decide +kernel
theorem dd_M_mayBegin_22 : decode prog_9_method_24_code 22 = .ok (.iaload, 1) := by decide +kernel
theorem dd_M_mayBegin_23 : decode prog_9_method_24_code 23 = .ok (.if_icmp .ne 5, 3) := by decide +kernel
theorem dd_M_mayBegin_26 : decode prog_9_method_24_code 26 = .ok (.iconst 0, 1) := by decide +kernel
theorem dd_M_mayBegin_27 : decode prog_9_method_24_code 27 = .ok (.ireturn, 1) := by decide +kernel
theorem dd_M_mayBegin_28 : decode prog_9_method_24_code 28 = .ok (.aload_n 0, 1) := by decide +kernel
theorem dd_M_mayBegin_29 : decode prog_9_method_24_code 29 = .ok (.getfield 7, 3) := by decide +kernel
theorem dd_M_mayBegin_32 : decode prog_9_method_24_code 32 = .ok (.iload 5, 2) := by decide +kernel
theorem dd_M_mayBegin_34 : decode prog_9_method_24_code 34 = .ok (.iaload, 1) := by decide +kernel
theorem dd_M_mayBegin_35 : decode prog_9_method_24_code 35 = .ok (.iconst (-1), 1) := by decide +kernel
theorem dd_M_mayBegin_36 : decode prog_9_method_24_code 36 = .ok (.if_icmp .ne 45, 3) := by decide +kernel
theorem dd_M_mayBegin_39 : decode prog_9_method_24_code 39 = .ok (.aload_n 0, 1) := by decide +kernel
theorem dd_M_mayBegin_40 : decode prog_9_method_24_code 40 = .ok (.getfield 30, 3) := by decide +kernel
theorem dd_M_mayBegin_43 : decode prog_9_method_24_code 43 = .ok (.iload_n 3, 1) := by decide +kernel
theorem dd_M_mayBegin_44 : decode prog_9_method_24_code 44 = .ok (.laload, 1) := by decide +kernel
theorem dd_M_mayBegin_45 : decode prog_9_method_24_code 45 = .ok (.aload_n 0, 1) := by decide +kernel
theorem dd_M_mayBegin_46 : decode prog_9_method_24_code 46 = .ok (.getfield 13, 3) := by decide +kernel
theorem dd_M_mayBegin_49 : decode prog_9_method_24_code 49 = .ok (.iload 5, 2) := by decide +kernel
theorem dd_M_mayBegin_51 : decode prog_9_method_24_code 51 = .ok (.laload, 1) := by decide +kernel
theorem dd_M_mayBegin_52 : decode prog_9_method_24_code 52 = .ok (.lcmp, 1) := by decide +kernel
theorem dd_M_mayBegin_53 : decode prog_9_method_24_code 53 = .ok (.ifCond .ne 26, 3) := by decide +kernel
theorem dd_M_mayBegin_56 : decode prog_9_method_24_code 56 = .ok (.aload_n 0, 1) := by decide +kernel
theorem dd_M_mayBegin_57 : decode prog_9_method_24_code 57 = .ok (.getfield 47, 3) := by decide +kernel
theorem dd_M_mayBegin_60 : decode prog_9_method_24_code 60 = .ok (.bipush 31, 2) := by decide +kernel
theorem dd_M_mayBegin_62 : decode prog_9_method_24_code 62 = .ok (.iload 5, 2) := by decide +kernel
theorem dd_M_mayBegin_64 : decode prog_9_method_24_code 64 = .ok (.iconst 1, 1) := by decide +kernel
theorem dd_M_mayBegin_65 : decode prog_9_method_24_code 65 = .ok (.iadd, 1) := by decide +kernel
theorem dd_M_mayBegin_66 : decode prog_9_method_24_code 66 = .ok (.imul, 1) := by decide +kernel
theorem dd_M_mayBegin_67 : decode prog_9_method_24_code 67 = .ok (.iload_n 3, 1) := by decide +kernel
theorem dd_M_mayBegin_68 : decode prog_9_method_24_code 68 = .ok (.iadd, 1) := by decide +kernel
theorem dd_M_mayBegin_69 : decode prog_9_method_24_code 69 = .ok (.iconst 1, 1) := by decide +kernel
theorem dd_M_mayBegin_70 : decode prog_9_method_24_code 70 = .ok (.iadd, 1) := by decide +kernel
theorem dd_M_mayBegin_71 : decode prog_9_method_24_code 71 = .ok (.baload, 1) := by decide +kernel
theorem dd_M_mayBegin_72 : decode prog_9_method_24_code 72 = .ok (.ifCond .eq 7, 3) := by decide +kernel
theorem dd_M_mayBegin_75 : decode prog_9_method_24_code 75 = .ok (.iconst 1, 1) := by decide +kernel
theorem dd_M_mayBegin_76 : decode prog_9_method_24_code 76 = .ok (.goto 4, 3) := by decide +kernel
theorem dd_M_mayBegin_79 : decode prog_9_method_24_code 79 = .ok (.iconst 0, 1) := by decide +kernel
theorem dd_M_mayBegin_80 : decode prog_9_method_24_code 80 = .ok (.ireturn, 1) := by decide +kernel
theorem dd_M_mayBegin_81 : decode prog_9_method_24_code 81 = .ok (.aload_n 0, 1) := by decide +kernel
theorem dd_M_mayBegin_82 : decode prog_9_method_24_code 82 = .ok (.getfield 43, 3) := by decide +kernel
theorem dd_M_mayBegin_85 : decode prog_9_method_24_code 85 = .ok (.bipush 31, 2) := by decide +kernel
theorem dd_M_mayBegin_87 : decode prog_9_method_24_code 87 = .ok (.aload_n 0, 1) := by decide +kernel
theorem dd_M_mayBegin_88 : decode prog_9_method_24_code 88 = .ok (.getfield 7, 3) := by decide +kernel
theorem dd_M_mayBegin_91 : decode prog_9_method_24_code 91 = .ok (.iload 5, 2) := by decide +kernel
theorem dd_M_mayBegin_93 : decode prog_9_method_24_code 93 = .ok (.iaload, 1) := by decide +kernel
theorem dd_M_mayBegin_94 : decode prog_9_method_24_code 94 = .ok (.imul, 1) := by decide +kernel
theorem dd_M_mayBegin_95 : decode prog_9_method_24_code 95 = .ok (.iload_n 3, 1) := by decide +kernel
theorem dd_M_mayBegin_96 : decode prog_9_method_24_code 96 = .ok (.iadd, 1) := by decide +kernel
theorem dd_M_mayBegin_97 : decode prog_9_method_24_code 97 = .ok (.baload, 1) := by decide +kernel
theorem dd_M_mayBegin_98 : decode prog_9_method_24_code 98 = .ok (.istore 6, 2) := by decide +kernel
theorem dd_M_mayBegin_100 : decode prog_9_method_24_code 100 = .ok (.iload_n 3, 1) := by decide +kernel
theorem dd_M_mayBegin_101 : decode prog_9_method_24_code 101 = .ok (.iconst 1, 1) := by decide +kernel
theorem dd_M_mayBegin_102 : decode prog_9_method_24_code 102 = .ok (.iadd, 1) := by decide +kernel
theorem dd_M_mayBegin_103 : decode prog_9_method_24_code 103 = .ok (.istore 7, 2) := by decide +kernel
theorem dd_M_mayBegin_105 : decode prog_9_method_24_code 105 = .ok (.iload 7, 2) := by decide +kernel
theorem dd_M_mayBegin_107 : decode prog_9_method_24_code 107 = .ok (.iload 4, 2) := by decide +kernel
theorem dd_M_mayBegin_109 : decode prog_9_method_24_code 109 = .ok (.if_icmp .gt 60, 3) := by decide +kernel
theorem dd_M_mayBegin_112 : decode prog_9_method_24_code 112 = .ok (.iload 6, 2) := by decide +kernel
theorem dd_M_mayBegin_114 : decode prog_9_method_24_code 114 = .ok (.ifCond .ne 42, 3) := by decide +kernel
theorem dd_M_mayBegin_117 : decode prog_9_method_24_code 117 = .ok (.aload_n 0, 1) := by decide +kernel
theorem dd_M_mayBegin_118 : decode prog_9_method_24_code 118 = .ok (.getfield 36, 3) := by decide +kernel
theorem dd_M_mayBegin_121 : decode prog_9_method_24_code 121 = .ok (.aload_n 0, 1) := by decide +kernel
theorem dd_M_mayBegin_122 : decode prog_9_method_24_code 122 = .ok (.getfield 7, 3) := by decide +kernel
theorem dd_M_mayBegin_125 : decode prog_9_method_24_code 125 = .ok (.iload 5, 2) := by decide +kernel
theorem dd_M_mayBegin_127 : decode prog_9_method_24_code 127 = .ok (.iaload, 1) := by decide +kernel
theorem dd_M_mayBegin_128 : decode prog_9_method_24_code 128 = .ok (.iload_n 3, 1) := by decide +kernel
theorem dd_M_mayBegin_129 : decode prog_9_method_24_code 129 = .ok (.iload 7, 2) := by decide +kernel
theorem dd_M_mayBegin_131 : decode prog_9_method_24_code 131 = .ok (.invokestatic 138, 3) := by decide +kernel
theorem dd_M_mayBegin_134 : decode prog_9_method_24_code 134 = .ok (.iaload, 1) := by decide +kernel
theorem dd_M_mayBegin_135 : decode prog_9_method_24_code 135 = .ok (.ifCond .le 25, 3) := by decide +kernel
theorem dd_M_mayBegin_138 : decode prog_9_method_24_code 138 = .ok (.aload_n 0, 1) := by decide +kernel
theorem dd_M_mayBegin_139 : decode prog_9_method_24_code 139 = .ok (.getfield 47, 3) := by decide +kernel
theorem dd_M_mayBegin_142 : decode prog_9_method_24_code 142 = .ok (.bipush 31, 2) := by decide +kernel
theorem dd_M_mayBegin_144 : decode prog_9_method_24_code 144 = .ok (.iload 5, 2) := by decide +kernel
theorem dd_M_mayBegin_146 : decode prog_9_method_24_code 146 = .ok (.iconst 1, 1) := by decide +kernel
theorem dd_M_mayBegin_147 : decode prog_9_method_24_code 147 = .ok (.iadd, 1) := by decide +kernel
theorem dd_M_mayBegin_148 : decode prog_9_method_24_code 148 = .ok (.imul, 1) := by decide +kernel
theorem dd_M_mayBegin_149 : decode prog_9_method_24_code 149 = .ok (.iload 7, 2) := by decide +kernel
theorem dd_M_mayBegin_151 : decode prog_9_method_24_code 151 = .ok (.iadd, 1) := by decide +kernel
theorem dd_M_mayBegin_152 : decode prog_9_method_24_code 152 = .ok (.baload, 1) := by decide +kernel
theorem dd_M_mayBegin_153 : decode prog_9_method_24_code 153 = .ok (.ifCond .eq 7, 3) := by decide +kernel
theorem dd_M_mayBegin_156 : decode prog_9_method_24_code 156 = .ok (.iconst 1, 1) := by decide +kernel
theorem dd_M_mayBegin_157 : decode prog_9_method_24_code 157 = .ok (.goto 4, 3) := by decide +kernel
theorem dd_M_mayBegin_160 : decode prog_9_method_24_code 160 = .ok (.iconst 0, 1) := by decide +kernel
theorem dd_M_mayBegin_161 : decode prog_9_method_24_code 161 = .ok (.istore 6, 2) := by decide +kernel
theorem dd_M_mayBegin_163 : decode prog_9_method_24_code 163 = .ok (.iinc 7 1, 3) := by decide +kernel
theorem dd_M_mayBegin_166 : decode prog_9_method_24_code 166 = .ok (.goto (-61), 3) := by decide +kernel
theorem dd_M_mayBegin_169 : decode prog_9_method_24_code 169 = .ok (.iload 6, 2) := by decide +kernel
theorem dd_M_mayBegin_171 : decode prog_9_method_24_code 171 = .ok (.ireturn, 1) := by decide +kernel
theorem dd_M_mayBeTerm_0 : decode prog_9_method_25_code 0 = .ok (.iload_n 3, 1) := by decide +kernel
theorem dd_M_mayBeTerm_1 : decode prog_9_method_25_code 1 = .ok (.iload_n 2, 1) := by decide +kernel
theorem dd_M_mayBeTerm_2 : decode prog_9_method_25_code 2 = .ok (.iconst 1, 1) := by decide +kernel
theorem dd_M_mayBeTerm_3 : decode prog_9_method_25_code 3 = .ok (.iadd, 1) := by decide +kernel
theorem dd_M_mayBeTerm_4 : decode prog_9_method_25_code 4 = .ok (.if_icmp .ne 15, 3) := by decide +kernel
theorem dd_M_mayBeTerm_7 : decode prog_9_method_25_code 7 = .ok (.aload_n 0, 1) := by decide +kernel
theorem dd_M_mayBeTerm_8 : decode prog_9_method_25_code 8 = .ok (.iload_n 2, 1) := by decide +kernel
theorem dd_M_mayBeTerm_9 : decode prog_9_method_25_code 9 = .ok (.invokevirtual 146, 3) := by decide +kernel
theorem dd_M_mayBeTerm_12 : decode prog_9_method_25_code 12 = .ok (.ifCond .eq 7, 3) := by decide +kernel
theorem dd_M_mayBeTerm_15 : decode prog_9_method_25_code 15 = .ok (.iconst 1, 1) := by decide +kernel
theorem dd_M_mayBeTerm_16 : decode prog_9_method_25_code 16 = .ok (.goto 4, 3) := by decide +kernel
theorem dd_M_mayBeTerm_19 : decode prog_9_method_25_code 19 = .ok (.iconst 0, 1) := by decide +kernel
theorem dd_M_mayBeTerm_20 : decode prog_9_method_25_code 20 = .ok (.istore 4, 2) := by decide +kernel
theorem dd_M_mayBeTerm_22 : decode prog_9_method_25_code 22 = .ok (.aload_n 0, 1) := by decide +kernel
theorem dd_M_mayBeTerm_23 : decode prog_9_method_25_code 23 = .ok (.iload_n 2, 1) := by decide +kernel
theorem dd_M_mayBeTerm_24 : decode prog_9_method_25_code 24 = .ok (.bipush 40, 2) := by decide +kernel
theorem dd_M_mayBeTerm_26 : decode prog_9_method_25_code 26 = .ok (.invokevirtual 149, 3) := by decide +kernel
theorem dd_M_mayBeTerm_29 : decode prog_9_method_25_code 29 = .ok (.ifCond .eq 75, 3) := by decide +kernel
theorem dd_M_mayBeTerm_32 : decode prog_9_method_25_code 32 = .ok (.iload 4, 2) := by decide +kernel
theorem dd_M_mayBeTerm_34 : decode prog_9_method_25_code 34 = .ok (.ifCond .ne 14, 3) := by decide +kernel
theorem dd_M_mayBeTerm_37 : decode prog_9_method_25_code 37 = .ok (.aload_n 0, 1) := by decide +kernel
theorem dd_M_mayBeTerm_38 : decode prog_9_method_25_code 38 = .ok (.getfield 43, 3) := by decide +kernel
theorem dd_M_mayBeTerm_41 : decode prog_9_method_25_code 41 = .ok (.iload_n 2, 1) := by decide +kernel
theorem dd_M_mayBeTerm_42 : decode prog_9_method_25_code 42 = .ok (.iconst 1, 1) := by decide +kernel
theorem dd_M_mayBeTerm_43 : decode prog_9_method_25_code 43 = .ok (.iadd, 1) := by decide +kernel
theorem dd_M_mayBeTerm_44 : decode prog_9_method_25_code 44 = .ok (.baload, 1) := by decide +kernel
theorem dd_M_mayBeTerm_45 : decode prog_9_method_25_code 45 = .ok (.ifCond .eq 7, 3) := by decide +kernel
theorem dd_M_mayBeTerm_48 : decode prog_9_method_25_code 48 = .ok (.iconst 1, 1) := by decide +kernel
theorem dd_M_mayBeTerm_49 : decode prog_9_method_25_code 49 = .ok (.goto 4, 3) := by decide +kernel
theorem dd_M_mayBeTerm_52 : decode prog_9_method_25_code 52 = .ok (.iconst 0, 1) := by decide +kernel
theorem dd_M_mayBeTerm_53 : decode prog_9_method_25_code 53 = .ok (.istore 4, 2) := by decide +kernel
theorem dd_M_mayBeTerm_55 : decode prog_9_method_25_code 55 = .ok (.iload 4, 2) := by decide +kernel
theorem dd_M_mayBeTerm_57 : decode prog_9_method_25_code 57 = .ok (.ifCond .ne 40, 3) := by decide +kernel
theorem dd_M_mayBeTerm_60 : decode prog_9_method_25_code 60 = .ok (.aload_n 0, 1) := by decide +kernel
theorem dd_M_mayBeTerm_61 : decode prog_9_method_25_code 61 = .ok (.iload_n 3, 1) := by decide +kernel
theorem dd_M_mayBeTerm_62 : decode prog_9_method_25_code 62 = .ok (.iconst 1, 1) := by decide +kernel
theorem dd_M_mayBeTerm_63 : decode prog_9_method_25_code 63 = .ok (.isub, 1) := by decide +kernel
theorem dd_M_mayBeTerm_64 : decode prog_9_method_25_code 64 = .ok (.bipush 41, 2) := by decide +kernel
theorem dd_M_mayBeTerm_66 : decode prog_9_method_25_code 66 = .ok (.invokevirtual 149, 3) := by decide +kernel
theorem dd_M_mayBeTerm_69 : decode prog_9_method_25_code 69 = .ok (.ifCond .eq 32, 3) := by decide +kernel
theorem dd_M_mayBeTerm_72 : decode prog_9_method_25_code 72 = .ok (.iload_n 3, 1) := by decide +kernel
theorem dd_M_mayBeTerm_73 : decode prog_9_method_25_code 73 = .ok (.iload_n 2, 1) := by decide +kernel
theorem dd_M_mayBeTerm_74 : decode prog_9_method_25_code 74 = .ok (.iconst 2, 1) := by decide +kernel
theorem dd_M_mayBeTerm_75 : decode prog_9_method_25_code 75 = .ok (.iadd, 1) := by decide +kernel
theorem dd_M_mayBeTerm_76 : decode prog_9_method_25_code 76 = .ok (.if_icmp .le 25, 3) := by decide +kernel
theorem dd_M_mayBeTerm_79 : decode prog_9_method_25_code 79 = .ok (.aload_n 0, 1) := by decide +kernel
theorem dd_M_mayBeTerm_80 : decode prog_9_method_25_code 80 = .ok (.getfield 36, 3) := by decide +kernel
theorem dd_M_mayBeTerm_83 : decode prog_9_method_25_code 83 = .ok (.iconst 0, 1) := by decide +kernel
theorem dd_M_mayBeTerm_84 : decode prog_9_method_25_code 84 = .ok (.iload_n 2, 1) := by decide +kernel
theorem dd_M_mayBeTerm_85 : decode prog_9_method_25_code 85 = .ok (.iconst 1, 1) := by decide +kernel
theorem dd_M_mayBeTerm_86 : decode prog_9_method_25_code 86 = .ok (.iadd, 1) := by decide +kernel
theorem dd_M_mayBeTerm_87 : decode prog_9_method_25_code 87 = .ok (.iload_n 3, 1) := by decide +kernel
theorem dd_M_mayBeTerm_88 : decode prog_9_method_25_code 88 = .ok (.iconst 1, 1) := by decide +kernel
theorem dd_M_mayBeTerm_89 : decode prog_9_method_25_code 89 = .ok (.isub, 1) := by decide +kernel
theorem dd_M_mayBeTerm_90 : decode prog_9_method_25_code 90 = .ok (.invokestatic 138, 3) := by decide +kernel
theorem dd_M_mayBeTerm_93 : decode prog_9_method_25_code 93 = .ok (.iaload, 1) := by decide +kernel
theorem dd_M_mayBeTerm_94 : decode prog_9_method_25_code 94 = .ok (.ifCond .le 7, 3) := by decide +kernel
theorem dd_M_mayBeTerm_97 : decode prog_9_method_25_code 97 = .ok (.iconst 1, 1) := by decide +kernel
theorem dd_M_mayBeTerm_98 : decode prog_9_method_25_code 98 = .ok (.goto 4, 3) := by decide +kernel
theorem dd_M_mayBeTerm_101 : decode prog_9_method_25_code 101 = .ok (.iconst 0, 1) := by decide +kernel
theorem dd_M_mayBeTerm_102 : decode prog_9_method_25_code 102 = .ok (.istore 4, 2) := by decide +kernel
theorem dd_M_mayBeTerm_104 : decode prog_9_method_25_code 104 = .ok (.iconst 0, 1) := by decide +kernel
theorem dd_M_mayBeTerm_105 : decode prog_9_method_25_code 105 = .ok (.istore 5, 2) := by decide +kernel
theorem dd_M_mayBeTerm_107 : decode prog_9_method_25_code 107 = .ok (.iload 5, 2) := by decide +kernel
theorem dd_M_mayBeTerm_109 : decode prog_9_method_25_code 109 = .ok (.aload_n 0, 1) := by decide +kernel
theorem dd_M_mayBeTerm_110 : decode prog_9_method_25_code 110 = .ok (.getfield 100, 3) := by decide +kernel
theorem dd_M_mayBeTerm_113 : decode prog_9_method_25_code 113 = .ok (.if_icmp .ge 44, 3) := by decide +kernel
theorem dd_M_mayBeTerm_116 : decode prog_9_method_25_code 116 = .ok (.iload 4, 2) := by decide +kernel
theorem dd_M_mayBeTerm_118 : decode prog_9_method_25_code 118 = .ok (.ifCond .ne 26, 3) := by decide +kernel
theorem dd_M_mayBeTerm_121 : decode prog_9_method_25_code 121 = .ok (.aload_n 0, 1) := by decide +kernel
theorem dd_M_mayBeTerm_122 : decode prog_9_method_25_code 122 = .ok (.getfield 20, 3) := by decide +kernel
theorem dd_M_mayBeTerm_125 : decode prog_9_method_25_code 125 = .ok (.iload 5, 2) := by decide +kernel
theorem dd_M_mayBeTerm_127 : decode prog_9_method_25_code 127 = .ok (.iaload, 1) := by decide +kernel
theorem dd_M_mayBeTerm_128 : decode prog_9_method_25_code 128 = .ok (.iload_n 1, 1) := by decide +kernel
theorem dd_M_mayBeTerm_129 : decode prog_9_method_25_code 129 = .ok (.if_icmp .lt 19, 3) := by decide +kernel
theorem dd_M_mayBeTerm_132 : decode prog_9_method_25_code 132 = .ok (.aload_n 0, 1) := by decide +kernel
theorem dd_M_mayBeTerm_133 : decode prog_9_method_25_code 133 = .ok (.iload 5, 2) := by decide +kernel
theorem dd_M_mayBeTerm_135 : decode prog_9_method_25_code 135 = .ok (.iconst 0, 1) := by decide +kernel
theorem dd_M_mayBeTerm_136 : decode prog_9_method_25_code 136 = .ok (.iload_n 2, 1) := by decide +kernel
theorem dd_M_mayBeTerm_137 : decode prog_9_method_25_code 137 = .ok (.iload_n 3, 1) := by decide +kernel
theorem dd_M_mayBeTerm_138 : decode prog_9_method_25_code 138 = .ok (.invokevirtual 161, 3) := by decide +kernel
theorem dd_M_mayBeTerm_141 : decode prog_9_method_25_code 141 = .ok (.ifCond .eq 7, 3) := by decide +kernel
theorem dd_M_mayBeTerm_144 : decode prog_9_method_25_code 144 = .ok (.iconst 1, 1) := by decide +kernel
theorem dd_M_mayBeTerm_145 : decode prog_9_method_25_code 145 = .ok (.goto 4, 3) := by decide +kernel
theorem dd_M_mayBeTerm_148 : decode prog_9_method_25_code 148 = .ok (.iconst 0, 1) := by decide +kernel
theorem dd_M_mayBeTerm_149 : decode prog_9_method_25_code 149 = .ok (.istore 4, 2) := by decide +kernel
theorem dd_M_mayBeTerm_151 : decode prog_9_method_25_code 151 = .ok (.iinc 5 1, 3) := by decide +kernel
theorem dd_M_mayBeTerm_154 : decode prog_9_method_25_code 154 = .ok (.goto (-47), 3) := by decide +kernel
theorem dd_M_mayBeTerm_157 : decode prog_9_method_25_code 157 = .ok (.iload 4, 2) := by decide +kernel
theorem dd_M_mayBeTerm_159 : decode prog_9_method_25_code 159 = .ok (.ireturn, 1) := by decide +kernel
theorem dd_M_canBegin_0 : decode prog_9_method_26_code 0 = .ok (.iconst 0, 1) := by decide +kernel
theorem dd_M_canBegin_1 : decode prog_9_method_26_code 1 = .ok (.istore_n 2, 1) := by decide +kernel
theorem dd_M_canBegin_2 : decode prog_9_method_26_code 2 = .ok (.iload_n 2, 1) := by decide +kernel
theorem dd_M_canBegin_3 : decode prog_9_method_26_code 3 = .ok (.sipush 2604, 3) := by decide +kernel
theorem dd_M_canBegin_6 : decode prog_9_method_26_code 6 = .ok (.if_icmp .ge 16, 3) := by decide +kernel
theorem dd_M_canBegin_9 : decode prog_9_method_26_code 9 = .ok (.aload_n 0, 1) := by decide +kernel
theorem dd_M_canBegin_10 : decode prog_9_method_26_code 10 = .ok (.getfield 47, 3) := by decide +kernel
theorem dd_M_canBegin_13 : decode prog_9_method_26_code 13 = .ok (.iload_n 2, 1) := by decide +kernel
theorem dd_M_canBegin_14 : decode prog_9_method_26_code 14 = .ok (.iconst 0, 1) := by decide +kernel
theorem dd_M_canBegin_15 : decode prog_9_method_26_code 15 = .ok (.bastore, 1) := by decide +kernel
theorem dd_M_canBegin_16 : decode prog_9_method_26_code 16 = .ok (.iinc 2 1, 3) := by decide +kernel
theorem dd_M_canBegin_19 : decode prog_9_method_26_code 19 = .ok (.goto (-17), 3) := by decide +kernel
theorem dd_M_canBegin_22 : decode prog_9_method_26_code 22 = .ok (.iconst 0, 1) := by decide +kernel
theorem dd_M_canBegin_23 : decode prog_9_method_26_code 23 = .ok (.istore_n 2, 1) := by decide +kernel
theorem dd_M_canBegin_24 : decode prog_9_method_26_code 24 = .ok (.iload_n 2, 1) := by decide +kernel
theorem dd_M_canBegin_25 : decode prog_9_method_26_code 25 = .ok (.sipush 341, 3) := by decide +kernel
theorem dd_M_canBegin_28 : decode prog_9_method_26_code 28 = .ok (.if_icmp .ge 16, 3) := by decide +kernel
theorem dd_M_canBegin_31 : decode prog_9_method_26_code 31 = .ok (.aload_n 0, 1) := by decide +kernel
theorem dd_M_canBegin_32 : decode prog_9_method_26_code 32 = .ok (.getfield 43, 3) := by decide +kernel
theorem dd_M_canBegin_35 : decode prog_9_method_26_code 35 = .ok (.iload_n 2, 1) := by decide +kernel
theorem dd_M_canBegin_36 : decode prog_9_method_26_code 36 = .ok (.iconst 0, 1) := by decide +kernel
theorem dd_M_canBegin_37 : decode prog_9_method_26_code 37 = .ok (.bastore, 1) := by decide +kernel
theorem dd_M_canBegin_38 : decode prog_9_method_26_code 38 = .ok (.iinc 2 1, 3) := by decide +kernel
theorem dd_M_canBegin_41 : decode prog_9_method_26_code 41 = .ok (.goto (-17), 3) := by decide +kernel
theorem dd_M_canBegin_44 : decode prog_9_method_26_code 44 = .ok (.iconst 0, 1) := by decide +kernel
theorem dd_M_canBegin_45 : decode prog_9_method_26_code 45 = .ok (.istore_n 2, 1) := by decide +kernel
theorem dd_M_canBegin_46 : decode prog_9_method_26_code 46 = .ok (.iload_n 2, 1) := by decide +kernel
theorem dd_M_canBegin_47 : decode prog_9_method_26_code 47 = .ok (.bipush 11, 2) := by decide +kernel
theorem dd_M_canBegin_49 : decode prog_9_method_26_code 49 = .ok (.if_icmp .ge 21, 3) := by decide +kernel
theorem dd_M_canBegin_52 : decode prog_9_method_26_code 52 = .ok (.aload_n 0, 1) := by decide +kernel
theorem dd_M_canBegin_53 : decode prog_9_method_26_code 53 = .ok (.getfield 43, 3) := by decide +kernel
theorem dd_M_canBegin_56 : decode prog_9_method_26_code 56 = .ok (.bipush 31, 2) := by decide +kernel
theorem dd_M_canBegin_58 : decode prog_9_method_26_code 58 = .ok (.iload_n 2, 1) := by decide +kernel
theorem dd_M_canBegin_59 : decode prog_9_method_26_code 59 = .ok (.imul, 1) := by decide +kernel
theorem dd_M_canBegin_60 : decode prog_9_method_26_code 60 = .ok (.iload_n 1, 1) := by decide +kernel
theorem dd_M_canBegin_61 : decode prog_9_method_26_code 61 = .ok (.iadd, 1) := by decide +kernel
theorem dd_M_canBegin_62 : decode prog_9_method_26_code 62 = .ok (.iconst 1, 1) := by decide +kernel
theorem dd_M_canBegin_63 : decode prog_9_method_26_code 63 = .ok (.bastore, 1) := by decide +kernel
theorem dd_M_canBegin_64 : decode prog_9_method_26_code 64 = .ok (.iinc 2 1, 3) := by decide +kernel
theorem dd_M_canBegin_67 : decode prog_9_method_26_code 67 = .ok (.goto (-21), 3) := by decide +kernel
theorem dd_M_canBegin_70 : decode prog_9_method_26_code 70 = .ok (.iconst 0, 1) := by decide +kernel
theorem dd_M_canBegin_71 : decode prog_9_method_26_code 71 = .ok (.istore_n 2, 1) := by decide +kernel
theorem dd_M_canBegin_72 : decode prog_9_method_26_code 72 = .ok (.iload_n 2, 1) := by decide +kernel
theorem dd_M_canBegin_73 : decode prog_9_method_26_code 73 = .ok (.aload_n 0, 1) := by decide +kernel
theorem dd_M_canBegin_74 : decode prog_9_method_26_code 74 = .ok (.getfield 100, 3) := by decide +kernel
theorem dd_M_canBegin_77 : decode prog_9_method_26_code 77 = .ok (.if_icmp .ge 44, 3) := by decide +kernel
theorem dd_M_canBegin_80 : decode prog_9_method_26_code 80 = .ok (.iconst 0, 1) := by decide +kernel
theorem dd_M_canBegin_81 : decode prog_9_method_26_code 81 = .ok (.istore_n 3, 1) := by decide +kernel
theorem dd_M_canBegin_82 : decode prog_9_method_26_code 82 = .ok (.iload_n 3, 1) := by decide +kernel
theorem dd_M_canBegin_83 : decode prog_9_method_26_code 83 = .ok (.aload_n 0, 1) := by decide +kernel
theorem dd_M_canBegin_84 : decode prog_9_method_26_code 84 = .ok (.getfield 17, 3) := by decide +kernel
theorem dd_M_canBegin_87 : decode prog_9_method_26_code 87 = .ok (.iload_n 2, 1) := by decide +kernel
theorem dd_M_canBegin_88 : decode prog_9_method_26_code 88 = .ok (.iaload, 1) := by decide +kernel
theorem dd_M_canBegin_89 : decode prog_9_method_26_code 89 = .ok (.if_icmp .gt 26, 3) := by decide +kernel
theorem dd_M_canBegin_92 : decode prog_9_method_26_code 92 = .ok (.aload_n 0, 1) := by decide +kernel
theorem dd_M_canBegin_93 : decode prog_9_method_26_code 93 = .ok (.getfield 47, 3) := by decide +kernel
theorem dd_M_canBegin_96 : decode prog_9_method_26_code 96 = .ok (.bipush 31, 2) := by decide +kernel
theorem dd_M_canBegin_98 : decode prog_9_method_26_code 98 = .ok (.bipush 7, 2) := by decide +kernel
theorem dd_M_canBegin_100 : decode prog_9_method_26_code 100 = .ok (.iload_n 2, 1) := by decide +kernel
theorem dd_M_canBegin_101 : decode prog_9_method_26_code 101 = .ok (.imul, 1) := by decide +kernel
theorem dd_M_canBegin_102 : decode prog_9_method_26_code 102 = .ok (.iload_n 3, 1) := by decide +kernel
theorem dd_M_canBegin_103 : decode prog_9_method_26_code 103 = .ok (.iadd, 1) := by decide +kernel
theorem dd_M_canBegin_104 : decode prog_9_method_26_code 104 = .ok (.imul, 1) := by decide +kernel
theorem dd_M_canBegin_105 : decode prog_9_method_26_code 105 = .ok (.iload_n 1, 1) := by decide +kernel
theorem dd_M_canBegin_106 : decode prog_9_method_26_code 106 = .ok (.iadd, 1) := by decide +kernel
theorem dd_M_canBegin_107 : decode prog_9_method_26_code 107 = .ok (.iconst 1, 1) := by decide +kernel
theorem dd_M_canBegin_108 : decode prog_9_method_26_code 108 = .ok (.bastore, 1) := by decide +kernel
theorem dd_M_canBegin_109 : decode prog_9_method_26_code 109 = .ok (.iinc 3 1, 3) := by decide +kernel
theorem dd_M_canBegin_112 : decode prog_9_method_26_code 112 = .ok (.goto (-30), 3) := by decide +kernel
theorem dd_M_canBegin_115 : decode prog_9_method_26_code 115 = .ok (.iinc 2 1, 3) := by decide +kernel
theorem dd_M_canBegin_118 : decode prog_9_method_26_code 118 = .ok (.goto (-46), 3) := by decide +kernel
theorem dd_M_canBegin_121 : decode prog_9_method_26_code 121 = .ok (.iload_n 1, 1) := by decide +kernel
theorem dd_M_canBegin_122 : decode prog_9_method_26_code 122 = .ok (.iconst 1, 1) := by decide +kernel
theorem dd_M_canBegin_123 : decode prog_9_method_26_code 123 = .ok (.isub, 1) := by decide +kernel
theorem dd_M_canBegin_124 : decode prog_9_method_26_code 124 = .ok (.istore_n 2, 1) := by decide +kernel
theorem dd_M_canBegin_125 : decode prog_9_method_26_code 125 = .ok (.iload_n 2, 1) := by decide +kernel
theorem dd_M_canBegin_126 : decode prog_9_method_26_code 126 = .ok (.ifCond .lt 121, 3) := by decide +kernel
theorem dd_M_canBegin_129 : decode prog_9_method_26_code 129 = .ok (.iconst 0, 1) := by decide +kernel
theorem dd_M_canBegin_130 : decode prog_9_method_26_code 130 = .ok (.istore_n 3, 1) := by decide +kernel
theorem dd_M_canBegin_131 : decode prog_9_method_26_code 131 = .ok (.iload_n 3, 1) := by decide +kernel
theorem dd_M_canBegin_132 : decode prog_9_method_26_code 132 = .ok (.bipush 11, 2) := by decide +kernel
theorem dd_M_canBegin_134 : decode prog_9_method_26_code 134 = .ok (.if_icmp .ge 45, 3) := by decide +kernel
theorem dd_M_canBegin_137 : decode prog_9_method_26_code 137 = .ok (.iconst 0, 1) := by decide +kernel
theorem dd_M_canBegin_138 : decode prog_9_method_26_code 138 = .ok (.istore 4, 2) := by decide +kernel
theorem dd_M_canBegin_140 : decode prog_9_method_26_code 140 = .ok (.iload 4, 2) := by decide +kernel
theorem dd_M_canBegin_142 : decode prog_9_method_26_code 142 = .ok (.bipush 11, 2) := by decide +kernel
theorem dd_M_canBegin_144 : decode prog_9_method_26_code 144 = .ok (.if_icmp .ge 29, 3) := by decide +kernel
theorem dd_M_canBegin_147 : decode prog_9_method_26_code 147 = .ok (.aload_n 0, 1) := by decide +kernel
theorem dd_M_canBegin_148 : decode prog_9_method_26_code 148 = .ok (.getfield 43, 3) := by decide +kernel
theorem dd_M_canBegin_151 : decode prog_9_method_26_code 151 = .ok (.bipush 31, 2) := by decide +kernel
theorem dd_M_canBegin_153 : decode prog_9_method_26_code 153 = .ok (.iload 4, 2) := by decide +kernel
theorem dd_M_canBegin_155 : decode prog_9_method_26_code 155 = .ok (.imul, 1) := by decide +kernel
theorem dd_M_canBegin_156 : decode prog_9_method_26_code 156 = .ok (.iload_n 2, 1) := by decide +kernel
theorem dd_M_canBegin_157 : decode prog_9_method_26_code 157 = .ok (.iadd, 1) := by decide +kernel
theorem dd_M_canBegin_158 : decode prog_9_method_26_code 158 = .ok (.aload_n 0, 1) := by decide +kernel
theorem dd_M_canBegin_159 : decode prog_9_method_26_code 159 = .ok (.iload 4, 2) := by decide +kernel
theorem dd_M_canBegin_161 : decode prog_9_method_26_code 161 = .ok (.iload_n 2, 1) := by decide +kernel
theorem dd_M_canBegin_162 : decode prog_9_method_26_code 162 = .ok (.iload_n 1, 1) := by decide +kernel
theorem dd_M_canBegin_163 : decode prog_9_method_26_code 163 = .ok (.invokevirtual 165, 3) := by decide +kernel
theorem dd_M_canBegin_166 : decode prog_9_method_26_code 166 = .ok (.bastore, 1) := by decide +kernel
theorem dd_M_canBegin_167 : decode prog_9_method_26_code 167 = .ok (.iinc 4 1, 3) := by decide +kernel
theorem dd_M_canBegin_170 : decode prog_9_method_26_code 170 = .ok (.goto (-30), 3) := by decide +kernel
theorem dd_M_canBegin_173 : decode prog_9_method_26_code 173 = .ok (.iinc 3 1, 3) := by decide +kernel
theorem dd_M_canBegin_176 : decode prog_9_method_26_code 176 = .ok (.goto (-45), 3) := by decide +kernel
theorem dd_M_canBegin_179 : decode prog_9_method_26_code 179 = .ok (.iconst 0, 1) := by decide +kernel
theorem dd_M_canBegin_180 : decode prog_9_method_26_code 180 = .ok (.istore_n 3, 1) := by decide +kernel
theorem dd_M_canBegin_181 : decode prog_9_method_26_code 181 = .ok (.iload_n 3, 1) := by decide +kernel
theorem dd_M_canBegin_182 : decode prog_9_method_26_code 182 = .ok (.aload_n 0, 1) := by decide +kernel
theorem dd_M_canBegin_183 : decode prog_9_method_26_code 183 = .ok (.getfield 100, 3) := by decide +kernel
theorem dd_M_canBegin_186 : decode prog_9_method_26_code 186 = .ok (.if_icmp .ge 55, 3) := by decide +kernel
theorem dd_M_canBegin_189 : decode prog_9_method_26_code 189 = .ok (.iconst 0, 1) := by decide +kernel
theorem dd_M_canBegin_190 : decode prog_9_method_26_code 190 = .ok (.istore 4, 2) := by decide +kernel
theorem dd_M_canBegin_192 : decode prog_9_method_26_code 192 = .ok (.iload 4, 2) := by decide +kernel
theorem dd_M_canBegin_194 : decode prog_9_method_26_code 194 = .ok (.aload_n 0, 1) := by decide +kernel
theorem dd_M_canBegin_195 : decode prog_9_method_26_code 195 = .ok (.getfield 17, 3) := by decide +kernel
theorem dd_M_canBegin_198 : decode prog_9_method_26_code 198 = .ok (.iload_n 3, 1) := by decide +kernel
theorem dd_M_canBegin_199 : decode prog_9_method_26_code 199 = .ok (.iaload, 1) := by decide +kernel
theorem dd_M_canBegin_200 : decode prog_9_method_26_code 200 = .ok (.if_icmp .gt 35, 3) := by decide +kernel
theorem dd_M_canBegin_203 : decode prog_9_method_26_code 203 = .ok (.aload_n 0, 1) := by decide +kernel
theorem dd_M_canBegin_204 : decode prog_9_method_26_code 204 = .ok (.getfield 47, 3) := by decide +kernel
theorem dd_M_canBegin_207 : decode prog_9_method_26_code 207 = .ok (.bipush 31, 2) := by decide +kernel
theorem dd_M_canBegin_209 : decode prog_9_method_26_code 209 = .ok (.bipush 7, 2) := by decide +kernel
theorem dd_M_canBegin_211 : decode prog_9_method_26_code 211 = .ok (.iload_n 3, 1) := by decide +kernel
theorem dd_M_canBegin_212 : decode prog_9_method_26_code 212 = .ok (.imul, 1) := by decide +kernel
theorem dd_M_canBegin_213 : decode prog_9_method_26_code 213 = .ok (.iload 4, 2) := by decide +kernel
theorem dd_M_canBegin_215 : decode prog_9_method_26_code 215 = .ok (.iadd, 1) := by decide +kernel
theorem dd_M_canBegin_216 : decode prog_9_method_26_code 216 = .ok (.imul, 1) := by decide +kernel
theorem dd_M_canBegin_217 : decode prog_9_method_26_code 217 = .ok (.iload_n 2, 1) := by decide +kernel
theorem dd_M_canBegin_218 : decode prog_9_method_26_code 218 = .ok (.iadd, 1) := by decide +kernel
theorem dd_M_canBegin_219 : decode prog_9_method_26_code 219 = .ok (.aload_n 0, 1) := by decide +kernel
theorem dd_M_canBegin_220 : decode prog_9_method_26_code 220 = .ok (.iload_n 3, 1) := by decide +kernel
theorem dd_M_canBegin_221 : decode prog_9_method_26_code 221 = .ok (.iload 4, 2) := by decide +kernel
theorem dd_M_canBegin_223 : decode prog_9_method_26_code 223 = .ok (.iload_n 2, 1) := by decide +kernel
theorem dd_M_canBegin_224 : decode prog_9_method_26_code 224 = .ok (.iload_n 1, 1) := by decide +kernel
theorem dd_M_canBegin_225 : decode prog_9_method_26_code 225 = .ok (.invokevirtual 161, 3) := by decide +kernel
theorem dd_M_canBegin_228 : decode prog_9_method_26_code 228 = .ok (.bastore, 1) := by decide +kernel
theorem dd_M_canBegin_229 : decode prog_9_method_26_code 229 = .ok (.iinc 4 1, 3) := by decide +kernel
theorem dd_M_canBegin_232 : decode prog_9_method_26_code 232 = .ok (.goto (-40), 3) := by decide +kernel
theorem dd_M_canBegin_235 : decode prog_9_method_26_code 235 = .ok (.iinc 3 1, 3) := by decide +kernel
theorem dd_M_canBegin_238 : decode prog_9_method_26_code 238 = .ok (.goto (-57), 3) := by decide +kernel
theorem dd_M_canBegin_241 : decode prog_9_method_26_code 241 = .ok (.iinc 2 (-1), 3) := by decide +kernel
theorem dd_M_canBegin_244 : decode prog_9_method_26_code 244 = .ok (.goto (-119), 3) := by decide +kernel
theorem dd_M_canBegin_247 : decode prog_9_method_26_code 247 = .ok (.aload_n 0, 1) := by decide +kernel
theorem dd_M_canBegin_248 : decode prog_9_method_26_code 248 = .ok (.getfield 43, 3) := by decide +kernel
theorem dd_M_canBegin_251 : decode prog_9_method_26_code 251 = .ok (.iconst 0, 1) := by decide +kernel
theorem dd_M_canBegin_252 : decode prog_9_method_26_code 252 = .ok (.baload, 1) := by decide +kernel
theorem dd_M_canBegin_253 : decode prog_9_method_26_code 253 = .ok (.ireturn, 1) := by decide +kernel
theorem dd_M_faulty_0 : decode prog_9_method_27_code 0 = .ok (.aload_n 0, 1) := by decide +kernel
theorem dd_M_faulty_1 : decode prog_9_method_27_code 1 = .ok (.iload_n 1, 1) := by decide +kernel
theorem dd_M_faulty_2 : decode prog_9_method_27_code 2 = .ok (.putfield 169, 3) := by decide +kernel
theorem dd_M_faulty_5 : decode prog_9_method_27_code 5 = .ok (.aload_n 0, 1) := by decide +kernel
theorem dd_M_faulty_6 : decode prog_9_method_27_code 6 = .ok (.iload_n 2, 1) := by decide +kernel
theorem dd_M_faulty_7 : decode prog_9_method_27_code 7 = .ok (.putfield 26, 3) := by decide +kernel
theorem dd_M_faulty_10 : decode prog_9_method_27_code 10 = .ok (.aload_n 0, 1) := by decide +kernel
theorem dd_M_faulty_11 : decode prog_9_method_27_code 11 = .ok (.iconst 1, 1) := by decide +kernel
theorem dd_M_faulty_12 : decode prog_9_method_27_code 12 = .ok (.putfield 80, 3) := by decide +kernel
theorem dd_M_faulty_15 : decode prog_9_method_27_code 15 = .ok (.return_, 1) := by decide +kernel
theorem dd_M_change_0 : decode prog_9_method_34_code 0 = .ok (.aload_n 0, 1) := by decide +kernel
theorem dd_M_change_1 : decode prog_9_method_34_code 1 = .ok (.getfield 62, 3) := by decide +kernel
theorem dd_M_change_4 : decode prog_9_method_34_code 4 = .ok (.iload_n 1, 1) := by decide +kernel
theorem dd_M_change_5 : decode prog_9_method_34_code 5 = .ok (.iaload, 1) := by decide +kernel
theorem dd_M_change_6 : decode prog_9_method_34_code 6 = .ok (.istore_n 3, 1) := by decide +kernel
theorem dd_M_change_7 : decode prog_9_method_34_code 7 = .ok (.aload_n 0, 1) := by decide +kernel
theorem dd_M_change_8 : decode prog_9_method_34_code 8 = .ok (.getfield 65, 3) := by decide +kernel
theorem dd_M_change_11 : decode prog_9_method_34_code 11 = .ok (.iload_n 1, 1) := by decide +kernel
theorem dd_M_change_12 : decode prog_9_method_34_code 12 = .ok (.iaload, 1) := by decide +kernel
theorem dd_M_change_13 : decode prog_9_method_34_code 13 = .ok (.istore 4, 2) := by decide +kernel
theorem dd_M_change_15 : decode prog_9_method_34_code 15 = .ok (.aload_n 0, 1) := by decide +kernel
theorem dd_M_change_16 : decode prog_9_method_34_code 16 = .ok (.getfield 68, 3) := by decide +kernel
theorem dd_M_change_19 : decode prog_9_method_34_code 19 = .ok (.iload_n 1, 1) := by decide +kernel
theorem dd_M_change_20 : decode prog_9_method_34_code 20 = .ok (.iaload, 1) := by decide +kernel
theorem dd_M_change_21 : decode prog_9_method_34_code 21 = .ok (.istore 5, 2) := by decide +kernel
theorem dd_M_change_23 : decode prog_9_method_34_code 23 = .ok (.aload_n 0, 1) := by decide +kernel
theorem dd_M_change_24 : decode prog_9_method_34_code 24 = .ok (.getfield 62, 3) := by decide +kernel
theorem dd_M_change_27 : decode prog_9_method_34_code 27 = .ok (.iload_n 1, 1) := by decide +kernel
theorem dd_M_change_28 : decode prog_9_method_34_code 28 = .ok (.aload_n 0, 1) := by decide +kernel
theorem dd_M_change_29 : decode prog_9_method_34_code 29 = .ok (.getfield 62, 3) := by decide +kernel
theorem dd_M_change_32 : decode prog_9_method_34_code 32 = .ok (.iload_n 2, 1) := by decide +kernel
theorem dd_M_change_33 : decode prog_9_method_34_code 33 = .ok (.iaload, 1) := by decide +kernel
theorem dd_M_change_34 : decode prog_9_method_34_code 34 = .ok (.iastore, 1) := by decide +kernel
theorem dd_M_change_35 : decode prog_9_method_34_code 35 = .ok (.aload_n 0, 1) := by decide +kernel
theorem dd_M_change_36 : decode prog_9_method_34_code 36 = .ok (.getfield 65, 3) := by decide +kernel
theorem dd_M_change_39 : decode prog_9_method_34_code 39 = .ok (.iload_n 1, 1) := by decide +kernel
theorem dd_M_change_40 : decode prog_9_method_34_code 40 = .ok (.aload_n 0, 1) := by decide +kernel
theorem dd_M_change_41 : decode prog_9_method_34_code 41 = .ok (.getfield 65, 3) := by decide +kernel
theorem dd_M_change_44 : decode prog_9_method_34_code 44 = .ok (.iload_n 2, 1) := by decide +kernel
theorem dd_M_change_45 : decode prog_9_method_34_code 45 = .ok (.iaload, 1) := by decide +kernel
theorem dd_M_change_46 : decode prog_9_method_34_code 46 = .ok (.iastore, 1) := by decide +kernel
theorem dd_M_change_47 : decode prog_9_method_34_code 47 = .ok (.aload_n 0, 1) := by decide +kernel
theorem dd_M_change_48 : decode prog_9_method_34_code 48 = .ok (.getfield 68, 3) := by decide +kernel
theorem dd_M_change_51 : decode prog_9_method_34_code 51 = .ok (.iload_n 1, 1) := by decide +kernel
theorem dd_M_change_52 : decode prog_9_method_34_code 52 = .ok (.aload_n 0, 1) := by decide +kernel
theorem dd_M_change_53 : decode prog_9_method_34_code 53 = .ok (.getfield 68, 3) := by decide +kernel
theorem dd_M_change_56 : decode prog_9_method_34_code 56 = .ok (.iload_n 2, 1) := by decide +kernel
theorem dd_M_change_57 : decode prog_9_method_34_code 57 = .ok (.iaload, 1) := by decide +kernel
theorem dd_M_change_58 : decode prog_9_method_34_code 58 = .ok (.iastore, 1) := by decide +kernel
theorem dd_M_change_59 : decode prog_9_method_34_code 59 = .ok (.aload_n 0, 1) := by decide +kernel
theorem dd_M_change_60 : decode prog_9_method_34_code 60 = .ok (.getfield 62, 3) := by decide +kernel
theorem dd_M_change_63 : decode prog_9_method_34_code 63 = .ok (.iload_n 2, 1) := by decide +kernel
theorem dd_M_change_64 : decode prog_9_method_34_code 64 = .ok (.iload_n 3, 1) := by decide +kernel
theorem dd_M_change_65 : decode prog_9_method_34_code 65 = .ok (.iastore, 1) := by decide +kernel
theorem dd_M_change_66 : decode prog_9_method_34_code 66 = .ok (.aload_n 0, 1) := by decide +kernel
theorem dd_M_change_67 : decode prog_9_method_34_code 67 = .ok (.getfield 65, 3) := by decide +kernel
theorem dd_M_change_70 : decode prog_9_method_34_code 70 = .ok (.iload_n 2, 1) := by decide +kernel
theorem dd_M_change_71 : decode prog_9_method_34_code 71 = .ok (.iload 4, 2) := by decide +kernel
theorem dd_M_change_73 : decode prog_9_method_34_code 73 = .ok (.iastore, 1) := by decide +kernel
theorem dd_M_change_74 : decode prog_9_method_34_code 74 = .ok (.aload_n 0, 1) := by decide +kernel
theorem dd_M_change_75 : decode prog_9_method_34_code 75 = .ok (.getfield 68, 3) := by decide +kernel
theorem dd_M_change_78 : decode prog_9_method_34_code 78 = .ok (.iload_n 2, 1) := by decide +kernel
theorem dd_M_change_79 : decode prog_9_method_34_code 79 = .ok (.iload 5, 2) := by decide +kernel
theorem dd_M_change_81 : decode prog_9_method_34_code 81 = .ok (.iastore, 1) := by decide +kernel
theorem dd_M_change_82 : decode prog_9_method_34_code 82 = .ok (.return_, 1) := by decide +kernel
theorem dd_M_later_0 : decode prog_9_method_30_code 0 = .ok (.aload_n 0, 1) := by decide +kernel
theorem dd_M_later_1 : decode prog_9_method_30_code 1 = .ok (.getfield 62, 3) := by decide +kernel
theorem dd_M_later_4 : decode prog_9_method_30_code 4 = .ok (.aload_n 0, 1) := by decide +kernel
theorem dd_M_later_5 : decode prog_9_method_30_code 5 = .ok (.getfield 188, 3) := by decide +kernel
theorem dd_M_later_8 : decode prog_9_method_30_code 8 = .ok (.iload_n 1, 1) := by decide +kernel
theorem dd_M_later_9 : decode prog_9_method_30_code 9 = .ok (.iastore, 1) := by decide +kernel
theorem dd_M_later_10 : decode prog_9_method_30_code 10 = .ok (.aload_n 0, 1) := by decide +kernel
theorem dd_M_later_11 : decode prog_9_method_30_code 11 = .ok (.getfield 65, 3) := by decide +kernel
theorem dd_M_later_14 : decode prog_9_method_30_code 14 = .ok (.aload_n 0, 1) := by decide +kernel
theorem dd_M_later_15 : decode prog_9_method_30_code 15 = .ok (.getfield 188, 3) := by decide +kernel
theorem dd_M_later_18 : decode prog_9_method_30_code 18 = .ok (.iload_n 2, 1) := by decide +kernel
theorem dd_M_later_19 : decode prog_9_method_30_code 19 = .ok (.iastore, 1) := by decide +kernel
theorem dd_M_later_20 : decode prog_9_method_30_code 20 = .ok (.aload_n 0, 1) := by decide +kernel
theorem dd_M_later_21 : decode prog_9_method_30_code 21 = .ok (.getfield 68, 3) := by decide +kernel
theorem dd_M_later_24 : decode prog_9_method_30_code 24 = .ok (.aload_n 0, 1) := by decide +kernel
theorem dd_M_later_25 : decode prog_9_method_30_code 25 = .ok (.getfield 188, 3) := by decide +kernel
theorem dd_M_later_28 : decode prog_9_method_30_code 28 = .ok (.iload_n 3, 1) := by decide +kernel
theorem dd_M_later_29 : decode prog_9_method_30_code 29 = .ok (.iastore, 1) := by decide +kernel
theorem dd_M_later_30 : decode prog_9_method_30_code 30 = .ok (.aload_n 0, 1) := by decide +kernel
theorem dd_M_later_31 : decode prog_9_method_30_code 31 = .ok (.getfield 71, 3) := by decide +kernel
theorem dd_M_later_34 : decode prog_9_method_30_code 34 = .ok (.aload_n 0, 1) := by decide +kernel
theorem dd_M_later_35 : decode prog_9_method_30_code 35 = .ok (.getfield 188, 3) := by decide +kernel
theorem dd_M_later_38 : decode prog_9_method_30_code 38 = .ok (.iload 4, 2) := by decide +kernel
theorem dd_M_later_40 : decode prog_9_method_30_code 40 = .ok (.iastore, 1) := by decide +kernel
theorem dd_M_later_41 : decode prog_9_method_30_code 41 = .ok (.aload_n 0, 1) := by decide +kernel
theorem dd_M_later_42 : decode prog_9_method_30_code 42 = .ok (.dup, 1) := by decide +kernel
theorem dd_M_later_43 : decode prog_9_method_30_code 43 = .ok (.getfield 188, 3) := by decide +kernel
theorem dd_M_later_46 : decode prog_9_method_30_code 46 = .ok (.iconst 1, 1) := by decide +kernel
theorem dd_M_later_47 : decode prog_9_method_30_code 47 = .ok (.iadd, 1) := by decide +kernel
theorem dd_M_later_48 : decode prog_9_method_30_code 48 = .ok (.putfield 188, 3) := by decide +kernel
theorem dd_M_later_51 : decode prog_9_method_30_code 51 = .ok (.return_, 1) := by decide +kernel
theorem dd_M_fillHoles_0 : decode prog_9_method_33_code 0 = .ok (.aload_n 0, 1) := by decide +kernel
theorem dd_M_fillHoles_1 : decode prog_9_method_33_code 1 = .ok (.getfield 188, 3) := by decide +kernel
theorem dd_M_fillHoles_4 : decode prog_9_method_33_code 4 = .ok (.istore_n 2, 1) := by decide +kernel
theorem dd_M_fillHoles_5 : decode prog_9_method_33_code 5 = .ok (.aload_n 0, 1) := by decide +kernel
theorem dd_M_fillHoles_6 : decode prog_9_method_33_code 6 = .ok (.getfield 53, 3) := by decide +kernel
theorem dd_M_fillHoles_9 : decode prog_9_method_33_code 9 = .ok (.iload_n 1, 1) := by decide +kernel
theorem dd_M_fillHoles_10 : decode prog_9_method_33_code 10 = .ok (.iaload, 1) := by decide +kernel
theorem dd_M_fillHoles_11 : decode prog_9_method_33_code 11 = .ok (.istore_n 3, 1) := by decide +kernel
theorem dd_M_fillHoles_12 : decode prog_9_method_33_code 12 = .ok (.aload_n 0, 1) := by decide +kernel
theorem dd_M_fillHoles_13 : decode prog_9_method_33_code 13 = .ok (.getfield 53, 3) := by decide +kernel
theorem dd_M_fillHoles_16 : decode prog_9_method_33_code 16 = .ok (.iload_n 1, 1) := by decide +kernel
theorem dd_M_fillHoles_17 : decode prog_9_method_33_code 17 = .ok (.iaload, 1) := by decide +kernel
theorem dd_M_fillHoles_18 : decode prog_9_method_33_code 18 = .ok (.aload_n 0, 1) := by decide +kernel
theorem dd_M_fillHoles_19 : decode prog_9_method_33_code 19 = .ok (.getfield 56, 3) := by decide +kernel
theorem dd_M_fillHoles_22 : decode prog_9_method_33_code 22 = .ok (.iload_n 1, 1) := by decide +kernel
theorem dd_M_fillHoles_23 : decode prog_9_method_33_code 23 = .ok (.iaload, 1) := by decide +kernel
theorem dd_M_fillHoles_24 : decode prog_9_method_33_code 24 = .ok (.iadd, 1) := by decide +kernel
theorem dd_M_fillHoles_25 : decode prog_9_method_33_code 25 = .ok (.istore 4, 2) := by decide +kernel
theorem dd_M_fillHoles_27 : decode prog_9_method_33_code 27 = .ok (.iconst 0, 1) := by decide +kernel
theorem dd_M_fillHoles_28 : decode prog_9_method_33_code 28 = .ok (.istore 5, 2) := by decide +kernel
theorem dd_M_fillHoles_30 : decode prog_9_method_33_code 30 = .ok (.iload 5, 2) := by decide +kernel
theorem dd_M_fillHoles_32 : decode prog_9_method_33_code 32 = .ok (.aload_n 0, 1) := by decide +kernel
theorem dd_M_fillHoles_33 : decode prog_9_method_33_code 33 = .ok (.getfield 17, 3) := by decide +kernel
theorem dd_M_fillHoles_36 : decode prog_9_method_33_code 36 = .ok (.aload_n 0, 1) := by decide +kernel
theorem dd_M_fillHoles_37 : decode prog_9_method_33_code 37 = .ok (.getfield 50, 3) := by decide +kernel
theorem dd_M_fillHoles_40 : decode prog_9_method_33_code 40 = .ok (.iload_n 1, 1) := by decide +kernel
theorem dd_M_fillHoles_41 : decode prog_9_method_33_code 41 = .ok (.iaload, 1) := by decide +kernel
theorem dd_M_fillHoles_42 : decode prog_9_method_33_code 42 = .ok (.iaload, 1) := by decide +kernel
theorem dd_M_fillHoles_43 : decode prog_9_method_33_code 43 = .ok (.if_icmp .ge 114, 3) := by decide +kernel
theorem dd_M_fillHoles_46 : decode prog_9_method_33_code 46 = .ok (.bipush 7, 2) := by decide +kernel
theorem dd_M_fillHoles_48 : decode prog_9_method_33_code 48 = .ok (.aload_n 0, 1) := by decide +kernel
theorem dd_M_fillHoles_49 : decode prog_9_method_33_code 49 = .ok (.getfield 50, 3) := by decide +kernel
theorem dd_M_fillHoles_52 : decode prog_9_method_33_code 52 = .ok (.iload_n 1, 1) := by decide +kernel
theorem dd_M_fillHoles_53 : decode prog_9_method_33_code 53 = .ok (.iaload, 1) := by decide +kernel
theorem dd_M_fillHoles_54 : decode prog_9_method_33_code 54 = .ok (.imul, 1) := by decide +kernel
theorem dd_M_fillHoles_55 : decode prog_9_method_33_code 55 = .ok (.iload 5, 2) := by decide +kernel
theorem dd_M_fillHoles_57 : decode prog_9_method_33_code 57 = .ok (.iadd, 1) := by decide +kernel
theorem dd_M_fillHoles_58 : decode prog_9_method_33_code 58 = .ok (.istore 6, 2) := by decide +kernel
theorem dd_M_fillHoles_60 : decode prog_9_method_33_code 60 = .ok (.iload_n 3, 1) := by decide +kernel
theorem dd_M_fillHoles_61 : decode prog_9_method_33_code 61 = .ok (.iconst 1, 1) := by decide +kernel
theorem dd_M_fillHoles_62 : decode prog_9_method_33_code 62 = .ok (.iadd, 1) := by decide +kernel
theorem dd_M_fillHoles_63 : decode prog_9_method_33_code 63 = .ok (.istore 7, 2) := by decide +kernel
theorem dd_M_fillHoles_65 : decode prog_9_method_33_code 65 = .ok (.aload_n 0, 1) := by decide +kernel
theorem dd_M_fillHoles_66 : decode prog_9_method_33_code 66 = .ok (.getfield 7, 3) := by decide +kernel
theorem dd_M_fillHoles_69 : decode prog_9_method_33_code 69 = .ok (.iload 6, 2) := by decide +kernel
theorem dd_M_fillHoles_71 : decode prog_9_method_33_code 71 = .ok (.iaload, 1) := by decide +kernel
theorem dd_M_fillHoles_72 : decode prog_9_method_33_code 72 = .ok (.iconst (-1), 1) := by decide +kernel
theorem dd_M_fillHoles_73 : decode prog_9_method_33_code 73 = .ok (.if_icmp .eq 49, 3) := by decide +kernel
theorem dd_M_fillHoles_76 : decode prog_9_method_33_code 76 = .ok (.aload_n 0, 1) := by decide +kernel
theorem dd_M_fillHoles_77 : decode prog_9_method_33_code 77 = .ok (.getfield 36, 3) := by decide +kernel
theorem dd_M_fillHoles_80 : decode prog_9_method_33_code 80 = .ok (.aload_n 0, 1) := by decide +kernel
theorem dd_M_fillHoles_81 : decode prog_9_method_33_code 81 = .ok (.getfield 7, 3) := by decide +kernel
theorem dd_M_fillHoles_84 : decode prog_9_method_33_code 84 = .ok (.iload 6, 2) := by decide +kernel
theorem dd_M_fillHoles_86 : decode prog_9_method_33_code 86 = .ok (.iaload, 1) := by decide +kernel
theorem dd_M_fillHoles_87 : decode prog_9_method_33_code 87 = .ok (.iload_n 3, 1) := by decide +kernel
theorem dd_M_fillHoles_88 : decode prog_9_method_33_code 88 = .ok (.iload 7, 2) := by decide +kernel
theorem dd_M_fillHoles_90 : decode prog_9_method_33_code 90 = .ok (.invokestatic 138, 3) := by decide +kernel
theorem dd_M_fillHoles_93 : decode prog_9_method_33_code 93 = .ok (.iaload, 1) := by decide +kernel
theorem dd_M_fillHoles_94 : decode prog_9_method_33_code 94 = .ok (.ifCond .eq 22, 3) := by decide +kernel
theorem dd_M_fillHoles_97 : decode prog_9_method_33_code 97 = .ok (.aload_n 0, 1) := by decide +kernel
theorem dd_M_fillHoles_98 : decode prog_9_method_33_code 98 = .ok (.getfield 40, 3) := by decide +kernel
theorem dd_M_fillHoles_101 : decode prog_9_method_33_code 101 = .ok (.iload 6, 2) := by decide +kernel
theorem dd_M_fillHoles_103 : decode prog_9_method_33_code 103 = .ok (.iconst 1, 1) := by decide +kernel
theorem dd_M_fillHoles_104 : decode prog_9_method_33_code 104 = .ok (.iadd, 1) := by decide +kernel
theorem dd_M_fillHoles_105 : decode prog_9_method_33_code 105 = .ok (.iload 7, 2) := by decide +kernel
theorem dd_M_fillHoles_107 : decode prog_9_method_33_code 107 = .ok (.iload 4, 2) := by decide +kernel
theorem dd_M_fillHoles_109 : decode prog_9_method_33_code 109 = .ok (.invokestatic 138, 3) := by decide +kernel
theorem dd_M_fillHoles_112 : decode prog_9_method_33_code 112 = .ok (.iaload, 1) := by decide +kernel
theorem dd_M_fillHoles_113 : decode prog_9_method_33_code 113 = .ok (.ifCond .ne 9, 3) := by decide +kernel
theorem dd_M_fillHoles_116 : decode prog_9_method_33_code 116 = .ok (.iinc 7 1, 3) := by decide +kernel
theorem dd_M_fillHoles_119 : decode prog_9_method_33_code 119 = .ok (.goto (-54), 3) := by decide +kernel
theorem dd_M_fillHoles_122 : decode prog_9_method_33_code 122 = .ok (.aload_n 0, 1) := by decide +kernel
theorem dd_M_fillHoles_123 : decode prog_9_method_33_code 123 = .ok (.getfield 7, 3) := by decide +kernel
theorem dd_M_fillHoles_126 : decode prog_9_method_33_code 126 = .ok (.iload 6, 2) := by decide +kernel
theorem dd_M_fillHoles_128 : decode prog_9_method_33_code 128 = .ok (.iaload, 1) := by decide +kernel
theorem dd_M_fillHoles_129 : decode prog_9_method_33_code 129 = .ok (.iconst (-1), 1) := by decide +kernel
theorem dd_M_fillHoles_130 : decode prog_9_method_33_code 130 = .ok (.if_icmp .eq 18, 3) := by decide +kernel
theorem dd_M_fillHoles_133 : decode prog_9_method_33_code 133 = .ok (.aload_n 0, 1) := by decide +kernel
theorem dd_M_fillHoles_134 : decode prog_9_method_33_code 134 = .ok (.aload_n 0, 1) := by decide +kernel
theorem dd_M_fillHoles_135 : decode prog_9_method_33_code 135 = .ok (.getfield 7, 3) := by decide +kernel
theorem dd_M_fillHoles_138 : decode prog_9_method_33_code 138 = .ok (.iload 6, 2) := by decide +kernel
theorem dd_M_fillHoles_140 : decode prog_9_method_33_code 140 = .ok (.iaload, 1) := by decide +kernel
theorem dd_M_fillHoles_141 : decode prog_9_method_33_code 141 = .ok (.iload_n 3, 1) := by decide +kernel
theorem dd_M_fillHoles_142 : decode prog_9_method_33_code 142 = .ok (.iload 7, 2) := by decide +kernel
theorem dd_M_fillHoles_144 : decode prog_9_method_33_code 144 = .ok (.iload_n 1, 1) := by decide +kernel
theorem dd_M_fillHoles_145 : decode prog_9_method_33_code 145 = .ok (.invokevirtual 191, 3) := by decide +kernel
theorem dd_M_fillHoles_148 : decode prog_9_method_33_code 148 = .ok (.iload 7, 2) := by decide +kernel
theorem dd_M_fillHoles_150 : decode prog_9_method_33_code 150 = .ok (.istore_n 3, 1) := by decide +kernel
theorem dd_M_fillHoles_151 : decode prog_9_method_33_code 151 = .ok (.iinc 5 1, 3) := by decide +kernel
theorem dd_M_fillHoles_154 : decode prog_9_method_33_code 154 = .ok (.goto (-124), 3) := by decide +kernel
theorem dd_M_fillHoles_157 : decode prog_9_method_33_code 157 = .ok (.iload_n 2, 1) := by decide +kernel
theorem dd_M_fillHoles_158 : decode prog_9_method_33_code 158 = .ok (.istore 5, 2) := by decide +kernel
theorem dd_M_fillHoles_160 : decode prog_9_method_33_code 160 = .ok (.aload_n 0, 1) := by decide +kernel
theorem dd_M_fillHoles_161 : decode prog_9_method_33_code 161 = .ok (.getfield 188, 3) := by decide +kernel
theorem dd_M_fillHoles_164 : decode prog_9_method_33_code 164 = .ok (.iconst 1, 1) := by decide +kernel
theorem dd_M_fillHoles_165 : decode prog_9_method_33_code 165 = .ok (.isub, 1) := by decide +kernel
theorem dd_M_fillHoles_166 : decode prog_9_method_33_code 166 = .ok (.istore 6, 2) := by decide +kernel
theorem dd_M_fillHoles_168 : decode prog_9_method_33_code 168 = .ok (.iload 5, 2) := by decide +kernel
theorem dd_M_fillHoles_170 : decode prog_9_method_33_code 170 = .ok (.iload 6, 2) := by decide +kernel
theorem dd_M_fillHoles_172 : decode prog_9_method_33_code 172 = .ok (.if_icmp .ge 20, 3) := by decide +kernel
theorem dd_M_fillHoles_175 : decode prog_9_method_33_code 175 = .ok (.aload_n 0, 1) := by decide +kernel
theorem dd_M_fillHoles_176 : decode prog_9_method_33_code 176 = .ok (.iload 5, 2) := by decide +kernel
theorem dd_M_fillHoles_178 : decode prog_9_method_33_code 178 = .ok (.iload 6, 2) := by decide +kernel
theorem dd_M_fillHoles_180 : decode prog_9_method_33_code 180 = .ok (.invokevirtual 202, 3) := by decide +kernel
theorem dd_M_fillHoles_183 : decode prog_9_method_33_code 183 = .ok (.iinc 5 1, 3) := by decide +kernel
theorem dd_M_fillHoles_186 : decode prog_9_method_33_code 186 = .ok (.iinc 6 (-1), 3) := by decide +kernel
theorem dd_M_fillHoles_189 : decode prog_9_method_33_code 189 = .ok (.goto (-21), 3) := by decide +kernel
theorem dd_M_fillHoles_192 : decode prog_9_method_33_code 192 = .ok (.return_, 1) := by decide +kernel
theorem dd_M_kindOf_0 : decode prog_9_method_32_code 0 = .ok (.bipush (-2), 2) := by decide +kernel
theorem dd_M_kindOf_2 : decode prog_9_method_32_code 2 = .ok (.istore 4, 2) := by decide +kernel
theorem dd_M_kindOf_4 : decode prog_9_method_32_code 4 = .ok (.iconst 0, 1) := by decide +kernel
theorem dd_M_kindOf_5 : decode prog_9_method_32_code 5 = .ok (.istore 5, 2) := by decide +kernel
theorem dd_M_kindOf_7 : decode prog_9_method_32_code 7 = .ok (.iload 5, 2) := by decide +kernel
theorem dd_M_kindOf_9 : decode prog_9_method_32_code 9 = .ok (.aload_n 0, 1) := by decide +kernel
theorem dd_M_kindOf_10 : decode prog_9_method_32_code 10 = .ok (.getfield 100, 3) := by decide +kernel
theorem dd_M_kindOf_13 : decode prog_9_method_32_code 13 = .ok (.if_icmp .ge 42, 3) := by decide +kernel
theorem dd_M_kindOf_16 : decode prog_9_method_32_code 16 = .ok (.aload_n 0, 1) := by decide +kernel
theorem dd_M_kindOf_17 : decode prog_9_method_32_code 17 = .ok (.getfield 20, 3) := by decide +kernel
theorem dd_M_kindOf_20 : decode prog_9_method_32_code 20 = .ok (.iload 5, 2) := by decide +kernel
theorem dd_M_kindOf_22 : decode prog_9_method_32_code 22 = .ok (.iaload, 1) := by decide +kernel
theorem dd_M_kindOf_23 : decode prog_9_method_32_code 23 = .ok (.iload_n 1, 1) := by decide +kernel
theorem dd_M_kindOf_24 : decode prog_9_method_32_code 24 = .ok (.if_icmp .lt 25, 3) := by decide +kernel
theorem dd_M_kindOf_27 : decode prog_9_method_32_code 27 = .ok (.aload_n 0, 1) := by decide +kernel
theorem dd_M_kindOf_28 : decode prog_9_method_32_code 28 = .ok (.getfield 40, 3) := by decide +kernel
theorem dd_M_kindOf_31 : decode prog_9_method_32_code 31 = .ok (.bipush 7, 2) := by decide +kernel
theorem dd_M_kindOf_33 : decode prog_9_method_32_code 33 = .ok (.iload 5, 2) := by decide +kernel
theorem dd_M_kindOf_35 : decode prog_9_method_32_code 35 = .ok (.imul, 1) := by decide +kernel
theorem dd_M_kindOf_36 : decode prog_9_method_32_code 36 = .ok (.iload_n 2, 1) := by decide +kernel
theorem dd_M_kindOf_37 : decode prog_9_method_32_code 37 = .ok (.iload_n 3, 1) := by decide +kernel
theorem dd_M_kindOf_38 : decode prog_9_method_32_code 38 = .ok (.invokestatic 138, 3) := by decide +kernel
theorem dd_M_kindOf_41 : decode prog_9_method_32_code 41 = .ok (.iaload, 1) := by decide +kernel
theorem dd_M_kindOf_42 : decode prog_9_method_32_code 42 = .ok (.ifCond .le 7, 3) := by decide +kernel
theorem dd_M_kindOf_45 : decode prog_9_method_32_code 45 = .ok (.iload 5, 2) := by decide +kernel
theorem dd_M_kindOf_47 : decode prog_9_method_32_code 47 = .ok (.istore 4, 2) := by decide +kernel
theorem dd_M_kindOf_49 : decode prog_9_method_32_code 49 = .ok (.iinc 5 1, 3) := by decide +kernel
theorem dd_M_kindOf_52 : decode prog_9_method_32_code 52 = .ok (.goto (-45), 3) := by decide +kernel
theorem dd_M_kindOf_55 : decode prog_9_method_32_code 55 = .ok (.iload_n 3, 1) := by decide +kernel
theorem dd_M_kindOf_56 : decode prog_9_method_32_code 56 = .ok (.iload_n 2, 1) := by decide +kernel
theorem dd_M_kindOf_57 : decode prog_9_method_32_code 57 = .ok (.iconst 1, 1) := by decide +kernel
theorem dd_M_kindOf_58 : decode prog_9_method_32_code 58 = .ok (.iadd, 1) := by decide +kernel
theorem dd_M_kindOf_59 : decode prog_9_method_32_code 59 = .ok (.if_icmp .ne 15, 3) := by decide +kernel
theorem dd_M_kindOf_62 : decode prog_9_method_32_code 62 = .ok (.aload_n 0, 1) := by decide +kernel
theorem dd_M_kindOf_63 : decode prog_9_method_32_code 63 = .ok (.iload_n 2, 1) := by decide +kernel
theorem dd_M_kindOf_64 : decode prog_9_method_32_code 64 = .ok (.invokevirtual 146, 3) := by decide +kernel
theorem dd_M_kindOf_67 : decode prog_9_method_32_code 67 = .ok (.ifCond .eq 7, 3) := by decide +kernel
theorem dd_M_kindOf_70 : decode prog_9_method_32_code 70 = .ok (.iconst (-1), 1) := by decide +kernel
theorem dd_M_kindOf_71 : decode prog_9_method_32_code 71 = .ok (.goto 5, 3) := by decide +kernel
theorem dd_M_kindOf_74 : decode prog_9_method_32_code 74 = .ok (.iload 4, 2) := by decide +kernel
theorem dd_M_kindOf_76 : decode prog_9_method_32_code 76 = .ok (.ireturn, 1) := by decide +kernel
theorem dd_M_grow_0 : decode prog_9_method_31_code 0 = .ok (.aload_n 0, 1) := by decide +kernel
theorem dd_M_grow_1 : decode prog_9_method_31_code 1 = .ok (.iconst 0, 1) := by decide +kernel
theorem dd_M_grow_2 : decode prog_9_method_31_code 2 = .ok (.putfield 188, 3) := by decide +kernel
theorem dd_M_grow_5 : decode prog_9_method_31_code 5 = .ok (.aload_n 0, 1) := by decide +kernel
theorem dd_M_grow_6 : decode prog_9_method_31_code 6 = .ok (.iconst 0, 1) := by decide +kernel
theorem dd_M_grow_7 : decode prog_9_method_31_code 7 = .ok (.iconst 0, 1) := by decide +kernel
theorem dd_M_grow_8 : decode prog_9_method_31_code 8 = .ok (.aload_n 0, 1) := by decide +kernel
theorem dd_M_grow_9 : decode prog_9_method_31_code 9 = .ok (.getfield 128, 3) := by decide +kernel
theorem dd_M_grow_12 : decode prog_9_method_31_code 12 = .ok (.iconst (-1), 1) := by decide +kernel
theorem dd_M_grow_13 : decode prog_9_method_31_code 13 = .ok (.invokevirtual 191, 3) := by decide +kernel
theorem dd_M_grow_16 : decode prog_9_method_31_code 16 = .ok (.aload_n 0, 1) := by decide +kernel
theorem dd_M_grow_17 : decode prog_9_method_31_code 17 = .ok (.getfield 188, 3) := by decide +kernel
theorem dd_M_grow_20 : decode prog_9_method_31_code 20 = .ok (.ifCond .le 174, 3) := by decide +kernel
theorem dd_M_grow_23 : decode prog_9_method_31_code 23 = .ok (.aload_n 0, 1) := by decide +kernel
theorem dd_M_grow_24 : decode prog_9_method_31_code 24 = .ok (.dup, 1) := by decide +kernel
theorem dd_M_grow_25 : decode prog_9_method_31_code 25 = .ok (.getfield 188, 3) := by decide +kernel
theorem dd_M_grow_28 : decode prog_9_method_31_code 28 = .ok (.iconst 1, 1) := by decide +kernel
theorem dd_M_grow_29 : decode prog_9_method_31_code 29 = .ok (.isub, 1) := by decide +kernel
theorem dd_M_grow_30 : decode prog_9_method_31_code 30 = .ok (.putfield 188, 3) := by decide +kernel
theorem dd_M_grow_33 : decode prog_9_method_31_code 33 = .ok (.aload_n 0, 1) := by decide +kernel
theorem dd_M_grow_34 : decode prog_9_method_31_code 34 = .ok (.getfield 122, 3) := by decide +kernel
theorem dd_M_grow_37 : decode prog_9_method_31_code 37 = .ok (.istore_n 1, 1) := by decide +kernel
theorem dd_M_grow_38 : decode prog_9_method_31_code 38 = .ok (.aload_n 0, 1) := by decide +kernel
theorem dd_M_grow_39 : decode prog_9_method_31_code 39 = .ok (.dup, 1) := by decide +kernel
theorem dd_M_grow_40 : decode prog_9_method_31_code 40 = .ok (.getfield 122, 3) := by decide +kernel
theorem dd_M_grow_43 : decode prog_9_method_31_code 43 = .ok (.iconst 1, 1) := by decide +kernel
theorem dd_M_grow_44 : decode prog_9_method_31_code 44 = .ok (.iadd, 1) := by decide +kernel
theorem dd_M_grow_45 : decode prog_9_method_31_code 45 = .ok (.putfield 122, 3) := by decide +kernel
theorem dd_M_grow_48 : decode prog_9_method_31_code 48 = .ok (.aload_n 0, 1) := by decide +kernel
theorem dd_M_grow_49 : decode prog_9_method_31_code 49 = .ok (.getfield 53, 3) := by decide +kernel
theorem dd_M_grow_52 : decode prog_9_method_31_code 52 = .ok (.iload_n 1, 1) := by decide +kernel
theorem dd_M_grow_53 : decode prog_9_method_31_code 53 = .ok (.aload_n 0, 1) := by decide +kernel
theorem dd_M_grow_54 : decode prog_9_method_31_code 54 = .ok (.getfield 65, 3) := by decide +kernel
theorem dd_M_grow_57 : decode prog_9_method_31_code 57 = .ok (.aload_n 0, 1) := by decide +kernel
theorem dd_M_grow_58 : decode prog_9_method_31_code 58 = .ok (.getfield 188, 3) := by decide +kernel
theorem dd_M_grow_61 : decode prog_9_method_31_code 61 = .ok (.iaload, 1) := by decide +kernel
theorem dd_M_grow_62 : decode prog_9_method_31_code 62 = .ok (.iastore, 1) := by decide +kernel
theorem dd_M_grow_63 : decode prog_9_method_31_code 63 = .ok (.aload_n 0, 1) := by decide +kernel
theorem dd_M_grow_64 : decode prog_9_method_31_code 64 = .ok (.getfield 56, 3) := by decide +kernel
theorem dd_M_grow_67 : decode prog_9_method_31_code 67 = .ok (.iload_n 1, 1) := by decide +kernel
theorem dd_M_grow_68 : decode prog_9_method_31_code 68 = .ok (.aload_n 0, 1) := by decide +kernel
theorem dd_M_grow_69 : decode prog_9_method_31_code 69 = .ok (.getfield 68, 3) := by decide +kernel
theorem dd_M_grow_72 : decode prog_9_method_31_code 72 = .ok (.aload_n 0, 1) := by decide +kernel
theorem dd_M_grow_73 : decode prog_9_method_31_code 73 = .ok (.getfield 188, 3) := by decide +kernel
theorem dd_M_grow_76 : decode prog_9_method_31_code 76 = .ok (.iaload, 1) := by decide +kernel
theorem dd_M_grow_77 : decode prog_9_method_31_code 77 = .ok (.aload_n 0, 1) := by decide +kernel
theorem dd_M_grow_78 : decode prog_9_method_31_code 78 = .ok (.getfield 65, 3) := by decide +kernel
theorem dd_M_grow_81 : decode prog_9_method_31_code 81 = .ok (.aload_n 0, 1) := by decide +kernel
theorem dd_M_grow_82 : decode prog_9_method_31_code 82 = .ok (.getfield 188, 3) := by decide +kernel
theorem dd_M_grow_85 : decode prog_9_method_31_code 85 = .ok (.iaload, 1) := by decide +kernel
theorem dd_M_grow_86 : decode prog_9_method_31_code 86 = .ok (.isub, 1) := by decide +kernel
theorem dd_M_grow_87 : decode prog_9_method_31_code 87 = .ok (.iastore, 1) := by decide +kernel
theorem dd_M_grow_88 : decode prog_9_method_31_code 88 = .ok (.aload_n 0, 1) := by decide +kernel
theorem dd_M_grow_89 : decode prog_9_method_31_code 89 = .ok (.getfield 59, 3) := by decide +kernel
theorem dd_M_grow_92 : decode prog_9_method_31_code 92 = .ok (.iload_n 1, 1) := by decide +kernel
theorem dd_M_grow_93 : decode prog_9_method_31_code 93 = .ok (.aload_n 0, 1) := by decide +kernel
theorem dd_M_grow_94 : decode prog_9_method_31_code 94 = .ok (.getfield 71, 3) := by decide +kernel
theorem dd_M_grow_97 : decode prog_9_method_31_code 97 = .ok (.aload_n 0, 1) := by decide +kernel
theorem dd_M_grow_98 : decode prog_9_method_31_code 98 = .ok (.getfield 188, 3) := by decide +kernel
theorem dd_M_grow_101 : decode prog_9_method_31_code 101 = .ok (.iaload, 1) := by decide +kernel
theorem dd_M_grow_102 : decode prog_9_method_31_code 102 = .ok (.iastore, 1) := by decide +kernel
theorem dd_M_grow_103 : decode prog_9_method_31_code 103 = .ok (.aload_n 0, 1) := by decide +kernel
theorem dd_M_grow_104 : decode prog_9_method_31_code 104 = .ok (.getfield 50, 3) := by decide +kernel
theorem dd_M_grow_107 : decode prog_9_method_31_code 107 = .ok (.iload_n 1, 1) := by decide +kernel
theorem dd_M_grow_108 : decode prog_9_method_31_code 108 = .ok (.aload_n 0, 1) := by decide +kernel
theorem dd_M_grow_109 : decode prog_9_method_31_code 109 = .ok (.aload_n 0, 1) := by decide +kernel
theorem dd_M_grow_110 : decode prog_9_method_31_code 110 = .ok (.getfield 62, 3) := by decide +kernel
theorem dd_M_grow_113 : decode prog_9_method_31_code 113 = .ok (.aload_n 0, 1) := by decide +kernel
theorem dd_M_grow_114 : decode prog_9_method_31_code 114 = .ok (.getfield 188, 3) := by decide +kernel
theorem dd_M_grow_117 : decode prog_9_method_31_code 117 = .ok (.iaload, 1) := by decide +kernel
theorem dd_M_grow_118 : decode prog_9_method_31_code 118 = .ok (.aload_n 0, 1) := by decide +kernel
theorem dd_M_grow_119 : decode prog_9_method_31_code 119 = .ok (.getfield 53, 3) := by decide +kernel
theorem dd_M_grow_122 : decode prog_9_method_31_code 122 = .ok (.iload_n 1, 1) := by decide +kernel
theorem dd_M_grow_123 : decode prog_9_method_31_code 123 = .ok (.iaload, 1) := by decide +kernel
theorem dd_M_grow_124 : decode prog_9_method_31_code 124 = .ok (.aload_n 0, 1) := by decide +kernel
theorem dd_M_grow_125 : decode prog_9_method_31_code 125 = .ok (.getfield 68, 3) := by decide +kernel
theorem dd_M_grow_128 : decode prog_9_method_31_code 128 = .ok (.aload_n 0, 1) := by decide +kernel
theorem dd_M_grow_129 : decode prog_9_method_31_code 129 = .ok (.getfield 188, 3) := by decide +kernel
theorem dd_M_grow_132 : decode prog_9_method_31_code 132 = .ok (.iaload, 1) := by decide +kernel
theorem dd_M_grow_133 : decode prog_9_method_31_code 133 = .ok (.invokevirtual 195, 3) := by decide +kernel
theorem dd_M_grow_136 : decode prog_9_method_31_code 136 = .ok (.iastore, 1) := by decide +kernel
theorem dd_M_grow_137 : decode prog_9_method_31_code 137 = .ok (.aload_n 0, 1) := by decide +kernel
theorem dd_M_grow_138 : decode prog_9_method_31_code 138 = .ok (.getfield 50, 3) := by decide +kernel
theorem dd_M_grow_141 : decode prog_9_method_31_code 141 = .ok (.iload_n 1, 1) := by decide +kernel
theorem dd_M_grow_142 : decode prog_9_method_31_code 142 = .ok (.iaload, 1) := by decide +kernel
theorem dd_M_grow_143 : decode prog_9_method_31_code 143 = .ok (.bipush (-2), 2) := by decide +kernel
theorem dd_M_grow_145 : decode prog_9_method_31_code 145 = .ok (.if_icmp .ne 32, 3) := by decide +kernel
theorem dd_M_grow_148 : decode prog_9_method_31_code 148 = .ok (.aload_n 0, 1) := by decide +kernel
theorem dd_M_grow_149 : decode prog_9_method_31_code 149 = .ok (.iconst 0, 1) := by decide +kernel
theorem dd_M_grow_150 : decode prog_9_method_31_code 150 = .ok (.aload_n 0, 1) := by decide +kernel
theorem dd_M_grow_151 : decode prog_9_method_31_code 151 = .ok (.getfield 53, 3) := by decide +kernel
theorem dd_M_grow_154 : decode prog_9_method_31_code 154 = .ok (.iload_n 1, 1) := by decide +kernel
theorem dd_M_grow_155 : decode prog_9_method_31_code 155 = .ok (.iaload, 1) := by decide +kernel
theorem dd_M_grow_156 : decode prog_9_method_31_code 156 = .ok (.iconst 1, 1) := by decide +kernel
theorem dd_M_grow_157 : decode prog_9_method_31_code 157 = .ok (.iadd, 1) := by decide +kernel
theorem dd_M_grow_158 : decode prog_9_method_31_code 158 = .ok (.aload_n 0, 1) := by decide +kernel
theorem dd_M_grow_159 : decode prog_9_method_31_code 159 = .ok (.getfield 53, 3) := by decide +kernel
theorem dd_M_grow_162 : decode prog_9_method_31_code 162 = .ok (.iload_n 1, 1) := by decide +kernel
theorem dd_M_grow_163 : decode prog_9_method_31_code 163 = .ok (.iaload, 1) := by decide +kernel
theorem dd_M_grow_164 : decode prog_9_method_31_code 164 = .ok (.aload_n 0, 1) := by decide +kernel
theorem dd_M_grow_165 : decode prog_9_method_31_code 165 = .ok (.getfield 56, 3) := by decide +kernel
theorem dd_M_grow_168 : decode prog_9_method_31_code 168 = .ok (.iload_n 1, 1) := by decide +kernel
theorem dd_M_grow_169 : decode prog_9_method_31_code 169 = .ok (.iaload, 1) := by decide +kernel
theorem dd_M_grow_170 : decode prog_9_method_31_code 170 = .ok (.iadd, 1) := by decide +kernel
theorem dd_M_grow_171 : decode prog_9_method_31_code 171 = .ok (.iconst 1, 1) := by decide +kernel
theorem dd_M_grow_172 : decode prog_9_method_31_code 172 = .ok (.isub, 1) := by decide +kernel
theorem dd_M_grow_173 : decode prog_9_method_31_code 173 = .ok (.iload_n 1, 1) := by decide +kernel
theorem dd_M_grow_174 : decode prog_9_method_31_code 174 = .ok (.invokevirtual 191, 3) := by decide +kernel
theorem dd_M_grow_177 : decode prog_9_method_31_code 177 = .ok (.aload_n 0, 1) := by decide +kernel
theorem dd_M_grow_178 : decode prog_9_method_31_code 178 = .ok (.getfield 50, 3) := by decide +kernel
theorem dd_M_grow_181 : decode prog_9_method_31_code 181 = .ok (.iload_n 1, 1) := by decide +kernel
theorem dd_M_grow_182 : decode prog_9_method_31_code 182 = .ok (.iaload, 1) := by decide +kernel
theorem dd_M_grow_183 : decode prog_9_method_31_code 183 = .ok (.ifCond .lt 8, 3) := by decide +kernel
theorem dd_M_grow_186 : decode prog_9_method_31_code 186 = .ok (.aload_n 0, 1) := by decide +kernel
theorem dd_M_grow_187 : decode prog_9_method_31_code 187 = .ok (.iload_n 1, 1) := by decide +kernel
theorem dd_M_grow_188 : decode prog_9_method_31_code 188 = .ok (.invokevirtual 198, 3) := by decide +kernel
theorem dd_M_grow_191 : decode prog_9_method_31_code 191 = .ok (.goto (-175), 3) := by decide +kernel
theorem dd_M_grow_194 : decode prog_9_method_31_code 194 = .ok (.return_, 1) := by decide +kernel
theorem dd_M_read_0 : decode prog_9_method_28_code 0 = .ok (.aload_n 0, 1) := by decide +kernel
theorem dd_M_read_1 : decode prog_9_method_28_code 1 = .ok (.iconst 0, 1) := by decide +kernel
theorem dd_M_read_2 : decode prog_9_method_28_code 2 = .ok (.putfield 80, 3) := by decide +kernel
theorem dd_M_read_5 : decode prog_9_method_28_code 5 = .ok (.aload_n 0, 1) := by decide +kernel
theorem dd_M_read_6 : decode prog_9_method_28_code 6 = .ok (.iconst 0, 1) := by decide +kernel
theorem dd_M_read_7 : decode prog_9_method_28_code 7 = .ok (.putfield 122, 3) := by decide +kernel
theorem dd_M_read_10 : decode prog_9_method_28_code 10 = .ok (.aload_n 0, 1) := by decide +kernel
theorem dd_M_read_11 : decode prog_9_method_28_code 11 = .ok (.iconst 0, 1) := by decide +kernel
theorem dd_M_read_12 : decode prog_9_method_28_code 12 = .ok (.putfield 169, 3) := by decide +kernel
theorem dd_M_read_15 : decode prog_9_method_28_code 15 = .ok (.aload_n 0, 1) := by decide +kernel
theorem dd_M_read_16 : decode prog_9_method_28_code 16 = .ok (.iconst (-1), 1) := by decide +kernel
theorem dd_M_read_17 : decode prog_9_method_28_code 17 = .ok (.putfield 26, 3) := by decide +kernel
theorem dd_M_read_20 : decode prog_9_method_28_code 20 = .ok (.aload_n 0, 1) := by decide +kernel
theorem dd_M_read_21 : decode prog_9_method_28_code 21 = .ok (.invokevirtual 172, 3) := by decide +kernel
theorem dd_M_read_24 : decode prog_9_method_28_code 24 = .ok (.istore_n 1, 1) := by decide +kernel
theorem dd_M_read_25 : decode prog_9_method_28_code 25 = .ok (.aload_n 0, 1) := by decide +kernel
theorem dd_M_read_26 : decode prog_9_method_28_code 26 = .ok (.invokevirtual 176, 3) := by decide +kernel
theorem dd_M_read_29 : decode prog_9_method_28_code 29 = .ok (.iconst 1, 1) := by decide +kernel
theorem dd_M_read_30 : decode prog_9_method_28_code 30 = .ok (.istore_n 2, 1) := by decide +kernel
theorem dd_M_read_31 : decode prog_9_method_28_code 31 = .ok (.iload_n 2, 1) := by decide +kernel
theorem dd_M_read_32 : decode prog_9_method_28_code 32 = .ok (.aload_n 0, 1) := by decide +kernel
theorem dd_M_read_33 : decode prog_9_method_28_code 33 = .ok (.getfield 128, 3) := by decide +kernel
theorem dd_M_read_36 : decode prog_9_method_28_code 36 = .ok (.if_icmp .gt 17, 3) := by decide +kernel
theorem dd_M_read_39 : decode prog_9_method_28_code 39 = .ok (.aload_n 0, 1) := by decide +kernel
theorem dd_M_read_40 : decode prog_9_method_28_code 40 = .ok (.iload_n 2, 1) := by decide +kernel
theorem dd_M_read_41 : decode prog_9_method_28_code 41 = .ok (.invokevirtual 179, 3) := by decide +kernel
theorem dd_M_read_44 : decode prog_9_method_28_code 44 = .ok (.ifCond .eq 9, 3) := by decide +kernel
theorem dd_M_read_47 : decode prog_9_method_28_code 47 = .ok (.iinc 2 1, 3) := by decide +kernel
theorem dd_M_read_50 : decode prog_9_method_28_code 50 = .ok (.goto (-19), 3) := by decide +kernel
theorem dd_M_read_53 : decode prog_9_method_28_code 53 = .ok (.iload_n 2, 1) := by decide +kernel
theorem dd_M_read_54 : decode prog_9_method_28_code 54 = .ok (.aload_n 0, 1) := by decide +kernel
theorem dd_M_read_55 : decode prog_9_method_28_code 55 = .ok (.getfield 128, 3) := by decide +kernel
theorem dd_M_read_58 : decode prog_9_method_28_code 58 = .ok (.if_icmp .gt 19, 3) := by decide +kernel
theorem dd_M_read_61 : decode prog_9_method_28_code 61 = .ok (.aload_n 0, 1) := by decide +kernel
theorem dd_M_read_62 : decode prog_9_method_28_code 62 = .ok (.iconst 1, 1) := by decide +kernel
theorem dd_M_read_63 : decode prog_9_method_28_code 63 = .ok (.aload_n 0, 1) := by decide +kernel
theorem dd_M_read_64 : decode prog_9_method_28_code 64 = .ok (.getfield 33, 3) := by decide +kernel
theorem dd_M_read_67 : decode prog_9_method_28_code 67 = .ok (.iload_n 2, 1) := by decide +kernel
theorem dd_M_read_68 : decode prog_9_method_28_code 68 = .ok (.iconst 1, 1) := by decide +kernel
theorem dd_M_read_69 : decode prog_9_method_28_code 69 = .ok (.isub, 1) := by decide +kernel
theorem dd_M_read_70 : decode prog_9_method_28_code 70 = .ok (.iaload, 1) := by decide +kernel
theorem dd_M_read_71 : decode prog_9_method_28_code 71 = .ok (.invokevirtual 182, 3) := by decide +kernel
theorem dd_M_read_74 : decode prog_9_method_28_code 74 = .ok (.goto 43, 3) := by decide +kernel
theorem dd_M_read_77 : decode prog_9_method_28_code 77 = .ok (.iload_n 1, 1) := by decide +kernel
theorem dd_M_read_78 : decode prog_9_method_28_code 78 = .ok (.iconst (-1), 1) := by decide +kernel
theorem dd_M_read_79 : decode prog_9_method_28_code 79 = .ok (.if_icmp .eq 12, 3) := by decide +kernel
theorem dd_M_read_82 : decode prog_9_method_28_code 82 = .ok (.aload_n 0, 1) := by decide +kernel
theorem dd_M_read_83 : decode prog_9_method_28_code 83 = .ok (.iconst 2, 1) := by decide +kernel
theorem dd_M_read_84 : decode prog_9_method_28_code 84 = .ok (.iload_n 1, 1) := by decide +kernel
theorem dd_M_read_85 : decode prog_9_method_28_code 85 = .ok (.invokevirtual 182, 3) := by decide +kernel
theorem dd_M_read_88 : decode prog_9_method_28_code 88 = .ok (.goto 29, 3) := by decide +kernel
theorem dd_M_read_91 : decode prog_9_method_28_code 91 = .ok (.aload_n 0, 1) := by decide +kernel
theorem dd_M_read_92 : decode prog_9_method_28_code 92 = .ok (.getfield 36, 3) := by decide +kernel
theorem dd_M_read_95 : decode prog_9_method_28_code 95 = .ok (.iconst 0, 1) := by decide +kernel
theorem dd_M_read_96 : decode prog_9_method_28_code 96 = .ok (.iconst 0, 1) := by decide +kernel
theorem dd_M_read_97 : decode prog_9_method_28_code 97 = .ok (.aload_n 0, 1) := by decide +kernel
theorem dd_M_read_98 : decode prog_9_method_28_code 98 = .ok (.getfield 128, 3) := by decide +kernel
theorem dd_M_read_101 : decode prog_9_method_28_code 101 = .ok (.invokestatic 138, 3) := by decide +kernel
theorem dd_M_read_104 : decode prog_9_method_28_code 104 = .ok (.iaload, 1) := by decide +kernel
theorem dd_M_read_105 : decode prog_9_method_28_code 105 = .ok (.ifCond .ne 12, 3) := by decide +kernel
theorem dd_M_read_108 : decode prog_9_method_28_code 108 = .ok (.aload_n 0, 1) := by decide +kernel
theorem dd_M_read_109 : decode prog_9_method_28_code 109 = .ok (.iconst 1, 1) := by decide +kernel
theorem dd_M_read_110 : decode prog_9_method_28_code 110 = .ok (.aload_n 0, 1) := by decide +kernel
theorem dd_M_read_111 : decode prog_9_method_28_code 111 = .ok (.getfield 125, 3) := by decide +kernel
theorem dd_M_read_114 : decode prog_9_method_28_code 114 = .ok (.invokevirtual 182, 3) := by decide +kernel
theorem dd_M_read_117 : decode prog_9_method_28_code 117 = .ok (.aload_n 0, 1) := by decide +kernel
theorem dd_M_read_118 : decode prog_9_method_28_code 118 = .ok (.getfield 80, 3) := by decide +kernel
theorem dd_M_read_121 : decode prog_9_method_28_code 121 = .ok (.ifCond .le 5, 3) := by decide +kernel
theorem dd_M_read_124 : decode prog_9_method_28_code 124 = .ok (.iconst 0, 1) := by decide +kernel
theorem dd_M_read_125 : decode prog_9_method_28_code 125 = .ok (.ireturn, 1) := by decide +kernel
theorem dd_M_read_126 : decode prog_9_method_28_code 126 = .ok (.aload_n 0, 1) := by decide +kernel
theorem dd_M_read_127 : decode prog_9_method_28_code 127 = .ok (.getfield 36, 3) := by decide +kernel
theorem dd_M_read_130 : decode prog_9_method_28_code 130 = .ok (.iconst 0, 1) := by decide +kernel
theorem dd_M_read_131 : decode prog_9_method_28_code 131 = .ok (.iconst 0, 1) := by decide +kernel
theorem dd_M_read_132 : decode prog_9_method_28_code 132 = .ok (.aload_n 0, 1) := by decide +kernel
theorem dd_M_read_133 : decode prog_9_method_28_code 133 = .ok (.getfield 128, 3) := by decide +kernel
theorem dd_M_read_136 : decode prog_9_method_28_code 136 = .ok (.invokestatic 138, 3) := by decide +kernel
theorem dd_M_read_139 : decode prog_9_method_28_code 139 = .ok (.iaload, 1) := by decide +kernel
theorem dd_M_read_140 : decode prog_9_method_28_code 140 = .ok (.istore_n 3, 1) := by decide +kernel
theorem dd_M_read_141 : decode prog_9_method_28_code 141 = .ok (.iload_n 3, 1) := by decide +kernel
theorem dd_M_read_142 : decode prog_9_method_28_code 142 = .ok (.iconst 1, 1) := by decide +kernel
theorem dd_M_read_143 : decode prog_9_method_28_code 143 = .ok (.if_icmp .ne 7, 3) := by decide +kernel
theorem dd_M_read_146 : decode prog_9_method_28_code 146 = .ok (.aload_n 0, 1) := by decide +kernel
theorem dd_M_read_147 : decode prog_9_method_28_code 147 = .ok (.invokevirtual 185, 3) := by decide +kernel
theorem dd_M_read_150 : decode prog_9_method_28_code 150 = .ok (.iload_n 3, 1) := by decide +kernel
theorem dd_M_read_151 : decode prog_9_method_28_code 151 = .ok (.ireturn, 1) := by decide +kernel
theorem dd_M_fault_0 : decode prog_9_method_29_code 0 = .ok (.aload_n 0, 1) := by decide +kernel
theorem dd_M_fault_1 : decode prog_9_method_29_code 1 = .ok (.iconst 0, 1) := by decide +kernel
theorem dd_M_fault_2 : decode prog_9_method_29_code 2 = .ok (.putfield 80, 3) := by decide +kernel
theorem dd_M_fault_5 : decode prog_9_method_29_code 5 = .ok (.iload_n 1, 1) := by decide +kernel
theorem dd_M_fault_6 : decode prog_9_method_29_code 6 = .ok (.ifCond .ne 10, 3) := by decide +kernel
theorem dd_M_fault_9 : decode prog_9_method_29_code 9 = .ok (.aload_n 0, 1) := by decide +kernel
theorem dd_M_fault_10 : decode prog_9_method_29_code 10 = .ok (.getfield 169, 3) := by decide +kernel
theorem dd_M_fault_13 : decode prog_9_method_29_code 13 = .ok (.goto 16, 3) := by decide +kernel
theorem dd_M_fault_16 : decode prog_9_method_29_code 16 = .ok (.iload_n 1, 1) := by decide +kernel
theorem dd_M_fault_17 : decode prog_9_method_29_code 17 = .ok (.iconst 1, 1) := by decide +kernel
theorem dd_M_fault_18 : decode prog_9_method_29_code 18 = .ok (.if_icmp .ne 10, 3) := by decide +kernel
theorem dd_M_fault_21 : decode prog_9_method_29_code 21 = .ok (.aload_n 0, 1) := by decide +kernel
theorem dd_M_fault_22 : decode prog_9_method_29_code 22 = .ok (.getfield 26, 3) := by decide +kernel
theorem dd_M_fault_25 : decode prog_9_method_29_code 25 = .ok (.goto 4, 3) := by decide +kernel
theorem dd_M_fault_28 : decode prog_9_method_29_code 28 = .ok (.iconst (-1), 1) := by decide +kernel
theorem dd_M_fault_29 : decode prog_9_method_29_code 29 = .ok (.ireturn, 1) := by decide +kernel
theorem dd_M_children_0 : decode prog_9_method_35_code 0 = .ok (.iconst 0, 1) := by decide +kernel
theorem dd_M_children_1 : decode prog_9_method_35_code 1 = .ok (.istore_n 2, 1) := by decide +kernel
theorem dd_M_children_2 : decode prog_9_method_35_code 2 = .ok (.iload_n 1, 1) := by decide +kernel
theorem dd_M_children_3 : decode prog_9_method_35_code 3 = .ok (.iconst 1, 1) := by decide +kernel
theorem dd_M_children_4 : decode prog_9_method_35_code 4 = .ok (.iadd, 1) := by decide +kernel
theorem dd_M_children_5 : decode prog_9_method_35_code 5 = .ok (.istore_n 3, 1) := by decide +kernel
theorem dd_M_children_6 : decode prog_9_method_35_code 6 = .ok (.iload_n 3, 1) := by decide +kernel
theorem dd_M_children_7 : decode prog_9_method_35_code 7 = .ok (.aload_n 0, 1) := by decide +kernel
theorem dd_M_children_8 : decode prog_9_method_35_code 8 = .ok (.getfield 122, 3) := by decide +kernel
theorem dd_M_children_11 : decode prog_9_method_35_code 11 = .ok (.if_icmp .ge 27, 3) := by decide +kernel
theorem dd_M_children_14 : decode prog_9_method_35_code 14 = .ok (.iload_n 2, 1) := by decide +kernel
theorem dd_M_children_15 : decode prog_9_method_35_code 15 = .ok (.aload_n 0, 1) := by decide +kernel
theorem dd_M_children_16 : decode prog_9_method_35_code 16 = .ok (.getfield 59, 3) := by decide +kernel
theorem dd_M_children_19 : decode prog_9_method_35_code 19 = .ok (.iload_n 3, 1) := by decide +kernel
theorem dd_M_children_20 : decode prog_9_method_35_code 20 = .ok (.iaload, 1) := by decide +kernel
theorem dd_M_children_21 : decode prog_9_method_35_code 21 = .ok (.iload_n 1, 1) := by decide +kernel
theorem dd_M_children_22 : decode prog_9_method_35_code 22 = .ok (.if_icmp .ne 7, 3) := by decide +kernel
theorem dd_M_children_25 : decode prog_9_method_35_code 25 = .ok (.iconst 1, 1) := by decide +kernel
theorem dd_M_children_26 : decode prog_9_method_35_code 26 = .ok (.goto 4, 3) := by decide +kernel
theorem dd_M_children_29 : decode prog_9_method_35_code 29 = .ok (.iconst 0, 1) := by decide +kernel
theorem dd_M_children_30 : decode prog_9_method_35_code 30 = .ok (.iadd, 1) := by decide +kernel
theorem dd_M_children_31 : decode prog_9_method_35_code 31 = .ok (.istore_n 2, 1) := by decide +kernel
theorem dd_M_children_32 : decode prog_9_method_35_code 32 = .ok (.iinc 3 1, 3) := by decide +kernel
theorem dd_M_children_35 : decode prog_9_method_35_code 35 = .ok (.goto (-29), 3) := by decide +kernel
theorem dd_M_children_38 : decode prog_9_method_35_code 38 = .ok (.iload_n 2, 1) := by decide +kernel
theorem dd_M_children_39 : decode prog_9_method_35_code 39 = .ok (.ireturn, 1) := by decide +kernel
theorem dd_M_node_0 : decode prog_9_method_36_code 0 = .ok (.aload_n 0, 1) := by decide +kernel
theorem dd_M_node_1 : decode prog_9_method_36_code 1 = .ok (.iload_n 1, 1) := by decide +kernel
theorem dd_M_node_2 : decode prog_9_method_36_code 2 = .ok (.ifCond .lt 11, 3) := by decide +kernel
theorem dd_M_node_5 : decode prog_9_method_36_code 5 = .ok (.iload_n 1, 1) := by decide +kernel
theorem dd_M_node_6 : decode prog_9_method_36_code 6 = .ok (.aload_n 0, 1) := by decide +kernel
theorem dd_M_node_7 : decode prog_9_method_36_code 7 = .ok (.getfield 122, 3) := by decide +kernel
theorem dd_M_node_10 : decode prog_9_method_36_code 10 = .ok (.if_icmp .lt 7, 3) := by decide +kernel
theorem dd_M_node_13 : decode prog_9_method_36_code 13 = .ok (.iconst 1, 1) := by decide +kernel
theorem dd_M_node_14 : decode prog_9_method_36_code 14 = .ok (.goto 4, 3) := by decide +kernel
theorem dd_M_node_17 : decode prog_9_method_36_code 17 = .ok (.iconst 0, 1) := by decide +kernel
theorem dd_M_node_18 : decode prog_9_method_36_code 18 = .ok (.putfield 80, 3) := by decide +kernel
theorem dd_M_node_21 : decode prog_9_method_36_code 21 = .ok (.aload_n 0, 1) := by decide +kernel
theorem dd_M_node_22 : decode prog_9_method_36_code 22 = .ok (.getfield 80, 3) := by decide +kernel
theorem dd_M_node_25 : decode prog_9_method_36_code 25 = .ok (.ifCond .le 5, 3) := by decide +kernel
theorem dd_M_node_28 : decode prog_9_method_36_code 28 = .ok (.iconst 0, 1) := by decide +kernel
theorem dd_M_node_29 : decode prog_9_method_36_code 29 = .ok (.ireturn, 1) := by decide +kernel
theorem dd_M_node_30 : decode prog_9_method_36_code 30 = .ok (.iload_n 2, 1) := by decide +kernel
theorem dd_M_node_31 : decode prog_9_method_36_code 31 = .ok (.tableswitch 72 0 4 #[33, 40, 46, 58, 65], 33) := by decide +kernel
theorem dd_M_node_64 : decode prog_9_method_36_code 64 = .ok (.aload_n 0, 1) := by decide +kernel
theorem dd_M_node_65 : decode prog_9_method_36_code 65 = .ok (.getfield 50, 3) := by decide +kernel
theorem dd_M_node_68 : decode prog_9_method_36_code 68 = .ok (.iload_n 1, 1) := by decide +kernel
theorem dd_M_node_69 : decode prog_9_method_36_code 69 = .ok (.iaload, 1) := by decide +kernel
theorem dd_M_node_70 : decode prog_9_method_36_code 70 = .ok (.ireturn, 1) := by decide +kernel
theorem dd_M_node_71 : decode prog_9_method_36_code 71 = .ok (.aload_n 0, 1) := by decide +kernel
theorem dd_M_node_72 : decode prog_9_method_36_code 72 = .ok (.iload_n 1, 1) := by decide +kernel
theorem dd_M_node_73 : decode prog_9_method_36_code 73 = .ok (.invokevirtual 205, 3) := by decide +kernel
theorem dd_M_node_76 : decode prog_9_method_36_code 76 = .ok (.ireturn, 1) := by decide +kernel
theorem dd_M_node_77 : decode prog_9_method_36_code 77 = .ok (.aload_n 0, 1) := by decide +kernel
theorem dd_M_node_78 : decode prog_9_method_36_code 78 = .ok (.getfield 33, 3) := by decide +kernel
theorem dd_M_node_81 : decode prog_9_method_36_code 81 = .ok (.aload_n 0, 1) := by decide +kernel
theorem dd_M_node_82 : decode prog_9_method_36_code 82 = .ok (.getfield 53, 3) := by decide +kernel
theorem dd_M_node_85 : decode prog_9_method_36_code 85 = .ok (.iload_n 1, 1) := by decide +kernel
theorem dd_M_node_86 : decode prog_9_method_36_code 86 = .ok (.iaload, 1) := by decide +kernel
theorem dd_M_node_87 : decode prog_9_method_36_code 87 = .ok (.iaload, 1) := by decide +kernel
theorem dd_M_node_88 : decode prog_9_method_36_code 88 = .ok (.ireturn, 1) := by decide +kernel
theorem dd_M_node_89 : decode prog_9_method_36_code 89 = .ok (.aload_n 0, 1) := by decide +kernel
theorem dd_M_node_90 : decode prog_9_method_36_code 90 = .ok (.getfield 56, 3) := by decide +kernel
theorem dd_M_node_93 : decode prog_9_method_36_code 93 = .ok (.iload_n 1, 1) := by decide +kernel
theorem dd_M_node_94 : decode prog_9_method_36_code 94 = .ok (.iaload, 1) := by decide +kernel
theorem dd_M_node_95 : decode prog_9_method_36_code 95 = .ok (.ireturn, 1) := by decide +kernel
theorem dd_M_node_96 : decode prog_9_method_36_code 96 = .ok (.aload_n 0, 1) := by decide +kernel
theorem dd_M_node_97 : decode prog_9_method_36_code 97 = .ok (.getfield 59, 3) := by decide +kernel
theorem dd_M_node_100 : decode prog_9_method_36_code 100 = .ok (.iload_n 1, 1) := by decide +kernel
theorem dd_M_node_101 : decode prog_9_method_36_code 101 = .ok (.iaload, 1) := by decide +kernel
theorem dd_M_node_102 : decode prog_9_method_36_code 102 = .ok (.ireturn, 1) := by decide +kernel
theorem dd_M_node_103 : decode prog_9_method_36_code 103 = .ok (.bipush (-3), 2) := by decide +kernel
theorem dd_M_node_105 : decode prog_9_method_36_code 105 = .ok (.ireturn, 1) := by decide +kernel
theorem dd_M_childAt_0 : decode prog_9_method_37_code 0 = .ok (.iload_n 1, 1) := by decide +kernel
theorem dd_M_childAt_1 : decode prog_9_method_37_code 1 = .ok (.iconst 1, 1) := by decide +kernel
theorem dd_M_childAt_2 : decode prog_9_method_37_code 2 = .ok (.iadd, 1) := by decide +kernel
theorem dd_M_childAt_3 : decode prog_9_method_37_code 3 = .ok (.istore_n 3, 1) := by decide +kernel
theorem dd_M_childAt_4 : decode prog_9_method_37_code 4 = .ok (.aload_n 0, 1) := by decide +kernel
theorem dd_M_childAt_5 : decode prog_9_method_37_code 5 = .ok (.getfield 59, 3) := by decide +kernel
theorem dd_M_childAt_8 : decode prog_9_method_37_code 8 = .ok (.iload_n 3, 1) := by decide +kernel
theorem dd_M_childAt_9 : decode prog_9_method_37_code 9 = .ok (.iaload, 1) := by decide +kernel
theorem dd_M_childAt_10 : decode prog_9_method_37_code 10 = .ok (.iload_n 1, 1) := by decide +kernel
theorem dd_M_childAt_11 : decode prog_9_method_37_code 11 = .ok (.if_icmp .ne 13, 3) := by decide +kernel
theorem dd_M_childAt_14 : decode prog_9_method_37_code 14 = .ok (.aload_n 0, 1) := by decide +kernel
theorem dd_M_childAt_15 : decode prog_9_method_37_code 15 = .ok (.getfield 53, 3) := by decide +kernel
theorem dd_M_childAt_18 : decode prog_9_method_37_code 18 = .ok (.iload_n 3, 1) := by decide +kernel
theorem dd_M_childAt_19 : decode prog_9_method_37_code 19 = .ok (.iaload, 1) := by decide +kernel
theorem dd_M_childAt_20 : decode prog_9_method_37_code 20 = .ok (.iload_n 2, 1) := by decide +kernel
theorem dd_M_childAt_21 : decode prog_9_method_37_code 21 = .ok (.if_icmp .eq 9, 3) := by decide +kernel
theorem dd_M_childAt_24 : decode prog_9_method_37_code 24 = .ok (.iinc 3 1, 3) := by decide +kernel
theorem dd_M_childAt_27 : decode prog_9_method_37_code 27 = .ok (.goto (-23), 3) := by decide +kernel
theorem dd_M_childAt_30 : decode prog_9_method_37_code 30 = .ok (.iload_n 3, 1) := by decide +kernel
theorem dd_M_childAt_31 : decode prog_9_method_37_code 31 = .ok (.ireturn, 1) := by decide +kernel
theorem dd_M_putWord_0 : decode prog_9_method_38_code 0 = .ok (.aload_n 0, 1) := by decide +kernel
theorem dd_M_putWord_1 : decode prog_9_method_38_code 1 = .ok (.getfield 208, 3) := by decide +kernel
theorem dd_M_putWord_4 : decode prog_9_method_38_code 4 = .ok (.ifCond .le 24, 3) := by decide +kernel
theorem dd_M_putWord_7 : decode prog_9_method_38_code 7 = .ok (.aload_n 0, 1) := by decide +kernel
theorem dd_M_putWord_8 : decode prog_9_method_38_code 8 = .ok (.getfield 74, 3) := by decide +kernel
theorem dd_M_putWord_11 : decode prog_9_method_38_code 11 = .ok (.aload_n 0, 1) := by decide +kernel
theorem dd_M_putWord_12 : decode prog_9_method_38_code 12 = .ok (.getfield 208, 3) := by decide +kernel
theorem dd_M_putWord_15 : decode prog_9_method_38_code 15 = .ok (.bipush 32, 2) := by decide +kernel
theorem dd_M_putWord_17 : decode prog_9_method_38_code 17 = .ok (.iastore, 1) := by decide +kernel
theorem dd_M_putWord_18 : decode prog_9_method_38_code 18 = .ok (.aload_n 0, 1) := by decide +kernel
theorem dd_M_putWord_19 : decode prog_9_method_38_code 19 = .ok (.dup, 1) := by decide +kernel
theorem dd_M_putWord_20 : decode prog_9_method_38_code 20 = .ok (.getfield 208, 3) := by decide +kernel
theorem dd_M_putWord_23 : decode prog_9_method_38_code 23 = .ok (.iconst 1, 1) := by decide +kernel
theorem dd_M_putWord_24 : decode prog_9_method_38_code 24 = .ok (.iadd, 1) := by decide +kernel
theorem dd_M_putWord_25 : decode prog_9_method_38_code 25 = .ok (.putfield 208, 3) := by decide +kernel
theorem dd_M_putWord_28 : decode prog_9_method_38_code 28 = .ok (.bipush 56, 2) := by decide +kernel
theorem dd_M_putWord_30 : decode prog_9_method_38_code 30 = .ok (.istore_n 3, 1) := by decide +kernel
theorem dd_M_putWord_31 : decode prog_9_method_38_code 31 = .ok (.iload_n 3, 1) := by decide +kernel
theorem dd_M_putWord_32 : decode prog_9_method_38_code 32 = .ok (.ifCond .lt 48, 3) := by decide +kernel
theorem dd_M_putWord_35 : decode prog_9_method_38_code 35 = .ok (.lload_n 1, 1) := by decide +kernel
theorem dd_M_putWord_36 : decode prog_9_method_38_code 36 = .ok (.iload_n 3, 1) := by decide +kernel
theorem dd_M_putWord_37 : decode prog_9_method_38_code 37 = .ok (.lshr, 1) := by decide +kernel
theorem dd_M_putWord_38 : decode prog_9_method_38_code 38 = .ok (.ldc2_w 90, 3) := by decide +kernel
theorem dd_M_putWord_41 : decode prog_9_method_38_code 41 = .ok (.land, 1) := by decide +kernel
theorem dd_M_putWord_42 : decode prog_9_method_38_code 42 = .ok (.l2i, 1) := by decide +kernel
theorem dd_M_putWord_43 : decode prog_9_method_38_code 43 = .ok (.istore 4, 2) := by decide +kernel
theorem dd_M_putWord_45 : decode prog_9_method_38_code 45 = .ok (.iload 4, 2) := by decide +kernel
theorem dd_M_putWord_47 : decode prog_9_method_38_code 47 = .ok (.ifCond .ne 6, 3) := by decide +kernel
theorem dd_M_putWord_50 : decode prog_9_method_38_code 50 = .ok (.goto 24, 3) := by decide +kernel
theorem dd_M_putWord_53 : decode prog_9_method_38_code 53 = .ok (.aload_n 0, 1) := by decide +kernel
theorem dd_M_putWord_54 : decode prog_9_method_38_code 54 = .ok (.getfield 74, 3) := by decide +kernel
theorem dd_M_putWord_57 : decode prog_9_method_38_code 57 = .ok (.aload_n 0, 1) := by decide +kernel
theorem dd_M_putWord_58 : decode prog_9_method_38_code 58 = .ok (.getfield 208, 3) := by decide +kernel
theorem dd_M_putWord_61 : decode prog_9_method_38_code 61 = .ok (.iload 4, 2) := by decide +kernel
theorem dd_M_putWord_63 : decode prog_9_method_38_code 63 = .ok (.iastore, 1) := by decide +kernel
theorem dd_M_putWord_64 : decode prog_9_method_38_code 64 = .ok (.aload_n 0, 1) := by decide +kernel
theorem dd_M_putWord_65 : decode prog_9_method_38_code 65 = .ok (.dup, 1) := by decide +kernel
theorem dd_M_putWord_66 : decode prog_9_method_38_code 66 = .ok (.getfield 208, 3) := by decide +kernel
theorem dd_M_putWord_69 : decode prog_9_method_38_code 69 = .ok (.iconst 1, 1) := by decide +kernel
theorem dd_M_putWord_70 : decode prog_9_method_38_code 70 = .ok (.iadd, 1) := by decide +kernel
theorem dd_M_putWord_71 : decode prog_9_method_38_code 71 = .ok (.putfield 208, 3) := by decide +kernel
theorem dd_M_putWord_74 : decode prog_9_method_38_code 74 = .ok (.iinc 3 (-8), 3) := by decide +kernel
theorem dd_M_putWord_77 : decode prog_9_method_38_code 77 = .ok (.goto (-46), 3) := by decide +kernel
theorem dd_M_putWord_80 : decode prog_9_method_38_code 80 = .ok (.return_, 1) := by decide +kernel
theorem dd_M_puts_0 : decode prog_9_method_40_code 0 = .ok (.aload_n 0, 1) := by decide +kernel
theorem dd_M_puts_1 : decode prog_9_method_40_code 1 = .ok (.getfield 77, 3) := by decide +kernel
theorem dd_M_puts_4 : decode prog_9_method_40_code 4 = .ok (.aload_n 0, 1) := by decide +kernel
theorem dd_M_puts_5 : decode prog_9_method_40_code 5 = .ok (.getfield 188, 3) := by decide +kernel
theorem dd_M_puts_8 : decode prog_9_method_40_code 8 = .ok (.iload_n 1, 1) := by decide +kernel
theorem dd_M_puts_9 : decode prog_9_method_40_code 9 = .ok (.iastore, 1) := by decide +kernel
theorem dd_M_puts_10 : decode prog_9_method_40_code 10 = .ok (.aload_n 0, 1) := by decide +kernel
theorem dd_M_puts_11 : decode prog_9_method_40_code 11 = .ok (.dup, 1) := by decide +kernel
theorem dd_M_puts_12 : decode prog_9_method_40_code 12 = .ok (.getfield 188, 3) := by decide +kernel
theorem dd_M_puts_15 : decode prog_9_method_40_code 15 = .ok (.iconst 1, 1) := by decide +kernel
theorem dd_M_puts_16 : decode prog_9_method_40_code 16 = .ok (.iadd, 1) := by decide +kernel
theorem dd_M_puts_17 : decode prog_9_method_40_code 17 = .ok (.putfield 188, 3) := by decide +kernel
theorem dd_M_puts_20 : decode prog_9_method_40_code 20 = .ok (.return_, 1) := by decide +kernel
theorem dd_M_takeApart_0 : decode prog_9_method_39_code 0 = .ok (.aload_n 0, 1) := by decide +kernel
theorem dd_M_takeApart_1 : decode prog_9_method_39_code 1 = .ok (.getfield 50, 3) := by decide +kernel
theorem dd_M_takeApart_4 : decode prog_9_method_39_code 4 = .ok (.iload_n 1, 1) := by decide +kernel
theorem dd_M_takeApart_5 : decode prog_9_method_39_code 5 = .ok (.iaload, 1) := by decide +kernel
theorem dd_M_takeApart_6 : decode prog_9_method_39_code 6 = .ok (.iconst (-1), 1) := by decide +kernel
theorem dd_M_takeApart_7 : decode prog_9_method_39_code 7 = .ok (.if_icmp .ne 18, 3) := by decide +kernel
theorem dd_M_takeApart_10 : decode prog_9_method_39_code 10 = .ok (.aload_n 0, 1) := by decide +kernel
theorem dd_M_takeApart_11 : decode prog_9_method_39_code 11 = .ok (.sipush 500, 3) := by decide +kernel
theorem dd_M_takeApart_14 : decode prog_9_method_39_code 14 = .ok (.aload_n 0, 1) := by decide +kernel
theorem dd_M_takeApart_15 : decode prog_9_method_39_code 15 = .ok (.getfield 53, 3) := by decide +kernel
theorem dd_M_takeApart_18 : decode prog_9_method_39_code 18 = .ok (.iload_n 1, 1) := by decide +kernel
theorem dd_M_takeApart_19 : decode prog_9_method_39_code 19 = .ok (.iaload, 1) := by decide +kernel
theorem dd_M_takeApart_20 : decode prog_9_method_39_code 20 = .ok (.iadd, 1) := by decide +kernel
theorem dd_M_takeApart_21 : decode prog_9_method_39_code 21 = .ok (.invokevirtual 211, 3) := by decide +kernel
theorem dd_M_takeApart_24 : decode prog_9_method_39_code 24 = .ok (.return_, 1) := by decide +kernel
theorem dd_M_takeApart_25 : decode prog_9_method_39_code 25 = .ok (.aload_n 0, 1) := by decide +kernel
theorem dd_M_takeApart_26 : decode prog_9_method_39_code 26 = .ok (.getfield 50, 3) := by decide +kernel
theorem dd_M_takeApart_29 : decode prog_9_method_39_code 29 = .ok (.iload_n 1, 1) := by decide +kernel
theorem dd_M_takeApart_30 : decode prog_9_method_39_code 30 = .ok (.iaload, 1) := by decide +kernel
theorem dd_M_takeApart_31 : decode prog_9_method_39_code 31 = .ok (.bipush (-2), 2) := by decide +kernel
theorem dd_M_takeApart_33 : decode prog_9_method_39_code 33 = .ok (.if_icmp .ne 11, 3) := by decide +kernel
theorem dd_M_takeApart_36 : decode prog_9_method_39_code 36 = .ok (.aload_n 0, 1) := by decide +kernel
theorem dd_M_takeApart_37 : decode prog_9_method_39_code 37 = .ok (.iload_n 1, 1) := by decide +kernel
theorem dd_M_takeApart_38 : decode prog_9_method_39_code 38 = .ok (.iconst 1, 1) := by decide +kernel
theorem dd_M_takeApart_39 : decode prog_9_method_39_code 39 = .ok (.iadd, 1) := by decide +kernel
theorem dd_M_takeApart_40 : decode prog_9_method_39_code 40 = .ok (.invokevirtual 211, 3) := by decide +kernel
theorem dd_M_takeApart_43 : decode prog_9_method_39_code 43 = .ok (.return_, 1) := by decide +kernel
theorem dd_M_takeApart_44 : decode prog_9_method_39_code 44 = .ok (.aload_n 0, 1) := by decide +kernel
theorem dd_M_takeApart_45 : decode prog_9_method_39_code 45 = .ok (.getfield 188, 3) := by decide +kernel
theorem dd_M_takeApart_48 : decode prog_9_method_39_code 48 = .ok (.istore_n 2, 1) := by decide +kernel
theorem dd_M_takeApart_49 : decode prog_9_method_39_code 49 = .ok (.aload_n 0, 1) := by decide +kernel
theorem dd_M_takeApart_50 : decode prog_9_method_39_code 50 = .ok (.getfield 53, 3) := by decide +kernel
theorem dd_M_takeApart_53 : decode prog_9_method_39_code 53 = .ok (.iload_n 1, 1) := by decide +kernel
theorem dd_M_takeApart_54 : decode prog_9_method_39_code 54 = .ok (.iaload, 1) := by decide +kernel
theorem dd_M_takeApart_55 : decode prog_9_method_39_code 55 = .ok (.istore_n 3, 1) := by decide +kernel
theorem dd_M_takeApart_56 : decode prog_9_method_39_code 56 = .ok (.iconst 0, 1) := by decide +kernel
theorem dd_M_takeApart_57 : decode prog_9_method_39_code 57 = .ok (.istore 4, 2) := by decide +kernel
theorem dd_M_takeApart_59 : decode prog_9_method_39_code 59 = .ok (.iload 4, 2) := by decide +kernel
theorem dd_M_takeApart_61 : decode prog_9_method_39_code 61 = .ok (.aload_n 0, 1) := by decide +kernel
theorem dd_M_takeApart_62 : decode prog_9_method_39_code 62 = .ok (.getfield 17, 3) := by decide +kernel
theorem dd_M_takeApart_65 : decode prog_9_method_39_code 65 = .ok (.aload_n 0, 1) := by decide +kernel
theorem dd_M_takeApart_66 : decode prog_9_method_39_code 66 = .ok (.getfield 50, 3) := by decide +kernel
theorem dd_M_takeApart_69 : decode prog_9_method_39_code 69 = .ok (.iload_n 1, 1) := by decide +kernel
theorem dd_M_takeApart_70 : decode prog_9_method_39_code 70 = .ok (.iaload, 1) := by decide +kernel
theorem dd_M_takeApart_71 : decode prog_9_method_39_code 71 = .ok (.iaload, 1) := by decide +kernel
theorem dd_M_takeApart_72 : decode prog_9_method_39_code 72 = .ok (.if_icmp .ge 149, 3) := by decide +kernel
theorem dd_M_takeApart_75 : decode prog_9_method_39_code 75 = .ok (.aload_n 0, 1) := by decide +kernel
theorem dd_M_takeApart_76 : decode prog_9_method_39_code 76 = .ok (.getfield 7, 3) := by decide +kernel
theorem dd_M_takeApart_79 : decode prog_9_method_39_code 79 = .ok (.bipush 7, 2) := by decide +kernel
theorem dd_M_takeApart_81 : decode prog_9_method_39_code 81 = .ok (.aload_n 0, 1) := by decide +kernel
theorem dd_M_takeApart_82 : decode prog_9_method_39_code 82 = .ok (.getfield 50, 3) := by decide +kernel
theorem dd_M_takeApart_85 : decode prog_9_method_39_code 85 = .ok (.iload_n 1, 1) := by decide +kernel
theorem dd_M_takeApart_86 : decode prog_9_method_39_code 86 = .ok (.iaload, 1) := by decide +kernel
theorem dd_M_takeApart_87 : decode prog_9_method_39_code 87 = .ok (.imul, 1) := by decide +kernel
theorem dd_M_takeApart_88 : decode prog_9_method_39_code 88 = .ok (.iload 4, 2) := by decide +kernel
theorem dd_M_takeApart_90 : decode prog_9_method_39_code 90 = .ok (.iadd, 1) := by decide +kernel
theorem dd_M_takeApart_91 : decode prog_9_method_39_code 91 = .ok (.iaload, 1) := by decide +kernel
theorem dd_M_takeApart_92 : decode prog_9_method_39_code 92 = .ok (.istore 5, 2) := by decide +kernel
theorem dd_M_takeApart_94 : decode prog_9_method_39_code 94 = .ok (.iload 5, 2) := by decide +kernel
theorem dd_M_takeApart_96 : decode prog_9_method_39_code 96 = .ok (.iconst (-1), 1) := by decide +kernel
theorem dd_M_takeApart_97 : decode prog_9_method_39_code 97 = .ok (.if_icmp .ne 18, 3) := by decide +kernel
theorem dd_M_takeApart_100 : decode prog_9_method_39_code 100 = .ok (.aload_n 0, 1) := by decide +kernel
theorem dd_M_takeApart_101 : decode prog_9_method_39_code 101 = .ok (.sipush 500, 3) := by decide +kernel
theorem dd_M_takeApart_104 : decode prog_9_method_39_code 104 = .ok (.iload_n 3, 1) := by decide +kernel
theorem dd_M_takeApart_105 : decode prog_9_method_39_code 105 = .ok (.iadd, 1) := by decide +kernel
theorem dd_M_takeApart_106 : decode prog_9_method_39_code 106 = .ok (.invokevirtual 211, 3) := by decide +kernel
theorem dd_M_takeApart_109 : decode prog_9_method_39_code 109 = .ok (.iinc 3 1, 3) := by decide +kernel
theorem dd_M_takeApart_112 : decode prog_9_method_39_code 112 = .ok (.goto 103, 3) := by decide +kernel
theorem dd_M_takeApart_115 : decode prog_9_method_39_code 115 = .ok (.aload_n 0, 1) := by decide +kernel
theorem dd_M_takeApart_116 : decode prog_9_method_39_code 116 = .ok (.iload_n 1, 1) := by decide +kernel
theorem dd_M_takeApart_117 : decode prog_9_method_39_code 117 = .ok (.iload_n 3, 1) := by decide +kernel
theorem dd_M_takeApart_118 : decode prog_9_method_39_code 118 = .ok (.invokevirtual 214, 3) := by decide +kernel
theorem dd_M_takeApart_121 : decode prog_9_method_39_code 121 = .ok (.istore 6, 2) := by decide +kernel
theorem dd_M_takeApart_123 : decode prog_9_method_39_code 123 = .ok (.iload_n 3, 1) := by decide +kernel
theorem dd_M_takeApart_124 : decode prog_9_method_39_code 124 = .ok (.aload_n 0, 1) := by decide +kernel
theorem dd_M_takeApart_125 : decode prog_9_method_39_code 125 = .ok (.getfield 56, 3) := by decide +kernel
theorem dd_M_takeApart_128 : decode prog_9_method_39_code 128 = .ok (.iload 6, 2) := by decide +kernel
theorem dd_M_takeApart_130 : decode prog_9_method_39_code 130 = .ok (.iaload, 1) := by decide +kernel
theorem dd_M_takeApart_131 : decode prog_9_method_39_code 131 = .ok (.iadd, 1) := by decide +kernel
theorem dd_M_takeApart_132 : decode prog_9_method_39_code 132 = .ok (.istore_n 3, 1) := by decide +kernel
theorem dd_M_takeApart_133 : decode prog_9_method_39_code 133 = .ok (.aload_n 0, 1) := by decide +kernel
theorem dd_M_takeApart_134 : decode prog_9_method_39_code 134 = .ok (.getfield 50, 3) := by decide +kernel
theorem dd_M_takeApart_137 : decode prog_9_method_39_code 137 = .ok (.iload 6, 2) := by decide +kernel
theorem dd_M_takeApart_139 : decode prog_9_method_39_code 139 = .ok (.iaload, 1) := by decide +kernel
theorem dd_M_takeApart_140 : decode prog_9_method_39_code 140 = .ok (.bipush (-2), 2) := by decide +kernel
theorem dd_M_takeApart_142 : decode prog_9_method_39_code 142 = .ok (.if_icmp .ne 9, 3) := by decide +kernel
theorem dd_M_takeApart_145 : decode prog_9_method_39_code 145 = .ok (.iinc 6 1, 3) := by decide +kernel
theorem dd_M_takeApart_148 : decode prog_9_method_39_code 148 = .ok (.goto (-15), 3) := by decide +kernel
theorem dd_M_takeApart_151 : decode prog_9_method_39_code 151 = .ok (.aload_n 0, 1) := by decide +kernel
theorem dd_M_takeApart_152 : decode prog_9_method_39_code 152 = .ok (.getfield 50, 3) := by decide +kernel
theorem dd_M_takeApart_155 : decode prog_9_method_39_code 155 = .ok (.iload 6, 2) := by decide +kernel
theorem dd_M_takeApart_157 : decode prog_9_method_39_code 157 = .ok (.iaload, 1) := by decide +kernel
theorem dd_M_takeApart_158 : decode prog_9_method_39_code 158 = .ok (.ifCond .lt 24, 3) := by decide +kernel
theorem dd_M_takeApart_161 : decode prog_9_method_39_code 161 = .ok (.iload 5, 2) := by decide +kernel
theorem dd_M_takeApart_163 : decode prog_9_method_39_code 163 = .ok (.aload_n 0, 1) := by decide +kernel
theorem dd_M_takeApart_164 : decode prog_9_method_39_code 164 = .ok (.getfield 20, 3) := by decide +kernel
theorem dd_M_takeApart_167 : decode prog_9_method_39_code 167 = .ok (.aload_n 0, 1) := by decide +kernel
theorem dd_M_takeApart_168 : decode prog_9_method_39_code 168 = .ok (.getfield 50, 3) := by decide +kernel
theorem dd_M_takeApart_171 : decode prog_9_method_39_code 171 = .ok (.iload 6, 2) := by decide +kernel
theorem dd_M_takeApart_173 : decode prog_9_method_39_code 173 = .ok (.iaload, 1) := by decide +kernel
theorem dd_M_takeApart_174 : decode prog_9_method_39_code 174 = .ok (.iaload, 1) := by decide +kernel
theorem dd_M_takeApart_175 : decode prog_9_method_39_code 175 = .ok (.if_icmp .le 7, 3) := by decide +kernel
theorem dd_M_takeApart_178 : decode prog_9_method_39_code 178 = .ok (.iconst 1, 1) := by decide +kernel
theorem dd_M_takeApart_179 : decode prog_9_method_39_code 179 = .ok (.goto 4, 3) := by decide +kernel
theorem dd_M_takeApart_182 : decode prog_9_method_39_code 182 = .ok (.iconst 0, 1) := by decide +kernel
theorem dd_M_takeApart_183 : decode prog_9_method_39_code 183 = .ok (.istore 7, 2) := by decide +kernel
theorem dd_M_takeApart_185 : decode prog_9_method_39_code 185 = .ok (.iload 7, 2) := by decide +kernel
theorem dd_M_takeApart_187 : decode prog_9_method_39_code 187 = .ok (.ifCond .eq 10, 3) := by decide +kernel
theorem dd_M_takeApart_190 : decode prog_9_method_39_code 190 = .ok (.aload_n 0, 1) := by decide +kernel
theorem dd_M_takeApart_191 : decode prog_9_method_39_code 191 = .ok (.sipush 1000, 3) := by decide +kernel
theorem dd_M_takeApart_194 : decode prog_9_method_39_code 194 = .ok (.invokevirtual 211, 3) := by decide +kernel
theorem dd_M_takeApart_197 : decode prog_9_method_39_code 197 = .ok (.aload_n 0, 1) := by decide +kernel
theorem dd_M_takeApart_198 : decode prog_9_method_39_code 198 = .ok (.iload 6, 2) := by decide +kernel
theorem dd_M_takeApart_200 : decode prog_9_method_39_code 200 = .ok (.invokevirtual 211, 3) := by decide +kernel
theorem dd_M_takeApart_203 : decode prog_9_method_39_code 203 = .ok (.iload 7, 2) := by decide +kernel
theorem dd_M_takeApart_205 : decode prog_9_method_39_code 205 = .ok (.ifCond .eq 10, 3) := by decide +kernel
theorem dd_M_takeApart_208 : decode prog_9_method_39_code 208 = .ok (.aload_n 0, 1) := by decide +kernel
theorem dd_M_takeApart_209 : decode prog_9_method_39_code 209 = .ok (.sipush 1001, 3) := by decide +kernel
theorem dd_M_takeApart_212 : decode prog_9_method_39_code 212 = .ok (.invokevirtual 211, 3) := by decide +kernel
theorem dd_M_takeApart_215 : decode prog_9_method_39_code 215 = .ok (.iinc 4 1, 3) := by decide +kernel
theorem dd_M_takeApart_218 : decode prog_9_method_39_code 218 = .ok (.goto (-159), 3) := by decide +kernel
theorem dd_M_takeApart_221 : decode prog_9_method_39_code 221 = .ok (.iload_n 2, 1) := by decide +kernel
theorem dd_M_takeApart_222 : decode prog_9_method_39_code 222 = .ok (.istore 4, 2) := by decide +kernel
theorem dd_M_takeApart_224 : decode prog_9_method_39_code 224 = .ok (.aload_n 0, 1) := by decide +kernel
theorem dd_M_takeApart_225 : decode prog_9_method_39_code 225 = .ok (.getfield 188, 3) := by decide +kernel
theorem dd_M_takeApart_228 : decode prog_9_method_39_code 228 = .ok (.iconst 1, 1) := by decide +kernel
theorem dd_M_takeApart_229 : decode prog_9_method_39_code 229 = .ok (.isub, 1) := by decide +kernel
theorem dd_M_takeApart_230 : decode prog_9_method_39_code 230 = .ok (.istore 5, 2) := by decide +kernel
theorem dd_M_takeApart_232 : decode prog_9_method_39_code 232 = .ok (.iload 4, 2) := by decide +kernel
theorem dd_M_takeApart_234 : decode prog_9_method_39_code 234 = .ok (.iload 5, 2) := by decide +kernel
theorem dd_M_takeApart_236 : decode prog_9_method_39_code 236 = .ok (.if_icmp .ge 44, 3) := by decide +kernel
theorem dd_M_takeApart_239 : decode prog_9_method_39_code 239 = .ok (.aload_n 0, 1) := by decide +kernel
theorem dd_M_takeApart_240 : decode prog_9_method_39_code 240 = .ok (.getfield 77, 3) := by decide +kernel
theorem dd_M_takeApart_243 : decode prog_9_method_39_code 243 = .ok (.iload 4, 2) := by decide +kernel
theorem dd_M_takeApart_245 : decode prog_9_method_39_code 245 = .ok (.iaload, 1) := by decide +kernel
theorem dd_M_takeApart_246 : decode prog_9_method_39_code 246 = .ok (.istore 6, 2) := by decide +kernel
theorem dd_M_takeApart_248 : decode prog_9_method_39_code 248 = .ok (.aload_n 0, 1) := by decide +kernel
theorem dd_M_takeApart_249 : decode prog_9_method_39_code 249 = .ok (.getfield 77, 3) := by decide +kernel
theorem dd_M_takeApart_252 : decode prog_9_method_39_code 252 = .ok (.iload 4, 2) := by decide +kernel
theorem dd_M_takeApart_254 : decode prog_9_method_39_code 254 = .ok (.aload_n 0, 1) := by decide +kernel
theorem dd_M_takeApart_255 : decode prog_9_method_39_code 255 = .ok (.getfield 77, 3) := by decide +kernel
theorem dd_M_takeApart_258 : decode prog_9_method_39_code 258 = .ok (.iload 5, 2) := by decide +kernel
theorem dd_M_takeApart_260 : decode prog_9_method_39_code 260 = .ok (.iaload, 1) := by decide +kernel
theorem dd_M_takeApart_261 : decode prog_9_method_39_code 261 = .ok (.iastore, 1) := by decide +kernel
theorem dd_M_takeApart_262 : decode prog_9_method_39_code 262 = .ok (.aload_n 0, 1) := by decide +kernel
theorem dd_M_takeApart_263 : decode prog_9_method_39_code 263 = .ok (.getfield 77, 3) := by decide +kernel
theorem dd_M_takeApart_266 : decode prog_9_method_39_code 266 = .ok (.iload 5, 2) := by decide +kernel
theorem dd_M_takeApart_268 : decode prog_9_method_39_code 268 = .ok (.iload 6, 2) := by decide +kernel
theorem dd_M_takeApart_270 : decode prog_9_method_39_code 270 = .ok (.iastore, 1) := by decide +kernel
theorem dd_M_takeApart_271 : decode prog_9_method_39_code 271 = .ok (.iinc 4 1, 3) := by decide +kernel
theorem dd_M_takeApart_274 : decode prog_9_method_39_code 274 = .ok (.iinc 5 (-1), 3) := by decide +kernel
theorem dd_M_takeApart_277 : decode prog_9_method_39_code 277 = .ok (.goto (-45), 3) := by decide +kernel
theorem dd_M_takeApart_280 : decode prog_9_method_39_code 280 = .ok (.return_, 1) := by decide +kernel
theorem dd_M_print_0 : decode prog_9_method_41_code 0 = .ok (.aload_n 0, 1) := by decide +kernel
theorem dd_M_print_1 : decode prog_9_method_41_code 1 = .ok (.aload_n 0, 1) := by decide +kernel
theorem dd_M_print_2 : decode prog_9_method_41_code 2 = .ok (.getfield 122, 3) := by decide +kernel
theorem dd_M_print_5 : decode prog_9_method_41_code 5 = .ok (.ifCond .ne 7, 3) := by decide +kernel
theorem dd_M_print_8 : decode prog_9_method_41_code 8 = .ok (.iconst 1, 1) := by decide +kernel
theorem dd_M_print_9 : decode prog_9_method_41_code 9 = .ok (.goto 4, 3) := by decide +kernel
theorem dd_M_print_12 : decode prog_9_method_41_code 12 = .ok (.iconst 0, 1) := by decide +kernel
theorem dd_M_print_13 : decode prog_9_method_41_code 13 = .ok (.putfield 80, 3) := by decide +kernel
theorem dd_M_print_16 : decode prog_9_method_41_code 16 = .ok (.aload_n 0, 1) := by decide +kernel
theorem dd_M_print_17 : decode prog_9_method_41_code 17 = .ok (.getfield 80, 3) := by decide +kernel
theorem dd_M_print_20 : decode prog_9_method_41_code 20 = .ok (.ifCond .le 5, 3) := by decide +kernel
theorem dd_M_print_23 : decode prog_9_method_41_code 23 = .ok (.iconst 0, 1) := by decide +kernel
theorem dd_M_print_24 : decode prog_9_method_41_code 24 = .ok (.ireturn, 1) := by decide +kernel
theorem dd_M_print_25 : decode prog_9_method_41_code 25 = .ok (.aload_n 0, 1) := by decide +kernel
theorem dd_M_print_26 : decode prog_9_method_41_code 26 = .ok (.iconst 0, 1) := by decide +kernel
theorem dd_M_print_27 : decode prog_9_method_41_code 27 = .ok (.putfield 208, 3) := by decide +kernel
theorem dd_M_print_30 : decode prog_9_method_41_code 30 = .ok (.aload_n 0, 1) := by decide +kernel
theorem dd_M_print_31 : decode prog_9_method_41_code 31 = .ok (.iconst 0, 1) := by decide +kernel
theorem dd_M_print_32 : decode prog_9_method_41_code 32 = .ok (.putfield 188, 3) := by decide +kernel
theorem dd_M_print_35 : decode prog_9_method_41_code 35 = .ok (.aload_n 0, 1) := by decide +kernel
theorem dd_M_print_36 : decode prog_9_method_41_code 36 = .ok (.iconst 0, 1) := by decide +kernel
theorem dd_M_print_37 : decode prog_9_method_41_code 37 = .ok (.invokevirtual 211, 3) := by decide +kernel
theorem dd_M_print_40 : decode prog_9_method_41_code 40 = .ok (.aload_n 0, 1) := by decide +kernel
theorem dd_M_print_41 : decode prog_9_method_41_code 41 = .ok (.getfield 188, 3) := by decide +kernel
theorem dd_M_print_44 : decode prog_9_method_41_code 44 = .ok (.ifCond .le 92, 3) := by decide +kernel
theorem dd_M_print_47 : decode prog_9_method_41_code 47 = .ok (.aload_n 0, 1) := by decide +kernel
theorem dd_M_print_48 : decode prog_9_method_41_code 48 = .ok (.dup, 1) := by decide +kernel
theorem dd_M_print_49 : decode prog_9_method_41_code 49 = .ok (.getfield 188, 3) := by decide +kernel
theorem dd_M_print_52 : decode prog_9_method_41_code 52 = .ok (.iconst 1, 1) := by decide +kernel
theorem dd_M_print_53 : decode prog_9_method_41_code 53 = .ok (.isub, 1) := by decide +kernel
theorem dd_M_print_54 : decode prog_9_method_41_code 54 = .ok (.putfield 188, 3) := by decide +kernel
theorem dd_M_print_57 : decode prog_9_method_41_code 57 = .ok (.aload_n 0, 1) := by decide +kernel
theorem dd_M_print_58 : decode prog_9_method_41_code 58 = .ok (.getfield 77, 3) := by decide +kernel
theorem dd_M_print_61 : decode prog_9_method_41_code 61 = .ok (.aload_n 0, 1) := by decide +kernel
theorem dd_M_print_62 : decode prog_9_method_41_code 62 = .ok (.getfield 188, 3) := by decide +kernel
theorem dd_M_print_65 : decode prog_9_method_41_code 65 = .ok (.iaload, 1) := by decide +kernel
theorem dd_M_print_66 : decode prog_9_method_41_code 66 = .ok (.istore_n 1, 1) := by decide +kernel
theorem dd_M_print_67 : decode prog_9_method_41_code 67 = .ok (.iload_n 1, 1) := by decide +kernel
theorem dd_M_print_68 : decode prog_9_method_41_code 68 = .ok (.sipush 1000, 3) := by decide +kernel
theorem dd_M_print_71 : decode prog_9_method_41_code 71 = .ok (.if_icmp .eq 10, 3) := by decide +kernel
theorem dd_M_print_74 : decode prog_9_method_41_code 74 = .ok (.iload_n 1, 1) := by decide +kernel
theorem dd_M_print_75 : decode prog_9_method_41_code 75 = .ok (.sipush 1001, 3) := by decide +kernel
theorem dd_M_print_78 : decode prog_9_method_41_code 78 = .ok (.if_icmp .ne 26, 3) := by decide +kernel
theorem dd_M_print_81 : decode prog_9_method_41_code 81 = .ok (.aload_n 0, 1) := by decide +kernel
theorem dd_M_print_82 : decode prog_9_method_41_code 82 = .ok (.iload_n 1, 1) := by decide +kernel
theorem dd_M_print_83 : decode prog_9_method_41_code 83 = .ok (.sipush 1000, 3) := by decide +kernel
theorem dd_M_print_86 : decode prog_9_method_41_code 86 = .ok (.if_icmp .ne 9, 3) := by decide +kernel
theorem dd_M_print_89 : decode prog_9_method_41_code 89 = .ok (.ldc2_w 118, 3) := by decide +kernel
theorem dd_M_print_92 : decode prog_9_method_41_code 92 = .ok (.goto 6, 3) := by decide +kernel
theorem dd_M_print_95 : decode prog_9_method_41_code 95 = .ok (.ldc2_w 120, 3) := by decide +kernel
theorem dd_M_print_98 : decode prog_9_method_41_code 98 = .ok (.invokevirtual 218, 3) := by decide +kernel
theorem dd_M_print_101 : decode prog_9_method_41_code 101 = .ok (.goto 32, 3) := by decide +kernel
theorem dd_M_print_104 : decode prog_9_method_41_code 104 = .ok (.iload_n 1, 1) := by decide +kernel
theorem dd_M_print_105 : decode prog_9_method_41_code 105 = .ok (.sipush 500, 3) := by decide +kernel
theorem dd_M_print_108 : decode prog_9_method_41_code 108 = .ok (.if_icmp .lt 20, 3) := by decide +kernel
theorem dd_M_print_111 : decode prog_9_method_41_code 111 = .ok (.aload_n 0, 1) := by decide +kernel
theorem dd_M_print_112 : decode prog_9_method_41_code 112 = .ok (.aload_n 0, 1) := by decide +kernel
theorem dd_M_print_113 : decode prog_9_method_41_code 113 = .ok (.getfield 30, 3) := by decide +kernel
theorem dd_M_print_116 : decode prog_9_method_41_code 116 = .ok (.iload_n 1, 1) := by decide +kernel
theorem dd_M_print_117 : decode prog_9_method_41_code 117 = .ok (.sipush 500, 3) := by decide +kernel
theorem dd_M_print_120 : decode prog_9_method_41_code 120 = .ok (.isub, 1) := by decide +kernel
theorem dd_M_print_121 : decode prog_9_method_41_code 121 = .ok (.laload, 1) := by decide +kernel
theorem dd_M_print_122 : decode prog_9_method_41_code 122 = .ok (.invokevirtual 218, 3) := by decide +kernel
theorem dd_M_print_125 : decode prog_9_method_41_code 125 = .ok (.goto 8, 3) := by decide +kernel
theorem dd_M_print_128 : decode prog_9_method_41_code 128 = .ok (.aload_n 0, 1) := by decide +kernel
theorem dd_M_print_129 : decode prog_9_method_41_code 129 = .ok (.iload_n 1, 1) := by decide +kernel
theorem dd_M_print_130 : decode prog_9_method_41_code 130 = .ok (.invokevirtual 222, 3) := by decide +kernel
theorem dd_M_print_133 : decode prog_9_method_41_code 133 = .ok (.goto (-93), 3) := by decide +kernel
theorem dd_M_print_136 : decode prog_9_method_41_code 136 = .ok (.aload_n 0, 1) := by decide +kernel
theorem dd_M_print_137 : decode prog_9_method_41_code 137 = .ok (.getfield 208, 3) := by decide +kernel
theorem dd_M_print_140 : decode prog_9_method_41_code 140 = .ok (.ireturn, 1) := by decide +kernel
theorem dd_M_at_0 : decode prog_9_method_42_code 0 = .ok (.aload_n 0, 1) := by decide +kernel
theorem dd_M_at_1 : decode prog_9_method_42_code 1 = .ok (.iconst 0, 1) := by decide +kernel
theorem dd_M_at_2 : decode prog_9_method_42_code 2 = .ok (.putfield 80, 3) := by decide +kernel
theorem dd_M_at_5 : decode prog_9_method_42_code 5 = .ok (.iload_n 1, 1) := by decide +kernel
theorem dd_M_at_6 : decode prog_9_method_42_code 6 = .ok (.ifCond .lt 11, 3) := by decide +kernel
theorem dd_M_at_9 : decode prog_9_method_42_code 9 = .ok (.iload_n 1, 1) := by decide +kernel
theorem dd_M_at_10 : decode prog_9_method_42_code 10 = .ok (.aload_n 0, 1) := by decide +kernel
theorem dd_M_at_11 : decode prog_9_method_42_code 11 = .ok (.getfield 208, 3) := by decide +kernel
theorem dd_M_at_14 : decode prog_9_method_42_code 14 = .ok (.if_icmp .lt 7, 3) := by decide +kernel
theorem dd_M_at_17 : decode prog_9_method_42_code 17 = .ok (.iconst (-1), 1) := by decide +kernel
theorem dd_M_at_18 : decode prog_9_method_42_code 18 = .ok (.goto 9, 3) := by decide +kernel
theorem dd_M_at_21 : decode prog_9_method_42_code 21 = .ok (.aload_n 0, 1) := by decide +kernel
theorem dd_M_at_22 : decode prog_9_method_42_code 22 = .ok (.getfield 74, 3) := by decide +kernel
theorem dd_M_at_25 : decode prog_9_method_42_code 25 = .ok (.iload_n 1, 1) := by decide +kernel
theorem dd_M_at_26 : decode prog_9_method_42_code 26 = .ok (.iaload, 1) := by decide +kernel
theorem dd_M_at_27 : decode prog_9_method_42_code 27 = .ok (.ireturn, 1) := by decide +kernel
theorem dd_M_isKey_0 : decode prog_9_method_43_code 0 = .ok (.aload_n 0, 1) := by decide +kernel
theorem dd_M_isKey_1 : decode prog_9_method_43_code 1 = .ok (.iconst 0, 1) := by decide +kernel
theorem dd_M_isKey_2 : decode prog_9_method_43_code 2 = .ok (.putfield 80, 3) := by decide +kernel
theorem dd_M_isKey_5 : decode prog_9_method_43_code 5 = .ok (.lload_n 1, 1) := by decide +kernel
theorem dd_M_isKey_6 : decode prog_9_method_43_code 6 = .ok (.iload_n 3, 1) := by decide +kernel
theorem dd_M_isKey_7 : decode prog_9_method_43_code 7 = .ok (.invokestatic 110, 3) := by decide +kernel
theorem dd_M_isKey_10 : decode prog_9_method_43_code 10 = .ok (.ifCond .eq 19, 3) := by decide +kernel
theorem dd_M_isKey_13 : decode prog_9_method_43_code 13 = .ok (.aload_n 0, 1) := by decide +kernel
theorem dd_M_isKey_14 : decode prog_9_method_43_code 14 = .ok (.lload_n 1, 1) := by decide +kernel
theorem dd_M_isKey_15 : decode prog_9_method_43_code 15 = .ok (.iload_n 3, 1) := by decide +kernel
theorem dd_M_isKey_16 : decode prog_9_method_43_code 16 = .ok (.invokestatic 114, 3) := by decide +kernel
theorem dd_M_isKey_19 : decode prog_9_method_43_code 19 = .ok (.invokevirtual 131, 3) := by decide +kernel
theorem dd_M_isKey_22 : decode prog_9_method_43_code 22 = .ok (.ifCond .eq 7, 3) := by decide +kernel
theorem dd_M_isKey_25 : decode prog_9_method_43_code 25 = .ok (.iconst 1, 1) := by decide +kernel
theorem dd_M_isKey_26 : decode prog_9_method_43_code 26 = .ok (.goto 4, 3) := by decide +kernel
theorem dd_M_isKey_29 : decode prog_9_method_43_code 29 = .ok (.iconst 0, 1) := by decide +kernel
theorem dd_M_isKey_30 : decode prog_9_method_43_code 30 = .ok (.ireturn, 1) := by decide +kernel
theorem dd_M_about_0 : decode prog_9_method_44_code 0 = .ok (.aload_n 0, 1) := by decide +kernel
theorem dd_M_about_1 : decode prog_9_method_44_code 1 = .ok (.iconst 0, 1) := by decide +kernel
theorem dd_M_about_2 : decode prog_9_method_44_code 2 = .ok (.putfield 80, 3) := by decide +kernel
theorem dd_M_about_5 : decode prog_9_method_44_code 5 = .ok (.iload_n 1, 1) := by decide +kernel
theorem dd_M_about_6 : decode prog_9_method_44_code 6 = .ok (.tableswitch 59 0 4 #[34, 39, 44, 49, 54], 34) := by decide +kernel
theorem dd_M_about_40 : decode prog_9_method_44_code 40 = .ok (.aload_n 0, 1) := by decide +kernel
theorem dd_M_about_41 : decode prog_9_method_44_code 41 = .ok (.getfield 100, 3) := by decide +kernel
theorem dd_M_about_44 : decode prog_9_method_44_code 44 = .ok (.ireturn, 1) := by decide +kernel
theorem dd_M_about_45 : decode prog_9_method_44_code 45 = .ok (.aload_n 0, 1) := by decide +kernel
theorem dd_M_about_46 : decode prog_9_method_44_code 46 = .ok (.getfield 103, 3) := by decide +kernel
theorem dd_M_about_49 : decode prog_9_method_44_code 49 = .ok (.ireturn, 1) := by decide +kernel
theorem dd_M_about_50 : decode prog_9_method_44_code 50 = .ok (.aload_n 0, 1) := by decide +kernel
theorem dd_M_about_51 : decode prog_9_method_44_code 51 = .ok (.getfield 125, 3) := by decide +kernel
theorem dd_M_about_54 : decode prog_9_method_44_code 54 = .ok (.ireturn, 1) := by decide +kernel
theorem dd_M_about_55 : decode prog_9_method_44_code 55 = .ok (.aload_n 0, 1) := by decide +kernel
theorem dd_M_about_56 : decode prog_9_method_44_code 56 = .ok (.getfield 122, 3) := by decide +kernel
theorem dd_M_about_59 : decode prog_9_method_44_code 59 = .ok (.ireturn, 1) := by decide +kernel
theorem dd_M_about_60 : decode prog_9_method_44_code 60 = .ok (.aload_n 0, 1) := by decide +kernel
theorem dd_M_about_61 : decode prog_9_method_44_code 61 = .ok (.getfield 208, 3) := by decide +kernel
theorem dd_M_about_64 : decode prog_9_method_44_code 64 = .ok (.ireturn, 1) := by decide +kernel
theorem dd_M_about_65 : decode prog_9_method_44_code 65 = .ok (.iconst (-1), 1) := by decide +kernel
theorem dd_M_about_66 : decode prog_9_method_44_code 66 = .ok (.ireturn, 1) := by decide +kernel
