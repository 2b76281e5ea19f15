theorem dd_Grammar_dropHand_0 : decode prog_3_method_7_code 0 = .ok (.aload_n 0, 1) := by decide +kernel
theorem dd_Grammar_dropHand_1 : decode prog_3_method_7_code 1 = .ok (.getfield 9, 3) := by decide +kernel
theorem dd_Grammar_dropHand_4 : decode prog_3_method_7_code 4 = .ok (.aload_n 0, 1) := by decide +kernel
theorem dd_Grammar_dropHand_5 : decode prog_3_method_7_code 5 = .ok (.invokevirtual 47, 3) := by decide +kernel
theorem dd_Grammar_dropHand_8 : decode prog_3_method_7_code 8 = .ok (.aload_n 0, 1) := by decide +kernel
theorem dd_Grammar_dropHand_9 : decode prog_3_method_7_code 9 = .ok (.invokevirtual 47, 3) := by decide +kernel
theorem dd_Grammar_dropHand_12 : decode prog_3_method_7_code 12 = .ok (.bipush 7, 2) := by decide +kernel
theorem dd_Grammar_dropHand_14 : decode prog_3_method_7_code 14 = .ok (.iadd, 1) := by decide +kernel
theorem dd_Grammar_dropHand_15 : decode prog_3_method_7_code 15 = .ok (.iconst (-1), 1) := by decide +kernel
theorem dd_Grammar_dropHand_16 : decode prog_3_method_7_code 16 = .ok (.invokestatic 51, 3) := by decide +kernel
theorem dd_Grammar_dropHand_19 : decode prog_3_method_7_code 19 = .ok (.aload_n 0, 1) := by decide +kernel
theorem dd_Grammar_dropHand_20 : decode prog_3_method_7_code 20 = .ok (.getfield 15, 3) := by decide +kernel
theorem dd_Grammar_dropHand_23 : decode prog_3_method_7_code 23 = .ok (.aload_n 0, 1) := by decide +kernel
theorem dd_Grammar_dropHand_24 : decode prog_3_method_7_code 24 = .ok (.invokevirtual 47, 3) := by decide +kernel
theorem dd_Grammar_dropHand_27 : decode prog_3_method_7_code 27 = .ok (.aload_n 0, 1) := by decide +kernel
theorem dd_Grammar_dropHand_28 : decode prog_3_method_7_code 28 = .ok (.invokevirtual 47, 3) := by decide +kernel
theorem dd_Grammar_dropHand_31 : decode prog_3_method_7_code 31 = .ok (.bipush 7, 2) := by decide +kernel
theorem dd_Grammar_dropHand_33 : decode prog_3_method_7_code 33 = .ok (.iadd, 1) := by decide +kernel
theorem dd_Grammar_dropHand_34 : decode prog_3_method_7_code 34 = .ok (.ldc2_w 38, 3) := by decide +kernel
theorem dd_Grammar_dropHand_37 : decode prog_3_method_7_code 37 = .ok (.invokestatic 54, 3) := by decide +kernel
theorem dd_Grammar_dropHand_40 : decode prog_3_method_7_code 40 = .ok (.aload_n 0, 1) := by decide +kernel
theorem dd_Grammar_dropHand_41 : decode prog_3_method_7_code 41 = .ok (.iconst 0, 1) := by decide +kernel
theorem dd_Grammar_dropHand_42 : decode prog_3_method_7_code 42 = .ok (.putfield 29, 3) := by decide +kernel
theorem dd_Grammar_dropHand_45 : decode prog_3_method_7_code 45 = .ok (.return_, 1) := by decide +kernel
theorem dd_Grammar_handEndsInHole_0 : decode prog_3_method_4_code 0 = .ok (.aload_n 0, 1) := by decide +kernel
theorem dd_Grammar_handEndsInHole_1 : decode prog_3_method_4_code 1 = .ok (.getfield 29, 3) := by decide +kernel
theorem dd_Grammar_handEndsInHole_4 : decode prog_3_method_4_code 4 = .ok (.ifCond .le 27, 3) := by decide +kernel
theorem dd_Grammar_handEndsInHole_7 : decode prog_3_method_4_code 7 = .ok (.aload_n 0, 1) := by decide +kernel
theorem dd_Grammar_handEndsInHole_8 : decode prog_3_method_4_code 8 = .ok (.getfield 9, 3) := by decide +kernel
theorem dd_Grammar_handEndsInHole_11 : decode prog_3_method_4_code 11 = .ok (.aload_n 0, 1) := by decide +kernel
theorem dd_Grammar_handEndsInHole_12 : decode prog_3_method_4_code 12 = .ok (.invokevirtual 47, 3) := by decide +kernel
theorem dd_Grammar_handEndsInHole_15 : decode prog_3_method_4_code 15 = .ok (.aload_n 0, 1) := by decide +kernel
theorem dd_Grammar_handEndsInHole_16 : decode prog_3_method_4_code 16 = .ok (.getfield 29, 3) := by decide +kernel
theorem dd_Grammar_handEndsInHole_19 : decode prog_3_method_4_code 19 = .ok (.iadd, 1) := by decide +kernel
theorem dd_Grammar_handEndsInHole_20 : decode prog_3_method_4_code 20 = .ok (.iconst 1, 1) := by decide +kernel
theorem dd_Grammar_handEndsInHole_21 : decode prog_3_method_4_code 21 = .ok (.isub, 1) := by decide +kernel
theorem dd_Grammar_handEndsInHole_22 : decode prog_3_method_4_code 22 = .ok (.iaload, 1) := by decide +kernel
theorem dd_Grammar_handEndsInHole_23 : decode prog_3_method_4_code 23 = .ok (.iconst (-1), 1) := by decide +kernel
theorem dd_Grammar_handEndsInHole_24 : decode prog_3_method_4_code 24 = .ok (.if_icmp .eq 7, 3) := by decide +kernel
theorem dd_Grammar_handEndsInHole_27 : decode prog_3_method_4_code 27 = .ok (.iconst 1, 1) := by decide +kernel
theorem dd_Grammar_handEndsInHole_28 : decode prog_3_method_4_code 28 = .ok (.goto 4, 3) := by decide +kernel
theorem dd_Grammar_handEndsInHole_31 : decode prog_3_method_4_code 31 = .ok (.iconst 0, 1) := by decide +kernel
theorem dd_Grammar_handEndsInHole_32 : decode prog_3_method_4_code 32 = .ok (.ireturn, 1) := by decide +kernel
theorem dd_Grammar_handHasWord_0 : decode prog_3_method_5_code 0 = .ok (.iconst 0, 1) := by decide +kernel
theorem dd_Grammar_handHasWord_1 : decode prog_3_method_5_code 1 = .ok (.istore_n 1, 1) := by decide +kernel
theorem dd_Grammar_handHasWord_2 : decode prog_3_method_5_code 2 = .ok (.iload_n 1, 1) := by decide +kernel
theorem dd_Grammar_handHasWord_3 : decode prog_3_method_5_code 3 = .ok (.aload_n 0, 1) := by decide +kernel
theorem dd_Grammar_handHasWord_4 : decode prog_3_method_5_code 4 = .ok (.getfield 29, 3) := by decide +kernel
theorem dd_Grammar_handHasWord_7 : decode prog_3_method_5_code 7 = .ok (.if_icmp .ge 29, 3) := by decide +kernel
theorem dd_Grammar_handHasWord_10 : decode prog_3_method_5_code 10 = .ok (.aload_n 0, 1) := by decide +kernel
theorem dd_Grammar_handHasWord_11 : decode prog_3_method_5_code 11 = .ok (.getfield 15, 3) := by decide +kernel
theorem dd_Grammar_handHasWord_14 : decode prog_3_method_5_code 14 = .ok (.aload_n 0, 1) := by decide +kernel
theorem dd_Grammar_handHasWord_15 : decode prog_3_method_5_code 15 = .ok (.invokevirtual 47, 3) := by decide +kernel
theorem dd_Grammar_handHasWord_18 : decode prog_3_method_5_code 18 = .ok (.iload_n 1, 1) := by decide +kernel
theorem dd_Grammar_handHasWord_19 : decode prog_3_method_5_code 19 = .ok (.iadd, 1) := by decide +kernel
theorem dd_Grammar_handHasWord_20 : decode prog_3_method_5_code 20 = .ok (.laload, 1) := by decide +kernel
theorem dd_Grammar_handHasWord_21 : decode prog_3_method_5_code 21 = .ok (.ldc2_w 38, 3) := by decide +kernel
theorem dd_Grammar_handHasWord_24 : decode prog_3_method_5_code 24 = .ok (.lcmp, 1) := by decide +kernel
theorem dd_Grammar_handHasWord_25 : decode prog_3_method_5_code 25 = .ok (.ifCond .eq 5, 3) := by decide +kernel
theorem dd_Grammar_handHasWord_28 : decode prog_3_method_5_code 28 = .ok (.iconst 1, 1) := by decide +kernel
theorem dd_Grammar_handHasWord_29 : decode prog_3_method_5_code 29 = .ok (.ireturn, 1) := by decide +kernel
theorem dd_Grammar_handHasWord_30 : decode prog_3_method_5_code 30 = .ok (.iinc 1 1, 3) := by decide +kernel
theorem dd_Grammar_handHasWord_33 : decode prog_3_method_5_code 33 = .ok (.goto (-31), 3) := by decide +kernel
theorem dd_Grammar_handHasWord_36 : decode prog_3_method_5_code 36 = .ok (.iconst 0, 1) := by decide +kernel
theorem dd_Grammar_handHasWord_37 : decode prog_3_method_5_code 37 = .ok (.ireturn, 1) := by decide +kernel
theorem dd_Grammar_hasKey_0 : decode prog_3_method_9_code 0 = .ok (.bipush 14, 2) := by decide +kernel
theorem dd_Grammar_hasKey_2 : decode prog_3_method_9_code 2 = .ok (.istore_n 3, 1) := by decide +kernel
theorem dd_Grammar_hasKey_3 : decode prog_3_method_9_code 3 = .ok (.iload_n 3, 1) := by decide +kernel
theorem dd_Grammar_hasKey_4 : decode prog_3_method_9_code 4 = .ok (.aload_n 0, 1) := by decide +kernel
theorem dd_Grammar_hasKey_5 : decode prog_3_method_9_code 5 = .ok (.invokevirtual 47, 3) := by decide +kernel
theorem dd_Grammar_hasKey_8 : decode prog_3_method_9_code 8 = .ok (.if_icmp .ge 22, 3) := by decide +kernel
theorem dd_Grammar_hasKey_11 : decode prog_3_method_9_code 11 = .ok (.aload_n 0, 1) := by decide +kernel
theorem dd_Grammar_hasKey_12 : decode prog_3_method_9_code 12 = .ok (.getfield 15, 3) := by decide +kernel
theorem dd_Grammar_hasKey_15 : decode prog_3_method_9_code 15 = .ok (.iload_n 3, 1) := by decide +kernel
theorem dd_Grammar_hasKey_16 : decode prog_3_method_9_code 16 = .ok (.laload, 1) := by decide +kernel
theorem dd_Grammar_hasKey_17 : decode prog_3_method_9_code 17 = .ok (.lload_n 1, 1) := by decide +kernel
theorem dd_Grammar_hasKey_18 : decode prog_3_method_9_code 18 = .ok (.lcmp, 1) := by decide +kernel
theorem dd_Grammar_hasKey_19 : decode prog_3_method_9_code 19 = .ok (.ifCond .ne 5, 3) := by decide +kernel
theorem dd_Grammar_hasKey_22 : decode prog_3_method_9_code 22 = .ok (.iconst 1, 1) := by decide +kernel
theorem dd_Grammar_hasKey_23 : decode prog_3_method_9_code 23 = .ok (.ireturn, 1) := by decide +kernel
theorem dd_Grammar_hasKey_24 : decode prog_3_method_9_code 24 = .ok (.iinc 3 1, 3) := by decide +kernel
theorem dd_Grammar_hasKey_27 : decode prog_3_method_9_code 27 = .ok (.goto (-24), 3) := by decide +kernel
theorem dd_Grammar_hasKey_30 : decode prog_3_method_9_code 30 = .ok (.iconst 0, 1) := by decide +kernel
theorem dd_Grammar_hasKey_31 : decode prog_3_method_9_code 31 = .ok (.ireturn, 1) := by decide +kernel
theorem dd_Grammar_lastDot_0 : decode prog_3_method_3_code 0 = .ok (.iload_n 1, 1) := by decide +kernel
theorem dd_Grammar_lastDot_1 : decode prog_3_method_3_code 1 = .ok (.bipush 7, 2) := by decide +kernel
theorem dd_Grammar_lastDot_3 : decode prog_3_method_3_code 3 = .ok (.imul, 1) := by decide +kernel
theorem dd_Grammar_lastDot_4 : decode prog_3_method_3_code 4 = .ok (.aload_n 0, 1) := by decide +kernel
theorem dd_Grammar_lastDot_5 : decode prog_3_method_3_code 5 = .ok (.getfield 22, 3) := by decide +kernel
theorem dd_Grammar_lastDot_8 : decode prog_3_method_3_code 8 = .ok (.iload_n 1, 1) := by decide +kernel
theorem dd_Grammar_lastDot_9 : decode prog_3_method_3_code 9 = .ok (.iaload, 1) := by decide +kernel
theorem dd_Grammar_lastDot_10 : decode prog_3_method_3_code 10 = .ok (.iadd, 1) := by decide +kernel
theorem dd_Grammar_lastDot_11 : decode prog_3_method_3_code 11 = .ok (.ireturn, 1) := by decide +kernel
theorem dd_Grammar_makeRule_0 : decode prog_3_method_8_code 0 = .ok (.aload_n 0, 1) := by decide +kernel
theorem dd_Grammar_makeRule_1 : decode prog_3_method_8_code 1 = .ok (.getfield 25, 3) := by decide +kernel
theorem dd_Grammar_makeRule_4 : decode prog_3_method_8_code 4 = .ok (.istore_n 2, 1) := by decide +kernel
theorem dd_Grammar_makeRule_5 : decode prog_3_method_8_code 5 = .ok (.aload_n 0, 1) := by decide +kernel
theorem dd_Grammar_makeRule_6 : decode prog_3_method_8_code 6 = .ok (.getfield 19, 3) := by decide +kernel
theorem dd_Grammar_makeRule_9 : decode prog_3_method_8_code 9 = .ok (.iload_n 2, 1) := by decide +kernel
theorem dd_Grammar_makeRule_10 : decode prog_3_method_8_code 10 = .ok (.iload_n 1, 1) := by decide +kernel
theorem dd_Grammar_makeRule_11 : decode prog_3_method_8_code 11 = .ok (.iastore, 1) := by decide +kernel
theorem dd_Grammar_makeRule_12 : decode prog_3_method_8_code 12 = .ok (.aload_n 0, 1) := by decide +kernel
theorem dd_Grammar_makeRule_13 : decode prog_3_method_8_code 13 = .ok (.getfield 22, 3) := by decide +kernel
theorem dd_Grammar_makeRule_16 : decode prog_3_method_8_code 16 = .ok (.iload_n 2, 1) := by decide +kernel
theorem dd_Grammar_makeRule_17 : decode prog_3_method_8_code 17 = .ok (.aload_n 0, 1) := by decide +kernel
theorem dd_Grammar_makeRule_18 : decode prog_3_method_8_code 18 = .ok (.getfield 29, 3) := by decide +kernel
theorem dd_Grammar_makeRule_21 : decode prog_3_method_8_code 21 = .ok (.iastore, 1) := by decide +kernel
theorem dd_Grammar_makeRule_22 : decode prog_3_method_8_code 22 = .ok (.aload_n 0, 1) := by decide +kernel
theorem dd_Grammar_makeRule_23 : decode prog_3_method_8_code 23 = .ok (.dup, 1) := by decide +kernel
theorem dd_Grammar_makeRule_24 : decode prog_3_method_8_code 24 = .ok (.getfield 25, 3) := by decide +kernel
theorem dd_Grammar_makeRule_27 : decode prog_3_method_8_code 27 = .ok (.iconst 1, 1) := by decide +kernel
theorem dd_Grammar_makeRule_28 : decode prog_3_method_8_code 28 = .ok (.iadd, 1) := by decide +kernel
theorem dd_Grammar_makeRule_29 : decode prog_3_method_8_code 29 = .ok (.putfield 25, 3) := by decide +kernel
theorem dd_Grammar_makeRule_32 : decode prog_3_method_8_code 32 = .ok (.aload_n 0, 1) := by decide +kernel
theorem dd_Grammar_makeRule_33 : decode prog_3_method_8_code 33 = .ok (.iconst 0, 1) := by decide +kernel
theorem dd_Grammar_makeRule_34 : decode prog_3_method_8_code 34 = .ok (.putfield 29, 3) := by decide +kernel
theorem dd_Grammar_makeRule_37 : decode prog_3_method_8_code 37 = .ok (.iload_n 2, 1) := by decide +kernel
theorem dd_Grammar_makeRule_38 : decode prog_3_method_8_code 38 = .ok (.ireturn, 1) := by decide +kernel
theorem dd_Grammar_takePart_0 : decode prog_3_method_6_code 0 = .ok (.aload_n 0, 1) := by decide +kernel
theorem dd_Grammar_takePart_1 : decode prog_3_method_6_code 1 = .ok (.getfield 9, 3) := by decide +kernel
theorem dd_Grammar_takePart_4 : decode prog_3_method_6_code 4 = .ok (.aload_n 0, 1) := by decide +kernel
theorem dd_Grammar_takePart_5 : decode prog_3_method_6_code 5 = .ok (.invokevirtual 47, 3) := by decide +kernel
theorem dd_Grammar_takePart_8 : decode prog_3_method_6_code 8 = .ok (.aload_n 0, 1) := by decide +kernel
theorem dd_Grammar_takePart_9 : decode prog_3_method_6_code 9 = .ok (.getfield 29, 3) := by decide +kernel
theorem dd_Grammar_takePart_12 : decode prog_3_method_6_code 12 = .ok (.iadd, 1) := by decide +kernel
theorem dd_Grammar_takePart_13 : decode prog_3_method_6_code 13 = .ok (.iload_n 1, 1) := by decide +kernel
theorem dd_Grammar_takePart_14 : decode prog_3_method_6_code 14 = .ok (.iastore, 1) := by decide +kernel
theorem dd_Grammar_takePart_15 : decode prog_3_method_6_code 15 = .ok (.aload_n 0, 1) := by decide +kernel
theorem dd_Grammar_takePart_16 : decode prog_3_method_6_code 16 = .ok (.getfield 15, 3) := by decide +kernel
theorem dd_Grammar_takePart_19 : decode prog_3_method_6_code 19 = .ok (.aload_n 0, 1) := by decide +kernel
theorem dd_Grammar_takePart_20 : decode prog_3_method_6_code 20 = .ok (.invokevirtual 47, 3) := by decide +kernel
theorem dd_Grammar_takePart_23 : decode prog_3_method_6_code 23 = .ok (.aload_n 0, 1) := by decide +kernel
theorem dd_Grammar_takePart_24 : decode prog_3_method_6_code 24 = .ok (.getfield 29, 3) := by decide +kernel
theorem dd_Grammar_takePart_27 : decode prog_3_method_6_code 27 = .ok (.iadd, 1) := by decide +kernel
theorem dd_Grammar_takePart_28 : decode prog_3_method_6_code 28 = .ok (.lload_n 2, 1) := by decide +kernel
theorem dd_Grammar_takePart_29 : decode prog_3_method_6_code 29 = .ok (.lastore, 1) := by decide +kernel
theorem dd_Grammar_takePart_30 : decode prog_3_method_6_code 30 = .ok (.aload_n 0, 1) := by decide +kernel
theorem dd_Grammar_takePart_31 : decode prog_3_method_6_code 31 = .ok (.dup, 1) := by decide +kernel
theorem dd_Grammar_takePart_32 : decode prog_3_method_6_code 32 = .ok (.getfield 29, 3) := by decide +kernel
theorem dd_Grammar_takePart_35 : decode prog_3_method_6_code 35 = .ok (.iconst 1, 1) := by decide +kernel
theorem dd_Grammar_takePart_36 : decode prog_3_method_6_code 36 = .ok (.iadd, 1) := by decide +kernel
theorem dd_Grammar_takePart_37 : decode prog_3_method_6_code 37 = .ok (.putfield 29, 3) := by decide +kernel
theorem dd_Grammar_takePart_40 : decode prog_3_method_6_code 40 = .ok (.aload_n 0, 1) := by decide +kernel
theorem dd_Grammar_takePart_41 : decode prog_3_method_6_code 41 = .ok (.getfield 29, 3) := by decide +kernel
theorem dd_Grammar_takePart_44 : decode prog_3_method_6_code 44 = .ok (.ireturn, 1) := by decide +kernel
theorem dd_Grammar_usedDots_0 : decode prog_3_method_2_code 0 = .ok (.aload_n 0, 1) := by decide +kernel
theorem dd_Grammar_usedDots_1 : decode prog_3_method_2_code 1 = .ok (.getfield 25, 3) := by decide +kernel
theorem dd_Grammar_usedDots_4 : decode prog_3_method_2_code 4 = .ok (.bipush 7, 2) := by decide +kernel
theorem dd_Grammar_usedDots_6 : decode prog_3_method_2_code 6 = .ok (.imul, 1) := by decide +kernel
theorem dd_Grammar_usedDots_7 : decode prog_3_method_2_code 7 = .ok (.ireturn, 1) := by decide +kernel
