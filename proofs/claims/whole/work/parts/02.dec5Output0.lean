theorem dd_Output_addByte_0 : decode prog_4_method_4_code 0 = .ok (.aload_n 0, 1) := by decide +kernel
theorem dd_Output_addByte_1 : decode prog_4_method_4_code 1 = .ok (.getfield 15, 3) := by decide +kernel
theorem dd_Output_addByte_4 : decode prog_4_method_4_code 4 = .ok (.aload_n 0, 1) := by decide +kernel
theorem dd_Output_addByte_5 : decode prog_4_method_4_code 5 = .ok (.getfield 9, 3) := by decide +kernel
theorem dd_Output_addByte_8 : decode prog_4_method_4_code 8 = .ok (.arraylength, 1) := by decide +kernel
theorem dd_Output_addByte_9 : decode prog_4_method_4_code 9 = .ok (.if_icmp .ge 24, 3) := by decide +kernel
theorem dd_Output_addByte_12 : decode prog_4_method_4_code 12 = .ok (.aload_n 0, 1) := by decide +kernel
theorem dd_Output_addByte_13 : decode prog_4_method_4_code 13 = .ok (.getfield 9, 3) := by decide +kernel
theorem dd_Output_addByte_16 : decode prog_4_method_4_code 16 = .ok (.aload_n 0, 1) := by decide +kernel
theorem dd_Output_addByte_17 : decode prog_4_method_4_code 17 = .ok (.getfield 15, 3) := by decide +kernel
theorem dd_Output_addByte_20 : decode prog_4_method_4_code 20 = .ok (.iload_n 1, 1) := by decide +kernel
theorem dd_Output_addByte_21 : decode prog_4_method_4_code 21 = .ok (.i2b, 1) := by decide +kernel
theorem dd_Output_addByte_22 : decode prog_4_method_4_code 22 = .ok (.bastore, 1) := by decide +kernel
theorem dd_Output_addByte_23 : decode prog_4_method_4_code 23 = .ok (.aload_n 0, 1) := by decide +kernel
theorem dd_Output_addByte_24 : decode prog_4_method_4_code 24 = .ok (.dup, 1) := by decide +kernel
theorem dd_Output_addByte_25 : decode prog_4_method_4_code 25 = .ok (.getfield 15, 3) := by decide +kernel
theorem dd_Output_addByte_28 : decode prog_4_method_4_code 28 = .ok (.iconst 1, 1) := by decide +kernel
theorem dd_Output_addByte_29 : decode prog_4_method_4_code 29 = .ok (.iadd, 1) := by decide +kernel
theorem dd_Output_addByte_30 : decode prog_4_method_4_code 30 = .ok (.putfield 15, 3) := by decide +kernel
theorem dd_Output_addByte_33 : decode prog_4_method_4_code 33 = .ok (.return_, 1) := by decide +kernel
theorem dd_Output_writeWord_0 : decode prog_4_method_3_code 0 = .ok (.bipush 7, 2) := by decide +kernel
theorem dd_Output_writeWord_2 : decode prog_4_method_3_code 2 = .ok (.istore_n 3, 1) := by decide +kernel
theorem dd_Output_writeWord_3 : decode prog_4_method_3_code 3 = .ok (.iload_n 3, 1) := by decide +kernel
theorem dd_Output_writeWord_4 : decode prog_4_method_3_code 4 = .ok (.ifCond .lt 27, 3) := by decide +kernel
theorem dd_Output_writeWord_7 : decode prog_4_method_3_code 7 = .ok (.lload_n 1, 1) := by decide +kernel
theorem dd_Output_writeWord_8 : decode prog_4_method_3_code 8 = .ok (.iload_n 3, 1) := by decide +kernel
theorem dd_Output_writeWord_9 : decode prog_4_method_3_code 9 = .ok (.invokestatic 36, 3) := by decide +kernel
theorem dd_Output_writeWord_12 : decode prog_4_method_3_code 12 = .ok (.istore 4, 2) := by decide +kernel
theorem dd_Output_writeWord_14 : decode prog_4_method_3_code 14 = .ok (.iload 4, 2) := by decide +kernel
theorem dd_Output_writeWord_16 : decode prog_4_method_3_code 16 = .ok (.ifCond .eq 9, 3) := by decide +kernel
theorem dd_Output_writeWord_19 : decode prog_4_method_3_code 19 = .ok (.aload_n 0, 1) := by decide +kernel
theorem dd_Output_writeWord_20 : decode prog_4_method_3_code 20 = .ok (.iload 4, 2) := by decide +kernel
theorem dd_Output_writeWord_22 : decode prog_4_method_3_code 22 = .ok (.invokevirtual 24, 3) := by decide +kernel
theorem dd_Output_writeWord_25 : decode prog_4_method_3_code 25 = .ok (.iinc 3 (-1), 3) := by decide +kernel
theorem dd_Output_writeWord_28 : decode prog_4_method_3_code 28 = .ok (.goto (-25), 3) := by decide +kernel
theorem dd_Output_writeWord_31 : decode prog_4_method_3_code 31 = .ok (.return_, 1) := by decide +kernel
theorem dd_Output_writeWords_0 : decode prog_4_method_2_code 0 = .ok (.aload_n 0, 1) := by decide +kernel
theorem dd_Output_writeWords_1 : decode prog_4_method_2_code 1 = .ok (.iconst 0, 1) := by decide +kernel
theorem dd_Output_writeWords_2 : decode prog_4_method_2_code 2 = .ok (.putfield 15, 3) := by decide +kernel
theorem dd_Output_writeWords_5 : decode prog_4_method_2_code 5 = .ok (.iconst 0, 1) := by decide +kernel
theorem dd_Output_writeWords_6 : decode prog_4_method_2_code 6 = .ok (.istore_n 3, 1) := by decide +kernel
theorem dd_Output_writeWords_7 : decode prog_4_method_2_code 7 = .ok (.iload_n 3, 1) := by decide +kernel
theorem dd_Output_writeWords_8 : decode prog_4_method_2_code 8 = .ok (.aload_n 1, 1) := by decide +kernel
theorem dd_Output_writeWords_9 : decode prog_4_method_2_code 9 = .ok (.getfield 19, 3) := by decide +kernel
theorem dd_Output_writeWords_12 : decode prog_4_method_2_code 12 = .ok (.if_icmp .ge 40, 3) := by decide +kernel
theorem dd_Output_writeWords_15 : decode prog_4_method_2_code 15 = .ok (.iload_n 2, 1) := by decide +kernel
theorem dd_Output_writeWords_16 : decode prog_4_method_2_code 16 = .ok (.iload_n 3, 1) := by decide +kernel
theorem dd_Output_writeWords_17 : decode prog_4_method_2_code 17 = .ok (.iushr, 1) := by decide +kernel
theorem dd_Output_writeWords_18 : decode prog_4_method_2_code 18 = .ok (.iconst 1, 1) := by decide +kernel
theorem dd_Output_writeWords_19 : decode prog_4_method_2_code 19 = .ok (.iand, 1) := by decide +kernel
theorem dd_Output_writeWords_20 : decode prog_4_method_2_code 20 = .ok (.ifCond .ne 26, 3) := by decide +kernel
theorem dd_Output_writeWords_23 : decode prog_4_method_2_code 23 = .ok (.aload_n 0, 1) := by decide +kernel
theorem dd_Output_writeWords_24 : decode prog_4_method_2_code 24 = .ok (.getfield 15, 3) := by decide +kernel
theorem dd_Output_writeWords_27 : decode prog_4_method_2_code 27 = .ok (.ifCond .le 9, 3) := by decide +kernel
theorem dd_Output_writeWords_30 : decode prog_4_method_2_code 30 = .ok (.aload_n 0, 1) := by decide +kernel
theorem dd_Output_writeWords_31 : decode prog_4_method_2_code 31 = .ok (.bipush 32, 2) := by decide +kernel
theorem dd_Output_writeWords_33 : decode prog_4_method_2_code 33 = .ok (.invokevirtual 24, 3) := by decide +kernel
theorem dd_Output_writeWords_36 : decode prog_4_method_2_code 36 = .ok (.aload_n 0, 1) := by decide +kernel
theorem dd_Output_writeWords_37 : decode prog_4_method_2_code 37 = .ok (.aload_n 1, 1) := by decide +kernel
theorem dd_Output_writeWords_38 : decode prog_4_method_2_code 38 = .ok (.getfield 28, 3) := by decide +kernel
theorem dd_Output_writeWords_41 : decode prog_4_method_2_code 41 = .ok (.iload_n 3, 1) := by decide +kernel
theorem dd_Output_writeWords_42 : decode prog_4_method_2_code 42 = .ok (.laload, 1) := by decide +kernel
theorem dd_Output_writeWords_43 : decode prog_4_method_2_code 43 = .ok (.invokevirtual 32, 3) := by decide +kernel
theorem dd_Output_writeWords_46 : decode prog_4_method_2_code 46 = .ok (.iinc 3 1, 3) := by decide +kernel
theorem dd_Output_writeWords_49 : decode prog_4_method_2_code 49 = .ok (.goto (-42), 3) := by decide +kernel
theorem dd_Output_writeWords_52 : decode prog_4_method_2_code 52 = .ok (.return_, 1) := by decide +kernel
