theorem dd_Text_append_0 : decode prog_6_method_2_code 0 = .ok (.iload_n 3, 1) := by decide +kernel
theorem dd_Text_append_1 : decode prog_6_method_2_code 1 = .ok (.iconst 1, 1) := by decide +kernel
theorem dd_Text_append_2 : decode prog_6_method_2_code 2 = .ok (.isub, 1) := by decide +kernel
theorem dd_Text_append_3 : decode prog_6_method_2_code 3 = .ok (.istore 4, 2) := by decide +kernel
theorem dd_Text_append_5 : decode prog_6_method_2_code 5 = .ok (.iload 4, 2) := by decide +kernel
theorem dd_Text_append_7 : decode prog_6_method_2_code 7 = .ok (.ifCond .lt 35, 3) := by decide +kernel
theorem dd_Text_append_10 : decode prog_6_method_2_code 10 = .ok (.aload_n 0, 1) := by decide +kernel
theorem dd_Text_append_11 : decode prog_6_method_2_code 11 = .ok (.getfield 9, 3) := by decide +kernel
theorem dd_Text_append_14 : decode prog_6_method_2_code 14 = .ok (.aload_n 0, 1) := by decide +kernel
theorem dd_Text_append_15 : decode prog_6_method_2_code 15 = .ok (.getfield 15, 3) := by decide +kernel
theorem dd_Text_append_18 : decode prog_6_method_2_code 18 = .ok (.lload_n 1, 1) := by decide +kernel
theorem dd_Text_append_19 : decode prog_6_method_2_code 19 = .ok (.iload 4, 2) := by decide +kernel
theorem dd_Text_append_21 : decode prog_6_method_2_code 21 = .ok (.invokestatic 36, 3) := by decide +kernel
theorem dd_Text_append_24 : decode prog_6_method_2_code 24 = .ok (.i2b, 1) := by decide +kernel
theorem dd_Text_append_25 : decode prog_6_method_2_code 25 = .ok (.bastore, 1) := by decide +kernel
theorem dd_Text_append_26 : decode prog_6_method_2_code 26 = .ok (.aload_n 0, 1) := by decide +kernel
theorem dd_Text_append_27 : decode prog_6_method_2_code 27 = .ok (.dup, 1) := by decide +kernel
theorem dd_Text_append_28 : decode prog_6_method_2_code 28 = .ok (.getfield 15, 3) := by decide +kernel
theorem dd_Text_append_31 : decode prog_6_method_2_code 31 = .ok (.iconst 1, 1) := by decide +kernel
theorem dd_Text_append_32 : decode prog_6_method_2_code 32 = .ok (.iadd, 1) := by decide +kernel
theorem dd_Text_append_33 : decode prog_6_method_2_code 33 = .ok (.putfield 15, 3) := by decide +kernel
theorem dd_Text_append_36 : decode prog_6_method_2_code 36 = .ok (.iinc 4 (-1), 3) := by decide +kernel
theorem dd_Text_append_39 : decode prog_6_method_2_code 39 = .ok (.goto (-34), 3) := by decide +kernel
theorem dd_Text_append_42 : decode prog_6_method_2_code 42 = .ok (.return_, 1) := by decide +kernel
theorem dd_Text_cut_0 : decode prog_6_method_3_code 0 = .ok (.aload_n 0, 1) := by decide +kernel
theorem dd_Text_cut_1 : decode prog_6_method_3_code 1 = .ok (.iconst 0, 1) := by decide +kernel
theorem dd_Text_cut_2 : decode prog_6_method_3_code 2 = .ok (.putfield 30, 3) := by decide +kernel
theorem dd_Text_cut_5 : decode prog_6_method_3_code 5 = .ok (.aload_n 0, 1) := by decide +kernel
theorem dd_Text_cut_6 : decode prog_6_method_3_code 6 = .ok (.iconst (-1), 1) := by decide +kernel
theorem dd_Text_cut_7 : decode prog_6_method_3_code 7 = .ok (.putfield 33, 3) := by decide +kernel
theorem dd_Text_cut_10 : decode prog_6_method_3_code 10 = .ok (.iconst 0, 1) := by decide +kernel
theorem dd_Text_cut_11 : decode prog_6_method_3_code 11 = .ok (.istore_n 2, 1) := by decide +kernel
theorem dd_Text_cut_12 : decode prog_6_method_3_code 12 = .ok (.iconst 0, 1) := by decide +kernel
theorem dd_Text_cut_13 : decode prog_6_method_3_code 13 = .ok (.istore_n 3, 1) := by decide +kernel
theorem dd_Text_cut_14 : decode prog_6_method_3_code 14 = .ok (.iload_n 3, 1) := by decide +kernel
theorem dd_Text_cut_15 : decode prog_6_method_3_code 15 = .ok (.aload_n 0, 1) := by decide +kernel
theorem dd_Text_cut_16 : decode prog_6_method_3_code 16 = .ok (.getfield 15, 3) := by decide +kernel
theorem dd_Text_cut_19 : decode prog_6_method_3_code 19 = .ok (.if_icmp .ge 60, 3) := by decide +kernel
theorem dd_Text_cut_22 : decode prog_6_method_3_code 22 = .ok (.iload_n 2, 1) := by decide +kernel
theorem dd_Text_cut_23 : decode prog_6_method_3_code 23 = .ok (.aload_n 0, 1) := by decide +kernel
theorem dd_Text_cut_24 : decode prog_6_method_3_code 24 = .ok (.getfield 15, 3) := by decide +kernel
theorem dd_Text_cut_27 : decode prog_6_method_3_code 27 = .ok (.if_icmp .ge 52, 3) := by decide +kernel
theorem dd_Text_cut_30 : decode prog_6_method_3_code 30 = .ok (.aload_n 0, 1) := by decide +kernel
theorem dd_Text_cut_31 : decode prog_6_method_3_code 31 = .ok (.getfield 33, 3) := by decide +kernel
theorem dd_Text_cut_34 : decode prog_6_method_3_code 34 = .ok (.iconst (-1), 1) := by decide +kernel
theorem dd_Text_cut_35 : decode prog_6_method_3_code 35 = .ok (.if_icmp .ne 44, 3) := by decide +kernel
theorem dd_Text_cut_38 : decode prog_6_method_3_code 38 = .ok (.aload_n 0, 1) := by decide +kernel
theorem dd_Text_cut_39 : decode prog_6_method_3_code 39 = .ok (.iload_n 2, 1) := by decide +kernel
theorem dd_Text_cut_40 : decode prog_6_method_3_code 40 = .ok (.invokevirtual 42, 3) := by decide +kernel
theorem dd_Text_cut_43 : decode prog_6_method_3_code 43 = .ok (.istore 4, 2) := by decide +kernel
theorem dd_Text_cut_45 : decode prog_6_method_3_code 45 = .ok (.aload_n 0, 1) := by decide +kernel
theorem dd_Text_cut_46 : decode prog_6_method_3_code 46 = .ok (.iload_n 2, 1) := by decide +kernel
theorem dd_Text_cut_47 : decode prog_6_method_3_code 47 = .ok (.iload 4, 2) := by decide +kernel
theorem dd_Text_cut_49 : decode prog_6_method_3_code 49 = .ok (.invokevirtual 46, 3) := by decide +kernel
theorem dd_Text_cut_52 : decode prog_6_method_3_code 52 = .ok (.istore 5, 2) := by decide +kernel
theorem dd_Text_cut_54 : decode prog_6_method_3_code 54 = .ok (.iload 4, 2) := by decide +kernel
theorem dd_Text_cut_56 : decode prog_6_method_3_code 56 = .ok (.iconst 1, 1) := by decide +kernel
theorem dd_Text_cut_57 : decode prog_6_method_3_code 57 = .ok (.if_icmp .eq 13, 3) := by decide +kernel
theorem dd_Text_cut_60 : decode prog_6_method_3_code 60 = .ok (.aload_n 0, 1) := by decide +kernel
theorem dd_Text_cut_61 : decode prog_6_method_3_code 61 = .ok (.iload_n 2, 1) := by decide +kernel
theorem dd_Text_cut_62 : decode prog_6_method_3_code 62 = .ok (.iload 5, 2) := by decide +kernel
theorem dd_Text_cut_64 : decode prog_6_method_3_code 64 = .ok (.iload 4, 2) := by decide +kernel
theorem dd_Text_cut_66 : decode prog_6_method_3_code 66 = .ok (.aload_n 1, 1) := by decide +kernel
theorem dd_Text_cut_67 : decode prog_6_method_3_code 67 = .ok (.invokevirtual 50, 3) := by decide +kernel
theorem dd_Text_cut_70 : decode prog_6_method_3_code 70 = .ok (.iload 5, 2) := by decide +kernel
theorem dd_Text_cut_72 : decode prog_6_method_3_code 72 = .ok (.istore_n 2, 1) := by decide +kernel
theorem dd_Text_cut_73 : decode prog_6_method_3_code 73 = .ok (.iinc 3 1, 3) := by decide +kernel
theorem dd_Text_cut_76 : decode prog_6_method_3_code 76 = .ok (.goto (-62), 3) := by decide +kernel
theorem dd_Text_cut_79 : decode prog_6_method_3_code 79 = .ok (.return_, 1) := by decide +kernel
theorem dd_Text_endOfRow_0 : decode prog_6_method_5_code 0 = .ok (.iload_n 1, 1) := by decide +kernel
theorem dd_Text_endOfRow_1 : decode prog_6_method_5_code 1 = .ok (.iconst 1, 1) := by decide +kernel
theorem dd_Text_endOfRow_2 : decode prog_6_method_5_code 2 = .ok (.iadd, 1) := by decide +kernel
theorem dd_Text_endOfRow_3 : decode prog_6_method_5_code 3 = .ok (.istore_n 3, 1) := by decide +kernel
theorem dd_Text_endOfRow_4 : decode prog_6_method_5_code 4 = .ok (.iload_n 2, 1) := by decide +kernel
theorem dd_Text_endOfRow_5 : decode prog_6_method_5_code 5 = .ok (.iconst 5, 1) := by decide +kernel
theorem dd_Text_endOfRow_6 : decode prog_6_method_5_code 6 = .ok (.if_icmp .eq 26, 3) := by decide +kernel
theorem dd_Text_endOfRow_9 : decode prog_6_method_5_code 9 = .ok (.iload_n 3, 1) := by decide +kernel
theorem dd_Text_endOfRow_10 : decode prog_6_method_5_code 10 = .ok (.aload_n 0, 1) := by decide +kernel
theorem dd_Text_endOfRow_11 : decode prog_6_method_5_code 11 = .ok (.getfield 15, 3) := by decide +kernel
theorem dd_Text_endOfRow_14 : decode prog_6_method_5_code 14 = .ok (.if_icmp .ge 18, 3) := by decide +kernel
theorem dd_Text_endOfRow_17 : decode prog_6_method_5_code 17 = .ok (.aload_n 0, 1) := by decide +kernel
theorem dd_Text_endOfRow_18 : decode prog_6_method_5_code 18 = .ok (.iload_n 3, 1) := by decide +kernel
theorem dd_Text_endOfRow_19 : decode prog_6_method_5_code 19 = .ok (.invokevirtual 42, 3) := by decide +kernel
theorem dd_Text_endOfRow_22 : decode prog_6_method_5_code 22 = .ok (.iload_n 2, 1) := by decide +kernel
theorem dd_Text_endOfRow_23 : decode prog_6_method_5_code 23 = .ok (.if_icmp .ne 9, 3) := by decide +kernel
theorem dd_Text_endOfRow_26 : decode prog_6_method_5_code 26 = .ok (.iinc 3 1, 3) := by decide +kernel
theorem dd_Text_endOfRow_29 : decode prog_6_method_5_code 29 = .ok (.goto (-20), 3) := by decide +kernel
theorem dd_Text_endOfRow_32 : decode prog_6_method_5_code 32 = .ok (.iload_n 3, 1) := by decide +kernel
theorem dd_Text_endOfRow_33 : decode prog_6_method_5_code 33 = .ok (.ireturn, 1) := by decide +kernel
theorem dd_Text_kindAt_0 : decode prog_6_method_4_code 0 = .ok (.aload_n 0, 1) := by decide +kernel
theorem dd_Text_kindAt_1 : decode prog_6_method_4_code 1 = .ok (.getfield 9, 3) := by decide +kernel
theorem dd_Text_kindAt_4 : decode prog_6_method_4_code 4 = .ok (.iload_n 1, 1) := by decide +kernel
theorem dd_Text_kindAt_5 : decode prog_6_method_4_code 5 = .ok (.baload, 1) := by decide +kernel
theorem dd_Text_kindAt_6 : decode prog_6_method_4_code 6 = .ok (.sipush 255, 3) := by decide +kernel
theorem dd_Text_kindAt_9 : decode prog_6_method_4_code 9 = .ok (.iand, 1) := by decide +kernel
theorem dd_Text_kindAt_10 : decode prog_6_method_4_code 10 = .ok (.invokestatic 54, 3) := by decide +kernel
theorem dd_Text_kindAt_13 : decode prog_6_method_4_code 13 = .ok (.ireturn, 1) := by decide +kernel
theorem dd_Text_takeRow_0 : decode prog_6_method_6_code 0 = .ok (.iload_n 2, 1) := by decide +kernel
theorem dd_Text_takeRow_1 : decode prog_6_method_6_code 1 = .ok (.iload_n 1, 1) := by decide +kernel
theorem dd_Text_takeRow_2 : decode prog_6_method_6_code 2 = .ok (.isub, 1) := by decide +kernel
theorem dd_Text_takeRow_3 : decode prog_6_method_6_code 3 = .ok (.bipush 8, 2) := by decide +kernel
theorem dd_Text_takeRow_5 : decode prog_6_method_6_code 5 = .ok (.if_icmp .le 7, 3) := by decide +kernel
theorem dd_Text_takeRow_8 : decode prog_6_method_6_code 8 = .ok (.iconst 1, 1) := by decide +kernel
theorem dd_Text_takeRow_9 : decode prog_6_method_6_code 9 = .ok (.goto 4, 3) := by decide +kernel
theorem dd_Text_takeRow_12 : decode prog_6_method_6_code 12 = .ok (.iconst 0, 1) := by decide +kernel
theorem dd_Text_takeRow_13 : decode prog_6_method_6_code 13 = .ok (.istore 5, 2) := by decide +kernel
theorem dd_Text_takeRow_15 : decode prog_6_method_6_code 15 = .ok (.iload_n 3, 1) := by decide +kernel
theorem dd_Text_takeRow_16 : decode prog_6_method_6_code 16 = .ok (.ifCond .eq 17, 3) := by decide +kernel
theorem dd_Text_takeRow_19 : decode prog_6_method_6_code 19 = .ok (.iload 5, 2) := by decide +kernel
theorem dd_Text_takeRow_21 : decode prog_6_method_6_code 21 = .ok (.ifCond .ne 12, 3) := by decide +kernel
theorem dd_Text_takeRow_24 : decode prog_6_method_6_code 24 = .ok (.aload_n 0, 1) := by decide +kernel
theorem dd_Text_takeRow_25 : decode prog_6_method_6_code 25 = .ok (.getfield 30, 3) := by decide +kernel
theorem dd_Text_takeRow_28 : decode prog_6_method_6_code 28 = .ok (.bipush 30, 2) := by decide +kernel
theorem dd_Text_takeRow_30 : decode prog_6_method_6_code 30 = .ok (.if_icmp .lt 9, 3) := by decide +kernel
theorem dd_Text_takeRow_33 : decode prog_6_method_6_code 33 = .ok (.aload_n 0, 1) := by decide +kernel
theorem dd_Text_takeRow_34 : decode prog_6_method_6_code 34 = .ok (.iload_n 1, 1) := by decide +kernel
theorem dd_Text_takeRow_35 : decode prog_6_method_6_code 35 = .ok (.putfield 33, 3) := by decide +kernel
theorem dd_Text_takeRow_38 : decode prog_6_method_6_code 38 = .ok (.return_, 1) := by decide +kernel
theorem dd_Text_takeRow_39 : decode prog_6_method_6_code 39 = .ok (.lconst 0, 1) := by decide +kernel
theorem dd_Text_takeRow_40 : decode prog_6_method_6_code 40 = .ok (.lstore 6, 2) := by decide +kernel
theorem dd_Text_takeRow_42 : decode prog_6_method_6_code 42 = .ok (.iload_n 1, 1) := by decide +kernel
theorem dd_Text_takeRow_43 : decode prog_6_method_6_code 43 = .ok (.istore 8, 2) := by decide +kernel
theorem dd_Text_takeRow_45 : decode prog_6_method_6_code 45 = .ok (.iload 8, 2) := by decide +kernel
theorem dd_Text_takeRow_47 : decode prog_6_method_6_code 47 = .ok (.iload_n 2, 1) := by decide +kernel
theorem dd_Text_takeRow_48 : decode prog_6_method_6_code 48 = .ok (.if_icmp .ge 29, 3) := by decide +kernel
theorem dd_Text_takeRow_51 : decode prog_6_method_6_code 51 = .ok (.lload 6, 2) := by decide +kernel
theorem dd_Text_takeRow_53 : decode prog_6_method_6_code 53 = .ok (.bipush 8, 2) := by decide +kernel
theorem dd_Text_takeRow_55 : decode prog_6_method_6_code 55 = .ok (.lshl, 1) := by decide +kernel
theorem dd_Text_takeRow_56 : decode prog_6_method_6_code 56 = .ok (.aload_n 0, 1) := by decide +kernel
theorem dd_Text_takeRow_57 : decode prog_6_method_6_code 57 = .ok (.getfield 9, 3) := by decide +kernel
theorem dd_Text_takeRow_60 : decode prog_6_method_6_code 60 = .ok (.iload 8, 2) := by decide +kernel
theorem dd_Text_takeRow_62 : decode prog_6_method_6_code 62 = .ok (.baload, 1) := by decide +kernel
theorem dd_Text_takeRow_63 : decode prog_6_method_6_code 63 = .ok (.sipush 255, 3) := by decide +kernel
theorem dd_Text_takeRow_66 : decode prog_6_method_6_code 66 = .ok (.iand, 1) := by decide +kernel
theorem dd_Text_takeRow_67 : decode prog_6_method_6_code 67 = .ok (.i2l, 1) := by decide +kernel
theorem dd_Text_takeRow_68 : decode prog_6_method_6_code 68 = .ok (.lor, 1) := by decide +kernel
theorem dd_Text_takeRow_69 : decode prog_6_method_6_code 69 = .ok (.lstore 6, 2) := by decide +kernel
theorem dd_Text_takeRow_71 : decode prog_6_method_6_code 71 = .ok (.iinc 8 1, 3) := by decide +kernel
theorem dd_Text_takeRow_74 : decode prog_6_method_6_code 74 = .ok (.goto (-29), 3) := by decide +kernel
theorem dd_Text_takeRow_77 : decode prog_6_method_6_code 77 = .ok (.iload_n 3, 1) := by decide +kernel
theorem dd_Text_takeRow_78 : decode prog_6_method_6_code 78 = .ok (.iconst 2, 1) := by decide +kernel
theorem dd_Text_takeRow_79 : decode prog_6_method_6_code 79 = .ok (.if_icmp .eq 8, 3) := by decide +kernel
theorem dd_Text_takeRow_82 : decode prog_6_method_6_code 82 = .ok (.iload_n 3, 1) := by decide +kernel
theorem dd_Text_takeRow_83 : decode prog_6_method_6_code 83 = .ok (.iconst 3, 1) := by decide +kernel
theorem dd_Text_takeRow_84 : decode prog_6_method_6_code 84 = .ok (.if_icmp .ne 7, 3) := by decide +kernel
theorem dd_Text_takeRow_87 : decode prog_6_method_6_code 87 = .ok (.iconst 1, 1) := by decide +kernel
theorem dd_Text_takeRow_88 : decode prog_6_method_6_code 88 = .ok (.goto 4, 3) := by decide +kernel
theorem dd_Text_takeRow_91 : decode prog_6_method_6_code 91 = .ok (.iconst 0, 1) := by decide +kernel
theorem dd_Text_takeRow_92 : decode prog_6_method_6_code 92 = .ok (.istore 8, 2) := by decide +kernel
theorem dd_Text_takeRow_94 : decode prog_6_method_6_code 94 = .ok (.aload_n 0, 1) := by decide +kernel
theorem dd_Text_takeRow_95 : decode prog_6_method_6_code 95 = .ok (.getfield 19, 3) := by decide +kernel
theorem dd_Text_takeRow_98 : decode prog_6_method_6_code 98 = .ok (.aload_n 0, 1) := by decide +kernel
theorem dd_Text_takeRow_99 : decode prog_6_method_6_code 99 = .ok (.getfield 30, 3) := by decide +kernel
theorem dd_Text_takeRow_102 : decode prog_6_method_6_code 102 = .ok (.lload 6, 2) := by decide +kernel
theorem dd_Text_takeRow_104 : decode prog_6_method_6_code 104 = .ok (.lastore, 1) := by decide +kernel
theorem dd_Text_takeRow_105 : decode prog_6_method_6_code 105 = .ok (.aload_n 0, 1) := by decide +kernel
theorem dd_Text_takeRow_106 : decode prog_6_method_6_code 106 = .ok (.getfield 23, 3) := by decide +kernel
theorem dd_Text_takeRow_109 : decode prog_6_method_6_code 109 = .ok (.aload_n 0, 1) := by decide +kernel
theorem dd_Text_takeRow_110 : decode prog_6_method_6_code 110 = .ok (.getfield 30, 3) := by decide +kernel
theorem dd_Text_takeRow_113 : decode prog_6_method_6_code 113 = .ok (.iload 8, 2) := by decide +kernel
theorem dd_Text_takeRow_115 : decode prog_6_method_6_code 115 = .ok (.ifCond .eq 17, 3) := by decide +kernel
theorem dd_Text_takeRow_118 : decode prog_6_method_6_code 118 = .ok (.aload 4, 2) := by decide +kernel
theorem dd_Text_takeRow_120 : decode prog_6_method_6_code 120 = .ok (.lload 6, 2) := by decide +kernel
theorem dd_Text_takeRow_122 : decode prog_6_method_6_code 122 = .ok (.invokevirtual 57, 3) := by decide +kernel
theorem dd_Text_takeRow_125 : decode prog_6_method_6_code 125 = .ok (.ifCond .ne 7, 3) := by decide +kernel
theorem dd_Text_takeRow_128 : decode prog_6_method_6_code 128 = .ok (.lconst 0, 1) := by decide +kernel
theorem dd_Text_takeRow_129 : decode prog_6_method_6_code 129 = .ok (.goto 5, 3) := by decide +kernel
theorem dd_Text_takeRow_132 : decode prog_6_method_6_code 132 = .ok (.lload 6, 2) := by decide +kernel
theorem dd_Text_takeRow_134 : decode prog_6_method_6_code 134 = .ok (.lastore, 1) := by decide +kernel
theorem dd_Text_takeRow_135 : decode prog_6_method_6_code 135 = .ok (.aload_n 0, 1) := by decide +kernel
theorem dd_Text_takeRow_136 : decode prog_6_method_6_code 136 = .ok (.getfield 26, 3) := by decide +kernel
theorem dd_Text_takeRow_139 : decode prog_6_method_6_code 139 = .ok (.aload_n 0, 1) := by decide +kernel
theorem dd_Text_takeRow_140 : decode prog_6_method_6_code 140 = .ok (.getfield 30, 3) := by decide +kernel
theorem dd_Text_takeRow_143 : decode prog_6_method_6_code 143 = .ok (.iload_n 1, 1) := by decide +kernel
theorem dd_Text_takeRow_144 : decode prog_6_method_6_code 144 = .ok (.iastore, 1) := by decide +kernel
theorem dd_Text_takeRow_145 : decode prog_6_method_6_code 145 = .ok (.aload_n 0, 1) := by decide +kernel
theorem dd_Text_takeRow_146 : decode prog_6_method_6_code 146 = .ok (.dup, 1) := by decide +kernel
theorem dd_Text_takeRow_147 : decode prog_6_method_6_code 147 = .ok (.getfield 30, 3) := by decide +kernel
theorem dd_Text_takeRow_150 : decode prog_6_method_6_code 150 = .ok (.iconst 1, 1) := by decide +kernel
theorem dd_Text_takeRow_151 : decode prog_6_method_6_code 151 = .ok (.iadd, 1) := by decide +kernel
theorem dd_Text_takeRow_152 : decode prog_6_method_6_code 152 = .ok (.putfield 30, 3) := by decide +kernel
theorem dd_Text_takeRow_155 : decode prog_6_method_6_code 155 = .ok (.return_, 1) := by decide +kernel
