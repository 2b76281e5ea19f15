theorem dd_Chart_scan_80 : decode prog_2_method_6_code 80 = .ok (.iastore, 1) := by decide +kernel
theorem dd_Chart_scan_81 : decode prog_2_method_6_code 81 = .ok (.iconst 1, 1) := by decide +kernel
theorem dd_Chart_scan_82 : decode prog_2_method_6_code 82 = .ok (.istore 6, 2) := by decide +kernel
theorem dd_Chart_scan_84 : decode prog_2_method_6_code 84 = .ok (.iinc 7 1, 3) := by decide +kernel
theorem dd_Chart_scan_87 : decode prog_2_method_6_code 87 = .ok (.goto (-68), 3) := by decide +kernel
theorem dd_Chart_scan_90 : decode prog_2_method_6_code 90 = .ok (.iload 6, 2) := by decide +kernel
theorem dd_Chart_scan_92 : decode prog_2_method_6_code 92 = .ok (.ireturn, 1) := by decide +kernel
theorem dd_Chart_sumTerms_0 : decode prog_2_method_17_code 0 = .ok (.aload_n 0, 1) := by decide +kernel
theorem dd_Chart_sumTerms_1 : decode prog_2_method_17_code 1 = .ok (.iload_n 1, 1) := by decide +kernel
theorem dd_Chart_sumTerms_2 : decode prog_2_method_17_code 2 = .ok (.iload_n 2, 1) := by decide +kernel
theorem dd_Chart_sumTerms_3 : decode prog_2_method_17_code 3 = .ok (.iconst 0, 1) := by decide +kernel
theorem dd_Chart_sumTerms_4 : decode prog_2_method_17_code 4 = .ok (.invokevirtual 91, 3) := by decide +kernel
theorem dd_Chart_sumTerms_7 : decode prog_2_method_17_code 7 = .ok (.istore_n 3, 1) := by decide +kernel
theorem dd_Chart_sumTerms_8 : decode prog_2_method_17_code 8 = .ok (.iconst 0, 1) := by decide +kernel
theorem dd_Chart_sumTerms_9 : decode prog_2_method_17_code 9 = .ok (.istore 4, 2) := by decide +kernel
theorem dd_Chart_sumTerms_11 : decode prog_2_method_17_code 11 = .ok (.iload 4, 2) := by decide +kernel
theorem dd_Chart_sumTerms_13 : decode prog_2_method_17_code 13 = .ok (.bipush 10, 2) := by decide +kernel
theorem dd_Chart_sumTerms_15 : decode prog_2_method_17_code 15 = .ok (.if_icmp .gt 19, 3) := by decide +kernel
theorem dd_Chart_sumTerms_18 : decode prog_2_method_17_code 18 = .ok (.aload_n 0, 1) := by decide +kernel
theorem dd_Chart_sumTerms_19 : decode prog_2_method_17_code 19 = .ok (.getfield 18, 3) := by decide +kernel
theorem dd_Chart_sumTerms_22 : decode prog_2_method_17_code 22 = .ok (.iload_n 3, 1) := by decide +kernel
theorem dd_Chart_sumTerms_23 : decode prog_2_method_17_code 23 = .ok (.iload 4, 2) := by decide +kernel
theorem dd_Chart_sumTerms_25 : decode prog_2_method_17_code 25 = .ok (.iadd, 1) := by decide +kernel
theorem dd_Chart_sumTerms_26 : decode prog_2_method_17_code 26 = .ok (.iconst 0, 1) := by decide +kernel
theorem dd_Chart_sumTerms_27 : decode prog_2_method_17_code 27 = .ok (.iastore, 1) := by decide +kernel
theorem dd_Chart_sumTerms_28 : decode prog_2_method_17_code 28 = .ok (.iinc 4 1, 3) := by decide +kernel
theorem dd_Chart_sumTerms_31 : decode prog_2_method_17_code 31 = .ok (.goto (-20), 3) := by decide +kernel
theorem dd_Chart_sumTerms_34 : decode prog_2_method_17_code 34 = .ok (.iconst 0, 1) := by decide +kernel
theorem dd_Chart_sumTerms_35 : decode prog_2_method_17_code 35 = .ok (.istore 4, 2) := by decide +kernel
theorem dd_Chart_sumTerms_37 : decode prog_2_method_17_code 37 = .ok (.iload 4, 2) := by decide +kernel
theorem dd_Chart_sumTerms_39 : decode prog_2_method_17_code 39 = .ok (.aload_n 0, 1) := by decide +kernel
theorem dd_Chart_sumTerms_40 : decode prog_2_method_17_code 40 = .ok (.getfield 21, 3) := by decide +kernel
theorem dd_Chart_sumTerms_43 : decode prog_2_method_17_code 43 = .ok (.getfield 68, 3) := by decide +kernel
theorem dd_Chart_sumTerms_46 : decode prog_2_method_17_code 46 = .ok (.if_icmp .ge 59, 3) := by decide +kernel
theorem dd_Chart_sumTerms_49 : decode prog_2_method_17_code 49 = .ok (.aload_n 0, 1) := by decide +kernel
theorem dd_Chart_sumTerms_50 : decode prog_2_method_17_code 50 = .ok (.getfield 21, 3) := by decide +kernel
theorem dd_Chart_sumTerms_53 : decode prog_2_method_17_code 53 = .ok (.iload 4, 2) := by decide +kernel
theorem dd_Chart_sumTerms_55 : decode prog_2_method_17_code 55 = .ok (.invokevirtual 75, 3) := by decide +kernel
theorem dd_Chart_sumTerms_58 : decode prog_2_method_17_code 58 = .ok (.istore 5, 2) := by decide +kernel
theorem dd_Chart_sumTerms_60 : decode prog_2_method_17_code 60 = .ok (.aload_n 0, 1) := by decide +kernel
theorem dd_Chart_sumTerms_61 : decode prog_2_method_17_code 61 = .ok (.iload_n 1, 1) := by decide +kernel
theorem dd_Chart_sumTerms_62 : decode prog_2_method_17_code 62 = .ok (.iload_n 2, 1) := by decide +kernel
theorem dd_Chart_sumTerms_63 : decode prog_2_method_17_code 63 = .ok (.iload 5, 2) := by decide +kernel
theorem dd_Chart_sumTerms_65 : decode prog_2_method_17_code 65 = .ok (.invokevirtual 78, 3) := by decide +kernel
theorem dd_Chart_sumTerms_68 : decode prog_2_method_17_code 68 = .ok (.ifCond .eq 31, 3) := by decide +kernel
theorem dd_Chart_sumTerms_71 : decode prog_2_method_17_code 71 = .ok (.aload_n 0, 1) := by decide +kernel
theorem dd_Chart_sumTerms_72 : decode prog_2_method_17_code 72 = .ok (.iload_n 3, 1) := by decide +kernel
theorem dd_Chart_sumTerms_73 : decode prog_2_method_17_code 73 = .ok (.aload_n 0, 1) := by decide +kernel
theorem dd_Chart_sumTerms_74 : decode prog_2_method_17_code 74 = .ok (.getfield 21, 3) := by decide +kernel
theorem dd_Chart_sumTerms_77 : decode prog_2_method_17_code 77 = .ok (.getfield 72, 3) := by decide +kernel
theorem dd_Chart_sumTerms_80 : decode prog_2_method_17_code 80 = .ok (.iload 4, 2) := by decide +kernel
theorem dd_Chart_sumTerms_82 : decode prog_2_method_17_code 82 = .ok (.iaload, 1) := by decide +kernel
theorem dd_Chart_sumTerms_83 : decode prog_2_method_17_code 83 = .ok (.iadd, 1) := by decide +kernel
theorem dd_Chart_sumTerms_84 : decode prog_2_method_17_code 84 = .ok (.aload_n 0, 1) := by decide +kernel
theorem dd_Chart_sumTerms_85 : decode prog_2_method_17_code 85 = .ok (.getfield 15, 3) := by decide +kernel
theorem dd_Chart_sumTerms_88 : decode prog_2_method_17_code 88 = .ok (.iload_n 2, 1) := by decide +kernel
theorem dd_Chart_sumTerms_89 : decode prog_2_method_17_code 89 = .ok (.bipush 98, 2) := by decide +kernel
theorem dd_Chart_sumTerms_91 : decode prog_2_method_17_code 91 = .ok (.imul, 1) := by decide +kernel
theorem dd_Chart_sumTerms_92 : decode prog_2_method_17_code 92 = .ok (.iload 5, 2) := by decide +kernel
theorem dd_Chart_sumTerms_94 : decode prog_2_method_17_code 94 = .ok (.iadd, 1) := by decide +kernel
theorem dd_Chart_sumTerms_95 : decode prog_2_method_17_code 95 = .ok (.iaload, 1) := by decide +kernel
theorem dd_Chart_sumTerms_96 : decode prog_2_method_17_code 96 = .ok (.invokevirtual 116, 3) := by decide +kernel
theorem dd_Chart_sumTerms_99 : decode prog_2_method_17_code 99 = .ok (.iinc 4 1, 3) := by decide +kernel
theorem dd_Chart_sumTerms_102 : decode prog_2_method_17_code 102 = .ok (.goto (-65), 3) := by decide +kernel
theorem dd_Chart_sumTerms_105 : decode prog_2_method_17_code 105 = .ok (.bipush 9, 2) := by decide +kernel
theorem dd_Chart_sumTerms_107 : decode prog_2_method_17_code 107 = .ok (.istore 4, 2) := by decide +kernel
theorem dd_Chart_sumTerms_109 : decode prog_2_method_17_code 109 = .ok (.iload 4, 2) := by decide +kernel
theorem dd_Chart_sumTerms_111 : decode prog_2_method_17_code 111 = .ok (.ifCond .lt 28, 3) := by decide +kernel
theorem dd_Chart_sumTerms_114 : decode prog_2_method_17_code 114 = .ok (.aload_n 0, 1) := by decide +kernel
theorem dd_Chart_sumTerms_115 : decode prog_2_method_17_code 115 = .ok (.iload_n 3, 1) := by decide +kernel
theorem dd_Chart_sumTerms_116 : decode prog_2_method_17_code 116 = .ok (.iload 4, 2) := by decide +kernel
theorem dd_Chart_sumTerms_118 : decode prog_2_method_17_code 118 = .ok (.iadd, 1) := by decide +kernel
theorem dd_Chart_sumTerms_119 : decode prog_2_method_17_code 119 = .ok (.aload_n 0, 1) := by decide +kernel
theorem dd_Chart_sumTerms_120 : decode prog_2_method_17_code 120 = .ok (.getfield 18, 3) := by decide +kernel
theorem dd_Chart_sumTerms_123 : decode prog_2_method_17_code 123 = .ok (.iload_n 3, 1) := by decide +kernel
theorem dd_Chart_sumTerms_124 : decode prog_2_method_17_code 124 = .ok (.iload 4, 2) := by decide +kernel
theorem dd_Chart_sumTerms_126 : decode prog_2_method_17_code 126 = .ok (.iadd, 1) := by decide +kernel
theorem dd_Chart_sumTerms_127 : decode prog_2_method_17_code 127 = .ok (.iconst 1, 1) := by decide +kernel
theorem dd_Chart_sumTerms_128 : decode prog_2_method_17_code 128 = .ok (.iadd, 1) := by decide +kernel
theorem dd_Chart_sumTerms_129 : decode prog_2_method_17_code 129 = .ok (.iaload, 1) := by decide +kernel
theorem dd_Chart_sumTerms_130 : decode prog_2_method_17_code 130 = .ok (.invokevirtual 116, 3) := by decide +kernel
theorem dd_Chart_sumTerms_133 : decode prog_2_method_17_code 133 = .ok (.iinc 4 (-1), 3) := by decide +kernel
theorem dd_Chart_sumTerms_136 : decode prog_2_method_17_code 136 = .ok (.goto (-27), 3) := by decide +kernel
theorem dd_Chart_sumTerms_139 : decode prog_2_method_17_code 139 = .ok (.return_, 1) := by decide +kernel
