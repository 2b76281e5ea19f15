theorem dd_Chart_addTrees_0 : decode prog_2_method_18_code 0 = .ok (.aload_n 0, 1) := by decide +kernel
theorem dd_Chart_addTrees_1 : decode prog_2_method_18_code 1 = .ok (.getfield 18, 3) := by decide +kernel
theorem dd_Chart_addTrees_4 : decode prog_2_method_18_code 4 = .ok (.iload_n 1, 1) := by decide +kernel
theorem dd_Chart_addTrees_5 : decode prog_2_method_18_code 5 = .ok (.aload_n 0, 1) := by decide +kernel
theorem dd_Chart_addTrees_6 : decode prog_2_method_18_code 6 = .ok (.getfield 18, 3) := by decide +kernel
theorem dd_Chart_addTrees_9 : decode prog_2_method_18_code 9 = .ok (.iload_n 1, 1) := by decide +kernel
theorem dd_Chart_addTrees_10 : decode prog_2_method_18_code 10 = .ok (.iaload, 1) := by decide +kernel
theorem dd_Chart_addTrees_11 : decode prog_2_method_18_code 11 = .ok (.iload_n 2, 1) := by decide +kernel
theorem dd_Chart_addTrees_12 : decode prog_2_method_18_code 12 = .ok (.iadd, 1) := by decide +kernel
theorem dd_Chart_addTrees_13 : decode prog_2_method_18_code 13 = .ok (.ldc 119, 2) := by decide +kernel
theorem dd_Chart_addTrees_15 : decode prog_2_method_18_code 15 = .ok (.invokestatic 120, 3) := by decide +kernel
theorem dd_Chart_addTrees_18 : decode prog_2_method_18_code 18 = .ok (.iastore, 1) := by decide +kernel
theorem dd_Chart_addTrees_19 : decode prog_2_method_18_code 19 = .ok (.return_, 1) := by decide +kernel
theorem dd_Chart_cell_0 : decode prog_2_method_20_code 0 = .ok (.iload_n 2, 1) := by decide +kernel
theorem dd_Chart_cell_1 : decode prog_2_method_20_code 1 = .ok (.iload_n 2, 1) := by decide +kernel
theorem dd_Chart_cell_2 : decode prog_2_method_20_code 2 = .ok (.iconst 1, 1) := by decide +kernel
theorem dd_Chart_cell_3 : decode prog_2_method_20_code 3 = .ok (.isub, 1) := by decide +kernel
theorem dd_Chart_cell_4 : decode prog_2_method_20_code 4 = .ok (.imul, 1) := by decide +kernel
theorem dd_Chart_cell_5 : decode prog_2_method_20_code 5 = .ok (.iconst 2, 1) := by decide +kernel
theorem dd_Chart_cell_6 : decode prog_2_method_20_code 6 = .ok (.idiv, 1) := by decide +kernel
theorem dd_Chart_cell_7 : decode prog_2_method_20_code 7 = .ok (.iload_n 1, 1) := by decide +kernel
theorem dd_Chart_cell_8 : decode prog_2_method_20_code 8 = .ok (.iadd, 1) := by decide +kernel
theorem dd_Chart_cell_9 : decode prog_2_method_20_code 9 = .ok (.bipush 11, 2) := by decide +kernel
theorem dd_Chart_cell_11 : decode prog_2_method_20_code 11 = .ok (.imul, 1) := by decide +kernel
theorem dd_Chart_cell_12 : decode prog_2_method_20_code 12 = .ok (.iload_n 3, 1) := by decide +kernel
theorem dd_Chart_cell_13 : decode prog_2_method_20_code 13 = .ok (.iadd, 1) := by decide +kernel
theorem dd_Chart_cell_14 : decode prog_2_method_20_code 14 = .ok (.ireturn, 1) := by decide +kernel
theorem dd_Chart_complete_0 : decode prog_2_method_7_code 0 = .ok (.iload_n 1, 1) := by decide +kernel
theorem dd_Chart_complete_1 : decode prog_2_method_7_code 1 = .ok (.iconst 1, 1) := by decide +kernel
theorem dd_Chart_complete_2 : decode prog_2_method_7_code 2 = .ok (.isub, 1) := by decide +kernel
theorem dd_Chart_complete_3 : decode prog_2_method_7_code 3 = .ok (.istore_n 2, 1) := by decide +kernel
theorem dd_Chart_complete_4 : decode prog_2_method_7_code 4 = .ok (.iload_n 2, 1) := by decide +kernel
theorem dd_Chart_complete_5 : decode prog_2_method_7_code 5 = .ok (.ifCond .lt 28, 3) := by decide +kernel
theorem dd_Chart_complete_8 : decode prog_2_method_7_code 8 = .ok (.aload_n 0, 1) := by decide +kernel
theorem dd_Chart_complete_9 : decode prog_2_method_7_code 9 = .ok (.iload_n 2, 1) := by decide +kernel
theorem dd_Chart_complete_10 : decode prog_2_method_7_code 10 = .ok (.iload_n 1, 1) := by decide +kernel
theorem dd_Chart_complete_11 : decode prog_2_method_7_code 11 = .ok (.invokevirtual 44, 3) := by decide +kernel
theorem dd_Chart_complete_14 : decode prog_2_method_7_code 14 = .ok (.istore_n 3, 1) := by decide +kernel
theorem dd_Chart_complete_15 : decode prog_2_method_7_code 15 = .ok (.iload_n 3, 1) := by decide +kernel
theorem dd_Chart_complete_16 : decode prog_2_method_7_code 16 = .ok (.iconst (-1), 1) := by decide +kernel
theorem dd_Chart_complete_17 : decode prog_2_method_7_code 17 = .ok (.if_icmp .eq 10, 3) := by decide +kernel
theorem dd_Chart_complete_20 : decode prog_2_method_7_code 20 = .ok (.aload_n 0, 1) := by decide +kernel
theorem dd_Chart_complete_21 : decode prog_2_method_7_code 21 = .ok (.iload_n 2, 1) := by decide +kernel
theorem dd_Chart_complete_22 : decode prog_2_method_7_code 22 = .ok (.iload_n 1, 1) := by decide +kernel
theorem dd_Chart_complete_23 : decode prog_2_method_7_code 23 = .ok (.iload_n 3, 1) := by decide +kernel
theorem dd_Chart_complete_24 : decode prog_2_method_7_code 24 = .ok (.invokevirtual 64, 3) := by decide +kernel
theorem dd_Chart_complete_27 : decode prog_2_method_7_code 27 = .ok (.iinc 2 (-1), 3) := by decide +kernel
theorem dd_Chart_complete_30 : decode prog_2_method_7_code 30 = .ok (.goto (-26), 3) := by decide +kernel
theorem dd_Chart_complete_33 : decode prog_2_method_7_code 33 = .ok (.return_, 1) := by decide +kernel
theorem dd_Chart_countFirstHoles_0 : decode prog_2_method_19_code 0 = .ok (.iconst 0, 1) := by decide +kernel
theorem dd_Chart_countFirstHoles_1 : decode prog_2_method_19_code 1 = .ok (.istore_n 3, 1) := by decide +kernel
theorem dd_Chart_countFirstHoles_2 : decode prog_2_method_19_code 2 = .ok (.iload_n 3, 1) := by decide +kernel
theorem dd_Chart_countFirstHoles_3 : decode prog_2_method_19_code 3 = .ok (.aload_n 0, 1) := by decide +kernel
theorem dd_Chart_countFirstHoles_4 : decode prog_2_method_19_code 4 = .ok (.getfield 21, 3) := by decide +kernel
theorem dd_Chart_countFirstHoles_7 : decode prog_2_method_19_code 7 = .ok (.getfield 68, 3) := by decide +kernel
theorem dd_Chart_countFirstHoles_10 : decode prog_2_method_19_code 10 = .ok (.if_icmp .ge 60, 3) := by decide +kernel
theorem dd_Chart_countFirstHoles_13 : decode prog_2_method_19_code 13 = .ok (.iload_n 3, 1) := by decide +kernel
theorem dd_Chart_countFirstHoles_14 : decode prog_2_method_19_code 14 = .ok (.bipush 7, 2) := by decide +kernel
theorem dd_Chart_countFirstHoles_16 : decode prog_2_method_19_code 16 = .ok (.imul, 1) := by decide +kernel
theorem dd_Chart_countFirstHoles_17 : decode prog_2_method_19_code 17 = .ok (.istore 4, 2) := by decide +kernel
theorem dd_Chart_countFirstHoles_19 : decode prog_2_method_19_code 19 = .ok (.aload_n 0, 1) := by decide +kernel
theorem dd_Chart_countFirstHoles_20 : decode prog_2_method_19_code 20 = .ok (.getfield 21, 3) := by decide +kernel
theorem dd_Chart_countFirstHoles_23 : decode prog_2_method_19_code 23 = .ok (.getfield 82, 3) := by decide +kernel
theorem dd_Chart_countFirstHoles_26 : decode prog_2_method_19_code 26 = .ok (.iload 4, 2) := by decide +kernel
theorem dd_Chart_countFirstHoles_28 : decode prog_2_method_19_code 28 = .ok (.iaload, 1) := by decide +kernel
theorem dd_Chart_countFirstHoles_29 : decode prog_2_method_19_code 29 = .ok (.istore 5, 2) := by decide +kernel
theorem dd_Chart_countFirstHoles_31 : decode prog_2_method_19_code 31 = .ok (.iload 5, 2) := by decide +kernel
theorem dd_Chart_countFirstHoles_33 : decode prog_2_method_19_code 33 = .ok (.iconst (-1), 1) := by decide +kernel
theorem dd_Chart_countFirstHoles_34 : decode prog_2_method_19_code 34 = .ok (.if_icmp .eq 30, 3) := by decide +kernel
theorem dd_Chart_countFirstHoles_37 : decode prog_2_method_19_code 37 = .ok (.aload_n 0, 1) := by decide +kernel
theorem dd_Chart_countFirstHoles_38 : decode prog_2_method_19_code 38 = .ok (.getfield 15, 3) := by decide +kernel
theorem dd_Chart_countFirstHoles_41 : decode prog_2_method_19_code 41 = .ok (.iload_n 2, 1) := by decide +kernel
theorem dd_Chart_countFirstHoles_42 : decode prog_2_method_19_code 42 = .ok (.bipush 98, 2) := by decide +kernel
theorem dd_Chart_countFirstHoles_44 : decode prog_2_method_19_code 44 = .ok (.imul, 1) := by decide +kernel
theorem dd_Chart_countFirstHoles_45 : decode prog_2_method_19_code 45 = .ok (.iload 4, 2) := by decide +kernel
theorem dd_Chart_countFirstHoles_47 : decode prog_2_method_19_code 47 = .ok (.iadd, 1) := by decide +kernel
theorem dd_Chart_countFirstHoles_48 : decode prog_2_method_19_code 48 = .ok (.iconst 1, 1) := by decide +kernel
theorem dd_Chart_countFirstHoles_49 : decode prog_2_method_19_code 49 = .ok (.iadd, 1) := by decide +kernel
theorem dd_Chart_countFirstHoles_50 : decode prog_2_method_19_code 50 = .ok (.aload_n 0, 1) := by decide +kernel
theorem dd_Chart_countFirstHoles_51 : decode prog_2_method_19_code 51 = .ok (.getfield 18, 3) := by decide +kernel
theorem dd_Chart_countFirstHoles_54 : decode prog_2_method_19_code 54 = .ok (.aload_n 0, 1) := by decide +kernel
theorem dd_Chart_countFirstHoles_55 : decode prog_2_method_19_code 55 = .ok (.iload_n 1, 1) := by decide +kernel
theorem dd_Chart_countFirstHoles_56 : decode prog_2_method_19_code 56 = .ok (.iload_n 2, 1) := by decide +kernel
theorem dd_Chart_countFirstHoles_57 : decode prog_2_method_19_code 57 = .ok (.iload 5, 2) := by decide +kernel
theorem dd_Chart_countFirstHoles_59 : decode prog_2_method_19_code 59 = .ok (.invokevirtual 91, 3) := by decide +kernel
theorem dd_Chart_countFirstHoles_62 : decode prog_2_method_19_code 62 = .ok (.iaload, 1) := by decide +kernel
theorem dd_Chart_countFirstHoles_63 : decode prog_2_method_19_code 63 = .ok (.iastore, 1) := by decide +kernel
theorem dd_Chart_countFirstHoles_64 : decode prog_2_method_19_code 64 = .ok (.iinc 3 1, 3) := by decide +kernel
theorem dd_Chart_countFirstHoles_67 : decode prog_2_method_19_code 67 = .ok (.goto (-65), 3) := by decide +kernel
theorem dd_Chart_countFirstHoles_70 : decode prog_2_method_19_code 70 = .ok (.return_, 1) := by decide +kernel
theorem dd_Chart_countFrom_0 : decode prog_2_method_14_code 0 = .ok (.iconst 0, 1) := by decide +kernel
theorem dd_Chart_countFrom_1 : decode prog_2_method_14_code 1 = .ok (.istore_n 3, 1) := by decide +kernel
theorem dd_Chart_countFrom_2 : decode prog_2_method_14_code 2 = .ok (.iload_n 3, 1) := by decide +kernel
theorem dd_Chart_countFrom_3 : decode prog_2_method_14_code 3 = .ok (.aload_n 0, 1) := by decide +kernel
theorem dd_Chart_countFrom_4 : decode prog_2_method_14_code 4 = .ok (.getfield 21, 3) := by decide +kernel
theorem dd_Chart_countFrom_7 : decode prog_2_method_14_code 7 = .ok (.getfield 68, 3) := by decide +kernel
theorem dd_Chart_countFrom_10 : decode prog_2_method_14_code 10 = .ok (.if_icmp .ge 24, 3) := by decide +kernel
theorem dd_Chart_countFrom_13 : decode prog_2_method_14_code 13 = .ok (.aload_n 0, 1) := by decide +kernel
theorem dd_Chart_countFrom_14 : decode prog_2_method_14_code 14 = .ok (.getfield 15, 3) := by decide +kernel
theorem dd_Chart_countFrom_17 : decode prog_2_method_14_code 17 = .ok (.iload_n 1, 1) := by decide +kernel
theorem dd_Chart_countFrom_18 : decode prog_2_method_14_code 18 = .ok (.bipush 98, 2) := by decide +kernel
theorem dd_Chart_countFrom_20 : decode prog_2_method_14_code 20 = .ok (.imul, 1) := by decide +kernel
theorem dd_Chart_countFrom_21 : decode prog_2_method_14_code 21 = .ok (.iload_n 3, 1) := by decide +kernel
theorem dd_Chart_countFrom_22 : decode prog_2_method_14_code 22 = .ok (.bipush 7, 2) := by decide +kernel
theorem dd_Chart_countFrom_24 : decode prog_2_method_14_code 24 = .ok (.imul, 1) := by decide +kernel
theorem dd_Chart_countFrom_25 : decode prog_2_method_14_code 25 = .ok (.iadd, 1) := by decide +kernel
theorem dd_Chart_countFrom_26 : decode prog_2_method_14_code 26 = .ok (.iconst 1, 1) := by decide +kernel
theorem dd_Chart_countFrom_27 : decode prog_2_method_14_code 27 = .ok (.iastore, 1) := by decide +kernel
theorem dd_Chart_countFrom_28 : decode prog_2_method_14_code 28 = .ok (.iinc 3 1, 3) := by decide +kernel
theorem dd_Chart_countFrom_31 : decode prog_2_method_14_code 31 = .ok (.goto (-29), 3) := by decide +kernel
theorem dd_Chart_countFrom_34 : decode prog_2_method_14_code 34 = .ok (.iload_n 1, 1) := by decide +kernel
theorem dd_Chart_countFrom_35 : decode prog_2_method_14_code 35 = .ok (.iconst 1, 1) := by decide +kernel
theorem dd_Chart_countFrom_36 : decode prog_2_method_14_code 36 = .ok (.iadd, 1) := by decide +kernel
theorem dd_Chart_countFrom_37 : decode prog_2_method_14_code 37 = .ok (.istore_n 3, 1) := by decide +kernel
theorem dd_Chart_countFrom_38 : decode prog_2_method_14_code 38 = .ok (.iload_n 3, 1) := by decide +kernel
theorem dd_Chart_countFrom_39 : decode prog_2_method_14_code 39 = .ok (.iload_n 2, 1) := by decide +kernel
theorem dd_Chart_countFrom_40 : decode prog_2_method_14_code 40 = .ok (.if_icmp .gt 50, 3) := by decide +kernel
theorem dd_Chart_countFrom_43 : decode prog_2_method_14_code 43 = .ok (.iconst 0, 1) := by decide +kernel
theorem dd_Chart_countFrom_44 : decode prog_2_method_14_code 44 = .ok (.istore 4, 2) := by decide +kernel
theorem dd_Chart_countFrom_46 : decode prog_2_method_14_code 46 = .ok (.iload 4, 2) := by decide +kernel
theorem dd_Chart_countFrom_48 : decode prog_2_method_14_code 48 = .ok (.aload_n 0, 1) := by decide +kernel
theorem dd_Chart_countFrom_49 : decode prog_2_method_14_code 49 = .ok (.getfield 21, 3) := by decide +kernel
theorem dd_Chart_countFrom_52 : decode prog_2_method_14_code 52 = .ok (.getfield 68, 3) := by decide +kernel
theorem dd_Chart_countFrom_55 : decode prog_2_method_14_code 55 = .ok (.if_icmp .ge 17, 3) := by decide +kernel
theorem dd_Chart_countFrom_58 : decode prog_2_method_14_code 58 = .ok (.aload_n 0, 1) := by decide +kernel
theorem dd_Chart_countFrom_59 : decode prog_2_method_14_code 59 = .ok (.iload 4, 2) := by decide +kernel
theorem dd_Chart_countFrom_61 : decode prog_2_method_14_code 61 = .ok (.iload_n 1, 1) := by decide +kernel
theorem dd_Chart_countFrom_62 : decode prog_2_method_14_code 62 = .ok (.iload_n 3, 1) := by decide +kernel
theorem dd_Chart_countFrom_63 : decode prog_2_method_14_code 63 = .ok (.invokevirtual 95, 3) := by decide +kernel
theorem dd_Chart_countFrom_66 : decode prog_2_method_14_code 66 = .ok (.iinc 4 1, 3) := by decide +kernel
theorem dd_Chart_countFrom_69 : decode prog_2_method_14_code 69 = .ok (.goto (-23), 3) := by decide +kernel
theorem dd_Chart_countFrom_72 : decode prog_2_method_14_code 72 = .ok (.aload_n 0, 1) := by decide +kernel
theorem dd_Chart_countFrom_73 : decode prog_2_method_14_code 73 = .ok (.iload_n 1, 1) := by decide +kernel
theorem dd_Chart_countFrom_74 : decode prog_2_method_14_code 74 = .ok (.iload_n 3, 1) := by decide +kernel
theorem dd_Chart_countFrom_75 : decode prog_2_method_14_code 75 = .ok (.invokevirtual 98, 3) := by decide +kernel
theorem dd_Chart_countFrom_78 : decode prog_2_method_14_code 78 = .ok (.aload_n 0, 1) := by decide +kernel
theorem dd_Chart_countFrom_79 : decode prog_2_method_14_code 79 = .ok (.iload_n 1, 1) := by decide +kernel
theorem dd_Chart_countFrom_80 : decode prog_2_method_14_code 80 = .ok (.iload_n 3, 1) := by decide +kernel
theorem dd_Chart_countFrom_81 : decode prog_2_method_14_code 81 = .ok (.invokevirtual 101, 3) := by decide +kernel
theorem dd_Chart_countFrom_84 : decode prog_2_method_14_code 84 = .ok (.iinc 3 1, 3) := by decide +kernel
theorem dd_Chart_countFrom_87 : decode prog_2_method_14_code 87 = .ok (.goto (-49), 3) := by decide +kernel
theorem dd_Chart_countFrom_90 : decode prog_2_method_14_code 90 = .ok (.return_, 1) := by decide +kernel
theorem dd_Chart_countRule_0 : decode prog_2_method_15_code 0 = .ok (.iload_n 1, 1) := by decide +kernel
theorem dd_Chart_countRule_1 : decode prog_2_method_15_code 1 = .ok (.bipush 7, 2) := by decide +kernel
theorem dd_Chart_countRule_3 : decode prog_2_method_15_code 3 = .ok (.imul, 1) := by decide +kernel
theorem dd_Chart_countRule_4 : decode prog_2_method_15_code 4 = .ok (.istore 4, 2) := by decide +kernel
theorem dd_Chart_countRule_6 : decode prog_2_method_15_code 6 = .ok (.aload_n 0, 1) := by decide +kernel
theorem dd_Chart_countRule_7 : decode prog_2_method_15_code 7 = .ok (.getfield 21, 3) := by decide +kernel
theorem dd_Chart_countRule_10 : decode prog_2_method_15_code 10 = .ok (.iload_n 1, 1) := by decide +kernel
theorem dd_Chart_countRule_11 : decode prog_2_method_15_code 11 = .ok (.invokevirtual 75, 3) := by decide +kernel
theorem dd_Chart_countRule_14 : decode prog_2_method_15_code 14 = .ok (.istore 5, 2) := by decide +kernel
theorem dd_Chart_countRule_16 : decode prog_2_method_15_code 16 = .ok (.iload 4, 2) := by decide +kernel
theorem dd_Chart_countRule_18 : decode prog_2_method_15_code 18 = .ok (.iconst 1, 1) := by decide +kernel
theorem dd_Chart_countRule_19 : decode prog_2_method_15_code 19 = .ok (.iadd, 1) := by decide +kernel
theorem dd_Chart_countRule_20 : decode prog_2_method_15_code 20 = .ok (.istore 6, 2) := by decide +kernel
theorem dd_Chart_countRule_22 : decode prog_2_method_15_code 22 = .ok (.iload 6, 2) := by decide +kernel
theorem dd_Chart_countRule_24 : decode prog_2_method_15_code 24 = .ok (.iload 5, 2) := by decide +kernel
theorem dd_Chart_countRule_26 : decode prog_2_method_15_code 26 = .ok (.if_icmp .gt 104, 3) := by decide +kernel
theorem dd_Chart_countRule_29 : decode prog_2_method_15_code 29 = .ok (.aload_n 0, 1) := by decide +kernel
theorem dd_Chart_countRule_30 : decode prog_2_method_15_code 30 = .ok (.iload_n 2, 1) := by decide +kernel
theorem dd_Chart_countRule_31 : decode prog_2_method_15_code 31 = .ok (.iload_n 3, 1) := by decide +kernel
theorem dd_Chart_countRule_32 : decode prog_2_method_15_code 32 = .ok (.iload 6, 2) := by decide +kernel
theorem dd_Chart_countRule_34 : decode prog_2_method_15_code 34 = .ok (.invokevirtual 78, 3) := by decide +kernel
theorem dd_Chart_countRule_37 : decode prog_2_method_15_code 37 = .ok (.ifCond .eq 87, 3) := by decide +kernel
theorem dd_Chart_countRule_40 : decode prog_2_method_15_code 40 = .ok (.aload_n 0, 1) := by decide +kernel
theorem dd_Chart_countRule_41 : decode prog_2_method_15_code 41 = .ok (.getfield 21, 3) := by decide +kernel
theorem dd_Chart_countRule_44 : decode prog_2_method_15_code 44 = .ok (.getfield 82, 3) := by decide +kernel
theorem dd_Chart_countRule_47 : decode prog_2_method_15_code 47 = .ok (.iload 6, 2) := by decide +kernel
theorem dd_Chart_countRule_49 : decode prog_2_method_15_code 49 = .ok (.iconst 1, 1) := by decide +kernel
theorem dd_Chart_countRule_50 : decode prog_2_method_15_code 50 = .ok (.isub, 1) := by decide +kernel
theorem dd_Chart_countRule_51 : decode prog_2_method_15_code 51 = .ok (.iaload, 1) := by decide +kernel
theorem dd_Chart_countRule_52 : decode prog_2_method_15_code 52 = .ok (.istore 7, 2) := by decide +kernel
theorem dd_Chart_countRule_54 : decode prog_2_method_15_code 54 = .ok (.iload 7, 2) := by decide +kernel
theorem dd_Chart_countRule_56 : decode prog_2_method_15_code 56 = .ok (.iconst (-1), 1) := by decide +kernel
theorem dd_Chart_countRule_57 : decode prog_2_method_15_code 57 = .ok (.if_icmp .ne 34, 3) := by decide +kernel
theorem dd_Chart_countRule_60 : decode prog_2_method_15_code 60 = .ok (.aload_n 0, 1) := by decide +kernel
theorem dd_Chart_countRule_61 : decode prog_2_method_15_code 61 = .ok (.getfield 15, 3) := by decide +kernel
theorem dd_Chart_countRule_64 : decode prog_2_method_15_code 64 = .ok (.iload_n 3, 1) := by decide +kernel
theorem dd_Chart_countRule_65 : decode prog_2_method_15_code 65 = .ok (.bipush 98, 2) := by decide +kernel
theorem dd_Chart_countRule_67 : decode prog_2_method_15_code 67 = .ok (.imul, 1) := by decide +kernel
theorem dd_Chart_countRule_68 : decode prog_2_method_15_code 68 = .ok (.iload 6, 2) := by decide +kernel
theorem dd_Chart_countRule_70 : decode prog_2_method_15_code 70 = .ok (.iadd, 1) := by decide +kernel
theorem dd_Chart_countRule_71 : decode prog_2_method_15_code 71 = .ok (.aload_n 0, 1) := by decide +kernel
theorem dd_Chart_countRule_72 : decode prog_2_method_15_code 72 = .ok (.getfield 15, 3) := by decide +kernel
theorem dd_Chart_countRule_75 : decode prog_2_method_15_code 75 = .ok (.iload_n 3, 1) := by decide +kernel
theorem dd_Chart_countRule_76 : decode prog_2_method_15_code 76 = .ok (.iconst 1, 1) := by decide +kernel
theorem dd_Chart_countRule_77 : decode prog_2_method_15_code 77 = .ok (.isub, 1) := by decide +kernel
theorem dd_Chart_countRule_78 : decode prog_2_method_15_code 78 = .ok (.bipush 98, 2) := by decide +kernel
theorem dd_Chart_countRule_80 : decode prog_2_method_15_code 80 = .ok (.imul, 1) := by decide +kernel
theorem dd_Chart_countRule_81 : decode prog_2_method_15_code 81 = .ok (.iload 6, 2) := by decide +kernel
theorem dd_Chart_countRule_83 : decode prog_2_method_15_code 83 = .ok (.iadd, 1) := by decide +kernel
theorem dd_Chart_countRule_84 : decode prog_2_method_15_code 84 = .ok (.iconst 1, 1) := by decide +kernel
theorem dd_Chart_countRule_85 : decode prog_2_method_15_code 85 = .ok (.isub, 1) := by decide +kernel
theorem dd_Chart_countRule_86 : decode prog_2_method_15_code 86 = .ok (.iaload, 1) := by decide +kernel
theorem dd_Chart_countRule_87 : decode prog_2_method_15_code 87 = .ok (.iastore, 1) := by decide +kernel
theorem dd_Chart_countRule_88 : decode prog_2_method_15_code 88 = .ok (.goto 36, 3) := by decide +kernel
theorem dd_Chart_countRule_91 : decode prog_2_method_15_code 91 = .ok (.iload 6, 2) := by decide +kernel
theorem dd_Chart_countRule_93 : decode prog_2_method_15_code 93 = .ok (.iload 4, 2) := by decide +kernel
theorem dd_Chart_countRule_95 : decode prog_2_method_15_code 95 = .ok (.iconst 1, 1) := by decide +kernel
theorem dd_Chart_countRule_96 : decode prog_2_method_15_code 96 = .ok (.iadd, 1) := by decide +kernel
theorem dd_Chart_countRule_97 : decode prog_2_method_15_code 97 = .ok (.if_icmp .le 27, 3) := by decide +kernel
theorem dd_Chart_countRule_100 : decode prog_2_method_15_code 100 = .ok (.aload_n 0, 1) := by decide +kernel
theorem dd_Chart_countRule_101 : decode prog_2_method_15_code 101 = .ok (.getfield 15, 3) := by decide +kernel
theorem dd_Chart_countRule_104 : decode prog_2_method_15_code 104 = .ok (.iload_n 3, 1) := by decide +kernel
theorem dd_Chart_countRule_105 : decode prog_2_method_15_code 105 = .ok (.bipush 98, 2) := by decide +kernel
theorem dd_Chart_countRule_107 : decode prog_2_method_15_code 107 = .ok (.imul, 1) := by decide +kernel
theorem dd_Chart_countRule_108 : decode prog_2_method_15_code 108 = .ok (.iload 6, 2) := by decide +kernel
theorem dd_Chart_countRule_110 : decode prog_2_method_15_code 110 = .ok (.iadd, 1) := by decide +kernel
theorem dd_Chart_countRule_111 : decode prog_2_method_15_code 111 = .ok (.aload_n 0, 1) := by decide +kernel
theorem dd_Chart_countRule_112 : decode prog_2_method_15_code 112 = .ok (.iload 6, 2) := by decide +kernel
theorem dd_Chart_countRule_114 : decode prog_2_method_15_code 114 = .ok (.iconst 1, 1) := by decide +kernel
theorem dd_Chart_countRule_115 : decode prog_2_method_15_code 115 = .ok (.isub, 1) := by decide +kernel
theorem dd_Chart_countRule_116 : decode prog_2_method_15_code 116 = .ok (.iload 7, 2) := by decide +kernel
theorem dd_Chart_countRule_118 : decode prog_2_method_15_code 118 = .ok (.iload_n 2, 1) := by decide +kernel
theorem dd_Chart_countRule_119 : decode prog_2_method_15_code 119 = .ok (.iload_n 3, 1) := by decide +kernel
theorem dd_Chart_countRule_120 : decode prog_2_method_15_code 120 = .ok (.invokevirtual 104, 3) := by decide +kernel
theorem dd_Chart_countRule_123 : decode prog_2_method_15_code 123 = .ok (.iastore, 1) := by decide +kernel
theorem dd_Chart_countRule_124 : decode prog_2_method_15_code 124 = .ok (.iinc 6 1, 3) := by decide +kernel
theorem dd_Chart_countRule_127 : decode prog_2_method_15_code 127 = .ok (.goto (-105), 3) := by decide +kernel
theorem dd_Chart_countRule_130 : decode prog_2_method_15_code 130 = .ok (.return_, 1) := by decide +kernel
theorem dd_Chart_countSplits_0 : decode prog_2_method_16_code 0 = .ok (.lconst 0, 1) := by decide +kernel
theorem dd_Chart_countSplits_1 : decode prog_2_method_16_code 1 = .ok (.lstore 5, 2) := by decide +kernel
theorem dd_Chart_countSplits_3 : decode prog_2_method_16_code 3 = .ok (.iload_n 3, 1) := by decide +kernel
theorem dd_Chart_countSplits_4 : decode prog_2_method_16_code 4 = .ok (.iconst 1, 1) := by decide +kernel
theorem dd_Chart_countSplits_5 : decode prog_2_method_16_code 5 = .ok (.iadd, 1) := by decide +kernel
theorem dd_Chart_countSplits_6 : decode prog_2_method_16_code 6 = .ok (.istore 7, 2) := by decide +kernel
theorem dd_Chart_countSplits_8 : decode prog_2_method_16_code 8 = .ok (.iload 7, 2) := by decide +kernel
theorem dd_Chart_countSplits_10 : decode prog_2_method_16_code 10 = .ok (.iload 4, 2) := by decide +kernel
theorem dd_Chart_countSplits_12 : decode prog_2_method_16_code 12 = .ok (.if_icmp .ge 54, 3) := by decide +kernel
theorem dd_Chart_countSplits_15 : decode prog_2_method_16_code 15 = .ok (.aload_n 0, 1) := by decide +kernel
theorem dd_Chart_countSplits_16 : decode prog_2_method_16_code 16 = .ok (.iload_n 3, 1) := by decide +kernel
theorem dd_Chart_countSplits_17 : decode prog_2_method_16_code 17 = .ok (.iload 7, 2) := by decide +kernel
theorem dd_Chart_countSplits_19 : decode prog_2_method_16_code 19 = .ok (.iload_n 1, 1) := by decide +kernel
theorem dd_Chart_countSplits_20 : decode prog_2_method_16_code 20 = .ok (.invokevirtual 78, 3) := by decide +kernel
theorem dd_Chart_countSplits_23 : decode prog_2_method_16_code 23 = .ok (.ifCond .eq 37, 3) := by decide +kernel
theorem dd_Chart_countSplits_26 : decode prog_2_method_16_code 26 = .ok (.lload 5, 2) := by decide +kernel
theorem dd_Chart_countSplits_28 : decode prog_2_method_16_code 28 = .ok (.aload_n 0, 1) := by decide +kernel
theorem dd_Chart_countSplits_29 : decode prog_2_method_16_code 29 = .ok (.getfield 15, 3) := by decide +kernel
theorem dd_Chart_countSplits_32 : decode prog_2_method_16_code 32 = .ok (.iload 7, 2) := by decide +kernel
theorem dd_Chart_countSplits_34 : decode prog_2_method_16_code 34 = .ok (.bipush 98, 2) := by decide +kernel
theorem dd_Chart_countSplits_36 : decode prog_2_method_16_code 36 = .ok (.imul, 1) := by decide +kernel
theorem dd_Chart_countSplits_37 : decode prog_2_method_16_code 37 = .ok (.iload_n 1, 1) := by decide +kernel
theorem dd_Chart_countSplits_38 : decode prog_2_method_16_code 38 = .ok (.iadd, 1) := by decide +kernel
theorem dd_Chart_countSplits_39 : decode prog_2_method_16_code 39 = .ok (.iaload, 1) := by decide +kernel
theorem dd_Chart_countSplits_40 : decode prog_2_method_16_code 40 = .ok (.i2l, 1) := by decide +kernel
theorem dd_Chart_countSplits_41 : decode prog_2_method_16_code 41 = .ok (.aload_n 0, 1) := by decide +kernel
theorem dd_Chart_countSplits_42 : decode prog_2_method_16_code 42 = .ok (.getfield 18, 3) := by decide +kernel
theorem dd_Chart_countSplits_45 : decode prog_2_method_16_code 45 = .ok (.aload_n 0, 1) := by decide +kernel
theorem dd_Chart_countSplits_46 : decode prog_2_method_16_code 46 = .ok (.iload 7, 2) := by decide +kernel
theorem dd_Chart_countSplits_48 : decode prog_2_method_16_code 48 = .ok (.iload 4, 2) := by decide +kernel
theorem dd_Chart_countSplits_50 : decode prog_2_method_16_code 50 = .ok (.iload_n 2, 1) := by decide +kernel
theorem dd_Chart_countSplits_51 : decode prog_2_method_16_code 51 = .ok (.invokevirtual 91, 3) := by decide +kernel
theorem dd_Chart_countSplits_54 : decode prog_2_method_16_code 54 = .ok (.iaload, 1) := by decide +kernel
theorem dd_Chart_countSplits_55 : decode prog_2_method_16_code 55 = .ok (.i2l, 1) := by decide +kernel
theorem dd_Chart_countSplits_56 : decode prog_2_method_16_code 56 = .ok (.lmul, 1) := by decide +kernel
theorem dd_Chart_countSplits_57 : decode prog_2_method_16_code 57 = .ok (.ladd, 1) := by decide +kernel
theorem dd_Chart_countSplits_58 : decode prog_2_method_16_code 58 = .ok (.lstore 5, 2) := by decide +kernel
theorem dd_Chart_countSplits_60 : decode prog_2_method_16_code 60 = .ok (.iinc 7 1, 3) := by decide +kernel
theorem dd_Chart_countSplits_63 : decode prog_2_method_16_code 63 = .ok (.goto (-55), 3) := by decide +kernel
theorem dd_Chart_countSplits_66 : decode prog_2_method_16_code 66 = .ok (.lload 5, 2) := by decide +kernel
theorem dd_Chart_countSplits_68 : decode prog_2_method_16_code 68 = .ok (.ldc2_w 108, 3) := by decide +kernel
theorem dd_Chart_countSplits_71 : decode prog_2_method_16_code 71 = .ok (.invokestatic 110, 3) := by decide +kernel
theorem dd_Chart_countSplits_74 : decode prog_2_method_16_code 74 = .ok (.l2i, 1) := by decide +kernel
theorem dd_Chart_countSplits_75 : decode prog_2_method_16_code 75 = .ok (.ireturn, 1) := by decide +kernel
theorem dd_Chart_countTrees_0 : decode prog_2_method_13_code 0 = .ok (.iload_n 1, 1) := by decide +kernel
theorem dd_Chart_countTrees_1 : decode prog_2_method_13_code 1 = .ok (.iconst 1, 1) := by decide +kernel
theorem dd_Chart_countTrees_2 : decode prog_2_method_13_code 2 = .ok (.isub, 1) := by decide +kernel
theorem dd_Chart_countTrees_3 : decode prog_2_method_13_code 3 = .ok (.istore_n 2, 1) := by decide +kernel
theorem dd_Chart_countTrees_4 : decode prog_2_method_13_code 4 = .ok (.iload_n 2, 1) := by decide +kernel
theorem dd_Chart_countTrees_5 : decode prog_2_method_13_code 5 = .ok (.ifCond .lt 26, 3) := by decide +kernel
theorem dd_Chart_countTrees_8 : decode prog_2_method_13_code 8 = .ok (.aload_n 0, 1) := by decide +kernel
theorem dd_Chart_countTrees_9 : decode prog_2_method_13_code 9 = .ok (.iload_n 2, 1) := by decide +kernel
theorem dd_Chart_countTrees_10 : decode prog_2_method_13_code 10 = .ok (.iload_n 2, 1) := by decide +kernel
theorem dd_Chart_countTrees_11 : decode prog_2_method_13_code 11 = .ok (.bipush 7, 2) := by decide +kernel
theorem dd_Chart_countTrees_13 : decode prog_2_method_13_code 13 = .ok (.invokevirtual 78, 3) := by decide +kernel
theorem dd_Chart_countTrees_16 : decode prog_2_method_13_code 16 = .ok (.ifCond .eq 9, 3) := by decide +kernel
theorem dd_Chart_countTrees_19 : decode prog_2_method_13_code 19 = .ok (.aload_n 0, 1) := by decide +kernel
theorem dd_Chart_countTrees_20 : decode prog_2_method_13_code 20 = .ok (.iload_n 2, 1) := by decide +kernel
theorem dd_Chart_countTrees_21 : decode prog_2_method_13_code 21 = .ok (.iload_n 1, 1) := by decide +kernel
theorem dd_Chart_countTrees_22 : decode prog_2_method_13_code 22 = .ok (.invokevirtual 88, 3) := by decide +kernel
theorem dd_Chart_countTrees_25 : decode prog_2_method_13_code 25 = .ok (.iinc 2 (-1), 3) := by decide +kernel
theorem dd_Chart_countTrees_28 : decode prog_2_method_13_code 28 = .ok (.goto (-24), 3) := by decide +kernel
theorem dd_Chart_countTrees_31 : decode prog_2_method_13_code 31 = .ok (.iload_n 1, 1) := by decide +kernel
theorem dd_Chart_countTrees_32 : decode prog_2_method_13_code 32 = .ok (.iconst 1, 1) := by decide +kernel
theorem dd_Chart_countTrees_33 : decode prog_2_method_13_code 33 = .ok (.if_icmp .ge 7, 3) := by decide +kernel
theorem dd_Chart_countTrees_36 : decode prog_2_method_13_code 36 = .ok (.iconst 0, 1) := by decide +kernel
theorem dd_Chart_countTrees_37 : decode prog_2_method_13_code 37 = .ok (.goto 15, 3) := by decide +kernel
theorem dd_Chart_countTrees_40 : decode prog_2_method_13_code 40 = .ok (.aload_n 0, 1) := by decide +kernel
theorem dd_Chart_countTrees_41 : decode prog_2_method_13_code 41 = .ok (.getfield 18, 3) := by decide +kernel
theorem dd_Chart_countTrees_44 : decode prog_2_method_13_code 44 = .ok (.aload_n 0, 1) := by decide +kernel
theorem dd_Chart_countTrees_45 : decode prog_2_method_13_code 45 = .ok (.iconst 0, 1) := by decide +kernel
theorem dd_Chart_countTrees_46 : decode prog_2_method_13_code 46 = .ok (.iload_n 1, 1) := by decide +kernel
theorem dd_Chart_countTrees_47 : decode prog_2_method_13_code 47 = .ok (.iconst 0, 1) := by decide +kernel
theorem dd_Chart_countTrees_48 : decode prog_2_method_13_code 48 = .ok (.invokevirtual 91, 3) := by decide +kernel
theorem dd_Chart_countTrees_51 : decode prog_2_method_13_code 51 = .ok (.iaload, 1) := by decide +kernel
theorem dd_Chart_countTrees_52 : decode prog_2_method_13_code 52 = .ok (.ireturn, 1) := by decide +kernel
theorem dd_Chart_emptyRow_0 : decode prog_2_method_4_code 0 = .ok (.aload_n 0, 1) := by decide +kernel
theorem dd_Chart_emptyRow_1 : decode prog_2_method_4_code 1 = .ok (.getfield 9, 3) := by decide +kernel
theorem dd_Chart_emptyRow_4 : decode prog_2_method_4_code 4 = .ok (.iload_n 1, 1) := by decide +kernel
theorem dd_Chart_emptyRow_5 : decode prog_2_method_4_code 5 = .ok (.bipush 98, 2) := by decide +kernel
theorem dd_Chart_emptyRow_7 : decode prog_2_method_4_code 7 = .ok (.imul, 1) := by decide +kernel
theorem dd_Chart_emptyRow_8 : decode prog_2_method_4_code 8 = .ok (.iload_n 1, 1) := by decide +kernel
theorem dd_Chart_emptyRow_9 : decode prog_2_method_4_code 9 = .ok (.iconst 1, 1) := by decide +kernel
theorem dd_Chart_emptyRow_10 : decode prog_2_method_4_code 10 = .ok (.iadd, 1) := by decide +kernel
theorem dd_Chart_emptyRow_11 : decode prog_2_method_4_code 11 = .ok (.bipush 98, 2) := by decide +kernel
theorem dd_Chart_emptyRow_13 : decode prog_2_method_4_code 13 = .ok (.imul, 1) := by decide +kernel
theorem dd_Chart_emptyRow_14 : decode prog_2_method_4_code 14 = .ok (.iconst 0, 1) := by decide +kernel
theorem dd_Chart_emptyRow_15 : decode prog_2_method_4_code 15 = .ok (.invokestatic 48, 3) := by decide +kernel
theorem dd_Chart_emptyRow_18 : decode prog_2_method_4_code 18 = .ok (.return_, 1) := by decide +kernel
theorem dd_Chart_fillHoles_0 : decode prog_2_method_9_code 0 = .ok (.iload_n 1, 1) := by decide +kernel
theorem dd_Chart_fillHoles_1 : decode prog_2_method_9_code 1 = .ok (.bipush 98, 2) := by decide +kernel
theorem dd_Chart_fillHoles_3 : decode prog_2_method_9_code 3 = .ok (.imul, 1) := by decide +kernel
theorem dd_Chart_fillHoles_4 : decode prog_2_method_9_code 4 = .ok (.istore 4, 2) := by decide +kernel
theorem dd_Chart_fillHoles_6 : decode prog_2_method_9_code 6 = .ok (.iload_n 2, 1) := by decide +kernel
theorem dd_Chart_fillHoles_7 : decode prog_2_method_9_code 7 = .ok (.bipush 98, 2) := by decide +kernel
theorem dd_Chart_fillHoles_9 : decode prog_2_method_9_code 9 = .ok (.imul, 1) := by decide +kernel
theorem dd_Chart_fillHoles_10 : decode prog_2_method_9_code 10 = .ok (.istore 5, 2) := by decide +kernel
theorem dd_Chart_fillHoles_12 : decode prog_2_method_9_code 12 = .ok (.iconst 0, 1) := by decide +kernel
theorem dd_Chart_fillHoles_13 : decode prog_2_method_9_code 13 = .ok (.istore 6, 2) := by decide +kernel
theorem dd_Chart_fillHoles_15 : decode prog_2_method_9_code 15 = .ok (.iload 6, 2) := by decide +kernel
theorem dd_Chart_fillHoles_17 : decode prog_2_method_9_code 17 = .ok (.aload_n 0, 1) := by decide +kernel
theorem dd_Chart_fillHoles_18 : decode prog_2_method_9_code 18 = .ok (.getfield 21, 3) := by decide +kernel
theorem dd_Chart_fillHoles_21 : decode prog_2_method_9_code 21 = .ok (.invokevirtual 54, 3) := by decide +kernel
theorem dd_Chart_fillHoles_24 : decode prog_2_method_9_code 24 = .ok (.if_icmp .ge 58, 3) := by decide +kernel
theorem dd_Chart_fillHoles_27 : decode prog_2_method_9_code 27 = .ok (.aload_n 0, 1) := by decide +kernel
theorem dd_Chart_fillHoles_28 : decode prog_2_method_9_code 28 = .ok (.getfield 21, 3) := by decide +kernel
theorem dd_Chart_fillHoles_31 : decode prog_2_method_9_code 31 = .ok (.getfield 82, 3) := by decide +kernel
theorem dd_Chart_fillHoles_34 : decode prog_2_method_9_code 34 = .ok (.iload 6, 2) := by decide +kernel
theorem dd_Chart_fillHoles_36 : decode prog_2_method_9_code 36 = .ok (.iaload, 1) := by decide +kernel
theorem dd_Chart_fillHoles_37 : decode prog_2_method_9_code 37 = .ok (.istore 7, 2) := by decide +kernel
theorem dd_Chart_fillHoles_39 : decode prog_2_method_9_code 39 = .ok (.iload 7, 2) := by decide +kernel
theorem dd_Chart_fillHoles_41 : decode prog_2_method_9_code 41 = .ok (.iconst (-1), 1) := by decide +kernel
theorem dd_Chart_fillHoles_42 : decode prog_2_method_9_code 42 = .ok (.if_icmp .eq 34, 3) := by decide +kernel
theorem dd_Chart_fillHoles_45 : decode prog_2_method_9_code 45 = .ok (.iload 7, 2) := by decide +kernel
theorem dd_Chart_fillHoles_47 : decode prog_2_method_9_code 47 = .ok (.iload_n 3, 1) := by decide +kernel
theorem dd_Chart_fillHoles_48 : decode prog_2_method_9_code 48 = .ok (.if_icmp .gt 28, 3) := by decide +kernel
theorem dd_Chart_fillHoles_51 : decode prog_2_method_9_code 51 = .ok (.aload_n 0, 1) := by decide +kernel
theorem dd_Chart_fillHoles_52 : decode prog_2_method_9_code 52 = .ok (.getfield 9, 3) := by decide +kernel
theorem dd_Chart_fillHoles_55 : decode prog_2_method_9_code 55 = .ok (.iload 5, 2) := by decide +kernel
theorem dd_Chart_fillHoles_57 : decode prog_2_method_9_code 57 = .ok (.iload 6, 2) := by decide +kernel
theorem dd_Chart_fillHoles_59 : decode prog_2_method_9_code 59 = .ok (.iadd, 1) := by decide +kernel
theorem dd_Chart_fillHoles_60 : decode prog_2_method_9_code 60 = .ok (.iconst 1, 1) := by decide +kernel
theorem dd_Chart_fillHoles_61 : decode prog_2_method_9_code 61 = .ok (.iadd, 1) := by decide +kernel
theorem dd_Chart_fillHoles_62 : decode prog_2_method_9_code 62 = .ok (.dup2, 1) := by decide +kernel
theorem dd_Chart_fillHoles_63 : decode prog_2_method_9_code 63 = .ok (.iaload, 1) := by decide +kernel
theorem dd_Chart_fillHoles_64 : decode prog_2_method_9_code 64 = .ok (.aload_n 0, 1) := by decide +kernel
theorem dd_Chart_fillHoles_65 : decode prog_2_method_9_code 65 = .ok (.getfield 9, 3) := by decide +kernel
theorem dd_Chart_fillHoles_68 : decode prog_2_method_9_code 68 = .ok (.iload 4, 2) := by decide +kernel
theorem dd_Chart_fillHoles_70 : decode prog_2_method_9_code 70 = .ok (.iload 6, 2) := by decide +kernel
theorem dd_Chart_fillHoles_72 : decode prog_2_method_9_code 72 = .ok (.iadd, 1) := by decide +kernel
theorem dd_Chart_fillHoles_73 : decode prog_2_method_9_code 73 = .ok (.iaload, 1) := by decide +kernel
theorem dd_Chart_fillHoles_74 : decode prog_2_method_9_code 74 = .ok (.ior, 1) := by decide +kernel
theorem dd_Chart_fillHoles_75 : decode prog_2_method_9_code 75 = .ok (.iastore, 1) := by decide +kernel
theorem dd_Chart_fillHoles_76 : decode prog_2_method_9_code 76 = .ok (.iinc 6 1, 3) := by decide +kernel
theorem dd_Chart_fillHoles_79 : decode prog_2_method_9_code 79 = .ok (.goto (-64), 3) := by decide +kernel
theorem dd_Chart_fillHoles_82 : decode prog_2_method_9_code 82 = .ok (.return_, 1) := by decide +kernel
theorem dd_Chart_follow_0 : decode prog_2_method_2_code 0 = .ok (.aload_n 0, 1) := by decide +kernel
theorem dd_Chart_follow_1 : decode prog_2_method_2_code 1 = .ok (.iconst 0, 1) := by decide +kernel
theorem dd_Chart_follow_2 : decode prog_2_method_2_code 2 = .ok (.invokevirtual 25, 3) := by decide +kernel
theorem dd_Chart_follow_5 : decode prog_2_method_2_code 5 = .ok (.aload_n 0, 1) := by decide +kernel
theorem dd_Chart_follow_6 : decode prog_2_method_2_code 6 = .ok (.iconst 0, 1) := by decide +kernel
theorem dd_Chart_follow_7 : decode prog_2_method_2_code 7 = .ok (.iconst 0, 1) := by decide +kernel
theorem dd_Chart_follow_8 : decode prog_2_method_2_code 8 = .ok (.invokevirtual 29, 3) := by decide +kernel
theorem dd_Chart_follow_11 : decode prog_2_method_2_code 11 = .ok (.iconst 0, 1) := by decide +kernel
theorem dd_Chart_follow_12 : decode prog_2_method_2_code 12 = .ok (.istore_n 3, 1) := by decide +kernel
theorem dd_Chart_follow_13 : decode prog_2_method_2_code 13 = .ok (.iload_n 3, 1) := by decide +kernel
theorem dd_Chart_follow_14 : decode prog_2_method_2_code 14 = .ok (.iload_n 2, 1) := by decide +kernel
theorem dd_Chart_follow_15 : decode prog_2_method_2_code 15 = .ok (.if_icmp .ge 50, 3) := by decide +kernel
theorem dd_Chart_follow_18 : decode prog_2_method_2_code 18 = .ok (.aload_n 0, 1) := by decide +kernel
theorem dd_Chart_follow_19 : decode prog_2_method_2_code 19 = .ok (.iload_n 3, 1) := by decide +kernel
theorem dd_Chart_follow_20 : decode prog_2_method_2_code 20 = .ok (.iconst 1, 1) := by decide +kernel
theorem dd_Chart_follow_21 : decode prog_2_method_2_code 21 = .ok (.iadd, 1) := by decide +kernel
theorem dd_Chart_follow_22 : decode prog_2_method_2_code 22 = .ok (.invokevirtual 25, 3) := by decide +kernel
theorem dd_Chart_follow_25 : decode prog_2_method_2_code 25 = .ok (.aload_n 0, 1) := by decide +kernel
theorem dd_Chart_follow_26 : decode prog_2_method_2_code 26 = .ok (.iload_n 3, 1) := by decide +kernel
theorem dd_Chart_follow_27 : decode prog_2_method_2_code 27 = .ok (.aload_n 1, 1) := by decide +kernel
theorem dd_Chart_follow_28 : decode prog_2_method_2_code 28 = .ok (.iload_n 3, 1) := by decide +kernel
theorem dd_Chart_follow_29 : decode prog_2_method_2_code 29 = .ok (.laload, 1) := by decide +kernel
theorem dd_Chart_follow_30 : decode prog_2_method_2_code 30 = .ok (.invokevirtual 33, 3) := by decide +kernel
theorem dd_Chart_follow_33 : decode prog_2_method_2_code 33 = .ok (.ifCond .ne 5, 3) := by decide +kernel
theorem dd_Chart_follow_36 : decode prog_2_method_2_code 36 = .ok (.iload_n 3, 1) := by decide +kernel
theorem dd_Chart_follow_37 : decode prog_2_method_2_code 37 = .ok (.ireturn, 1) := by decide +kernel
theorem dd_Chart_follow_38 : decode prog_2_method_2_code 38 = .ok (.aload_n 0, 1) := by decide +kernel
theorem dd_Chart_follow_39 : decode prog_2_method_2_code 39 = .ok (.iload_n 3, 1) := by decide +kernel
theorem dd_Chart_follow_40 : decode prog_2_method_2_code 40 = .ok (.iconst 1, 1) := by decide +kernel
theorem dd_Chart_follow_41 : decode prog_2_method_2_code 41 = .ok (.iadd, 1) := by decide +kernel
theorem dd_Chart_follow_42 : decode prog_2_method_2_code 42 = .ok (.invokevirtual 37, 3) := by decide +kernel
theorem dd_Chart_follow_45 : decode prog_2_method_2_code 45 = .ok (.aload_n 0, 1) := by decide +kernel
theorem dd_Chart_follow_46 : decode prog_2_method_2_code 46 = .ok (.iload_n 3, 1) := by decide +kernel
theorem dd_Chart_follow_47 : decode prog_2_method_2_code 47 = .ok (.iconst 1, 1) := by decide +kernel
theorem dd_Chart_follow_48 : decode prog_2_method_2_code 48 = .ok (.iadd, 1) := by decide +kernel
theorem dd_Chart_follow_49 : decode prog_2_method_2_code 49 = .ok (.aload_n 0, 1) := by decide +kernel
theorem dd_Chart_follow_50 : decode prog_2_method_2_code 50 = .ok (.iload_n 3, 1) := by decide +kernel
theorem dd_Chart_follow_51 : decode prog_2_method_2_code 51 = .ok (.iconst 1, 1) := by decide +kernel
theorem dd_Chart_follow_52 : decode prog_2_method_2_code 52 = .ok (.iadd, 1) := by decide +kernel
theorem dd_Chart_follow_53 : decode prog_2_method_2_code 53 = .ok (.invokevirtual 40, 3) := by decide +kernel
theorem dd_Chart_follow_56 : decode prog_2_method_2_code 56 = .ok (.invokevirtual 29, 3) := by decide +kernel
theorem dd_Chart_follow_59 : decode prog_2_method_2_code 59 = .ok (.iinc 3 1, 3) := by decide +kernel
theorem dd_Chart_follow_62 : decode prog_2_method_2_code 62 = .ok (.goto (-49), 3) := by decide +kernel
theorem dd_Chart_follow_65 : decode prog_2_method_2_code 65 = .ok (.iload_n 2, 1) := by decide +kernel
theorem dd_Chart_follow_66 : decode prog_2_method_2_code 66 = .ok (.ireturn, 1) := by decide +kernel
theorem dd_Chart_highestTerm_0 : decode prog_2_method_8_code 0 = .ok (.iconst (-1), 1) := by decide +kernel
theorem dd_Chart_highestTerm_1 : decode prog_2_method_8_code 1 = .ok (.istore_n 3, 1) := by decide +kernel
theorem dd_Chart_highestTerm_2 : decode prog_2_method_8_code 2 = .ok (.iconst 0, 1) := by decide +kernel
theorem dd_Chart_highestTerm_3 : decode prog_2_method_8_code 3 = .ok (.istore 4, 2) := by decide +kernel
theorem dd_Chart_highestTerm_5 : decode prog_2_method_8_code 5 = .ok (.iload 4, 2) := by decide +kernel
theorem dd_Chart_highestTerm_7 : decode prog_2_method_8_code 7 = .ok (.aload_n 0, 1) := by decide +kernel
theorem dd_Chart_highestTerm_8 : decode prog_2_method_8_code 8 = .ok (.getfield 21, 3) := by decide +kernel
theorem dd_Chart_highestTerm_11 : decode prog_2_method_8_code 11 = .ok (.getfield 68, 3) := by decide +kernel
theorem dd_Chart_highestTerm_14 : decode prog_2_method_8_code 14 = .ok (.if_icmp .ge 52, 3) := by decide +kernel
theorem dd_Chart_highestTerm_17 : decode prog_2_method_8_code 17 = .ok (.aload_n 0, 1) := by decide +kernel
theorem dd_Chart_highestTerm_18 : decode prog_2_method_8_code 18 = .ok (.getfield 21, 3) := by decide +kernel
theorem dd_Chart_highestTerm_21 : decode prog_2_method_8_code 21 = .ok (.getfield 72, 3) := by decide +kernel
theorem dd_Chart_highestTerm_24 : decode prog_2_method_8_code 24 = .ok (.iload 4, 2) := by decide +kernel
theorem dd_Chart_highestTerm_26 : decode prog_2_method_8_code 26 = .ok (.iaload, 1) := by decide +kernel
theorem dd_Chart_highestTerm_27 : decode prog_2_method_8_code 27 = .ok (.iload_n 3, 1) := by decide +kernel
theorem dd_Chart_highestTerm_28 : decode prog_2_method_8_code 28 = .ok (.if_icmp .le 32, 3) := by decide +kernel
theorem dd_Chart_highestTerm_31 : decode prog_2_method_8_code 31 = .ok (.aload_n 0, 1) := by decide +kernel
theorem dd_Chart_highestTerm_32 : decode prog_2_method_8_code 32 = .ok (.iload_n 1, 1) := by decide +kernel
theorem dd_Chart_highestTerm_33 : decode prog_2_method_8_code 33 = .ok (.iload_n 2, 1) := by decide +kernel
theorem dd_Chart_highestTerm_34 : decode prog_2_method_8_code 34 = .ok (.aload_n 0, 1) := by decide +kernel
theorem dd_Chart_highestTerm_35 : decode prog_2_method_8_code 35 = .ok (.getfield 21, 3) := by decide +kernel
theorem dd_Chart_highestTerm_38 : decode prog_2_method_8_code 38 = .ok (.iload 4, 2) := by decide +kernel
theorem dd_Chart_highestTerm_40 : decode prog_2_method_8_code 40 = .ok (.invokevirtual 75, 3) := by decide +kernel
theorem dd_Chart_highestTerm_43 : decode prog_2_method_8_code 43 = .ok (.invokevirtual 78, 3) := by decide +kernel
theorem dd_Chart_highestTerm_46 : decode prog_2_method_8_code 46 = .ok (.ifCond .eq 14, 3) := by decide +kernel
theorem dd_Chart_highestTerm_49 : decode prog_2_method_8_code 49 = .ok (.aload_n 0, 1) := by decide +kernel
theorem dd_Chart_highestTerm_50 : decode prog_2_method_8_code 50 = .ok (.getfield 21, 3) := by decide +kernel
theorem dd_Chart_highestTerm_53 : decode prog_2_method_8_code 53 = .ok (.getfield 72, 3) := by decide +kernel
theorem dd_Chart_highestTerm_56 : decode prog_2_method_8_code 56 = .ok (.iload 4, 2) := by decide +kernel
theorem dd_Chart_highestTerm_58 : decode prog_2_method_8_code 58 = .ok (.iaload, 1) := by decide +kernel
theorem dd_Chart_highestTerm_59 : decode prog_2_method_8_code 59 = .ok (.istore_n 3, 1) := by decide +kernel
theorem dd_Chart_highestTerm_60 : decode prog_2_method_8_code 60 = .ok (.iinc 4 1, 3) := by decide +kernel
theorem dd_Chart_highestTerm_63 : decode prog_2_method_8_code 63 = .ok (.goto (-58), 3) := by decide +kernel
theorem dd_Chart_highestTerm_66 : decode prog_2_method_8_code 66 = .ok (.iload_n 3, 1) := by decide +kernel
theorem dd_Chart_highestTerm_67 : decode prog_2_method_8_code 67 = .ok (.ireturn, 1) := by decide +kernel
theorem dd_Chart_isReached_0 : decode prog_2_method_5_code 0 = .ok (.aload_n 0, 1) := by decide +kernel
theorem dd_Chart_isReached_1 : decode prog_2_method_5_code 1 = .ok (.getfield 9, 3) := by decide +kernel
theorem dd_Chart_isReached_4 : decode prog_2_method_5_code 4 = .ok (.iload_n 2, 1) := by decide +kernel
theorem dd_Chart_isReached_5 : decode prog_2_method_5_code 5 = .ok (.bipush 98, 2) := by decide +kernel
theorem dd_Chart_isReached_7 : decode prog_2_method_5_code 7 = .ok (.imul, 1) := by decide +kernel
theorem dd_Chart_isReached_8 : decode prog_2_method_5_code 8 = .ok (.iload_n 3, 1) := by decide +kernel
theorem dd_Chart_isReached_9 : decode prog_2_method_5_code 9 = .ok (.iadd, 1) := by decide +kernel
theorem dd_Chart_isReached_10 : decode prog_2_method_5_code 10 = .ok (.iaload, 1) := by decide +kernel
theorem dd_Chart_isReached_11 : decode prog_2_method_5_code 11 = .ok (.iload_n 1, 1) := by decide +kernel
theorem dd_Chart_isReached_12 : decode prog_2_method_5_code 12 = .ok (.iushr, 1) := by decide +kernel
theorem dd_Chart_isReached_13 : decode prog_2_method_5_code 13 = .ok (.iconst 1, 1) := by decide +kernel
theorem dd_Chart_isReached_14 : decode prog_2_method_5_code 14 = .ok (.iand, 1) := by decide +kernel
theorem dd_Chart_isReached_15 : decode prog_2_method_5_code 15 = .ok (.ifCond .eq 7, 3) := by decide +kernel
theorem dd_Chart_isReached_18 : decode prog_2_method_5_code 18 = .ok (.iconst 1, 1) := by decide +kernel
theorem dd_Chart_isReached_19 : decode prog_2_method_5_code 19 = .ok (.goto 4, 3) := by decide +kernel
theorem dd_Chart_isReached_22 : decode prog_2_method_5_code 22 = .ok (.iconst 0, 1) := by decide +kernel
theorem dd_Chart_isReached_23 : decode prog_2_method_5_code 23 = .ok (.ireturn, 1) := by decide +kernel
theorem dd_Chart_isWhole_0 : decode prog_2_method_3_code 0 = .ok (.aload_n 0, 1) := by decide +kernel
theorem dd_Chart_isWhole_1 : decode prog_2_method_3_code 1 = .ok (.iconst 0, 1) := by decide +kernel
theorem dd_Chart_isWhole_2 : decode prog_2_method_3_code 2 = .ok (.iload_n 1, 1) := by decide +kernel
theorem dd_Chart_isWhole_3 : decode prog_2_method_3_code 3 = .ok (.invokevirtual 44, 3) := by decide +kernel
theorem dd_Chart_isWhole_6 : decode prog_2_method_3_code 6 = .ok (.iconst (-1), 1) := by decide +kernel
theorem dd_Chart_isWhole_7 : decode prog_2_method_3_code 7 = .ok (.if_icmp .eq 7, 3) := by decide +kernel
theorem dd_Chart_isWhole_10 : decode prog_2_method_3_code 10 = .ok (.iconst 1, 1) := by decide +kernel
theorem dd_Chart_isWhole_11 : decode prog_2_method_3_code 11 = .ok (.goto 4, 3) := by decide +kernel
theorem dd_Chart_isWhole_14 : decode prog_2_method_3_code 14 = .ok (.iconst 0, 1) := by decide +kernel
theorem dd_Chart_isWhole_15 : decode prog_2_method_3_code 15 = .ok (.ireturn, 1) := by decide +kernel
theorem dd_Chart_leastFirstHole_0 : decode prog_2_method_12_code 0 = .ok (.iload_n 1, 1) := by decide +kernel
theorem dd_Chart_leastFirstHole_1 : decode prog_2_method_12_code 1 = .ok (.istore_n 2, 1) := by decide +kernel
theorem dd_Chart_leastFirstHole_2 : decode prog_2_method_12_code 2 = .ok (.iconst 2, 1) := by decide +kernel
theorem dd_Chart_leastFirstHole_3 : decode prog_2_method_12_code 3 = .ok (.istore_n 3, 1) := by decide +kernel
theorem dd_Chart_leastFirstHole_4 : decode prog_2_method_12_code 4 = .ok (.iload_n 3, 1) := by decide +kernel
theorem dd_Chart_leastFirstHole_5 : decode prog_2_method_12_code 5 = .ok (.aload_n 0, 1) := by decide +kernel
theorem dd_Chart_leastFirstHole_6 : decode prog_2_method_12_code 6 = .ok (.getfield 21, 3) := by decide +kernel
theorem dd_Chart_leastFirstHole_9 : decode prog_2_method_12_code 9 = .ok (.getfield 68, 3) := by decide +kernel
theorem dd_Chart_leastFirstHole_12 : decode prog_2_method_12_code 12 = .ok (.if_icmp .ge 51, 3) := by decide +kernel
theorem dd_Chart_leastFirstHole_15 : decode prog_2_method_12_code 15 = .ok (.aload_n 0, 1) := by decide +kernel
theorem dd_Chart_leastFirstHole_16 : decode prog_2_method_12_code 16 = .ok (.getfield 21, 3) := by decide +kernel
theorem dd_Chart_leastFirstHole_19 : decode prog_2_method_12_code 19 = .ok (.getfield 82, 3) := by decide +kernel
theorem dd_Chart_leastFirstHole_22 : decode prog_2_method_12_code 22 = .ok (.iload_n 3, 1) := by decide +kernel
theorem dd_Chart_leastFirstHole_23 : decode prog_2_method_12_code 23 = .ok (.bipush 7, 2) := by decide +kernel
theorem dd_Chart_leastFirstHole_25 : decode prog_2_method_12_code 25 = .ok (.imul, 1) := by decide +kernel
theorem dd_Chart_leastFirstHole_26 : decode prog_2_method_12_code 26 = .ok (.iaload, 1) := by decide +kernel
theorem dd_Chart_leastFirstHole_27 : decode prog_2_method_12_code 27 = .ok (.istore 4, 2) := by decide +kernel
theorem dd_Chart_leastFirstHole_29 : decode prog_2_method_12_code 29 = .ok (.aload_n 0, 1) := by decide +kernel
theorem dd_Chart_leastFirstHole_30 : decode prog_2_method_12_code 30 = .ok (.getfield 21, 3) := by decide +kernel
theorem dd_Chart_leastFirstHole_33 : decode prog_2_method_12_code 33 = .ok (.getfield 72, 3) := by decide +kernel
theorem dd_Chart_leastFirstHole_36 : decode prog_2_method_12_code 36 = .ok (.iload_n 3, 1) := by decide +kernel
theorem dd_Chart_leastFirstHole_37 : decode prog_2_method_12_code 37 = .ok (.iaload, 1) := by decide +kernel
theorem dd_Chart_leastFirstHole_38 : decode prog_2_method_12_code 38 = .ok (.iload_n 1, 1) := by decide +kernel
theorem dd_Chart_leastFirstHole_39 : decode prog_2_method_12_code 39 = .ok (.if_icmp .lt 18, 3) := by decide +kernel
theorem dd_Chart_leastFirstHole_42 : decode prog_2_method_12_code 42 = .ok (.iload 4, 2) := by decide +kernel
theorem dd_Chart_leastFirstHole_44 : decode prog_2_method_12_code 44 = .ok (.iconst (-1), 1) := by decide +kernel
theorem dd_Chart_leastFirstHole_45 : decode prog_2_method_12_code 45 = .ok (.if_icmp .eq 12, 3) := by decide +kernel
theorem dd_Chart_leastFirstHole_48 : decode prog_2_method_12_code 48 = .ok (.iload 4, 2) := by decide +kernel
theorem dd_Chart_leastFirstHole_50 : decode prog_2_method_12_code 50 = .ok (.iload_n 2, 1) := by decide +kernel
theorem dd_Chart_leastFirstHole_51 : decode prog_2_method_12_code 51 = .ok (.if_icmp .ge 6, 3) := by decide +kernel
theorem dd_Chart_leastFirstHole_54 : decode prog_2_method_12_code 54 = .ok (.iload 4, 2) := by decide +kernel
theorem dd_Chart_leastFirstHole_56 : decode prog_2_method_12_code 56 = .ok (.istore_n 2, 1) := by decide +kernel
theorem dd_Chart_leastFirstHole_57 : decode prog_2_method_12_code 57 = .ok (.iinc 3 1, 3) := by decide +kernel
theorem dd_Chart_leastFirstHole_60 : decode prog_2_method_12_code 60 = .ok (.goto (-56), 3) := by decide +kernel
theorem dd_Chart_leastFirstHole_63 : decode prog_2_method_12_code 63 = .ok (.iload_n 2, 1) := by decide +kernel
theorem dd_Chart_leastFirstHole_64 : decode prog_2_method_12_code 64 = .ok (.ireturn, 1) := by decide +kernel
theorem dd_Chart_leastWanted_0 : decode prog_2_method_10_code 0 = .ok (.bipush 11, 2) := by decide +kernel
theorem dd_Chart_leastWanted_2 : decode prog_2_method_10_code 2 = .ok (.istore_n 2, 1) := by decide +kernel
theorem dd_Chart_leastWanted_3 : decode prog_2_method_10_code 3 = .ok (.iconst 0, 1) := by decide +kernel
theorem dd_Chart_leastWanted_4 : decode prog_2_method_10_code 4 = .ok (.istore_n 3, 1) := by decide +kernel
theorem dd_Chart_leastWanted_5 : decode prog_2_method_10_code 5 = .ok (.iload_n 3, 1) := by decide +kernel
theorem dd_Chart_leastWanted_6 : decode prog_2_method_10_code 6 = .ok (.aload_n 0, 1) := by decide +kernel
theorem dd_Chart_leastWanted_7 : decode prog_2_method_10_code 7 = .ok (.getfield 21, 3) := by decide +kernel
theorem dd_Chart_leastWanted_10 : decode prog_2_method_10_code 10 = .ok (.invokevirtual 54, 3) := by decide +kernel
theorem dd_Chart_leastWanted_13 : decode prog_2_method_10_code 13 = .ok (.if_icmp .ge 49, 3) := by decide +kernel
theorem dd_Chart_leastWanted_16 : decode prog_2_method_10_code 16 = .ok (.aload_n 0, 1) := by decide +kernel
theorem dd_Chart_leastWanted_17 : decode prog_2_method_10_code 17 = .ok (.getfield 21, 3) := by decide +kernel
theorem dd_Chart_leastWanted_20 : decode prog_2_method_10_code 20 = .ok (.getfield 82, 3) := by decide +kernel
theorem dd_Chart_leastWanted_23 : decode prog_2_method_10_code 23 = .ok (.iload_n 3, 1) := by decide +kernel
theorem dd_Chart_leastWanted_24 : decode prog_2_method_10_code 24 = .ok (.iaload, 1) := by decide +kernel
theorem dd_Chart_leastWanted_25 : decode prog_2_method_10_code 25 = .ok (.istore 4, 2) := by decide +kernel
theorem dd_Chart_leastWanted_27 : decode prog_2_method_10_code 27 = .ok (.iload 4, 2) := by decide +kernel
theorem dd_Chart_leastWanted_29 : decode prog_2_method_10_code 29 = .ok (.iconst (-1), 1) := by decide +kernel
theorem dd_Chart_leastWanted_30 : decode prog_2_method_10_code 30 = .ok (.if_icmp .eq 26, 3) := by decide +kernel
theorem dd_Chart_leastWanted_33 : decode prog_2_method_10_code 33 = .ok (.iload 4, 2) := by decide +kernel
theorem dd_Chart_leastWanted_35 : decode prog_2_method_10_code 35 = .ok (.iload_n 2, 1) := by decide +kernel
theorem dd_Chart_leastWanted_36 : decode prog_2_method_10_code 36 = .ok (.if_icmp .ge 20, 3) := by decide +kernel
theorem dd_Chart_leastWanted_39 : decode prog_2_method_10_code 39 = .ok (.aload_n 0, 1) := by decide +kernel
theorem dd_Chart_leastWanted_40 : decode prog_2_method_10_code 40 = .ok (.getfield 9, 3) := by decide +kernel
theorem dd_Chart_leastWanted_43 : decode prog_2_method_10_code 43 = .ok (.iload_n 1, 1) := by decide +kernel
theorem dd_Chart_leastWanted_44 : decode prog_2_method_10_code 44 = .ok (.bipush 98, 2) := by decide +kernel
theorem dd_Chart_leastWanted_46 : decode prog_2_method_10_code 46 = .ok (.imul, 1) := by decide +kernel
theorem dd_Chart_leastWanted_47 : decode prog_2_method_10_code 47 = .ok (.iload_n 3, 1) := by decide +kernel
theorem dd_Chart_leastWanted_48 : decode prog_2_method_10_code 48 = .ok (.iadd, 1) := by decide +kernel
theorem dd_Chart_leastWanted_49 : decode prog_2_method_10_code 49 = .ok (.iaload, 1) := by decide +kernel
theorem dd_Chart_leastWanted_50 : decode prog_2_method_10_code 50 = .ok (.ifCond .eq 6, 3) := by decide +kernel
theorem dd_Chart_leastWanted_53 : decode prog_2_method_10_code 53 = .ok (.iload 4, 2) := by decide +kernel
theorem dd_Chart_leastWanted_55 : decode prog_2_method_10_code 55 = .ok (.istore_n 2, 1) := by decide +kernel
theorem dd_Chart_leastWanted_56 : decode prog_2_method_10_code 56 = .ok (.iinc 3 1, 3) := by decide +kernel
theorem dd_Chart_leastWanted_59 : decode prog_2_method_10_code 59 = .ok (.goto (-54), 3) := by decide +kernel
theorem dd_Chart_leastWanted_62 : decode prog_2_method_10_code 62 = .ok (.iload_n 2, 1) := by decide +kernel
theorem dd_Chart_leastWanted_63 : decode prog_2_method_10_code 63 = .ok (.ireturn, 1) := by decide +kernel
theorem dd_Chart_onlyRule_0 : decode prog_2_method_21_code 0 = .ok (.aload_n 0, 1) := by decide +kernel
theorem dd_Chart_onlyRule_1 : decode prog_2_method_21_code 1 = .ok (.getfield 21, 3) := by decide +kernel
theorem dd_Chart_onlyRule_4 : decode prog_2_method_21_code 4 = .ok (.getfield 68, 3) := by decide +kernel
theorem dd_Chart_onlyRule_7 : decode prog_2_method_21_code 7 = .ok (.iconst 1, 1) := by decide +kernel
theorem dd_Chart_onlyRule_8 : decode prog_2_method_21_code 8 = .ok (.isub, 1) := by decide +kernel
theorem dd_Chart_onlyRule_9 : decode prog_2_method_21_code 9 = .ok (.istore 4, 2) := by decide +kernel
theorem dd_Chart_onlyRule_11 : decode prog_2_method_21_code 11 = .ok (.iload 4, 2) := by decide +kernel
theorem dd_Chart_onlyRule_13 : decode prog_2_method_21_code 13 = .ok (.ifCond .le 44, 3) := by decide +kernel
theorem dd_Chart_onlyRule_16 : decode prog_2_method_21_code 16 = .ok (.aload_n 0, 1) := by decide +kernel
theorem dd_Chart_onlyRule_17 : decode prog_2_method_21_code 17 = .ok (.getfield 21, 3) := by decide +kernel
theorem dd_Chart_onlyRule_20 : decode prog_2_method_21_code 20 = .ok (.getfield 72, 3) := by decide +kernel
theorem dd_Chart_onlyRule_23 : decode prog_2_method_21_code 23 = .ok (.iload 4, 2) := by decide +kernel
theorem dd_Chart_onlyRule_25 : decode prog_2_method_21_code 25 = .ok (.iaload, 1) := by decide +kernel
theorem dd_Chart_onlyRule_26 : decode prog_2_method_21_code 26 = .ok (.iload_n 3, 1) := by decide +kernel
theorem dd_Chart_onlyRule_27 : decode prog_2_method_21_code 27 = .ok (.if_icmp .lt 24, 3) := by decide +kernel
theorem dd_Chart_onlyRule_30 : decode prog_2_method_21_code 30 = .ok (.aload_n 0, 1) := by decide +kernel
theorem dd_Chart_onlyRule_31 : decode prog_2_method_21_code 31 = .ok (.iload_n 1, 1) := by decide +kernel
theorem dd_Chart_onlyRule_32 : decode prog_2_method_21_code 32 = .ok (.iload_n 2, 1) := by decide +kernel
theorem dd_Chart_onlyRule_33 : decode prog_2_method_21_code 33 = .ok (.aload_n 0, 1) := by decide +kernel
theorem dd_Chart_onlyRule_34 : decode prog_2_method_21_code 34 = .ok (.getfield 21, 3) := by decide +kernel
theorem dd_Chart_onlyRule_37 : decode prog_2_method_21_code 37 = .ok (.iload 4, 2) := by decide +kernel
theorem dd_Chart_onlyRule_39 : decode prog_2_method_21_code 39 = .ok (.invokevirtual 75, 3) := by decide +kernel
theorem dd_Chart_onlyRule_42 : decode prog_2_method_21_code 42 = .ok (.invokevirtual 78, 3) := by decide +kernel
theorem dd_Chart_onlyRule_45 : decode prog_2_method_21_code 45 = .ok (.ifCond .eq 6, 3) := by decide +kernel
theorem dd_Chart_onlyRule_48 : decode prog_2_method_21_code 48 = .ok (.iload 4, 2) := by decide +kernel
theorem dd_Chart_onlyRule_50 : decode prog_2_method_21_code 50 = .ok (.ireturn, 1) := by decide +kernel
theorem dd_Chart_onlyRule_51 : decode prog_2_method_21_code 51 = .ok (.iinc 4 (-1), 3) := by decide +kernel
theorem dd_Chart_onlyRule_54 : decode prog_2_method_21_code 54 = .ok (.goto (-43), 3) := by decide +kernel
theorem dd_Chart_onlyRule_57 : decode prog_2_method_21_code 57 = .ok (.iconst 0, 1) := by decide +kernel
theorem dd_Chart_onlyRule_58 : decode prog_2_method_21_code 58 = .ok (.ireturn, 1) := by decide +kernel
theorem dd_Chart_onlySplit_0 : decode prog_2_method_22_code 0 = .ok (.aload_n 0, 1) := by decide +kernel
theorem dd_Chart_onlySplit_1 : decode prog_2_method_22_code 1 = .ok (.getfield 21, 3) := by decide +kernel
theorem dd_Chart_onlySplit_4 : decode prog_2_method_22_code 4 = .ok (.getfield 82, 3) := by decide +kernel
theorem dd_Chart_onlySplit_7 : decode prog_2_method_22_code 7 = .ok (.iload_n 1, 1) := by decide +kernel
theorem dd_Chart_onlySplit_8 : decode prog_2_method_22_code 8 = .ok (.iaload, 1) := by decide +kernel
theorem dd_Chart_onlySplit_9 : decode prog_2_method_22_code 9 = .ok (.istore 4, 2) := by decide +kernel
theorem dd_Chart_onlySplit_11 : decode prog_2_method_22_code 11 = .ok (.iload_n 3, 1) := by decide +kernel
theorem dd_Chart_onlySplit_12 : decode prog_2_method_22_code 12 = .ok (.iconst 1, 1) := by decide +kernel
theorem dd_Chart_onlySplit_13 : decode prog_2_method_22_code 13 = .ok (.isub, 1) := by decide +kernel
theorem dd_Chart_onlySplit_14 : decode prog_2_method_22_code 14 = .ok (.istore 5, 2) := by decide +kernel
theorem dd_Chart_onlySplit_16 : decode prog_2_method_22_code 16 = .ok (.iload 5, 2) := by decide +kernel
theorem dd_Chart_onlySplit_18 : decode prog_2_method_22_code 18 = .ok (.iload_n 2, 1) := by decide +kernel
theorem dd_Chart_onlySplit_19 : decode prog_2_method_22_code 19 = .ok (.if_icmp .le 40, 3) := by decide +kernel
theorem dd_Chart_onlySplit_22 : decode prog_2_method_22_code 22 = .ok (.aload_n 0, 1) := by decide +kernel
theorem dd_Chart_onlySplit_23 : decode prog_2_method_22_code 23 = .ok (.iload_n 2, 1) := by decide +kernel
theorem dd_Chart_onlySplit_24 : decode prog_2_method_22_code 24 = .ok (.iload 5, 2) := by decide +kernel
theorem dd_Chart_onlySplit_26 : decode prog_2_method_22_code 26 = .ok (.iload_n 1, 1) := by decide +kernel
theorem dd_Chart_onlySplit_27 : decode prog_2_method_22_code 27 = .ok (.invokevirtual 78, 3) := by decide +kernel
theorem dd_Chart_onlySplit_30 : decode prog_2_method_22_code 30 = .ok (.ifCond .eq 23, 3) := by decide +kernel
theorem dd_Chart_onlySplit_33 : decode prog_2_method_22_code 33 = .ok (.aload_n 0, 1) := by decide +kernel
theorem dd_Chart_onlySplit_34 : decode prog_2_method_22_code 34 = .ok (.getfield 18, 3) := by decide +kernel
theorem dd_Chart_onlySplit_37 : decode prog_2_method_22_code 37 = .ok (.aload_n 0, 1) := by decide +kernel
theorem dd_Chart_onlySplit_38 : decode prog_2_method_22_code 38 = .ok (.iload 5, 2) := by decide +kernel
theorem dd_Chart_onlySplit_40 : decode prog_2_method_22_code 40 = .ok (.iload_n 3, 1) := by decide +kernel
theorem dd_Chart_onlySplit_41 : decode prog_2_method_22_code 41 = .ok (.iload 4, 2) := by decide +kernel
theorem dd_Chart_onlySplit_43 : decode prog_2_method_22_code 43 = .ok (.invokevirtual 91, 3) := by decide +kernel
theorem dd_Chart_onlySplit_46 : decode prog_2_method_22_code 46 = .ok (.iaload, 1) := by decide +kernel
theorem dd_Chart_onlySplit_47 : decode prog_2_method_22_code 47 = .ok (.ifCond .le 6, 3) := by decide +kernel
theorem dd_Chart_onlySplit_50 : decode prog_2_method_22_code 50 = .ok (.iload 5, 2) := by decide +kernel
theorem dd_Chart_onlySplit_52 : decode prog_2_method_22_code 52 = .ok (.ireturn, 1) := by decide +kernel
theorem dd_Chart_onlySplit_53 : decode prog_2_method_22_code 53 = .ok (.iinc 5 (-1), 3) := by decide +kernel
theorem dd_Chart_onlySplit_56 : decode prog_2_method_22_code 56 = .ok (.goto (-40), 3) := by decide +kernel
theorem dd_Chart_onlySplit_59 : decode prog_2_method_22_code 59 = .ok (.iload_n 2, 1) := by decide +kernel
theorem dd_Chart_onlySplit_60 : decode prog_2_method_22_code 60 = .ok (.ireturn, 1) := by decide +kernel
theorem dd_Chart_predict_0 : decode prog_2_method_11_code 0 = .ok (.iload_n 2, 1) := by decide +kernel
theorem dd_Chart_predict_1 : decode prog_2_method_11_code 1 = .ok (.istore_n 3, 1) := by decide +kernel
theorem dd_Chart_predict_2 : decode prog_2_method_11_code 2 = .ok (.iconst 1, 1) := by decide +kernel
theorem dd_Chart_predict_3 : decode prog_2_method_11_code 3 = .ok (.istore 4, 2) := by decide +kernel
theorem dd_Chart_predict_5 : decode prog_2_method_11_code 5 = .ok (.iconst 0, 1) := by decide +kernel
theorem dd_Chart_predict_6 : decode prog_2_method_11_code 6 = .ok (.istore 5, 2) := by decide +kernel
theorem dd_Chart_predict_8 : decode prog_2_method_11_code 8 = .ok (.iload 5, 2) := by decide +kernel
theorem dd_Chart_predict_10 : decode prog_2_method_11_code 10 = .ok (.bipush 10, 2) := by decide +kernel
theorem dd_Chart_predict_12 : decode prog_2_method_11_code 12 = .ok (.if_icmp .gt 37, 3) := by decide +kernel
theorem dd_Chart_predict_15 : decode prog_2_method_11_code 15 = .ok (.iload 4, 2) := by decide +kernel
theorem dd_Chart_predict_17 : decode prog_2_method_11_code 17 = .ok (.ifCond .eq 32, 3) := by decide +kernel
theorem dd_Chart_predict_20 : decode prog_2_method_11_code 20 = .ok (.iload_n 3, 1) := by decide +kernel
theorem dd_Chart_predict_21 : decode prog_2_method_11_code 21 = .ok (.istore 6, 2) := by decide +kernel
theorem dd_Chart_predict_23 : decode prog_2_method_11_code 23 = .ok (.aload_n 0, 1) := by decide +kernel
theorem dd_Chart_predict_24 : decode prog_2_method_11_code 24 = .ok (.iload 6, 2) := by decide +kernel
theorem dd_Chart_predict_26 : decode prog_2_method_11_code 26 = .ok (.invokevirtual 85, 3) := by decide +kernel
theorem dd_Chart_predict_29 : decode prog_2_method_11_code 29 = .ok (.istore_n 3, 1) := by decide +kernel
theorem dd_Chart_predict_30 : decode prog_2_method_11_code 30 = .ok (.iload_n 3, 1) := by decide +kernel
theorem dd_Chart_predict_31 : decode prog_2_method_11_code 31 = .ok (.iload 6, 2) := by decide +kernel
theorem dd_Chart_predict_33 : decode prog_2_method_11_code 33 = .ok (.if_icmp .ge 7, 3) := by decide +kernel
theorem dd_Chart_predict_36 : decode prog_2_method_11_code 36 = .ok (.iconst 1, 1) := by decide +kernel
theorem dd_Chart_predict_37 : decode prog_2_method_11_code 37 = .ok (.goto 4, 3) := by decide +kernel
theorem dd_Chart_predict_40 : decode prog_2_method_11_code 40 = .ok (.iconst 0, 1) := by decide +kernel
theorem dd_Chart_predict_41 : decode prog_2_method_11_code 41 = .ok (.istore 4, 2) := by decide +kernel
theorem dd_Chart_predict_43 : decode prog_2_method_11_code 43 = .ok (.iinc 5 1, 3) := by decide +kernel
theorem dd_Chart_predict_46 : decode prog_2_method_11_code 46 = .ok (.goto (-38), 3) := by decide +kernel
theorem dd_Chart_predict_49 : decode prog_2_method_11_code 49 = .ok (.iconst 0, 1) := by decide +kernel
theorem dd_Chart_predict_50 : decode prog_2_method_11_code 50 = .ok (.istore 5, 2) := by decide +kernel
theorem dd_Chart_predict_52 : decode prog_2_method_11_code 52 = .ok (.iload 5, 2) := by decide +kernel
theorem dd_Chart_predict_54 : decode prog_2_method_11_code 54 = .ok (.aload_n 0, 1) := by decide +kernel
theorem dd_Chart_predict_55 : decode prog_2_method_11_code 55 = .ok (.getfield 21, 3) := by decide +kernel
theorem dd_Chart_predict_58 : decode prog_2_method_11_code 58 = .ok (.getfield 68, 3) := by decide +kernel
theorem dd_Chart_predict_61 : decode prog_2_method_11_code 61 = .ok (.if_icmp .ge 41, 3) := by decide +kernel
theorem dd_Chart_predict_64 : decode prog_2_method_11_code 64 = .ok (.aload_n 0, 1) := by decide +kernel
theorem dd_Chart_predict_65 : decode prog_2_method_11_code 65 = .ok (.getfield 21, 3) := by decide +kernel
theorem dd_Chart_predict_68 : decode prog_2_method_11_code 68 = .ok (.getfield 72, 3) := by decide +kernel
theorem dd_Chart_predict_71 : decode prog_2_method_11_code 71 = .ok (.iload 5, 2) := by decide +kernel
theorem dd_Chart_predict_73 : decode prog_2_method_11_code 73 = .ok (.iaload, 1) := by decide +kernel
theorem dd_Chart_predict_74 : decode prog_2_method_11_code 74 = .ok (.iload_n 3, 1) := by decide +kernel
theorem dd_Chart_predict_75 : decode prog_2_method_11_code 75 = .ok (.if_icmp .lt 21, 3) := by decide +kernel
theorem dd_Chart_predict_78 : decode prog_2_method_11_code 78 = .ok (.aload_n 0, 1) := by decide +kernel
theorem dd_Chart_predict_79 : decode prog_2_method_11_code 79 = .ok (.getfield 9, 3) := by decide +kernel
theorem dd_Chart_predict_82 : decode prog_2_method_11_code 82 = .ok (.iload_n 1, 1) := by decide +kernel
theorem dd_Chart_predict_83 : decode prog_2_method_11_code 83 = .ok (.bipush 98, 2) := by decide +kernel
theorem dd_Chart_predict_85 : decode prog_2_method_11_code 85 = .ok (.imul, 1) := by decide +kernel
theorem dd_Chart_predict_86 : decode prog_2_method_11_code 86 = .ok (.iload 5, 2) := by decide +kernel
theorem dd_Chart_predict_88 : decode prog_2_method_11_code 88 = .ok (.bipush 7, 2) := by decide +kernel
theorem dd_Chart_predict_90 : decode prog_2_method_11_code 90 = .ok (.imul, 1) := by decide +kernel
theorem dd_Chart_predict_91 : decode prog_2_method_11_code 91 = .ok (.iadd, 1) := by decide +kernel
theorem dd_Chart_predict_92 : decode prog_2_method_11_code 92 = .ok (.iconst 1, 1) := by decide +kernel
theorem dd_Chart_predict_93 : decode prog_2_method_11_code 93 = .ok (.iload_n 1, 1) := by decide +kernel
theorem dd_Chart_predict_94 : decode prog_2_method_11_code 94 = .ok (.ishl, 1) := by decide +kernel
theorem dd_Chart_predict_95 : decode prog_2_method_11_code 95 = .ok (.iastore, 1) := by decide +kernel
theorem dd_Chart_predict_96 : decode prog_2_method_11_code 96 = .ok (.iinc 5 1, 3) := by decide +kernel
theorem dd_Chart_predict_99 : decode prog_2_method_11_code 99 = .ok (.goto (-47), 3) := by decide +kernel
theorem dd_Chart_predict_102 : decode prog_2_method_11_code 102 = .ok (.return_, 1) := by decide +kernel
theorem dd_Chart_scan_0 : decode prog_2_method_6_code 0 = .ok (.iload_n 1, 1) := by decide +kernel
theorem dd_Chart_scan_1 : decode prog_2_method_6_code 1 = .ok (.bipush 98, 2) := by decide +kernel
theorem dd_Chart_scan_3 : decode prog_2_method_6_code 3 = .ok (.imul, 1) := by decide +kernel
theorem dd_Chart_scan_4 : decode prog_2_method_6_code 4 = .ok (.istore 4, 2) := by decide +kernel
theorem dd_Chart_scan_6 : decode prog_2_method_6_code 6 = .ok (.iload 4, 2) := by decide +kernel
theorem dd_Chart_scan_8 : decode prog_2_method_6_code 8 = .ok (.bipush 98, 2) := by decide +kernel
theorem dd_Chart_scan_10 : decode prog_2_method_6_code 10 = .ok (.iadd, 1) := by decide +kernel
theorem dd_Chart_scan_11 : decode prog_2_method_6_code 11 = .ok (.istore 5, 2) := by decide +kernel
theorem dd_Chart_scan_13 : decode prog_2_method_6_code 13 = .ok (.iconst 0, 1) := by decide +kernel
theorem dd_Chart_scan_14 : decode prog_2_method_6_code 14 = .ok (.istore 6, 2) := by decide +kernel
theorem dd_Chart_scan_16 : decode prog_2_method_6_code 16 = .ok (.iconst 0, 1) := by decide +kernel
theorem dd_Chart_scan_17 : decode prog_2_method_6_code 17 = .ok (.istore 7, 2) := by decide +kernel
theorem dd_Chart_scan_19 : decode prog_2_method_6_code 19 = .ok (.iload 7, 2) := by decide +kernel
theorem dd_Chart_scan_21 : decode prog_2_method_6_code 21 = .ok (.aload_n 0, 1) := by decide +kernel
theorem dd_Chart_scan_22 : decode prog_2_method_6_code 22 = .ok (.getfield 21, 3) := by decide +kernel
theorem dd_Chart_scan_25 : decode prog_2_method_6_code 25 = .ok (.invokevirtual 54, 3) := by decide +kernel
theorem dd_Chart_scan_28 : decode prog_2_method_6_code 28 = .ok (.if_icmp .ge 62, 3) := by decide +kernel
theorem dd_Chart_scan_31 : decode prog_2_method_6_code 31 = .ok (.aload_n 0, 1) := by decide +kernel
theorem dd_Chart_scan_32 : decode prog_2_method_6_code 32 = .ok (.getfield 9, 3) := by decide +kernel
theorem dd_Chart_scan_35 : decode prog_2_method_6_code 35 = .ok (.iload 4, 2) := by decide +kernel
theorem dd_Chart_scan_37 : decode prog_2_method_6_code 37 = .ok (.iload 7, 2) := by decide +kernel
theorem dd_Chart_scan_39 : decode prog_2_method_6_code 39 = .ok (.iadd, 1) := by decide +kernel
theorem dd_Chart_scan_40 : decode prog_2_method_6_code 40 = .ok (.iaload, 1) := by decide +kernel
theorem dd_Chart_scan_41 : decode prog_2_method_6_code 41 = .ok (.ifCond .eq 43, 3) := by decide +kernel
theorem dd_Chart_scan_44 : decode prog_2_method_6_code 44 = .ok (.aload_n 0, 1) := by decide +kernel
theorem dd_Chart_scan_45 : decode prog_2_method_6_code 45 = .ok (.getfield 21, 3) := by decide +kernel
theorem dd_Chart_scan_48 : decode prog_2_method_6_code 48 = .ok (.getfield 60, 3) := by decide +kernel
theorem dd_Chart_scan_51 : decode prog_2_method_6_code 51 = .ok (.iload 7, 2) := by decide +kernel
theorem dd_Chart_scan_53 : decode prog_2_method_6_code 53 = .ok (.laload, 1) := by decide +kernel
theorem dd_Chart_scan_54 : decode prog_2_method_6_code 54 = .ok (.lload_n 2, 1) := by decide +kernel
theorem dd_Chart_scan_55 : decode prog_2_method_6_code 55 = .ok (.lcmp, 1) := by decide +kernel
theorem dd_Chart_scan_56 : decode prog_2_method_6_code 56 = .ok (.ifCond .ne 28, 3) := by decide +kernel
theorem dd_Chart_scan_59 : decode prog_2_method_6_code 59 = .ok (.aload_n 0, 1) := by decide +kernel
theorem dd_Chart_scan_60 : decode prog_2_method_6_code 60 = .ok (.getfield 9, 3) := by decide +kernel
theorem dd_Chart_scan_63 : decode prog_2_method_6_code 63 = .ok (.iload 5, 2) := by decide +kernel
theorem dd_Chart_scan_65 : decode prog_2_method_6_code 65 = .ok (.iload 7, 2) := by decide +kernel
theorem dd_Chart_scan_67 : decode prog_2_method_6_code 67 = .ok (.iadd, 1) := by decide +kernel
theorem dd_Chart_scan_68 : decode prog_2_method_6_code 68 = .ok (.iconst 1, 1) := by decide +kernel
theorem dd_Chart_scan_69 : decode prog_2_method_6_code 69 = .ok (.iadd, 1) := by decide +kernel
theorem dd_Chart_scan_70 : decode prog_2_method_6_code 70 = .ok (.aload_n 0, 1) := by decide +kernel
theorem dd_Chart_scan_71 : decode prog_2_method_6_code 71 = .ok (.getfield 9, 3) := by decide +kernel
theorem dd_Chart_scan_74 : decode prog_2_method_6_code 74 = .ok (.iload 4, 2) := by decide +kernel
theorem dd_Chart_scan_76 : decode prog_2_method_6_code 76 = .ok (.iload 7, 2) := by decide +kernel
theorem dd_Chart_scan_78 : decode prog_2_method_6_code 78 = .ok (.iadd, 1) := by decide +kernel
theorem dd_Chart_scan_79 : decode prog_2_method_6_code 79 = .ok (.iaload, 1) := by decide +kernel
