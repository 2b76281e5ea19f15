theorem dd_Tree_await_0 : decode prog_7_method_4_code 0 = .ok (.aload_n 0, 1) := by decide +kernel
theorem dd_Tree_await_1 : decode prog_7_method_4_code 1 = .ok (.getfield 34, 3) := by decide +kernel
theorem dd_Tree_await_4 : decode prog_7_method_4_code 4 = .ok (.bipush 30, 2) := by decide +kernel
theorem dd_Tree_await_6 : decode prog_7_method_4_code 6 = .ok (.if_icmp .ge 54, 3) := by decide +kernel
theorem dd_Tree_await_9 : decode prog_7_method_4_code 9 = .ok (.aload_n 0, 1) := by decide +kernel
theorem dd_Tree_await_10 : decode prog_7_method_4_code 10 = .ok (.getfield 37, 3) := by decide +kernel
theorem dd_Tree_await_13 : decode prog_7_method_4_code 13 = .ok (.aload_n 0, 1) := by decide +kernel
theorem dd_Tree_await_14 : decode prog_7_method_4_code 14 = .ok (.getfield 34, 3) := by decide +kernel
theorem dd_Tree_await_17 : decode prog_7_method_4_code 17 = .ok (.iload_n 1, 1) := by decide +kernel
theorem dd_Tree_await_18 : decode prog_7_method_4_code 18 = .ok (.iastore, 1) := by decide +kernel
theorem dd_Tree_await_19 : decode prog_7_method_4_code 19 = .ok (.aload_n 0, 1) := by decide +kernel
theorem dd_Tree_await_20 : decode prog_7_method_4_code 20 = .ok (.getfield 40, 3) := by decide +kernel
theorem dd_Tree_await_23 : decode prog_7_method_4_code 23 = .ok (.aload_n 0, 1) := by decide +kernel
theorem dd_Tree_await_24 : decode prog_7_method_4_code 24 = .ok (.getfield 34, 3) := by decide +kernel
theorem dd_Tree_await_27 : decode prog_7_method_4_code 27 = .ok (.iload_n 2, 1) := by decide +kernel
theorem dd_Tree_await_28 : decode prog_7_method_4_code 28 = .ok (.iastore, 1) := by decide +kernel
theorem dd_Tree_await_29 : decode prog_7_method_4_code 29 = .ok (.aload_n 0, 1) := by decide +kernel
theorem dd_Tree_await_30 : decode prog_7_method_4_code 30 = .ok (.getfield 43, 3) := by decide +kernel
theorem dd_Tree_await_33 : decode prog_7_method_4_code 33 = .ok (.aload_n 0, 1) := by decide +kernel
theorem dd_Tree_await_34 : decode prog_7_method_4_code 34 = .ok (.getfield 34, 3) := by decide +kernel
theorem dd_Tree_await_37 : decode prog_7_method_4_code 37 = .ok (.iload_n 3, 1) := by decide +kernel
theorem dd_Tree_await_38 : decode prog_7_method_4_code 38 = .ok (.iastore, 1) := by decide +kernel
theorem dd_Tree_await_39 : decode prog_7_method_4_code 39 = .ok (.aload_n 0, 1) := by decide +kernel
theorem dd_Tree_await_40 : decode prog_7_method_4_code 40 = .ok (.getfield 46, 3) := by decide +kernel
theorem dd_Tree_await_43 : decode prog_7_method_4_code 43 = .ok (.aload_n 0, 1) := by decide +kernel
theorem dd_Tree_await_44 : decode prog_7_method_4_code 44 = .ok (.getfield 34, 3) := by decide +kernel
theorem dd_Tree_await_47 : decode prog_7_method_4_code 47 = .ok (.iload 4, 2) := by decide +kernel
theorem dd_Tree_await_49 : decode prog_7_method_4_code 49 = .ok (.iastore, 1) := by decide +kernel
theorem dd_Tree_await_50 : decode prog_7_method_4_code 50 = .ok (.aload_n 0, 1) := by decide +kernel
theorem dd_Tree_await_51 : decode prog_7_method_4_code 51 = .ok (.dup, 1) := by decide +kernel
theorem dd_Tree_await_52 : decode prog_7_method_4_code 52 = .ok (.getfield 34, 3) := by decide +kernel
theorem dd_Tree_await_55 : decode prog_7_method_4_code 55 = .ok (.iconst 1, 1) := by decide +kernel
theorem dd_Tree_await_56 : decode prog_7_method_4_code 56 = .ok (.iadd, 1) := by decide +kernel
theorem dd_Tree_await_57 : decode prog_7_method_4_code 57 = .ok (.putfield 34, 3) := by decide +kernel
theorem dd_Tree_await_60 : decode prog_7_method_4_code 60 = .ok (.return_, 1) := by decide +kernel
theorem dd_Tree_awaitHoles_0 : decode prog_7_method_6_code 0 = .ok (.aload_n 0, 1) := by decide +kernel
theorem dd_Tree_awaitHoles_1 : decode prog_7_method_6_code 1 = .ok (.getfield 15, 3) := by decide +kernel
theorem dd_Tree_awaitHoles_4 : decode prog_7_method_6_code 4 = .ok (.iload_n 1, 1) := by decide +kernel
theorem dd_Tree_awaitHoles_5 : decode prog_7_method_6_code 5 = .ok (.iaload, 1) := by decide +kernel
theorem dd_Tree_awaitHoles_6 : decode prog_7_method_6_code 6 = .ok (.bipush 7, 2) := by decide +kernel
theorem dd_Tree_awaitHoles_8 : decode prog_7_method_6_code 8 = .ok (.imul, 1) := by decide +kernel
theorem dd_Tree_awaitHoles_9 : decode prog_7_method_6_code 9 = .ok (.istore 4, 2) := by decide +kernel
theorem dd_Tree_awaitHoles_11 : decode prog_7_method_6_code 11 = .ok (.iconst 0, 1) := by decide +kernel
theorem dd_Tree_awaitHoles_12 : decode prog_7_method_6_code 12 = .ok (.istore 5, 2) := by decide +kernel
theorem dd_Tree_awaitHoles_14 : decode prog_7_method_6_code 14 = .ok (.iload_n 3, 1) := by decide +kernel
theorem dd_Tree_awaitHoles_15 : decode prog_7_method_6_code 15 = .ok (.istore 6, 2) := by decide +kernel
theorem dd_Tree_awaitHoles_17 : decode prog_7_method_6_code 17 = .ok (.aload_n 0, 1) := by decide +kernel
theorem dd_Tree_awaitHoles_18 : decode prog_7_method_6_code 18 = .ok (.getfield 49, 3) := by decide +kernel
theorem dd_Tree_awaitHoles_21 : decode prog_7_method_6_code 21 = .ok (.aload_n 0, 1) := by decide +kernel
theorem dd_Tree_awaitHoles_22 : decode prog_7_method_6_code 22 = .ok (.getfield 15, 3) := by decide +kernel
theorem dd_Tree_awaitHoles_25 : decode prog_7_method_6_code 25 = .ok (.iload_n 1, 1) := by decide +kernel
theorem dd_Tree_awaitHoles_26 : decode prog_7_method_6_code 26 = .ok (.iaload, 1) := by decide +kernel
theorem dd_Tree_awaitHoles_27 : decode prog_7_method_6_code 27 = .ok (.invokevirtual 74, 3) := by decide +kernel
theorem dd_Tree_awaitHoles_30 : decode prog_7_method_6_code 30 = .ok (.iconst 1, 1) := by decide +kernel
theorem dd_Tree_awaitHoles_31 : decode prog_7_method_6_code 31 = .ok (.isub, 1) := by decide +kernel
theorem dd_Tree_awaitHoles_32 : decode prog_7_method_6_code 32 = .ok (.istore 7, 2) := by decide +kernel
theorem dd_Tree_awaitHoles_34 : decode prog_7_method_6_code 34 = .ok (.iload 7, 2) := by decide +kernel
theorem dd_Tree_awaitHoles_36 : decode prog_7_method_6_code 36 = .ok (.iload 4, 2) := by decide +kernel
theorem dd_Tree_awaitHoles_38 : decode prog_7_method_6_code 38 = .ok (.if_icmp .lt 72, 3) := by decide +kernel
theorem dd_Tree_awaitHoles_41 : decode prog_7_method_6_code 41 = .ok (.aload_n 0, 1) := by decide +kernel
theorem dd_Tree_awaitHoles_42 : decode prog_7_method_6_code 42 = .ok (.getfield 49, 3) := by decide +kernel
theorem dd_Tree_awaitHoles_45 : decode prog_7_method_6_code 45 = .ok (.getfield 80, 3) := by decide +kernel
theorem dd_Tree_awaitHoles_48 : decode prog_7_method_6_code 48 = .ok (.iload 7, 2) := by decide +kernel
theorem dd_Tree_awaitHoles_50 : decode prog_7_method_6_code 50 = .ok (.iaload, 1) := by decide +kernel
theorem dd_Tree_awaitHoles_51 : decode prog_7_method_6_code 51 = .ok (.istore 8, 2) := by decide +kernel
theorem dd_Tree_awaitHoles_53 : decode prog_7_method_6_code 53 = .ok (.iload 8, 2) := by decide +kernel
theorem dd_Tree_awaitHoles_55 : decode prog_7_method_6_code 55 = .ok (.iconst (-1), 1) := by decide +kernel
theorem dd_Tree_awaitHoles_56 : decode prog_7_method_6_code 56 = .ok (.if_icmp .ne 10, 3) := by decide +kernel
theorem dd_Tree_awaitHoles_59 : decode prog_7_method_6_code 59 = .ok (.iload 6, 2) := by decide +kernel
theorem dd_Tree_awaitHoles_61 : decode prog_7_method_6_code 61 = .ok (.iconst 1, 1) := by decide +kernel
theorem dd_Tree_awaitHoles_62 : decode prog_7_method_6_code 62 = .ok (.isub, 1) := by decide +kernel
theorem dd_Tree_awaitHoles_63 : decode prog_7_method_6_code 63 = .ok (.goto 15, 3) := by decide +kernel
theorem dd_Tree_awaitHoles_66 : decode prog_7_method_6_code 66 = .ok (.aload_n 0, 1) := by decide +kernel
theorem dd_Tree_awaitHoles_67 : decode prog_7_method_6_code 67 = .ok (.getfield 53, 3) := by decide +kernel
theorem dd_Tree_awaitHoles_70 : decode prog_7_method_6_code 70 = .ok (.iload 7, 2) := by decide +kernel
theorem dd_Tree_awaitHoles_72 : decode prog_7_method_6_code 72 = .ok (.iload_n 2, 1) := by decide +kernel
theorem dd_Tree_awaitHoles_73 : decode prog_7_method_6_code 73 = .ok (.iload 6, 2) := by decide +kernel
theorem dd_Tree_awaitHoles_75 : decode prog_7_method_6_code 75 = .ok (.invokevirtual 83, 3) := by decide +kernel
theorem dd_Tree_awaitHoles_78 : decode prog_7_method_6_code 78 = .ok (.istore 9, 2) := by decide +kernel
theorem dd_Tree_awaitHoles_80 : decode prog_7_method_6_code 80 = .ok (.iload 8, 2) := by decide +kernel
theorem dd_Tree_awaitHoles_82 : decode prog_7_method_6_code 82 = .ok (.iconst (-1), 1) := by decide +kernel
theorem dd_Tree_awaitHoles_83 : decode prog_7_method_6_code 83 = .ok (.if_icmp .eq 17, 3) := by decide +kernel
theorem dd_Tree_awaitHoles_86 : decode prog_7_method_6_code 86 = .ok (.aload_n 0, 1) := by decide +kernel
theorem dd_Tree_awaitHoles_87 : decode prog_7_method_6_code 87 = .ok (.iload 9, 2) := by decide +kernel
theorem dd_Tree_awaitHoles_89 : decode prog_7_method_6_code 89 = .ok (.iload 6, 2) := by decide +kernel
theorem dd_Tree_awaitHoles_91 : decode prog_7_method_6_code 91 = .ok (.iload 8, 2) := by decide +kernel
theorem dd_Tree_awaitHoles_93 : decode prog_7_method_6_code 93 = .ok (.iload_n 1, 1) := by decide +kernel
theorem dd_Tree_awaitHoles_94 : decode prog_7_method_6_code 94 = .ok (.invokevirtual 57, 3) := by decide +kernel
theorem dd_Tree_awaitHoles_97 : decode prog_7_method_6_code 97 = .ok (.iinc 5 1, 3) := by decide +kernel
theorem dd_Tree_awaitHoles_100 : decode prog_7_method_6_code 100 = .ok (.iload 9, 2) := by decide +kernel
theorem dd_Tree_awaitHoles_102 : decode prog_7_method_6_code 102 = .ok (.istore 6, 2) := by decide +kernel
theorem dd_Tree_awaitHoles_104 : decode prog_7_method_6_code 104 = .ok (.iinc 7 (-1), 3) := by decide +kernel
theorem dd_Tree_awaitHoles_107 : decode prog_7_method_6_code 107 = .ok (.goto (-73), 3) := by decide +kernel
theorem dd_Tree_awaitHoles_110 : decode prog_7_method_6_code 110 = .ok (.iload 5, 2) := by decide +kernel
theorem dd_Tree_awaitHoles_112 : decode prog_7_method_6_code 112 = .ok (.ireturn, 1) := by decide +kernel
theorem dd_Tree_fell_0 : decode prog_7_method_2_code 0 = .ok (.aload_n 0, 1) := by decide +kernel
theorem dd_Tree_fell_1 : decode prog_7_method_2_code 1 = .ok (.iconst 0, 1) := by decide +kernel
theorem dd_Tree_fell_2 : decode prog_7_method_2_code 2 = .ok (.putfield 9, 3) := by decide +kernel
theorem dd_Tree_fell_5 : decode prog_7_method_2_code 5 = .ok (.return_, 1) := by decide +kernel
theorem dd_Tree_grow_0 : decode prog_7_method_3_code 0 = .ok (.aload_n 0, 1) := by decide +kernel
theorem dd_Tree_grow_1 : decode prog_7_method_3_code 1 = .ok (.iconst 0, 1) := by decide +kernel
theorem dd_Tree_grow_2 : decode prog_7_method_3_code 2 = .ok (.putfield 9, 3) := by decide +kernel
theorem dd_Tree_grow_5 : decode prog_7_method_3_code 5 = .ok (.aload_n 0, 1) := by decide +kernel
theorem dd_Tree_grow_6 : decode prog_7_method_3_code 6 = .ok (.iconst 0, 1) := by decide +kernel
theorem dd_Tree_grow_7 : decode prog_7_method_3_code 7 = .ok (.putfield 34, 3) := by decide +kernel
theorem dd_Tree_grow_10 : decode prog_7_method_3_code 10 = .ok (.aload_n 0, 1) := by decide +kernel
theorem dd_Tree_grow_11 : decode prog_7_method_3_code 11 = .ok (.iconst 0, 1) := by decide +kernel
theorem dd_Tree_grow_12 : decode prog_7_method_3_code 12 = .ok (.iload_n 1, 1) := by decide +kernel
theorem dd_Tree_grow_13 : decode prog_7_method_3_code 13 = .ok (.iconst 0, 1) := by decide +kernel
theorem dd_Tree_grow_14 : decode prog_7_method_3_code 14 = .ok (.iconst (-1), 1) := by decide +kernel
theorem dd_Tree_grow_15 : decode prog_7_method_3_code 15 = .ok (.invokevirtual 57, 3) := by decide +kernel
theorem dd_Tree_grow_18 : decode prog_7_method_3_code 18 = .ok (.iconst 0, 1) := by decide +kernel
theorem dd_Tree_grow_19 : decode prog_7_method_3_code 19 = .ok (.istore_n 2, 1) := by decide +kernel
theorem dd_Tree_grow_20 : decode prog_7_method_3_code 20 = .ok (.iload_n 2, 1) := by decide +kernel
theorem dd_Tree_grow_21 : decode prog_7_method_3_code 21 = .ok (.bipush 30, 2) := by decide +kernel
theorem dd_Tree_grow_23 : decode prog_7_method_3_code 23 = .ok (.if_icmp .ge 59, 3) := by decide +kernel
theorem dd_Tree_grow_26 : decode prog_7_method_3_code 26 = .ok (.aload_n 0, 1) := by decide +kernel
theorem dd_Tree_grow_27 : decode prog_7_method_3_code 27 = .ok (.getfield 34, 3) := by decide +kernel
theorem dd_Tree_grow_30 : decode prog_7_method_3_code 30 = .ok (.ifCond .le 52, 3) := by decide +kernel
theorem dd_Tree_grow_33 : decode prog_7_method_3_code 33 = .ok (.aload_n 0, 1) := by decide +kernel
theorem dd_Tree_grow_34 : decode prog_7_method_3_code 34 = .ok (.dup, 1) := by decide +kernel
theorem dd_Tree_grow_35 : decode prog_7_method_3_code 35 = .ok (.getfield 34, 3) := by decide +kernel
theorem dd_Tree_grow_38 : decode prog_7_method_3_code 38 = .ok (.iconst 1, 1) := by decide +kernel
theorem dd_Tree_grow_39 : decode prog_7_method_3_code 39 = .ok (.isub, 1) := by decide +kernel
theorem dd_Tree_grow_40 : decode prog_7_method_3_code 40 = .ok (.putfield 34, 3) := by decide +kernel
theorem dd_Tree_grow_43 : decode prog_7_method_3_code 43 = .ok (.aload_n 0, 1) := by decide +kernel
theorem dd_Tree_grow_44 : decode prog_7_method_3_code 44 = .ok (.iload_n 2, 1) := by decide +kernel
theorem dd_Tree_grow_45 : decode prog_7_method_3_code 45 = .ok (.aload_n 0, 1) := by decide +kernel
theorem dd_Tree_grow_46 : decode prog_7_method_3_code 46 = .ok (.getfield 37, 3) := by decide +kernel
theorem dd_Tree_grow_49 : decode prog_7_method_3_code 49 = .ok (.aload_n 0, 1) := by decide +kernel
theorem dd_Tree_grow_50 : decode prog_7_method_3_code 50 = .ok (.getfield 34, 3) := by decide +kernel
theorem dd_Tree_grow_53 : decode prog_7_method_3_code 53 = .ok (.iaload, 1) := by decide +kernel
theorem dd_Tree_grow_54 : decode prog_7_method_3_code 54 = .ok (.aload_n 0, 1) := by decide +kernel
theorem dd_Tree_grow_55 : decode prog_7_method_3_code 55 = .ok (.getfield 40, 3) := by decide +kernel
theorem dd_Tree_grow_58 : decode prog_7_method_3_code 58 = .ok (.aload_n 0, 1) := by decide +kernel
theorem dd_Tree_grow_59 : decode prog_7_method_3_code 59 = .ok (.getfield 34, 3) := by decide +kernel
theorem dd_Tree_grow_62 : decode prog_7_method_3_code 62 = .ok (.iaload, 1) := by decide +kernel
theorem dd_Tree_grow_63 : decode prog_7_method_3_code 63 = .ok (.invokevirtual 61, 3) := by decide +kernel
theorem dd_Tree_grow_66 : decode prog_7_method_3_code 66 = .ok (.aload_n 0, 1) := by decide +kernel
theorem dd_Tree_grow_67 : decode prog_7_method_3_code 67 = .ok (.dup, 1) := by decide +kernel
theorem dd_Tree_grow_68 : decode prog_7_method_3_code 68 = .ok (.getfield 9, 3) := by decide +kernel
theorem dd_Tree_grow_71 : decode prog_7_method_3_code 71 = .ok (.iconst 1, 1) := by decide +kernel
theorem dd_Tree_grow_72 : decode prog_7_method_3_code 72 = .ok (.iadd, 1) := by decide +kernel
theorem dd_Tree_grow_73 : decode prog_7_method_3_code 73 = .ok (.putfield 9, 3) := by decide +kernel
theorem dd_Tree_grow_76 : decode prog_7_method_3_code 76 = .ok (.iinc 2 1, 3) := by decide +kernel
theorem dd_Tree_grow_79 : decode prog_7_method_3_code 79 = .ok (.goto (-59), 3) := by decide +kernel
theorem dd_Tree_grow_82 : decode prog_7_method_3_code 82 = .ok (.return_, 1) := by decide +kernel
theorem dd_Tree_growNode_0 : decode prog_7_method_5_code 0 = .ok (.aload_n 0, 1) := by decide +kernel
theorem dd_Tree_growNode_1 : decode prog_7_method_5_code 1 = .ok (.getfield 15, 3) := by decide +kernel
theorem dd_Tree_growNode_4 : decode prog_7_method_5_code 4 = .ok (.iload_n 1, 1) := by decide +kernel
theorem dd_Tree_growNode_5 : decode prog_7_method_5_code 5 = .ok (.aload_n 0, 1) := by decide +kernel
theorem dd_Tree_growNode_6 : decode prog_7_method_5_code 6 = .ok (.getfield 53, 3) := by decide +kernel
theorem dd_Tree_growNode_9 : decode prog_7_method_5_code 9 = .ok (.iload_n 2, 1) := by decide +kernel
theorem dd_Tree_growNode_10 : decode prog_7_method_5_code 10 = .ok (.iload_n 3, 1) := by decide +kernel
theorem dd_Tree_growNode_11 : decode prog_7_method_5_code 11 = .ok (.aload_n 0, 1) := by decide +kernel
theorem dd_Tree_growNode_12 : decode prog_7_method_5_code 12 = .ok (.getfield 43, 3) := by decide +kernel
theorem dd_Tree_growNode_15 : decode prog_7_method_5_code 15 = .ok (.aload_n 0, 1) := by decide +kernel
theorem dd_Tree_growNode_16 : decode prog_7_method_5_code 16 = .ok (.getfield 34, 3) := by decide +kernel
theorem dd_Tree_growNode_19 : decode prog_7_method_5_code 19 = .ok (.iaload, 1) := by decide +kernel
theorem dd_Tree_growNode_20 : decode prog_7_method_5_code 20 = .ok (.invokevirtual 65, 3) := by decide +kernel
theorem dd_Tree_growNode_23 : decode prog_7_method_5_code 23 = .ok (.iastore, 1) := by decide +kernel
theorem dd_Tree_growNode_24 : decode prog_7_method_5_code 24 = .ok (.aload_n 0, 1) := by decide +kernel
theorem dd_Tree_growNode_25 : decode prog_7_method_5_code 25 = .ok (.getfield 22, 3) := by decide +kernel
theorem dd_Tree_growNode_28 : decode prog_7_method_5_code 28 = .ok (.iload_n 1, 1) := by decide +kernel
theorem dd_Tree_growNode_29 : decode prog_7_method_5_code 29 = .ok (.iload_n 2, 1) := by decide +kernel
theorem dd_Tree_growNode_30 : decode prog_7_method_5_code 30 = .ok (.iastore, 1) := by decide +kernel
theorem dd_Tree_growNode_31 : decode prog_7_method_5_code 31 = .ok (.aload_n 0, 1) := by decide +kernel
theorem dd_Tree_growNode_32 : decode prog_7_method_5_code 32 = .ok (.getfield 25, 3) := by decide +kernel
theorem dd_Tree_growNode_35 : decode prog_7_method_5_code 35 = .ok (.iload_n 1, 1) := by decide +kernel
theorem dd_Tree_growNode_36 : decode prog_7_method_5_code 36 = .ok (.iload_n 3, 1) := by decide +kernel
theorem dd_Tree_growNode_37 : decode prog_7_method_5_code 37 = .ok (.iload_n 2, 1) := by decide +kernel
theorem dd_Tree_growNode_38 : decode prog_7_method_5_code 38 = .ok (.isub, 1) := by decide +kernel
theorem dd_Tree_growNode_39 : decode prog_7_method_5_code 39 = .ok (.iastore, 1) := by decide +kernel
theorem dd_Tree_growNode_40 : decode prog_7_method_5_code 40 = .ok (.aload_n 0, 1) := by decide +kernel
theorem dd_Tree_growNode_41 : decode prog_7_method_5_code 41 = .ok (.getfield 28, 3) := by decide +kernel
theorem dd_Tree_growNode_44 : decode prog_7_method_5_code 44 = .ok (.iload_n 1, 1) := by decide +kernel
theorem dd_Tree_growNode_45 : decode prog_7_method_5_code 45 = .ok (.aload_n 0, 1) := by decide +kernel
theorem dd_Tree_growNode_46 : decode prog_7_method_5_code 46 = .ok (.getfield 46, 3) := by decide +kernel
theorem dd_Tree_growNode_49 : decode prog_7_method_5_code 49 = .ok (.aload_n 0, 1) := by decide +kernel
theorem dd_Tree_growNode_50 : decode prog_7_method_5_code 50 = .ok (.getfield 34, 3) := by decide +kernel
theorem dd_Tree_growNode_53 : decode prog_7_method_5_code 53 = .ok (.iaload, 1) := by decide +kernel
theorem dd_Tree_growNode_54 : decode prog_7_method_5_code 54 = .ok (.iastore, 1) := by decide +kernel
theorem dd_Tree_growNode_55 : decode prog_7_method_5_code 55 = .ok (.aload_n 0, 1) := by decide +kernel
theorem dd_Tree_growNode_56 : decode prog_7_method_5_code 56 = .ok (.getfield 31, 3) := by decide +kernel
theorem dd_Tree_growNode_59 : decode prog_7_method_5_code 59 = .ok (.iload_n 1, 1) := by decide +kernel
theorem dd_Tree_growNode_60 : decode prog_7_method_5_code 60 = .ok (.aload_n 0, 1) := by decide +kernel
theorem dd_Tree_growNode_61 : decode prog_7_method_5_code 61 = .ok (.getfield 43, 3) := by decide +kernel
theorem dd_Tree_growNode_64 : decode prog_7_method_5_code 64 = .ok (.aload_n 0, 1) := by decide +kernel
theorem dd_Tree_growNode_65 : decode prog_7_method_5_code 65 = .ok (.getfield 34, 3) := by decide +kernel
theorem dd_Tree_growNode_68 : decode prog_7_method_5_code 68 = .ok (.iaload, 1) := by decide +kernel
theorem dd_Tree_growNode_69 : decode prog_7_method_5_code 69 = .ok (.iastore, 1) := by decide +kernel
theorem dd_Tree_growNode_70 : decode prog_7_method_5_code 70 = .ok (.aload_n 0, 1) := by decide +kernel
theorem dd_Tree_growNode_71 : decode prog_7_method_5_code 71 = .ok (.getfield 19, 3) := by decide +kernel
theorem dd_Tree_growNode_74 : decode prog_7_method_5_code 74 = .ok (.iload_n 1, 1) := by decide +kernel
theorem dd_Tree_growNode_75 : decode prog_7_method_5_code 75 = .ok (.aload_n 0, 1) := by decide +kernel
theorem dd_Tree_growNode_76 : decode prog_7_method_5_code 76 = .ok (.iload_n 1, 1) := by decide +kernel
theorem dd_Tree_growNode_77 : decode prog_7_method_5_code 77 = .ok (.iload_n 2, 1) := by decide +kernel
theorem dd_Tree_growNode_78 : decode prog_7_method_5_code 78 = .ok (.iload_n 3, 1) := by decide +kernel
theorem dd_Tree_growNode_79 : decode prog_7_method_5_code 79 = .ok (.invokevirtual 71, 3) := by decide +kernel
theorem dd_Tree_growNode_82 : decode prog_7_method_5_code 82 = .ok (.iastore, 1) := by decide +kernel
theorem dd_Tree_growNode_83 : decode prog_7_method_5_code 83 = .ok (.return_, 1) := by decide +kernel
theorem dd_Tree_levelWithin_0 : decode prog_7_method_8_code 0 = .ok (.iload_n 1, 1) := by decide +kernel
theorem dd_Tree_levelWithin_1 : decode prog_7_method_8_code 1 = .ok (.istore_n 2, 1) := by decide +kernel
theorem dd_Tree_levelWithin_2 : decode prog_7_method_8_code 2 = .ok (.iload_n 2, 1) := by decide +kernel
theorem dd_Tree_levelWithin_3 : decode prog_7_method_8_code 3 = .ok (.aload_n 0, 1) := by decide +kernel
theorem dd_Tree_levelWithin_4 : decode prog_7_method_8_code 4 = .ok (.getfield 9, 3) := by decide +kernel
theorem dd_Tree_levelWithin_7 : decode prog_7_method_8_code 7 = .ok (.iconst 1, 1) := by decide +kernel
theorem dd_Tree_levelWithin_8 : decode prog_7_method_8_code 8 = .ok (.isub, 1) := by decide +kernel
theorem dd_Tree_levelWithin_9 : decode prog_7_method_8_code 9 = .ok (.if_icmp .ge 18, 3) := by decide +kernel
theorem dd_Tree_levelWithin_12 : decode prog_7_method_8_code 12 = .ok (.aload_n 0, 1) := by decide +kernel
theorem dd_Tree_levelWithin_13 : decode prog_7_method_8_code 13 = .ok (.getfield 15, 3) := by decide +kernel
theorem dd_Tree_levelWithin_16 : decode prog_7_method_8_code 16 = .ok (.iload_n 2, 1) := by decide +kernel
theorem dd_Tree_levelWithin_17 : decode prog_7_method_8_code 17 = .ok (.iaload, 1) := by decide +kernel
theorem dd_Tree_levelWithin_18 : decode prog_7_method_8_code 18 = .ok (.ifCond .ne 9, 3) := by decide +kernel
theorem dd_Tree_levelWithin_21 : decode prog_7_method_8_code 21 = .ok (.iinc 2 1, 3) := by decide +kernel
theorem dd_Tree_levelWithin_24 : decode prog_7_method_8_code 24 = .ok (.goto (-22), 3) := by decide +kernel
theorem dd_Tree_levelWithin_27 : decode prog_7_method_8_code 27 = .ok (.aload_n 0, 1) := by decide +kernel
theorem dd_Tree_levelWithin_28 : decode prog_7_method_8_code 28 = .ok (.getfield 49, 3) := by decide +kernel
theorem dd_Tree_levelWithin_31 : decode prog_7_method_8_code 31 = .ok (.getfield 89, 3) := by decide +kernel
theorem dd_Tree_levelWithin_34 : decode prog_7_method_8_code 34 = .ok (.aload_n 0, 1) := by decide +kernel
theorem dd_Tree_levelWithin_35 : decode prog_7_method_8_code 35 = .ok (.getfield 15, 3) := by decide +kernel
theorem dd_Tree_levelWithin_38 : decode prog_7_method_8_code 38 = .ok (.iload_n 2, 1) := by decide +kernel
theorem dd_Tree_levelWithin_39 : decode prog_7_method_8_code 39 = .ok (.iaload, 1) := by decide +kernel
theorem dd_Tree_levelWithin_40 : decode prog_7_method_8_code 40 = .ok (.iaload, 1) := by decide +kernel
theorem dd_Tree_levelWithin_41 : decode prog_7_method_8_code 41 = .ok (.ireturn, 1) := by decide +kernel
theorem dd_Tree_needlessBrackets_0 : decode prog_7_method_7_code 0 = .ok (.iconst 0, 1) := by decide +kernel
theorem dd_Tree_needlessBrackets_1 : decode prog_7_method_7_code 1 = .ok (.istore_n 1, 1) := by decide +kernel
theorem dd_Tree_needlessBrackets_2 : decode prog_7_method_7_code 2 = .ok (.iconst 0, 1) := by decide +kernel
theorem dd_Tree_needlessBrackets_3 : decode prog_7_method_7_code 3 = .ok (.istore_n 2, 1) := by decide +kernel
theorem dd_Tree_needlessBrackets_4 : decode prog_7_method_7_code 4 = .ok (.iload_n 2, 1) := by decide +kernel
theorem dd_Tree_needlessBrackets_5 : decode prog_7_method_7_code 5 = .ok (.aload_n 0, 1) := by decide +kernel
theorem dd_Tree_needlessBrackets_6 : decode prog_7_method_7_code 6 = .ok (.getfield 9, 3) := by decide +kernel
theorem dd_Tree_needlessBrackets_9 : decode prog_7_method_7_code 9 = .ok (.if_icmp .ge 61, 3) := by decide +kernel
theorem dd_Tree_needlessBrackets_12 : decode prog_7_method_7_code 12 = .ok (.aload_n 0, 1) := by decide +kernel
theorem dd_Tree_needlessBrackets_13 : decode prog_7_method_7_code 13 = .ok (.getfield 15, 3) := by decide +kernel
theorem dd_Tree_needlessBrackets_16 : decode prog_7_method_7_code 16 = .ok (.iload_n 2, 1) := by decide +kernel
theorem dd_Tree_needlessBrackets_17 : decode prog_7_method_7_code 17 = .ok (.iaload, 1) := by decide +kernel
theorem dd_Tree_needlessBrackets_18 : decode prog_7_method_7_code 18 = .ok (.ifCond .ne 46, 3) := by decide +kernel
theorem dd_Tree_needlessBrackets_21 : decode prog_7_method_7_code 21 = .ok (.aload_n 0, 1) := by decide +kernel
theorem dd_Tree_needlessBrackets_22 : decode prog_7_method_7_code 22 = .ok (.iload_n 2, 1) := by decide +kernel
theorem dd_Tree_needlessBrackets_23 : decode prog_7_method_7_code 23 = .ok (.invokevirtual 86, 3) := by decide +kernel
theorem dd_Tree_needlessBrackets_26 : decode prog_7_method_7_code 26 = .ok (.aload_n 0, 1) := by decide +kernel
theorem dd_Tree_needlessBrackets_27 : decode prog_7_method_7_code 27 = .ok (.getfield 31, 3) := by decide +kernel
theorem dd_Tree_needlessBrackets_30 : decode prog_7_method_7_code 30 = .ok (.iload_n 2, 1) := by decide +kernel
theorem dd_Tree_needlessBrackets_31 : decode prog_7_method_7_code 31 = .ok (.iaload, 1) := by decide +kernel
theorem dd_Tree_needlessBrackets_32 : decode prog_7_method_7_code 32 = .ok (.if_icmp .lt 32, 3) := by decide +kernel
theorem dd_Tree_needlessBrackets_35 : decode prog_7_method_7_code 35 = .ok (.iload_n 1, 1) := by decide +kernel
theorem dd_Tree_needlessBrackets_36 : decode prog_7_method_7_code 36 = .ok (.iconst 1, 1) := by decide +kernel
theorem dd_Tree_needlessBrackets_37 : decode prog_7_method_7_code 37 = .ok (.aload_n 0, 1) := by decide +kernel
theorem dd_Tree_needlessBrackets_38 : decode prog_7_method_7_code 38 = .ok (.getfield 22, 3) := by decide +kernel
theorem dd_Tree_needlessBrackets_41 : decode prog_7_method_7_code 41 = .ok (.iload_n 2, 1) := by decide +kernel
theorem dd_Tree_needlessBrackets_42 : decode prog_7_method_7_code 42 = .ok (.iaload, 1) := by decide +kernel
theorem dd_Tree_needlessBrackets_43 : decode prog_7_method_7_code 43 = .ok (.ishl, 1) := by decide +kernel
theorem dd_Tree_needlessBrackets_44 : decode prog_7_method_7_code 44 = .ok (.iconst 1, 1) := by decide +kernel
theorem dd_Tree_needlessBrackets_45 : decode prog_7_method_7_code 45 = .ok (.aload_n 0, 1) := by decide +kernel
theorem dd_Tree_needlessBrackets_46 : decode prog_7_method_7_code 46 = .ok (.getfield 22, 3) := by decide +kernel
theorem dd_Tree_needlessBrackets_49 : decode prog_7_method_7_code 49 = .ok (.iload_n 2, 1) := by decide +kernel
theorem dd_Tree_needlessBrackets_50 : decode prog_7_method_7_code 50 = .ok (.iaload, 1) := by decide +kernel
theorem dd_Tree_needlessBrackets_51 : decode prog_7_method_7_code 51 = .ok (.aload_n 0, 1) := by decide +kernel
theorem dd_Tree_needlessBrackets_52 : decode prog_7_method_7_code 52 = .ok (.getfield 25, 3) := by decide +kernel
theorem dd_Tree_needlessBrackets_55 : decode prog_7_method_7_code 55 = .ok (.iload_n 2, 1) := by decide +kernel
theorem dd_Tree_needlessBrackets_56 : decode prog_7_method_7_code 56 = .ok (.iaload, 1) := by decide +kernel
theorem dd_Tree_needlessBrackets_57 : decode prog_7_method_7_code 57 = .ok (.iadd, 1) := by decide +kernel
theorem dd_Tree_needlessBrackets_58 : decode prog_7_method_7_code 58 = .ok (.iconst 1, 1) := by decide +kernel
theorem dd_Tree_needlessBrackets_59 : decode prog_7_method_7_code 59 = .ok (.isub, 1) := by decide +kernel
theorem dd_Tree_needlessBrackets_60 : decode prog_7_method_7_code 60 = .ok (.ishl, 1) := by decide +kernel
theorem dd_Tree_needlessBrackets_61 : decode prog_7_method_7_code 61 = .ok (.ior, 1) := by decide +kernel
theorem dd_Tree_needlessBrackets_62 : decode prog_7_method_7_code 62 = .ok (.ior, 1) := by decide +kernel
theorem dd_Tree_needlessBrackets_63 : decode prog_7_method_7_code 63 = .ok (.istore_n 1, 1) := by decide +kernel
theorem dd_Tree_needlessBrackets_64 : decode prog_7_method_7_code 64 = .ok (.iinc 2 1, 3) := by decide +kernel
theorem dd_Tree_needlessBrackets_67 : decode prog_7_method_7_code 67 = .ok (.goto (-63), 3) := by decide +kernel
theorem dd_Tree_needlessBrackets_70 : decode prog_7_method_7_code 70 = .ok (.iload_n 1, 1) := by decide +kernel
theorem dd_Tree_needlessBrackets_71 : decode prog_7_method_7_code 71 = .ok (.ireturn, 1) := by decide +kernel
