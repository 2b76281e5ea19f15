theorem dd_M_notation_138 : decode prog_9_method_13_code 138 = .ok (.aload_n 0, 1) := by decide +kernel
theorem dd_M_notation_139 : decode prog_9_method_13_code 139 = .ok (.getfield 100, 3) := by decide +kernel
theorem dd_M_notation_142 : decode prog_9_method_13_code 142 = .ok (.imul, 1) := by decide +kernel
theorem dd_M_notation_143 : decode prog_9_method_13_code 143 = .ok (.iload_n 3, 1) := by decide +kernel
theorem dd_M_notation_144 : decode prog_9_method_13_code 144 = .ok (.iadd, 1) := by decide +kernel
theorem dd_M_notation_145 : decode prog_9_method_13_code 145 = .ok (.aload_n 0, 1) := by decide +kernel
theorem dd_M_notation_146 : decode prog_9_method_13_code 146 = .ok (.getfield 13, 3) := by decide +kernel
theorem dd_M_notation_149 : decode prog_9_method_13_code 149 = .ok (.bipush 84, 2) := by decide +kernel
theorem dd_M_notation_151 : decode prog_9_method_13_code 151 = .ok (.iload_n 3, 1) := by decide +kernel
theorem dd_M_notation_152 : decode prog_9_method_13_code 152 = .ok (.iadd, 1) := by decide +kernel
theorem dd_M_notation_153 : decode prog_9_method_13_code 153 = .ok (.laload, 1) := by decide +kernel
theorem dd_M_notation_154 : decode prog_9_method_13_code 154 = .ok (.lastore, 1) := by decide +kernel
theorem dd_M_notation_155 : decode prog_9_method_13_code 155 = .ok (.iinc 3 1, 3) := by decide +kernel
theorem dd_M_notation_158 : decode prog_9_method_13_code 158 = .ok (.goto (-57), 3) := by decide +kernel
theorem dd_M_notation_161 : decode prog_9_method_13_code 161 = .ok (.aload_n 0, 1) := by decide +kernel
theorem dd_M_notation_162 : decode prog_9_method_13_code 162 = .ok (.getfield 17, 3) := by decide +kernel
theorem dd_M_notation_165 : decode prog_9_method_13_code 165 = .ok (.aload_n 0, 1) := by decide +kernel
theorem dd_M_notation_166 : decode prog_9_method_13_code 166 = .ok (.getfield 100, 3) := by decide +kernel
theorem dd_M_notation_169 : decode prog_9_method_13_code 169 = .ok (.aload_n 0, 1) := by decide +kernel
theorem dd_M_notation_170 : decode prog_9_method_13_code 170 = .ok (.getfield 103, 3) := by decide +kernel
theorem dd_M_notation_173 : decode prog_9_method_13_code 173 = .ok (.iastore, 1) := by decide +kernel
theorem dd_M_notation_174 : decode prog_9_method_13_code 174 = .ok (.aload_n 0, 1) := by decide +kernel
theorem dd_M_notation_175 : decode prog_9_method_13_code 175 = .ok (.getfield 20, 3) := by decide +kernel
theorem dd_M_notation_178 : decode prog_9_method_13_code 178 = .ok (.aload_n 0, 1) := by decide +kernel
theorem dd_M_notation_179 : decode prog_9_method_13_code 179 = .ok (.getfield 100, 3) := by decide +kernel
theorem dd_M_notation_182 : decode prog_9_method_13_code 182 = .ok (.iload_n 1, 1) := by decide +kernel
theorem dd_M_notation_183 : decode prog_9_method_13_code 183 = .ok (.iastore, 1) := by decide +kernel
theorem dd_M_notation_184 : decode prog_9_method_13_code 184 = .ok (.aload_n 0, 1) := by decide +kernel
theorem dd_M_notation_185 : decode prog_9_method_13_code 185 = .ok (.dup, 1) := by decide +kernel
theorem dd_M_notation_186 : decode prog_9_method_13_code 186 = .ok (.getfield 100, 3) := by decide +kernel
theorem dd_M_notation_189 : decode prog_9_method_13_code 189 = .ok (.iconst 1, 1) := by decide +kernel
theorem dd_M_notation_190 : decode prog_9_method_13_code 190 = .ok (.iadd, 1) := by decide +kernel
theorem dd_M_notation_191 : decode prog_9_method_13_code 191 = .ok (.putfield 100, 3) := by decide +kernel
theorem dd_M_notation_194 : decode prog_9_method_13_code 194 = .ok (.aload_n 0, 1) := by decide +kernel
theorem dd_M_notation_195 : decode prog_9_method_13_code 195 = .ok (.iconst 0, 1) := by decide +kernel
theorem dd_M_notation_196 : decode prog_9_method_13_code 196 = .ok (.putfield 103, 3) := by decide +kernel
theorem dd_M_notation_199 : decode prog_9_method_13_code 199 = .ok (.aload_n 0, 1) := by decide +kernel
theorem dd_M_notation_200 : decode prog_9_method_13_code 200 = .ok (.iconst 0, 1) := by decide +kernel
theorem dd_M_notation_201 : decode prog_9_method_13_code 201 = .ok (.putfield 122, 3) := by decide +kernel
theorem dd_M_notation_204 : decode prog_9_method_13_code 204 = .ok (.aload_n 0, 1) := by decide +kernel
theorem dd_M_notation_205 : decode prog_9_method_13_code 205 = .ok (.getfield 100, 3) := by decide +kernel
theorem dd_M_notation_208 : decode prog_9_method_13_code 208 = .ok (.iconst 1, 1) := by decide +kernel
theorem dd_M_notation_209 : decode prog_9_method_13_code 209 = .ok (.isub, 1) := by decide +kernel
theorem dd_M_notation_210 : decode prog_9_method_13_code 210 = .ok (.ireturn, 1) := by decide +kernel
theorem dd_M_part_0 : decode prog_9_method_10_code 0 = .ok (.aload_n 0, 1) := by decide +kernel
theorem dd_M_part_1 : decode prog_9_method_10_code 1 = .ok (.getfield 7, 3) := by decide +kernel
theorem dd_M_part_4 : decode prog_9_method_10_code 4 = .ok (.bipush 84, 2) := by decide +kernel
theorem dd_M_part_6 : decode prog_9_method_10_code 6 = .ok (.aload_n 0, 1) := by decide +kernel
theorem dd_M_part_7 : decode prog_9_method_10_code 7 = .ok (.getfield 103, 3) := by decide +kernel
theorem dd_M_part_10 : decode prog_9_method_10_code 10 = .ok (.iadd, 1) := by decide +kernel
theorem dd_M_part_11 : decode prog_9_method_10_code 11 = .ok (.iload_n 1, 1) := by decide +kernel
theorem dd_M_part_12 : decode prog_9_method_10_code 12 = .ok (.iastore, 1) := by decide +kernel
theorem dd_M_part_13 : decode prog_9_method_10_code 13 = .ok (.aload_n 0, 1) := by decide +kernel
theorem dd_M_part_14 : decode prog_9_method_10_code 14 = .ok (.getfield 13, 3) := by decide +kernel
theorem dd_M_part_17 : decode prog_9_method_10_code 17 = .ok (.bipush 84, 2) := by decide +kernel
theorem dd_M_part_19 : decode prog_9_method_10_code 19 = .ok (.aload_n 0, 1) := by decide +kernel
theorem dd_M_part_20 : decode prog_9_method_10_code 20 = .ok (.getfield 103, 3) := by decide +kernel
theorem dd_M_part_23 : decode prog_9_method_10_code 23 = .ok (.iadd, 1) := by decide +kernel
theorem dd_M_part_24 : decode prog_9_method_10_code 24 = .ok (.lload_n 2, 1) := by decide +kernel
theorem dd_M_part_25 : decode prog_9_method_10_code 25 = .ok (.lastore, 1) := by decide +kernel
theorem dd_M_part_26 : decode prog_9_method_10_code 26 = .ok (.aload_n 0, 1) := by decide +kernel
theorem dd_M_part_27 : decode prog_9_method_10_code 27 = .ok (.dup, 1) := by decide +kernel
theorem dd_M_part_28 : decode prog_9_method_10_code 28 = .ok (.getfield 103, 3) := by decide +kernel
theorem dd_M_part_31 : decode prog_9_method_10_code 31 = .ok (.iconst 1, 1) := by decide +kernel
theorem dd_M_part_32 : decode prog_9_method_10_code 32 = .ok (.iadd, 1) := by decide +kernel
theorem dd_M_part_33 : decode prog_9_method_10_code 33 = .ok (.putfield 103, 3) := by decide +kernel
theorem dd_M_part_36 : decode prog_9_method_10_code 36 = .ok (.aload_n 0, 1) := by decide +kernel
theorem dd_M_part_37 : decode prog_9_method_10_code 37 = .ok (.getfield 103, 3) := by decide +kernel
theorem dd_M_part_40 : decode prog_9_method_10_code 40 = .ok (.ireturn, 1) := by decide +kernel
theorem dd_M_print_0 : decode prog_9_method_41_code 0 = .ok (.aload_n 0, 1) := by decide +kernel
theorem dd_M_print_1 : decode prog_9_method_41_code 1 = .ok (.aload_n 0, 1) := by decide +kernel
theorem dd_M_print_2 : decode prog_9_method_41_code 2 = .ok (.getfield 122, 3) := by decide +kernel
theorem dd_M_print_5 : decode prog_9_method_41_code 5 = .ok (.ifCond .ne 7, 3) := by decide +kernel
theorem dd_M_print_8 : decode prog_9_method_41_code 8 = .ok (.iconst 1, 1) := by decide +kernel
theorem dd_M_print_9 : decode prog_9_method_41_code 9 = .ok (.goto 4, 3) := by decide +kernel
theorem dd_M_print_12 : decode prog_9_method_41_code 12 = .ok (.iconst 0, 1) := by decide +kernel
theorem dd_M_print_13 : decode prog_9_method_41_code 13 = .ok (.putfield 80, 3) := by decide +kernel
theorem dd_M_print_16 : decode prog_9_method_41_code 16 = .ok (.aload_n 0, 1) := by decide +kernel
theorem dd_M_print_17 : decode prog_9_method_41_code 17 = .ok (.getfield 80, 3) := by decide +kernel
theorem dd_M_print_20 : decode prog_9_method_41_code 20 = .ok (.ifCond .le 5, 3) := by decide +kernel
theorem dd_M_print_23 : decode prog_9_method_41_code 23 = .ok (.iconst 0, 1) := by decide +kernel
theorem dd_M_print_24 : decode prog_9_method_41_code 24 = .ok (.ireturn, 1) := by decide +kernel
theorem dd_M_print_25 : decode prog_9_method_41_code 25 = .ok (.aload_n 0, 1) := by decide +kernel
theorem dd_M_print_26 : decode prog_9_method_41_code 26 = .ok (.iconst 0, 1) := by decide +kernel
theorem dd_M_print_27 : decode prog_9_method_41_code 27 = .ok (.putfield 208, 3) := by decide +kernel
theorem dd_M_print_30 : decode prog_9_method_41_code 30 = .ok (.aload_n 0, 1) := by decide +kernel
theorem dd_M_print_31 : decode prog_9_method_41_code 31 = .ok (.iconst 0, 1) := by decide +kernel
theorem dd_M_print_32 : decode prog_9_method_41_code 32 = .ok (.putfield 188, 3) := by decide +kernel
theorem dd_M_print_35 : decode prog_9_method_41_code 35 = .ok (.aload_n 0, 1) := by decide +kernel
theorem dd_M_print_36 : decode prog_9_method_41_code 36 = .ok (.iconst 0, 1) := by decide +kernel
theorem dd_M_print_37 : decode prog_9_method_41_code 37 = .ok (.invokevirtual 211, 3) := by decide +kernel
theorem dd_M_print_40 : decode prog_9_method_41_code 40 = .ok (.aload_n 0, 1) := by decide +kernel
theorem dd_M_print_41 : decode prog_9_method_41_code 41 = .ok (.getfield 188, 3) := by decide +kernel
theorem dd_M_print_44 : decode prog_9_method_41_code 44 = .ok (.ifCond .le 92, 3) := by decide +kernel
theorem dd_M_print_47 : decode prog_9_method_41_code 47 = .ok (.aload_n 0, 1) := by decide +kernel
theorem dd_M_print_48 : decode prog_9_method_41_code 48 = .ok (.dup, 1) := by decide +kernel
theorem dd_M_print_49 : decode prog_9_method_41_code 49 = .ok (.getfield 188, 3) := by decide +kernel
theorem dd_M_print_52 : decode prog_9_method_41_code 52 = .ok (.iconst 1, 1) := by decide +kernel
theorem dd_M_print_53 : decode prog_9_method_41_code 53 = .ok (.isub, 1) := by decide +kernel
theorem dd_M_print_54 : decode prog_9_method_41_code 54 = .ok (.putfield 188, 3) := by decide +kernel
theorem dd_M_print_57 : decode prog_9_method_41_code 57 = .ok (.aload_n 0, 1) := by decide +kernel
theorem dd_M_print_58 : decode prog_9_method_41_code 58 = .ok (.getfield 77, 3) := by decide +kernel
theorem dd_M_print_61 : decode prog_9_method_41_code 61 = .ok (.aload_n 0, 1) := by decide +kernel
theorem dd_M_print_62 : decode prog_9_method_41_code 62 = .ok (.getfield 188, 3) := by decide +kernel
theorem dd_M_print_65 : decode prog_9_method_41_code 65 = .ok (.iaload, 1) := by decide +kernel
theorem dd_M_print_66 : decode prog_9_method_41_code 66 = .ok (.istore_n 1, 1) := by decide +kernel
theorem dd_M_print_67 : decode prog_9_method_41_code 67 = .ok (.iload_n 1, 1) := by decide +kernel
theorem dd_M_print_68 : decode prog_9_method_41_code 68 = .ok (.sipush 1000, 3) := by decide +kernel
theorem dd_M_print_71 : decode prog_9_method_41_code 71 = .ok (.if_icmp .eq 10, 3) := by decide +kernel
theorem dd_M_print_74 : decode prog_9_method_41_code 74 = .ok (.iload_n 1, 1) := by decide +kernel
theorem dd_M_print_75 : decode prog_9_method_41_code 75 = .ok (.sipush 1001, 3) := by decide +kernel
theorem dd_M_print_78 : decode prog_9_method_41_code 78 = .ok (.if_icmp .ne 26, 3) := by decide +kernel
theorem dd_M_print_81 : decode prog_9_method_41_code 81 = .ok (.aload_n 0, 1) := by decide +kernel
theorem dd_M_print_82 : decode prog_9_method_41_code 82 = .ok (.iload_n 1, 1) := by decide +kernel
theorem dd_M_print_83 : decode prog_9_method_41_code 83 = .ok (.sipush 1000, 3) := by decide +kernel
theorem dd_M_print_86 : decode prog_9_method_41_code 86 = .ok (.if_icmp .ne 9, 3) := by decide +kernel
theorem dd_M_print_89 : decode prog_9_method_41_code 89 = .ok (.ldc2_w 118, 3) := by decide +kernel
theorem dd_M_print_92 : decode prog_9_method_41_code 92 = .ok (.goto 6, 3) := by decide +kernel
theorem dd_M_print_95 : decode prog_9_method_41_code 95 = .ok (.ldc2_w 120, 3) := by decide +kernel
theorem dd_M_print_98 : decode prog_9_method_41_code 98 = .ok (.invokevirtual 218, 3) := by decide +kernel
theorem dd_M_print_101 : decode prog_9_method_41_code 101 = .ok (.goto 32, 3) := by decide +kernel
theorem dd_M_print_104 : decode prog_9_method_41_code 104 = .ok (.iload_n 1, 1) := by decide +kernel
theorem dd_M_print_105 : decode prog_9_method_41_code 105 = .ok (.sipush 500, 3) := by decide +kernel
theorem dd_M_print_108 : decode prog_9_method_41_code 108 = .ok (.if_icmp .lt 20, 3) := by decide +kernel
theorem dd_M_print_111 : decode prog_9_method_41_code 111 = .ok (.aload_n 0, 1) := by decide +kernel
theorem dd_M_print_112 : decode prog_9_method_41_code 112 = .ok (.aload_n 0, 1) := by decide +kernel
theorem dd_M_print_113 : decode prog_9_method_41_code 113 = .ok (.getfield 30, 3) := by decide +kernel
theorem dd_M_print_116 : decode prog_9_method_41_code 116 = .ok (.iload_n 1, 1) := by decide +kernel
theorem dd_M_print_117 : decode prog_9_method_41_code 117 = .ok (.sipush 500, 3) := by decide +kernel
theorem dd_M_print_120 : decode prog_9_method_41_code 120 = .ok (.isub, 1) := by decide +kernel
theorem dd_M_print_121 : decode prog_9_method_41_code 121 = .ok (.laload, 1) := by decide +kernel
theorem dd_M_print_122 : decode prog_9_method_41_code 122 = .ok (.invokevirtual 218, 3) := by decide +kernel
theorem dd_M_print_125 : decode prog_9_method_41_code 125 = .ok (.goto 8, 3) := by decide +kernel
theorem dd_M_print_128 : decode prog_9_method_41_code 128 = .ok (.aload_n 0, 1) := by decide +kernel
theorem dd_M_print_129 : decode prog_9_method_41_code 129 = .ok (.iload_n 1, 1) := by decide +kernel
theorem dd_M_print_130 : decode prog_9_method_41_code 130 = .ok (.invokevirtual 222, 3) := by decide +kernel
theorem dd_M_print_133 : decode prog_9_method_41_code 133 = .ok (.goto (-93), 3) := by decide +kernel
theorem dd_M_print_136 : decode prog_9_method_41_code 136 = .ok (.aload_n 0, 1) := by decide +kernel
theorem dd_M_print_137 : decode prog_9_method_41_code 137 = .ok (.getfield 208, 3) := by decide +kernel
theorem dd_M_print_140 : decode prog_9_method_41_code 140 = .ok (.ireturn, 1) := by decide +kernel
theorem dd_M_put_0 : decode prog_9_method_14_code 0 = .ok (.aload_n 0, 1) := by decide +kernel
theorem dd_M_put_1 : decode prog_9_method_14_code 1 = .ok (.iconst 0, 1) := by decide +kernel
theorem dd_M_put_2 : decode prog_9_method_14_code 2 = .ok (.putfield 80, 3) := by decide +kernel
theorem dd_M_put_5 : decode prog_9_method_14_code 5 = .ok (.iload_n 3, 1) := by decide +kernel
theorem dd_M_put_6 : decode prog_9_method_14_code 6 = .ok (.iconst 1, 1) := by decide +kernel
theorem dd_M_put_7 : decode prog_9_method_14_code 7 = .ok (.if_icmp .lt 21, 3) := by decide +kernel
theorem dd_M_put_10 : decode prog_9_method_14_code 10 = .ok (.iload_n 3, 1) := by decide +kernel
theorem dd_M_put_11 : decode prog_9_method_14_code 11 = .ok (.bipush 8, 2) := by decide +kernel
theorem dd_M_put_13 : decode prog_9_method_14_code 13 = .ok (.if_icmp .gt 15, 3) := by decide +kernel
theorem dd_M_put_16 : decode prog_9_method_14_code 16 = .ok (.aload_n 0, 1) := by decide +kernel
theorem dd_M_put_17 : decode prog_9_method_14_code 17 = .ok (.getfield 125, 3) := by decide +kernel
theorem dd_M_put_20 : decode prog_9_method_14_code 20 = .ok (.iload_n 3, 1) := by decide +kernel
theorem dd_M_put_21 : decode prog_9_method_14_code 21 = .ok (.iadd, 1) := by decide +kernel
theorem dd_M_put_22 : decode prog_9_method_14_code 22 = .ok (.sipush 200, 3) := by decide +kernel
theorem dd_M_put_25 : decode prog_9_method_14_code 25 = .ok (.if_icmp .le 5, 3) := by decide +kernel
theorem dd_M_put_28 : decode prog_9_method_14_code 28 = .ok (.iconst 0, 1) := by decide +kernel
theorem dd_M_put_29 : decode prog_9_method_14_code 29 = .ok (.ireturn, 1) := by decide +kernel
theorem dd_M_put_30 : decode prog_9_method_14_code 30 = .ok (.iconst 0, 1) := by decide +kernel
theorem dd_M_put_31 : decode prog_9_method_14_code 31 = .ok (.istore 4, 2) := by decide +kernel
theorem dd_M_put_33 : decode prog_9_method_14_code 33 = .ok (.iload 4, 2) := by decide +kernel
theorem dd_M_put_35 : decode prog_9_method_14_code 35 = .ok (.iload_n 3, 1) := by decide +kernel
theorem dd_M_put_36 : decode prog_9_method_14_code 36 = .ok (.if_icmp .ge 28, 3) := by decide +kernel
theorem dd_M_put_39 : decode prog_9_method_14_code 39 = .ok (.aload_n 0, 1) := by decide +kernel
theorem dd_M_put_40 : decode prog_9_method_14_code 40 = .ok (.getfield 23, 3) := by decide +kernel
theorem dd_M_put_43 : decode prog_9_method_14_code 43 = .ok (.aload_n 0, 1) := by decide +kernel
theorem dd_M_put_44 : decode prog_9_method_14_code 44 = .ok (.getfield 125, 3) := by decide +kernel
theorem dd_M_put_47 : decode prog_9_method_14_code 47 = .ok (.iload 4, 2) := by decide +kernel
theorem dd_M_put_49 : decode prog_9_method_14_code 49 = .ok (.iadd, 1) := by decide +kernel
theorem dd_M_put_50 : decode prog_9_method_14_code 50 = .ok (.lload_n 1, 1) := by decide +kernel
theorem dd_M_put_51 : decode prog_9_method_14_code 51 = .ok (.iload_n 3, 1) := by decide +kernel
theorem dd_M_put_52 : decode prog_9_method_14_code 52 = .ok (.iload 4, 2) := by decide +kernel
theorem dd_M_put_54 : decode prog_9_method_14_code 54 = .ok (.invokestatic 92, 3) := by decide +kernel
theorem dd_M_put_57 : decode prog_9_method_14_code 57 = .ok (.iastore, 1) := by decide +kernel
theorem dd_M_put_58 : decode prog_9_method_14_code 58 = .ok (.iinc 4 1, 3) := by decide +kernel
theorem dd_M_put_61 : decode prog_9_method_14_code 61 = .ok (.goto (-28), 3) := by decide +kernel
theorem dd_M_put_64 : decode prog_9_method_14_code 64 = .ok (.aload_n 0, 1) := by decide +kernel
theorem dd_M_put_65 : decode prog_9_method_14_code 65 = .ok (.dup, 1) := by decide +kernel
theorem dd_M_put_66 : decode prog_9_method_14_code 66 = .ok (.getfield 125, 3) := by decide +kernel
theorem dd_M_put_69 : decode prog_9_method_14_code 69 = .ok (.iload_n 3, 1) := by decide +kernel
theorem dd_M_put_70 : decode prog_9_method_14_code 70 = .ok (.iadd, 1) := by decide +kernel
theorem dd_M_put_71 : decode prog_9_method_14_code 71 = .ok (.putfield 125, 3) := by decide +kernel
theorem dd_M_put_74 : decode prog_9_method_14_code 74 = .ok (.iconst 1, 1) := by decide +kernel
theorem dd_M_put_75 : decode prog_9_method_14_code 75 = .ok (.ireturn, 1) := by decide +kernel
theorem dd_M_putWord_0 : decode prog_9_method_38_code 0 = .ok (.aload_n 0, 1) := by decide +kernel
theorem dd_M_putWord_1 : decode prog_9_method_38_code 1 = .ok (.getfield 208, 3) := by decide +kernel
theorem dd_M_putWord_4 : decode prog_9_method_38_code 4 = .ok (.ifCond .le 24, 3) := by decide +kernel
theorem dd_M_putWord_7 : decode prog_9_method_38_code 7 = .ok (.aload_n 0, 1) := by decide +kernel
theorem dd_M_putWord_8 : decode prog_9_method_38_code 8 = .ok (.getfield 74, 3) := by decide +kernel
theorem dd_M_putWord_11 : decode prog_9_method_38_code 11 = .ok (.aload_n 0, 1) := by decide +kernel
theorem dd_M_putWord_12 : decode prog_9_method_38_code 12 = .ok (.getfield 208, 3) := by decide +kernel
theorem dd_M_putWord_15 : decode prog_9_method_38_code 15 = .ok (.bipush 32, 2) := by decide +kernel
theorem dd_M_putWord_17 : decode prog_9_method_38_code 17 = .ok (.iastore, 1) := by decide +kernel
theorem dd_M_putWord_18 : decode prog_9_method_38_code 18 = .ok (.aload_n 0, 1) := by decide +kernel
theorem dd_M_putWord_19 : decode prog_9_method_38_code 19 = .ok (.dup, 1) := by decide +kernel
theorem dd_M_putWord_20 : decode prog_9_method_38_code 20 = .ok (.getfield 208, 3) := by decide +kernel
theorem dd_M_putWord_23 : decode prog_9_method_38_code 23 = .ok (.iconst 1, 1) := by decide +kernel
theorem dd_M_putWord_24 : decode prog_9_method_38_code 24 = .ok (.iadd, 1) := by decide +kernel
theorem dd_M_putWord_25 : decode prog_9_method_38_code 25 = .ok (.putfield 208, 3) := by decide +kernel
theorem dd_M_putWord_28 : decode prog_9_method_38_code 28 = .ok (.bipush 56, 2) := by decide +kernel
theorem dd_M_putWord_30 : decode prog_9_method_38_code 30 = .ok (.istore_n 3, 1) := by decide +kernel
theorem dd_M_putWord_31 : decode prog_9_method_38_code 31 = .ok (.iload_n 3, 1) := by decide +kernel
theorem dd_M_putWord_32 : decode prog_9_method_38_code 32 = .ok (.ifCond .lt 48, 3) := by decide +kernel
theorem dd_M_putWord_35 : decode prog_9_method_38_code 35 = .ok (.lload_n 1, 1) := by decide +kernel
theorem dd_M_putWord_36 : decode prog_9_method_38_code 36 = .ok (.iload_n 3, 1) := by decide +kernel
theorem dd_M_putWord_37 : decode prog_9_method_38_code 37 = .ok (.lshr, 1) := by decide +kernel
theorem dd_M_putWord_38 : decode prog_9_method_38_code 38 = .ok (.ldc2_w 90, 3) := by decide +kernel
theorem dd_M_putWord_41 : decode prog_9_method_38_code 41 = .ok (.land, 1) := by decide +kernel
theorem dd_M_putWord_42 : decode prog_9_method_38_code 42 = .ok (.l2i, 1) := by decide +kernel
theorem dd_M_putWord_43 : decode prog_9_method_38_code 43 = .ok (.istore 4, 2) := by decide +kernel
theorem dd_M_putWord_45 : decode prog_9_method_38_code 45 = .ok (.iload 4, 2) := by decide +kernel
theorem dd_M_putWord_47 : decode prog_9_method_38_code 47 = .ok (.ifCond .ne 6, 3) := by decide +kernel
theorem dd_M_putWord_50 : decode prog_9_method_38_code 50 = .ok (.goto 24, 3) := by decide +kernel
theorem dd_M_putWord_53 : decode prog_9_method_38_code 53 = .ok (.aload_n 0, 1) := by decide +kernel
theorem dd_M_putWord_54 : decode prog_9_method_38_code 54 = .ok (.getfield 74, 3) := by decide +kernel
theorem dd_M_putWord_57 : decode prog_9_method_38_code 57 = .ok (.aload_n 0, 1) := by decide +kernel
theorem dd_M_putWord_58 : decode prog_9_method_38_code 58 = .ok (.getfield 208, 3) := by decide +kernel
theorem dd_M_putWord_61 : decode prog_9_method_38_code 61 = .ok (.iload 4, 2) := by decide +kernel
theorem dd_M_putWord_63 : decode prog_9_method_38_code 63 = .ok (.iastore, 1) := by decide +kernel
theorem dd_M_putWord_64 : decode prog_9_method_38_code 64 = .ok (.aload_n 0, 1) := by decide +kernel
theorem dd_M_putWord_65 : decode prog_9_method_38_code 65 = .ok (.dup, 1) := by decide +kernel
theorem dd_M_putWord_66 : decode prog_9_method_38_code 66 = .ok (.getfield 208, 3) := by decide +kernel
theorem dd_M_putWord_69 : decode prog_9_method_38_code 69 = .ok (.iconst 1, 1) := by decide +kernel
theorem dd_M_putWord_70 : decode prog_9_method_38_code 70 = .ok (.iadd, 1) := by decide +kernel
theorem dd_M_putWord_71 : decode prog_9_method_38_code 71 = .ok (.putfield 208, 3) := by decide +kernel
theorem dd_M_putWord_74 : decode prog_9_method_38_code 74 = .ok (.iinc 3 (-8), 3) := by decide +kernel
theorem dd_M_putWord_77 : decode prog_9_method_38_code 77 = .ok (.goto (-46), 3) := by decide +kernel
theorem dd_M_putWord_80 : decode prog_9_method_38_code 80 = .ok (.return_, 1) := by decide +kernel
theorem dd_M_puts_0 : decode prog_9_method_40_code 0 = .ok (.aload_n 0, 1) := by decide +kernel
theorem dd_M_puts_1 : decode prog_9_method_40_code 1 = .ok (.getfield 77, 3) := by decide +kernel
theorem dd_M_puts_4 : decode prog_9_method_40_code 4 = .ok (.aload_n 0, 1) := by decide +kernel
theorem dd_M_puts_5 : decode prog_9_method_40_code 5 = .ok (.getfield 188, 3) := by decide +kernel
theorem dd_M_puts_8 : decode prog_9_method_40_code 8 = .ok (.iload_n 1, 1) := by decide +kernel
theorem dd_M_puts_9 : decode prog_9_method_40_code 9 = .ok (.iastore, 1) := by decide +kernel
theorem dd_M_puts_10 : decode prog_9_method_40_code 10 = .ok (.aload_n 0, 1) := by decide +kernel
theorem dd_M_puts_11 : decode prog_9_method_40_code 11 = .ok (.dup, 1) := by decide +kernel
theorem dd_M_puts_12 : decode prog_9_method_40_code 12 = .ok (.getfield 188, 3) := by decide +kernel
theorem dd_M_puts_15 : decode prog_9_method_40_code 15 = .ok (.iconst 1, 1) := by decide +kernel
theorem dd_M_puts_16 : decode prog_9_method_40_code 16 = .ok (.iadd, 1) := by decide +kernel
theorem dd_M_puts_17 : decode prog_9_method_40_code 17 = .ok (.putfield 188, 3) := by decide +kernel
theorem dd_M_puts_20 : decode prog_9_method_40_code 20 = .ok (.return_, 1) := by decide +kernel
theorem dd_M_read_0 : decode prog_9_method_28_code 0 = .ok (.aload_n 0, 1) := by decide +kernel
theorem dd_M_read_1 : decode prog_9_method_28_code 1 = .ok (.iconst 0, 1) := by decide +kernel
theorem dd_M_read_2 : decode prog_9_method_28_code 2 = .ok (.putfield 80, 3) := by decide +kernel
theorem dd_M_read_5 : decode prog_9_method_28_code 5 = .ok (.aload_n 0, 1) := by decide +kernel
theorem dd_M_read_6 : decode prog_9_method_28_code 6 = .ok (.iconst 0, 1) := by decide +kernel
theorem dd_M_read_7 : decode prog_9_method_28_code 7 = .ok (.putfield 122, 3) := by decide +kernel
theorem dd_M_read_10 : decode prog_9_method_28_code 10 = .ok (.aload_n 0, 1) := by decide +kernel
theorem dd_M_read_11 : decode prog_9_method_28_code 11 = .ok (.iconst 0, 1) := by decide +kernel
theorem dd_M_read_12 : decode prog_9_method_28_code 12 = .ok (.putfield 169, 3) := by decide +kernel
theorem dd_M_read_15 : decode prog_9_method_28_code 15 = .ok (.aload_n 0, 1) := by decide +kernel
theorem dd_M_read_16 : decode prog_9_method_28_code 16 = .ok (.iconst (-1), 1) := by decide +kernel
theorem dd_M_read_17 : decode prog_9_method_28_code 17 = .ok (.putfield 26, 3) := by decide +kernel
theorem dd_M_read_20 : decode prog_9_method_28_code 20 = .ok (.aload_n 0, 1) := by decide +kernel
theorem dd_M_read_21 : decode prog_9_method_28_code 21 = .ok (.invokevirtual 172, 3) := by decide +kernel
theorem dd_M_read_24 : decode prog_9_method_28_code 24 = .ok (.istore_n 1, 1) := by decide +kernel
theorem dd_M_read_25 : decode prog_9_method_28_code 25 = .ok (.aload_n 0, 1) := by decide +kernel
theorem dd_M_read_26 : decode prog_9_method_28_code 26 = .ok (.invokevirtual 176, 3) := by decide +kernel
theorem dd_M_read_29 : decode prog_9_method_28_code 29 = .ok (.iconst 1, 1) := by decide +kernel
theorem dd_M_read_30 : decode prog_9_method_28_code 30 = .ok (.istore_n 2, 1) := by decide +kernel
theorem dd_M_read_31 : decode prog_9_method_28_code 31 = .ok (.iload_n 2, 1) := by decide +kernel
theorem dd_M_read_32 : decode prog_9_method_28_code 32 = .ok (.aload_n 0, 1) := by decide +kernel
theorem dd_M_read_33 : decode prog_9_method_28_code 33 = .ok (.getfield 128, 3) := by decide +kernel
theorem dd_M_read_36 : decode prog_9_method_28_code 36 = .ok (.if_icmp .gt 17, 3) := by decide +kernel
theorem dd_M_read_39 : decode prog_9_method_28_code 39 = .ok (.aload_n 0, 1) := by decide +kernel
theorem dd_M_read_40 : decode prog_9_method_28_code 40 = .ok (.iload_n 2, 1) := by decide +kernel
theorem dd_M_read_41 : decode prog_9_method_28_code 41 = .ok (.invokevirtual 179, 3) := by decide +kernel
theorem dd_M_read_44 : decode prog_9_method_28_code 44 = .ok (.ifCond .eq 9, 3) := by decide +kernel
theorem dd_M_read_47 : decode prog_9_method_28_code 47 = .ok (.iinc 2 1, 3) := by decide +kernel
theorem dd_M_read_50 : decode prog_9_method_28_code 50 = .ok (.goto (-19), 3) := by decide +kernel
theorem dd_M_read_53 : decode prog_9_method_28_code 53 = .ok (.iload_n 2, 1) := by decide +kernel
theorem dd_M_read_54 : decode prog_9_method_28_code 54 = .ok (.aload_n 0, 1) := by decide +kernel
theorem dd_M_read_55 : decode prog_9_method_28_code 55 = .ok (.getfield 128, 3) := by decide +kernel
theorem dd_M_read_58 : decode prog_9_method_28_code 58 = .ok (.if_icmp .gt 19, 3) := by decide +kernel
theorem dd_M_read_61 : decode prog_9_method_28_code 61 = .ok (.aload_n 0, 1) := by decide +kernel
theorem dd_M_read_62 : decode prog_9_method_28_code 62 = .ok (.iconst 1, 1) := by decide +kernel
theorem dd_M_read_63 : decode prog_9_method_28_code 63 = .ok (.aload_n 0, 1) := by decide +kernel
theorem dd_M_read_64 : decode prog_9_method_28_code 64 = .ok (.getfield 33, 3) := by decide +kernel
theorem dd_M_read_67 : decode prog_9_method_28_code 67 = .ok (.iload_n 2, 1) := by decide +kernel
theorem dd_M_read_68 : decode prog_9_method_28_code 68 = .ok (.iconst 1, 1) := by decide +kernel
theorem dd_M_read_69 : decode prog_9_method_28_code 69 = .ok (.isub, 1) := by decide +kernel
theorem dd_M_read_70 : decode prog_9_method_28_code 70 = .ok (.iaload, 1) := by decide +kernel
theorem dd_M_read_71 : decode prog_9_method_28_code 71 = .ok (.invokevirtual 182, 3) := by decide +kernel
theorem dd_M_read_74 : decode prog_9_method_28_code 74 = .ok (.goto 43, 3) := by decide +kernel
theorem dd_M_read_77 : decode prog_9_method_28_code 77 = .ok (.iload_n 1, 1) := by decide +kernel
theorem dd_M_read_78 : decode prog_9_method_28_code 78 = .ok (.iconst (-1), 1) := by decide +kernel
theorem dd_M_read_79 : decode prog_9_method_28_code 79 = .ok (.if_icmp .eq 12, 3) := by decide +kernel
theorem dd_M_read_82 : decode prog_9_method_28_code 82 = .ok (.aload_n 0, 1) := by decide +kernel
theorem dd_M_read_83 : decode prog_9_method_28_code 83 = .ok (.iconst 2, 1) := by decide +kernel
theorem dd_M_read_84 : decode prog_9_method_28_code 84 = .ok (.iload_n 1, 1) := by decide +kernel
theorem dd_M_read_85 : decode prog_9_method_28_code 85 = .ok (.invokevirtual 182, 3) := by decide +kernel
theorem dd_M_read_88 : decode prog_9_method_28_code 88 = .ok (.goto 29, 3) := by decide +kernel
theorem dd_M_read_91 : decode prog_9_method_28_code 91 = .ok (.aload_n 0, 1) := by decide +kernel
theorem dd_M_read_92 : decode prog_9_method_28_code 92 = .ok (.getfield 36, 3) := by decide +kernel
theorem dd_M_read_95 : decode prog_9_method_28_code 95 = .ok (.iconst 0, 1) := by decide +kernel
theorem dd_M_read_96 : decode prog_9_method_28_code 96 = .ok (.iconst 0, 1) := by decide +kernel
theorem dd_M_read_97 : decode prog_9_method_28_code 97 = .ok (.aload_n 0, 1) := by decide +kernel
theorem dd_M_read_98 : decode prog_9_method_28_code 98 = .ok (.getfield 128, 3) := by decide +kernel
theorem dd_M_read_101 : decode prog_9_method_28_code 101 = .ok (.invokestatic 138, 3) := by decide +kernel
theorem dd_M_read_104 : decode prog_9_method_28_code 104 = .ok (.iaload, 1) := by decide +kernel
theorem dd_M_read_105 : decode prog_9_method_28_code 105 = .ok (.ifCond .ne 12, 3) := by decide +kernel
theorem dd_M_read_108 : decode prog_9_method_28_code 108 = .ok (.aload_n 0, 1) := by decide +kernel
theorem dd_M_read_109 : decode prog_9_method_28_code 109 = .ok (.iconst 1, 1) := by decide +kernel
theorem dd_M_read_110 : decode prog_9_method_28_code 110 = .ok (.aload_n 0, 1) := by decide +kernel
theorem dd_M_read_111 : decode prog_9_method_28_code 111 = .ok (.getfield 125, 3) := by decide +kernel
theorem dd_M_read_114 : decode prog_9_method_28_code 114 = .ok (.invokevirtual 182, 3) := by decide +kernel
theorem dd_M_read_117 : decode prog_9_method_28_code 117 = .ok (.aload_n 0, 1) := by decide +kernel
theorem dd_M_read_118 : decode prog_9_method_28_code 118 = .ok (.getfield 80, 3) := by decide +kernel
theorem dd_M_read_121 : decode prog_9_method_28_code 121 = .ok (.ifCond .le 5, 3) := by decide +kernel
theorem dd_M_read_124 : decode prog_9_method_28_code 124 = .ok (.iconst 0, 1) := by decide +kernel
theorem dd_M_read_125 : decode prog_9_method_28_code 125 = .ok (.ireturn, 1) := by decide +kernel
theorem dd_M_read_126 : decode prog_9_method_28_code 126 = .ok (.aload_n 0, 1) := by decide +kernel
theorem dd_M_read_127 : decode prog_9_method_28_code 127 = .ok (.getfield 36, 3) := by decide +kernel
theorem dd_M_read_130 : decode prog_9_method_28_code 130 = .ok (.iconst 0, 1) := by decide +kernel
theorem dd_M_read_131 : decode prog_9_method_28_code 131 = .ok (.iconst 0, 1) := by decide +kernel
theorem dd_M_read_132 : decode prog_9_method_28_code 132 = .ok (.aload_n 0, 1) := by decide +kernel
theorem dd_M_read_133 : decode prog_9_method_28_code 133 = .ok (.getfield 128, 3) := by decide +kernel
theorem dd_M_read_136 : decode prog_9_method_28_code 136 = .ok (.invokestatic 138, 3) := by decide +kernel
theorem dd_M_read_139 : decode prog_9_method_28_code 139 = .ok (.iaload, 1) := by decide +kernel
theorem dd_M_read_140 : decode prog_9_method_28_code 140 = .ok (.istore_n 3, 1) := by decide +kernel
theorem dd_M_read_141 : decode prog_9_method_28_code 141 = .ok (.iload_n 3, 1) := by decide +kernel
theorem dd_M_read_142 : decode prog_9_method_28_code 142 = .ok (.iconst 1, 1) := by decide +kernel
theorem dd_M_read_143 : decode prog_9_method_28_code 143 = .ok (.if_icmp .ne 7, 3) := by decide +kernel
theorem dd_M_read_146 : decode prog_9_method_28_code 146 = .ok (.aload_n 0, 1) := by decide +kernel
theorem dd_M_read_147 : decode prog_9_method_28_code 147 = .ok (.invokevirtual 185, 3) := by decide +kernel
theorem dd_M_read_150 : decode prog_9_method_28_code 150 = .ok (.iload_n 3, 1) := by decide +kernel
theorem dd_M_read_151 : decode prog_9_method_28_code 151 = .ok (.ireturn, 1) := by decide +kernel
theorem dd_M_sort_0 : decode prog_9_method_5_code 0 = .ok (.iload_n 0, 1) := by decide +kernel
theorem dd_M_sort_1 : decode prog_9_method_5_code 1 = .ok (.invokestatic 83, 3) := by decide +kernel
theorem dd_M_sort_4 : decode prog_9_method_5_code 4 = .ok (.ifCond .eq 5, 3) := by decide +kernel
theorem dd_M_sort_7 : decode prog_9_method_5_code 7 = .ok (.iconst 1, 1) := by decide +kernel
theorem dd_M_sort_8 : decode prog_9_method_5_code 8 = .ok (.ireturn, 1) := by decide +kernel
theorem dd_M_sort_9 : decode prog_9_method_5_code 9 = .ok (.iload_n 0, 1) := by decide +kernel
theorem dd_M_sort_10 : decode prog_9_method_5_code 10 = .ok (.invokestatic 87, 3) := by decide +kernel
theorem dd_M_sort_13 : decode prog_9_method_5_code 13 = .ok (.ifCond .eq 5, 3) := by decide +kernel
theorem dd_M_sort_16 : decode prog_9_method_5_code 16 = .ok (.iconst 2, 1) := by decide +kernel
theorem dd_M_sort_17 : decode prog_9_method_5_code 17 = .ok (.ireturn, 1) := by decide +kernel
theorem dd_M_sort_18 : decode prog_9_method_5_code 18 = .ok (.iload_n 0, 1) := by decide +kernel
theorem dd_M_sort_19 : decode prog_9_method_5_code 19 = .ok (.tableswitch 393 33 126 #[389, 393, 389, 389, 389, 389, 393, 391, 391, 389, 389, 391, 389, 389, 389, 393, 393, 393, 393, 393, 393, 393, 393, 393, 393, 389, 391, 389, 389, 389, 389, 389, 393, 393, 393, 393, 393, 393, 393, 393, 393, 393, 393, 393, 393, 393, 393, 393, 393, 393, 393, 393, 393, 393, 393, 393, 393, 393, 391, 393, 391, 389, 393, 393, 393, 393, 393, 393, 393, 393, 393, 393, 393, 393, 393, 393, 393, 393, 393, 393, 393, 393, 393, 393, 393, 393, 393, 393, 393, 393, 391, 389, 391, 389], 389) := by decide +kernel
theorem dd_M_sort_408 : decode prog_9_method_5_code 408 = .ok (.iconst 3, 1) := by decide +kernel
theorem dd_M_sort_409 : decode prog_9_method_5_code 409 = .ok (.ireturn, 1) := by decide +kernel
theorem dd_M_sort_410 : decode prog_9_method_5_code 410 = .ok (.iconst 4, 1) := by decide +kernel
theorem dd_M_sort_411 : decode prog_9_method_5_code 411 = .ok (.ireturn, 1) := by decide +kernel
theorem dd_M_sort_412 : decode prog_9_method_5_code 412 = .ok (.iconst 0, 1) := by decide +kernel
theorem dd_M_sort_413 : decode prog_9_method_5_code 413 = .ok (.ireturn, 1) := by decide +kernel
theorem dd_M_takeApart_0 : decode prog_9_method_39_code 0 = .ok (.aload_n 0, 1) := by decide +kernel
theorem dd_M_takeApart_1 : decode prog_9_method_39_code 1 = .ok (.getfield 50, 3) := by decide +kernel
theorem dd_M_takeApart_4 : decode prog_9_method_39_code 4 = .ok (.iload_n 1, 1) := by decide +kernel
theorem dd_M_takeApart_5 : decode prog_9_method_39_code 5 = .ok (.iaload, 1) := by decide +kernel
theorem dd_M_takeApart_6 : decode prog_9_method_39_code 6 = .ok (.iconst (-1), 1) := by decide +kernel
theorem dd_M_takeApart_7 : decode prog_9_method_39_code 7 = .ok (.if_icmp .ne 18, 3) := by decide +kernel
theorem dd_M_takeApart_10 : decode prog_9_method_39_code 10 = .ok (.aload_n 0, 1) := by decide +kernel
theorem dd_M_takeApart_11 : decode prog_9_method_39_code 11 = .ok (.sipush 500, 3) := by decide +kernel
theorem dd_M_takeApart_14 : decode prog_9_method_39_code 14 = .ok (.aload_n 0, 1) := by decide +kernel
theorem dd_M_takeApart_15 : decode prog_9_method_39_code 15 = .ok (.getfield 53, 3) := by decide +kernel
theorem dd_M_takeApart_18 : decode prog_9_method_39_code 18 = .ok (.iload_n 1, 1) := by decide +kernel
theorem dd_M_takeApart_19 : decode prog_9_method_39_code 19 = .ok (.iaload, 1) := by decide +kernel
theorem dd_M_takeApart_20 : decode prog_9_method_39_code 20 = .ok (.iadd, 1) := by decide +kernel
theorem dd_M_takeApart_21 : decode prog_9_method_39_code 21 = .ok (.invokevirtual 211, 3) := by decide +kernel
theorem dd_M_takeApart_24 : decode prog_9_method_39_code 24 = .ok (.return_, 1) := by decide +kernel
theorem dd_M_takeApart_25 : decode prog_9_method_39_code 25 = .ok (.aload_n 0, 1) := by decide +kernel
theorem dd_M_takeApart_26 : decode prog_9_method_39_code 26 = .ok (.getfield 50, 3) := by decide +kernel
theorem dd_M_takeApart_29 : decode prog_9_method_39_code 29 = .ok (.iload_n 1, 1) := by decide +kernel
theorem dd_M_takeApart_30 : decode prog_9_method_39_code 30 = .ok (.iaload, 1) := by decide +kernel
theorem dd_M_takeApart_31 : decode prog_9_method_39_code 31 = .ok (.bipush (-2), 2) := by decide +kernel
theorem dd_M_takeApart_33 : decode prog_9_method_39_code 33 = .ok (.if_icmp .ne 11, 3) := by decide +kernel
theorem dd_M_takeApart_36 : decode prog_9_method_39_code 36 = .ok (.aload_n 0, 1) := by decide +kernel
theorem dd_M_takeApart_37 : decode prog_9_method_39_code 37 = .ok (.iload_n 1, 1) := by decide +kernel
theorem dd_M_takeApart_38 : decode prog_9_method_39_code 38 = .ok (.iconst 1, 1) := by decide +kernel
theorem dd_M_takeApart_39 : decode prog_9_method_39_code 39 = .ok (.iadd, 1) := by decide +kernel
theorem dd_M_takeApart_40 : decode prog_9_method_39_code 40 = .ok (.invokevirtual 211, 3) := by decide +kernel
theorem dd_M_takeApart_43 : decode prog_9_method_39_code 43 = .ok (.return_, 1) := by decide +kernel
theorem dd_M_takeApart_44 : decode prog_9_method_39_code 44 = .ok (.aload_n 0, 1) := by decide +kernel
theorem dd_M_takeApart_45 : decode prog_9_method_39_code 45 = .ok (.getfield 188, 3) := by decide +kernel
theorem dd_M_takeApart_48 : decode prog_9_method_39_code 48 = .ok (.istore_n 2, 1) := by decide +kernel
theorem dd_M_takeApart_49 : decode prog_9_method_39_code 49 = .ok (.aload_n 0, 1) := by decide +kernel
theorem dd_M_takeApart_50 : decode prog_9_method_39_code 50 = .ok (.getfield 53, 3) := by decide +kernel
theorem dd_M_takeApart_53 : decode prog_9_method_39_code 53 = .ok (.iload_n 1, 1) := by decide +kernel
theorem dd_M_takeApart_54 : decode prog_9_method_39_code 54 = .ok (.iaload, 1) := by decide +kernel
theorem dd_M_takeApart_55 : decode prog_9_method_39_code 55 = .ok (.istore_n 3, 1) := by decide +kernel
theorem dd_M_takeApart_56 : decode prog_9_method_39_code 56 = .ok (.iconst 0, 1) := by decide +kernel
theorem dd_M_takeApart_57 : decode prog_9_method_39_code 57 = .ok (.istore 4, 2) := by decide +kernel
theorem dd_M_takeApart_59 : decode prog_9_method_39_code 59 = .ok (.iload 4, 2) := by decide +kernel
theorem dd_M_takeApart_61 : decode prog_9_method_39_code 61 = .ok (.aload_n 0, 1) := by decide +kernel
theorem dd_M_takeApart_62 : decode prog_9_method_39_code 62 = .ok (.getfield 17, 3) := by decide +kernel
theorem dd_M_takeApart_65 : decode prog_9_method_39_code 65 = .ok (.aload_n 0, 1) := by decide +kernel
theorem dd_M_takeApart_66 : decode prog_9_method_39_code 66 = .ok (.getfield 50, 3) := by decide +kernel
theorem dd_M_takeApart_69 : decode prog_9_method_39_code 69 = .ok (.iload_n 1, 1) := by decide +kernel
theorem dd_M_takeApart_70 : decode prog_9_method_39_code 70 = .ok (.iaload, 1) := by decide +kernel
theorem dd_M_takeApart_71 : decode prog_9_method_39_code 71 = .ok (.iaload, 1) := by decide +kernel
theorem dd_M_takeApart_72 : decode prog_9_method_39_code 72 = .ok (.if_icmp .ge 149, 3) := by decide +kernel
theorem dd_M_takeApart_75 : decode prog_9_method_39_code 75 = .ok (.aload_n 0, 1) := by decide +kernel
theorem dd_M_takeApart_76 : decode prog_9_method_39_code 76 = .ok (.getfield 7, 3) := by decide +kernel
theorem dd_M_takeApart_79 : decode prog_9_method_39_code 79 = .ok (.bipush 7, 2) := by decide +kernel
theorem dd_M_takeApart_81 : decode prog_9_method_39_code 81 = .ok (.aload_n 0, 1) := by decide +kernel
theorem dd_M_takeApart_82 : decode prog_9_method_39_code 82 = .ok (.getfield 50, 3) := by decide +kernel
theorem dd_M_takeApart_85 : decode prog_9_method_39_code 85 = .ok (.iload_n 1, 1) := by decide +kernel
theorem dd_M_takeApart_86 : decode prog_9_method_39_code 86 = .ok (.iaload, 1) := by decide +kernel
theorem dd_M_takeApart_87 : decode prog_9_method_39_code 87 = .ok (.imul, 1) := by decide +kernel
theorem dd_M_takeApart_88 : decode prog_9_method_39_code 88 = .ok (.iload 4, 2) := by decide +kernel
theorem dd_M_takeApart_90 : decode prog_9_method_39_code 90 = .ok (.iadd, 1) := by decide +kernel
theorem dd_M_takeApart_91 : decode prog_9_method_39_code 91 = .ok (.iaload, 1) := by decide +kernel
theorem dd_M_takeApart_92 : decode prog_9_method_39_code 92 = .ok (.istore 5, 2) := by decide +kernel
theorem dd_M_takeApart_94 : decode prog_9_method_39_code 94 = .ok (.iload 5, 2) := by decide +kernel
theorem dd_M_takeApart_96 : decode prog_9_method_39_code 96 = .ok (.iconst (-1), 1) := by decide +kernel
theorem dd_M_takeApart_97 : decode prog_9_method_39_code 97 = .ok (.if_icmp .ne 18, 3) := by decide +kernel
theorem dd_M_takeApart_100 : decode prog_9_method_39_code 100 = .ok (.aload_n 0, 1) := by decide +kernel
theorem dd_M_takeApart_101 : decode prog_9_method_39_code 101 = .ok (.sipush 500, 3) := by decide +kernel
theorem dd_M_takeApart_104 : decode prog_9_method_39_code 104 = .ok (.iload_n 3, 1) := by decide +kernel
theorem dd_M_takeApart_105 : decode prog_9_method_39_code 105 = .ok (.iadd, 1) := by decide +kernel
theorem dd_M_takeApart_106 : decode prog_9_method_39_code 106 = .ok (.invokevirtual 211, 3) := by decide +kernel
theorem dd_M_takeApart_109 : decode prog_9_method_39_code 109 = .ok (.iinc 3 1, 3) := by decide +kernel
theorem dd_M_takeApart_112 : decode prog_9_method_39_code 112 = .ok (.goto 103, 3) := by decide +kernel
theorem dd_M_takeApart_115 : decode prog_9_method_39_code 115 = .ok (.aload_n 0, 1) := by decide +kernel
theorem dd_M_takeApart_116 : decode prog_9_method_39_code 116 = .ok (.iload_n 1, 1) := by decide +kernel
theorem dd_M_takeApart_117 : decode prog_9_method_39_code 117 = .ok (.iload_n 3, 1) := by decide +kernel
theorem dd_M_takeApart_118 : decode prog_9_method_39_code 118 = .ok (.invokevirtual 214, 3) := by decide +kernel
theorem dd_M_takeApart_121 : decode prog_9_method_39_code 121 = .ok (.istore 6, 2) := by decide +kernel
theorem dd_M_takeApart_123 : decode prog_9_method_39_code 123 = .ok (.iload_n 3, 1) := by decide +kernel
theorem dd_M_takeApart_124 : decode prog_9_method_39_code 124 = .ok (.aload_n 0, 1) := by decide +kernel
theorem dd_M_takeApart_125 : decode prog_9_method_39_code 125 = .ok (.getfield 56, 3) := by decide +kernel
theorem dd_M_takeApart_128 : decode prog_9_method_39_code 128 = .ok (.iload 6, 2) := by decide +kernel
theorem dd_M_takeApart_130 : decode prog_9_method_39_code 130 = .ok (.iaload, 1) := by decide +kernel
theorem dd_M_takeApart_131 : decode prog_9_method_39_code 131 = .ok (.iadd, 1) := by decide +kernel
theorem dd_M_takeApart_132 : decode prog_9_method_39_code 132 = .ok (.istore_n 3, 1) := by decide +kernel
theorem dd_M_takeApart_133 : decode prog_9_method_39_code 133 = .ok (.aload_n 0, 1) := by decide +kernel
theorem dd_M_takeApart_134 : decode prog_9_method_39_code 134 = .ok (.getfield 50, 3) := by decide +kernel
theorem dd_M_takeApart_137 : decode prog_9_method_39_code 137 = .ok (.iload 6, 2) := by decide +kernel
theorem dd_M_takeApart_139 : decode prog_9_method_39_code 139 = .ok (.iaload, 1) := by decide +kernel
theorem dd_M_takeApart_140 : decode prog_9_method_39_code 140 = .ok (.bipush (-2), 2) := by decide +kernel
theorem dd_M_takeApart_142 : decode prog_9_method_39_code 142 = .ok (.if_icmp .ne 9, 3) := by decide +kernel
theorem dd_M_takeApart_145 : decode prog_9_method_39_code 145 = .ok (.iinc 6 1, 3) := by decide +kernel
theorem dd_M_takeApart_148 : decode prog_9_method_39_code 148 = .ok (.goto (-15), 3) := by decide +kernel
theorem dd_M_takeApart_151 : decode prog_9_method_39_code 151 = .ok (.aload_n 0, 1) := by decide +kernel
theorem dd_M_takeApart_152 : decode prog_9_method_39_code 152 = .ok (.getfield 50, 3) := by decide +kernel
theorem dd_M_takeApart_155 : decode prog_9_method_39_code 155 = .ok (.iload 6, 2) := by decide +kernel
theorem dd_M_takeApart_157 : decode prog_9_method_39_code 157 = .ok (.iaload, 1) := by decide +kernel
theorem dd_M_takeApart_158 : decode prog_9_method_39_code 158 = .ok (.ifCond .lt 24, 3) := by decide +kernel
theorem dd_M_takeApart_161 : decode prog_9_method_39_code 161 = .ok (.iload 5, 2) := by decide +kernel
theorem dd_M_takeApart_163 : decode prog_9_method_39_code 163 = .ok (.aload_n 0, 1) := by decide +kernel
theorem dd_M_takeApart_164 : decode prog_9_method_39_code 164 = .ok (.getfield 20, 3) := by decide +kernel
theorem dd_M_takeApart_167 : decode prog_9_method_39_code 167 = .ok (.aload_n 0, 1) := by decide +kernel
theorem dd_M_takeApart_168 : decode prog_9_method_39_code 168 = .ok (.getfield 50, 3) := by decide +kernel
theorem dd_M_takeApart_171 : decode prog_9_method_39_code 171 = .ok (.iload 6, 2) := by decide +kernel
theorem dd_M_takeApart_173 : decode prog_9_method_39_code 173 = .ok (.iaload, 1) := by decide +kernel
theorem dd_M_takeApart_174 : decode prog_9_method_39_code 174 = .ok (.iaload, 1) := by decide +kernel
theorem dd_M_takeApart_175 : decode prog_9_method_39_code 175 = .ok (.if_icmp .le 7, 3) := by decide +kernel
theorem dd_M_takeApart_178 : decode prog_9_method_39_code 178 = .ok (.iconst 1, 1) := by decide +kernel
theorem dd_M_takeApart_179 : decode prog_9_method_39_code 179 = .ok (.goto 4, 3) := by decide +kernel
theorem dd_M_takeApart_182 : decode prog_9_method_39_code 182 = .ok (.iconst 0, 1) := by decide +kernel
theorem dd_M_takeApart_183 : decode prog_9_method_39_code 183 = .ok (.istore 7, 2) := by decide +kernel
theorem dd_M_takeApart_185 : decode prog_9_method_39_code 185 = .ok (.iload 7, 2) := by decide +kernel
theorem dd_M_takeApart_187 : decode prog_9_method_39_code 187 = .ok (.ifCond .eq 10, 3) := by decide +kernel
theorem dd_M_takeApart_190 : decode prog_9_method_39_code 190 = .ok (.aload_n 0, 1) := by decide +kernel
theorem dd_M_takeApart_191 : decode prog_9_method_39_code 191 = .ok (.sipush 1000, 3) := by decide +kernel
theorem dd_M_takeApart_194 : decode prog_9_method_39_code 194 = .ok (.invokevirtual 211, 3) := by decide +kernel
theorem dd_M_takeApart_197 : decode prog_9_method_39_code 197 = .ok (.aload_n 0, 1) := by decide +kernel
theorem dd_M_takeApart_198 : decode prog_9_method_39_code 198 = .ok (.iload 6, 2) := by decide +kernel
theorem dd_M_takeApart_200 : decode prog_9_method_39_code 200 = .ok (.invokevirtual 211, 3) := by decide +kernel
theorem dd_M_takeApart_203 : decode prog_9_method_39_code 203 = .ok (.iload 7, 2) := by decide +kernel
theorem dd_M_takeApart_205 : decode prog_9_method_39_code 205 = .ok (.ifCond .eq 10, 3) := by decide +kernel
theorem dd_M_takeApart_208 : decode prog_9_method_39_code 208 = .ok (.aload_n 0, 1) := by decide +kernel
theorem dd_M_takeApart_209 : decode prog_9_method_39_code 209 = .ok (.sipush 1001, 3) := by decide +kernel
theorem dd_M_takeApart_212 : decode prog_9_method_39_code 212 = .ok (.invokevirtual 211, 3) := by decide +kernel
theorem dd_M_takeApart_215 : decode prog_9_method_39_code 215 = .ok (.iinc 4 1, 3) := by decide +kernel
theorem dd_M_takeApart_218 : decode prog_9_method_39_code 218 = .ok (.goto (-159), 3) := by decide +kernel
theorem dd_M_takeApart_221 : decode prog_9_method_39_code 221 = .ok (.iload_n 2, 1) := by decide +kernel
theorem dd_M_takeApart_222 : decode prog_9_method_39_code 222 = .ok (.istore 4, 2) := by decide +kernel
theorem dd_M_takeApart_224 : decode prog_9_method_39_code 224 = .ok (.aload_n 0, 1) := by decide +kernel
theorem dd_M_takeApart_225 : decode prog_9_method_39_code 225 = .ok (.getfield 188, 3) := by decide +kernel
theorem dd_M_takeApart_228 : decode prog_9_method_39_code 228 = .ok (.iconst 1, 1) := by decide +kernel
theorem dd_M_takeApart_229 : decode prog_9_method_39_code 229 = .ok (.isub, 1) := by decide +kernel
theorem dd_M_takeApart_230 : decode prog_9_method_39_code 230 = .ok (.istore 5, 2) := by decide +kernel
theorem dd_M_takeApart_232 : decode prog_9_method_39_code 232 = .ok (.iload 4, 2) := by decide +kernel
theorem dd_M_takeApart_234 : decode prog_9_method_39_code 234 = .ok (.iload 5, 2) := by decide +kernel
theorem dd_M_takeApart_236 : decode prog_9_method_39_code 236 = .ok (.if_icmp .ge 44, 3) := by decide +kernel
theorem dd_M_takeApart_239 : decode prog_9_method_39_code 239 = .ok (.aload_n 0, 1) := by decide +kernel
theorem dd_M_takeApart_240 : decode prog_9_method_39_code 240 = .ok (.getfield 77, 3) := by decide +kernel
theorem dd_M_takeApart_243 : decode prog_9_method_39_code 243 = .ok (.iload 4, 2) := by decide +kernel
theorem dd_M_takeApart_245 : decode prog_9_method_39_code 245 = .ok (.iaload, 1) := by decide +kernel
theorem dd_M_takeApart_246 : decode prog_9_method_39_code 246 = .ok (.istore 6, 2) := by decide +kernel
theorem dd_M_takeApart_248 : decode prog_9_method_39_code 248 = .ok (.aload_n 0, 1) := by decide +kernel
theorem dd_M_takeApart_249 : decode prog_9_method_39_code 249 = .ok (.getfield 77, 3) := by decide +kernel
theorem dd_M_takeApart_252 : decode prog_9_method_39_code 252 = .ok (.iload 4, 2) := by decide +kernel
theorem dd_M_takeApart_254 : decode prog_9_method_39_code 254 = .ok (.aload_n 0, 1) := by decide +kernel
theorem dd_M_takeApart_255 : decode prog_9_method_39_code 255 = .ok (.getfield 77, 3) := by decide +kernel
theorem dd_M_takeApart_258 : decode prog_9_method_39_code 258 = .ok (.iload 5, 2) := by decide +kernel
theorem dd_M_takeApart_260 : decode prog_9_method_39_code 260 = .ok (.iaload, 1) := by decide +kernel
theorem dd_M_takeApart_261 : decode prog_9_method_39_code 261 = .ok (.iastore, 1) := by decide +kernel
theorem dd_M_takeApart_262 : decode prog_9_method_39_code 262 = .ok (.aload_n 0, 1) := by decide +kernel
theorem dd_M_takeApart_263 : decode prog_9_method_39_code 263 = .ok (.getfield 77, 3) := by decide +kernel
theorem dd_M_takeApart_266 : decode prog_9_method_39_code 266 = .ok (.iload 5, 2) := by decide +kernel
theorem dd_M_takeApart_268 : decode prog_9_method_39_code 268 = .ok (.iload 6, 2) := by decide +kernel
theorem dd_M_takeApart_270 : decode prog_9_method_39_code 270 = .ok (.iastore, 1) := by decide +kernel
theorem dd_M_takeApart_271 : decode prog_9_method_39_code 271 = .ok (.iinc 4 1, 3) := by decide +kernel
theorem dd_M_takeApart_274 : decode prog_9_method_39_code 274 = .ok (.iinc 5 (-1), 3) := by decide +kernel
theorem dd_M_takeApart_277 : decode prog_9_method_39_code 277 = .ok (.goto (-45), 3) := by decide +kernel
theorem dd_M_takeApart_280 : decode prog_9_method_39_code 280 = .ok (.return_, 1) := by decide +kernel
theorem dd_M_takeWords_0 : decode prog_9_method_16_code 0 = .ok (.aload_n 0, 1) := by decide +kernel
theorem dd_M_takeWords_1 : decode prog_9_method_16_code 1 = .ok (.iconst 0, 1) := by decide +kernel
theorem dd_M_takeWords_2 : decode prog_9_method_16_code 2 = .ok (.putfield 128, 3) := by decide +kernel
theorem dd_M_takeWords_5 : decode prog_9_method_16_code 5 = .ok (.iconst 0, 1) := by decide +kernel
theorem dd_M_takeWords_6 : decode prog_9_method_16_code 6 = .ok (.istore_n 1, 1) := by decide +kernel
theorem dd_M_takeWords_7 : decode prog_9_method_16_code 7 = .ok (.iload_n 1, 1) := by decide +kernel
theorem dd_M_takeWords_8 : decode prog_9_method_16_code 8 = .ok (.aload_n 0, 1) := by decide +kernel
theorem dd_M_takeWords_9 : decode prog_9_method_16_code 9 = .ok (.getfield 125, 3) := by decide +kernel
theorem dd_M_takeWords_12 : decode prog_9_method_16_code 12 = .ok (.if_icmp .ge 170, 3) := by decide +kernel
theorem dd_M_takeWords_15 : decode prog_9_method_16_code 15 = .ok (.aload_n 0, 1) := by decide +kernel
theorem dd_M_takeWords_16 : decode prog_9_method_16_code 16 = .ok (.getfield 23, 3) := by decide +kernel
theorem dd_M_takeWords_19 : decode prog_9_method_16_code 19 = .ok (.iload_n 1, 1) := by decide +kernel
theorem dd_M_takeWords_20 : decode prog_9_method_16_code 20 = .ok (.iaload, 1) := by decide +kernel
theorem dd_M_takeWords_21 : decode prog_9_method_16_code 21 = .ok (.bipush 32, 2) := by decide +kernel
theorem dd_M_takeWords_23 : decode prog_9_method_16_code 23 = .ok (.if_icmp .eq 14, 3) := by decide +kernel
theorem dd_M_takeWords_26 : decode prog_9_method_16_code 26 = .ok (.aload_n 0, 1) := by decide +kernel
theorem dd_M_takeWords_27 : decode prog_9_method_16_code 27 = .ok (.getfield 23, 3) := by decide +kernel
theorem dd_M_takeWords_30 : decode prog_9_method_16_code 30 = .ok (.iload_n 1, 1) := by decide +kernel
theorem dd_M_takeWords_31 : decode prog_9_method_16_code 31 = .ok (.iaload, 1) := by decide +kernel
theorem dd_M_takeWords_32 : decode prog_9_method_16_code 32 = .ok (.bipush 10, 2) := by decide +kernel
theorem dd_M_takeWords_34 : decode prog_9_method_16_code 34 = .ok (.if_icmp .ne 9, 3) := by decide +kernel
theorem dd_M_takeWords_37 : decode prog_9_method_16_code 37 = .ok (.iinc 1 1, 3) := by decide +kernel
theorem dd_M_takeWords_40 : decode prog_9_method_16_code 40 = .ok (.goto (-33), 3) := by decide +kernel
theorem dd_M_takeWords_43 : decode prog_9_method_16_code 43 = .ok (.aload_n 0, 1) := by decide +kernel
theorem dd_M_takeWords_44 : decode prog_9_method_16_code 44 = .ok (.getfield 23, 3) := by decide +kernel
theorem dd_M_takeWords_47 : decode prog_9_method_16_code 47 = .ok (.iload_n 1, 1) := by decide +kernel
theorem dd_M_takeWords_48 : decode prog_9_method_16_code 48 = .ok (.iaload, 1) := by decide +kernel
theorem dd_M_takeWords_49 : decode prog_9_method_16_code 49 = .ok (.invokestatic 96, 3) := by decide +kernel
theorem dd_M_takeWords_52 : decode prog_9_method_16_code 52 = .ok (.istore_n 2, 1) := by decide +kernel
theorem dd_M_takeWords_53 : decode prog_9_method_16_code 53 = .ok (.iload_n 1, 1) := by decide +kernel
theorem dd_M_takeWords_54 : decode prog_9_method_16_code 54 = .ok (.iconst 1, 1) := by decide +kernel
theorem dd_M_takeWords_55 : decode prog_9_method_16_code 55 = .ok (.iadd, 1) := by decide +kernel
theorem dd_M_takeWords_56 : decode prog_9_method_16_code 56 = .ok (.istore_n 3, 1) := by decide +kernel
theorem dd_M_takeWords_57 : decode prog_9_method_16_code 57 = .ok (.iload_n 2, 1) := by decide +kernel
theorem dd_M_takeWords_58 : decode prog_9_method_16_code 58 = .ok (.iconst 4, 1) := by decide +kernel
theorem dd_M_takeWords_59 : decode prog_9_method_16_code 59 = .ok (.if_icmp .ge 30, 3) := by decide +kernel
theorem dd_M_takeWords_62 : decode prog_9_method_16_code 62 = .ok (.iload_n 3, 1) := by decide +kernel
theorem dd_M_takeWords_63 : decode prog_9_method_16_code 63 = .ok (.aload_n 0, 1) := by decide +kernel
theorem dd_M_takeWords_64 : decode prog_9_method_16_code 64 = .ok (.getfield 125, 3) := by decide +kernel
theorem dd_M_takeWords_67 : decode prog_9_method_16_code 67 = .ok (.if_icmp .ge 22, 3) := by decide +kernel
theorem dd_M_takeWords_70 : decode prog_9_method_16_code 70 = .ok (.aload_n 0, 1) := by decide +kernel
theorem dd_M_takeWords_71 : decode prog_9_method_16_code 71 = .ok (.getfield 23, 3) := by decide +kernel
theorem dd_M_takeWords_74 : decode prog_9_method_16_code 74 = .ok (.iload_n 3, 1) := by decide +kernel
theorem dd_M_takeWords_75 : decode prog_9_method_16_code 75 = .ok (.iaload, 1) := by decide +kernel
theorem dd_M_takeWords_76 : decode prog_9_method_16_code 76 = .ok (.invokestatic 96, 3) := by decide +kernel
theorem dd_M_takeWords_79 : decode prog_9_method_16_code 79 = .ok (.iload_n 2, 1) := by decide +kernel
theorem dd_M_takeWords_80 : decode prog_9_method_16_code 80 = .ok (.if_icmp .ne 9, 3) := by decide +kernel
theorem dd_M_takeWords_83 : decode prog_9_method_16_code 83 = .ok (.iinc 3 1, 3) := by decide +kernel
theorem dd_M_takeWords_86 : decode prog_9_method_16_code 86 = .ok (.goto (-29), 3) := by decide +kernel
theorem dd_M_takeWords_89 : decode prog_9_method_16_code 89 = .ok (.iload_n 2, 1) := by decide +kernel
theorem dd_M_takeWords_90 : decode prog_9_method_16_code 90 = .ok (.ifCond .eq 20, 3) := by decide +kernel
theorem dd_M_takeWords_93 : decode prog_9_method_16_code 93 = .ok (.iload_n 3, 1) := by decide +kernel
theorem dd_M_takeWords_94 : decode prog_9_method_16_code 94 = .ok (.iload_n 1, 1) := by decide +kernel
theorem dd_M_takeWords_95 : decode prog_9_method_16_code 95 = .ok (.isub, 1) := by decide +kernel
theorem dd_M_takeWords_96 : decode prog_9_method_16_code 96 = .ok (.bipush 8, 2) := by decide +kernel
theorem dd_M_takeWords_98 : decode prog_9_method_16_code 98 = .ok (.if_icmp .gt 12, 3) := by decide +kernel
theorem dd_M_takeWords_101 : decode prog_9_method_16_code 101 = .ok (.aload_n 0, 1) := by decide +kernel
theorem dd_M_takeWords_102 : decode prog_9_method_16_code 102 = .ok (.getfield 128, 3) := by decide +kernel
theorem dd_M_takeWords_105 : decode prog_9_method_16_code 105 = .ok (.bipush 30, 2) := by decide +kernel
theorem dd_M_takeWords_107 : decode prog_9_method_16_code 107 = .ok (.if_icmp .ne 5, 3) := by decide +kernel
theorem dd_M_takeWords_110 : decode prog_9_method_16_code 110 = .ok (.iload_n 1, 1) := by decide +kernel
theorem dd_M_takeWords_111 : decode prog_9_method_16_code 111 = .ok (.ireturn, 1) := by decide +kernel
theorem dd_M_takeWords_112 : decode prog_9_method_16_code 112 = .ok (.lconst 0, 1) := by decide +kernel
theorem dd_M_takeWords_113 : decode prog_9_method_16_code 113 = .ok (.lstore 4, 2) := by decide +kernel
theorem dd_M_takeWords_115 : decode prog_9_method_16_code 115 = .ok (.iload_n 1, 1) := by decide +kernel
theorem dd_M_takeWords_116 : decode prog_9_method_16_code 116 = .ok (.istore 6, 2) := by decide +kernel
theorem dd_M_takeWords_118 : decode prog_9_method_16_code 118 = .ok (.iload 6, 2) := by decide +kernel
theorem dd_M_takeWords_120 : decode prog_9_method_16_code 120 = .ok (.iload_n 3, 1) := by decide +kernel
theorem dd_M_takeWords_121 : decode prog_9_method_16_code 121 = .ok (.if_icmp .ge 25, 3) := by decide +kernel
theorem dd_M_takeWords_124 : decode prog_9_method_16_code 124 = .ok (.lload 4, 2) := by decide +kernel
theorem dd_M_takeWords_126 : decode prog_9_method_16_code 126 = .ok (.bipush 8, 2) := by decide +kernel
theorem dd_M_takeWords_128 : decode prog_9_method_16_code 128 = .ok (.lshl, 1) := by decide +kernel
theorem dd_M_takeWords_129 : decode prog_9_method_16_code 129 = .ok (.aload_n 0, 1) := by decide +kernel
theorem dd_M_takeWords_130 : decode prog_9_method_16_code 130 = .ok (.getfield 23, 3) := by decide +kernel
theorem dd_M_takeWords_133 : decode prog_9_method_16_code 133 = .ok (.iload 6, 2) := by decide +kernel
theorem dd_M_takeWords_135 : decode prog_9_method_16_code 135 = .ok (.iaload, 1) := by decide +kernel
theorem dd_M_takeWords_136 : decode prog_9_method_16_code 136 = .ok (.i2l, 1) := by decide +kernel
theorem dd_M_takeWords_137 : decode prog_9_method_16_code 137 = .ok (.lor, 1) := by decide +kernel
theorem dd_M_takeWords_138 : decode prog_9_method_16_code 138 = .ok (.lstore 4, 2) := by decide +kernel
theorem dd_M_takeWords_140 : decode prog_9_method_16_code 140 = .ok (.iinc 6 1, 3) := by decide +kernel
theorem dd_M_takeWords_143 : decode prog_9_method_16_code 143 = .ok (.goto (-25), 3) := by decide +kernel
theorem dd_M_takeWords_146 : decode prog_9_method_16_code 146 = .ok (.aload_n 0, 1) := by decide +kernel
theorem dd_M_takeWords_147 : decode prog_9_method_16_code 147 = .ok (.getfield 30, 3) := by decide +kernel
theorem dd_M_takeWords_150 : decode prog_9_method_16_code 150 = .ok (.aload_n 0, 1) := by decide +kernel
theorem dd_M_takeWords_151 : decode prog_9_method_16_code 151 = .ok (.getfield 128, 3) := by decide +kernel
theorem dd_M_takeWords_154 : decode prog_9_method_16_code 154 = .ok (.lload 4, 2) := by decide +kernel
theorem dd_M_takeWords_156 : decode prog_9_method_16_code 156 = .ok (.lastore, 1) := by decide +kernel
theorem dd_M_takeWords_157 : decode prog_9_method_16_code 157 = .ok (.aload_n 0, 1) := by decide +kernel
theorem dd_M_takeWords_158 : decode prog_9_method_16_code 158 = .ok (.getfield 33, 3) := by decide +kernel
theorem dd_M_takeWords_161 : decode prog_9_method_16_code 161 = .ok (.aload_n 0, 1) := by decide +kernel
theorem dd_M_takeWords_162 : decode prog_9_method_16_code 162 = .ok (.getfield 128, 3) := by decide +kernel
theorem dd_M_takeWords_165 : decode prog_9_method_16_code 165 = .ok (.iload_n 1, 1) := by decide +kernel
theorem dd_M_takeWords_166 : decode prog_9_method_16_code 166 = .ok (.iastore, 1) := by decide +kernel
theorem dd_M_takeWords_167 : decode prog_9_method_16_code 167 = .ok (.aload_n 0, 1) := by decide +kernel
theorem dd_M_takeWords_168 : decode prog_9_method_16_code 168 = .ok (.dup, 1) := by decide +kernel
theorem dd_M_takeWords_169 : decode prog_9_method_16_code 169 = .ok (.getfield 128, 3) := by decide +kernel
theorem dd_M_takeWords_172 : decode prog_9_method_16_code 172 = .ok (.iconst 1, 1) := by decide +kernel
theorem dd_M_takeWords_173 : decode prog_9_method_16_code 173 = .ok (.iadd, 1) := by decide +kernel
theorem dd_M_takeWords_174 : decode prog_9_method_16_code 174 = .ok (.putfield 128, 3) := by decide +kernel
theorem dd_M_takeWords_177 : decode prog_9_method_16_code 177 = .ok (.iload_n 3, 1) := by decide +kernel
theorem dd_M_takeWords_178 : decode prog_9_method_16_code 178 = .ok (.istore_n 1, 1) := by decide +kernel
theorem dd_M_takeWords_179 : decode prog_9_method_16_code 179 = .ok (.goto (-172), 3) := by decide +kernel
theorem dd_M_takeWords_182 : decode prog_9_method_16_code 182 = .ok (.iconst (-1), 1) := by decide +kernel
theorem dd_M_takeWords_183 : decode prog_9_method_16_code 183 = .ok (.ireturn, 1) := by decide +kernel
theorem dd_M_thrown_0 : decode prog_9_method_2_code 0 = .ok (.aload_n 0, 1) := by decide +kernel
theorem dd_M_thrown_1 : decode prog_9_method_2_code 1 = .ok (.getfield 80, 3) := by decide +kernel
theorem dd_M_thrown_4 : decode prog_9_method_2_code 4 = .ok (.ireturn, 1) := by decide +kernel
theorem dd_M_waysOf_0 : decode prog_9_method_21_code 0 = .ok (.bipush 7, 2) := by decide +kernel
theorem dd_M_waysOf_2 : decode prog_9_method_21_code 2 = .ok (.iload_n 1, 1) := by decide +kernel
theorem dd_M_waysOf_3 : decode prog_9_method_21_code 3 = .ok (.imul, 1) := by decide +kernel
theorem dd_M_waysOf_4 : decode prog_9_method_21_code 4 = .ok (.iload_n 2, 1) := by decide +kernel
theorem dd_M_waysOf_5 : decode prog_9_method_21_code 5 = .ok (.iadd, 1) := by decide +kernel
theorem dd_M_waysOf_6 : decode prog_9_method_21_code 6 = .ok (.istore 5, 2) := by decide +kernel
theorem dd_M_waysOf_8 : decode prog_9_method_21_code 8 = .ok (.iload_n 2, 1) := by decide +kernel
theorem dd_M_waysOf_9 : decode prog_9_method_21_code 9 = .ok (.aload_n 0, 1) := by decide +kernel
theorem dd_M_waysOf_10 : decode prog_9_method_21_code 10 = .ok (.getfield 17, 3) := by decide +kernel
theorem dd_M_waysOf_13 : decode prog_9_method_21_code 13 = .ok (.iload_n 1, 1) := by decide +kernel
theorem dd_M_waysOf_14 : decode prog_9_method_21_code 14 = .ok (.iaload, 1) := by decide +kernel
theorem dd_M_waysOf_15 : decode prog_9_method_21_code 15 = .ok (.if_icmp .ne 15, 3) := by decide +kernel
theorem dd_M_waysOf_18 : decode prog_9_method_21_code 18 = .ok (.iload_n 3, 1) := by decide +kernel
theorem dd_M_waysOf_19 : decode prog_9_method_21_code 19 = .ok (.iload 4, 2) := by decide +kernel
theorem dd_M_waysOf_21 : decode prog_9_method_21_code 21 = .ok (.if_icmp .ne 7, 3) := by decide +kernel
theorem dd_M_waysOf_24 : decode prog_9_method_21_code 24 = .ok (.iconst 1, 1) := by decide +kernel
theorem dd_M_waysOf_25 : decode prog_9_method_21_code 25 = .ok (.goto 4, 3) := by decide +kernel
theorem dd_M_waysOf_28 : decode prog_9_method_21_code 28 = .ok (.iconst 0, 1) := by decide +kernel
theorem dd_M_waysOf_29 : decode prog_9_method_21_code 29 = .ok (.ireturn, 1) := by decide +kernel
theorem dd_M_waysOf_30 : decode prog_9_method_21_code 30 = .ok (.aload_n 0, 1) := by decide +kernel
theorem dd_M_waysOf_31 : decode prog_9_method_21_code 31 = .ok (.getfield 7, 3) := by decide +kernel
theorem dd_M_waysOf_34 : decode prog_9_method_21_code 34 = .ok (.iload 5, 2) := by decide +kernel
theorem dd_M_waysOf_36 : decode prog_9_method_21_code 36 = .ok (.iaload, 1) := by decide +kernel
theorem dd_M_waysOf_37 : decode prog_9_method_21_code 37 = .ok (.iconst (-1), 1) := by decide +kernel
theorem dd_M_waysOf_38 : decode prog_9_method_21_code 38 = .ok (.if_icmp .ne 48, 3) := by decide +kernel
theorem dd_M_waysOf_41 : decode prog_9_method_21_code 41 = .ok (.iload_n 3, 1) := by decide +kernel
theorem dd_M_waysOf_42 : decode prog_9_method_21_code 42 = .ok (.iload 4, 2) := by decide +kernel
theorem dd_M_waysOf_44 : decode prog_9_method_21_code 44 = .ok (.if_icmp .ge 40, 3) := by decide +kernel
theorem dd_M_waysOf_47 : decode prog_9_method_21_code 47 = .ok (.aload_n 0, 1) := by decide +kernel
theorem dd_M_waysOf_48 : decode prog_9_method_21_code 48 = .ok (.getfield 30, 3) := by decide +kernel
theorem dd_M_waysOf_51 : decode prog_9_method_21_code 51 = .ok (.iload_n 3, 1) := by decide +kernel
theorem dd_M_waysOf_52 : decode prog_9_method_21_code 52 = .ok (.laload, 1) := by decide +kernel
theorem dd_M_waysOf_53 : decode prog_9_method_21_code 53 = .ok (.aload_n 0, 1) := by decide +kernel
theorem dd_M_waysOf_54 : decode prog_9_method_21_code 54 = .ok (.getfield 13, 3) := by decide +kernel
theorem dd_M_waysOf_57 : decode prog_9_method_21_code 57 = .ok (.iload 5, 2) := by decide +kernel
theorem dd_M_waysOf_59 : decode prog_9_method_21_code 59 = .ok (.laload, 1) := by decide +kernel
theorem dd_M_waysOf_60 : decode prog_9_method_21_code 60 = .ok (.lcmp, 1) := by decide +kernel
theorem dd_M_waysOf_61 : decode prog_9_method_21_code 61 = .ok (.ifCond .ne 23, 3) := by decide +kernel
theorem dd_M_waysOf_64 : decode prog_9_method_21_code 64 = .ok (.aload_n 0, 1) := by decide +kernel
theorem dd_M_waysOf_65 : decode prog_9_method_21_code 65 = .ok (.getfield 40, 3) := by decide +kernel
theorem dd_M_waysOf_68 : decode prog_9_method_21_code 68 = .ok (.iload 5, 2) := by decide +kernel
theorem dd_M_waysOf_70 : decode prog_9_method_21_code 70 = .ok (.iconst 1, 1) := by decide +kernel
theorem dd_M_waysOf_71 : decode prog_9_method_21_code 71 = .ok (.iadd, 1) := by decide +kernel
theorem dd_M_waysOf_72 : decode prog_9_method_21_code 72 = .ok (.iload_n 3, 1) := by decide +kernel
theorem dd_M_waysOf_73 : decode prog_9_method_21_code 73 = .ok (.iconst 1, 1) := by decide +kernel
theorem dd_M_waysOf_74 : decode prog_9_method_21_code 74 = .ok (.iadd, 1) := by decide +kernel
theorem dd_M_waysOf_75 : decode prog_9_method_21_code 75 = .ok (.iload 4, 2) := by decide +kernel
theorem dd_M_waysOf_77 : decode prog_9_method_21_code 77 = .ok (.invokestatic 138, 3) := by decide +kernel
theorem dd_M_waysOf_80 : decode prog_9_method_21_code 80 = .ok (.iaload, 1) := by decide +kernel
theorem dd_M_waysOf_81 : decode prog_9_method_21_code 81 = .ok (.goto 4, 3) := by decide +kernel
theorem dd_M_waysOf_84 : decode prog_9_method_21_code 84 = .ok (.iconst 0, 1) := by decide +kernel
theorem dd_M_waysOf_85 : decode prog_9_method_21_code 85 = .ok (.ireturn, 1) := by decide +kernel
theorem dd_M_waysOf_86 : decode prog_9_method_21_code 86 = .ok (.lconst 0, 1) := by decide +kernel
theorem dd_M_waysOf_87 : decode prog_9_method_21_code 87 = .ok (.lstore 6, 2) := by decide +kernel
theorem dd_M_waysOf_89 : decode prog_9_method_21_code 89 = .ok (.iload_n 3, 1) := by decide +kernel
theorem dd_M_waysOf_90 : decode prog_9_method_21_code 90 = .ok (.iconst 1, 1) := by decide +kernel
theorem dd_M_waysOf_91 : decode prog_9_method_21_code 91 = .ok (.iadd, 1) := by decide +kernel
theorem dd_M_waysOf_92 : decode prog_9_method_21_code 92 = .ok (.istore 8, 2) := by decide +kernel
theorem dd_M_waysOf_94 : decode prog_9_method_21_code 94 = .ok (.iload 8, 2) := by decide +kernel
theorem dd_M_waysOf_96 : decode prog_9_method_21_code 96 = .ok (.iload 4, 2) := by decide +kernel
theorem dd_M_waysOf_98 : decode prog_9_method_21_code 98 = .ok (.if_icmp .gt 55, 3) := by decide +kernel
theorem dd_M_waysOf_101 : decode prog_9_method_21_code 101 = .ok (.lload 6, 2) := by decide +kernel
theorem dd_M_waysOf_103 : decode prog_9_method_21_code 103 = .ok (.aload_n 0, 1) := by decide +kernel
theorem dd_M_waysOf_104 : decode prog_9_method_21_code 104 = .ok (.getfield 36, 3) := by decide +kernel
theorem dd_M_waysOf_107 : decode prog_9_method_21_code 107 = .ok (.aload_n 0, 1) := by decide +kernel
theorem dd_M_waysOf_108 : decode prog_9_method_21_code 108 = .ok (.getfield 7, 3) := by decide +kernel
theorem dd_M_waysOf_111 : decode prog_9_method_21_code 111 = .ok (.iload 5, 2) := by decide +kernel
theorem dd_M_waysOf_113 : decode prog_9_method_21_code 113 = .ok (.iaload, 1) := by decide +kernel
theorem dd_M_waysOf_114 : decode prog_9_method_21_code 114 = .ok (.iload_n 3, 1) := by decide +kernel
theorem dd_M_waysOf_115 : decode prog_9_method_21_code 115 = .ok (.iload 8, 2) := by decide +kernel
theorem dd_M_waysOf_117 : decode prog_9_method_21_code 117 = .ok (.invokestatic 138, 3) := by decide +kernel
theorem dd_M_waysOf_120 : decode prog_9_method_21_code 120 = .ok (.iaload, 1) := by decide +kernel
theorem dd_M_waysOf_121 : decode prog_9_method_21_code 121 = .ok (.i2l, 1) := by decide +kernel
theorem dd_M_waysOf_122 : decode prog_9_method_21_code 122 = .ok (.aload_n 0, 1) := by decide +kernel
theorem dd_M_waysOf_123 : decode prog_9_method_21_code 123 = .ok (.getfield 40, 3) := by decide +kernel
theorem dd_M_waysOf_126 : decode prog_9_method_21_code 126 = .ok (.iload 5, 2) := by decide +kernel
theorem dd_M_waysOf_128 : decode prog_9_method_21_code 128 = .ok (.iconst 1, 1) := by decide +kernel
theorem dd_M_waysOf_129 : decode prog_9_method_21_code 129 = .ok (.iadd, 1) := by decide +kernel
theorem dd_M_waysOf_130 : decode prog_9_method_21_code 130 = .ok (.iload 8, 2) := by decide +kernel
theorem dd_M_waysOf_132 : decode prog_9_method_21_code 132 = .ok (.iload 4, 2) := by decide +kernel
theorem dd_M_waysOf_134 : decode prog_9_method_21_code 134 = .ok (.invokestatic 138, 3) := by decide +kernel
theorem dd_M_waysOf_137 : decode prog_9_method_21_code 137 = .ok (.iaload, 1) := by decide +kernel
theorem dd_M_waysOf_138 : decode prog_9_method_21_code 138 = .ok (.i2l, 1) := by decide +kernel
theorem dd_M_waysOf_139 : decode prog_9_method_21_code 139 = .ok (.lmul, 1) := by decide +kernel
theorem dd_M_waysOf_140 : decode prog_9_method_21_code 140 = .ok (.ladd, 1) := by decide +kernel
theorem dd_M_waysOf_141 : decode prog_9_method_21_code 141 = .ok (.invokestatic 142, 3) := by decide +kernel
theorem dd_M_waysOf_144 : decode prog_9_method_21_code 144 = .ok (.i2l, 1) := by decide +kernel
theorem dd_M_waysOf_145 : decode prog_9_method_21_code 145 = .ok (.lstore 6, 2) := by decide +kernel
theorem dd_M_waysOf_147 : decode prog_9_method_21_code 147 = .ok (.iinc 8 1, 3) := by decide +kernel
theorem dd_M_waysOf_150 : decode prog_9_method_21_code 150 = .ok (.goto (-56), 3) := by decide +kernel
theorem dd_M_waysOf_153 : decode prog_9_method_21_code 153 = .ok (.lload 6, 2) := by decide +kernel
theorem dd_M_waysOf_155 : decode prog_9_method_21_code 155 = .ok (.l2i, 1) := by decide +kernel
theorem dd_M_waysOf_156 : decode prog_9_method_21_code 156 = .ok (.ireturn, 1) := by decide +kernel
theorem dd_M_word_0 : decode prog_9_method_12_code 0 = .ok (.lload_n 1, 1) := by decide +kernel
theorem dd_M_word_1 : decode prog_9_method_12_code 1 = .ok (.iload_n 3, 1) := by decide +kernel
theorem dd_M_word_2 : decode prog_9_method_12_code 2 = .ok (.invokestatic 110, 3) := by decide +kernel
