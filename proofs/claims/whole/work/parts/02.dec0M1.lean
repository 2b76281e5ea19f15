theorem dd_M_grow_101 : decode prog_9_method_31_code 101 = .ok (.iaload, 1) := by decide +kernel
theorem dd_M_grow_102 : decode prog_9_method_31_code 102 = .ok (.iastore, 1) := by decide +kernel
theorem dd_M_grow_103 : decode prog_9_method_31_code 103 = .ok (.aload_n 0, 1) := by decide +kernel
theorem dd_M_grow_104 : decode prog_9_method_31_code 104 = .ok (.getfield 50, 3) := by decide +kernel
theorem dd_M_grow_107 : decode prog_9_method_31_code 107 = .ok (.iload_n 1, 1) := by decide +kernel
theorem dd_M_grow_108 : decode prog_9_method_31_code 108 = .ok (.aload_n 0, 1) := by decide +kernel
theorem dd_M_grow_109 : decode prog_9_method_31_code 109 = .ok (.aload_n 0, 1) := by decide +kernel
theorem dd_M_grow_110 : decode prog_9_method_31_code 110 = .ok (.getfield 62, 3) := by decide +kernel
theorem dd_M_grow_113 : decode prog_9_method_31_code 113 = .ok (.aload_n 0, 1) := by decide +kernel
theorem dd_M_grow_114 : decode prog_9_method_31_code 114 = .ok (.getfield 188, 3) := by decide +kernel
theorem dd_M_grow_117 : decode prog_9_method_31_code 117 = .ok (.iaload, 1) := by decide +kernel
theorem dd_M_grow_118 : decode prog_9_method_31_code 118 = .ok (.aload_n 0, 1) := by decide +kernel
theorem dd_M_grow_119 : decode prog_9_method_31_code 119 = .ok (.getfield 53, 3) := by decide +kernel
theorem dd_M_grow_122 : decode prog_9_method_31_code 122 = .ok (.iload_n 1, 1) := by decide +kernel
theorem dd_M_grow_123 : decode prog_9_method_31_code 123 = .ok (.iaload, 1) := by decide +kernel
theorem dd_M_grow_124 : decode prog_9_method_31_code 124 = .ok (.aload_n 0, 1) := by decide +kernel
theorem dd_M_grow_125 : decode prog_9_method_31_code 125 = .ok (.getfield 68, 3) := by decide +kernel
theorem dd_M_grow_128 : decode prog_9_method_31_code 128 = .ok (.aload_n 0, 1) := by decide +kernel
theorem dd_M_grow_129 : decode prog_9_method_31_code 129 = .ok (.getfield 188, 3) := by decide +kernel
theorem dd_M_grow_132 : decode prog_9_method_31_code 132 = .ok (.iaload, 1) := by decide +kernel
theorem dd_M_grow_133 : decode prog_9_method_31_code 133 = .ok (.invokevirtual 195, 3) := by decide +kernel
theorem dd_M_grow_136 : decode prog_9_method_31_code 136 = .ok (.iastore, 1) := by decide +kernel
theorem dd_M_grow_137 : decode prog_9_method_31_code 137 = .ok (.aload_n 0, 1) := by decide +kernel
theorem dd_M_grow_138 : decode prog_9_method_31_code 138 = .ok (.getfield 50, 3) := by decide +kernel
theorem dd_M_grow_141 : decode prog_9_method_31_code 141 = .ok (.iload_n 1, 1) := by decide +kernel
theorem dd_M_grow_142 : decode prog_9_method_31_code 142 = .ok (.iaload, 1) := by decide +kernel
theorem dd_M_grow_143 : decode prog_9_method_31_code 143 = .ok (.bipush (-2), 2) := by decide +kernel
theorem dd_M_grow_145 : decode prog_9_method_31_code 145 = .ok (.if_icmp .ne 32, 3) := by decide +kernel
theorem dd_M_grow_148 : decode prog_9_method_31_code 148 = .ok (.aload_n 0, 1) := by decide +kernel
theorem dd_M_grow_149 : decode prog_9_method_31_code 149 = .ok (.iconst 0, 1) := by decide +kernel
theorem dd_M_grow_150 : decode prog_9_method_31_code 150 = .ok (.aload_n 0, 1) := by decide +kernel
theorem dd_M_grow_151 : decode prog_9_method_31_code 151 = .ok (.getfield 53, 3) := by decide +kernel
theorem dd_M_grow_154 : decode prog_9_method_31_code 154 = .ok (.iload_n 1, 1) := by decide +kernel
theorem dd_M_grow_155 : decode prog_9_method_31_code 155 = .ok (.iaload, 1) := by decide +kernel
theorem dd_M_grow_156 : decode prog_9_method_31_code 156 = .ok (.iconst 1, 1) := by decide +kernel
theorem dd_M_grow_157 : decode prog_9_method_31_code 157 = .ok (.iadd, 1) := by decide +kernel
theorem dd_M_grow_158 : decode prog_9_method_31_code 158 = .ok (.aload_n 0, 1) := by decide +kernel
theorem dd_M_grow_159 : decode prog_9_method_31_code 159 = .ok (.getfield 53, 3) := by decide +kernel
theorem dd_M_grow_162 : decode prog_9_method_31_code 162 = .ok (.iload_n 1, 1) := by decide +kernel
theorem dd_M_grow_163 : decode prog_9_method_31_code 163 = .ok (.iaload, 1) := by decide +kernel
theorem dd_M_grow_164 : decode prog_9_method_31_code 164 = .ok (.aload_n 0, 1) := by decide +kernel
theorem dd_M_grow_165 : decode prog_9_method_31_code 165 = .ok (.getfield 56, 3) := by decide +kernel
theorem dd_M_grow_168 : decode prog_9_method_31_code 168 = .ok (.iload_n 1, 1) := by decide +kernel
theorem dd_M_grow_169 : decode prog_9_method_31_code 169 = .ok (.iaload, 1) := by decide +kernel
theorem dd_M_grow_170 : decode prog_9_method_31_code 170 = .ok (.iadd, 1) := by decide +kernel
theorem dd_M_grow_171 : decode prog_9_method_31_code 171 = .ok (.iconst 1, 1) := by decide +kernel
theorem dd_M_grow_172 : decode prog_9_method_31_code 172 = .ok (.isub, 1) := by decide +kernel
theorem dd_M_grow_173 : decode prog_9_method_31_code 173 = .ok (.iload_n 1, 1) := by decide +kernel
theorem dd_M_grow_174 : decode prog_9_method_31_code 174 = .ok (.invokevirtual 191, 3) := by decide +kernel
theorem dd_M_grow_177 : decode prog_9_method_31_code 177 = .ok (.aload_n 0, 1) := by decide +kernel
theorem dd_M_grow_178 : decode prog_9_method_31_code 178 = .ok (.getfield 50, 3) := by decide +kernel
theorem dd_M_grow_181 : decode prog_9_method_31_code 181 = .ok (.iload_n 1, 1) := by decide +kernel
theorem dd_M_grow_182 : decode prog_9_method_31_code 182 = .ok (.iaload, 1) := by decide +kernel
theorem dd_M_grow_183 : decode prog_9_method_31_code 183 = .ok (.ifCond .lt 8, 3) := by decide +kernel
theorem dd_M_grow_186 : decode prog_9_method_31_code 186 = .ok (.aload_n 0, 1) := by decide +kernel
theorem dd_M_grow_187 : decode prog_9_method_31_code 187 = .ok (.iload_n 1, 1) := by decide +kernel
theorem dd_M_grow_188 : decode prog_9_method_31_code 188 = .ok (.invokevirtual 198, 3) := by decide +kernel
theorem dd_M_grow_191 : decode prog_9_method_31_code 191 = .ok (.goto (-175), 3) := by decide +kernel
theorem dd_M_grow_194 : decode prog_9_method_31_code 194 = .ok (.return_, 1) := by decide +kernel
theorem dd_M_hole_0 : decode prog_9_method_11_code 0 = .ok (.aload_n 0, 1) := by decide +kernel
theorem dd_M_hole_1 : decode prog_9_method_11_code 1 = .ok (.getfield 103, 3) := by decide +kernel
theorem dd_M_hole_4 : decode prog_9_method_11_code 4 = .ok (.ifCond .le 25, 3) := by decide +kernel
theorem dd_M_hole_7 : decode prog_9_method_11_code 7 = .ok (.aload_n 0, 1) := by decide +kernel
theorem dd_M_hole_8 : decode prog_9_method_11_code 8 = .ok (.getfield 7, 3) := by decide +kernel
theorem dd_M_hole_11 : decode prog_9_method_11_code 11 = .ok (.bipush 84, 2) := by decide +kernel
theorem dd_M_hole_13 : decode prog_9_method_11_code 13 = .ok (.aload_n 0, 1) := by decide +kernel
theorem dd_M_hole_14 : decode prog_9_method_11_code 14 = .ok (.getfield 103, 3) := by decide +kernel
theorem dd_M_hole_17 : decode prog_9_method_11_code 17 = .ok (.iadd, 1) := by decide +kernel
theorem dd_M_hole_18 : decode prog_9_method_11_code 18 = .ok (.iconst 1, 1) := by decide +kernel
theorem dd_M_hole_19 : decode prog_9_method_11_code 19 = .ok (.isub, 1) := by decide +kernel
theorem dd_M_hole_20 : decode prog_9_method_11_code 20 = .ok (.iaload, 1) := by decide +kernel
theorem dd_M_hole_21 : decode prog_9_method_11_code 21 = .ok (.iconst (-1), 1) := by decide +kernel
theorem dd_M_hole_22 : decode prog_9_method_11_code 22 = .ok (.if_icmp .eq 7, 3) := by decide +kernel
theorem dd_M_hole_25 : decode prog_9_method_11_code 25 = .ok (.iconst 1, 1) := by decide +kernel
theorem dd_M_hole_26 : decode prog_9_method_11_code 26 = .ok (.goto 4, 3) := by decide +kernel
theorem dd_M_hole_29 : decode prog_9_method_11_code 29 = .ok (.iconst 0, 1) := by decide +kernel
theorem dd_M_hole_30 : decode prog_9_method_11_code 30 = .ok (.istore_n 2, 1) := by decide +kernel
theorem dd_M_hole_31 : decode prog_9_method_11_code 31 = .ok (.aload_n 0, 1) := by decide +kernel
theorem dd_M_hole_32 : decode prog_9_method_11_code 32 = .ok (.iload_n 1, 1) := by decide +kernel
theorem dd_M_hole_33 : decode prog_9_method_11_code 33 = .ok (.ifCond .lt 13, 3) := by decide +kernel
theorem dd_M_hole_36 : decode prog_9_method_11_code 36 = .ok (.iload_n 1, 1) := by decide +kernel
theorem dd_M_hole_37 : decode prog_9_method_11_code 37 = .ok (.bipush 10, 2) := by decide +kernel
theorem dd_M_hole_39 : decode prog_9_method_11_code 39 = .ok (.if_icmp .gt 7, 3) := by decide +kernel
theorem dd_M_hole_42 : decode prog_9_method_11_code 42 = .ok (.iload_n 2, 1) := by decide +kernel
theorem dd_M_hole_43 : decode prog_9_method_11_code 43 = .ok (.ifCond .eq 7, 3) := by decide +kernel
theorem dd_M_hole_46 : decode prog_9_method_11_code 46 = .ok (.iconst 1, 1) := by decide +kernel
theorem dd_M_hole_47 : decode prog_9_method_11_code 47 = .ok (.goto 17, 3) := by decide +kernel
theorem dd_M_hole_50 : decode prog_9_method_11_code 50 = .ok (.aload_n 0, 1) := by decide +kernel
theorem dd_M_hole_51 : decode prog_9_method_11_code 51 = .ok (.getfield 103, 3) := by decide +kernel
theorem dd_M_hole_54 : decode prog_9_method_11_code 54 = .ok (.bipush 6, 2) := by decide +kernel
theorem dd_M_hole_56 : decode prog_9_method_11_code 56 = .ok (.if_icmp .ne 7, 3) := by decide +kernel
theorem dd_M_hole_59 : decode prog_9_method_11_code 59 = .ok (.iconst 2, 1) := by decide +kernel
theorem dd_M_hole_60 : decode prog_9_method_11_code 60 = .ok (.goto 4, 3) := by decide +kernel
theorem dd_M_hole_63 : decode prog_9_method_11_code 63 = .ok (.iconst 0, 1) := by decide +kernel
theorem dd_M_hole_64 : decode prog_9_method_11_code 64 = .ok (.putfield 80, 3) := by decide +kernel
theorem dd_M_hole_67 : decode prog_9_method_11_code 67 = .ok (.aload_n 0, 1) := by decide +kernel
theorem dd_M_hole_68 : decode prog_9_method_11_code 68 = .ok (.getfield 80, 3) := by decide +kernel
theorem dd_M_hole_71 : decode prog_9_method_11_code 71 = .ok (.ifCond .le 7, 3) := by decide +kernel
theorem dd_M_hole_74 : decode prog_9_method_11_code 74 = .ok (.iconst 0, 1) := by decide +kernel
theorem dd_M_hole_75 : decode prog_9_method_11_code 75 = .ok (.goto 9, 3) := by decide +kernel
theorem dd_M_hole_78 : decode prog_9_method_11_code 78 = .ok (.aload_n 0, 1) := by decide +kernel
theorem dd_M_hole_79 : decode prog_9_method_11_code 79 = .ok (.iload_n 1, 1) := by decide +kernel
theorem dd_M_hole_80 : decode prog_9_method_11_code 80 = .ok (.lconst 0, 1) := by decide +kernel
theorem dd_M_hole_81 : decode prog_9_method_11_code 81 = .ok (.invokevirtual 106, 3) := by decide +kernel
theorem dd_M_hole_84 : decode prog_9_method_11_code 84 = .ok (.ireturn, 1) := by decide +kernel
theorem dd_M_is_0 : decode prog_9_method_18_code 0 = .ok (.iload_n 1, 1) := by decide +kernel
theorem dd_M_is_1 : decode prog_9_method_18_code 1 = .ok (.aload_n 0, 1) := by decide +kernel
theorem dd_M_is_2 : decode prog_9_method_18_code 2 = .ok (.getfield 128, 3) := by decide +kernel
theorem dd_M_is_5 : decode prog_9_method_18_code 5 = .ok (.if_icmp .ge 19, 3) := by decide +kernel
theorem dd_M_is_8 : decode prog_9_method_18_code 8 = .ok (.aload_n 0, 1) := by decide +kernel
theorem dd_M_is_9 : decode prog_9_method_18_code 9 = .ok (.getfield 30, 3) := by decide +kernel
theorem dd_M_is_12 : decode prog_9_method_18_code 12 = .ok (.iload_n 1, 1) := by decide +kernel
theorem dd_M_is_13 : decode prog_9_method_18_code 13 = .ok (.laload, 1) := by decide +kernel
theorem dd_M_is_14 : decode prog_9_method_18_code 14 = .ok (.iload_n 2, 1) := by decide +kernel
theorem dd_M_is_15 : decode prog_9_method_18_code 15 = .ok (.i2l, 1) := by decide +kernel
theorem dd_M_is_16 : decode prog_9_method_18_code 16 = .ok (.lcmp, 1) := by decide +kernel
theorem dd_M_is_17 : decode prog_9_method_18_code 17 = .ok (.ifCond .ne 7, 3) := by decide +kernel
theorem dd_M_is_20 : decode prog_9_method_18_code 20 = .ok (.iconst 1, 1) := by decide +kernel
theorem dd_M_is_21 : decode prog_9_method_18_code 21 = .ok (.goto 4, 3) := by decide +kernel
theorem dd_M_is_24 : decode prog_9_method_18_code 24 = .ok (.iconst 0, 1) := by decide +kernel
theorem dd_M_is_25 : decode prog_9_method_18_code 25 = .ok (.ireturn, 1) := by decide +kernel
theorem dd_M_isAtom_0 : decode prog_9_method_17_code 0 = .ok (.aload_n 0, 1) := by decide +kernel
theorem dd_M_isAtom_1 : decode prog_9_method_17_code 1 = .ok (.getfield 30, 3) := by decide +kernel
theorem dd_M_isAtom_4 : decode prog_9_method_17_code 4 = .ok (.iload_n 1, 1) := by decide +kernel
theorem dd_M_isAtom_5 : decode prog_9_method_17_code 5 = .ok (.laload, 1) := by decide +kernel
theorem dd_M_isAtom_6 : decode prog_9_method_17_code 6 = .ok (.ldc2_w 90, 3) := by decide +kernel
theorem dd_M_isAtom_9 : decode prog_9_method_17_code 9 = .ok (.land, 1) := by decide +kernel
theorem dd_M_isAtom_10 : decode prog_9_method_17_code 10 = .ok (.l2i, 1) := by decide +kernel
theorem dd_M_isAtom_11 : decode prog_9_method_17_code 11 = .ok (.invokestatic 96, 3) := by decide +kernel
theorem dd_M_isAtom_14 : decode prog_9_method_17_code 14 = .ok (.istore_n 2, 1) := by decide +kernel
theorem dd_M_isAtom_15 : decode prog_9_method_17_code 15 = .ok (.iload_n 2, 1) := by decide +kernel
theorem dd_M_isAtom_16 : decode prog_9_method_17_code 16 = .ok (.ifCond .le 25, 3) := by decide +kernel
theorem dd_M_isAtom_19 : decode prog_9_method_17_code 19 = .ok (.iload_n 2, 1) := by decide +kernel
theorem dd_M_isAtom_20 : decode prog_9_method_17_code 20 = .ok (.iconst 3, 1) := by decide +kernel
theorem dd_M_isAtom_21 : decode prog_9_method_17_code 21 = .ok (.if_icmp .ge 20, 3) := by decide +kernel
theorem dd_M_isAtom_24 : decode prog_9_method_17_code 24 = .ok (.aload_n 0, 1) := by decide +kernel
theorem dd_M_isAtom_25 : decode prog_9_method_17_code 25 = .ok (.aload_n 0, 1) := by decide +kernel
theorem dd_M_isAtom_26 : decode prog_9_method_17_code 26 = .ok (.getfield 30, 3) := by decide +kernel
theorem dd_M_isAtom_29 : decode prog_9_method_17_code 29 = .ok (.iload_n 1, 1) := by decide +kernel
theorem dd_M_isAtom_30 : decode prog_9_method_17_code 30 = .ok (.laload, 1) := by decide +kernel
theorem dd_M_isAtom_31 : decode prog_9_method_17_code 31 = .ok (.invokevirtual 131, 3) := by decide +kernel
theorem dd_M_isAtom_34 : decode prog_9_method_17_code 34 = .ok (.ifCond .ne 7, 3) := by decide +kernel
theorem dd_M_isAtom_37 : decode prog_9_method_17_code 37 = .ok (.iconst 1, 1) := by decide +kernel
theorem dd_M_isAtom_38 : decode prog_9_method_17_code 38 = .ok (.goto 4, 3) := by decide +kernel
theorem dd_M_isAtom_41 : decode prog_9_method_17_code 41 = .ok (.iconst 0, 1) := by decide +kernel
theorem dd_M_isAtom_42 : decode prog_9_method_17_code 42 = .ok (.ireturn, 1) := by decide +kernel
theorem dd_M_isDigit_0 : decode prog_9_method_4_code 0 = .ok (.iload_n 0, 1) := by decide +kernel
theorem dd_M_isDigit_1 : decode prog_9_method_4_code 1 = .ok (.bipush 48, 2) := by decide +kernel
theorem dd_M_isDigit_3 : decode prog_9_method_4_code 3 = .ok (.if_icmp .lt 13, 3) := by decide +kernel
theorem dd_M_isDigit_6 : decode prog_9_method_4_code 6 = .ok (.iload_n 0, 1) := by decide +kernel
theorem dd_M_isDigit_7 : decode prog_9_method_4_code 7 = .ok (.bipush 57, 2) := by decide +kernel
theorem dd_M_isDigit_9 : decode prog_9_method_4_code 9 = .ok (.if_icmp .gt 7, 3) := by decide +kernel
theorem dd_M_isDigit_12 : decode prog_9_method_4_code 12 = .ok (.iconst 1, 1) := by decide +kernel
theorem dd_M_isDigit_13 : decode prog_9_method_4_code 13 = .ok (.goto 4, 3) := by decide +kernel
theorem dd_M_isDigit_16 : decode prog_9_method_4_code 16 = .ok (.iconst 0, 1) := by decide +kernel
theorem dd_M_isDigit_17 : decode prog_9_method_4_code 17 = .ok (.ireturn, 1) := by decide +kernel
theorem dd_M_isKey_0 : decode prog_9_method_43_code 0 = .ok (.aload_n 0, 1) := by decide +kernel
theorem dd_M_isKey_1 : decode prog_9_method_43_code 1 = .ok (.iconst 0, 1) := by decide +kernel
theorem dd_M_isKey_2 : decode prog_9_method_43_code 2 = .ok (.putfield 80, 3) := by decide +kernel
theorem dd_M_isKey_5 : decode prog_9_method_43_code 5 = .ok (.lload_n 1, 1) := by decide +kernel
theorem dd_M_isKey_6 : decode prog_9_method_43_code 6 = .ok (.iload_n 3, 1) := by decide +kernel
theorem dd_M_isKey_7 : decode prog_9_method_43_code 7 = .ok (.invokestatic 110, 3) := by decide +kernel
theorem dd_M_isKey_10 : decode prog_9_method_43_code 10 = .ok (.ifCond .eq 19, 3) := by decide +kernel
theorem dd_M_isKey_13 : decode prog_9_method_43_code 13 = .ok (.aload_n 0, 1) := by decide +kernel
theorem dd_M_isKey_14 : decode prog_9_method_43_code 14 = .ok (.lload_n 1, 1) := by decide +kernel
theorem dd_M_isKey_15 : decode prog_9_method_43_code 15 = .ok (.iload_n 3, 1) := by decide +kernel
theorem dd_M_isKey_16 : decode prog_9_method_43_code 16 = .ok (.invokestatic 114, 3) := by decide +kernel
theorem dd_M_isKey_19 : decode prog_9_method_43_code 19 = .ok (.invokevirtual 131, 3) := by decide +kernel
theorem dd_M_isKey_22 : decode prog_9_method_43_code 22 = .ok (.ifCond .eq 7, 3) := by decide +kernel
theorem dd_M_isKey_25 : decode prog_9_method_43_code 25 = .ok (.iconst 1, 1) := by decide +kernel
theorem dd_M_isKey_26 : decode prog_9_method_43_code 26 = .ok (.goto 4, 3) := by decide +kernel
theorem dd_M_isKey_29 : decode prog_9_method_43_code 29 = .ok (.iconst 0, 1) := by decide +kernel
theorem dd_M_isKey_30 : decode prog_9_method_43_code 30 = .ok (.ireturn, 1) := by decide +kernel
theorem dd_M_isKeyWord_0 : decode prog_9_method_9_code 0 = .ok (.iconst 0, 1) := by decide +kernel
theorem dd_M_isKeyWord_1 : decode prog_9_method_9_code 1 = .ok (.istore_n 3, 1) := by decide +kernel
theorem dd_M_isKeyWord_2 : decode prog_9_method_9_code 2 = .ok (.iconst 0, 1) := by decide +kernel
theorem dd_M_isKeyWord_3 : decode prog_9_method_9_code 3 = .ok (.istore 4, 2) := by decide +kernel
theorem dd_M_isKeyWord_5 : decode prog_9_method_9_code 5 = .ok (.iload 4, 2) := by decide +kernel
theorem dd_M_isKeyWord_7 : decode prog_9_method_9_code 7 = .ok (.aload_n 0, 1) := by decide +kernel
theorem dd_M_isKeyWord_8 : decode prog_9_method_9_code 8 = .ok (.getfield 100, 3) := by decide +kernel
theorem dd_M_isKeyWord_11 : decode prog_9_method_9_code 11 = .ok (.if_icmp .ge 75, 3) := by decide +kernel
theorem dd_M_isKeyWord_14 : decode prog_9_method_9_code 14 = .ok (.iconst 0, 1) := by decide +kernel
theorem dd_M_isKeyWord_15 : decode prog_9_method_9_code 15 = .ok (.istore 5, 2) := by decide +kernel
theorem dd_M_isKeyWord_17 : decode prog_9_method_9_code 17 = .ok (.iload 5, 2) := by decide +kernel
theorem dd_M_isKeyWord_19 : decode prog_9_method_9_code 19 = .ok (.aload_n 0, 1) := by decide +kernel
theorem dd_M_isKeyWord_20 : decode prog_9_method_9_code 20 = .ok (.getfield 17, 3) := by decide +kernel
theorem dd_M_isKeyWord_23 : decode prog_9_method_9_code 23 = .ok (.iload 4, 2) := by decide +kernel
theorem dd_M_isKeyWord_25 : decode prog_9_method_9_code 25 = .ok (.iaload, 1) := by decide +kernel
theorem dd_M_isKeyWord_26 : decode prog_9_method_9_code 26 = .ok (.if_icmp .ge 54, 3) := by decide +kernel
theorem dd_M_isKeyWord_29 : decode prog_9_method_9_code 29 = .ok (.iload_n 3, 1) := by decide +kernel
theorem dd_M_isKeyWord_30 : decode prog_9_method_9_code 30 = .ok (.ifCond .ne 38, 3) := by decide +kernel
theorem dd_M_isKeyWord_33 : decode prog_9_method_9_code 33 = .ok (.aload_n 0, 1) := by decide +kernel
theorem dd_M_isKeyWord_34 : decode prog_9_method_9_code 34 = .ok (.getfield 7, 3) := by decide +kernel
theorem dd_M_isKeyWord_37 : decode prog_9_method_9_code 37 = .ok (.bipush 7, 2) := by decide +kernel
theorem dd_M_isKeyWord_39 : decode prog_9_method_9_code 39 = .ok (.iload 4, 2) := by decide +kernel
theorem dd_M_isKeyWord_41 : decode prog_9_method_9_code 41 = .ok (.imul, 1) := by decide +kernel
theorem dd_M_isKeyWord_42 : decode prog_9_method_9_code 42 = .ok (.iload 5, 2) := by decide +kernel
theorem dd_M_isKeyWord_44 : decode prog_9_method_9_code 44 = .ok (.iadd, 1) := by decide +kernel
theorem dd_M_isKeyWord_45 : decode prog_9_method_9_code 45 = .ok (.iaload, 1) := by decide +kernel
theorem dd_M_isKeyWord_46 : decode prog_9_method_9_code 46 = .ok (.iconst (-1), 1) := by decide +kernel
theorem dd_M_isKeyWord_47 : decode prog_9_method_9_code 47 = .ok (.if_icmp .ne 25, 3) := by decide +kernel
theorem dd_M_isKeyWord_50 : decode prog_9_method_9_code 50 = .ok (.aload_n 0, 1) := by decide +kernel
theorem dd_M_isKeyWord_51 : decode prog_9_method_9_code 51 = .ok (.getfield 13, 3) := by decide +kernel
theorem dd_M_isKeyWord_54 : decode prog_9_method_9_code 54 = .ok (.bipush 7, 2) := by decide +kernel
theorem dd_M_isKeyWord_56 : decode prog_9_method_9_code 56 = .ok (.iload 4, 2) := by decide +kernel
theorem dd_M_isKeyWord_58 : decode prog_9_method_9_code 58 = .ok (.imul, 1) := by decide +kernel
theorem dd_M_isKeyWord_59 : decode prog_9_method_9_code 59 = .ok (.iload 5, 2) := by decide +kernel
theorem dd_M_isKeyWord_61 : decode prog_9_method_9_code 61 = .ok (.iadd, 1) := by decide +kernel
theorem dd_M_isKeyWord_62 : decode prog_9_method_9_code 62 = .ok (.laload, 1) := by decide +kernel
theorem dd_M_isKeyWord_63 : decode prog_9_method_9_code 63 = .ok (.lload_n 1, 1) := by decide +kernel
theorem dd_M_isKeyWord_64 : decode prog_9_method_9_code 64 = .ok (.lcmp, 1) := by decide +kernel
theorem dd_M_isKeyWord_65 : decode prog_9_method_9_code 65 = .ok (.ifCond .ne 7, 3) := by decide +kernel
theorem dd_M_isKeyWord_68 : decode prog_9_method_9_code 68 = .ok (.iconst 1, 1) := by decide +kernel
theorem dd_M_isKeyWord_69 : decode prog_9_method_9_code 69 = .ok (.goto 4, 3) := by decide +kernel
theorem dd_M_isKeyWord_72 : decode prog_9_method_9_code 72 = .ok (.iconst 0, 1) := by decide +kernel
theorem dd_M_isKeyWord_73 : decode prog_9_method_9_code 73 = .ok (.istore_n 3, 1) := by decide +kernel
theorem dd_M_isKeyWord_74 : decode prog_9_method_9_code 74 = .ok (.iinc 5 1, 3) := by decide +kernel
theorem dd_M_isKeyWord_77 : decode prog_9_method_9_code 77 = .ok (.goto (-60), 3) := by decide +kernel
theorem dd_M_isKeyWord_80 : decode prog_9_method_9_code 80 = .ok (.iinc 4 1, 3) := by decide +kernel
theorem dd_M_isKeyWord_83 : decode prog_9_method_9_code 83 = .ok (.goto (-78), 3) := by decide +kernel
theorem dd_M_isKeyWord_86 : decode prog_9_method_9_code 86 = .ok (.iload_n 3, 1) := by decide +kernel
theorem dd_M_isKeyWord_87 : decode prog_9_method_9_code 87 = .ok (.ireturn, 1) := by decide +kernel
theorem dd_M_isLetter_0 : decode prog_9_method_3_code 0 = .ok (.iload_n 0, 1) := by decide +kernel
theorem dd_M_isLetter_1 : decode prog_9_method_3_code 1 = .ok (.bipush 97, 2) := by decide +kernel
theorem dd_M_isLetter_3 : decode prog_9_method_3_code 3 = .ok (.if_icmp .lt 9, 3) := by decide +kernel
theorem dd_M_isLetter_6 : decode prog_9_method_3_code 6 = .ok (.iload_n 0, 1) := by decide +kernel
theorem dd_M_isLetter_7 : decode prog_9_method_3_code 7 = .ok (.bipush 122, 2) := by decide +kernel
theorem dd_M_isLetter_9 : decode prog_9_method_3_code 9 = .ok (.if_icmp .le 15, 3) := by decide +kernel
theorem dd_M_isLetter_12 : decode prog_9_method_3_code 12 = .ok (.iload_n 0, 1) := by decide +kernel
theorem dd_M_isLetter_13 : decode prog_9_method_3_code 13 = .ok (.bipush 65, 2) := by decide +kernel
theorem dd_M_isLetter_15 : decode prog_9_method_3_code 15 = .ok (.if_icmp .lt 13, 3) := by decide +kernel
theorem dd_M_isLetter_18 : decode prog_9_method_3_code 18 = .ok (.iload_n 0, 1) := by decide +kernel
theorem dd_M_isLetter_19 : decode prog_9_method_3_code 19 = .ok (.bipush 90, 2) := by decide +kernel
theorem dd_M_isLetter_21 : decode prog_9_method_3_code 21 = .ok (.if_icmp .gt 7, 3) := by decide +kernel
theorem dd_M_isLetter_24 : decode prog_9_method_3_code 24 = .ok (.iconst 1, 1) := by decide +kernel
theorem dd_M_isLetter_25 : decode prog_9_method_3_code 25 = .ok (.goto 4, 3) := by decide +kernel
theorem dd_M_isLetter_28 : decode prog_9_method_3_code 28 = .ok (.iconst 0, 1) := by decide +kernel
theorem dd_M_isLetter_29 : decode prog_9_method_3_code 29 = .ok (.ireturn, 1) := by decide +kernel
theorem dd_M_isWord_0 : decode prog_9_method_8_code 0 = .ok (.iload_n 2, 1) := by decide +kernel
theorem dd_M_isWord_1 : decode prog_9_method_8_code 1 = .ok (.iconst 1, 1) := by decide +kernel
theorem dd_M_isWord_2 : decode prog_9_method_8_code 2 = .ok (.if_icmp .lt 9, 3) := by decide +kernel
theorem dd_M_isWord_5 : decode prog_9_method_8_code 5 = .ok (.iload_n 2, 1) := by decide +kernel
theorem dd_M_isWord_6 : decode prog_9_method_8_code 6 = .ok (.bipush 8, 2) := by decide +kernel
theorem dd_M_isWord_8 : decode prog_9_method_8_code 8 = .ok (.if_icmp .le 5, 3) := by decide +kernel
theorem dd_M_isWord_11 : decode prog_9_method_8_code 11 = .ok (.iconst 0, 1) := by decide +kernel
theorem dd_M_isWord_12 : decode prog_9_method_8_code 12 = .ok (.ireturn, 1) := by decide +kernel
theorem dd_M_isWord_13 : decode prog_9_method_8_code 13 = .ok (.lload_n 0, 1) := by decide +kernel
theorem dd_M_isWord_14 : decode prog_9_method_8_code 14 = .ok (.iload_n 2, 1) := by decide +kernel
theorem dd_M_isWord_15 : decode prog_9_method_8_code 15 = .ok (.iconst 0, 1) := by decide +kernel
theorem dd_M_isWord_16 : decode prog_9_method_8_code 16 = .ok (.invokestatic 92, 3) := by decide +kernel
theorem dd_M_isWord_19 : decode prog_9_method_8_code 19 = .ok (.invokestatic 96, 3) := by decide +kernel
theorem dd_M_isWord_22 : decode prog_9_method_8_code 22 = .ok (.istore_n 3, 1) := by decide +kernel
theorem dd_M_isWord_23 : decode prog_9_method_8_code 23 = .ok (.iload_n 3, 1) := by decide +kernel
theorem dd_M_isWord_24 : decode prog_9_method_8_code 24 = .ok (.ifCond .le 17, 3) := by decide +kernel
theorem dd_M_isWord_27 : decode prog_9_method_8_code 27 = .ok (.iload_n 3, 1) := by decide +kernel
theorem dd_M_isWord_28 : decode prog_9_method_8_code 28 = .ok (.iconst 4, 1) := by decide +kernel
theorem dd_M_isWord_29 : decode prog_9_method_8_code 29 = .ok (.if_icmp .lt 8, 3) := by decide +kernel
theorem dd_M_isWord_32 : decode prog_9_method_8_code 32 = .ok (.iload_n 2, 1) := by decide +kernel
theorem dd_M_isWord_33 : decode prog_9_method_8_code 33 = .ok (.iconst 1, 1) := by decide +kernel
theorem dd_M_isWord_34 : decode prog_9_method_8_code 34 = .ok (.if_icmp .ne 7, 3) := by decide +kernel
theorem dd_M_isWord_37 : decode prog_9_method_8_code 37 = .ok (.iconst 1, 1) := by decide +kernel
theorem dd_M_isWord_38 : decode prog_9_method_8_code 38 = .ok (.goto 4, 3) := by decide +kernel
theorem dd_M_isWord_41 : decode prog_9_method_8_code 41 = .ok (.iconst 0, 1) := by decide +kernel
theorem dd_M_isWord_42 : decode prog_9_method_8_code 42 = .ok (.istore 4, 2) := by decide +kernel
theorem dd_M_isWord_44 : decode prog_9_method_8_code 44 = .ok (.iconst 1, 1) := by decide +kernel
theorem dd_M_isWord_45 : decode prog_9_method_8_code 45 = .ok (.istore 5, 2) := by decide +kernel
theorem dd_M_isWord_47 : decode prog_9_method_8_code 47 = .ok (.iload 5, 2) := by decide +kernel
theorem dd_M_isWord_49 : decode prog_9_method_8_code 49 = .ok (.iload_n 2, 1) := by decide +kernel
theorem dd_M_isWord_50 : decode prog_9_method_8_code 50 = .ok (.if_icmp .ge 35, 3) := by decide +kernel
theorem dd_M_isWord_53 : decode prog_9_method_8_code 53 = .ok (.iload 4, 2) := by decide +kernel
theorem dd_M_isWord_55 : decode prog_9_method_8_code 55 = .ok (.ifCond .eq 21, 3) := by decide +kernel
theorem dd_M_isWord_58 : decode prog_9_method_8_code 58 = .ok (.lload_n 0, 1) := by decide +kernel
theorem dd_M_isWord_59 : decode prog_9_method_8_code 59 = .ok (.iload_n 2, 1) := by decide +kernel
theorem dd_M_isWord_60 : decode prog_9_method_8_code 60 = .ok (.iload 5, 2) := by decide +kernel
theorem dd_M_isWord_62 : decode prog_9_method_8_code 62 = .ok (.invokestatic 92, 3) := by decide +kernel
theorem dd_M_isWord_65 : decode prog_9_method_8_code 65 = .ok (.invokestatic 96, 3) := by decide +kernel
theorem dd_M_isWord_68 : decode prog_9_method_8_code 68 = .ok (.iload_n 3, 1) := by decide +kernel
theorem dd_M_isWord_69 : decode prog_9_method_8_code 69 = .ok (.if_icmp .ne 7, 3) := by decide +kernel
theorem dd_M_isWord_72 : decode prog_9_method_8_code 72 = .ok (.iconst 1, 1) := by decide +kernel
theorem dd_M_isWord_73 : decode prog_9_method_8_code 73 = .ok (.goto 4, 3) := by decide +kernel
theorem dd_M_isWord_76 : decode prog_9_method_8_code 76 = .ok (.iconst 0, 1) := by decide +kernel
theorem dd_M_isWord_77 : decode prog_9_method_8_code 77 = .ok (.istore 4, 2) := by decide +kernel
theorem dd_M_isWord_79 : decode prog_9_method_8_code 79 = .ok (.iinc 5 1, 3) := by decide +kernel
theorem dd_M_isWord_82 : decode prog_9_method_8_code 82 = .ok (.goto (-35), 3) := by decide +kernel
theorem dd_M_isWord_85 : decode prog_9_method_8_code 85 = .ok (.iload 4, 2) := by decide +kernel
theorem dd_M_isWord_87 : decode prog_9_method_8_code 87 = .ok (.ireturn, 1) := by decide +kernel
theorem dd_M_kindOf_0 : decode prog_9_method_32_code 0 = .ok (.bipush (-2), 2) := by decide +kernel
theorem dd_M_kindOf_2 : decode prog_9_method_32_code 2 = .ok (.istore 4, 2) := by decide +kernel
theorem dd_M_kindOf_4 : decode prog_9_method_32_code 4 = .ok (.iconst 0, 1) := by decide +kernel
theorem dd_M_kindOf_5 : decode prog_9_method_32_code 5 = .ok (.istore 5, 2) := by decide +kernel
theorem dd_M_kindOf_7 : decode prog_9_method_32_code 7 = .ok (.iload 5, 2) := by decide +kernel
theorem dd_M_kindOf_9 : decode prog_9_method_32_code 9 = .ok (.aload_n 0, 1) := by decide +kernel
theorem dd_M_kindOf_10 : decode prog_9_method_32_code 10 = .ok (.getfield 100, 3) := by decide +kernel
theorem dd_M_kindOf_13 : decode prog_9_method_32_code 13 = .ok (.if_icmp .ge 42, 3) := by decide +kernel
theorem dd_M_kindOf_16 : decode prog_9_method_32_code 16 = .ok (.aload_n 0, 1) := by decide +kernel
theorem dd_M_kindOf_17 : decode prog_9_method_32_code 17 = .ok (.getfield 20, 3) := by decide +kernel
theorem dd_M_kindOf_20 : decode prog_9_method_32_code 20 = .ok (.iload 5, 2) := by decide +kernel
theorem dd_M_kindOf_22 : decode prog_9_method_32_code 22 = .ok (.iaload, 1) := by decide +kernel
theorem dd_M_kindOf_23 : decode prog_9_method_32_code 23 = .ok (.iload_n 1, 1) := by decide +kernel
theorem dd_M_kindOf_24 : decode prog_9_method_32_code 24 = .ok (.if_icmp .lt 25, 3) := by decide +kernel
theorem dd_M_kindOf_27 : decode prog_9_method_32_code 27 = .ok (.aload_n 0, 1) := by decide +kernel
theorem dd_M_kindOf_28 : decode prog_9_method_32_code 28 = .ok (.getfield 40, 3) := by decide +kernel
theorem dd_M_kindOf_31 : decode prog_9_method_32_code 31 = .ok (.bipush 7, 2) := by decide +kernel
theorem dd_M_kindOf_33 : decode prog_9_method_32_code 33 = .ok (.iload 5, 2) := by decide +kernel
theorem dd_M_kindOf_35 : decode prog_9_method_32_code 35 = .ok (.imul, 1) := by decide +kernel
theorem dd_M_kindOf_36 : decode prog_9_method_32_code 36 = .ok (.iload_n 2, 1) := by decide +kernel
theorem dd_M_kindOf_37 : decode prog_9_method_32_code 37 = .ok (.iload_n 3, 1) := by decide +kernel
theorem dd_M_kindOf_38 : decode prog_9_method_32_code 38 = .ok (.invokestatic 138, 3) := by decide +kernel
theorem dd_M_kindOf_41 : decode prog_9_method_32_code 41 = .ok (.iaload, 1) := by decide +kernel
theorem dd_M_kindOf_42 : decode prog_9_method_32_code 42 = .ok (.ifCond .le 7, 3) := by decide +kernel
theorem dd_M_kindOf_45 : decode prog_9_method_32_code 45 = .ok (.iload 5, 2) := by decide +kernel
theorem dd_M_kindOf_47 : decode prog_9_method_32_code 47 = .ok (.istore 4, 2) := by decide +kernel
theorem dd_M_kindOf_49 : decode prog_9_method_32_code 49 = .ok (.iinc 5 1, 3) := by decide +kernel
theorem dd_M_kindOf_52 : decode prog_9_method_32_code 52 = .ok (.goto (-45), 3) := by decide +kernel
theorem dd_M_kindOf_55 : decode prog_9_method_32_code 55 = .ok (.iload_n 3, 1) := by decide +kernel
theorem dd_M_kindOf_56 : decode prog_9_method_32_code 56 = .ok (.iload_n 2, 1) := by decide +kernel
theorem dd_M_kindOf_57 : decode prog_9_method_32_code 57 = .ok (.iconst 1, 1) := by decide +kernel
theorem dd_M_kindOf_58 : decode prog_9_method_32_code 58 = .ok (.iadd, 1) := by decide +kernel
theorem dd_M_kindOf_59 : decode prog_9_method_32_code 59 = .ok (.if_icmp .ne 15, 3) := by decide +kernel
theorem dd_M_kindOf_62 : decode prog_9_method_32_code 62 = .ok (.aload_n 0, 1) := by decide +kernel
theorem dd_M_kindOf_63 : decode prog_9_method_32_code 63 = .ok (.iload_n 2, 1) := by decide +kernel
theorem dd_M_kindOf_64 : decode prog_9_method_32_code 64 = .ok (.invokevirtual 146, 3) := by decide +kernel
theorem dd_M_kindOf_67 : decode prog_9_method_32_code 67 = .ok (.ifCond .eq 7, 3) := by decide +kernel
theorem dd_M_kindOf_70 : decode prog_9_method_32_code 70 = .ok (.iconst (-1), 1) := by decide +kernel
theorem dd_M_kindOf_71 : decode prog_9_method_32_code 71 = .ok (.goto 5, 3) := by decide +kernel
theorem dd_M_kindOf_74 : decode prog_9_method_32_code 74 = .ok (.iload 4, 2) := by decide +kernel
theorem dd_M_kindOf_76 : decode prog_9_method_32_code 76 = .ok (.ireturn, 1) := by decide +kernel
theorem dd_M_later_0 : decode prog_9_method_30_code 0 = .ok (.aload_n 0, 1) := by decide +kernel
theorem dd_M_later_1 : decode prog_9_method_30_code 1 = .ok (.getfield 62, 3) := by decide +kernel
theorem dd_M_later_4 : decode prog_9_method_30_code 4 = .ok (.aload_n 0, 1) := by decide +kernel
theorem dd_M_later_5 : decode prog_9_method_30_code 5 = .ok (.getfield 188, 3) := by decide +kernel
theorem dd_M_later_8 : decode prog_9_method_30_code 8 = .ok (.iload_n 1, 1) := by decide +kernel
theorem dd_M_later_9 : decode prog_9_method_30_code 9 = .ok (.iastore, 1) := by decide +kernel
theorem dd_M_later_10 : decode prog_9_method_30_code 10 = .ok (.aload_n 0, 1) := by decide +kernel
theorem dd_M_later_11 : decode prog_9_method_30_code 11 = .ok (.getfield 65, 3) := by decide +kernel
theorem dd_M_later_14 : decode prog_9_method_30_code 14 = .ok (.aload_n 0, 1) := by decide +kernel
theorem dd_M_later_15 : decode prog_9_method_30_code 15 = .ok (.getfield 188, 3) := by decide +kernel
theorem dd_M_later_18 : decode prog_9_method_30_code 18 = .ok (.iload_n 2, 1) := by decide +kernel
theorem dd_M_later_19 : decode prog_9_method_30_code 19 = .ok (.iastore, 1) := by decide +kernel
theorem dd_M_later_20 : decode prog_9_method_30_code 20 = .ok (.aload_n 0, 1) := by decide +kernel
theorem dd_M_later_21 : decode prog_9_method_30_code 21 = .ok (.getfield 68, 3) := by decide +kernel
theorem dd_M_later_24 : decode prog_9_method_30_code 24 = .ok (.aload_n 0, 1) := by decide +kernel
theorem dd_M_later_25 : decode prog_9_method_30_code 25 = .ok (.getfield 188, 3) := by decide +kernel
theorem dd_M_later_28 : decode prog_9_method_30_code 28 = .ok (.iload_n 3, 1) := by decide +kernel
theorem dd_M_later_29 : decode prog_9_method_30_code 29 = .ok (.iastore, 1) := by decide +kernel
theorem dd_M_later_30 : decode prog_9_method_30_code 30 = .ok (.aload_n 0, 1) := by decide +kernel
theorem dd_M_later_31 : decode prog_9_method_30_code 31 = .ok (.getfield 71, 3) := by decide +kernel
theorem dd_M_later_34 : decode prog_9_method_30_code 34 = .ok (.aload_n 0, 1) := by decide +kernel
theorem dd_M_later_35 : decode prog_9_method_30_code 35 = .ok (.getfield 188, 3) := by decide +kernel
theorem dd_M_later_38 : decode prog_9_method_30_code 38 = .ok (.iload 4, 2) := by decide +kernel
theorem dd_M_later_40 : decode prog_9_method_30_code 40 = .ok (.iastore, 1) := by decide +kernel
theorem dd_M_later_41 : decode prog_9_method_30_code 41 = .ok (.aload_n 0, 1) := by decide +kernel
theorem dd_M_later_42 : decode prog_9_method_30_code 42 = .ok (.dup, 1) := by decide +kernel
theorem dd_M_later_43 : decode prog_9_method_30_code 43 = .ok (.getfield 188, 3) := by decide +kernel
theorem dd_M_later_46 : decode prog_9_method_30_code 46 = .ok (.iconst 1, 1) := by decide +kernel
theorem dd_M_later_47 : decode prog_9_method_30_code 47 = .ok (.iadd, 1) := by decide +kernel
theorem dd_M_later_48 : decode prog_9_method_30_code 48 = .ok (.putfield 188, 3) := by decide +kernel
theorem dd_M_later_51 : decode prog_9_method_30_code 51 = .ok (.return_, 1) := by decide +kernel
theorem dd_M_less_0 : decode prog_9_method_19_code 0 = .ok (.lload_n 0, 1) := by decide +kernel
theorem dd_M_less_1 : decode prog_9_method_19_code 1 = .ok (.ldc2_w 135, 3) := by decide +kernel
theorem dd_M_less_4 : decode prog_9_method_19_code 4 = .ok (.lcmp, 1) := by decide +kernel
theorem dd_M_less_5 : decode prog_9_method_19_code 5 = .ok (.ifCond .le 8, 3) := by decide +kernel
theorem dd_M_less_8 : decode prog_9_method_19_code 8 = .ok (.ldc 137, 2) := by decide +kernel
theorem dd_M_less_10 : decode prog_9_method_19_code 10 = .ok (.goto 5, 3) := by decide +kernel
theorem dd_M_less_13 : decode prog_9_method_19_code 13 = .ok (.lload_n 0, 1) := by decide +kernel
theorem dd_M_less_14 : decode prog_9_method_19_code 14 = .ok (.l2i, 1) := by decide +kernel
theorem dd_M_less_15 : decode prog_9_method_19_code 15 = .ok (.ireturn, 1) := by decide +kernel
theorem dd_M_lowest_0 : decode prog_9_method_7_code 0 = .ok (.iload_n 2, 1) := by decide +kernel
theorem dd_M_lowest_1 : decode prog_9_method_7_code 1 = .ok (.bipush 8, 2) := by decide +kernel
theorem dd_M_lowest_3 : decode prog_9_method_7_code 3 = .ok (.if_icmp .ne 7, 3) := by decide +kernel
theorem dd_M_lowest_6 : decode prog_9_method_7_code 6 = .ok (.lload_n 0, 1) := by decide +kernel
theorem dd_M_lowest_7 : decode prog_9_method_7_code 7 = .ok (.goto 13, 3) := by decide +kernel
theorem dd_M_lowest_10 : decode prog_9_method_7_code 10 = .ok (.lload_n 0, 1) := by decide +kernel
theorem dd_M_lowest_11 : decode prog_9_method_7_code 11 = .ok (.lconst 1, 1) := by decide +kernel
theorem dd_M_lowest_12 : decode prog_9_method_7_code 12 = .ok (.bipush 8, 2) := by decide +kernel
theorem dd_M_lowest_14 : decode prog_9_method_7_code 14 = .ok (.iload_n 2, 1) := by decide +kernel
theorem dd_M_lowest_15 : decode prog_9_method_7_code 15 = .ok (.imul, 1) := by decide +kernel
theorem dd_M_lowest_16 : decode prog_9_method_7_code 16 = .ok (.lshl, 1) := by decide +kernel
theorem dd_M_lowest_17 : decode prog_9_method_7_code 17 = .ok (.lconst 1, 1) := by decide +kernel
theorem dd_M_lowest_18 : decode prog_9_method_7_code 18 = .ok (.lsub, 1) := by decide +kernel
theorem dd_M_lowest_19 : decode prog_9_method_7_code 19 = .ok (.land, 1) := by decide +kernel
theorem dd_M_lowest_20 : decode prog_9_method_7_code 20 = .ok (.lreturn, 1) := by decide +kernel
theorem dd_M_mayBeTerm_0 : decode prog_9_method_25_code 0 = .ok (.iload_n 3, 1) := by decide +kernel
theorem dd_M_mayBeTerm_1 : decode prog_9_method_25_code 1 = .ok (.iload_n 2, 1) := by decide +kernel
theorem dd_M_mayBeTerm_2 : decode prog_9_method_25_code 2 = .ok (.iconst 1, 1) := by decide +kernel
theorem dd_M_mayBeTerm_3 : decode prog_9_method_25_code 3 = .ok (.iadd, 1) := by decide +kernel
theorem dd_M_mayBeTerm_4 : decode prog_9_method_25_code 4 = .ok (.if_icmp .ne 15, 3) := by decide +kernel
theorem dd_M_mayBeTerm_7 : decode prog_9_method_25_code 7 = .ok (.aload_n 0, 1) := by decide +kernel
theorem dd_M_mayBeTerm_8 : decode prog_9_method_25_code 8 = .ok (.iload_n 2, 1) := by decide +kernel
theorem dd_M_mayBeTerm_9 : decode prog_9_method_25_code 9 = .ok (.invokevirtual 146, 3) := by decide +kernel
theorem dd_M_mayBeTerm_12 : decode prog_9_method_25_code 12 = .ok (.ifCond .eq 7, 3) := by decide +kernel
theorem dd_M_mayBeTerm_15 : decode prog_9_method_25_code 15 = .ok (.iconst 1, 1) := by decide +kernel
theorem dd_M_mayBeTerm_16 : decode prog_9_method_25_code 16 = .ok (.goto 4, 3) := by decide +kernel
theorem dd_M_mayBeTerm_19 : decode prog_9_method_25_code 19 = .ok (.iconst 0, 1) := by decide +kernel
theorem dd_M_mayBeTerm_20 : decode prog_9_method_25_code 20 = .ok (.istore 4, 2) := by decide +kernel
theorem dd_M_mayBeTerm_22 : decode prog_9_method_25_code 22 = .ok (.aload_n 0, 1) := by decide +kernel
theorem dd_M_mayBeTerm_23 : decode prog_9_method_25_code 23 = .ok (.iload_n 2, 1) := by decide +kernel
theorem dd_M_mayBeTerm_24 : decode prog_9_method_25_code 24 = .ok (.bipush 40, 2) := by decide +kernel
theorem dd_M_mayBeTerm_26 : decode prog_9_method_25_code 26 = .ok (.invokevirtual 149, 3) := by decide +kernel
theorem dd_M_mayBeTerm_29 : decode prog_9_method_25_code 29 = .ok (.ifCond .eq 75, 3) := by decide +kernel
theorem dd_M_mayBeTerm_32 : decode prog_9_method_25_code 32 = .ok (.iload 4, 2) := by decide +kernel
theorem dd_M_mayBeTerm_34 : decode prog_9_method_25_code 34 = .ok (.ifCond .ne 14, 3) := by decide +kernel
theorem dd_M_mayBeTerm_37 : decode prog_9_method_25_code 37 = .ok (.aload_n 0, 1) := by decide +kernel
theorem dd_M_mayBeTerm_38 : decode prog_9_method_25_code 38 = .ok (.getfield 43, 3) := by decide +kernel
theorem dd_M_mayBeTerm_41 : decode prog_9_method_25_code 41 = .ok (.iload_n 2, 1) := by decide +kernel
theorem dd_M_mayBeTerm_42 : decode prog_9_method_25_code 42 = .ok (.iconst 1, 1) := by decide +kernel
theorem dd_M_mayBeTerm_43 : decode prog_9_method_25_code 43 = .ok (.iadd, 1) := by decide +kernel
theorem dd_M_mayBeTerm_44 : decode prog_9_method_25_code 44 = .ok (.baload, 1) := by decide +kernel
theorem dd_M_mayBeTerm_45 : decode prog_9_method_25_code 45 = .ok (.ifCond .eq 7, 3) := by decide +kernel
theorem dd_M_mayBeTerm_48 : decode prog_9_method_25_code 48 = .ok (.iconst 1, 1) := by decide +kernel
theorem dd_M_mayBeTerm_49 : decode prog_9_method_25_code 49 = .ok (.goto 4, 3) := by decide +kernel
theorem dd_M_mayBeTerm_52 : decode prog_9_method_25_code 52 = .ok (.iconst 0, 1) := by decide +kernel
theorem dd_M_mayBeTerm_53 : decode prog_9_method_25_code 53 = .ok (.istore 4, 2) := by decide +kernel
theorem dd_M_mayBeTerm_55 : decode prog_9_method_25_code 55 = .ok (.iload 4, 2) := by decide +kernel
theorem dd_M_mayBeTerm_57 : decode prog_9_method_25_code 57 = .ok (.ifCond .ne 40, 3) := by decide +kernel
theorem dd_M_mayBeTerm_60 : decode prog_9_method_25_code 60 = .ok (.aload_n 0, 1) := by decide +kernel
theorem dd_M_mayBeTerm_61 : decode prog_9_method_25_code 61 = .ok (.iload_n 3, 1) := by decide +kernel
theorem dd_M_mayBeTerm_62 : decode prog_9_method_25_code 62 = .ok (.iconst 1, 1) := by decide +kernel
theorem dd_M_mayBeTerm_63 : decode prog_9_method_25_code 63 = .ok (.isub, 1) := by decide +kernel
theorem dd_M_mayBeTerm_64 : decode prog_9_method_25_code 64 = .ok (.bipush 41, 2) := by decide +kernel
theorem dd_M_mayBeTerm_66 : decode prog_9_method_25_code 66 = .ok (.invokevirtual 149, 3) := by decide +kernel
theorem dd_M_mayBeTerm_69 : decode prog_9_method_25_code 69 = .ok (.ifCond .eq 32, 3) := by decide +kernel
theorem dd_M_mayBeTerm_72 : decode prog_9_method_25_code 72 = .ok (.iload_n 3, 1) := by decide +kernel
theorem dd_M_mayBeTerm_73 : decode prog_9_method_25_code 73 = .ok (.iload_n 2, 1) := by decide +kernel
theorem dd_M_mayBeTerm_74 : decode prog_9_method_25_code 74 = .ok (.iconst 2, 1) := by decide +kernel
theorem dd_M_mayBeTerm_75 : decode prog_9_method_25_code 75 = .ok (.iadd, 1) := by decide +kernel
theorem dd_M_mayBeTerm_76 : decode prog_9_method_25_code 76 = .ok (.if_icmp .le 25, 3) := by decide +kernel
theorem dd_M_mayBeTerm_79 : decode prog_9_method_25_code 79 = .ok (.aload_n 0, 1) := by decide +kernel
theorem dd_M_mayBeTerm_80 : decode prog_9_method_25_code 80 = .ok (.getfield 36, 3) := by decide +kernel
theorem dd_M_mayBeTerm_83 : decode prog_9_method_25_code 83 = .ok (.iconst 0, 1) := by decide +kernel
theorem dd_M_mayBeTerm_84 : decode prog_9_method_25_code 84 = .ok (.iload_n 2, 1) := by decide +kernel
theorem dd_M_mayBeTerm_85 : decode prog_9_method_25_code 85 = .ok (.iconst 1, 1) := by decide +kernel
theorem dd_M_mayBeTerm_86 : decode prog_9_method_25_code 86 = .ok (.iadd, 1) := by decide +kernel
theorem dd_M_mayBeTerm_87 : decode prog_9_method_25_code 87 = .ok (.iload_n 3, 1) := by decide +kernel
theorem dd_M_mayBeTerm_88 : decode prog_9_method_25_code 88 = .ok (.iconst 1, 1) := by decide +kernel
theorem dd_M_mayBeTerm_89 : decode prog_9_method_25_code 89 = .ok (.isub, 1) := by decide +kernel
theorem dd_M_mayBeTerm_90 : decode prog_9_method_25_code 90 = .ok (.invokestatic 138, 3) := by decide +kernel
theorem dd_M_mayBeTerm_93 : decode prog_9_method_25_code 93 = .ok (.iaload, 1) := by decide +kernel
theorem dd_M_mayBeTerm_94 : decode prog_9_method_25_code 94 = .ok (.ifCond .le 7, 3) := by decide +kernel
theorem dd_M_mayBeTerm_97 : decode prog_9_method_25_code 97 = .ok (.iconst 1, 1) := by decide +kernel
theorem dd_M_mayBeTerm_98 : decode prog_9_method_25_code 98 = .ok (.goto 4, 3) := by decide +kernel
theorem dd_M_mayBeTerm_101 : decode prog_9_method_25_code 101 = .ok (.iconst 0, 1) := by decide +kernel
theorem dd_M_mayBeTerm_102 : decode prog_9_method_25_code 102 = .ok (.istore 4, 2) := by decide +kernel
theorem dd_M_mayBeTerm_104 : decode prog_9_method_25_code 104 = .ok (.iconst 0, 1) := by decide +kernel
theorem dd_M_mayBeTerm_105 : decode prog_9_method_25_code 105 = .ok (.istore 5, 2) := by decide +kernel
theorem dd_M_mayBeTerm_107 : decode prog_9_method_25_code 107 = .ok (.iload 5, 2) := by decide +kernel
theorem dd_M_mayBeTerm_109 : decode prog_9_method_25_code 109 = .ok (.aload_n 0, 1) := by decide +kernel
theorem dd_M_mayBeTerm_110 : decode prog_9_method_25_code 110 = .ok (.getfield 100, 3) := by decide +kernel
theorem dd_M_mayBeTerm_113 : decode prog_9_method_25_code 113 = .ok (.if_icmp .ge 44, 3) := by decide +kernel
theorem dd_M_mayBeTerm_116 : decode prog_9_method_25_code 116 = .ok (.iload 4, 2) := by decide +kernel
theorem dd_M_mayBeTerm_118 : decode prog_9_method_25_code 118 = .ok (.ifCond .ne 26, 3) := by decide +kernel
theorem dd_M_mayBeTerm_121 : decode prog_9_method_25_code 121 = .ok (.aload_n 0, 1) := by decide +kernel
theorem dd_M_mayBeTerm_122 : decode prog_9_method_25_code 122 = .ok (.getfield 20, 3) := by decide +kernel
theorem dd_M_mayBeTerm_125 : decode prog_9_method_25_code 125 = .ok (.iload 5, 2) := by decide +kernel
theorem dd_M_mayBeTerm_127 : decode prog_9_method_25_code 127 = .ok (.iaload, 1) := by decide +kernel
theorem dd_M_mayBeTerm_128 : decode prog_9_method_25_code 128 = .ok (.iload_n 1, 1) := by decide +kernel
theorem dd_M_mayBeTerm_129 : decode prog_9_method_25_code 129 = .ok (.if_icmp .lt 19, 3) := by decide +kernel
theorem dd_M_mayBeTerm_132 : decode prog_9_method_25_code 132 = .ok (.aload_n 0, 1) := by decide +kernel
theorem dd_M_mayBeTerm_133 : decode prog_9_method_25_code 133 = .ok (.iload 5, 2) := by decide +kernel
theorem dd_M_mayBeTerm_135 : decode prog_9_method_25_code 135 = .ok (.iconst 0, 1) := by decide +kernel
theorem dd_M_mayBeTerm_136 : decode prog_9_method_25_code 136 = .ok (.iload_n 2, 1) := by decide +kernel
theorem dd_M_mayBeTerm_137 : decode prog_9_method_25_code 137 = .ok (.iload_n 3, 1) := by decide +kernel
theorem dd_M_mayBeTerm_138 : decode prog_9_method_25_code 138 = .ok (.invokevirtual 161, 3) := by decide +kernel
theorem dd_M_mayBeTerm_141 : decode prog_9_method_25_code 141 = .ok (.ifCond .eq 7, 3) := by decide +kernel
theorem dd_M_mayBeTerm_144 : decode prog_9_method_25_code 144 = .ok (.iconst 1, 1) := by decide +kernel
theorem dd_M_mayBeTerm_145 : decode prog_9_method_25_code 145 = .ok (.goto 4, 3) := by decide +kernel
theorem dd_M_mayBeTerm_148 : decode prog_9_method_25_code 148 = .ok (.iconst 0, 1) := by decide +kernel
theorem dd_M_mayBeTerm_149 : decode prog_9_method_25_code 149 = .ok (.istore 4, 2) := by decide +kernel
theorem dd_M_mayBeTerm_151 : decode prog_9_method_25_code 151 = .ok (.iinc 5 1, 3) := by decide +kernel
theorem dd_M_mayBeTerm_154 : decode prog_9_method_25_code 154 = .ok (.goto (-47), 3) := by decide +kernel
theorem dd_M_mayBeTerm_157 : decode prog_9_method_25_code 157 = .ok (.iload 4, 2) := by decide +kernel
theorem dd_M_mayBeTerm_159 : decode prog_9_method_25_code 159 = .ok (.ireturn, 1) := by decide +kernel
theorem dd_M_mayBegin_0 : decode prog_9_method_24_code 0 = .ok (.bipush 7, 2) := by decide +kernel
theorem dd_M_mayBegin_2 : decode prog_9_method_24_code 2 = .ok (.iload_n 1, 1) := by decide +kernel
theorem dd_M_mayBegin_3 : decode prog_9_method_24_code 3 = .ok (.imul, 1) := by decide +kernel
theorem dd_M_mayBegin_4 : decode prog_9_method_24_code 4 = .ok (.iload_n 2, 1) := by decide +kernel
theorem dd_M_mayBegin_5 : decode prog_9_method_24_code 5 = .ok (.iadd, 1) := by decide +kernel
theorem dd_M_mayBegin_6 : decode prog_9_method_24_code 6 = .ok (.istore 5, 2) := by decide +kernel
theorem dd_M_mayBegin_8 : decode prog_9_method_24_code 8 = .ok (.iload_n 3, 1) := by decide +kernel
theorem dd_M_mayBegin_9 : decode prog_9_method_24_code 9 = .ok (.iload 4, 2) := by decide +kernel
theorem dd_M_mayBegin_11 : decode prog_9_method_24_code 11 = .ok (.if_icmp .ne 5, 3) := by decide +kernel
theorem dd_M_mayBegin_14 : decode prog_9_method_24_code 14 = .ok (.iconst 1, 1) := by decide +kernel
theorem dd_M_mayBegin_15 : decode prog_9_method_24_code 15 = .ok (.ireturn, 1) := by decide +kernel
theorem dd_M_mayBegin_16 : decode prog_9_method_24_code 16 = .ok (.iload_n 2, 1) := by decide +kernel
theorem dd_M_mayBegin_17 : decode prog_9_method_24_code 17 = .ok (.aload_n 0, 1) := by decide +kernel
theorem dd_M_mayBegin_18 : decode prog_9_method_24_code 18 = .ok (.getfield 17, 3) := by decide +kernel
theorem dd_M_mayBegin_21 : decode prog_9_method_24_code 21 = .ok (.iload_n 1, 1) := by decide +kernel
theorem dd_M_mayBegin_22 : decode prog_9_method_24_code 22 = .ok (.iaload, 1) := by decide +kernel
theorem dd_M_mayBegin_23 : decode prog_9_method_24_code 23 = .ok (.if_icmp .ne 5, 3) := by decide +kernel
theorem dd_M_mayBegin_26 : decode prog_9_method_24_code 26 = .ok (.iconst 0, 1) := by decide +kernel
theorem dd_M_mayBegin_27 : decode prog_9_method_24_code 27 = .ok (.ireturn, 1) := by decide +kernel
theorem dd_M_mayBegin_28 : decode prog_9_method_24_code 28 = .ok (.aload_n 0, 1) := by decide +kernel
theorem dd_M_mayBegin_29 : decode prog_9_method_24_code 29 = .ok (.getfield 7, 3) := by decide +kernel
theorem dd_M_mayBegin_32 : decode prog_9_method_24_code 32 = .ok (.iload 5, 2) := by decide +kernel
theorem dd_M_mayBegin_34 : decode prog_9_method_24_code 34 = .ok (.iaload, 1) := by decide +kernel
theorem dd_M_mayBegin_35 : decode prog_9_method_24_code 35 = .ok (.iconst (-1), 1) := by decide +kernel
theorem dd_M_mayBegin_36 : decode prog_9_method_24_code 36 = .ok (.if_icmp .ne 45, 3) := by decide +kernel
theorem dd_M_mayBegin_39 : decode prog_9_method_24_code 39 = .ok (.aload_n 0, 1) := by decide +kernel
theorem dd_M_mayBegin_40 : decode prog_9_method_24_code 40 = .ok (.getfield 30, 3) := by decide +kernel
theorem dd_M_mayBegin_43 : decode prog_9_method_24_code 43 = .ok (.iload_n 3, 1) := by decide +kernel
theorem dd_M_mayBegin_44 : decode prog_9_method_24_code 44 = .ok (.laload, 1) := by decide +kernel
theorem dd_M_mayBegin_45 : decode prog_9_method_24_code 45 = .ok (.aload_n 0, 1) := by decide +kernel
theorem dd_M_mayBegin_46 : decode prog_9_method_24_code 46 = .ok (.getfield 13, 3) := by decide +kernel
theorem dd_M_mayBegin_49 : decode prog_9_method_24_code 49 = .ok (.iload 5, 2) := by decide +kernel
theorem dd_M_mayBegin_51 : decode prog_9_method_24_code 51 = .ok (.laload, 1) := by decide +kernel
theorem dd_M_mayBegin_52 : decode prog_9_method_24_code 52 = .ok (.lcmp, 1) := by decide +kernel
theorem dd_M_mayBegin_53 : decode prog_9_method_24_code 53 = .ok (.ifCond .ne 26, 3) := by decide +kernel
theorem dd_M_mayBegin_56 : decode prog_9_method_24_code 56 = .ok (.aload_n 0, 1) := by decide +kernel
theorem dd_M_mayBegin_57 : decode prog_9_method_24_code 57 = .ok (.getfield 47, 3) := by decide +kernel
theorem dd_M_mayBegin_60 : decode prog_9_method_24_code 60 = .ok (.bipush 31, 2) := by decide +kernel
theorem dd_M_mayBegin_62 : decode prog_9_method_24_code 62 = .ok (.iload 5, 2) := by decide +kernel
theorem dd_M_mayBegin_64 : decode prog_9_method_24_code 64 = .ok (.iconst 1, 1) := by decide +kernel
theorem dd_M_mayBegin_65 : decode prog_9_method_24_code 65 = .ok (.iadd, 1) := by decide +kernel
theorem dd_M_mayBegin_66 : decode prog_9_method_24_code 66 = .ok (.imul, 1) := by decide +kernel
theorem dd_M_mayBegin_67 : decode prog_9_method_24_code 67 = .ok (.iload_n 3, 1) := by decide +kernel
theorem dd_M_mayBegin_68 : decode prog_9_method_24_code 68 = .ok (.iadd, 1) := by decide +kernel
theorem dd_M_mayBegin_69 : decode prog_9_method_24_code 69 = .ok (.iconst 1, 1) := by decide +kernel
theorem dd_M_mayBegin_70 : decode prog_9_method_24_code 70 = .ok (.iadd, 1) := by decide +kernel
theorem dd_M_mayBegin_71 : decode prog_9_method_24_code 71 = .ok (.baload, 1) := by decide +kernel
theorem dd_M_mayBegin_72 : decode prog_9_method_24_code 72 = .ok (.ifCond .eq 7, 3) := by decide +kernel
theorem dd_M_mayBegin_75 : decode prog_9_method_24_code 75 = .ok (.iconst 1, 1) := by decide +kernel
theorem dd_M_mayBegin_76 : decode prog_9_method_24_code 76 = .ok (.goto 4, 3) := by decide +kernel
theorem dd_M_mayBegin_79 : decode prog_9_method_24_code 79 = .ok (.iconst 0, 1) := by decide +kernel
theorem dd_M_mayBegin_80 : decode prog_9_method_24_code 80 = .ok (.ireturn, 1) := by decide +kernel
theorem dd_M_mayBegin_81 : decode prog_9_method_24_code 81 = .ok (.aload_n 0, 1) := by decide +kernel
theorem dd_M_mayBegin_82 : decode prog_9_method_24_code 82 = .ok (.getfield 43, 3) := by decide +kernel
theorem dd_M_mayBegin_85 : decode prog_9_method_24_code 85 = .ok (.bipush 31, 2) := by decide +kernel
theorem dd_M_mayBegin_87 : decode prog_9_method_24_code 87 = .ok (.aload_n 0, 1) := by decide +kernel
theorem dd_M_mayBegin_88 : decode prog_9_method_24_code 88 = .ok (.getfield 7, 3) := by decide +kernel
theorem dd_M_mayBegin_91 : decode prog_9_method_24_code 91 = .ok (.iload 5, 2) := by decide +kernel
theorem dd_M_mayBegin_93 : decode prog_9_method_24_code 93 = .ok (.iaload, 1) := by decide +kernel
theorem dd_M_mayBegin_94 : decode prog_9_method_24_code 94 = .ok (.imul, 1) := by decide +kernel
theorem dd_M_mayBegin_95 : decode prog_9_method_24_code 95 = .ok (.iload_n 3, 1) := by decide +kernel
theorem dd_M_mayBegin_96 : decode prog_9_method_24_code 96 = .ok (.iadd, 1) := by decide +kernel
theorem dd_M_mayBegin_97 : decode prog_9_method_24_code 97 = .ok (.baload, 1) := by decide +kernel
theorem dd_M_mayBegin_98 : decode prog_9_method_24_code 98 = .ok (.istore 6, 2) := by decide +kernel
theorem dd_M_mayBegin_100 : decode prog_9_method_24_code 100 = .ok (.iload_n 3, 1) := by decide +kernel
theorem dd_M_mayBegin_101 : decode prog_9_method_24_code 101 = .ok (.iconst 1, 1) := by decide +kernel
theorem dd_M_mayBegin_102 : decode prog_9_method_24_code 102 = .ok (.iadd, 1) := by decide +kernel
theorem dd_M_mayBegin_103 : decode prog_9_method_24_code 103 = .ok (.istore 7, 2) := by decide +kernel
theorem dd_M_mayBegin_105 : decode prog_9_method_24_code 105 = .ok (.iload 7, 2) := by decide +kernel
theorem dd_M_mayBegin_107 : decode prog_9_method_24_code 107 = .ok (.iload 4, 2) := by decide +kernel
theorem dd_M_mayBegin_109 : decode prog_9_method_24_code 109 = .ok (.if_icmp .gt 60, 3) := by decide +kernel
theorem dd_M_mayBegin_112 : decode prog_9_method_24_code 112 = .ok (.iload 6, 2) := by decide +kernel
theorem dd_M_mayBegin_114 : decode prog_9_method_24_code 114 = .ok (.ifCond .ne 42, 3) := by decide +kernel
theorem dd_M_mayBegin_117 : decode prog_9_method_24_code 117 = .ok (.aload_n 0, 1) := by decide +kernel
theorem dd_M_mayBegin_118 : decode prog_9_method_24_code 118 = .ok (.getfield 36, 3) := by decide +kernel
theorem dd_M_mayBegin_121 : decode prog_9_method_24_code 121 = .ok (.aload_n 0, 1) := by decide +kernel
theorem dd_M_mayBegin_122 : decode prog_9_method_24_code 122 = .ok (.getfield 7, 3) := by decide +kernel
theorem dd_M_mayBegin_125 : decode prog_9_method_24_code 125 = .ok (.iload 5, 2) := by decide +kernel
theorem dd_M_mayBegin_127 : decode prog_9_method_24_code 127 = .ok (.iaload, 1) := by decide +kernel
theorem dd_M_mayBegin_128 : decode prog_9_method_24_code 128 = .ok (.iload_n 3, 1) := by decide +kernel
theorem dd_M_mayBegin_129 : decode prog_9_method_24_code 129 = .ok (.iload 7, 2) := by decide +kernel
theorem dd_M_mayBegin_131 : decode prog_9_method_24_code 131 = .ok (.invokestatic 138, 3) := by decide +kernel
theorem dd_M_mayBegin_134 : decode prog_9_method_24_code 134 = .ok (.iaload, 1) := by decide +kernel
theorem dd_M_mayBegin_135 : decode prog_9_method_24_code 135 = .ok (.ifCond .le 25, 3) := by decide +kernel
theorem dd_M_mayBegin_138 : decode prog_9_method_24_code 138 = .ok (.aload_n 0, 1) := by decide +kernel
theorem dd_M_mayBegin_139 : decode prog_9_method_24_code 139 = .ok (.getfield 47, 3) := by decide +kernel
theorem dd_M_mayBegin_142 : decode prog_9_method_24_code 142 = .ok (.bipush 31, 2) := by decide +kernel
theorem dd_M_mayBegin_144 : decode prog_9_method_24_code 144 = .ok (.iload 5, 2) := by decide +kernel
theorem dd_M_mayBegin_146 : decode prog_9_method_24_code 146 = .ok (.iconst 1, 1) := by decide +kernel
theorem dd_M_mayBegin_147 : decode prog_9_method_24_code 147 = .ok (.iadd, 1) := by decide +kernel
theorem dd_M_mayBegin_148 : decode prog_9_method_24_code 148 = .ok (.imul, 1) := by decide +kernel
theorem dd_M_mayBegin_149 : decode prog_9_method_24_code 149 = .ok (.iload 7, 2) := by decide +kernel
theorem dd_M_mayBegin_151 : decode prog_9_method_24_code 151 = .ok (.iadd, 1) := by decide +kernel
theorem dd_M_mayBegin_152 : decode prog_9_method_24_code 152 = .ok (.baload, 1) := by decide +kernel
theorem dd_M_mayBegin_153 : decode prog_9_method_24_code 153 = .ok (.ifCond .eq 7, 3) := by decide +kernel
theorem dd_M_mayBegin_156 : decode prog_9_method_24_code 156 = .ok (.iconst 1, 1) := by decide +kernel
theorem dd_M_mayBegin_157 : decode prog_9_method_24_code 157 = .ok (.goto 4, 3) := by decide +kernel
theorem dd_M_mayBegin_160 : decode prog_9_method_24_code 160 = .ok (.iconst 0, 1) := by decide +kernel
theorem dd_M_mayBegin_161 : decode prog_9_method_24_code 161 = .ok (.istore 6, 2) := by decide +kernel
theorem dd_M_mayBegin_163 : decode prog_9_method_24_code 163 = .ok (.iinc 7 1, 3) := by decide +kernel
theorem dd_M_mayBegin_166 : decode prog_9_method_24_code 166 = .ok (.goto (-61), 3) := by decide +kernel
theorem dd_M_mayBegin_169 : decode prog_9_method_24_code 169 = .ok (.iload 6, 2) := by decide +kernel
theorem dd_M_mayBegin_171 : decode prog_9_method_24_code 171 = .ok (.ireturn, 1) := by decide +kernel
theorem dd_M_node_0 : decode prog_9_method_36_code 0 = .ok (.aload_n 0, 1) := by decide +kernel
theorem dd_M_node_1 : decode prog_9_method_36_code 1 = .ok (.iload_n 1, 1) := by decide +kernel
theorem dd_M_node_2 : decode prog_9_method_36_code 2 = .ok (.ifCond .lt 11, 3) := by decide +kernel
theorem dd_M_node_5 : decode prog_9_method_36_code 5 = .ok (.iload_n 1, 1) := by decide +kernel
theorem dd_M_node_6 : decode prog_9_method_36_code 6 = .ok (.aload_n 0, 1) := by decide +kernel
theorem dd_M_node_7 : decode prog_9_method_36_code 7 = .ok (.getfield 122, 3) := by decide +kernel
theorem dd_M_node_10 : decode prog_9_method_36_code 10 = .ok (.if_icmp .lt 7, 3) := by decide +kernel
theorem dd_M_node_13 : decode prog_9_method_36_code 13 = .ok (.iconst 1, 1) := by decide +kernel
theorem dd_M_node_14 : decode prog_9_method_36_code 14 = .ok (.goto 4, 3) := by decide +kernel
theorem dd_M_node_17 : decode prog_9_method_36_code 17 = .ok (.iconst 0, 1) := by decide +kernel
theorem dd_M_node_18 : decode prog_9_method_36_code 18 = .ok (.putfield 80, 3) := by decide +kernel
theorem dd_M_node_21 : decode prog_9_method_36_code 21 = .ok (.aload_n 0, 1) := by decide +kernel
theorem dd_M_node_22 : decode prog_9_method_36_code 22 = .ok (.getfield 80, 3) := by decide +kernel
theorem dd_M_node_25 : decode prog_9_method_36_code 25 = .ok (.ifCond .le 5, 3) := by decide +kernel
theorem dd_M_node_28 : decode prog_9_method_36_code 28 = .ok (.iconst 0, 1) := by decide +kernel
theorem dd_M_node_29 : decode prog_9_method_36_code 29 = .ok (.ireturn, 1) := by decide +kernel
theorem dd_M_node_30 : decode prog_9_method_36_code 30 = .ok (.iload_n 2, 1) := by decide +kernel
theorem dd_M_node_31 : decode prog_9_method_36_code 31 = .ok (.tableswitch 72 0 4 #[33, 40, 46, 58, 65], 33) := by decide +kernel
theorem dd_M_node_64 : decode prog_9_method_36_code 64 = .ok (.aload_n 0, 1) := by decide +kernel
theorem dd_M_node_65 : decode prog_9_method_36_code 65 = .ok (.getfield 50, 3) := by decide +kernel
theorem dd_M_node_68 : decode prog_9_method_36_code 68 = .ok (.iload_n 1, 1) := by decide +kernel
theorem dd_M_node_69 : decode prog_9_method_36_code 69 = .ok (.iaload, 1) := by decide +kernel
theorem dd_M_node_70 : decode prog_9_method_36_code 70 = .ok (.ireturn, 1) := by decide +kernel
theorem dd_M_node_71 : decode prog_9_method_36_code 71 = .ok (.aload_n 0, 1) := by decide +kernel
theorem dd_M_node_72 : decode prog_9_method_36_code 72 = .ok (.iload_n 1, 1) := by decide +kernel
theorem dd_M_node_73 : decode prog_9_method_36_code 73 = .ok (.invokevirtual 205, 3) := by decide +kernel
theorem dd_M_node_76 : decode prog_9_method_36_code 76 = .ok (.ireturn, 1) := by decide +kernel
theorem dd_M_node_77 : decode prog_9_method_36_code 77 = .ok (.aload_n 0, 1) := by decide +kernel
theorem dd_M_node_78 : decode prog_9_method_36_code 78 = .ok (.getfield 33, 3) := by decide +kernel
theorem dd_M_node_81 : decode prog_9_method_36_code 81 = .ok (.aload_n 0, 1) := by decide +kernel
theorem dd_M_node_82 : decode prog_9_method_36_code 82 = .ok (.getfield 53, 3) := by decide +kernel
theorem dd_M_node_85 : decode prog_9_method_36_code 85 = .ok (.iload_n 1, 1) := by decide +kernel
theorem dd_M_node_86 : decode prog_9_method_36_code 86 = .ok (.iaload, 1) := by decide +kernel
theorem dd_M_node_87 : decode prog_9_method_36_code 87 = .ok (.iaload, 1) := by decide +kernel
theorem dd_M_node_88 : decode prog_9_method_36_code 88 = .ok (.ireturn, 1) := by decide +kernel
theorem dd_M_node_89 : decode prog_9_method_36_code 89 = .ok (.aload_n 0, 1) := by decide +kernel
theorem dd_M_node_90 : decode prog_9_method_36_code 90 = .ok (.getfield 56, 3) := by decide +kernel
theorem dd_M_node_93 : decode prog_9_method_36_code 93 = .ok (.iload_n 1, 1) := by decide +kernel
theorem dd_M_node_94 : decode prog_9_method_36_code 94 = .ok (.iaload, 1) := by decide +kernel
theorem dd_M_node_95 : decode prog_9_method_36_code 95 = .ok (.ireturn, 1) := by decide +kernel
theorem dd_M_node_96 : decode prog_9_method_36_code 96 = .ok (.aload_n 0, 1) := by decide +kernel
theorem dd_M_node_97 : decode prog_9_method_36_code 97 = .ok (.getfield 59, 3) := by decide +kernel
theorem dd_M_node_100 : decode prog_9_method_36_code 100 = .ok (.iload_n 1, 1) := by decide +kernel
theorem dd_M_node_101 : decode prog_9_method_36_code 101 = .ok (.iaload, 1) := by decide +kernel
theorem dd_M_node_102 : decode prog_9_method_36_code 102 = .ok (.ireturn, 1) := by decide +kernel
theorem dd_M_node_103 : decode prog_9_method_36_code 103 = .ok (.bipush (-3), 2) := by decide +kernel
theorem dd_M_node_105 : decode prog_9_method_36_code 105 = .ok (.ireturn, 1) := by decide +kernel
theorem dd_M_notation_0 : decode prog_9_method_13_code 0 = .ok (.iconst 0, 1) := by decide +kernel
theorem dd_M_notation_1 : decode prog_9_method_13_code 1 = .ok (.istore_n 2, 1) := by decide +kernel
theorem dd_M_notation_2 : decode prog_9_method_13_code 2 = .ok (.iconst 0, 1) := by decide +kernel
theorem dd_M_notation_3 : decode prog_9_method_13_code 3 = .ok (.istore_n 3, 1) := by decide +kernel
theorem dd_M_notation_4 : decode prog_9_method_13_code 4 = .ok (.iload_n 3, 1) := by decide +kernel
theorem dd_M_notation_5 : decode prog_9_method_13_code 5 = .ok (.aload_n 0, 1) := by decide +kernel
theorem dd_M_notation_6 : decode prog_9_method_13_code 6 = .ok (.getfield 103, 3) := by decide +kernel
theorem dd_M_notation_9 : decode prog_9_method_13_code 9 = .ok (.if_icmp .ge 32, 3) := by decide +kernel
theorem dd_M_notation_12 : decode prog_9_method_13_code 12 = .ok (.iload_n 2, 1) := by decide +kernel
theorem dd_M_notation_13 : decode prog_9_method_13_code 13 = .ok (.ifCond .ne 16, 3) := by decide +kernel
theorem dd_M_notation_16 : decode prog_9_method_13_code 16 = .ok (.aload_n 0, 1) := by decide +kernel
theorem dd_M_notation_17 : decode prog_9_method_13_code 17 = .ok (.getfield 7, 3) := by decide +kernel
theorem dd_M_notation_20 : decode prog_9_method_13_code 20 = .ok (.bipush 84, 2) := by decide +kernel
theorem dd_M_notation_22 : decode prog_9_method_13_code 22 = .ok (.iload_n 3, 1) := by decide +kernel
theorem dd_M_notation_23 : decode prog_9_method_13_code 23 = .ok (.iadd, 1) := by decide +kernel
theorem dd_M_notation_24 : decode prog_9_method_13_code 24 = .ok (.iaload, 1) := by decide +kernel
theorem dd_M_notation_25 : decode prog_9_method_13_code 25 = .ok (.iconst (-1), 1) := by decide +kernel
theorem dd_M_notation_26 : decode prog_9_method_13_code 26 = .ok (.if_icmp .ne 7, 3) := by decide +kernel
theorem dd_M_notation_29 : decode prog_9_method_13_code 29 = .ok (.iconst 1, 1) := by decide +kernel
theorem dd_M_notation_30 : decode prog_9_method_13_code 30 = .ok (.goto 4, 3) := by decide +kernel
theorem dd_M_notation_33 : decode prog_9_method_13_code 33 = .ok (.iconst 0, 1) := by decide +kernel
theorem dd_M_notation_34 : decode prog_9_method_13_code 34 = .ok (.istore_n 2, 1) := by decide +kernel
theorem dd_M_notation_35 : decode prog_9_method_13_code 35 = .ok (.iinc 3 1, 3) := by decide +kernel
theorem dd_M_notation_38 : decode prog_9_method_13_code 38 = .ok (.goto (-34), 3) := by decide +kernel
theorem dd_M_notation_41 : decode prog_9_method_13_code 41 = .ok (.aload_n 0, 1) := by decide +kernel
theorem dd_M_notation_42 : decode prog_9_method_13_code 42 = .ok (.iload_n 1, 1) := by decide +kernel
theorem dd_M_notation_43 : decode prog_9_method_13_code 43 = .ok (.ifCond .lt 13, 3) := by decide +kernel
theorem dd_M_notation_46 : decode prog_9_method_13_code 46 = .ok (.iload_n 1, 1) := by decide +kernel
theorem dd_M_notation_47 : decode prog_9_method_13_code 47 = .ok (.bipush 9, 2) := by decide +kernel
theorem dd_M_notation_49 : decode prog_9_method_13_code 49 = .ok (.if_icmp .gt 7, 3) := by decide +kernel
theorem dd_M_notation_52 : decode prog_9_method_13_code 52 = .ok (.iload_n 2, 1) := by decide +kernel
theorem dd_M_notation_53 : decode prog_9_method_13_code 53 = .ok (.ifCond .ne 7, 3) := by decide +kernel
theorem dd_M_notation_56 : decode prog_9_method_13_code 56 = .ok (.iconst 1, 1) := by decide +kernel
theorem dd_M_notation_57 : decode prog_9_method_13_code 57 = .ok (.goto 17, 3) := by decide +kernel
theorem dd_M_notation_60 : decode prog_9_method_13_code 60 = .ok (.aload_n 0, 1) := by decide +kernel
theorem dd_M_notation_61 : decode prog_9_method_13_code 61 = .ok (.getfield 100, 3) := by decide +kernel
theorem dd_M_notation_64 : decode prog_9_method_13_code 64 = .ok (.bipush 12, 2) := by decide +kernel
theorem dd_M_notation_66 : decode prog_9_method_13_code 66 = .ok (.if_icmp .ne 7, 3) := by decide +kernel
theorem dd_M_notation_69 : decode prog_9_method_13_code 69 = .ok (.iconst 2, 1) := by decide +kernel
theorem dd_M_notation_70 : decode prog_9_method_13_code 70 = .ok (.goto 4, 3) := by decide +kernel
theorem dd_M_notation_73 : decode prog_9_method_13_code 73 = .ok (.iconst 0, 1) := by decide +kernel
theorem dd_M_notation_74 : decode prog_9_method_13_code 74 = .ok (.putfield 80, 3) := by decide +kernel
theorem dd_M_notation_77 : decode prog_9_method_13_code 77 = .ok (.aload_n 0, 1) := by decide +kernel
theorem dd_M_notation_78 : decode prog_9_method_13_code 78 = .ok (.getfield 80, 3) := by decide +kernel
theorem dd_M_notation_81 : decode prog_9_method_13_code 81 = .ok (.iconst 1, 1) := by decide +kernel
theorem dd_M_notation_82 : decode prog_9_method_13_code 82 = .ok (.if_icmp .ne 8, 3) := by decide +kernel
theorem dd_M_notation_85 : decode prog_9_method_13_code 85 = .ok (.aload_n 0, 1) := by decide +kernel
theorem dd_M_notation_86 : decode prog_9_method_13_code 86 = .ok (.iconst 0, 1) := by decide +kernel
theorem dd_M_notation_87 : decode prog_9_method_13_code 87 = .ok (.putfield 103, 3) := by decide +kernel
theorem dd_M_notation_90 : decode prog_9_method_13_code 90 = .ok (.aload_n 0, 1) := by decide +kernel
theorem dd_M_notation_91 : decode prog_9_method_13_code 91 = .ok (.getfield 80, 3) := by decide +kernel
theorem dd_M_notation_94 : decode prog_9_method_13_code 94 = .ok (.ifCond .le 5, 3) := by decide +kernel
theorem dd_M_notation_97 : decode prog_9_method_13_code 97 = .ok (.iconst 0, 1) := by decide +kernel
theorem dd_M_notation_98 : decode prog_9_method_13_code 98 = .ok (.ireturn, 1) := by decide +kernel
theorem dd_M_notation_99 : decode prog_9_method_13_code 99 = .ok (.iconst 0, 1) := by decide +kernel
theorem dd_M_notation_100 : decode prog_9_method_13_code 100 = .ok (.istore_n 3, 1) := by decide +kernel
theorem dd_M_notation_101 : decode prog_9_method_13_code 101 = .ok (.iload_n 3, 1) := by decide +kernel
theorem dd_M_notation_102 : decode prog_9_method_13_code 102 = .ok (.aload_n 0, 1) := by decide +kernel
theorem dd_M_notation_103 : decode prog_9_method_13_code 103 = .ok (.getfield 103, 3) := by decide +kernel
theorem dd_M_notation_106 : decode prog_9_method_13_code 106 = .ok (.if_icmp .ge 55, 3) := by decide +kernel
theorem dd_M_notation_109 : decode prog_9_method_13_code 109 = .ok (.aload_n 0, 1) := by decide +kernel
theorem dd_M_notation_110 : decode prog_9_method_13_code 110 = .ok (.getfield 7, 3) := by decide +kernel
theorem dd_M_notation_113 : decode prog_9_method_13_code 113 = .ok (.bipush 7, 2) := by decide +kernel
theorem dd_M_notation_115 : decode prog_9_method_13_code 115 = .ok (.aload_n 0, 1) := by decide +kernel
theorem dd_M_notation_116 : decode prog_9_method_13_code 116 = .ok (.getfield 100, 3) := by decide +kernel
theorem dd_M_notation_119 : decode prog_9_method_13_code 119 = .ok (.imul, 1) := by decide +kernel
theorem dd_M_notation_120 : decode prog_9_method_13_code 120 = .ok (.iload_n 3, 1) := by decide +kernel
theorem dd_M_notation_121 : decode prog_9_method_13_code 121 = .ok (.iadd, 1) := by decide +kernel
theorem dd_M_notation_122 : decode prog_9_method_13_code 122 = .ok (.aload_n 0, 1) := by decide +kernel
theorem dd_M_notation_123 : decode prog_9_method_13_code 123 = .ok (.getfield 7, 3) := by decide +kernel
theorem dd_M_notation_126 : decode prog_9_method_13_code 126 = .ok (.bipush 84, 2) := by decide +kernel
theorem dd_M_notation_128 : decode prog_9_method_13_code 128 = .ok (.iload_n 3, 1) := by decide +kernel
theorem dd_M_notation_129 : decode prog_9_method_13_code 129 = .ok (.iadd, 1) := by decide +kernel
theorem dd_M_notation_130 : decode prog_9_method_13_code 130 = .ok (.iaload, 1) := by decide +kernel
theorem dd_M_notation_131 : decode prog_9_method_13_code 131 = .ok (.iastore, 1) := by decide +kernel
theorem dd_M_notation_132 : decode prog_9_method_13_code 132 = .ok (.aload_n 0, 1) := by decide +kernel
theorem dd_M_notation_133 : decode prog_9_method_13_code 133 = .ok (.getfield 13, 3) := by decide +kernel
theorem dd_M_notation_136 : decode prog_9_method_13_code 136 = .ok (.bipush 7, 2) := by decide +kernel
