theorem dd_M_about_0 : decode prog_9_method_44_code 0 = .ok (.aload_n 0, 1) := by decide +kernel
theorem dd_M_about_1 : decode prog_9_method_44_code 1 = .ok (.iconst 0, 1) := by decide +kernel
theorem dd_M_about_2 : decode prog_9_method_44_code 2 = .ok (.putfield 80, 3) := by decide +kernel
theorem dd_M_about_5 : decode prog_9_method_44_code 5 = .ok (.iload_n 1, 1) := by decide +kernel
theorem dd_M_about_6 : decode prog_9_method_44_code 6 = .ok (.tableswitch 59 0 4 #[34, 39, 44, 49, 54], 34) := by decide +kernel
theorem dd_M_about_40 : decode prog_9_method_44_code 40 = .ok (.aload_n 0, 1) := by decide +kernel
theorem dd_M_about_41 : decode prog_9_method_44_code 41 = .ok (.getfield 100, 3) := by decide +kernel
theorem dd_M_about_44 : decode prog_9_method_44_code 44 = .ok (.ireturn, 1) := by decide +kernel
theorem dd_M_about_45 : decode prog_9_method_44_code 45 = .ok (.aload_n 0, 1) := by decide +kernel
theorem dd_M_about_46 : decode prog_9_method_44_code 46 = .ok (.getfield 103, 3) := by decide +kernel
theorem dd_M_about_49 : decode prog_9_method_44_code 49 = .ok (.ireturn, 1) := by decide +kernel
theorem dd_M_about_50 : decode prog_9_method_44_code 50 = .ok (.aload_n 0, 1) := by decide +kernel
theorem dd_M_about_51 : decode prog_9_method_44_code 51 = .ok (.getfield 125, 3) := by decide +kernel
theorem dd_M_about_54 : decode prog_9_method_44_code 54 = .ok (.ireturn, 1) := by decide +kernel
theorem dd_M_about_55 : decode prog_9_method_44_code 55 = .ok (.aload_n 0, 1) := by decide +kernel
theorem dd_M_about_56 : decode prog_9_method_44_code 56 = .ok (.getfield 122, 3) := by decide +kernel
theorem dd_M_about_59 : decode prog_9_method_44_code 59 = .ok (.ireturn, 1) := by decide +kernel
theorem dd_M_about_60 : decode prog_9_method_44_code 60 = .ok (.aload_n 0, 1) := by decide +kernel
theorem dd_M_about_61 : decode prog_9_method_44_code 61 = .ok (.getfield 208, 3) := by decide +kernel
theorem dd_M_about_64 : decode prog_9_method_44_code 64 = .ok (.ireturn, 1) := by decide +kernel
theorem dd_M_about_65 : decode prog_9_method_44_code 65 = .ok (.iconst (-1), 1) := by decide +kernel
theorem dd_M_about_66 : decode prog_9_method_44_code 66 = .ok (.ireturn, 1) := by decide +kernel
theorem dd_M_at_0 : decode prog_9_method_42_code 0 = .ok (.aload_n 0, 1) := by decide +kernel
theorem dd_M_at_1 : decode prog_9_method_42_code 1 = .ok (.iconst 0, 1) := by decide +kernel
theorem dd_M_at_2 : decode prog_9_method_42_code 2 = .ok (.putfield 80, 3) := by decide +kernel
theorem dd_M_at_5 : decode prog_9_method_42_code 5 = .ok (.iload_n 1, 1) := by decide +kernel
theorem dd_M_at_6 : decode prog_9_method_42_code 6 = .ok (.ifCond .lt 11, 3) := by decide +kernel
theorem dd_M_at_9 : decode prog_9_method_42_code 9 = .ok (.iload_n 1, 1) := by decide +kernel
theorem dd_M_at_10 : decode prog_9_method_42_code 10 = .ok (.aload_n 0, 1) := by decide +kernel
theorem dd_M_at_11 : decode prog_9_method_42_code 11 = .ok (.getfield 208, 3) := by decide +kernel
theorem dd_M_at_14 : decode prog_9_method_42_code 14 = .ok (.if_icmp .lt 7, 3) := by decide +kernel
theorem dd_M_at_17 : decode prog_9_method_42_code 17 = .ok (.iconst (-1), 1) := by decide +kernel
theorem dd_M_at_18 : decode prog_9_method_42_code 18 = .ok (.goto 9, 3) := by decide +kernel
theorem dd_M_at_21 : decode prog_9_method_42_code 21 = .ok (.aload_n 0, 1) := by decide +kernel
theorem dd_M_at_22 : decode prog_9_method_42_code 22 = .ok (.getfield 74, 3) := by decide +kernel
theorem dd_M_at_25 : decode prog_9_method_42_code 25 = .ok (.iload_n 1, 1) := by decide +kernel
theorem dd_M_at_26 : decode prog_9_method_42_code 26 = .ok (.iaload, 1) := by decide +kernel
theorem dd_M_at_27 : decode prog_9_method_42_code 27 = .ok (.ireturn, 1) := by decide +kernel
theorem dd_M_byteOf_0 : decode prog_9_method_6_code 0 = .ok (.lload_n 0, 1) := by decide +kernel
theorem dd_M_byteOf_1 : decode prog_9_method_6_code 1 = .ok (.bipush 8, 2) := by decide +kernel
theorem dd_M_byteOf_3 : decode prog_9_method_6_code 3 = .ok (.iload_n 2, 1) := by decide +kernel
theorem dd_M_byteOf_4 : decode prog_9_method_6_code 4 = .ok (.iconst 1, 1) := by decide +kernel
theorem dd_M_byteOf_5 : decode prog_9_method_6_code 5 = .ok (.isub, 1) := by decide +kernel
theorem dd_M_byteOf_6 : decode prog_9_method_6_code 6 = .ok (.iload_n 3, 1) := by decide +kernel
theorem dd_M_byteOf_7 : decode prog_9_method_6_code 7 = .ok (.isub, 1) := by decide +kernel
theorem dd_M_byteOf_8 : decode prog_9_method_6_code 8 = .ok (.imul, 1) := by decide +kernel
theorem dd_M_byteOf_9 : decode prog_9_method_6_code 9 = .ok (.lshr, 1) := by decide +kernel
theorem dd_M_byteOf_10 : decode prog_9_method_6_code 10 = .ok (.ldc2_w 90, 3) := by decide +kernel
theorem dd_M_byteOf_13 : decode prog_9_method_6_code 13 = .ok (.land, 1) := by decide +kernel
theorem dd_M_byteOf_14 : decode prog_9_method_6_code 14 = .ok (.l2i, 1) := by decide +kernel
theorem dd_M_byteOf_15 : decode prog_9_method_6_code 15 = .ok (.ireturn, 1) := by decide +kernel
theorem dd_M_canBegin_0 : decode prog_9_method_26_code 0 = .ok (.iconst 0, 1) := by decide +kernel
theorem dd_M_canBegin_1 : decode prog_9_method_26_code 1 = .ok (.istore_n 2, 1) := by decide +kernel
theorem dd_M_canBegin_2 : decode prog_9_method_26_code 2 = .ok (.iload_n 2, 1) := by decide +kernel
theorem dd_M_canBegin_3 : decode prog_9_method_26_code 3 = .ok (.sipush 2604, 3) := by decide +kernel
theorem dd_M_canBegin_6 : decode prog_9_method_26_code 6 = .ok (.if_icmp .ge 16, 3) := by decide +kernel
theorem dd_M_canBegin_9 : decode prog_9_method_26_code 9 = .ok (.aload_n 0, 1) := by decide +kernel
theorem dd_M_canBegin_10 : decode prog_9_method_26_code 10 = .ok (.getfield 47, 3) := by decide +kernel
theorem dd_M_canBegin_13 : decode prog_9_method_26_code 13 = .ok (.iload_n 2, 1) := by decide +kernel
theorem dd_M_canBegin_14 : decode prog_9_method_26_code 14 = .ok (.iconst 0, 1) := by decide +kernel
theorem dd_M_canBegin_15 : decode prog_9_method_26_code 15 = .ok (.bastore, 1) := by decide +kernel
theorem dd_M_canBegin_16 : decode prog_9_method_26_code 16 = .ok (.iinc 2 1, 3) := by decide +kernel
theorem dd_M_canBegin_19 : decode prog_9_method_26_code 19 = .ok (.goto (-17), 3) := by decide +kernel
theorem dd_M_canBegin_22 : decode prog_9_method_26_code 22 = .ok (.iconst 0, 1) := by decide +kernel
theorem dd_M_canBegin_23 : decode prog_9_method_26_code 23 = .ok (.istore_n 2, 1) := by decide +kernel
theorem dd_M_canBegin_24 : decode prog_9_method_26_code 24 = .ok (.iload_n 2, 1) := by decide +kernel
theorem dd_M_canBegin_25 : decode prog_9_method_26_code 25 = .ok (.sipush 341, 3) := by decide +kernel
theorem dd_M_canBegin_28 : decode prog_9_method_26_code 28 = .ok (.if_icmp .ge 16, 3) := by decide +kernel
theorem dd_M_canBegin_31 : decode prog_9_method_26_code 31 = .ok (.aload_n 0, 1) := by decide +kernel
theorem dd_M_canBegin_32 : decode prog_9_method_26_code 32 = .ok (.getfield 43, 3) := by decide +kernel
theorem dd_M_canBegin_35 : decode prog_9_method_26_code 35 = .ok (.iload_n 2, 1) := by decide +kernel
theorem dd_M_canBegin_36 : decode prog_9_method_26_code 36 = .ok (.iconst 0, 1) := by decide +kernel
theorem dd_M_canBegin_37 : decode prog_9_method_26_code 37 = .ok (.bastore, 1) := by decide +kernel
theorem dd_M_canBegin_38 : decode prog_9_method_26_code 38 = .ok (.iinc 2 1, 3) := by decide +kernel
theorem dd_M_canBegin_41 : decode prog_9_method_26_code 41 = .ok (.goto (-17), 3) := by decide +kernel
theorem dd_M_canBegin_44 : decode prog_9_method_26_code 44 = .ok (.iconst 0, 1) := by decide +kernel
theorem dd_M_canBegin_45 : decode prog_9_method_26_code 45 = .ok (.istore_n 2, 1) := by decide +kernel
theorem dd_M_canBegin_46 : decode prog_9_method_26_code 46 = .ok (.iload_n 2, 1) := by decide +kernel
theorem dd_M_canBegin_47 : decode prog_9_method_26_code 47 = .ok (.bipush 11, 2) := by decide +kernel
theorem dd_M_canBegin_49 : decode prog_9_method_26_code 49 = .ok (.if_icmp .ge 21, 3) := by decide +kernel
theorem dd_M_canBegin_52 : decode prog_9_method_26_code 52 = .ok (.aload_n 0, 1) := by decide +kernel
theorem dd_M_canBegin_53 : decode prog_9_method_26_code 53 = .ok (.getfield 43, 3) := by decide +kernel
theorem dd_M_canBegin_56 : decode prog_9_method_26_code 56 = .ok (.bipush 31, 2) := by decide +kernel
theorem dd_M_canBegin_58 : decode prog_9_method_26_code 58 = .ok (.iload_n 2, 1) := by decide +kernel
theorem dd_M_canBegin_59 : decode prog_9_method_26_code 59 = .ok (.imul, 1) := by decide +kernel
theorem dd_M_canBegin_60 : decode prog_9_method_26_code 60 = .ok (.iload_n 1, 1) := by decide +kernel
theorem dd_M_canBegin_61 : decode prog_9_method_26_code 61 = .ok (.iadd, 1) := by decide +kernel
theorem dd_M_canBegin_62 : decode prog_9_method_26_code 62 = .ok (.iconst 1, 1) := by decide +kernel
theorem dd_M_canBegin_63 : decode prog_9_method_26_code 63 = .ok (.bastore, 1) := by decide +kernel
theorem dd_M_canBegin_64 : decode prog_9_method_26_code 64 = .ok (.iinc 2 1, 3) := by decide +kernel
theorem dd_M_canBegin_67 : decode prog_9_method_26_code 67 = .ok (.goto (-21), 3) := by decide +kernel
theorem dd_M_canBegin_70 : decode prog_9_method_26_code 70 = .ok (.iconst 0, 1) := by decide +kernel
theorem dd_M_canBegin_71 : decode prog_9_method_26_code 71 = .ok (.istore_n 2, 1) := by decide +kernel
theorem dd_M_canBegin_72 : decode prog_9_method_26_code 72 = .ok (.iload_n 2, 1) := by decide +kernel
theorem dd_M_canBegin_73 : decode prog_9_method_26_code 73 = .ok (.aload_n 0, 1) := by decide +kernel
theorem dd_M_canBegin_74 : decode prog_9_method_26_code 74 = .ok (.getfield 100, 3) := by decide +kernel
theorem dd_M_canBegin_77 : decode prog_9_method_26_code 77 = .ok (.if_icmp .ge 44, 3) := by decide +kernel
theorem dd_M_canBegin_80 : decode prog_9_method_26_code 80 = .ok (.iconst 0, 1) := by decide +kernel
theorem dd_M_canBegin_81 : decode prog_9_method_26_code 81 = .ok (.istore_n 3, 1) := by decide +kernel
theorem dd_M_canBegin_82 : decode prog_9_method_26_code 82 = .ok (.iload_n 3, 1) := by decide +kernel
theorem dd_M_canBegin_83 : decode prog_9_method_26_code 83 = .ok (.aload_n 0, 1) := by decide +kernel
theorem dd_M_canBegin_84 : decode prog_9_method_26_code 84 = .ok (.getfield 17, 3) := by decide +kernel
theorem dd_M_canBegin_87 : decode prog_9_method_26_code 87 = .ok (.iload_n 2, 1) := by decide +kernel
theorem dd_M_canBegin_88 : decode prog_9_method_26_code 88 = .ok (.iaload, 1) := by decide +kernel
theorem dd_M_canBegin_89 : decode prog_9_method_26_code 89 = .ok (.if_icmp .gt 26, 3) := by decide +kernel
theorem dd_M_canBegin_92 : decode prog_9_method_26_code 92 = .ok (.aload_n 0, 1) := by decide +kernel
theorem dd_M_canBegin_93 : decode prog_9_method_26_code 93 = .ok (.getfield 47, 3) := by decide +kernel
theorem dd_M_canBegin_96 : decode prog_9_method_26_code 96 = .ok (.bipush 31, 2) := by decide +kernel
theorem dd_M_canBegin_98 : decode prog_9_method_26_code 98 = .ok (.bipush 7, 2) := by decide +kernel
theorem dd_M_canBegin_100 : decode prog_9_method_26_code 100 = .ok (.iload_n 2, 1) := by decide +kernel
theorem dd_M_canBegin_101 : decode prog_9_method_26_code 101 = .ok (.imul, 1) := by decide +kernel
theorem dd_M_canBegin_102 : decode prog_9_method_26_code 102 = .ok (.iload_n 3, 1) := by decide +kernel
theorem dd_M_canBegin_103 : decode prog_9_method_26_code 103 = .ok (.iadd, 1) := by decide +kernel
theorem dd_M_canBegin_104 : decode prog_9_method_26_code 104 = .ok (.imul, 1) := by decide +kernel
theorem dd_M_canBegin_105 : decode prog_9_method_26_code 105 = .ok (.iload_n 1, 1) := by decide +kernel
theorem dd_M_canBegin_106 : decode prog_9_method_26_code 106 = .ok (.iadd, 1) := by decide +kernel
theorem dd_M_canBegin_107 : decode prog_9_method_26_code 107 = .ok (.iconst 1, 1) := by decide +kernel
theorem dd_M_canBegin_108 : decode prog_9_method_26_code 108 = .ok (.bastore, 1) := by decide +kernel
theorem dd_M_canBegin_109 : decode prog_9_method_26_code 109 = .ok (.iinc 3 1, 3) := by decide +kernel
theorem dd_M_canBegin_112 : decode prog_9_method_26_code 112 = .ok (.goto (-30), 3) := by decide +kernel
theorem dd_M_canBegin_115 : decode prog_9_method_26_code 115 = .ok (.iinc 2 1, 3) := by decide +kernel
theorem dd_M_canBegin_118 : decode prog_9_method_26_code 118 = .ok (.goto (-46), 3) := by decide +kernel
theorem dd_M_canBegin_121 : decode prog_9_method_26_code 121 = .ok (.iload_n 1, 1) := by decide +kernel
theorem dd_M_canBegin_122 : decode prog_9_method_26_code 122 = .ok (.iconst 1, 1) := by decide +kernel
theorem dd_M_canBegin_123 : decode prog_9_method_26_code 123 = .ok (.isub, 1) := by decide +kernel
theorem dd_M_canBegin_124 : decode prog_9_method_26_code 124 = .ok (.istore_n 2, 1) := by decide +kernel
theorem dd_M_canBegin_125 : decode prog_9_method_26_code 125 = .ok (.iload_n 2, 1) := by decide +kernel
theorem dd_M_canBegin_126 : decode prog_9_method_26_code 126 = .ok (.ifCond .lt 121, 3) := by decide +kernel
theorem dd_M_canBegin_129 : decode prog_9_method_26_code 129 = .ok (.iconst 0, 1) := by decide +kernel
theorem dd_M_canBegin_130 : decode prog_9_method_26_code 130 = .ok (.istore_n 3, 1) := by decide +kernel
theorem dd_M_canBegin_131 : decode prog_9_method_26_code 131 = .ok (.iload_n 3, 1) := by decide +kernel
theorem dd_M_canBegin_132 : decode prog_9_method_26_code 132 = .ok (.bipush 11, 2) := by decide +kernel
theorem dd_M_canBegin_134 : decode prog_9_method_26_code 134 = .ok (.if_icmp .ge 45, 3) := by decide +kernel
theorem dd_M_canBegin_137 : decode prog_9_method_26_code 137 = .ok (.iconst 0, 1) := by decide +kernel
theorem dd_M_canBegin_138 : decode prog_9_method_26_code 138 = .ok (.istore 4, 2) := by decide +kernel
theorem dd_M_canBegin_140 : decode prog_9_method_26_code 140 = .ok (.iload 4, 2) := by decide +kernel
theorem dd_M_canBegin_142 : decode prog_9_method_26_code 142 = .ok (.bipush 11, 2) := by decide +kernel
theorem dd_M_canBegin_144 : decode prog_9_method_26_code 144 = .ok (.if_icmp .ge 29, 3) := by decide +kernel
theorem dd_M_canBegin_147 : decode prog_9_method_26_code 147 = .ok (.aload_n 0, 1) := by decide +kernel
theorem dd_M_canBegin_148 : decode prog_9_method_26_code 148 = .ok (.getfield 43, 3) := by decide +kernel
theorem dd_M_canBegin_151 : decode prog_9_method_26_code 151 = .ok (.bipush 31, 2) := by decide +kernel
theorem dd_M_canBegin_153 : decode prog_9_method_26_code 153 = .ok (.iload 4, 2) := by decide +kernel
theorem dd_M_canBegin_155 : decode prog_9_method_26_code 155 = .ok (.imul, 1) := by decide +kernel
theorem dd_M_canBegin_156 : decode prog_9_method_26_code 156 = .ok (.iload_n 2, 1) := by decide +kernel
theorem dd_M_canBegin_157 : decode prog_9_method_26_code 157 = .ok (.iadd, 1) := by decide +kernel
theorem dd_M_canBegin_158 : decode prog_9_method_26_code 158 = .ok (.aload_n 0, 1) := by decide +kernel
theorem dd_M_canBegin_159 : decode prog_9_method_26_code 159 = .ok (.iload 4, 2) := by decide +kernel
theorem dd_M_canBegin_161 : decode prog_9_method_26_code 161 = .ok (.iload_n 2, 1) := by decide +kernel
theorem dd_M_canBegin_162 : decode prog_9_method_26_code 162 = .ok (.iload_n 1, 1) := by decide +kernel
theorem dd_M_canBegin_163 : decode prog_9_method_26_code 163 = .ok (.invokevirtual 165, 3) := by decide +kernel
theorem dd_M_canBegin_166 : decode prog_9_method_26_code 166 = .ok (.bastore, 1) := by decide +kernel
theorem dd_M_canBegin_167 : decode prog_9_method_26_code 167 = .ok (.iinc 4 1, 3) := by decide +kernel
theorem dd_M_canBegin_170 : decode prog_9_method_26_code 170 = .ok (.goto (-30), 3) := by decide +kernel
theorem dd_M_canBegin_173 : decode prog_9_method_26_code 173 = .ok (.iinc 3 1, 3) := by decide +kernel
theorem dd_M_canBegin_176 : decode prog_9_method_26_code 176 = .ok (.goto (-45), 3) := by decide +kernel
theorem dd_M_canBegin_179 : decode prog_9_method_26_code 179 = .ok (.iconst 0, 1) := by decide +kernel
theorem dd_M_canBegin_180 : decode prog_9_method_26_code 180 = .ok (.istore_n 3, 1) := by decide +kernel
theorem dd_M_canBegin_181 : decode prog_9_method_26_code 181 = .ok (.iload_n 3, 1) := by decide +kernel
theorem dd_M_canBegin_182 : decode prog_9_method_26_code 182 = .ok (.aload_n 0, 1) := by decide +kernel
theorem dd_M_canBegin_183 : decode prog_9_method_26_code 183 = .ok (.getfield 100, 3) := by decide +kernel
theorem dd_M_canBegin_186 : decode prog_9_method_26_code 186 = .ok (.if_icmp .ge 55, 3) := by decide +kernel
theorem dd_M_canBegin_189 : decode prog_9_method_26_code 189 = .ok (.iconst 0, 1) := by decide +kernel
theorem dd_M_canBegin_190 : decode prog_9_method_26_code 190 = .ok (.istore 4, 2) := by decide +kernel
theorem dd_M_canBegin_192 : decode prog_9_method_26_code 192 = .ok (.iload 4, 2) := by decide +kernel
theorem dd_M_canBegin_194 : decode prog_9_method_26_code 194 = .ok (.aload_n 0, 1) := by decide +kernel
theorem dd_M_canBegin_195 : decode prog_9_method_26_code 195 = .ok (.getfield 17, 3) := by decide +kernel
theorem dd_M_canBegin_198 : decode prog_9_method_26_code 198 = .ok (.iload_n 3, 1) := by decide +kernel
theorem dd_M_canBegin_199 : decode prog_9_method_26_code 199 = .ok (.iaload, 1) := by decide +kernel
theorem dd_M_canBegin_200 : decode prog_9_method_26_code 200 = .ok (.if_icmp .gt 35, 3) := by decide +kernel
theorem dd_M_canBegin_203 : decode prog_9_method_26_code 203 = .ok (.aload_n 0, 1) := by decide +kernel
theorem dd_M_canBegin_204 : decode prog_9_method_26_code 204 = .ok (.getfield 47, 3) := by decide +kernel
theorem dd_M_canBegin_207 : decode prog_9_method_26_code 207 = .ok (.bipush 31, 2) := by decide +kernel
theorem dd_M_canBegin_209 : decode prog_9_method_26_code 209 = .ok (.bipush 7, 2) := by decide +kernel
theorem dd_M_canBegin_211 : decode prog_9_method_26_code 211 = .ok (.iload_n 3, 1) := by decide +kernel
theorem dd_M_canBegin_212 : decode prog_9_method_26_code 212 = .ok (.imul, 1) := by decide +kernel
theorem dd_M_canBegin_213 : decode prog_9_method_26_code 213 = .ok (.iload 4, 2) := by decide +kernel
theorem dd_M_canBegin_215 : decode prog_9_method_26_code 215 = .ok (.iadd, 1) := by decide +kernel
theorem dd_M_canBegin_216 : decode prog_9_method_26_code 216 = .ok (.imul, 1) := by decide +kernel
theorem dd_M_canBegin_217 : decode prog_9_method_26_code 217 = .ok (.iload_n 2, 1) := by decide +kernel
theorem dd_M_canBegin_218 : decode prog_9_method_26_code 218 = .ok (.iadd, 1) := by decide +kernel
theorem dd_M_canBegin_219 : decode prog_9_method_26_code 219 = .ok (.aload_n 0, 1) := by decide +kernel
theorem dd_M_canBegin_220 : decode prog_9_method_26_code 220 = .ok (.iload_n 3, 1) := by decide +kernel
theorem dd_M_canBegin_221 : decode prog_9_method_26_code 221 = .ok (.iload 4, 2) := by decide +kernel
theorem dd_M_canBegin_223 : decode prog_9_method_26_code 223 = .ok (.iload_n 2, 1) := by decide +kernel
theorem dd_M_canBegin_224 : decode prog_9_method_26_code 224 = .ok (.iload_n 1, 1) := by decide +kernel
theorem dd_M_canBegin_225 : decode prog_9_method_26_code 225 = .ok (.invokevirtual 161, 3) := by decide +kernel
theorem dd_M_canBegin_228 : decode prog_9_method_26_code 228 = .ok (.bastore, 1) := by decide +kernel
theorem dd_M_canBegin_229 : decode prog_9_method_26_code 229 = .ok (.iinc 4 1, 3) := by decide +kernel
theorem dd_M_canBegin_232 : decode prog_9_method_26_code 232 = .ok (.goto (-40), 3) := by decide +kernel
theorem dd_M_canBegin_235 : decode prog_9_method_26_code 235 = .ok (.iinc 3 1, 3) := by decide +kernel
theorem dd_M_canBegin_238 : decode prog_9_method_26_code 238 = .ok (.goto (-57), 3) := by decide +kernel
theorem dd_M_canBegin_241 : decode prog_9_method_26_code 241 = .ok (.iinc 2 (-1), 3) := by decide +kernel
theorem dd_M_canBegin_244 : decode prog_9_method_26_code 244 = .ok (.goto (-119), 3) := by decide +kernel
theorem dd_M_canBegin_247 : decode prog_9_method_26_code 247 = .ok (.aload_n 0, 1) := by decide +kernel
theorem dd_M_canBegin_248 : decode prog_9_method_26_code 248 = .ok (.getfield 43, 3) := by decide +kernel
theorem dd_M_canBegin_251 : decode prog_9_method_26_code 251 = .ok (.iconst 0, 1) := by decide +kernel
theorem dd_M_canBegin_252 : decode prog_9_method_26_code 252 = .ok (.baload, 1) := by decide +kernel
theorem dd_M_canBegin_253 : decode prog_9_method_26_code 253 = .ok (.ireturn, 1) := by decide +kernel
theorem dd_M_cell_0 : decode prog_9_method_20_code 0 = .ok (.iload_n 0, 1) := by decide +kernel
theorem dd_M_cell_1 : decode prog_9_method_20_code 1 = .ok (.bipush 31, 2) := by decide +kernel
theorem dd_M_cell_3 : decode prog_9_method_20_code 3 = .ok (.imul, 1) := by decide +kernel
theorem dd_M_cell_4 : decode prog_9_method_20_code 4 = .ok (.iload_n 1, 1) := by decide +kernel
theorem dd_M_cell_5 : decode prog_9_method_20_code 5 = .ok (.iadd, 1) := by decide +kernel
theorem dd_M_cell_6 : decode prog_9_method_20_code 6 = .ok (.bipush 31, 2) := by decide +kernel
theorem dd_M_cell_8 : decode prog_9_method_20_code 8 = .ok (.imul, 1) := by decide +kernel
theorem dd_M_cell_9 : decode prog_9_method_20_code 9 = .ok (.iload_n 2, 1) := by decide +kernel
theorem dd_M_cell_10 : decode prog_9_method_20_code 10 = .ok (.iadd, 1) := by decide +kernel
theorem dd_M_cell_11 : decode prog_9_method_20_code 11 = .ok (.ireturn, 1) := by decide +kernel
theorem dd_M_change_0 : decode prog_9_method_34_code 0 = .ok (.aload_n 0, 1) := by decide +kernel
theorem dd_M_change_1 : decode prog_9_method_34_code 1 = .ok (.getfield 62, 3) := by decide +kernel
theorem dd_M_change_4 : decode prog_9_method_34_code 4 = .ok (.iload_n 1, 1) := by decide +kernel
theorem dd_M_change_5 : decode prog_9_method_34_code 5 = .ok (.iaload, 1) := by decide +kernel
theorem dd_M_change_6 : decode prog_9_method_34_code 6 = .ok (.istore_n 3, 1) := by decide +kernel
theorem dd_M_change_7 : decode prog_9_method_34_code 7 = .ok (.aload_n 0, 1) := by decide +kernel
theorem dd_M_change_8 : decode prog_9_method_34_code 8 = .ok (.getfield 65, 3) := by decide +kernel
theorem dd_M_change_11 : decode prog_9_method_34_code 11 = .ok (.iload_n 1, 1) := by decide +kernel
theorem dd_M_change_12 : decode prog_9_method_34_code 12 = .ok (.iaload, 1) := by decide +kernel
theorem dd_M_change_13 : decode prog_9_method_34_code 13 = .ok (.istore 4, 2) := by decide +kernel
theorem dd_M_change_15 : decode prog_9_method_34_code 15 = .ok (.aload_n 0, 1) := by decide +kernel
theorem dd_M_change_16 : decode prog_9_method_34_code 16 = .ok (.getfield 68, 3) := by decide +kernel
theorem dd_M_change_19 : decode prog_9_method_34_code 19 = .ok (.iload_n 1, 1) := by decide +kernel
theorem dd_M_change_20 : decode prog_9_method_34_code 20 = .ok (.iaload, 1) := by decide +kernel
theorem dd_M_change_21 : decode prog_9_method_34_code 21 = .ok (.istore 5, 2) := by decide +kernel
theorem dd_M_change_23 : decode prog_9_method_34_code 23 = .ok (.aload_n 0, 1) := by decide +kernel
theorem dd_M_change_24 : decode prog_9_method_34_code 24 = .ok (.getfield 62, 3) := by decide +kernel
theorem dd_M_change_27 : decode prog_9_method_34_code 27 = .ok (.iload_n 1, 1) := by decide +kernel
theorem dd_M_change_28 : decode prog_9_method_34_code 28 = .ok (.aload_n 0, 1) := by decide +kernel
theorem dd_M_change_29 : decode prog_9_method_34_code 29 = .ok (.getfield 62, 3) := by decide +kernel
theorem dd_M_change_32 : decode prog_9_method_34_code 32 = .ok (.iload_n 2, 1) := by decide +kernel
theorem dd_M_change_33 : decode prog_9_method_34_code 33 = .ok (.iaload, 1) := by decide +kernel
theorem dd_M_change_34 : decode prog_9_method_34_code 34 = .ok (.iastore, 1) := by decide +kernel
theorem dd_M_change_35 : decode prog_9_method_34_code 35 = .ok (.aload_n 0, 1) := by decide +kernel
theorem dd_M_change_36 : decode prog_9_method_34_code 36 = .ok (.getfield 65, 3) := by decide +kernel
theorem dd_M_change_39 : decode prog_9_method_34_code 39 = .ok (.iload_n 1, 1) := by decide +kernel
theorem dd_M_change_40 : decode prog_9_method_34_code 40 = .ok (.aload_n 0, 1) := by decide +kernel
theorem dd_M_change_41 : decode prog_9_method_34_code 41 = .ok (.getfield 65, 3) := by decide +kernel
theorem dd_M_change_44 : decode prog_9_method_34_code 44 = .ok (.iload_n 2, 1) := by decide +kernel
theorem dd_M_change_45 : decode prog_9_method_34_code 45 = .ok (.iaload, 1) := by decide +kernel
theorem dd_M_change_46 : decode prog_9_method_34_code 46 = .ok (.iastore, 1) := by decide +kernel
theorem dd_M_change_47 : decode prog_9_method_34_code 47 = .ok (.aload_n 0, 1) := by decide +kernel
theorem dd_M_change_48 : decode prog_9_method_34_code 48 = .ok (.getfield 68, 3) := by decide +kernel
theorem dd_M_change_51 : decode prog_9_method_34_code 51 = .ok (.iload_n 1, 1) := by decide +kernel
theorem dd_M_change_52 : decode prog_9_method_34_code 52 = .ok (.aload_n 0, 1) := by decide +kernel
theorem dd_M_change_53 : decode prog_9_method_34_code 53 = .ok (.getfield 68, 3) := by decide +kernel
theorem dd_M_change_56 : decode prog_9_method_34_code 56 = .ok (.iload_n 2, 1) := by decide +kernel
theorem dd_M_change_57 : decode prog_9_method_34_code 57 = .ok (.iaload, 1) := by decide +kernel
theorem dd_M_change_58 : decode prog_9_method_34_code 58 = .ok (.iastore, 1) := by decide +kernel
theorem dd_M_change_59 : decode prog_9_method_34_code 59 = .ok (.aload_n 0, 1) := by decide +kernel
theorem dd_M_change_60 : decode prog_9_method_34_code 60 = .ok (.getfield 62, 3) := by decide +kernel
theorem dd_M_change_63 : decode prog_9_method_34_code 63 = .ok (.iload_n 2, 1) := by decide +kernel
theorem dd_M_change_64 : decode prog_9_method_34_code 64 = .ok (.iload_n 3, 1) := by decide +kernel
theorem dd_M_change_65 : decode prog_9_method_34_code 65 = .ok (.iastore, 1) := by decide +kernel
theorem dd_M_change_66 : decode prog_9_method_34_code 66 = .ok (.aload_n 0, 1) := by decide +kernel
theorem dd_M_change_67 : decode prog_9_method_34_code 67 = .ok (.getfield 65, 3) := by decide +kernel
theorem dd_M_change_70 : decode prog_9_method_34_code 70 = .ok (.iload_n 2, 1) := by decide +kernel
theorem dd_M_change_71 : decode prog_9_method_34_code 71 = .ok (.iload 4, 2) := by decide +kernel
theorem dd_M_change_73 : decode prog_9_method_34_code 73 = .ok (.iastore, 1) := by decide +kernel
theorem dd_M_change_74 : decode prog_9_method_34_code 74 = .ok (.aload_n 0, 1) := by decide +kernel
theorem dd_M_change_75 : decode prog_9_method_34_code 75 = .ok (.getfield 68, 3) := by decide +kernel
theorem dd_M_change_78 : decode prog_9_method_34_code 78 = .ok (.iload_n 2, 1) := by decide +kernel
theorem dd_M_change_79 : decode prog_9_method_34_code 79 = .ok (.iload 5, 2) := by decide +kernel
theorem dd_M_change_81 : decode prog_9_method_34_code 81 = .ok (.iastore, 1) := by decide +kernel
theorem dd_M_change_82 : decode prog_9_method_34_code 82 = .ok (.return_, 1) := by decide +kernel
theorem dd_M_childAt_0 : decode prog_9_method_37_code 0 = .ok (.iload_n 1, 1) := by decide +kernel
theorem dd_M_childAt_1 : decode prog_9_method_37_code 1 = .ok (.iconst 1, 1) := by decide +kernel
theorem dd_M_childAt_2 : decode prog_9_method_37_code 2 = .ok (.iadd, 1) := by decide +kernel
theorem dd_M_childAt_3 : decode prog_9_method_37_code 3 = .ok (.istore_n 3, 1) := by decide +kernel
theorem dd_M_childAt_4 : decode prog_9_method_37_code 4 = .ok (.aload_n 0, 1) := by decide +kernel
theorem dd_M_childAt_5 : decode prog_9_method_37_code 5 = .ok (.getfield 59, 3) := by decide +kernel
theorem dd_M_childAt_8 : decode prog_9_method_37_code 8 = .ok (.iload_n 3, 1) := by decide +kernel
theorem dd_M_childAt_9 : decode prog_9_method_37_code 9 = .ok (.iaload, 1) := by decide +kernel
theorem dd_M_childAt_10 : decode prog_9_method_37_code 10 = .ok (.iload_n 1, 1) := by decide +kernel
theorem dd_M_childAt_11 : decode prog_9_method_37_code 11 = .ok (.if_icmp .ne 13, 3) := by decide +kernel
theorem dd_M_childAt_14 : decode prog_9_method_37_code 14 = .ok (.aload_n 0, 1) := by decide +kernel
theorem dd_M_childAt_15 : decode prog_9_method_37_code 15 = .ok (.getfield 53, 3) := by decide +kernel
theorem dd_M_childAt_18 : decode prog_9_method_37_code 18 = .ok (.iload_n 3, 1) := by decide +kernel
theorem dd_M_childAt_19 : decode prog_9_method_37_code 19 = .ok (.iaload, 1) := by decide +kernel
theorem dd_M_childAt_20 : decode prog_9_method_37_code 20 = .ok (.iload_n 2, 1) := by decide +kernel
theorem dd_M_childAt_21 : decode prog_9_method_37_code 21 = .ok (.if_icmp .eq 9, 3) := by decide +kernel
theorem dd_M_childAt_24 : decode prog_9_method_37_code 24 = .ok (.iinc 3 1, 3) := by decide +kernel
theorem dd_M_childAt_27 : decode prog_9_method_37_code 27 = .ok (.goto (-23), 3) := by decide +kernel
theorem dd_M_childAt_30 : decode prog_9_method_37_code 30 = .ok (.iload_n 3, 1) := by decide +kernel
theorem dd_M_childAt_31 : decode prog_9_method_37_code 31 = .ok (.ireturn, 1) := by decide +kernel
theorem dd_M_children_0 : decode prog_9_method_35_code 0 = .ok (.iconst 0, 1) := by decide +kernel
theorem dd_M_children_1 : decode prog_9_method_35_code 1 = .ok (.istore_n 2, 1) := by decide +kernel
theorem dd_M_children_2 : decode prog_9_method_35_code 2 = .ok (.iload_n 1, 1) := by decide +kernel
theorem dd_M_children_3 : decode prog_9_method_35_code 3 = .ok (.iconst 1, 1) := by decide +kernel
theorem dd_M_children_4 : decode prog_9_method_35_code 4 = .ok (.iadd, 1) := by decide +kernel
theorem dd_M_children_5 : decode prog_9_method_35_code 5 = .ok (.istore_n 3, 1) := by decide +kernel
theorem dd_M_children_6 : decode prog_9_method_35_code 6 = .ok (.iload_n 3, 1) := by decide +kernel
theorem dd_M_children_7 : decode prog_9_method_35_code 7 = .ok (.aload_n 0, 1) := by decide +kernel
theorem dd_M_children_8 : decode prog_9_method_35_code 8 = .ok (.getfield 122, 3) := by decide +kernel
theorem dd_M_children_11 : decode prog_9_method_35_code 11 = .ok (.if_icmp .ge 27, 3) := by decide +kernel
theorem dd_M_children_14 : decode prog_9_method_35_code 14 = .ok (.iload_n 2, 1) := by decide +kernel
theorem dd_M_children_15 : decode prog_9_method_35_code 15 = .ok (.aload_n 0, 1) := by decide +kernel
theorem dd_M_children_16 : decode prog_9_method_35_code 16 = .ok (.getfield 59, 3) := by decide +kernel
theorem dd_M_children_19 : decode prog_9_method_35_code 19 = .ok (.iload_n 3, 1) := by decide +kernel
theorem dd_M_children_20 : decode prog_9_method_35_code 20 = .ok (.iaload, 1) := by decide +kernel
theorem dd_M_children_21 : decode prog_9_method_35_code 21 = .ok (.iload_n 1, 1) := by decide +kernel
theorem dd_M_children_22 : decode prog_9_method_35_code 22 = .ok (.if_icmp .ne 7, 3) := by decide +kernel
theorem dd_M_children_25 : decode prog_9_method_35_code 25 = .ok (.iconst 1, 1) := by decide +kernel
theorem dd_M_children_26 : decode prog_9_method_35_code 26 = .ok (.goto 4, 3) := by decide +kernel
theorem dd_M_children_29 : decode prog_9_method_35_code 29 = .ok (.iconst 0, 1) := by decide +kernel
theorem dd_M_children_30 : decode prog_9_method_35_code 30 = .ok (.iadd, 1) := by decide +kernel
theorem dd_M_children_31 : decode prog_9_method_35_code 31 = .ok (.istore_n 2, 1) := by decide +kernel
theorem dd_M_children_32 : decode prog_9_method_35_code 32 = .ok (.iinc 3 1, 3) := by decide +kernel
theorem dd_M_children_35 : decode prog_9_method_35_code 35 = .ok (.goto (-29), 3) := by decide +kernel
theorem dd_M_children_38 : decode prog_9_method_35_code 38 = .ok (.iload_n 2, 1) := by decide +kernel
theorem dd_M_children_39 : decode prog_9_method_35_code 39 = .ok (.ireturn, 1) := by decide +kernel
theorem dd_M_clear_0 : decode prog_9_method_15_code 0 = .ok (.aload_n 0, 1) := by decide +kernel
theorem dd_M_clear_1 : decode prog_9_method_15_code 1 = .ok (.iconst 0, 1) := by decide +kernel
theorem dd_M_clear_2 : decode prog_9_method_15_code 2 = .ok (.putfield 80, 3) := by decide +kernel
theorem dd_M_clear_5 : decode prog_9_method_15_code 5 = .ok (.aload_n 0, 1) := by decide +kernel
theorem dd_M_clear_6 : decode prog_9_method_15_code 6 = .ok (.iconst 0, 1) := by decide +kernel
theorem dd_M_clear_7 : decode prog_9_method_15_code 7 = .ok (.putfield 125, 3) := by decide +kernel
theorem dd_M_clear_10 : decode prog_9_method_15_code 10 = .ok (.return_, 1) := by decide +kernel
theorem dd_M_count_0 : decode prog_9_method_23_code 0 = .ok (.iconst 0, 1) := by decide +kernel
theorem dd_M_count_1 : decode prog_9_method_23_code 1 = .ok (.istore_n 1, 1) := by decide +kernel
theorem dd_M_count_2 : decode prog_9_method_23_code 2 = .ok (.iload_n 1, 1) := by decide +kernel
theorem dd_M_count_3 : decode prog_9_method_23_code 3 = .ok (.sipush 10571, 3) := by decide +kernel
theorem dd_M_count_6 : decode prog_9_method_23_code 6 = .ok (.if_icmp .ge 16, 3) := by decide +kernel
theorem dd_M_count_9 : decode prog_9_method_23_code 9 = .ok (.aload_n 0, 1) := by decide +kernel
theorem dd_M_count_10 : decode prog_9_method_23_code 10 = .ok (.getfield 36, 3) := by decide +kernel
theorem dd_M_count_13 : decode prog_9_method_23_code 13 = .ok (.iload_n 1, 1) := by decide +kernel
theorem dd_M_count_14 : decode prog_9_method_23_code 14 = .ok (.iconst 0, 1) := by decide +kernel
theorem dd_M_count_15 : decode prog_9_method_23_code 15 = .ok (.iastore, 1) := by decide +kernel
theorem dd_M_count_16 : decode prog_9_method_23_code 16 = .ok (.iinc 1 1, 3) := by decide +kernel
theorem dd_M_count_19 : decode prog_9_method_23_code 19 = .ok (.goto (-17), 3) := by decide +kernel
theorem dd_M_count_22 : decode prog_9_method_23_code 22 = .ok (.iconst 0, 1) := by decide +kernel
theorem dd_M_count_23 : decode prog_9_method_23_code 23 = .ok (.istore_n 1, 1) := by decide +kernel
theorem dd_M_count_24 : decode prog_9_method_23_code 24 = .ok (.iload_n 1, 1) := by decide +kernel
theorem dd_M_count_25 : decode prog_9_method_23_code 25 = .ok (.aload_n 0, 1) := by decide +kernel
theorem dd_M_count_26 : decode prog_9_method_23_code 26 = .ok (.getfield 128, 3) := by decide +kernel
theorem dd_M_count_29 : decode prog_9_method_23_code 29 = .ok (.if_icmp .gt 157, 3) := by decide +kernel
theorem dd_M_count_32 : decode prog_9_method_23_code 32 = .ok (.iconst 0, 1) := by decide +kernel
theorem dd_M_count_33 : decode prog_9_method_23_code 33 = .ok (.istore_n 2, 1) := by decide +kernel
theorem dd_M_count_34 : decode prog_9_method_23_code 34 = .ok (.iload_n 2, 1) := by decide +kernel
theorem dd_M_count_35 : decode prog_9_method_23_code 35 = .ok (.iload_n 1, 1) := by decide +kernel
theorem dd_M_count_36 : decode prog_9_method_23_code 36 = .ok (.iadd, 1) := by decide +kernel
theorem dd_M_count_37 : decode prog_9_method_23_code 37 = .ok (.aload_n 0, 1) := by decide +kernel
theorem dd_M_count_38 : decode prog_9_method_23_code 38 = .ok (.getfield 128, 3) := by decide +kernel
theorem dd_M_count_41 : decode prog_9_method_23_code 41 = .ok (.if_icmp .gt 139, 3) := by decide +kernel
theorem dd_M_count_44 : decode prog_9_method_23_code 44 = .ok (.iload_n 2, 1) := by decide +kernel
theorem dd_M_count_45 : decode prog_9_method_23_code 45 = .ok (.iload_n 1, 1) := by decide +kernel
theorem dd_M_count_46 : decode prog_9_method_23_code 46 = .ok (.iadd, 1) := by decide +kernel
theorem dd_M_count_47 : decode prog_9_method_23_code 47 = .ok (.istore_n 3, 1) := by decide +kernel
theorem dd_M_count_48 : decode prog_9_method_23_code 48 = .ok (.iconst 0, 1) := by decide +kernel
theorem dd_M_count_49 : decode prog_9_method_23_code 49 = .ok (.istore 4, 2) := by decide +kernel
theorem dd_M_count_51 : decode prog_9_method_23_code 51 = .ok (.iload 4, 2) := by decide +kernel
theorem dd_M_count_53 : decode prog_9_method_23_code 53 = .ok (.aload_n 0, 1) := by decide +kernel
theorem dd_M_count_54 : decode prog_9_method_23_code 54 = .ok (.getfield 100, 3) := by decide +kernel
theorem dd_M_count_57 : decode prog_9_method_23_code 57 = .ok (.if_icmp .ge 41, 3) := by decide +kernel
theorem dd_M_count_60 : decode prog_9_method_23_code 60 = .ok (.aload_n 0, 1) := by decide +kernel
theorem dd_M_count_61 : decode prog_9_method_23_code 61 = .ok (.getfield 40, 3) := by decide +kernel
theorem dd_M_count_64 : decode prog_9_method_23_code 64 = .ok (.bipush 7, 2) := by decide +kernel
theorem dd_M_count_66 : decode prog_9_method_23_code 66 = .ok (.iload 4, 2) := by decide +kernel
theorem dd_M_count_68 : decode prog_9_method_23_code 68 = .ok (.imul, 1) := by decide +kernel
theorem dd_M_count_69 : decode prog_9_method_23_code 69 = .ok (.iload_n 2, 1) := by decide +kernel
theorem dd_M_count_70 : decode prog_9_method_23_code 70 = .ok (.iload_n 3, 1) := by decide +kernel
theorem dd_M_count_71 : decode prog_9_method_23_code 71 = .ok (.invokestatic 138, 3) := by decide +kernel
theorem dd_M_count_74 : decode prog_9_method_23_code 74 = .ok (.iload_n 1, 1) := by decide +kernel
theorem dd_M_count_75 : decode prog_9_method_23_code 75 = .ok (.ifCond .ne 7, 3) := by decide +kernel
theorem dd_M_count_78 : decode prog_9_method_23_code 78 = .ok (.iconst 0, 1) := by decide +kernel
theorem dd_M_count_79 : decode prog_9_method_23_code 79 = .ok (.goto 12, 3) := by decide +kernel
theorem dd_M_count_82 : decode prog_9_method_23_code 82 = .ok (.aload_n 0, 1) := by decide +kernel
theorem dd_M_count_83 : decode prog_9_method_23_code 83 = .ok (.iload 4, 2) := by decide +kernel
theorem dd_M_count_85 : decode prog_9_method_23_code 85 = .ok (.iconst 0, 1) := by decide +kernel
theorem dd_M_count_86 : decode prog_9_method_23_code 86 = .ok (.iload_n 2, 1) := by decide +kernel
theorem dd_M_count_87 : decode prog_9_method_23_code 87 = .ok (.iload_n 3, 1) := by decide +kernel
theorem dd_M_count_88 : decode prog_9_method_23_code 88 = .ok (.invokevirtual 153, 3) := by decide +kernel
theorem dd_M_count_91 : decode prog_9_method_23_code 91 = .ok (.iastore, 1) := by decide +kernel
theorem dd_M_count_92 : decode prog_9_method_23_code 92 = .ok (.iinc 4 1, 3) := by decide +kernel
theorem dd_M_count_95 : decode prog_9_method_23_code 95 = .ok (.goto (-44), 3) := by decide +kernel
theorem dd_M_count_98 : decode prog_9_method_23_code 98 = .ok (.iload_n 1, 1) := by decide +kernel
theorem dd_M_count_99 : decode prog_9_method_23_code 99 = .ok (.ifCond .le 9, 3) := by decide +kernel
theorem dd_M_count_102 : decode prog_9_method_23_code 102 = .ok (.aload_n 0, 1) := by decide +kernel
theorem dd_M_count_103 : decode prog_9_method_23_code 103 = .ok (.iload_n 2, 1) := by decide +kernel
theorem dd_M_count_104 : decode prog_9_method_23_code 104 = .ok (.iload_n 3, 1) := by decide +kernel
theorem dd_M_count_105 : decode prog_9_method_23_code 105 = .ok (.invokevirtual 157, 3) := by decide +kernel
theorem dd_M_count_108 : decode prog_9_method_23_code 108 = .ok (.iconst 0, 1) := by decide +kernel
theorem dd_M_count_109 : decode prog_9_method_23_code 109 = .ok (.istore 4, 2) := by decide +kernel
theorem dd_M_count_111 : decode prog_9_method_23_code 111 = .ok (.iload 4, 2) := by decide +kernel
theorem dd_M_count_113 : decode prog_9_method_23_code 113 = .ok (.aload_n 0, 1) := by decide +kernel
theorem dd_M_count_114 : decode prog_9_method_23_code 114 = .ok (.getfield 100, 3) := by decide +kernel
theorem dd_M_count_117 : decode prog_9_method_23_code 117 = .ok (.if_icmp .ge 57, 3) := by decide +kernel
theorem dd_M_count_120 : decode prog_9_method_23_code 120 = .ok (.aload_n 0, 1) := by decide +kernel
theorem dd_M_count_121 : decode prog_9_method_23_code 121 = .ok (.getfield 17, 3) := by decide +kernel
theorem dd_M_count_124 : decode prog_9_method_23_code 124 = .ok (.iload 4, 2) := by decide +kernel
theorem dd_M_count_126 : decode prog_9_method_23_code 126 = .ok (.iaload, 1) := by decide +kernel
theorem dd_M_count_127 : decode prog_9_method_23_code 127 = .ok (.istore 5, 2) := by decide +kernel
theorem dd_M_count_129 : decode prog_9_method_23_code 129 = .ok (.iload 5, 2) := by decide +kernel
theorem dd_M_count_131 : decode prog_9_method_23_code 131 = .ok (.ifCond .le 37, 3) := by decide +kernel
theorem dd_M_count_134 : decode prog_9_method_23_code 134 = .ok (.aload_n 0, 1) := by decide +kernel
theorem dd_M_count_135 : decode prog_9_method_23_code 135 = .ok (.getfield 40, 3) := by decide +kernel
theorem dd_M_count_138 : decode prog_9_method_23_code 138 = .ok (.bipush 7, 2) := by decide +kernel
theorem dd_M_count_140 : decode prog_9_method_23_code 140 = .ok (.iload 4, 2) := by decide +kernel
theorem dd_M_count_142 : decode prog_9_method_23_code 142 = .ok (.imul, 1) := by decide +kernel
theorem dd_M_count_143 : decode prog_9_method_23_code 143 = .ok (.iload 5, 2) := by decide +kernel
theorem dd_M_count_145 : decode prog_9_method_23_code 145 = .ok (.iadd, 1) := by decide +kernel
theorem dd_M_count_146 : decode prog_9_method_23_code 146 = .ok (.iload_n 2, 1) := by decide +kernel
theorem dd_M_count_147 : decode prog_9_method_23_code 147 = .ok (.iload_n 3, 1) := by decide +kernel
theorem dd_M_count_148 : decode prog_9_method_23_code 148 = .ok (.invokestatic 138, 3) := by decide +kernel
theorem dd_M_count_151 : decode prog_9_method_23_code 151 = .ok (.aload_n 0, 1) := by decide +kernel
theorem dd_M_count_152 : decode prog_9_method_23_code 152 = .ok (.iload 4, 2) := by decide +kernel
theorem dd_M_count_154 : decode prog_9_method_23_code 154 = .ok (.iload 5, 2) := by decide +kernel
theorem dd_M_count_156 : decode prog_9_method_23_code 156 = .ok (.iload_n 2, 1) := by decide +kernel
theorem dd_M_count_157 : decode prog_9_method_23_code 157 = .ok (.iload_n 3, 1) := by decide +kernel
theorem dd_M_count_158 : decode prog_9_method_23_code 158 = .ok (.invokevirtual 153, 3) := by decide +kernel
theorem dd_M_count_161 : decode prog_9_method_23_code 161 = .ok (.iastore, 1) := by decide +kernel
theorem dd_M_count_162 : decode prog_9_method_23_code 162 = .ok (.iinc 5 (-1), 3) := by decide +kernel
theorem dd_M_count_165 : decode prog_9_method_23_code 165 = .ok (.goto (-36), 3) := by decide +kernel
theorem dd_M_count_168 : decode prog_9_method_23_code 168 = .ok (.iinc 4 1, 3) := by decide +kernel
theorem dd_M_count_171 : decode prog_9_method_23_code 171 = .ok (.goto (-60), 3) := by decide +kernel
theorem dd_M_count_174 : decode prog_9_method_23_code 174 = .ok (.iinc 2 1, 3) := by decide +kernel
theorem dd_M_count_177 : decode prog_9_method_23_code 177 = .ok (.goto (-143), 3) := by decide +kernel
theorem dd_M_count_180 : decode prog_9_method_23_code 180 = .ok (.iinc 1 1, 3) := by decide +kernel
theorem dd_M_count_183 : decode prog_9_method_23_code 183 = .ok (.goto (-159), 3) := by decide +kernel
theorem dd_M_count_186 : decode prog_9_method_23_code 186 = .ok (.return_, 1) := by decide +kernel
theorem dd_M_countTerms_0 : decode prog_9_method_22_code 0 = .ok (.iconst 0, 1) := by decide +kernel
theorem dd_M_countTerms_1 : decode prog_9_method_22_code 1 = .ok (.istore_n 3, 1) := by decide +kernel
theorem dd_M_countTerms_2 : decode prog_9_method_22_code 2 = .ok (.iload_n 3, 1) := by decide +kernel
theorem dd_M_countTerms_3 : decode prog_9_method_22_code 3 = .ok (.bipush 11, 2) := by decide +kernel
theorem dd_M_countTerms_5 : decode prog_9_method_22_code 5 = .ok (.if_icmp .ge 147, 3) := by decide +kernel
theorem dd_M_countTerms_8 : decode prog_9_method_22_code 8 = .ok (.iload_n 2, 1) := by decide +kernel
theorem dd_M_countTerms_9 : decode prog_9_method_22_code 9 = .ok (.iload_n 1, 1) := by decide +kernel
theorem dd_M_countTerms_10 : decode prog_9_method_22_code 10 = .ok (.iconst 1, 1) := by decide +kernel
theorem dd_M_countTerms_11 : decode prog_9_method_22_code 11 = .ok (.iadd, 1) := by decide +kernel
theorem dd_M_countTerms_12 : decode prog_9_method_22_code 12 = .ok (.if_icmp .ne 15, 3) := by decide +kernel
theorem dd_M_countTerms_15 : decode prog_9_method_22_code 15 = .ok (.aload_n 0, 1) := by decide +kernel
theorem dd_M_countTerms_16 : decode prog_9_method_22_code 16 = .ok (.iload_n 1, 1) := by decide +kernel
theorem dd_M_countTerms_17 : decode prog_9_method_22_code 17 = .ok (.invokevirtual 146, 3) := by decide +kernel
theorem dd_M_countTerms_20 : decode prog_9_method_22_code 20 = .ok (.ifCond .eq 7, 3) := by decide +kernel
theorem dd_M_countTerms_23 : decode prog_9_method_22_code 23 = .ok (.lconst 1, 1) := by decide +kernel
theorem dd_M_countTerms_24 : decode prog_9_method_22_code 24 = .ok (.goto 4, 3) := by decide +kernel
theorem dd_M_countTerms_27 : decode prog_9_method_22_code 27 = .ok (.lconst 0, 1) := by decide +kernel
theorem dd_M_countTerms_28 : decode prog_9_method_22_code 28 = .ok (.lstore 4, 2) := by decide +kernel
theorem dd_M_countTerms_30 : decode prog_9_method_22_code 30 = .ok (.iload_n 2, 1) := by decide +kernel
theorem dd_M_countTerms_31 : decode prog_9_method_22_code 31 = .ok (.iload_n 1, 1) := by decide +kernel
theorem dd_M_countTerms_32 : decode prog_9_method_22_code 32 = .ok (.iconst 2, 1) := by decide +kernel
theorem dd_M_countTerms_33 : decode prog_9_method_22_code 33 = .ok (.iadd, 1) := by decide +kernel
theorem dd_M_countTerms_34 : decode prog_9_method_22_code 34 = .ok (.if_icmp .le 46, 3) := by decide +kernel
theorem dd_M_countTerms_37 : decode prog_9_method_22_code 37 = .ok (.aload_n 0, 1) := by decide +kernel
theorem dd_M_countTerms_38 : decode prog_9_method_22_code 38 = .ok (.iload_n 1, 1) := by decide +kernel
theorem dd_M_countTerms_39 : decode prog_9_method_22_code 39 = .ok (.bipush 40, 2) := by decide +kernel
theorem dd_M_countTerms_41 : decode prog_9_method_22_code 41 = .ok (.invokevirtual 149, 3) := by decide +kernel
theorem dd_M_countTerms_44 : decode prog_9_method_22_code 44 = .ok (.ifCond .eq 36, 3) := by decide +kernel
theorem dd_M_countTerms_47 : decode prog_9_method_22_code 47 = .ok (.aload_n 0, 1) := by decide +kernel
theorem dd_M_countTerms_48 : decode prog_9_method_22_code 48 = .ok (.iload_n 2, 1) := by decide +kernel
theorem dd_M_countTerms_49 : decode prog_9_method_22_code 49 = .ok (.iconst 1, 1) := by decide +kernel
theorem dd_M_countTerms_50 : decode prog_9_method_22_code 50 = .ok (.isub, 1) := by decide +kernel
theorem dd_M_countTerms_51 : decode prog_9_method_22_code 51 = .ok (.bipush 41, 2) := by decide +kernel
theorem dd_M_countTerms_53 : decode prog_9_method_22_code 53 = .ok (.invokevirtual 149, 3) := by decide +kernel
theorem dd_M_countTerms_56 : decode prog_9_method_22_code 56 = .ok (.ifCond .eq 24, 3) := by decide +kernel
theorem dd_M_countTerms_59 : decode prog_9_method_22_code 59 = .ok (.lload 4, 2) := by decide +kernel
theorem dd_M_countTerms_61 : decode prog_9_method_22_code 61 = .ok (.aload_n 0, 1) := by decide +kernel
theorem dd_M_countTerms_62 : decode prog_9_method_22_code 62 = .ok (.getfield 36, 3) := by decide +kernel
theorem dd_M_countTerms_65 : decode prog_9_method_22_code 65 = .ok (.iconst 0, 1) := by decide +kernel
theorem dd_M_countTerms_66 : decode prog_9_method_22_code 66 = .ok (.iload_n 1, 1) := by decide +kernel
theorem dd_M_countTerms_67 : decode prog_9_method_22_code 67 = .ok (.iconst 1, 1) := by decide +kernel
theorem dd_M_countTerms_68 : decode prog_9_method_22_code 68 = .ok (.iadd, 1) := by decide +kernel
theorem dd_M_countTerms_69 : decode prog_9_method_22_code 69 = .ok (.iload_n 2, 1) := by decide +kernel
theorem dd_M_countTerms_70 : decode prog_9_method_22_code 70 = .ok (.iconst 1, 1) := by decide +kernel
theorem dd_M_countTerms_71 : decode prog_9_method_22_code 71 = .ok (.isub, 1) := by decide +kernel
theorem dd_M_countTerms_72 : decode prog_9_method_22_code 72 = .ok (.invokestatic 138, 3) := by decide +kernel
theorem dd_M_countTerms_75 : decode prog_9_method_22_code 75 = .ok (.iaload, 1) := by decide +kernel
theorem dd_M_countTerms_76 : decode prog_9_method_22_code 76 = .ok (.i2l, 1) := by decide +kernel
theorem dd_M_countTerms_77 : decode prog_9_method_22_code 77 = .ok (.ladd, 1) := by decide +kernel
theorem dd_M_countTerms_78 : decode prog_9_method_22_code 78 = .ok (.lstore 4, 2) := by decide +kernel
theorem dd_M_countTerms_80 : decode prog_9_method_22_code 80 = .ok (.iconst 0, 1) := by decide +kernel
theorem dd_M_countTerms_81 : decode prog_9_method_22_code 81 = .ok (.istore 6, 2) := by decide +kernel
theorem dd_M_countTerms_83 : decode prog_9_method_22_code 83 = .ok (.iload 6, 2) := by decide +kernel
theorem dd_M_countTerms_85 : decode prog_9_method_22_code 85 = .ok (.aload_n 0, 1) := by decide +kernel
theorem dd_M_countTerms_86 : decode prog_9_method_22_code 86 = .ok (.getfield 100, 3) := by decide +kernel
theorem dd_M_countTerms_89 : decode prog_9_method_22_code 89 = .ok (.if_icmp .ge 41, 3) := by decide +kernel
theorem dd_M_countTerms_92 : decode prog_9_method_22_code 92 = .ok (.aload_n 0, 1) := by decide +kernel
theorem dd_M_countTerms_93 : decode prog_9_method_22_code 93 = .ok (.getfield 20, 3) := by decide +kernel
theorem dd_M_countTerms_96 : decode prog_9_method_22_code 96 = .ok (.iload 6, 2) := by decide +kernel
theorem dd_M_countTerms_98 : decode prog_9_method_22_code 98 = .ok (.iaload, 1) := by decide +kernel
theorem dd_M_countTerms_99 : decode prog_9_method_22_code 99 = .ok (.iload_n 3, 1) := by decide +kernel
theorem dd_M_countTerms_100 : decode prog_9_method_22_code 100 = .ok (.if_icmp .lt 24, 3) := by decide +kernel
theorem dd_M_countTerms_103 : decode prog_9_method_22_code 103 = .ok (.lload 4, 2) := by decide +kernel
theorem dd_M_countTerms_105 : decode prog_9_method_22_code 105 = .ok (.aload_n 0, 1) := by decide +kernel
theorem dd_M_countTerms_106 : decode prog_9_method_22_code 106 = .ok (.getfield 40, 3) := by decide +kernel
theorem dd_M_countTerms_109 : decode prog_9_method_22_code 109 = .ok (.bipush 7, 2) := by decide +kernel
theorem dd_M_countTerms_111 : decode prog_9_method_22_code 111 = .ok (.iload 6, 2) := by decide +kernel
theorem dd_M_countTerms_113 : decode prog_9_method_22_code 113 = .ok (.imul, 1) := by decide +kernel
theorem dd_M_countTerms_114 : decode prog_9_method_22_code 114 = .ok (.iload_n 1, 1) := by decide +kernel
theorem dd_M_countTerms_115 : decode prog_9_method_22_code 115 = .ok (.iload_n 2, 1) := by decide +kernel
theorem dd_M_countTerms_116 : decode prog_9_method_22_code 116 = .ok (.invokestatic 138, 3) := by decide +kernel
theorem dd_M_countTerms_119 : decode prog_9_method_22_code 119 = .ok (.iaload, 1) := by decide +kernel
theorem dd_M_countTerms_120 : decode prog_9_method_22_code 120 = .ok (.i2l, 1) := by decide +kernel
theorem dd_M_countTerms_121 : decode prog_9_method_22_code 121 = .ok (.ladd, 1) := by decide +kernel
theorem dd_M_countTerms_122 : decode prog_9_method_22_code 122 = .ok (.lstore 4, 2) := by decide +kernel
theorem dd_M_countTerms_124 : decode prog_9_method_22_code 124 = .ok (.iinc 6 1, 3) := by decide +kernel
theorem dd_M_countTerms_127 : decode prog_9_method_22_code 127 = .ok (.goto (-44), 3) := by decide +kernel
theorem dd_M_countTerms_130 : decode prog_9_method_22_code 130 = .ok (.aload_n 0, 1) := by decide +kernel
theorem dd_M_countTerms_131 : decode prog_9_method_22_code 131 = .ok (.getfield 36, 3) := by decide +kernel
theorem dd_M_countTerms_134 : decode prog_9_method_22_code 134 = .ok (.iload_n 3, 1) := by decide +kernel
theorem dd_M_countTerms_135 : decode prog_9_method_22_code 135 = .ok (.iload_n 1, 1) := by decide +kernel
theorem dd_M_countTerms_136 : decode prog_9_method_22_code 136 = .ok (.iload_n 2, 1) := by decide +kernel
theorem dd_M_countTerms_137 : decode prog_9_method_22_code 137 = .ok (.invokestatic 138, 3) := by decide +kernel
theorem dd_M_countTerms_140 : decode prog_9_method_22_code 140 = .ok (.lload 4, 2) := by decide +kernel
theorem dd_M_countTerms_142 : decode prog_9_method_22_code 142 = .ok (.invokestatic 142, 3) := by decide +kernel
theorem dd_M_countTerms_145 : decode prog_9_method_22_code 145 = .ok (.iastore, 1) := by decide +kernel
theorem dd_M_countTerms_146 : decode prog_9_method_22_code 146 = .ok (.iinc 3 1, 3) := by decide +kernel
theorem dd_M_countTerms_149 : decode prog_9_method_22_code 149 = .ok (.goto (-147), 3) := by decide +kernel
theorem dd_M_countTerms_152 : decode prog_9_method_22_code 152 = .ok (.return_, 1) := by decide +kernel
theorem dd_M_fault_0 : decode prog_9_method_29_code 0 = .ok (.aload_n 0, 1) := by decide +kernel
theorem dd_M_fault_1 : decode prog_9_method_29_code 1 = .ok (.iconst 0, 1) := by decide +kernel
theorem dd_M_fault_2 : decode prog_9_method_29_code 2 = .ok (.putfield 80, 3) := by decide +kernel
theorem dd_M_fault_5 : decode prog_9_method_29_code 5 = .ok (.iload_n 1, 1) := by decide +kernel
theorem dd_M_fault_6 : decode prog_9_method_29_code 6 = .ok (.ifCond .ne 10, 3) := by decide +kernel
theorem dd_M_fault_9 : decode prog_9_method_29_code 9 = .ok (.aload_n 0, 1) := by decide +kernel
theorem dd_M_fault_10 : decode prog_9_method_29_code 10 = .ok (.getfield 169, 3) := by decide +kernel
theorem dd_M_fault_13 : decode prog_9_method_29_code 13 = .ok (.goto 16, 3) := by decide +kernel
theorem dd_M_fault_16 : decode prog_9_method_29_code 16 = .ok (.iload_n 1, 1) := by decide +kernel
theorem dd_M_fault_17 : decode prog_9_method_29_code 17 = .ok (.iconst 1, 1) := by decide +kernel
theorem dd_M_fault_18 : decode prog_9_method_29_code 18 = .ok (.if_icmp .ne 10, 3) := by decide +kernel
theorem dd_M_fault_21 : decode prog_9_method_29_code 21 = .ok (.aload_n 0, 1) := by decide +kernel
theorem dd_M_fault_22 : decode prog_9_method_29_code 22 = .ok (.getfield 26, 3) := by decide +kernel
theorem dd_M_fault_25 : decode prog_9_method_29_code 25 = .ok (.goto 4, 3) := by decide +kernel
theorem dd_M_fault_28 : decode prog_9_method_29_code 28 = .ok (.iconst (-1), 1) := by decide +kernel
theorem dd_M_fault_29 : decode prog_9_method_29_code 29 = .ok (.ireturn, 1) := by decide +kernel
theorem dd_M_faulty_0 : decode prog_9_method_27_code 0 = .ok (.aload_n 0, 1) := by decide +kernel
theorem dd_M_faulty_1 : decode prog_9_method_27_code 1 = .ok (.iload_n 1, 1) := by decide +kernel
theorem dd_M_faulty_2 : decode prog_9_method_27_code 2 = .ok (.putfield 169, 3) := by decide +kernel
theorem dd_M_faulty_5 : decode prog_9_method_27_code 5 = .ok (.aload_n 0, 1) := by decide +kernel
theorem dd_M_faulty_6 : decode prog_9_method_27_code 6 = .ok (.iload_n 2, 1) := by decide +kernel
theorem dd_M_faulty_7 : decode prog_9_method_27_code 7 = .ok (.putfield 26, 3) := by decide +kernel
theorem dd_M_faulty_10 : decode prog_9_method_27_code 10 = .ok (.aload_n 0, 1) := by decide +kernel
theorem dd_M_faulty_11 : decode prog_9_method_27_code 11 = .ok (.iconst 1, 1) := by decide +kernel
theorem dd_M_faulty_12 : decode prog_9_method_27_code 12 = .ok (.putfield 80, 3) := by decide +kernel
theorem dd_M_faulty_15 : decode prog_9_method_27_code 15 = .ok (.return_, 1) := by decide +kernel
theorem dd_M_fillHoles_0 : decode prog_9_method_33_code 0 = .ok (.aload_n 0, 1) := by decide +kernel
theorem dd_M_fillHoles_1 : decode prog_9_method_33_code 1 = .ok (.getfield 188, 3) := by decide +kernel
theorem dd_M_fillHoles_4 : decode prog_9_method_33_code 4 = .ok (.istore_n 2, 1) := by decide +kernel
theorem dd_M_fillHoles_5 : decode prog_9_method_33_code 5 = .ok (.aload_n 0, 1) := by decide +kernel
theorem dd_M_fillHoles_6 : decode prog_9_method_33_code 6 = .ok (.getfield 53, 3) := by decide +kernel
theorem dd_M_fillHoles_9 : decode prog_9_method_33_code 9 = .ok (.iload_n 1, 1) := by decide +kernel
theorem dd_M_fillHoles_10 : decode prog_9_method_33_code 10 = .ok (.iaload, 1) := by decide +kernel
theorem dd_M_fillHoles_11 : decode prog_9_method_33_code 11 = .ok (.istore_n 3, 1) := by decide +kernel
theorem dd_M_fillHoles_12 : decode prog_9_method_33_code 12 = .ok (.aload_n 0, 1) := by decide +kernel
theorem dd_M_fillHoles_13 : decode prog_9_method_33_code 13 = .ok (.getfield 53, 3) := by decide +kernel
theorem dd_M_fillHoles_16 : decode prog_9_method_33_code 16 = .ok (.iload_n 1, 1) := by decide +kernel
theorem dd_M_fillHoles_17 : decode prog_9_method_33_code 17 = .ok (.iaload, 1) := by decide +kernel
theorem dd_M_fillHoles_18 : decode prog_9_method_33_code 18 = .ok (.aload_n 0, 1) := by decide +kernel
theorem dd_M_fillHoles_19 : decode prog_9_method_33_code 19 = .ok (.getfield 56, 3) := by decide +kernel
theorem dd_M_fillHoles_22 : decode prog_9_method_33_code 22 = .ok (.iload_n 1, 1) := by decide +kernel
theorem dd_M_fillHoles_23 : decode prog_9_method_33_code 23 = .ok (.iaload, 1) := by decide +kernel
theorem dd_M_fillHoles_24 : decode prog_9_method_33_code 24 = .ok (.iadd, 1) := by decide +kernel
theorem dd_M_fillHoles_25 : decode prog_9_method_33_code 25 = .ok (.istore 4, 2) := by decide +kernel
theorem dd_M_fillHoles_27 : decode prog_9_method_33_code 27 = .ok (.iconst 0, 1) := by decide +kernel
theorem dd_M_fillHoles_28 : decode prog_9_method_33_code 28 = .ok (.istore 5, 2) := by decide +kernel
theorem dd_M_fillHoles_30 : decode prog_9_method_33_code 30 = .ok (.iload 5, 2) := by decide +kernel
theorem dd_M_fillHoles_32 : decode prog_9_method_33_code 32 = .ok (.aload_n 0, 1) := by decide +kernel
theorem dd_M_fillHoles_33 : decode prog_9_method_33_code 33 = .ok (.getfield 17, 3) := by decide +kernel
theorem dd_M_fillHoles_36 : decode prog_9_method_33_code 36 = .ok (.aload_n 0, 1) := by decide +kernel
theorem dd_M_fillHoles_37 : decode prog_9_method_33_code 37 = .ok (.getfield 50, 3) := by decide +kernel
theorem dd_M_fillHoles_40 : decode prog_9_method_33_code 40 = .ok (.iload_n 1, 1) := by decide +kernel
theorem dd_M_fillHoles_41 : decode prog_9_method_33_code 41 = .ok (.iaload, 1) := by decide +kernel
theorem dd_M_fillHoles_42 : decode prog_9_method_33_code 42 = .ok (.iaload, 1) := by decide +kernel
theorem dd_M_fillHoles_43 : decode prog_9_method_33_code 43 = .ok (.if_icmp .ge 114, 3) := by decide +kernel
theorem dd_M_fillHoles_46 : decode prog_9_method_33_code 46 = .ok (.bipush 7, 2) := by decide +kernel
theorem dd_M_fillHoles_48 : decode prog_9_method_33_code 48 = .ok (.aload_n 0, 1) := by decide +kernel
theorem dd_M_fillHoles_49 : decode prog_9_method_33_code 49 = .ok (.getfield 50, 3) := by decide +kernel
theorem dd_M_fillHoles_52 : decode prog_9_method_33_code 52 = .ok (.iload_n 1, 1) := by decide +kernel
theorem dd_M_fillHoles_53 : decode prog_9_method_33_code 53 = .ok (.iaload, 1) := by decide +kernel
theorem dd_M_fillHoles_54 : decode prog_9_method_33_code 54 = .ok (.imul, 1) := by decide +kernel
theorem dd_M_fillHoles_55 : decode prog_9_method_33_code 55 = .ok (.iload 5, 2) := by decide +kernel
theorem dd_M_fillHoles_57 : decode prog_9_method_33_code 57 = .ok (.iadd, 1) := by decide +kernel
theorem dd_M_fillHoles_58 : decode prog_9_method_33_code 58 = .ok (.istore 6, 2) := by decide +kernel
theorem dd_M_fillHoles_60 : decode prog_9_method_33_code 60 = .ok (.iload_n 3, 1) := by decide +kernel
theorem dd_M_fillHoles_61 : decode prog_9_method_33_code 61 = .ok (.iconst 1, 1) := by decide +kernel
theorem dd_M_fillHoles_62 : decode prog_9_method_33_code 62 = .ok (.iadd, 1) := by decide +kernel
theorem dd_M_fillHoles_63 : decode prog_9_method_33_code 63 = .ok (.istore 7, 2) := by decide +kernel
theorem dd_M_fillHoles_65 : decode prog_9_method_33_code 65 = .ok (.aload_n 0, 1) := by decide +kernel
theorem dd_M_fillHoles_66 : decode prog_9_method_33_code 66 = .ok (.getfield 7, 3) := by decide +kernel
theorem dd_M_fillHoles_69 : decode prog_9_method_33_code 69 = .ok (.iload 6, 2) := by decide +kernel
theorem dd_M_fillHoles_71 : decode prog_9_method_33_code 71 = .ok (.iaload, 1) := by decide +kernel
theorem dd_M_fillHoles_72 : decode prog_9_method_33_code 72 = .ok (.iconst (-1), 1) := by decide +kernel
theorem dd_M_fillHoles_73 : decode prog_9_method_33_code 73 = .ok (.if_icmp .eq 49, 3) := by decide +kernel
theorem dd_M_fillHoles_76 : decode prog_9_method_33_code 76 = .ok (.aload_n 0, 1) := by decide +kernel
theorem dd_M_fillHoles_77 : decode prog_9_method_33_code 77 = .ok (.getfield 36, 3) := by decide +kernel
theorem dd_M_fillHoles_80 : decode prog_9_method_33_code 80 = .ok (.aload_n 0, 1) := by decide +kernel
theorem dd_M_fillHoles_81 : decode prog_9_method_33_code 81 = .ok (.getfield 7, 3) := by decide +kernel
theorem dd_M_fillHoles_84 : decode prog_9_method_33_code 84 = .ok (.iload 6, 2) := by decide +kernel
theorem dd_M_fillHoles_86 : decode prog_9_method_33_code 86 = .ok (.iaload, 1) := by decide +kernel
theorem dd_M_fillHoles_87 : decode prog_9_method_33_code 87 = .ok (.iload_n 3, 1) := by decide +kernel
theorem dd_M_fillHoles_88 : decode prog_9_method_33_code 88 = .ok (.iload 7, 2) := by decide +kernel
theorem dd_M_fillHoles_90 : decode prog_9_method_33_code 90 = .ok (.invokestatic 138, 3) := by decide +kernel
theorem dd_M_fillHoles_93 : decode prog_9_method_33_code 93 = .ok (.iaload, 1) := by decide +kernel
theorem dd_M_fillHoles_94 : decode prog_9_method_33_code 94 = .ok (.ifCond .eq 22, 3) := by decide +kernel
theorem dd_M_fillHoles_97 : decode prog_9_method_33_code 97 = .ok (.aload_n 0, 1) := by decide +kernel
theorem dd_M_fillHoles_98 : decode prog_9_method_33_code 98 = .ok (.getfield 40, 3) := by decide +kernel
theorem dd_M_fillHoles_101 : decode prog_9_method_33_code 101 = .ok (.iload 6, 2) := by decide +kernel
theorem dd_M_fillHoles_103 : decode prog_9_method_33_code 103 = .ok (.iconst 1, 1) := by decide +kernel
theorem dd_M_fillHoles_104 : decode prog_9_method_33_code 104 = .ok (.iadd, 1) := by decide +kernel
theorem dd_M_fillHoles_105 : decode prog_9_method_33_code 105 = .ok (.iload 7, 2) := by decide +kernel
theorem dd_M_fillHoles_107 : decode prog_9_method_33_code 107 = .ok (.iload 4, 2) := by decide +kernel
theorem dd_M_fillHoles_109 : decode prog_9_method_33_code 109 = .ok (.invokestatic 138, 3) := by decide +kernel
theorem dd_M_fillHoles_112 : decode prog_9_method_33_code 112 = .ok (.iaload, 1) := by decide +kernel
theorem dd_M_fillHoles_113 : decode prog_9_method_33_code 113 = .ok (.ifCond .ne 9, 3) := by decide +kernel
theorem dd_M_fillHoles_116 : decode prog_9_method_33_code 116 = .ok (.iinc 7 1, 3) := by decide +kernel
theorem dd_M_fillHoles_119 : decode prog_9_method_33_code 119 = .ok (.goto (-54), 3) := by decide +kernel
theorem dd_M_fillHoles_122 : decode prog_9_method_33_code 122 = .ok (.aload_n 0, 1) := by decide +kernel
theorem dd_M_fillHoles_123 : decode prog_9_method_33_code 123 = .ok (.getfield 7, 3) := by decide +kernel
theorem dd_M_fillHoles_126 : decode prog_9_method_33_code 126 = .ok (.iload 6, 2) := by decide +kernel
theorem dd_M_fillHoles_128 : decode prog_9_method_33_code 128 = .ok (.iaload, 1) := by decide +kernel
theorem dd_M_fillHoles_129 : decode prog_9_method_33_code 129 = .ok (.iconst (-1), 1) := by decide +kernel
theorem dd_M_fillHoles_130 : decode prog_9_method_33_code 130 = .ok (.if_icmp .eq 18, 3) := by decide +kernel
theorem dd_M_fillHoles_133 : decode prog_9_method_33_code 133 = .ok (.aload_n 0, 1) := by decide +kernel
theorem dd_M_fillHoles_134 : decode prog_9_method_33_code 134 = .ok (.aload_n 0, 1) := by decide +kernel
theorem dd_M_fillHoles_135 : decode prog_9_method_33_code 135 = .ok (.getfield 7, 3) := by decide +kernel
theorem dd_M_fillHoles_138 : decode prog_9_method_33_code 138 = .ok (.iload 6, 2) := by decide +kernel
theorem dd_M_fillHoles_140 : decode prog_9_method_33_code 140 = .ok (.iaload, 1) := by decide +kernel
theorem dd_M_fillHoles_141 : decode prog_9_method_33_code 141 = .ok (.iload_n 3, 1) := by decide +kernel
theorem dd_M_fillHoles_142 : decode prog_9_method_33_code 142 = .ok (.iload 7, 2) := by decide +kernel
theorem dd_M_fillHoles_144 : decode prog_9_method_33_code 144 = .ok (.iload_n 1, 1) := by decide +kernel
theorem dd_M_fillHoles_145 : decode prog_9_method_33_code 145 = .ok (.invokevirtual 191, 3) := by decide +kernel
theorem dd_M_fillHoles_148 : decode prog_9_method_33_code 148 = .ok (.iload 7, 2) := by decide +kernel
theorem dd_M_fillHoles_150 : decode prog_9_method_33_code 150 = .ok (.istore_n 3, 1) := by decide +kernel
theorem dd_M_fillHoles_151 : decode prog_9_method_33_code 151 = .ok (.iinc 5 1, 3) := by decide +kernel
theorem dd_M_fillHoles_154 : decode prog_9_method_33_code 154 = .ok (.goto (-124), 3) := by decide +kernel
theorem dd_M_fillHoles_157 : decode prog_9_method_33_code 157 = .ok (.iload_n 2, 1) := by decide +kernel
theorem dd_M_fillHoles_158 : decode prog_9_method_33_code 158 = .ok (.istore 5, 2) := by decide +kernel
theorem dd_M_fillHoles_160 : decode prog_9_method_33_code 160 = .ok (.aload_n 0, 1) := by decide +kernel
theorem dd_M_fillHoles_161 : decode prog_9_method_33_code 161 = .ok (.getfield 188, 3) := by decide +kernel
theorem dd_M_fillHoles_164 : decode prog_9_method_33_code 164 = .ok (.iconst 1, 1) := by decide +kernel
theorem dd_M_fillHoles_165 : decode prog_9_method_33_code 165 = .ok (.isub, 1) := by decide +kernel
theorem dd_M_fillHoles_166 : decode prog_9_method_33_code 166 = .ok (.istore 6, 2) := by decide +kernel
theorem dd_M_fillHoles_168 : decode prog_9_method_33_code 168 = .ok (.iload 5, 2) := by decide +kernel
theorem dd_M_fillHoles_170 : decode prog_9_method_33_code 170 = .ok (.iload 6, 2) := by decide +kernel
theorem dd_M_fillHoles_172 : decode prog_9_method_33_code 172 = .ok (.if_icmp .ge 20, 3) := by decide +kernel
theorem dd_M_fillHoles_175 : decode prog_9_method_33_code 175 = .ok (.aload_n 0, 1) := by decide +kernel
theorem dd_M_fillHoles_176 : decode prog_9_method_33_code 176 = .ok (.iload 5, 2) := by decide +kernel
theorem dd_M_fillHoles_178 : decode prog_9_method_33_code 178 = .ok (.iload 6, 2) := by decide +kernel
theorem dd_M_fillHoles_180 : decode prog_9_method_33_code 180 = .ok (.invokevirtual 202, 3) := by decide +kernel
theorem dd_M_fillHoles_183 : decode prog_9_method_33_code 183 = .ok (.iinc 5 1, 3) := by decide +kernel
theorem dd_M_fillHoles_186 : decode prog_9_method_33_code 186 = .ok (.iinc 6 (-1), 3) := by decide +kernel
theorem dd_M_fillHoles_189 : decode prog_9_method_33_code 189 = .ok (.goto (-21), 3) := by decide +kernel
theorem dd_M_fillHoles_192 : decode prog_9_method_33_code 192 = .ok (.return_, 1) := by decide +kernel
theorem dd_M_grow_0 : decode prog_9_method_31_code 0 = .ok (.aload_n 0, 1) := by decide +kernel
theorem dd_M_grow_1 : decode prog_9_method_31_code 1 = .ok (.iconst 0, 1) := by decide +kernel
theorem dd_M_grow_2 : decode prog_9_method_31_code 2 = .ok (.putfield 188, 3) := by decide +kernel
theorem dd_M_grow_5 : decode prog_9_method_31_code 5 = .ok (.aload_n 0, 1) := by decide +kernel
theorem dd_M_grow_6 : decode prog_9_method_31_code 6 = .ok (.iconst 0, 1) := by decide +kernel
theorem dd_M_grow_7 : decode prog_9_method_31_code 7 = .ok (.iconst 0, 1) := by decide +kernel
theorem dd_M_grow_8 : decode prog_9_method_31_code 8 = .ok (.aload_n 0, 1) := by decide +kernel
theorem dd_M_grow_9 : decode prog_9_method_31_code 9 = .ok (.getfield 128, 3) := by decide +kernel
theorem dd_M_grow_12 : decode prog_9_method_31_code 12 = .ok (.iconst (-1), 1) := by decide +kernel
theorem dd_M_grow_13 : decode prog_9_method_31_code 13 = .ok (.invokevirtual 191, 3) := by decide +kernel
theorem dd_M_grow_16 : decode prog_9_method_31_code 16 = .ok (.aload_n 0, 1) := by decide +kernel
theorem dd_M_grow_17 : decode prog_9_method_31_code 17 = .ok (.getfield 188, 3) := by decide +kernel
theorem dd_M_grow_20 : decode prog_9_method_31_code 20 = .ok (.ifCond .le 174, 3) := by decide +kernel
theorem dd_M_grow_23 : decode prog_9_method_31_code 23 = .ok (.aload_n 0, 1) := by decide +kernel
theorem dd_M_grow_24 : decode prog_9_method_31_code 24 = .ok (.dup, 1) := by decide +kernel
theorem dd_M_grow_25 : decode prog_9_method_31_code 25 = .ok (.getfield 188, 3) := by decide +kernel
theorem dd_M_grow_28 : decode prog_9_method_31_code 28 = .ok (.iconst 1, 1) := by decide +kernel
theorem dd_M_grow_29 : decode prog_9_method_31_code 29 = .ok (.isub, 1) := by decide +kernel
theorem dd_M_grow_30 : decode prog_9_method_31_code 30 = .ok (.putfield 188, 3) := by decide +kernel
theorem dd_M_grow_33 : decode prog_9_method_31_code 33 = .ok (.aload_n 0, 1) := by decide +kernel
theorem dd_M_grow_34 : decode prog_9_method_31_code 34 = .ok (.getfield 122, 3) := by decide +kernel
theorem dd_M_grow_37 : decode prog_9_method_31_code 37 = .ok (.istore_n 1, 1) := by decide +kernel
theorem dd_M_grow_38 : decode prog_9_method_31_code 38 = .ok (.aload_n 0, 1) := by decide +kernel
theorem dd_M_grow_39 : decode prog_9_method_31_code 39 = .ok (.dup, 1) := by decide +kernel
theorem dd_M_grow_40 : decode prog_9_method_31_code 40 = .ok (.getfield 122, 3) := by decide +kernel
theorem dd_M_grow_43 : decode prog_9_method_31_code 43 = .ok (.iconst 1, 1) := by decide +kernel
theorem dd_M_grow_44 : decode prog_9_method_31_code 44 = .ok (.iadd, 1) := by decide +kernel
theorem dd_M_grow_45 : decode prog_9_method_31_code 45 = .ok (.putfield 122, 3) := by decide +kernel
theorem dd_M_grow_48 : decode prog_9_method_31_code 48 = .ok (.aload_n 0, 1) := by decide +kernel
theorem dd_M_grow_49 : decode prog_9_method_31_code 49 = .ok (.getfield 53, 3) := by decide +kernel
theorem dd_M_grow_52 : decode prog_9_method_31_code 52 = .ok (.iload_n 1, 1) := by decide +kernel
theorem dd_M_grow_53 : decode prog_9_method_31_code 53 = .ok (.aload_n 0, 1) := by decide +kernel
theorem dd_M_grow_54 : decode prog_9_method_31_code 54 = .ok (.getfield 65, 3) := by decide +kernel
theorem dd_M_grow_57 : decode prog_9_method_31_code 57 = .ok (.aload_n 0, 1) := by decide +kernel
theorem dd_M_grow_58 : decode prog_9_method_31_code 58 = .ok (.getfield 188, 3) := by decide +kernel
theorem dd_M_grow_61 : decode prog_9_method_31_code 61 = .ok (.iaload, 1) := by decide +kernel
theorem dd_M_grow_62 : decode prog_9_method_31_code 62 = .ok (.iastore, 1) := by decide +kernel
theorem dd_M_grow_63 : decode prog_9_method_31_code 63 = .ok (.aload_n 0, 1) := by decide +kernel
theorem dd_M_grow_64 : decode prog_9_method_31_code 64 = .ok (.getfield 56, 3) := by decide +kernel
theorem dd_M_grow_67 : decode prog_9_method_31_code 67 = .ok (.iload_n 1, 1) := by decide +kernel
theorem dd_M_grow_68 : decode prog_9_method_31_code 68 = .ok (.aload_n 0, 1) := by decide +kernel
theorem dd_M_grow_69 : decode prog_9_method_31_code 69 = .ok (.getfield 68, 3) := by decide +kernel
theorem dd_M_grow_72 : decode prog_9_method_31_code 72 = .ok (.aload_n 0, 1) := by decide +kernel
theorem dd_M_grow_73 : decode prog_9_method_31_code 73 = .ok (.getfield 188, 3) := by decide +kernel
theorem dd_M_grow_76 : decode prog_9_method_31_code 76 = .ok (.iaload, 1) := by decide +kernel
theorem dd_M_grow_77 : decode prog_9_method_31_code 77 = .ok (.aload_n 0, 1) := by decide +kernel
theorem dd_M_grow_78 : decode prog_9_method_31_code 78 = .ok (.getfield 65, 3) := by decide +kernel
theorem dd_M_grow_81 : decode prog_9_method_31_code 81 = .ok (.aload_n 0, 1) := by decide +kernel
theorem dd_M_grow_82 : decode prog_9_method_31_code 82 = .ok (.getfield 188, 3) := by decide +kernel
theorem dd_M_grow_85 : decode prog_9_method_31_code 85 = .ok (.iaload, 1) := by decide +kernel
theorem dd_M_grow_86 : decode prog_9_method_31_code 86 = .ok (.isub, 1) := by decide +kernel
theorem dd_M_grow_87 : decode prog_9_method_31_code 87 = .ok (.iastore, 1) := by decide +kernel
theorem dd_M_grow_88 : decode prog_9_method_31_code 88 = .ok (.aload_n 0, 1) := by decide +kernel
theorem dd_M_grow_89 : decode prog_9_method_31_code 89 = .ok (.getfield 59, 3) := by decide +kernel
theorem dd_M_grow_92 : decode prog_9_method_31_code 92 = .ok (.iload_n 1, 1) := by decide +kernel
theorem dd_M_grow_93 : decode prog_9_method_31_code 93 = .ok (.aload_n 0, 1) := by decide +kernel
theorem dd_M_grow_94 : decode prog_9_method_31_code 94 = .ok (.getfield 71, 3) := by decide +kernel
theorem dd_M_grow_97 : decode prog_9_method_31_code 97 = .ok (.aload_n 0, 1) := by decide +kernel
theorem dd_M_grow_98 : decode prog_9_method_31_code 98 = .ok (.getfield 188, 3) := by decide +kernel
