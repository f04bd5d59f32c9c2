theorem dX10_wordAt_55 : decode cX10_wordAt 55 = .ok (.istore 7, 2) := by decide +kernel
theorem dX10_wordAt_57 : decode cX10_wordAt 57 = .ok (.iload 7, 2) := by decide +kernel
theorem dX10_wordAt_59 : decode cX10_wordAt 59 = .ok (.iload 5, 2) := by decide +kernel
theorem dX10_wordAt_61 : decode cX10_wordAt 61 = .ok (.if_icmp .ge 43, 3) := by decide +kernel
theorem dX10_wordAt_64 : decode cX10_wordAt 64 = .ok (.iload 6, 2) := by decide +kernel
theorem dX10_wordAt_66 : decode cX10_wordAt 66 = .ok (.ifCond .eq 38, 3) := by decide +kernel
theorem dX10_wordAt_69 : decode cX10_wordAt 69 = .ok (.aload_n 0, 1) := by decide +kernel
theorem dX10_wordAt_70 : decode cX10_wordAt 70 = .ok (.getfield 13, 3) := by decide +kernel
theorem dX10_wordAt_73 : decode cX10_wordAt 73 = .ok (.iload 4, 2) := by decide +kernel
theorem dX10_wordAt_75 : decode cX10_wordAt 75 = .ok (.iload 7, 2) := by decide +kernel
theorem dX10_wordAt_77 : decode cX10_wordAt 77 = .ok (.iadd, 1) := by decide +kernel
theorem dX10_wordAt_78 : decode cX10_wordAt 78 = .ok (.iaload, 1) := by decide +kernel
theorem dX10_wordAt_79 : decode cX10_wordAt 79 = .ok (.aload_n 0, 1) := by decide +kernel
theorem dX10_wordAt_80 : decode cX10_wordAt 80 = .ok (.getfield 7, 3) := by decide +kernel
theorem dX10_wordAt_83 : decode cX10_wordAt 83 = .ok (.iload_n 1, 1) := by decide +kernel
theorem dX10_wordAt_84 : decode cX10_wordAt 84 = .ok (.iload 7, 2) := by decide +kernel
theorem dX10_wordAt_86 : decode cX10_wordAt 86 = .ok (.iadd, 1) := by decide +kernel
theorem dX10_wordAt_87 : decode cX10_wordAt 87 = .ok (.iaload, 1) := by decide +kernel
theorem dX10_wordAt_88 : decode cX10_wordAt 88 = .ok (.if_icmp .ne 7, 3) := by decide +kernel
theorem dX10_wordAt_91 : decode cX10_wordAt 91 = .ok (.iconst 1, 1) := by decide +kernel
theorem dX10_wordAt_92 : decode cX10_wordAt 92 = .ok (.goto 4, 3) := by decide +kernel
theorem dX10_wordAt_95 : decode cX10_wordAt 95 = .ok (.iconst 0, 1) := by decide +kernel
theorem dX10_wordAt_96 : decode cX10_wordAt 96 = .ok (.istore 6, 2) := by decide +kernel
theorem dX10_wordAt_98 : decode cX10_wordAt 98 = .ok (.iinc 7 1, 3) := by decide +kernel
theorem dX10_wordAt_101 : decode cX10_wordAt 101 = .ok (.goto (-44), 3) := by decide +kernel
theorem dX10_wordAt_104 : decode cX10_wordAt 104 = .ok (.iload 6, 2) := by decide +kernel
theorem dX10_wordAt_106 : decode cX10_wordAt 106 = .ok (.ifCond .eq 5, 3) := by decide +kernel
theorem dX10_wordAt_109 : decode cX10_wordAt 109 = .ok (.iload_n 3, 1) := by decide +kernel
theorem dX10_wordAt_110 : decode cX10_wordAt 110 = .ok (.ireturn, 1) := by decide +kernel
theorem dX10_wordAt_111 : decode cX10_wordAt 111 = .ok (.iload 4, 2) := by decide +kernel
theorem dX10_wordAt_113 : decode cX10_wordAt 113 = .ok (.iload 5, 2) := by decide +kernel
theorem dX10_wordAt_115 : decode cX10_wordAt 115 = .ok (.iconst 1, 1) := by decide +kernel
theorem dX10_wordAt_116 : decode cX10_wordAt 116 = .ok (.iadd, 1) := by decide +kernel
theorem dX10_wordAt_117 : decode cX10_wordAt 117 = .ok (.iadd, 1) := by decide +kernel
theorem dX10_wordAt_118 : decode cX10_wordAt 118 = .ok (.istore 4, 2) := by decide +kernel
theorem dX10_wordAt_120 : decode cX10_wordAt 120 = .ok (.iinc 3 1, 3) := by decide +kernel
theorem dX10_wordAt_123 : decode cX10_wordAt 123 = .ok (.goto (-118), 3) := by decide +kernel
theorem dX10_wordAt_126 : decode cX10_wordAt 126 = .ok (.iconst (-1), 1) := by decide +kernel
theorem dX10_wordAt_127 : decode cX10_wordAt 127 = .ok (.ireturn, 1) := by decide +kernel
theorem dX10_isSmall_0 : decode cX10_isSmall 0 = .ok (.iload_n 1, 1) := by decide +kernel
theorem dX10_isSmall_1 : decode cX10_isSmall 1 = .ok (.aload_n 0, 1) := by decide +kernel
theorem dX10_isSmall_2 : decode cX10_isSmall 2 = .ok (.getfield 163, 3) := by decide +kernel
theorem dX10_isSmall_5 : decode cX10_isSmall 5 = .ok (.if_icmp .ge 29, 3) := by decide +kernel
theorem dX10_isSmall_8 : decode cX10_isSmall 8 = .ok (.aload_n 0, 1) := by decide +kernel
theorem dX10_isSmall_9 : decode cX10_isSmall 9 = .ok (.getfield 7, 3) := by decide +kernel
theorem dX10_isSmall_12 : decode cX10_isSmall 12 = .ok (.iload_n 1, 1) := by decide +kernel
theorem dX10_isSmall_13 : decode cX10_isSmall 13 = .ok (.iaload, 1) := by decide +kernel
theorem dX10_isSmall_14 : decode cX10_isSmall 14 = .ok (.bipush 97, 2) := by decide +kernel
theorem dX10_isSmall_16 : decode cX10_isSmall 16 = .ok (.if_icmp .lt 18, 3) := by decide +kernel
theorem dX10_isSmall_19 : decode cX10_isSmall 19 = .ok (.aload_n 0, 1) := by decide +kernel
theorem dX10_isSmall_20 : decode cX10_isSmall 20 = .ok (.getfield 7, 3) := by decide +kernel
theorem dX10_isSmall_23 : decode cX10_isSmall 23 = .ok (.iload_n 1, 1) := by decide +kernel
theorem dX10_isSmall_24 : decode cX10_isSmall 24 = .ok (.iaload, 1) := by decide +kernel
theorem dX10_isSmall_25 : decode cX10_isSmall 25 = .ok (.bipush 122, 2) := by decide +kernel
theorem dX10_isSmall_27 : decode cX10_isSmall 27 = .ok (.if_icmp .gt 7, 3) := by decide +kernel
theorem dX10_isSmall_30 : decode cX10_isSmall 30 = .ok (.iconst 1, 1) := by decide +kernel
theorem dX10_isSmall_31 : decode cX10_isSmall 31 = .ok (.goto 4, 3) := by decide +kernel
theorem dX10_isSmall_34 : decode cX10_isSmall 34 = .ok (.iconst 0, 1) := by decide +kernel
theorem dX10_isSmall_35 : decode cX10_isSmall 35 = .ok (.ireturn, 1) := by decide +kernel
theorem dX10_isDigit_0 : decode cX10_isDigit 0 = .ok (.iload_n 1, 1) := by decide +kernel
theorem dX10_isDigit_1 : decode cX10_isDigit 1 = .ok (.aload_n 0, 1) := by decide +kernel
theorem dX10_isDigit_2 : decode cX10_isDigit 2 = .ok (.getfield 163, 3) := by decide +kernel
theorem dX10_isDigit_5 : decode cX10_isDigit 5 = .ok (.if_icmp .ge 29, 3) := by decide +kernel
theorem dX10_isDigit_8 : decode cX10_isDigit 8 = .ok (.aload_n 0, 1) := by decide +kernel
theorem dX10_isDigit_9 : decode cX10_isDigit 9 = .ok (.getfield 7, 3) := by decide +kernel
theorem dX10_isDigit_12 : decode cX10_isDigit 12 = .ok (.iload_n 1, 1) := by decide +kernel
theorem dX10_isDigit_13 : decode cX10_isDigit 13 = .ok (.iaload, 1) := by decide +kernel
theorem dX10_isDigit_14 : decode cX10_isDigit 14 = .ok (.bipush 48, 2) := by decide +kernel
theorem dX10_isDigit_16 : decode cX10_isDigit 16 = .ok (.if_icmp .lt 18, 3) := by decide +kernel
theorem dX10_isDigit_19 : decode cX10_isDigit 19 = .ok (.aload_n 0, 1) := by decide +kernel
theorem dX10_isDigit_20 : decode cX10_isDigit 20 = .ok (.getfield 7, 3) := by decide +kernel
theorem dX10_isDigit_23 : decode cX10_isDigit 23 = .ok (.iload_n 1, 1) := by decide +kernel
theorem dX10_isDigit_24 : decode cX10_isDigit 24 = .ok (.iaload, 1) := by decide +kernel
theorem dX10_isDigit_25 : decode cX10_isDigit 25 = .ok (.bipush 57, 2) := by decide +kernel
theorem dX10_isDigit_27 : decode cX10_isDigit 27 = .ok (.if_icmp .gt 7, 3) := by decide +kernel
theorem dX10_isDigit_30 : decode cX10_isDigit 30 = .ok (.iconst 1, 1) := by decide +kernel
theorem dX10_isDigit_31 : decode cX10_isDigit 31 = .ok (.goto 4, 3) := by decide +kernel
theorem dX10_isDigit_34 : decode cX10_isDigit 34 = .ok (.iconst 0, 1) := by decide +kernel
theorem dX10_isDigit_35 : decode cX10_isDigit 35 = .ok (.ireturn, 1) := by decide +kernel
theorem dX10_token_0 : decode cX10_token 0 = .ok (.aload_n 0, 1) := by decide +kernel
theorem dX10_token_1 : decode cX10_token 1 = .ok (.getfield 166, 3) := by decide +kernel
theorem dX10_token_4 : decode cX10_token 4 = .ok (.aload_n 0, 1) := by decide +kernel
theorem dX10_token_5 : decode cX10_token 5 = .ok (.getfield 163, 3) := by decide +kernel
theorem dX10_token_8 : decode cX10_token 8 = .ok (.if_icmp .ge 44, 3) := by decide +kernel
theorem dX10_token_11 : decode cX10_token 11 = .ok (.aload_n 0, 1) := by decide +kernel
theorem dX10_token_12 : decode cX10_token 12 = .ok (.getfield 7, 3) := by decide +kernel
theorem dX10_token_15 : decode cX10_token 15 = .ok (.aload_n 0, 1) := by decide +kernel
theorem dX10_token_16 : decode cX10_token 16 = .ok (.getfield 166, 3) := by decide +kernel
theorem dX10_token_19 : decode cX10_token 19 = .ok (.iaload, 1) := by decide +kernel
theorem dX10_token_20 : decode cX10_token 20 = .ok (.bipush 10, 2) := by decide +kernel
theorem dX10_token_22 : decode cX10_token 22 = .ok (.if_icmp .eq 17, 3) := by decide +kernel
theorem dX10_token_25 : decode cX10_token 25 = .ok (.aload_n 0, 1) := by decide +kernel
theorem dX10_token_26 : decode cX10_token 26 = .ok (.getfield 7, 3) := by decide +kernel
theorem dX10_token_29 : decode cX10_token 29 = .ok (.aload_n 0, 1) := by decide +kernel
theorem dX10_token_30 : decode cX10_token 30 = .ok (.getfield 166, 3) := by decide +kernel
theorem dX10_token_33 : decode cX10_token 33 = .ok (.iaload, 1) := by decide +kernel
theorem dX10_token_34 : decode cX10_token 34 = .ok (.bipush 32, 2) := by decide +kernel
theorem dX10_token_36 : decode cX10_token 36 = .ok (.if_icmp .ne 16, 3) := by decide +kernel
theorem dX10_token_39 : decode cX10_token 39 = .ok (.aload_n 0, 1) := by decide +kernel
theorem dX10_token_40 : decode cX10_token 40 = .ok (.dup, 1) := by decide +kernel
theorem dX10_token_41 : decode cX10_token 41 = .ok (.getfield 166, 3) := by decide +kernel
theorem dX10_token_44 : decode cX10_token 44 = .ok (.iconst 1, 1) := by decide +kernel
theorem dX10_token_45 : decode cX10_token 45 = .ok (.iadd, 1) := by decide +kernel
theorem dX10_token_46 : decode cX10_token 46 = .ok (.putfield 166, 3) := by decide +kernel
theorem dX10_token_49 : decode cX10_token 49 = .ok (.goto (-49), 3) := by decide +kernel
theorem dX10_token_52 : decode cX10_token 52 = .ok (.aload_n 0, 1) := by decide +kernel
theorem dX10_token_53 : decode cX10_token 53 = .ok (.aload_n 0, 1) := by decide +kernel
theorem dX10_token_54 : decode cX10_token 54 = .ok (.getfield 166, 3) := by decide +kernel
theorem dX10_token_57 : decode cX10_token 57 = .ok (.putfield 160, 3) := by decide +kernel
theorem dX10_token_60 : decode cX10_token 60 = .ok (.aload_n 0, 1) := by decide +kernel
theorem dX10_token_61 : decode cX10_token 61 = .ok (.getfield 166, 3) := by decide +kernel
theorem dX10_token_64 : decode cX10_token 64 = .ok (.aload_n 0, 1) := by decide +kernel
theorem dX10_token_65 : decode cX10_token 65 = .ok (.getfield 163, 3) := by decide +kernel
theorem dX10_token_68 : decode cX10_token 68 = .ok (.if_icmp .ne 11, 3) := by decide +kernel
theorem dX10_token_71 : decode cX10_token 71 = .ok (.aload_n 0, 1) := by decide +kernel
theorem dX10_token_72 : decode cX10_token 72 = .ok (.iconst 0, 1) := by decide +kernel
theorem dX10_token_73 : decode cX10_token 73 = .ok (.putfield 169, 3) := by decide +kernel
theorem dX10_token_76 : decode cX10_token 76 = .ok (.goto 205, 3) := by decide +kernel
theorem dX10_token_79 : decode cX10_token 79 = .ok (.aload_n 0, 1) := by decide +kernel
theorem dX10_token_80 : decode cX10_token 80 = .ok (.aload_n 0, 1) := by decide +kernel
theorem dX10_token_81 : decode cX10_token 81 = .ok (.getfield 166, 3) := by decide +kernel
theorem dX10_token_84 : decode cX10_token 84 = .ok (.invokevirtual 172, 3) := by decide +kernel
theorem dX10_token_87 : decode cX10_token 87 = .ok (.ifCond .eq 105, 3) := by decide +kernel
theorem dX10_token_90 : decode cX10_token 90 = .ok (.aload_n 0, 1) := by decide +kernel
theorem dX10_token_91 : decode cX10_token 91 = .ok (.aload_n 0, 1) := by decide +kernel
theorem dX10_token_92 : decode cX10_token 92 = .ok (.getfield 166, 3) := by decide +kernel
theorem dX10_token_95 : decode cX10_token 95 = .ok (.invokevirtual 172, 3) := by decide +kernel
theorem dX10_token_98 : decode cX10_token 98 = .ok (.ifCond .eq 16, 3) := by decide +kernel
theorem dX10_token_101 : decode cX10_token 101 = .ok (.aload_n 0, 1) := by decide +kernel
theorem dX10_token_102 : decode cX10_token 102 = .ok (.dup, 1) := by decide +kernel
theorem dX10_token_103 : decode cX10_token 103 = .ok (.getfield 166, 3) := by decide +kernel
theorem dX10_token_106 : decode cX10_token 106 = .ok (.iconst 1, 1) := by decide +kernel
theorem dX10_token_107 : decode cX10_token 107 = .ok (.iadd, 1) := by decide +kernel
theorem dX10_token_108 : decode cX10_token 108 = .ok (.putfield 166, 3) := by decide +kernel
theorem dX10_token_111 : decode cX10_token 111 = .ok (.goto (-21), 3) := by decide +kernel
theorem dX10_token_114 : decode cX10_token 114 = .ok (.aload_n 0, 1) := by decide +kernel
theorem dX10_token_115 : decode cX10_token 115 = .ok (.aload_n 0, 1) := by decide +kernel
theorem dX10_token_116 : decode cX10_token 116 = .ok (.aload_n 0, 1) := by decide +kernel
theorem dX10_token_117 : decode cX10_token 117 = .ok (.getfield 160, 3) := by decide +kernel
theorem dX10_token_120 : decode cX10_token 120 = .ok (.aload_n 0, 1) := by decide +kernel
theorem dX10_token_121 : decode cX10_token 121 = .ok (.getfield 166, 3) := by decide +kernel
theorem dX10_token_124 : decode cX10_token 124 = .ok (.invokevirtual 176, 3) := by decide +kernel
theorem dX10_token_127 : decode cX10_token 127 = .ok (.putfield 180, 3) := by decide +kernel
theorem dX10_token_130 : decode cX10_token 130 = .ok (.aload_n 0, 1) := by decide +kernel
theorem dX10_token_131 : decode cX10_token 131 = .ok (.aload_n 0, 1) := by decide +kernel
theorem dX10_token_132 : decode cX10_token 132 = .ok (.getfield 180, 3) := by decide +kernel
theorem dX10_token_135 : decode cX10_token 135 = .ok (.ifCond .lt 7, 3) := by decide +kernel
theorem dX10_token_138 : decode cX10_token 138 = .ok (.iconst 1, 1) := by decide +kernel
theorem dX10_token_139 : decode cX10_token 139 = .ok (.goto 23, 3) := by decide +kernel
theorem dX10_token_142 : decode cX10_token 142 = .ok (.aload_n 0, 1) := by decide +kernel
theorem dX10_token_143 : decode cX10_token 143 = .ok (.getfield 166, 3) := by decide +kernel
theorem dX10_token_146 : decode cX10_token 146 = .ok (.aload_n 0, 1) := by decide +kernel
theorem dX10_token_147 : decode cX10_token 147 = .ok (.getfield 160, 3) := by decide +kernel
theorem dX10_token_150 : decode cX10_token 150 = .ok (.isub, 1) := by decide +kernel
theorem dX10_token_151 : decode cX10_token 151 = .ok (.bipush 6, 2) := by decide +kernel
theorem dX10_token_153 : decode cX10_token 153 = .ok (.if_icmp .le 8, 3) := by decide +kernel
theorem dX10_token_156 : decode cX10_token 156 = .ok (.bipush 6, 2) := by decide +kernel
theorem dX10_token_158 : decode cX10_token 158 = .ok (.goto 4, 3) := by decide +kernel
theorem dX10_token_161 : decode cX10_token 161 = .ok (.iconst 2, 1) := by decide +kernel
theorem dX10_token_162 : decode cX10_token 162 = .ok (.putfield 169, 3) := by decide +kernel
theorem dX10_token_165 : decode cX10_token 165 = .ok (.aload_n 0, 1) := by decide +kernel
theorem dX10_token_166 : decode cX10_token 166 = .ok (.getfield 169, 3) := by decide +kernel
theorem dX10_token_169 : decode cX10_token 169 = .ok (.iconst 2, 1) := by decide +kernel
theorem dX10_token_170 : decode cX10_token 170 = .ok (.if_icmp .ne 111, 3) := by decide +kernel
theorem dX10_token_173 : decode cX10_token 173 = .ok (.aload_n 0, 1) := by decide +kernel
theorem dX10_token_174 : decode cX10_token 174 = .ok (.aload_n 0, 1) := by decide +kernel
theorem dX10_token_175 : decode cX10_token 175 = .ok (.aload_n 0, 1) := by decide +kernel
theorem dX10_token_176 : decode cX10_token 176 = .ok (.getfield 160, 3) := by decide +kernel
theorem dX10_token_179 : decode cX10_token 179 = .ok (.aload_n 0, 1) := by decide +kernel
theorem dX10_token_180 : decode cX10_token 180 = .ok (.getfield 166, 3) := by decide +kernel
theorem dX10_token_183 : decode cX10_token 183 = .ok (.invokevirtual 183, 3) := by decide +kernel
theorem dX10_token_186 : decode cX10_token 186 = .ok (.putfield 180, 3) := by decide +kernel
theorem dX10_token_189 : decode cX10_token 189 = .ok (.goto 92, 3) := by decide +kernel
theorem dX10_token_192 : decode cX10_token 192 = .ok (.aload_n 0, 1) := by decide +kernel
theorem dX10_token_193 : decode cX10_token 193 = .ok (.aload_n 0, 1) := by decide +kernel
theorem dX10_token_194 : decode cX10_token 194 = .ok (.getfield 166, 3) := by decide +kernel
theorem dX10_token_197 : decode cX10_token 197 = .ok (.invokevirtual 186, 3) := by decide +kernel
theorem dX10_token_200 : decode cX10_token 200 = .ok (.ifCond .eq 77, 3) := by decide +kernel
theorem dX10_token_203 : decode cX10_token 203 = .ok (.aload_n 0, 1) := by decide +kernel
theorem dX10_token_204 : decode cX10_token 204 = .ok (.iconst 3, 1) := by decide +kernel
theorem dX10_token_205 : decode cX10_token 205 = .ok (.putfield 169, 3) := by decide +kernel
theorem dX10_token_208 : decode cX10_token 208 = .ok (.aload_n 0, 1) := by decide +kernel
theorem dX10_token_209 : decode cX10_token 209 = .ok (.iconst 0, 1) := by decide +kernel
theorem dX10_token_210 : decode cX10_token 210 = .ok (.putfield 180, 3) := by decide +kernel
theorem dX10_token_213 : decode cX10_token 213 = .ok (.aload_n 0, 1) := by decide +kernel
theorem dX10_token_214 : decode cX10_token 214 = .ok (.aload_n 0, 1) := by decide +kernel
theorem dX10_token_215 : decode cX10_token 215 = .ok (.getfield 166, 3) := by decide +kernel
theorem dX10_token_218 : decode cX10_token 218 = .ok (.invokevirtual 186, 3) := by decide +kernel
theorem dX10_token_221 : decode cX10_token 221 = .ok (.ifCond .eq 60, 3) := by decide +kernel
theorem dX10_token_224 : decode cX10_token 224 = .ok (.aload_n 0, 1) := by decide +kernel
theorem dX10_token_225 : decode cX10_token 225 = .ok (.aload_n 0, 1) := by decide +kernel
theorem dX10_token_226 : decode cX10_token 226 = .ok (.getfield 180, 3) := by decide +kernel
theorem dX10_token_229 : decode cX10_token 229 = .ok (.ldc 189, 2) := by decide +kernel
theorem dX10_token_231 : decode cX10_token 231 = .ok (.if_icmp .le 10, 3) := by decide +kernel
theorem dX10_token_234 : decode cX10_token 234 = .ok (.aload_n 0, 1) := by decide +kernel
theorem dX10_token_235 : decode cX10_token 235 = .ok (.getfield 180, 3) := by decide +kernel
theorem dX10_token_238 : decode cX10_token 238 = .ok (.goto 23, 3) := by decide +kernel
theorem dX10_token_241 : decode cX10_token 241 = .ok (.bipush 10, 2) := by decide +kernel
theorem dX10_token_243 : decode cX10_token 243 = .ok (.aload_n 0, 1) := by decide +kernel
theorem dX10_token_244 : decode cX10_token 244 = .ok (.getfield 180, 3) := by decide +kernel
theorem dX10_token_247 : decode cX10_token 247 = .ok (.imul, 1) := by decide +kernel
theorem dX10_token_248 : decode cX10_token 248 = .ok (.aload_n 0, 1) := by decide +kernel
theorem dX10_token_249 : decode cX10_token 249 = .ok (.getfield 7, 3) := by decide +kernel
theorem dX10_token_252 : decode cX10_token 252 = .ok (.aload_n 0, 1) := by decide +kernel
theorem dX10_token_253 : decode cX10_token 253 = .ok (.getfield 166, 3) := by decide +kernel
theorem dX10_token_256 : decode cX10_token 256 = .ok (.iaload, 1) := by decide +kernel
theorem dX10_token_257 : decode cX10_token 257 = .ok (.iadd, 1) := by decide +kernel
theorem dX10_token_258 : decode cX10_token 258 = .ok (.bipush 48, 2) := by decide +kernel
theorem dX10_token_260 : decode cX10_token 260 = .ok (.isub, 1) := by decide +kernel
theorem dX10_token_261 : decode cX10_token 261 = .ok (.putfield 180, 3) := by decide +kernel
theorem dX10_token_264 : decode cX10_token 264 = .ok (.aload_n 0, 1) := by decide +kernel
theorem dX10_token_265 : decode cX10_token 265 = .ok (.dup, 1) := by decide +kernel
theorem dX10_token_266 : decode cX10_token 266 = .ok (.getfield 166, 3) := by decide +kernel
theorem dX10_token_269 : decode cX10_token 269 = .ok (.iconst 1, 1) := by decide +kernel
theorem dX10_token_270 : decode cX10_token 270 = .ok (.iadd, 1) := by decide +kernel
theorem dX10_token_271 : decode cX10_token 271 = .ok (.putfield 166, 3) := by decide +kernel
theorem dX10_token_274 : decode cX10_token 274 = .ok (.goto (-61), 3) := by decide +kernel
theorem dX10_token_277 : decode cX10_token 277 = .ok (.aload_n 0, 1) := by decide +kernel
theorem dX10_token_278 : decode cX10_token 278 = .ok (.invokevirtual 190, 3) := by decide +kernel
theorem dX10_token_281 : decode cX10_token 281 = .ok (.return_, 1) := by decide +kernel
theorem dX10_signToken_0 : decode cX10_signToken 0 = .ok (.aload_n 0, 1) := by decide +kernel
theorem dX10_signToken_1 : decode cX10_signToken 1 = .ok (.aload_n 0, 1) := by decide +kernel
theorem dX10_signToken_2 : decode cX10_signToken 2 = .ok (.getfield 7, 3) := by decide +kernel
theorem dX10_signToken_5 : decode cX10_signToken 5 = .ok (.aload_n 0, 1) := by decide +kernel
theorem dX10_signToken_6 : decode cX10_signToken 6 = .ok (.getfield 166, 3) := by decide +kernel
theorem dX10_signToken_9 : decode cX10_signToken 9 = .ok (.iaload, 1) := by decide +kernel
theorem dX10_signToken_10 : decode cX10_signToken 10 = .ok (.putfield 180, 3) := by decide +kernel
theorem dX10_signToken_13 : decode cX10_signToken 13 = .ok (.aload_n 0, 1) := by decide +kernel
theorem dX10_signToken_14 : decode cX10_signToken 14 = .ok (.dup, 1) := by decide +kernel
theorem dX10_signToken_15 : decode cX10_signToken 15 = .ok (.getfield 166, 3) := by decide +kernel
theorem dX10_signToken_18 : decode cX10_signToken 18 = .ok (.iconst 1, 1) := by decide +kernel
theorem dX10_signToken_19 : decode cX10_signToken 19 = .ok (.iadd, 1) := by decide +kernel
theorem dX10_signToken_20 : decode cX10_signToken 20 = .ok (.putfield 166, 3) := by decide +kernel
theorem dX10_signToken_23 : decode cX10_signToken 23 = .ok (.aload_n 0, 1) := by decide +kernel
theorem dX10_signToken_24 : decode cX10_signToken 24 = .ok (.getfield 180, 3) := by decide +kernel
theorem dX10_signToken_27 : decode cX10_signToken 27 = .ok (.bipush 60, 2) := by decide +kernel
theorem dX10_signToken_29 : decode cX10_signToken 29 = .ok (.if_icmp .eq 21, 3) := by decide +kernel
theorem dX10_signToken_32 : decode cX10_signToken 32 = .ok (.aload_n 0, 1) := by decide +kernel
theorem dX10_signToken_33 : decode cX10_signToken 33 = .ok (.getfield 180, 3) := by decide +kernel
theorem dX10_signToken_36 : decode cX10_signToken 36 = .ok (.bipush 62, 2) := by decide +kernel
theorem dX10_signToken_38 : decode cX10_signToken 38 = .ok (.if_icmp .eq 12, 3) := by decide +kernel
theorem dX10_signToken_41 : decode cX10_signToken 41 = .ok (.aload_n 0, 1) := by decide +kernel
theorem dX10_signToken_42 : decode cX10_signToken 42 = .ok (.getfield 180, 3) := by decide +kernel
theorem dX10_signToken_45 : decode cX10_signToken 45 = .ok (.bipush 61, 2) := by decide +kernel
theorem dX10_signToken_47 : decode cX10_signToken 47 = .ok (.if_icmp .ne 151, 3) := by decide +kernel
theorem dX10_signToken_50 : decode cX10_signToken 50 = .ok (.aload_n 0, 1) := by decide +kernel
theorem dX10_signToken_51 : decode cX10_signToken 51 = .ok (.getfield 166, 3) := by decide +kernel
theorem dX10_signToken_54 : decode cX10_signToken 54 = .ok (.aload_n 0, 1) := by decide +kernel
theorem dX10_signToken_55 : decode cX10_signToken 55 = .ok (.getfield 163, 3) := by decide +kernel
theorem dX10_signToken_58 : decode cX10_signToken 58 = .ok (.if_icmp .ge 15, 3) := by decide +kernel
theorem dX10_signToken_61 : decode cX10_signToken 61 = .ok (.aload_n 0, 1) := by decide +kernel
theorem dX10_signToken_62 : decode cX10_signToken 62 = .ok (.getfield 7, 3) := by decide +kernel
theorem dX10_signToken_65 : decode cX10_signToken 65 = .ok (.aload_n 0, 1) := by decide +kernel
theorem dX10_signToken_66 : decode cX10_signToken 66 = .ok (.getfield 166, 3) := by decide +kernel
theorem dX10_signToken_69 : decode cX10_signToken 69 = .ok (.iaload, 1) := by decide +kernel
theorem dX10_signToken_70 : decode cX10_signToken 70 = .ok (.goto 4, 3) := by decide +kernel
theorem dX10_signToken_73 : decode cX10_signToken 73 = .ok (.iconst 0, 1) := by decide +kernel
theorem dX10_signToken_74 : decode cX10_signToken 74 = .ok (.istore_n 1, 1) := by decide +kernel
theorem dX10_signToken_75 : decode cX10_signToken 75 = .ok (.aload_n 0, 1) := by decide +kernel
theorem dX10_signToken_76 : decode cX10_signToken 76 = .ok (.getfield 180, 3) := by decide +kernel
theorem dX10_signToken_79 : decode cX10_signToken 79 = .ok (.bipush 61, 2) := by decide +kernel
theorem dX10_signToken_81 : decode cX10_signToken 81 = .ok (.if_icmp .eq 13, 3) := by decide +kernel
theorem dX10_signToken_84 : decode cX10_signToken 84 = .ok (.iload_n 1, 1) := by decide +kernel
theorem dX10_signToken_85 : decode cX10_signToken 85 = .ok (.bipush 61, 2) := by decide +kernel
theorem dX10_signToken_87 : decode cX10_signToken 87 = .ok (.if_icmp .ne 7, 3) := by decide +kernel
theorem dX10_signToken_90 : decode cX10_signToken 90 = .ok (.iconst 1, 1) := by decide +kernel
theorem dX10_signToken_91 : decode cX10_signToken 91 = .ok (.goto 4, 3) := by decide +kernel
theorem dX10_signToken_94 : decode cX10_signToken 94 = .ok (.iconst 0, 1) := by decide +kernel
theorem dX10_signToken_95 : decode cX10_signToken 95 = .ok (.istore_n 2, 1) := by decide +kernel
theorem dX10_signToken_96 : decode cX10_signToken 96 = .ok (.aload_n 0, 1) := by decide +kernel
theorem dX10_signToken_97 : decode cX10_signToken 97 = .ok (.getfield 180, 3) := by decide +kernel
theorem dX10_signToken_100 : decode cX10_signToken 100 = .ok (.bipush 60, 2) := by decide +kernel
theorem dX10_signToken_102 : decode cX10_signToken 102 = .ok (.if_icmp .ne 13, 3) := by decide +kernel
theorem dX10_signToken_105 : decode cX10_signToken 105 = .ok (.iload_n 1, 1) := by decide +kernel
theorem dX10_signToken_106 : decode cX10_signToken 106 = .ok (.bipush 62, 2) := by decide +kernel
theorem dX10_signToken_108 : decode cX10_signToken 108 = .ok (.if_icmp .ne 7, 3) := by decide +kernel
theorem dX10_signToken_111 : decode cX10_signToken 111 = .ok (.iconst 1, 1) := by decide +kernel
theorem dX10_signToken_112 : decode cX10_signToken 112 = .ok (.goto 4, 3) := by decide +kernel
theorem dX10_signToken_115 : decode cX10_signToken 115 = .ok (.iconst 0, 1) := by decide +kernel
theorem dX10_signToken_116 : decode cX10_signToken 116 = .ok (.istore_n 3, 1) := by decide +kernel
theorem dX10_signToken_117 : decode cX10_signToken 117 = .ok (.iload_n 2, 1) := by decide +kernel
theorem dX10_signToken_118 : decode cX10_signToken 118 = .ok (.ifCond .ne 7, 3) := by decide +kernel
theorem dX10_signToken_121 : decode cX10_signToken 121 = .ok (.iload_n 3, 1) := by decide +kernel
theorem dX10_signToken_122 : decode cX10_signToken 122 = .ok (.ifCond .eq 13, 3) := by decide +kernel
theorem dX10_signToken_125 : decode cX10_signToken 125 = .ok (.aload_n 0, 1) := by decide +kernel
theorem dX10_signToken_126 : decode cX10_signToken 126 = .ok (.dup, 1) := by decide +kernel
theorem dX10_signToken_127 : decode cX10_signToken 127 = .ok (.getfield 166, 3) := by decide +kernel
theorem dX10_signToken_130 : decode cX10_signToken 130 = .ok (.iconst 1, 1) := by decide +kernel
theorem dX10_signToken_131 : decode cX10_signToken 131 = .ok (.iadd, 1) := by decide +kernel
theorem dX10_signToken_132 : decode cX10_signToken 132 = .ok (.putfield 166, 3) := by decide +kernel
theorem dX10_signToken_135 : decode cX10_signToken 135 = .ok (.aload_n 0, 1) := by decide +kernel
theorem dX10_signToken_136 : decode cX10_signToken 136 = .ok (.iconst 5, 1) := by decide +kernel
theorem dX10_signToken_137 : decode cX10_signToken 137 = .ok (.putfield 169, 3) := by decide +kernel
theorem dX10_signToken_140 : decode cX10_signToken 140 = .ok (.aload_n 0, 1) := by decide +kernel
theorem dX10_signToken_141 : decode cX10_signToken 141 = .ok (.aload_n 0, 1) := by decide +kernel
theorem dX10_signToken_142 : decode cX10_signToken 142 = .ok (.getfield 180, 3) := by decide +kernel
theorem dX10_signToken_145 : decode cX10_signToken 145 = .ok (.bipush 61, 2) := by decide +kernel
theorem dX10_signToken_147 : decode cX10_signToken 147 = .ok (.if_icmp .ne 7, 3) := by decide +kernel
theorem dX10_signToken_150 : decode cX10_signToken 150 = .ok (.iconst 2, 1) := by decide +kernel
theorem dX10_signToken_151 : decode cX10_signToken 151 = .ok (.goto 41, 3) := by decide +kernel
theorem dX10_signToken_154 : decode cX10_signToken 154 = .ok (.aload_n 0, 1) := by decide +kernel
theorem dX10_signToken_155 : decode cX10_signToken 155 = .ok (.getfield 180, 3) := by decide +kernel
theorem dX10_signToken_158 : decode cX10_signToken 158 = .ok (.bipush 60, 2) := by decide +kernel
theorem dX10_signToken_160 : decode cX10_signToken 160 = .ok (.if_icmp .ne 23, 3) := by decide +kernel
theorem dX10_signToken_163 : decode cX10_signToken 163 = .ok (.iload_n 2, 1) := by decide +kernel
theorem dX10_signToken_164 : decode cX10_signToken 164 = .ok (.ifCond .eq 7, 3) := by decide +kernel
theorem dX10_signToken_167 : decode cX10_signToken 167 = .ok (.iconst 1, 1) := by decide +kernel
theorem dX10_signToken_168 : decode cX10_signToken 168 = .ok (.goto 24, 3) := by decide +kernel
theorem dX10_signToken_171 : decode cX10_signToken 171 = .ok (.iload_n 3, 1) := by decide +kernel
theorem dX10_signToken_172 : decode cX10_signToken 172 = .ok (.ifCond .eq 7, 3) := by decide +kernel
theorem dX10_signToken_175 : decode cX10_signToken 175 = .ok (.iconst 3, 1) := by decide +kernel
theorem dX10_signToken_176 : decode cX10_signToken 176 = .ok (.goto 16, 3) := by decide +kernel
theorem dX10_signToken_179 : decode cX10_signToken 179 = .ok (.iconst 0, 1) := by decide +kernel
theorem dX10_signToken_180 : decode cX10_signToken 180 = .ok (.goto 12, 3) := by decide +kernel
theorem dX10_signToken_183 : decode cX10_signToken 183 = .ok (.iload_n 2, 1) := by decide +kernel
theorem dX10_signToken_184 : decode cX10_signToken 184 = .ok (.ifCond .eq 7, 3) := by decide +kernel
theorem dX10_signToken_187 : decode cX10_signToken 187 = .ok (.iconst 4, 1) := by decide +kernel
theorem dX10_signToken_188 : decode cX10_signToken 188 = .ok (.goto 4, 3) := by decide +kernel
theorem dX10_signToken_191 : decode cX10_signToken 191 = .ok (.iconst 5, 1) := by decide +kernel
theorem dX10_signToken_192 : decode cX10_signToken 192 = .ok (.putfield 180, 3) := by decide +kernel
theorem dX10_signToken_195 : decode cX10_signToken 195 = .ok (.goto 95, 3) := by decide +kernel
theorem dX10_signToken_198 : decode cX10_signToken 198 = .ok (.aload_n 0, 1) := by decide +kernel
theorem dX10_signToken_199 : decode cX10_signToken 199 = .ok (.getfield 180, 3) := by decide +kernel
theorem dX10_signToken_202 : decode cX10_signToken 202 = .ok (.bipush 59, 2) := by decide +kernel
theorem dX10_signToken_204 : decode cX10_signToken 204 = .ok (.if_icmp .eq 66, 3) := by decide +kernel
theorem dX10_signToken_207 : decode cX10_signToken 207 = .ok (.aload_n 0, 1) := by decide +kernel
theorem dX10_signToken_208 : decode cX10_signToken 208 = .ok (.getfield 180, 3) := by decide +kernel
theorem dX10_signToken_211 : decode cX10_signToken 211 = .ok (.bipush 40, 2) := by decide +kernel
theorem dX10_signToken_213 : decode cX10_signToken 213 = .ok (.if_icmp .eq 57, 3) := by decide +kernel
theorem dX10_signToken_216 : decode cX10_signToken 216 = .ok (.aload_n 0, 1) := by decide +kernel
theorem dX10_signToken_217 : decode cX10_signToken 217 = .ok (.getfield 180, 3) := by decide +kernel
theorem dX10_signToken_220 : decode cX10_signToken 220 = .ok (.bipush 41, 2) := by decide +kernel
theorem dX10_signToken_222 : decode cX10_signToken 222 = .ok (.if_icmp .eq 48, 3) := by decide +kernel
theorem dX10_signToken_225 : decode cX10_signToken 225 = .ok (.aload_n 0, 1) := by decide +kernel
theorem dX10_signToken_226 : decode cX10_signToken 226 = .ok (.getfield 180, 3) := by decide +kernel
theorem dX10_signToken_229 : decode cX10_signToken 229 = .ok (.bipush 43, 2) := by decide +kernel
theorem dX10_signToken_231 : decode cX10_signToken 231 = .ok (.if_icmp .eq 39, 3) := by decide +kernel
theorem dX10_signToken_234 : decode cX10_signToken 234 = .ok (.aload_n 0, 1) := by decide +kernel
theorem dX10_signToken_235 : decode cX10_signToken 235 = .ok (.getfield 180, 3) := by decide +kernel
theorem dX10_signToken_238 : decode cX10_signToken 238 = .ok (.bipush 45, 2) := by decide +kernel
theorem dX10_signToken_240 : decode cX10_signToken 240 = .ok (.if_icmp .eq 30, 3) := by decide +kernel
theorem dX10_signToken_243 : decode cX10_signToken 243 = .ok (.aload_n 0, 1) := by decide +kernel
theorem dX10_signToken_244 : decode cX10_signToken 244 = .ok (.getfield 180, 3) := by decide +kernel
theorem dX10_signToken_247 : decode cX10_signToken 247 = .ok (.bipush 42, 2) := by decide +kernel
theorem dX10_signToken_249 : decode cX10_signToken 249 = .ok (.if_icmp .eq 21, 3) := by decide +kernel
theorem dX10_signToken_252 : decode cX10_signToken 252 = .ok (.aload_n 0, 1) := by decide +kernel
theorem dX10_signToken_253 : decode cX10_signToken 253 = .ok (.getfield 180, 3) := by decide +kernel
theorem dX10_signToken_256 : decode cX10_signToken 256 = .ok (.bipush 47, 2) := by decide +kernel
theorem dX10_signToken_258 : decode cX10_signToken 258 = .ok (.if_icmp .eq 12, 3) := by decide +kernel
theorem dX10_signToken_261 : decode cX10_signToken 261 = .ok (.aload_n 0, 1) := by decide +kernel
theorem dX10_signToken_262 : decode cX10_signToken 262 = .ok (.getfield 180, 3) := by decide +kernel
theorem dX10_signToken_265 : decode cX10_signToken 265 = .ok (.bipush 37, 2) := by decide +kernel
theorem dX10_signToken_267 : decode cX10_signToken 267 = .ok (.if_icmp .ne 7, 3) := by decide +kernel
theorem dX10_signToken_270 : decode cX10_signToken 270 = .ok (.iconst 1, 1) := by decide +kernel
theorem dX10_signToken_271 : decode cX10_signToken 271 = .ok (.goto 4, 3) := by decide +kernel
theorem dX10_signToken_274 : decode cX10_signToken 274 = .ok (.iconst 0, 1) := by decide +kernel
theorem dX10_signToken_275 : decode cX10_signToken 275 = .ok (.istore_n 1, 1) := by decide +kernel
theorem dX10_signToken_276 : decode cX10_signToken 276 = .ok (.aload_n 0, 1) := by decide +kernel
theorem dX10_signToken_277 : decode cX10_signToken 277 = .ok (.iload_n 1, 1) := by decide +kernel
theorem dX10_signToken_278 : decode cX10_signToken 278 = .ok (.ifCond .eq 7, 3) := by decide +kernel
theorem dX10_signToken_281 : decode cX10_signToken 281 = .ok (.iconst 4, 1) := by decide +kernel
theorem dX10_signToken_282 : decode cX10_signToken 282 = .ok (.goto 5, 3) := by decide +kernel
theorem dX10_signToken_285 : decode cX10_signToken 285 = .ok (.bipush 6, 2) := by decide +kernel
theorem dX10_signToken_287 : decode cX10_signToken 287 = .ok (.putfield 169, 3) := by decide +kernel
theorem dX10_signToken_290 : decode cX10_signToken 290 = .ok (.return_, 1) := by decide +kernel
theorem dX10_packed_0 : decode cX10_packed 0 = .ok (.iconst 0, 1) := by decide +kernel
theorem dX10_packed_1 : decode cX10_packed 1 = .ok (.istore_n 3, 1) := by decide +kernel
theorem dX10_packed_2 : decode cX10_packed 2 = .ok (.iload_n 1, 1) := by decide +kernel
theorem dX10_packed_3 : decode cX10_packed 3 = .ok (.istore 4, 2) := by decide +kernel
theorem dX10_packed_5 : decode cX10_packed 5 = .ok (.iload 4, 2) := by decide +kernel
theorem dX10_packed_7 : decode cX10_packed 7 = .ok (.iload_n 1, 1) := by decide +kernel
theorem dX10_packed_8 : decode cX10_packed 8 = .ok (.bipush 6, 2) := by decide +kernel
theorem dX10_packed_10 : decode cX10_packed 10 = .ok (.iadd, 1) := by decide +kernel
theorem dX10_packed_11 : decode cX10_packed 11 = .ok (.if_icmp .ge 34, 3) := by decide +kernel
theorem dX10_packed_14 : decode cX10_packed 14 = .ok (.iload_n 3, 1) := by decide +kernel
theorem dX10_packed_15 : decode cX10_packed 15 = .ok (.iconst 5, 1) := by decide +kernel
theorem dX10_packed_16 : decode cX10_packed 16 = .ok (.ishl, 1) := by decide +kernel
theorem dX10_packed_17 : decode cX10_packed 17 = .ok (.iload 4, 2) := by decide +kernel
theorem dX10_packed_19 : decode cX10_packed 19 = .ok (.iload_n 2, 1) := by decide +kernel
theorem dX10_packed_20 : decode cX10_packed 20 = .ok (.if_icmp .ge 16, 3) := by decide +kernel
theorem dX10_packed_23 : decode cX10_packed 23 = .ok (.aload_n 0, 1) := by decide +kernel
theorem dX10_packed_24 : decode cX10_packed 24 = .ok (.getfield 7, 3) := by decide +kernel
theorem dX10_packed_27 : decode cX10_packed 27 = .ok (.iload 4, 2) := by decide +kernel
theorem dX10_packed_29 : decode cX10_packed 29 = .ok (.iaload, 1) := by decide +kernel
theorem dX10_packed_30 : decode cX10_packed 30 = .ok (.bipush 96, 2) := by decide +kernel
theorem dX10_packed_32 : decode cX10_packed 32 = .ok (.isub, 1) := by decide +kernel
theorem dX10_packed_33 : decode cX10_packed 33 = .ok (.goto 4, 3) := by decide +kernel
theorem dX10_packed_36 : decode cX10_packed 36 = .ok (.iconst 0, 1) := by decide +kernel
theorem dX10_packed_37 : decode cX10_packed 37 = .ok (.ior, 1) := by decide +kernel
theorem dX10_packed_38 : decode cX10_packed 38 = .ok (.istore_n 3, 1) := by decide +kernel
theorem dX10_packed_39 : decode cX10_packed 39 = .ok (.iinc 4 1, 3) := by decide +kernel
theorem dX10_packed_42 : decode cX10_packed 42 = .ok (.goto (-37), 3) := by decide +kernel
theorem dX10_packed_45 : decode cX10_packed 45 = .ok (.iload_n 3, 1) := by decide +kernel
theorem dX10_packed_46 : decode cX10_packed 46 = .ok (.ireturn, 1) := by decide +kernel
theorem dX10_isKey_0 : decode cX10_isKey 0 = .ok (.aload_n 0, 1) := by decide +kernel
theorem dX10_isKey_1 : decode cX10_isKey 1 = .ok (.getfield 169, 3) := by decide +kernel
theorem dX10_isKey_4 : decode cX10_isKey 4 = .ok (.iconst 1, 1) := by decide +kernel
theorem dX10_isKey_5 : decode cX10_isKey 5 = .ok (.if_icmp .ne 15, 3) := by decide +kernel
theorem dX10_isKey_8 : decode cX10_isKey 8 = .ok (.aload_n 0, 1) := by decide +kernel
theorem dX10_isKey_9 : decode cX10_isKey 9 = .ok (.getfield 180, 3) := by decide +kernel
theorem dX10_isKey_12 : decode cX10_isKey 12 = .ok (.iload_n 1, 1) := by decide +kernel
theorem dX10_isKey_13 : decode cX10_isKey 13 = .ok (.if_icmp .ne 7, 3) := by decide +kernel
theorem dX10_isKey_16 : decode cX10_isKey 16 = .ok (.iconst 1, 1) := by decide +kernel
theorem dX10_isKey_17 : decode cX10_isKey 17 = .ok (.goto 4, 3) := by decide +kernel
theorem dX10_isKey_20 : decode cX10_isKey 20 = .ok (.iconst 0, 1) := by decide +kernel
theorem dX10_isKey_21 : decode cX10_isKey 21 = .ok (.ireturn, 1) := by decide +kernel
theorem dX10_isSign_0 : decode cX10_isSign 0 = .ok (.aload_n 0, 1) := by decide +kernel
theorem dX10_isSign_1 : decode cX10_isSign 1 = .ok (.getfield 169, 3) := by decide +kernel
theorem dX10_isSign_4 : decode cX10_isSign 4 = .ok (.iconst 4, 1) := by decide +kernel
theorem dX10_isSign_5 : decode cX10_isSign 5 = .ok (.if_icmp .ne 15, 3) := by decide +kernel
theorem dX10_isSign_8 : decode cX10_isSign 8 = .ok (.aload_n 0, 1) := by decide +kernel
theorem dX10_isSign_9 : decode cX10_isSign 9 = .ok (.getfield 180, 3) := by decide +kernel
theorem dX10_isSign_12 : decode cX10_isSign 12 = .ok (.iload_n 1, 1) := by decide +kernel
theorem dX10_isSign_13 : decode cX10_isSign 13 = .ok (.if_icmp .ne 7, 3) := by decide +kernel
theorem dX10_isSign_16 : decode cX10_isSign 16 = .ok (.iconst 1, 1) := by decide +kernel
theorem dX10_isSign_17 : decode cX10_isSign 17 = .ok (.goto 4, 3) := by decide +kernel
theorem dX10_isSign_20 : decode cX10_isSign 20 = .ok (.iconst 0, 1) := by decide +kernel
theorem dX10_isSign_21 : decode cX10_isSign 21 = .ok (.ireturn, 1) := by decide +kernel
theorem dX10_number_0 : decode cX10_number 0 = .ok (.aload_n 0, 1) := by decide +kernel
theorem dX10_number_1 : decode cX10_number 1 = .ok (.getfield 169, 3) := by decide +kernel
theorem dX10_number_4 : decode cX10_number 4 = .ok (.iconst 3, 1) := by decide +kernel
theorem dX10_number_5 : decode cX10_number 5 = .ok (.if_icmp .eq 9, 3) := by decide +kernel
theorem dX10_number_8 : decode cX10_number 8 = .ok (.aload_n 0, 1) := by decide +kernel
theorem dX10_number_9 : decode cX10_number 9 = .ok (.iconst 1, 1) := by decide +kernel
theorem dX10_number_10 : decode cX10_number 10 = .ok (.invokevirtual 193, 3) := by decide +kernel
theorem dX10_number_13 : decode cX10_number 13 = .ok (.ireturn, 1) := by decide +kernel
theorem dX10_number_14 : decode cX10_number 14 = .ok (.aload_n 0, 1) := by decide +kernel
theorem dX10_number_15 : decode cX10_number 15 = .ok (.getfield 180, 3) := by decide +kernel
theorem dX10_number_18 : decode cX10_number 18 = .ok (.iload_n 1, 1) := by decide +kernel
theorem dX10_number_19 : decode cX10_number 19 = .ok (.iload_n 2, 1) := by decide +kernel
theorem dX10_number_20 : decode cX10_number 20 = .ok (.invokestatic 196, 3) := by decide +kernel
theorem dX10_number_23 : decode cX10_number 23 = .ok (.ifCond .ne 9, 3) := by decide +kernel
theorem dX10_number_26 : decode cX10_number 26 = .ok (.aload_n 0, 1) := by decide +kernel
theorem dX10_number_27 : decode cX10_number 27 = .ok (.iconst 2, 1) := by decide +kernel
theorem dX10_number_28 : decode cX10_number 28 = .ok (.invokevirtual 193, 3) := by decide +kernel
theorem dX10_number_31 : decode cX10_number 31 = .ok (.ireturn, 1) := by decide +kernel
theorem dX10_number_32 : decode cX10_number 32 = .ok (.aload_n 0, 1) := by decide +kernel
theorem dX10_number_33 : decode cX10_number 33 = .ok (.aload_n 0, 1) := by decide +kernel
theorem dX10_number_34 : decode cX10_number 34 = .ok (.getfield 180, 3) := by decide +kernel
theorem dX10_number_37 : decode cX10_number 37 = .ok (.putfield 200, 3) := by decide +kernel
theorem dX10_number_40 : decode cX10_number 40 = .ok (.aload_n 0, 1) := by decide +kernel
theorem dX10_number_41 : decode cX10_number 41 = .ok (.invokevirtual 203, 3) := by decide +kernel
theorem dX10_number_44 : decode cX10_number 44 = .ok (.iconst 1, 1) := by decide +kernel
theorem dX10_number_45 : decode cX10_number 45 = .ok (.ireturn, 1) := by decide +kernel
theorem dX10_plain_0 : decode cX10_plain 0 = .ok (.aload_n 0, 1) := by decide +kernel
theorem dX10_plain_1 : decode cX10_plain 1 = .ok (.iconst 0, 1) := by decide +kernel
theorem dX10_plain_2 : decode cX10_plain 2 = .ok (.putfield 213, 3) := by decide +kernel
theorem dX10_plain_5 : decode cX10_plain 5 = .ok (.aload_n 0, 1) := by decide +kernel
theorem dX10_plain_6 : decode cX10_plain 6 = .ok (.iconst 0, 1) := by decide +kernel
theorem dX10_plain_7 : decode cX10_plain 7 = .ok (.putfield 216, 3) := by decide +kernel
theorem dX10_plain_10 : decode cX10_plain 10 = .ok (.aload_n 0, 1) := by decide +kernel
theorem dX10_plain_11 : decode cX10_plain 11 = .ok (.iconst 0, 1) := by decide +kernel
theorem dX10_plain_12 : decode cX10_plain 12 = .ok (.putfield 219, 3) := by decide +kernel
theorem dX10_plain_15 : decode cX10_plain 15 = .ok (.aload_n 0, 1) := by decide +kernel
theorem dX10_plain_16 : decode cX10_plain 16 = .ok (.iconst 0, 1) := by decide +kernel
theorem dX10_plain_17 : decode cX10_plain 17 = .ok (.putfield 222, 3) := by decide +kernel
theorem dX10_plain_20 : decode cX10_plain 20 = .ok (.iconst 0, 1) := by decide +kernel
theorem dX10_plain_21 : decode cX10_plain 21 = .ok (.istore_n 1, 1) := by decide +kernel
theorem dX10_plain_22 : decode cX10_plain 22 = .ok (.iload_n 1, 1) := by decide +kernel
theorem dX10_plain_23 : decode cX10_plain 23 = .ok (.iconst 3, 1) := by decide +kernel
theorem dX10_plain_24 : decode cX10_plain 24 = .ok (.if_icmp .ge 25, 3) := by decide +kernel
theorem dX10_plain_27 : decode cX10_plain 27 = .ok (.aload_n 0, 1) := by decide +kernel
theorem dX10_plain_28 : decode cX10_plain 28 = .ok (.getfield 20, 3) := by decide +kernel
theorem dX10_plain_31 : decode cX10_plain 31 = .ok (.iload_n 1, 1) := by decide +kernel
theorem dX10_plain_32 : decode cX10_plain 32 = .ok (.iconst 0, 1) := by decide +kernel
theorem dX10_plain_33 : decode cX10_plain 33 = .ok (.bastore, 1) := by decide +kernel
theorem dX10_plain_34 : decode cX10_plain 34 = .ok (.aload_n 0, 1) := by decide +kernel
theorem dX10_plain_35 : decode cX10_plain 35 = .ok (.getfield 54, 3) := by decide +kernel
theorem dX10_plain_38 : decode cX10_plain 38 = .ok (.iconst 3, 1) := by decide +kernel
theorem dX10_plain_39 : decode cX10_plain 39 = .ok (.iload_n 1, 1) := by decide +kernel
theorem dX10_plain_40 : decode cX10_plain 40 = .ok (.iadd, 1) := by decide +kernel
theorem dX10_plain_41 : decode cX10_plain 41 = .ok (.iconst 0, 1) := by decide +kernel
theorem dX10_plain_42 : decode cX10_plain 42 = .ok (.bastore, 1) := by decide +kernel
theorem dX10_plain_43 : decode cX10_plain 43 = .ok (.iinc 1 1, 3) := by decide +kernel
theorem dX10_plain_46 : decode cX10_plain 46 = .ok (.goto (-24), 3) := by decide +kernel
theorem dX10_plain_49 : decode cX10_plain 49 = .ok (.aload_n 0, 1) := by decide +kernel
theorem dX10_plain_50 : decode cX10_plain 50 = .ok (.getfield 24, 3) := by decide +kernel
theorem dX10_plain_53 : decode cX10_plain 53 = .ok (.iconst 3, 1) := by decide +kernel
theorem dX10_plain_54 : decode cX10_plain 54 = .ok (.iconst 3, 1) := by decide +kernel
theorem dX10_plain_55 : decode cX10_plain 55 = .ok (.iastore, 1) := by decide +kernel
theorem dX10_plain_56 : decode cX10_plain 56 = .ok (.aload_n 0, 1) := by decide +kernel
theorem dX10_plain_57 : decode cX10_plain 57 = .ok (.getfield 24, 3) := by decide +kernel
theorem dX10_plain_60 : decode cX10_plain 60 = .ok (.iconst 4, 1) := by decide +kernel
theorem dX10_plain_61 : decode cX10_plain 61 = .ok (.iconst 0, 1) := by decide +kernel
theorem dX10_plain_62 : decode cX10_plain 62 = .ok (.iastore, 1) := by decide +kernel
theorem dX10_plain_63 : decode cX10_plain 63 = .ok (.aload_n 0, 1) := by decide +kernel
theorem dX10_plain_64 : decode cX10_plain 64 = .ok (.getfield 24, 3) := by decide +kernel
theorem dX10_plain_67 : decode cX10_plain 67 = .ok (.iconst 5, 1) := by decide +kernel
theorem dX10_plain_68 : decode cX10_plain 68 = .ok (.iconst 0, 1) := by decide +kernel
theorem dX10_plain_69 : decode cX10_plain 69 = .ok (.iastore, 1) := by decide +kernel
theorem dX10_plain_70 : decode cX10_plain 70 = .ok (.return_, 1) := by decide +kernel
theorem dX10_copies_0 : decode cX10_copies 0 = .ok (.iconst 0, 1) := by decide +kernel
theorem dX10_copies_1 : decode cX10_copies 1 = .ok (.istore_n 2, 1) := by decide +kernel
theorem dX10_copies_2 : decode cX10_copies 2 = .ok (.iload_n 2, 1) := by decide +kernel
theorem dX10_copies_3 : decode cX10_copies 3 = .ok (.iload_n 1, 1) := by decide +kernel
theorem dX10_copies_4 : decode cX10_copies 4 = .ok (.if_icmp .ge 17, 3) := by decide +kernel
theorem dX10_copies_7 : decode cX10_copies 7 = .ok (.aload_n 0, 1) := by decide +kernel
theorem dX10_copies_8 : decode cX10_copies 8 = .ok (.iload_n 2, 1) := by decide +kernel
theorem dX10_copies_9 : decode cX10_copies 9 = .ok (.aload_n 0, 1) := by decide +kernel
theorem dX10_copies_10 : decode cX10_copies 10 = .ok (.iload_n 1, 1) := by decide +kernel
theorem dX10_copies_11 : decode cX10_copies 11 = .ok (.iload_n 2, 1) := by decide +kernel
theorem dX10_copies_12 : decode cX10_copies 12 = .ok (.iadd, 1) := by decide +kernel
theorem dX10_copies_13 : decode cX10_copies 13 = .ok (.iaload, 1) := by decide +kernel
theorem dX10_copies_14 : decode cX10_copies 14 = .ok (.iastore, 1) := by decide +kernel
theorem dX10_copies_15 : decode cX10_copies 15 = .ok (.iinc 2 1, 3) := by decide +kernel
theorem dX10_copies_18 : decode cX10_copies 18 = .ok (.goto (-16), 3) := by decide +kernel
theorem dX10_copies_21 : decode cX10_copies 21 = .ok (.return_, 1) := by decide +kernel
theorem dX10_keepText_0 : decode cX10_keepText 0 = .ok (.aload_n 0, 1) := by decide +kernel
theorem dX10_keepText_1 : decode cX10_keepText 1 = .ok (.aload_n 0, 1) := by decide +kernel
theorem dX10_keepText_2 : decode cX10_keepText 2 = .ok (.getfield 213, 3) := by decide +kernel
theorem dX10_keepText_5 : decode cX10_keepText 5 = .ok (.putfield 225, 3) := by decide +kernel
theorem dX10_keepText_8 : decode cX10_keepText 8 = .ok (.aload_n 0, 1) := by decide +kernel
theorem dX10_keepText_9 : decode cX10_keepText 9 = .ok (.aload_n 0, 1) := by decide +kernel
theorem dX10_keepText_10 : decode cX10_keepText 10 = .ok (.getfield 216, 3) := by decide +kernel
theorem dX10_keepText_13 : decode cX10_keepText 13 = .ok (.putfield 228, 3) := by decide +kernel
theorem dX10_keepText_16 : decode cX10_keepText 16 = .ok (.aload_n 0, 1) := by decide +kernel
theorem dX10_keepText_17 : decode cX10_keepText 17 = .ok (.aload_n 0, 1) := by decide +kernel
theorem dX10_keepText_18 : decode cX10_keepText 18 = .ok (.getfield 219, 3) := by decide +kernel
theorem dX10_keepText_21 : decode cX10_keepText 21 = .ok (.putfield 231, 3) := by decide +kernel
theorem dX10_keepText_24 : decode cX10_keepText 24 = .ok (.aload_n 0, 1) := by decide +kernel
theorem dX10_keepText_25 : decode cX10_keepText 25 = .ok (.getfield 24, 3) := by decide +kernel
theorem dX10_keepText_28 : decode cX10_keepText 28 = .ok (.iconst 3, 1) := by decide +kernel
theorem dX10_keepText_29 : decode cX10_keepText 29 = .ok (.invokestatic 234, 3) := by decide +kernel
theorem dX10_keepText_32 : decode cX10_keepText 32 = .ok (.aload_n 0, 1) := by decide +kernel
theorem dX10_keepText_33 : decode cX10_keepText 33 = .ok (.getfield 27, 3) := by decide +kernel
theorem dX10_keepText_36 : decode cX10_keepText 36 = .ok (.bipush 6, 2) := by decide +kernel
theorem dX10_keepText_38 : decode cX10_keepText 38 = .ok (.invokestatic 234, 3) := by decide +kernel
theorem dX10_keepText_41 : decode cX10_keepText 41 = .ok (.aload_n 0, 1) := by decide +kernel
theorem dX10_keepText_42 : decode cX10_keepText 42 = .ok (.getfield 30, 3) := by decide +kernel
theorem dX10_keepText_45 : decode cX10_keepText 45 = .ok (.bipush 6, 2) := by decide +kernel
theorem dX10_keepText_47 : decode cX10_keepText 47 = .ok (.invokestatic 234, 3) := by decide +kernel
theorem dX10_keepText_50 : decode cX10_keepText 50 = .ok (.aload_n 0, 1) := by decide +kernel
theorem dX10_keepText_51 : decode cX10_keepText 51 = .ok (.getfield 33, 3) := by decide +kernel
theorem dX10_keepText_54 : decode cX10_keepText 54 = .ok (.bipush 6, 2) := by decide +kernel
theorem dX10_keepText_56 : decode cX10_keepText 56 = .ok (.invokestatic 234, 3) := by decide +kernel
theorem dX10_keepText_59 : decode cX10_keepText 59 = .ok (.aload_n 0, 1) := by decide +kernel
theorem dX10_keepText_60 : decode cX10_keepText 60 = .ok (.getfield 36, 3) := by decide +kernel
theorem dX10_keepText_63 : decode cX10_keepText 63 = .ok (.bipush 6, 2) := by decide +kernel
theorem dX10_keepText_65 : decode cX10_keepText 65 = .ok (.invokestatic 234, 3) := by decide +kernel
theorem dX10_keepText_68 : decode cX10_keepText 68 = .ok (.aload_n 0, 1) := by decide +kernel
theorem dX10_keepText_69 : decode cX10_keepText 69 = .ok (.getfield 39, 3) := by decide +kernel
theorem dX10_keepText_72 : decode cX10_keepText 72 = .ok (.bipush 6, 2) := by decide +kernel
theorem dX10_keepText_74 : decode cX10_keepText 74 = .ok (.invokestatic 234, 3) := by decide +kernel
theorem dX10_keepText_77 : decode cX10_keepText 77 = .ok (.aload_n 0, 1) := by decide +kernel
theorem dX10_keepText_78 : decode cX10_keepText 78 = .ok (.getfield 42, 3) := by decide +kernel
theorem dX10_keepText_81 : decode cX10_keepText 81 = .ok (.bipush 6, 2) := by decide +kernel
theorem dX10_keepText_83 : decode cX10_keepText 83 = .ok (.invokestatic 234, 3) := by decide +kernel
theorem dX10_keepText_86 : decode cX10_keepText 86 = .ok (.aload_n 0, 1) := by decide +kernel
theorem dX10_keepText_87 : decode cX10_keepText 87 = .ok (.getfield 45, 3) := by decide +kernel
theorem dX10_keepText_90 : decode cX10_keepText 90 = .ok (.bipush 6, 2) := by decide +kernel
theorem dX10_keepText_92 : decode cX10_keepText 92 = .ok (.invokestatic 234, 3) := by decide +kernel
theorem dX10_keepText_95 : decode cX10_keepText 95 = .ok (.aload_n 0, 1) := by decide +kernel
theorem dX10_keepText_96 : decode cX10_keepText 96 = .ok (.getfield 48, 3) := by decide +kernel
theorem dX10_keepText_99 : decode cX10_keepText 99 = .ok (.bipush 6, 2) := by decide +kernel
theorem dX10_keepText_101 : decode cX10_keepText 101 = .ok (.invokestatic 234, 3) := by decide +kernel
theorem dX10_keepText_104 : decode cX10_keepText 104 = .ok (.aload_n 0, 1) := by decide +kernel
theorem dX10_keepText_105 : decode cX10_keepText 105 = .ok (.getfield 51, 3) := by decide +kernel
theorem dX10_keepText_108 : decode cX10_keepText 108 = .ok (.bipush 6, 2) := by decide +kernel
theorem dX10_keepText_110 : decode cX10_keepText 110 = .ok (.invokestatic 234, 3) := by decide +kernel
theorem dX10_keepText_113 : decode cX10_keepText 113 = .ok (.iconst 0, 1) := by decide +kernel
theorem dX10_keepText_114 : decode cX10_keepText 114 = .ok (.istore_n 1, 1) := by decide +kernel
theorem dX10_keepText_115 : decode cX10_keepText 115 = .ok (.iload_n 1, 1) := by decide +kernel
theorem dX10_keepText_116 : decode cX10_keepText 116 = .ok (.iconst 3, 1) := by decide +kernel
theorem dX10_keepText_117 : decode cX10_keepText 117 = .ok (.if_icmp .ge 23, 3) := by decide +kernel
theorem dX10_keepText_120 : decode cX10_keepText 120 = .ok (.aload_n 0, 1) := by decide +kernel
theorem dX10_keepText_121 : decode cX10_keepText 121 = .ok (.getfield 54, 3) := by decide +kernel
theorem dX10_keepText_124 : decode cX10_keepText 124 = .ok (.iload_n 1, 1) := by decide +kernel
theorem dX10_keepText_125 : decode cX10_keepText 125 = .ok (.aload_n 0, 1) := by decide +kernel
theorem dX10_keepText_126 : decode cX10_keepText 126 = .ok (.getfield 54, 3) := by decide +kernel
theorem dX10_keepText_129 : decode cX10_keepText 129 = .ok (.iconst 3, 1) := by decide +kernel
theorem dX10_keepText_130 : decode cX10_keepText 130 = .ok (.iload_n 1, 1) := by decide +kernel
theorem dX10_keepText_131 : decode cX10_keepText 131 = .ok (.iadd, 1) := by decide +kernel
theorem dX10_keepText_132 : decode cX10_keepText 132 = .ok (.baload, 1) := by decide +kernel
theorem dX10_keepText_133 : decode cX10_keepText 133 = .ok (.bastore, 1) := by decide +kernel
theorem dX10_keepText_134 : decode cX10_keepText 134 = .ok (.iinc 1 1, 3) := by decide +kernel
theorem dX10_keepText_137 : decode cX10_keepText 137 = .ok (.goto (-22), 3) := by decide +kernel
theorem dX10_keepText_140 : decode cX10_keepText 140 = .ok (.aload_n 0, 1) := by decide +kernel
theorem dX10_keepText_141 : decode cX10_keepText 141 = .ok (.getfield 57, 3) := by decide +kernel
theorem dX10_keepText_144 : decode cX10_keepText 144 = .ok (.iconst 3, 1) := by decide +kernel
theorem dX10_keepText_145 : decode cX10_keepText 145 = .ok (.invokestatic 234, 3) := by decide +kernel
theorem dX10_keepText_148 : decode cX10_keepText 148 = .ok (.aload_n 0, 1) := by decide +kernel
theorem dX10_keepText_149 : decode cX10_keepText 149 = .ok (.getfield 60, 3) := by decide +kernel
theorem dX10_keepText_152 : decode cX10_keepText 152 = .ok (.iconst 3, 1) := by decide +kernel
theorem dX10_keepText_153 : decode cX10_keepText 153 = .ok (.invokestatic 234, 3) := by decide +kernel
theorem dX10_keepText_156 : decode cX10_keepText 156 = .ok (.aload_n 0, 1) := by decide +kernel
theorem dX10_keepText_157 : decode cX10_keepText 157 = .ok (.getfield 63, 3) := by decide +kernel
theorem dX10_keepText_160 : decode cX10_keepText 160 = .ok (.bipush 64, 2) := by decide +kernel
theorem dX10_keepText_162 : decode cX10_keepText 162 = .ok (.invokestatic 234, 3) := by decide +kernel
theorem dX10_keepText_165 : decode cX10_keepText 165 = .ok (.aload_n 0, 1) := by decide +kernel
theorem dX10_keepText_166 : decode cX10_keepText 166 = .ok (.getfield 66, 3) := by decide +kernel
theorem dX10_keepText_169 : decode cX10_keepText 169 = .ok (.bipush 64, 2) := by decide +kernel
theorem dX10_keepText_171 : decode cX10_keepText 171 = .ok (.invokestatic 234, 3) := by decide +kernel
theorem dX10_keepText_174 : decode cX10_keepText 174 = .ok (.aload_n 0, 1) := by decide +kernel
theorem dX10_keepText_175 : decode cX10_keepText 175 = .ok (.getfield 69, 3) := by decide +kernel
theorem dX10_keepText_178 : decode cX10_keepText 178 = .ok (.bipush 64, 2) := by decide +kernel
theorem dX10_keepText_180 : decode cX10_keepText 180 = .ok (.invokestatic 234, 3) := by decide +kernel
theorem dX10_keepText_183 : decode cX10_keepText 183 = .ok (.aload_n 0, 1) := by decide +kernel
theorem dX10_keepText_184 : decode cX10_keepText 184 = .ok (.invokevirtual 238, 3) := by decide +kernel
theorem dX10_keepText_187 : decode cX10_keepText 187 = .ok (.return_, 1) := by decide +kernel
theorem dX10_find_0 : decode cX10_find 0 = .ok (.iconst 0, 1) := by decide +kernel
theorem dX10_find_1 : decode cX10_find 1 = .ok (.istore 4, 2) := by decide +kernel
theorem dX10_find_3 : decode cX10_find 3 = .ok (.iload 4, 2) := by decide +kernel
theorem dX10_find_5 : decode cX10_find 5 = .ok (.iload_n 2, 1) := by decide +kernel
theorem dX10_find_6 : decode cX10_find 6 = .ok (.if_icmp .ge 22, 3) := by decide +kernel
theorem dX10_find_9 : decode cX10_find 9 = .ok (.aload_n 0, 1) := by decide +kernel
theorem dX10_find_10 : decode cX10_find 10 = .ok (.iload_n 1, 1) := by decide +kernel
theorem dX10_find_11 : decode cX10_find 11 = .ok (.iload 4, 2) := by decide +kernel
theorem dX10_find_13 : decode cX10_find 13 = .ok (.iadd, 1) := by decide +kernel
theorem dX10_find_14 : decode cX10_find 14 = .ok (.iaload, 1) := by decide +kernel
theorem dX10_find_15 : decode cX10_find 15 = .ok (.iload_n 3, 1) := by decide +kernel
theorem dX10_find_16 : decode cX10_find 16 = .ok (.if_icmp .ne 6, 3) := by decide +kernel
theorem dX10_find_19 : decode cX10_find 19 = .ok (.iload 4, 2) := by decide +kernel
theorem dX10_find_21 : decode cX10_find 21 = .ok (.ireturn, 1) := by decide +kernel
theorem dX10_find_22 : decode cX10_find 22 = .ok (.iinc 4 1, 3) := by decide +kernel
theorem dX10_find_25 : decode cX10_find 25 = .ok (.goto (-22), 3) := by decide +kernel
theorem dX10_find_28 : decode cX10_find 28 = .ok (.iconst (-1), 1) := by decide +kernel
theorem dX10_find_29 : decode cX10_find 29 = .ok (.ireturn, 1) := by decide +kernel
theorem dX10_newName_0 : decode cX10_newName 0 = .ok (.aload_n 0, 1) := by decide +kernel
theorem dX10_newName_1 : decode cX10_newName 1 = .ok (.getfield 169, 3) := by decide +kernel
theorem dX10_newName_4 : decode cX10_newName 4 = .ok (.iconst 2, 1) := by decide +kernel
theorem dX10_newName_5 : decode cX10_newName 5 = .ok (.if_icmp .eq 9, 3) := by decide +kernel
theorem dX10_newName_8 : decode cX10_newName 8 = .ok (.aload_n 0, 1) := by decide +kernel
theorem dX10_newName_9 : decode cX10_newName 9 = .ok (.iconst 1, 1) := by decide +kernel
theorem dX10_newName_10 : decode cX10_newName 10 = .ok (.invokevirtual 193, 3) := by decide +kernel
theorem dX10_newName_13 : decode cX10_newName 13 = .ok (.ireturn, 1) := by decide +kernel
theorem dX10_newName_14 : decode cX10_newName 14 = .ok (.aload_n 1, 1) := by decide +kernel
theorem dX10_newName_15 : decode cX10_newName 15 = .ok (.iload_n 2, 1) := by decide +kernel
theorem dX10_newName_16 : decode cX10_newName 16 = .ok (.iload_n 3, 1) := by decide +kernel
theorem dX10_newName_17 : decode cX10_newName 17 = .ok (.aload_n 0, 1) := by decide +kernel
theorem dX10_newName_18 : decode cX10_newName 18 = .ok (.getfield 180, 3) := by decide +kernel
theorem dX10_newName_21 : decode cX10_newName 21 = .ok (.invokestatic 241, 3) := by decide +kernel
theorem dX10_newName_24 : decode cX10_newName 24 = .ok (.ifCond .lt 9, 3) := by decide +kernel
theorem dX10_newName_27 : decode cX10_newName 27 = .ok (.aload_n 0, 1) := by decide +kernel
theorem dX10_newName_28 : decode cX10_newName 28 = .ok (.iconst 3, 1) := by decide +kernel
theorem dX10_newName_29 : decode cX10_newName 29 = .ok (.invokevirtual 193, 3) := by decide +kernel
theorem dX10_newName_32 : decode cX10_newName 32 = .ok (.ireturn, 1) := by decide +kernel
theorem dX10_newName_33 : decode cX10_newName 33 = .ok (.aload_n 1, 1) := by decide +kernel
theorem dX10_newName_34 : decode cX10_newName 34 = .ok (.iload_n 2, 1) := by decide +kernel
theorem dX10_newName_35 : decode cX10_newName 35 = .ok (.iload_n 3, 1) := by decide +kernel
theorem dX10_newName_36 : decode cX10_newName 36 = .ok (.iadd, 1) := by decide +kernel
theorem dX10_newName_37 : decode cX10_newName 37 = .ok (.aload_n 0, 1) := by decide +kernel
theorem dX10_newName_38 : decode cX10_newName 38 = .ok (.getfield 180, 3) := by decide +kernel
theorem dX10_newName_41 : decode cX10_newName 41 = .ok (.iastore, 1) := by decide +kernel
theorem dX10_newName_42 : decode cX10_newName 42 = .ok (.aload_n 0, 1) := by decide +kernel
theorem dX10_newName_43 : decode cX10_newName 43 = .ok (.invokevirtual 203, 3) := by decide +kernel
theorem dX10_newName_46 : decode cX10_newName 46 = .ok (.iconst 1, 1) := by decide +kernel
theorem dX10_newName_47 : decode cX10_newName 47 = .ok (.ireturn, 1) := by decide +kernel
theorem dX10_houseLine_0 : decode cX10_houseLine 0 = .ok (.aload_n 0, 1) := by decide +kernel
theorem dX10_houseLine_1 : decode cX10_houseLine 1 = .ok (.getfield 213, 3) := by decide +kernel
theorem dX10_houseLine_4 : decode cX10_houseLine 4 = .ok (.bipush 6, 2) := by decide +kernel
theorem dX10_houseLine_6 : decode cX10_houseLine 6 = .ok (.if_icmp .ne 9, 3) := by decide +kernel
theorem dX10_houseLine_9 : decode cX10_houseLine 9 = .ok (.aload_n 0, 1) := by decide +kernel
theorem dX10_houseLine_10 : decode cX10_houseLine 10 = .ok (.iconst 2, 1) := by decide +kernel
theorem dX10_houseLine_11 : decode cX10_houseLine 11 = .ok (.invokevirtual 193, 3) := by decide +kernel
theorem dX10_houseLine_14 : decode cX10_houseLine 14 = .ok (.ireturn, 1) := by decide +kernel
theorem dX10_houseLine_15 : decode cX10_houseLine 15 = .ok (.aload_n 0, 1) := by decide +kernel
theorem dX10_houseLine_16 : decode cX10_houseLine 16 = .ok (.invokevirtual 203, 3) := by decide +kernel
theorem dX10_houseLine_19 : decode cX10_houseLine 19 = .ok (.aload_n 0, 1) := by decide +kernel
theorem dX10_houseLine_20 : decode cX10_houseLine 20 = .ok (.aload_n 0, 1) := by decide +kernel
theorem dX10_houseLine_21 : decode cX10_houseLine 21 = .ok (.getfield 27, 3) := by decide +kernel
theorem dX10_houseLine_24 : decode cX10_houseLine 24 = .ok (.bipush 6, 2) := by decide +kernel
theorem dX10_houseLine_26 : decode cX10_houseLine 26 = .ok (.aload_n 0, 1) := by decide +kernel
theorem dX10_houseLine_27 : decode cX10_houseLine 27 = .ok (.getfield 213, 3) := by decide +kernel
theorem dX10_houseLine_30 : decode cX10_houseLine 30 = .ok (.invokevirtual 245, 3) := by decide +kernel
theorem dX10_houseLine_33 : decode cX10_houseLine 33 = .ok (.ifCond .ne 5, 3) := by decide +kernel
theorem dX10_houseLine_36 : decode cX10_houseLine 36 = .ok (.iconst 0, 1) := by decide +kernel
theorem dX10_houseLine_37 : decode cX10_houseLine 37 = .ok (.ireturn, 1) := by decide +kernel
theorem dX10_houseLine_38 : decode cX10_houseLine 38 = .ok (.bipush 6, 2) := by decide +kernel
theorem dX10_houseLine_40 : decode cX10_houseLine 40 = .ok (.aload_n 0, 1) := by decide +kernel
theorem dX10_houseLine_41 : decode cX10_houseLine 41 = .ok (.getfield 213, 3) := by decide +kernel
theorem dX10_houseLine_44 : decode cX10_houseLine 44 = .ok (.iadd, 1) := by decide +kernel
theorem dX10_houseLine_45 : decode cX10_houseLine 45 = .ok (.istore_n 1, 1) := by decide +kernel
theorem dX10_houseLine_46 : decode cX10_houseLine 46 = .ok (.aload_n 0, 1) := by decide +kernel
theorem dX10_houseLine_47 : decode cX10_houseLine 47 = .ok (.iconst 0, 1) := by decide +kernel
theorem dX10_houseLine_48 : decode cX10_houseLine 48 = .ok (.sipush 999, 3) := by decide +kernel
theorem dX10_houseLine_51 : decode cX10_houseLine 51 = .ok (.invokevirtual 209, 3) := by decide +kernel
theorem dX10_houseLine_54 : decode cX10_houseLine 54 = .ok (.ifCond .ne 5, 3) := by decide +kernel
theorem dX10_houseLine_57 : decode cX10_houseLine 57 = .ok (.iconst 0, 1) := by decide +kernel
theorem dX10_houseLine_58 : decode cX10_houseLine 58 = .ok (.ireturn, 1) := by decide +kernel
theorem dX10_houseLine_59 : decode cX10_houseLine 59 = .ok (.aload_n 0, 1) := by decide +kernel
theorem dX10_houseLine_60 : decode cX10_houseLine 60 = .ok (.getfield 30, 3) := by decide +kernel
theorem dX10_houseLine_63 : decode cX10_houseLine 63 = .ok (.iload_n 1, 1) := by decide +kernel
theorem dX10_houseLine_64 : decode cX10_houseLine 64 = .ok (.aload_n 0, 1) := by decide +kernel
theorem dX10_houseLine_65 : decode cX10_houseLine 65 = .ok (.getfield 200, 3) := by decide +kernel
theorem dX10_houseLine_68 : decode cX10_houseLine 68 = .ok (.iastore, 1) := by decide +kernel
theorem dX10_houseLine_69 : decode cX10_houseLine 69 = .ok (.aload_n 0, 1) := by decide +kernel
theorem dX10_houseLine_70 : decode cX10_houseLine 70 = .ok (.iconst 0, 1) := by decide +kernel
theorem dX10_houseLine_71 : decode cX10_houseLine 71 = .ok (.sipush 999, 3) := by decide +kernel
theorem dX10_houseLine_74 : decode cX10_houseLine 74 = .ok (.invokevirtual 209, 3) := by decide +kernel
theorem dX10_houseLine_77 : decode cX10_houseLine 77 = .ok (.ifCond .ne 5, 3) := by decide +kernel
theorem dX10_houseLine_80 : decode cX10_houseLine 80 = .ok (.iconst 0, 1) := by decide +kernel
theorem dX10_houseLine_81 : decode cX10_houseLine 81 = .ok (.ireturn, 1) := by decide +kernel
theorem dX10_houseLine_82 : decode cX10_houseLine 82 = .ok (.aload_n 0, 1) := by decide +kernel
theorem dX10_houseLine_83 : decode cX10_houseLine 83 = .ok (.getfield 33, 3) := by decide +kernel
theorem dX10_houseLine_86 : decode cX10_houseLine 86 = .ok (.iload_n 1, 1) := by decide +kernel
theorem dX10_houseLine_87 : decode cX10_houseLine 87 = .ok (.aload_n 0, 1) := by decide +kernel
theorem dX10_houseLine_88 : decode cX10_houseLine 88 = .ok (.getfield 200, 3) := by decide +kernel
theorem dX10_houseLine_91 : decode cX10_houseLine 91 = .ok (.iastore, 1) := by decide +kernel
theorem dX10_houseLine_92 : decode cX10_houseLine 92 = .ok (.aload_n 0, 1) := by decide +kernel
theorem dX10_houseLine_93 : decode cX10_houseLine 93 = .ok (.iconst 1, 1) := by decide +kernel
