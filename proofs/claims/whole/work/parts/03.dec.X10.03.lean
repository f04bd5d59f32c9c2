theorem dX10_signs_172 : decode cX10_signs 172 = .ok (.invokestatic 271, 3) := by decide +kernel
theorem dX10_signs_175 : decode cX10_signs 175 = .ok (.invokevirtual 306, 3) := by decide +kernel
theorem dX10_signs_178 : decode cX10_signs 178 = .ok (.iload_n 1, 1) := by decide +kernel
theorem dX10_signs_179 : decode cX10_signs 179 = .ok (.invokestatic 271, 3) := by decide +kernel
theorem dX10_signs_182 : decode cX10_signs 182 = .ok (.iconst 4, 1) := by decide +kernel
theorem dX10_signs_183 : decode cX10_signs 183 = .ok (.if_icmp .ne 34, 3) := by decide +kernel
theorem dX10_signs_186 : decode cX10_signs 186 = .ok (.aload_n 0, 1) := by decide +kernel
theorem dX10_signs_187 : decode cX10_signs 187 = .ok (.getfield 268, 3) := by decide +kernel
theorem dX10_signs_190 : decode cX10_signs 190 = .ok (.ifCond .le 27, 3) := by decide +kernel
theorem dX10_signs_193 : decode cX10_signs 193 = .ok (.aload_n 0, 1) := by decide +kernel
theorem dX10_signs_194 : decode cX10_signs 194 = .ok (.getfield 72, 3) := by decide +kernel
theorem dX10_signs_197 : decode cX10_signs 197 = .ok (.aload_n 0, 1) := by decide +kernel
theorem dX10_signs_198 : decode cX10_signs 198 = .ok (.getfield 268, 3) := by decide +kernel
theorem dX10_signs_201 : decode cX10_signs 201 = .ok (.iconst 1, 1) := by decide +kernel
theorem dX10_signs_202 : decode cX10_signs 202 = .ok (.isub, 1) := by decide +kernel
theorem dX10_signs_203 : decode cX10_signs 203 = .ok (.iaload, 1) := by decide +kernel
theorem dX10_signs_204 : decode cX10_signs 204 = .ok (.invokestatic 271, 3) := by decide +kernel
theorem dX10_signs_207 : decode cX10_signs 207 = .ok (.iconst 4, 1) := by decide +kernel
theorem dX10_signs_208 : decode cX10_signs 208 = .ok (.if_icmp .ne 9, 3) := by decide +kernel
theorem dX10_signs_211 : decode cX10_signs 211 = .ok (.aload_n 0, 1) := by decide +kernel
theorem dX10_signs_212 : decode cX10_signs 212 = .ok (.iconst 1, 1) := by decide +kernel
theorem dX10_signs_213 : decode cX10_signs 213 = .ok (.invokevirtual 193, 3) := by decide +kernel
theorem dX10_signs_216 : decode cX10_signs 216 = .ok (.ireturn, 1) := by decide +kernel
theorem dX10_signs_217 : decode cX10_signs 217 = .ok (.aload_n 0, 1) := by decide +kernel
theorem dX10_signs_218 : decode cX10_signs 218 = .ok (.invokevirtual 297, 3) := by decide +kernel
theorem dX10_signs_221 : decode cX10_signs 221 = .ok (.ifCond .ne 5, 3) := by decide +kernel
theorem dX10_signs_224 : decode cX10_signs 224 = .ok (.iconst 0, 1) := by decide +kernel
theorem dX10_signs_225 : decode cX10_signs 225 = .ok (.ireturn, 1) := by decide +kernel
theorem dX10_signs_226 : decode cX10_signs 226 = .ok (.aload_n 0, 1) := by decide +kernel
theorem dX10_signs_227 : decode cX10_signs 227 = .ok (.iload_n 1, 1) := by decide +kernel
theorem dX10_signs_228 : decode cX10_signs 228 = .ok (.invokevirtual 286, 3) := by decide +kernel
theorem dX10_signs_231 : decode cX10_signs 231 = .ok (.aload_n 0, 1) := by decide +kernel
theorem dX10_signs_232 : decode cX10_signs 232 = .ok (.iconst 1, 1) := by decide +kernel
theorem dX10_signs_233 : decode cX10_signs 233 = .ok (.putfield 303, 3) := by decide +kernel
theorem dX10_signs_236 : decode cX10_signs 236 = .ok (.aload_n 0, 1) := by decide +kernel
theorem dX10_signs_237 : decode cX10_signs 237 = .ok (.iload_n 1, 1) := by decide +kernel
theorem dX10_signs_238 : decode cX10_signs 238 = .ok (.invokestatic 271, 3) := by decide +kernel
theorem dX10_signs_241 : decode cX10_signs 241 = .ok (.iconst 3, 1) := by decide +kernel
theorem dX10_signs_242 : decode cX10_signs 242 = .ok (.if_icmp .ge 7, 3) := by decide +kernel
theorem dX10_signs_245 : decode cX10_signs 245 = .ok (.iconst 1, 1) := by decide +kernel
theorem dX10_signs_246 : decode cX10_signs 246 = .ok (.goto 4, 3) := by decide +kernel
theorem dX10_signs_249 : decode cX10_signs 249 = .ok (.iconst 0, 1) := by decide +kernel
theorem dX10_signs_250 : decode cX10_signs 250 = .ok (.putfield 290, 3) := by decide +kernel
theorem dX10_signs_253 : decode cX10_signs 253 = .ok (.aload_n 0, 1) := by decide +kernel
theorem dX10_signs_254 : decode cX10_signs 254 = .ok (.invokevirtual 203, 3) := by decide +kernel
theorem dX10_signs_257 : decode cX10_signs 257 = .ok (.iconst 1, 1) := by decide +kernel
theorem dX10_signs_258 : decode cX10_signs 258 = .ok (.ireturn, 1) := by decide +kernel
theorem dX10_sumRead_0 : decode cX10_sumRead 0 = .ok (.aload_n 0, 1) := by decide +kernel
theorem dX10_sumRead_1 : decode cX10_sumRead 1 = .ok (.iconst 0, 1) := by decide +kernel
theorem dX10_sumRead_2 : decode cX10_sumRead 2 = .ok (.putfield 268, 3) := by decide +kernel
theorem dX10_sumRead_5 : decode cX10_sumRead 5 = .ok (.aload_n 0, 1) := by decide +kernel
theorem dX10_sumRead_6 : decode cX10_sumRead 6 = .ok (.iconst 0, 1) := by decide +kernel
theorem dX10_sumRead_7 : decode cX10_sumRead 7 = .ok (.putfield 265, 3) := by decide +kernel
theorem dX10_sumRead_10 : decode cX10_sumRead 10 = .ok (.aload_n 0, 1) := by decide +kernel
theorem dX10_sumRead_11 : decode cX10_sumRead 11 = .ok (.iconst 0, 1) := by decide +kernel
theorem dX10_sumRead_12 : decode cX10_sumRead 12 = .ok (.putfield 283, 3) := by decide +kernel
theorem dX10_sumRead_15 : decode cX10_sumRead 15 = .ok (.aload_n 0, 1) := by decide +kernel
theorem dX10_sumRead_16 : decode cX10_sumRead 16 = .ok (.iconst 1, 1) := by decide +kernel
theorem dX10_sumRead_17 : decode cX10_sumRead 17 = .ok (.putfield 303, 3) := by decide +kernel
theorem dX10_sumRead_20 : decode cX10_sumRead 20 = .ok (.aload_n 0, 1) := by decide +kernel
theorem dX10_sumRead_21 : decode cX10_sumRead 21 = .ok (.iconst 1, 1) := by decide +kernel
theorem dX10_sumRead_22 : decode cX10_sumRead 22 = .ok (.putfield 290, 3) := by decide +kernel
theorem dX10_sumRead_25 : decode cX10_sumRead 25 = .ok (.aload_n 0, 1) := by decide +kernel
theorem dX10_sumRead_26 : decode cX10_sumRead 26 = .ok (.bipush 59, 2) := by decide +kernel
theorem dX10_sumRead_28 : decode cX10_sumRead 28 = .ok (.invokevirtual 206, 3) := by decide +kernel
theorem dX10_sumRead_31 : decode cX10_sumRead 31 = .ok (.ifCond .eq 17, 3) := by decide +kernel
theorem dX10_sumRead_34 : decode cX10_sumRead 34 = .ok (.aload_n 0, 1) := by decide +kernel
theorem dX10_sumRead_35 : decode cX10_sumRead 35 = .ok (.getfield 303, 3) := by decide +kernel
theorem dX10_sumRead_38 : decode cX10_sumRead 38 = .ok (.ifCond .ne 10, 3) := by decide +kernel
theorem dX10_sumRead_41 : decode cX10_sumRead 41 = .ok (.aload_n 0, 1) := by decide +kernel
theorem dX10_sumRead_42 : decode cX10_sumRead 42 = .ok (.getfield 283, 3) := by decide +kernel
theorem dX10_sumRead_45 : decode cX10_sumRead 45 = .ok (.ifCond .le 29, 3) := by decide +kernel
theorem dX10_sumRead_48 : decode cX10_sumRead 48 = .ok (.aload_n 0, 1) := by decide +kernel
theorem dX10_sumRead_49 : decode cX10_sumRead 49 = .ok (.getfield 303, 3) := by decide +kernel
theorem dX10_sumRead_52 : decode cX10_sumRead 52 = .ok (.ifCond .eq 13, 3) := by decide +kernel
theorem dX10_sumRead_55 : decode cX10_sumRead 55 = .ok (.aload_n 0, 1) := by decide +kernel
theorem dX10_sumRead_56 : decode cX10_sumRead 56 = .ok (.invokevirtual 309, 3) := by decide +kernel
theorem dX10_sumRead_59 : decode cX10_sumRead 59 = .ok (.ifCond .eq 13, 3) := by decide +kernel
theorem dX10_sumRead_62 : decode cX10_sumRead 62 = .ok (.goto (-37), 3) := by decide +kernel
theorem dX10_sumRead_65 : decode cX10_sumRead 65 = .ok (.aload_n 0, 1) := by decide +kernel
theorem dX10_sumRead_66 : decode cX10_sumRead 66 = .ok (.invokevirtual 312, 3) := by decide +kernel
theorem dX10_sumRead_69 : decode cX10_sumRead 69 = .ok (.ifCond .ne (-44), 3) := by decide +kernel
theorem dX10_sumRead_72 : decode cX10_sumRead 72 = .ok (.iconst 0, 1) := by decide +kernel
theorem dX10_sumRead_73 : decode cX10_sumRead 73 = .ok (.ireturn, 1) := by decide +kernel
theorem dX10_sumRead_74 : decode cX10_sumRead 74 = .ok (.aload_n 0, 1) := by decide +kernel
theorem dX10_sumRead_75 : decode cX10_sumRead 75 = .ok (.iconst 1, 1) := by decide +kernel
theorem dX10_sumRead_76 : decode cX10_sumRead 76 = .ok (.invokevirtual 306, 3) := by decide +kernel
theorem dX10_sumRead_79 : decode cX10_sumRead 79 = .ok (.iconst 1, 1) := by decide +kernel
theorem dX10_sumRead_80 : decode cX10_sumRead 80 = .ok (.ireturn, 1) := by decide +kernel
theorem dX10_bounded_0 : decode cX10_bounded 0 = .ok (.aload_n 0, 1) := by decide +kernel
theorem dX10_bounded_1 : decode cX10_bounded 1 = .ok (.aload_n 0, 1) := by decide +kernel
theorem dX10_bounded_2 : decode cX10_bounded 2 = .ok (.getfield 315, 3) := by decide +kernel
theorem dX10_bounded_5 : decode cX10_bounded 5 = .ok (.ifCond .ne 19, 3) := by decide +kernel
theorem dX10_bounded_8 : decode cX10_bounded 8 = .ok (.lload_n 1, 1) := by decide +kernel
theorem dX10_bounded_9 : decode cX10_bounded 9 = .ok (.ldc2_w 318, 3) := by decide +kernel
theorem dX10_bounded_12 : decode cX10_bounded 12 = .ok (.lcmp, 1) := by decide +kernel
theorem dX10_bounded_13 : decode cX10_bounded 13 = .ok (.ifCond .gt 11, 3) := by decide +kernel
theorem dX10_bounded_16 : decode cX10_bounded 16 = .ok (.lload_n 1, 1) := by decide +kernel
theorem dX10_bounded_17 : decode cX10_bounded 17 = .ok (.ldc2_w 320, 3) := by decide +kernel
theorem dX10_bounded_20 : decode cX10_bounded 20 = .ok (.lcmp, 1) := by decide +kernel
theorem dX10_bounded_21 : decode cX10_bounded 21 = .ok (.ifCond .ge 7, 3) := by decide +kernel
theorem dX10_bounded_24 : decode cX10_bounded 24 = .ok (.iconst 1, 1) := by decide +kernel
theorem dX10_bounded_25 : decode cX10_bounded 25 = .ok (.goto 4, 3) := by decide +kernel
theorem dX10_bounded_28 : decode cX10_bounded 28 = .ok (.iconst 0, 1) := by decide +kernel
theorem dX10_bounded_29 : decode cX10_bounded 29 = .ok (.putfield 315, 3) := by decide +kernel
theorem dX10_bounded_32 : decode cX10_bounded 32 = .ok (.aload_n 0, 1) := by decide +kernel
theorem dX10_bounded_33 : decode cX10_bounded 33 = .ok (.getfield 315, 3) := by decide +kernel
theorem dX10_bounded_36 : decode cX10_bounded 36 = .ok (.ifCond .eq 7, 3) := by decide +kernel
theorem dX10_bounded_39 : decode cX10_bounded 39 = .ok (.lconst 0, 1) := by decide +kernel
theorem dX10_bounded_40 : decode cX10_bounded 40 = .ok (.goto 4, 3) := by decide +kernel
theorem dX10_bounded_43 : decode cX10_bounded 43 = .ok (.lload_n 1, 1) := by decide +kernel
theorem dX10_bounded_44 : decode cX10_bounded 44 = .ok (.lreturn, 1) := by decide +kernel
theorem dX10_compares_0 : decode cX10_compares 0 = .ok (.iload_n 0, 1) := by decide +kernel
theorem dX10_compares_1 : decode cX10_compares 1 = .ok (.tableswitch 95 5 9 #[35, 47, 59, 71, 83], 35) := by decide +kernel
theorem dX10_compares_36 : decode cX10_compares 36 = .ok (.lload_n 1, 1) := by decide +kernel
theorem dX10_compares_37 : decode cX10_compares 37 = .ok (.lload_n 3, 1) := by decide +kernel
theorem dX10_compares_38 : decode cX10_compares 38 = .ok (.lcmp, 1) := by decide +kernel
theorem dX10_compares_39 : decode cX10_compares 39 = .ok (.ifCond .ge 7, 3) := by decide +kernel
theorem dX10_compares_42 : decode cX10_compares 42 = .ok (.iconst 1, 1) := by decide +kernel
theorem dX10_compares_43 : decode cX10_compares 43 = .ok (.goto 4, 3) := by decide +kernel
theorem dX10_compares_46 : decode cX10_compares 46 = .ok (.iconst 0, 1) := by decide +kernel
theorem dX10_compares_47 : decode cX10_compares 47 = .ok (.ireturn, 1) := by decide +kernel
theorem dX10_compares_48 : decode cX10_compares 48 = .ok (.lload_n 1, 1) := by decide +kernel
theorem dX10_compares_49 : decode cX10_compares 49 = .ok (.lload_n 3, 1) := by decide +kernel
theorem dX10_compares_50 : decode cX10_compares 50 = .ok (.lcmp, 1) := by decide +kernel
theorem dX10_compares_51 : decode cX10_compares 51 = .ok (.ifCond .gt 7, 3) := by decide +kernel
theorem dX10_compares_54 : decode cX10_compares 54 = .ok (.iconst 1, 1) := by decide +kernel
theorem dX10_compares_55 : decode cX10_compares 55 = .ok (.goto 4, 3) := by decide +kernel
theorem dX10_compares_58 : decode cX10_compares 58 = .ok (.iconst 0, 1) := by decide +kernel
theorem dX10_compares_59 : decode cX10_compares 59 = .ok (.ireturn, 1) := by decide +kernel
theorem dX10_compares_60 : decode cX10_compares 60 = .ok (.lload_n 1, 1) := by decide +kernel
theorem dX10_compares_61 : decode cX10_compares 61 = .ok (.lload_n 3, 1) := by decide +kernel
theorem dX10_compares_62 : decode cX10_compares 62 = .ok (.lcmp, 1) := by decide +kernel
theorem dX10_compares_63 : decode cX10_compares 63 = .ok (.ifCond .ne 7, 3) := by decide +kernel
theorem dX10_compares_66 : decode cX10_compares 66 = .ok (.iconst 1, 1) := by decide +kernel
theorem dX10_compares_67 : decode cX10_compares 67 = .ok (.goto 4, 3) := by decide +kernel
theorem dX10_compares_70 : decode cX10_compares 70 = .ok (.iconst 0, 1) := by decide +kernel
theorem dX10_compares_71 : decode cX10_compares 71 = .ok (.ireturn, 1) := by decide +kernel
theorem dX10_compares_72 : decode cX10_compares 72 = .ok (.lload_n 1, 1) := by decide +kernel
theorem dX10_compares_73 : decode cX10_compares 73 = .ok (.lload_n 3, 1) := by decide +kernel
theorem dX10_compares_74 : decode cX10_compares 74 = .ok (.lcmp, 1) := by decide +kernel
theorem dX10_compares_75 : decode cX10_compares 75 = .ok (.ifCond .eq 7, 3) := by decide +kernel
theorem dX10_compares_78 : decode cX10_compares 78 = .ok (.iconst 1, 1) := by decide +kernel
theorem dX10_compares_79 : decode cX10_compares 79 = .ok (.goto 4, 3) := by decide +kernel
theorem dX10_compares_82 : decode cX10_compares 82 = .ok (.iconst 0, 1) := by decide +kernel
theorem dX10_compares_83 : decode cX10_compares 83 = .ok (.ireturn, 1) := by decide +kernel
theorem dX10_compares_84 : decode cX10_compares 84 = .ok (.lload_n 1, 1) := by decide +kernel
theorem dX10_compares_85 : decode cX10_compares 85 = .ok (.lload_n 3, 1) := by decide +kernel
theorem dX10_compares_86 : decode cX10_compares 86 = .ok (.lcmp, 1) := by decide +kernel
theorem dX10_compares_87 : decode cX10_compares 87 = .ok (.ifCond .lt 7, 3) := by decide +kernel
theorem dX10_compares_90 : decode cX10_compares 90 = .ok (.iconst 1, 1) := by decide +kernel
theorem dX10_compares_91 : decode cX10_compares 91 = .ok (.goto 4, 3) := by decide +kernel
theorem dX10_compares_94 : decode cX10_compares 94 = .ok (.iconst 0, 1) := by decide +kernel
theorem dX10_compares_95 : decode cX10_compares 95 = .ok (.ireturn, 1) := by decide +kernel
theorem dX10_compares_96 : decode cX10_compares 96 = .ok (.lload_n 1, 1) := by decide +kernel
theorem dX10_compares_97 : decode cX10_compares 97 = .ok (.lload_n 3, 1) := by decide +kernel
theorem dX10_compares_98 : decode cX10_compares 98 = .ok (.lcmp, 1) := by decide +kernel
theorem dX10_compares_99 : decode cX10_compares 99 = .ok (.ifCond .le 7, 3) := by decide +kernel
theorem dX10_compares_102 : decode cX10_compares 102 = .ok (.iconst 1, 1) := by decide +kernel
theorem dX10_compares_103 : decode cX10_compares 103 = .ok (.goto 4, 3) := by decide +kernel
theorem dX10_compares_106 : decode cX10_compares 106 = .ok (.iconst 0, 1) := by decide +kernel
theorem dX10_compares_107 : decode cX10_compares 107 = .ok (.ireturn, 1) := by decide +kernel
theorem dX10_times_0 : decode cX10_times 0 = .ok (.lload_n 1, 1) := by decide +kernel
theorem dX10_times_1 : decode cX10_times 1 = .ok (.lconst 0, 1) := by decide +kernel
theorem dX10_times_2 : decode cX10_times 2 = .ok (.lcmp, 1) := by decide +kernel
theorem dX10_times_3 : decode cX10_times 3 = .ok (.ifCond .eq 45, 3) := by decide +kernel
theorem dX10_times_6 : decode cX10_times 6 = .ok (.lload_n 3, 1) := by decide +kernel
theorem dX10_times_7 : decode cX10_times 7 = .ok (.lconst 0, 1) := by decide +kernel
theorem dX10_times_8 : decode cX10_times 8 = .ok (.lcmp, 1) := by decide +kernel
theorem dX10_times_9 : decode cX10_times 9 = .ok (.ifCond .eq 39, 3) := by decide +kernel
theorem dX10_times_12 : decode cX10_times 12 = .ok (.lload_n 3, 1) := by decide +kernel
theorem dX10_times_13 : decode cX10_times 13 = .ok (.lconst 0, 1) := by decide +kernel
theorem dX10_times_14 : decode cX10_times 14 = .ok (.lcmp, 1) := by decide +kernel
theorem dX10_times_15 : decode cX10_times 15 = .ok (.ifCond .ge 8, 3) := by decide +kernel
theorem dX10_times_18 : decode cX10_times 18 = .ok (.lload_n 3, 1) := by decide +kernel
theorem dX10_times_19 : decode cX10_times 19 = .ok (.lneg, 1) := by decide +kernel
theorem dX10_times_20 : decode cX10_times 20 = .ok (.goto 4, 3) := by decide +kernel
theorem dX10_times_23 : decode cX10_times 23 = .ok (.lload_n 3, 1) := by decide +kernel
theorem dX10_times_24 : decode cX10_times 24 = .ok (.ldc2_w 318, 3) := by decide +kernel
theorem dX10_times_27 : decode cX10_times 27 = .ok (.lload_n 1, 1) := by decide +kernel
theorem dX10_times_28 : decode cX10_times 28 = .ok (.lconst 0, 1) := by decide +kernel
theorem dX10_times_29 : decode cX10_times 29 = .ok (.lcmp, 1) := by decide +kernel
theorem dX10_times_30 : decode cX10_times 30 = .ok (.ifCond .ge 8, 3) := by decide +kernel
theorem dX10_times_33 : decode cX10_times 33 = .ok (.lload_n 1, 1) := by decide +kernel
theorem dX10_times_34 : decode cX10_times 34 = .ok (.lneg, 1) := by decide +kernel
theorem dX10_times_35 : decode cX10_times 35 = .ok (.goto 4, 3) := by decide +kernel
theorem dX10_times_38 : decode cX10_times 38 = .ok (.lload_n 1, 1) := by decide +kernel
theorem dX10_times_39 : decode cX10_times 39 = .ok (.ldiv, 1) := by decide +kernel
theorem dX10_times_40 : decode cX10_times 40 = .ok (.lcmp, 1) := by decide +kernel
theorem dX10_times_41 : decode cX10_times 41 = .ok (.ifCond .le 7, 3) := by decide +kernel
theorem dX10_times_44 : decode cX10_times 44 = .ok (.iconst 1, 1) := by decide +kernel
theorem dX10_times_45 : decode cX10_times 45 = .ok (.goto 4, 3) := by decide +kernel
theorem dX10_times_48 : decode cX10_times 48 = .ok (.iconst 0, 1) := by decide +kernel
theorem dX10_times_49 : decode cX10_times 49 = .ok (.istore 5, 2) := by decide +kernel
theorem dX10_times_51 : decode cX10_times 51 = .ok (.aload_n 0, 1) := by decide +kernel
theorem dX10_times_52 : decode cX10_times 52 = .ok (.aload_n 0, 1) := by decide +kernel
theorem dX10_times_53 : decode cX10_times 53 = .ok (.getfield 315, 3) := by decide +kernel
theorem dX10_times_56 : decode cX10_times 56 = .ok (.ifCond .ne 8, 3) := by decide +kernel
theorem dX10_times_59 : decode cX10_times 59 = .ok (.iload 5, 2) := by decide +kernel
theorem dX10_times_61 : decode cX10_times 61 = .ok (.ifCond .eq 7, 3) := by decide +kernel
theorem dX10_times_64 : decode cX10_times 64 = .ok (.iconst 1, 1) := by decide +kernel
theorem dX10_times_65 : decode cX10_times 65 = .ok (.goto 4, 3) := by decide +kernel
theorem dX10_times_68 : decode cX10_times 68 = .ok (.iconst 0, 1) := by decide +kernel
theorem dX10_times_69 : decode cX10_times 69 = .ok (.putfield 315, 3) := by decide +kernel
theorem dX10_times_72 : decode cX10_times 72 = .ok (.aload_n 0, 1) := by decide +kernel
theorem dX10_times_73 : decode cX10_times 73 = .ok (.getfield 315, 3) := by decide +kernel
theorem dX10_times_76 : decode cX10_times 76 = .ok (.ifCond .eq 7, 3) := by decide +kernel
theorem dX10_times_79 : decode cX10_times 79 = .ok (.lconst 0, 1) := by decide +kernel
theorem dX10_times_80 : decode cX10_times 80 = .ok (.goto 6, 3) := by decide +kernel
theorem dX10_times_83 : decode cX10_times 83 = .ok (.lload_n 1, 1) := by decide +kernel
theorem dX10_times_84 : decode cX10_times 84 = .ok (.lload_n 3, 1) := by decide +kernel
theorem dX10_times_85 : decode cX10_times 85 = .ok (.lmul, 1) := by decide +kernel
theorem dX10_times_86 : decode cX10_times 86 = .ok (.lreturn, 1) := by decide +kernel
theorem dX10_valueOf_0 : decode cX10_valueOf 0 = .ok (.aload_n 0, 1) := by decide +kernel
theorem dX10_valueOf_1 : decode cX10_valueOf 1 = .ok (.getfield 63, 3) := by decide +kernel
theorem dX10_valueOf_4 : decode cX10_valueOf 4 = .ok (.iload_n 1, 1) := by decide +kernel
theorem dX10_valueOf_5 : decode cX10_valueOf 5 = .ok (.iaload, 1) := by decide +kernel
theorem dX10_valueOf_6 : decode cX10_valueOf 6 = .ok (.ifCond .ne 11, 3) := by decide +kernel
theorem dX10_valueOf_9 : decode cX10_valueOf 9 = .ok (.aload_n 0, 1) := by decide +kernel
theorem dX10_valueOf_10 : decode cX10_valueOf 10 = .ok (.getfield 66, 3) := by decide +kernel
theorem dX10_valueOf_13 : decode cX10_valueOf 13 = .ok (.iload_n 1, 1) := by decide +kernel
theorem dX10_valueOf_14 : decode cX10_valueOf 14 = .ok (.iaload, 1) := by decide +kernel
theorem dX10_valueOf_15 : decode cX10_valueOf 15 = .ok (.i2l, 1) := by decide +kernel
theorem dX10_valueOf_16 : decode cX10_valueOf 16 = .ok (.lreturn, 1) := by decide +kernel
theorem dX10_valueOf_17 : decode cX10_valueOf 17 = .ok (.aload_n 0, 1) := by decide +kernel
theorem dX10_valueOf_18 : decode cX10_valueOf 18 = .ok (.getfield 63, 3) := by decide +kernel
theorem dX10_valueOf_21 : decode cX10_valueOf 21 = .ok (.iload_n 1, 1) := by decide +kernel
theorem dX10_valueOf_22 : decode cX10_valueOf 22 = .ok (.iaload, 1) := by decide +kernel
theorem dX10_valueOf_23 : decode cX10_valueOf 23 = .ok (.iconst 1, 1) := by decide +kernel
theorem dX10_valueOf_24 : decode cX10_valueOf 24 = .ok (.if_icmp .ne 15, 3) := by decide +kernel
theorem dX10_valueOf_27 : decode cX10_valueOf 27 = .ok (.aload_n 0, 1) := by decide +kernel
theorem dX10_valueOf_28 : decode cX10_valueOf 28 = .ok (.getfield 78, 3) := by decide +kernel
theorem dX10_valueOf_31 : decode cX10_valueOf 31 = .ok (.aload_n 0, 1) := by decide +kernel
theorem dX10_valueOf_32 : decode cX10_valueOf 32 = .ok (.getfield 66, 3) := by decide +kernel
theorem dX10_valueOf_35 : decode cX10_valueOf 35 = .ok (.iload_n 1, 1) := by decide +kernel
theorem dX10_valueOf_36 : decode cX10_valueOf 36 = .ok (.iaload, 1) := by decide +kernel
theorem dX10_valueOf_37 : decode cX10_valueOf 37 = .ok (.laload, 1) := by decide +kernel
theorem dX10_valueOf_38 : decode cX10_valueOf 38 = .ok (.lreturn, 1) := by decide +kernel
theorem dX10_valueOf_39 : decode cX10_valueOf 39 = .ok (.aload_n 0, 1) := by decide +kernel
theorem dX10_valueOf_40 : decode cX10_valueOf 40 = .ok (.getfield 82, 3) := by decide +kernel
theorem dX10_valueOf_43 : decode cX10_valueOf 43 = .ok (.aload_n 0, 1) := by decide +kernel
theorem dX10_valueOf_44 : decode cX10_valueOf 44 = .ok (.getfield 66, 3) := by decide +kernel
theorem dX10_valueOf_47 : decode cX10_valueOf 47 = .ok (.iload_n 1, 1) := by decide +kernel
theorem dX10_valueOf_48 : decode cX10_valueOf 48 = .ok (.iaload, 1) := by decide +kernel
theorem dX10_valueOf_49 : decode cX10_valueOf 49 = .ok (.laload, 1) := by decide +kernel
theorem dX10_valueOf_50 : decode cX10_valueOf 50 = .ok (.lstore_n 2, 1) := by decide +kernel
theorem dX10_valueOf_51 : decode cX10_valueOf 51 = .ok (.aload_n 0, 1) := by decide +kernel
theorem dX10_valueOf_52 : decode cX10_valueOf 52 = .ok (.getfield 63, 3) := by decide +kernel
theorem dX10_valueOf_55 : decode cX10_valueOf 55 = .ok (.iload_n 1, 1) := by decide +kernel
theorem dX10_valueOf_56 : decode cX10_valueOf 56 = .ok (.iaload, 1) := by decide +kernel
theorem dX10_valueOf_57 : decode cX10_valueOf 57 = .ok (.iconst 2, 1) := by decide +kernel
theorem dX10_valueOf_58 : decode cX10_valueOf 58 = .ok (.if_icmp .ne 15, 3) := by decide +kernel
theorem dX10_valueOf_61 : decode cX10_valueOf 61 = .ok (.lload_n 2, 1) := by decide +kernel
theorem dX10_valueOf_62 : decode cX10_valueOf 62 = .ok (.lconst 0, 1) := by decide +kernel
theorem dX10_valueOf_63 : decode cX10_valueOf 63 = .ok (.lcmp, 1) := by decide +kernel
theorem dX10_valueOf_64 : decode cX10_valueOf 64 = .ok (.ifCond .ne 7, 3) := by decide +kernel
theorem dX10_valueOf_67 : decode cX10_valueOf 67 = .ok (.lconst 1, 1) := by decide +kernel
theorem dX10_valueOf_68 : decode cX10_valueOf 68 = .ok (.goto 4, 3) := by decide +kernel
theorem dX10_valueOf_71 : decode cX10_valueOf 71 = .ok (.lconst 0, 1) := by decide +kernel
theorem dX10_valueOf_72 : decode cX10_valueOf 72 = .ok (.lreturn, 1) := by decide +kernel
theorem dX10_valueOf_73 : decode cX10_valueOf 73 = .ok (.aload_n 0, 1) := by decide +kernel
theorem dX10_valueOf_74 : decode cX10_valueOf 74 = .ok (.getfield 82, 3) := by decide +kernel
theorem dX10_valueOf_77 : decode cX10_valueOf 77 = .ok (.aload_n 0, 1) := by decide +kernel
theorem dX10_valueOf_78 : decode cX10_valueOf 78 = .ok (.getfield 69, 3) := by decide +kernel
theorem dX10_valueOf_81 : decode cX10_valueOf 81 = .ok (.iload_n 1, 1) := by decide +kernel
theorem dX10_valueOf_82 : decode cX10_valueOf 82 = .ok (.iaload, 1) := by decide +kernel
theorem dX10_valueOf_83 : decode cX10_valueOf 83 = .ok (.laload, 1) := by decide +kernel
theorem dX10_valueOf_84 : decode cX10_valueOf 84 = .ok (.lstore 4, 2) := by decide +kernel
theorem dX10_valueOf_86 : decode cX10_valueOf 86 = .ok (.aload_n 0, 1) := by decide +kernel
theorem dX10_valueOf_87 : decode cX10_valueOf 87 = .ok (.getfield 63, 3) := by decide +kernel
theorem dX10_valueOf_90 : decode cX10_valueOf 90 = .ok (.iload_n 1, 1) := by decide +kernel
theorem dX10_valueOf_91 : decode cX10_valueOf 91 = .ok (.iaload, 1) := by decide +kernel
theorem dX10_valueOf_92 : decode cX10_valueOf 92 = .ok (.tableswitch 167 3 14 #[64, 83, 167, 167, 167, 167, 167, 167, 102, 111, 120, 128], 64) := by decide +kernel
theorem dX10_valueOf_156 : decode cX10_valueOf 156 = .ok (.lload_n 2, 1) := by decide +kernel
theorem dX10_valueOf_157 : decode cX10_valueOf 157 = .ok (.lconst 0, 1) := by decide +kernel
theorem dX10_valueOf_158 : decode cX10_valueOf 158 = .ok (.lcmp, 1) := by decide +kernel
theorem dX10_valueOf_159 : decode cX10_valueOf 159 = .ok (.ifCond .eq 14, 3) := by decide +kernel
theorem dX10_valueOf_162 : decode cX10_valueOf 162 = .ok (.lload 4, 2) := by decide +kernel
theorem dX10_valueOf_164 : decode cX10_valueOf 164 = .ok (.lconst 0, 1) := by decide +kernel
theorem dX10_valueOf_165 : decode cX10_valueOf 165 = .ok (.lcmp, 1) := by decide +kernel
theorem dX10_valueOf_166 : decode cX10_valueOf 166 = .ok (.ifCond .eq 7, 3) := by decide +kernel
theorem dX10_valueOf_169 : decode cX10_valueOf 169 = .ok (.lconst 1, 1) := by decide +kernel
theorem dX10_valueOf_170 : decode cX10_valueOf 170 = .ok (.goto 4, 3) := by decide +kernel
theorem dX10_valueOf_173 : decode cX10_valueOf 173 = .ok (.lconst 0, 1) := by decide +kernel
theorem dX10_valueOf_174 : decode cX10_valueOf 174 = .ok (.lreturn, 1) := by decide +kernel
theorem dX10_valueOf_175 : decode cX10_valueOf 175 = .ok (.lload_n 2, 1) := by decide +kernel
theorem dX10_valueOf_176 : decode cX10_valueOf 176 = .ok (.lconst 0, 1) := by decide +kernel
theorem dX10_valueOf_177 : decode cX10_valueOf 177 = .ok (.lcmp, 1) := by decide +kernel
theorem dX10_valueOf_178 : decode cX10_valueOf 178 = .ok (.ifCond .ne 10, 3) := by decide +kernel
theorem dX10_valueOf_181 : decode cX10_valueOf 181 = .ok (.lload 4, 2) := by decide +kernel
theorem dX10_valueOf_183 : decode cX10_valueOf 183 = .ok (.lconst 0, 1) := by decide +kernel
theorem dX10_valueOf_184 : decode cX10_valueOf 184 = .ok (.lcmp, 1) := by decide +kernel
theorem dX10_valueOf_185 : decode cX10_valueOf 185 = .ok (.ifCond .eq 7, 3) := by decide +kernel
theorem dX10_valueOf_188 : decode cX10_valueOf 188 = .ok (.lconst 1, 1) := by decide +kernel
theorem dX10_valueOf_189 : decode cX10_valueOf 189 = .ok (.goto 4, 3) := by decide +kernel
theorem dX10_valueOf_192 : decode cX10_valueOf 192 = .ok (.lconst 0, 1) := by decide +kernel
theorem dX10_valueOf_193 : decode cX10_valueOf 193 = .ok (.lreturn, 1) := by decide +kernel
theorem dX10_valueOf_194 : decode cX10_valueOf 194 = .ok (.aload_n 0, 1) := by decide +kernel
theorem dX10_valueOf_195 : decode cX10_valueOf 195 = .ok (.lload_n 2, 1) := by decide +kernel
theorem dX10_valueOf_196 : decode cX10_valueOf 196 = .ok (.lload 4, 2) := by decide +kernel
theorem dX10_valueOf_198 : decode cX10_valueOf 198 = .ok (.ladd, 1) := by decide +kernel
theorem dX10_valueOf_199 : decode cX10_valueOf 199 = .ok (.invokevirtual 322, 3) := by decide +kernel
theorem dX10_valueOf_202 : decode cX10_valueOf 202 = .ok (.lreturn, 1) := by decide +kernel
theorem dX10_valueOf_203 : decode cX10_valueOf 203 = .ok (.aload_n 0, 1) := by decide +kernel
theorem dX10_valueOf_204 : decode cX10_valueOf 204 = .ok (.lload_n 2, 1) := by decide +kernel
theorem dX10_valueOf_205 : decode cX10_valueOf 205 = .ok (.lload 4, 2) := by decide +kernel
theorem dX10_valueOf_207 : decode cX10_valueOf 207 = .ok (.lsub, 1) := by decide +kernel
theorem dX10_valueOf_208 : decode cX10_valueOf 208 = .ok (.invokevirtual 322, 3) := by decide +kernel
theorem dX10_valueOf_211 : decode cX10_valueOf 211 = .ok (.lreturn, 1) := by decide +kernel
theorem dX10_valueOf_212 : decode cX10_valueOf 212 = .ok (.aload_n 0, 1) := by decide +kernel
theorem dX10_valueOf_213 : decode cX10_valueOf 213 = .ok (.lload_n 2, 1) := by decide +kernel
theorem dX10_valueOf_214 : decode cX10_valueOf 214 = .ok (.lload 4, 2) := by decide +kernel
theorem dX10_valueOf_216 : decode cX10_valueOf 216 = .ok (.invokevirtual 326, 3) := by decide +kernel
theorem dX10_valueOf_219 : decode cX10_valueOf 219 = .ok (.lreturn, 1) := by decide +kernel
theorem dX10_valueOf_220 : decode cX10_valueOf 220 = .ok (.aload_n 0, 1) := by decide +kernel
theorem dX10_valueOf_221 : decode cX10_valueOf 221 = .ok (.aload_n 0, 1) := by decide +kernel
theorem dX10_valueOf_222 : decode cX10_valueOf 222 = .ok (.getfield 315, 3) := by decide +kernel
theorem dX10_valueOf_225 : decode cX10_valueOf 225 = .ok (.ifCond .ne 10, 3) := by decide +kernel
theorem dX10_valueOf_228 : decode cX10_valueOf 228 = .ok (.lload 4, 2) := by decide +kernel
theorem dX10_valueOf_230 : decode cX10_valueOf 230 = .ok (.lconst 0, 1) := by decide +kernel
theorem dX10_valueOf_231 : decode cX10_valueOf 231 = .ok (.lcmp, 1) := by decide +kernel
theorem dX10_valueOf_232 : decode cX10_valueOf 232 = .ok (.ifCond .ne 7, 3) := by decide +kernel
theorem dX10_valueOf_235 : decode cX10_valueOf 235 = .ok (.iconst 1, 1) := by decide +kernel
theorem dX10_valueOf_236 : decode cX10_valueOf 236 = .ok (.goto 4, 3) := by decide +kernel
theorem dX10_valueOf_239 : decode cX10_valueOf 239 = .ok (.iconst 0, 1) := by decide +kernel
theorem dX10_valueOf_240 : decode cX10_valueOf 240 = .ok (.putfield 315, 3) := by decide +kernel
theorem dX10_valueOf_243 : decode cX10_valueOf 243 = .ok (.aload_n 0, 1) := by decide +kernel
theorem dX10_valueOf_244 : decode cX10_valueOf 244 = .ok (.getfield 315, 3) := by decide +kernel
theorem dX10_valueOf_247 : decode cX10_valueOf 247 = .ok (.ifCond .eq 7, 3) := by decide +kernel
theorem dX10_valueOf_250 : decode cX10_valueOf 250 = .ok (.lconst 0, 1) := by decide +kernel
theorem dX10_valueOf_251 : decode cX10_valueOf 251 = .ok (.goto 7, 3) := by decide +kernel
theorem dX10_valueOf_254 : decode cX10_valueOf 254 = .ok (.lload_n 2, 1) := by decide +kernel
theorem dX10_valueOf_255 : decode cX10_valueOf 255 = .ok (.lload 4, 2) := by decide +kernel
theorem dX10_valueOf_257 : decode cX10_valueOf 257 = .ok (.ldiv, 1) := by decide +kernel
theorem dX10_valueOf_258 : decode cX10_valueOf 258 = .ok (.lreturn, 1) := by decide +kernel
theorem dX10_valueOf_259 : decode cX10_valueOf 259 = .ok (.aload_n 0, 1) := by decide +kernel
theorem dX10_valueOf_260 : decode cX10_valueOf 260 = .ok (.getfield 63, 3) := by decide +kernel
theorem dX10_valueOf_263 : decode cX10_valueOf 263 = .ok (.iload_n 1, 1) := by decide +kernel
theorem dX10_valueOf_264 : decode cX10_valueOf 264 = .ok (.iaload, 1) := by decide +kernel
theorem dX10_valueOf_265 : decode cX10_valueOf 265 = .ok (.lload_n 2, 1) := by decide +kernel
theorem dX10_valueOf_266 : decode cX10_valueOf 266 = .ok (.lload 4, 2) := by decide +kernel
theorem dX10_valueOf_268 : decode cX10_valueOf 268 = .ok (.invokestatic 330, 3) := by decide +kernel
theorem dX10_valueOf_271 : decode cX10_valueOf 271 = .ok (.ifCond .eq 7, 3) := by decide +kernel
theorem dX10_valueOf_274 : decode cX10_valueOf 274 = .ok (.lconst 1, 1) := by decide +kernel
theorem dX10_valueOf_275 : decode cX10_valueOf 275 = .ok (.goto 4, 3) := by decide +kernel
theorem dX10_valueOf_278 : decode cX10_valueOf 278 = .ok (.lconst 0, 1) := by decide +kernel
theorem dX10_valueOf_279 : decode cX10_valueOf 279 = .ok (.lreturn, 1) := by decide +kernel
theorem dX10_begin_0 : decode cX10_begin 0 = .ok (.aload_n 0, 1) := by decide +kernel
theorem dX10_begin_1 : decode cX10_begin 1 = .ok (.iconst 0, 1) := by decide +kernel
theorem dX10_begin_2 : decode cX10_begin 2 = .ok (.invokevirtual 334, 3) := by decide +kernel
theorem dX10_begin_5 : decode cX10_begin 5 = .ok (.aload_n 0, 1) := by decide +kernel
theorem dX10_begin_6 : decode cX10_begin 6 = .ok (.aload_n 0, 1) := by decide +kernel
theorem dX10_begin_7 : decode cX10_begin 7 = .ok (.getfield 24, 3) := by decide +kernel
theorem dX10_begin_10 : decode cX10_begin 10 = .ok (.iconst 2, 1) := by decide +kernel
theorem dX10_begin_11 : decode cX10_begin 11 = .ok (.iaload, 1) := by decide +kernel
theorem dX10_begin_12 : decode cX10_begin 12 = .ok (.i2l, 1) := by decide +kernel
theorem dX10_begin_13 : decode cX10_begin 13 = .ok (.putfield 337, 3) := by decide +kernel
theorem dX10_begin_16 : decode cX10_begin 16 = .ok (.aload_n 0, 1) := by decide +kernel
theorem dX10_begin_17 : decode cX10_begin 17 = .ok (.invokevirtual 341, 3) := by decide +kernel
theorem dX10_begin_20 : decode cX10_begin 20 = .ok (.aload_n 0, 1) := by decide +kernel
theorem dX10_begin_21 : decode cX10_begin 21 = .ok (.iconst 0, 1) := by decide +kernel
theorem dX10_begin_22 : decode cX10_begin 22 = .ok (.putfield 344, 3) := by decide +kernel
theorem dX10_begin_25 : decode cX10_begin 25 = .ok (.aload_n 0, 1) := by decide +kernel
theorem dX10_begin_26 : decode cX10_begin 26 = .ok (.iconst (-1), 1) := by decide +kernel
theorem dX10_begin_27 : decode cX10_begin 27 = .ok (.putfield 127, 3) := by decide +kernel
theorem dX10_begin_30 : decode cX10_begin 30 = .ok (.aload_n 0, 1) := by decide +kernel
theorem dX10_begin_31 : decode cX10_begin 31 = .ok (.iconst 0, 1) := by decide +kernel
theorem dX10_begin_32 : decode cX10_begin 32 = .ok (.putfield 347, 3) := by decide +kernel
theorem dX10_begin_35 : decode cX10_begin 35 = .ok (.aload_n 0, 1) := by decide +kernel
theorem dX10_begin_36 : decode cX10_begin 36 = .ok (.iconst 0, 1) := by decide +kernel
theorem dX10_begin_37 : decode cX10_begin 37 = .ok (.putfield 350, 3) := by decide +kernel
theorem dX10_begin_40 : decode cX10_begin 40 = .ok (.return_, 1) := by decide +kernel
theorem dX10_atFirst_0 : decode cX10_atFirst 0 = .ok (.iconst 0, 1) := by decide +kernel
theorem dX10_atFirst_1 : decode cX10_atFirst 1 = .ok (.istore_n 2, 1) := by decide +kernel
theorem dX10_atFirst_2 : decode cX10_atFirst 2 = .ok (.iload_n 2, 1) := by decide +kernel
theorem dX10_atFirst_3 : decode cX10_atFirst 3 = .ok (.bipush 6, 2) := by decide +kernel
theorem dX10_atFirst_5 : decode cX10_atFirst 5 = .ok (.if_icmp .ge 125, 3) := by decide +kernel
theorem dX10_atFirst_8 : decode cX10_atFirst 8 = .ok (.aload_n 0, 1) := by decide +kernel
theorem dX10_atFirst_9 : decode cX10_atFirst 9 = .ok (.getfield 85, 3) := by decide +kernel
theorem dX10_atFirst_12 : decode cX10_atFirst 12 = .ok (.bipush 6, 2) := by decide +kernel
theorem dX10_atFirst_14 : decode cX10_atFirst 14 = .ok (.iload_n 1, 1) := by decide +kernel
theorem dX10_atFirst_15 : decode cX10_atFirst 15 = .ok (.imul, 1) := by decide +kernel
theorem dX10_atFirst_16 : decode cX10_atFirst 16 = .ok (.iload_n 2, 1) := by decide +kernel
theorem dX10_atFirst_17 : decode cX10_atFirst 17 = .ok (.iadd, 1) := by decide +kernel
theorem dX10_atFirst_18 : decode cX10_atFirst 18 = .ok (.aload_n 0, 1) := by decide +kernel
theorem dX10_atFirst_19 : decode cX10_atFirst 19 = .ok (.getfield 30, 3) := by decide +kernel
theorem dX10_atFirst_22 : decode cX10_atFirst 22 = .ok (.iload_n 2, 1) := by decide +kernel
theorem dX10_atFirst_23 : decode cX10_atFirst 23 = .ok (.iaload, 1) := by decide +kernel
theorem dX10_atFirst_24 : decode cX10_atFirst 24 = .ok (.iastore, 1) := by decide +kernel
theorem dX10_atFirst_25 : decode cX10_atFirst 25 = .ok (.aload_n 0, 1) := by decide +kernel
theorem dX10_atFirst_26 : decode cX10_atFirst 26 = .ok (.getfield 88, 3) := by decide +kernel
theorem dX10_atFirst_29 : decode cX10_atFirst 29 = .ok (.bipush 6, 2) := by decide +kernel
theorem dX10_atFirst_31 : decode cX10_atFirst 31 = .ok (.iload_n 1, 1) := by decide +kernel
theorem dX10_atFirst_32 : decode cX10_atFirst 32 = .ok (.imul, 1) := by decide +kernel
theorem dX10_atFirst_33 : decode cX10_atFirst 33 = .ok (.iload_n 2, 1) := by decide +kernel
theorem dX10_atFirst_34 : decode cX10_atFirst 34 = .ok (.iadd, 1) := by decide +kernel
theorem dX10_atFirst_35 : decode cX10_atFirst 35 = .ok (.aload_n 0, 1) := by decide +kernel
theorem dX10_atFirst_36 : decode cX10_atFirst 36 = .ok (.getfield 39, 3) := by decide +kernel
theorem dX10_atFirst_39 : decode cX10_atFirst 39 = .ok (.iload_n 2, 1) := by decide +kernel
theorem dX10_atFirst_40 : decode cX10_atFirst 40 = .ok (.iaload, 1) := by decide +kernel
theorem dX10_atFirst_41 : decode cX10_atFirst 41 = .ok (.iastore, 1) := by decide +kernel
theorem dX10_atFirst_42 : decode cX10_atFirst 42 = .ok (.aload_n 0, 1) := by decide +kernel
theorem dX10_atFirst_43 : decode cX10_atFirst 43 = .ok (.getfield 91, 3) := by decide +kernel
theorem dX10_atFirst_46 : decode cX10_atFirst 46 = .ok (.bipush 6, 2) := by decide +kernel
theorem dX10_atFirst_48 : decode cX10_atFirst 48 = .ok (.iload_n 1, 1) := by decide +kernel
theorem dX10_atFirst_49 : decode cX10_atFirst 49 = .ok (.imul, 1) := by decide +kernel
theorem dX10_atFirst_50 : decode cX10_atFirst 50 = .ok (.iload_n 2, 1) := by decide +kernel
theorem dX10_atFirst_51 : decode cX10_atFirst 51 = .ok (.iadd, 1) := by decide +kernel
theorem dX10_atFirst_52 : decode cX10_atFirst 52 = .ok (.aload_n 0, 1) := by decide +kernel
theorem dX10_atFirst_53 : decode cX10_atFirst 53 = .ok (.getfield 42, 3) := by decide +kernel
theorem dX10_atFirst_56 : decode cX10_atFirst 56 = .ok (.iload_n 2, 1) := by decide +kernel
theorem dX10_atFirst_57 : decode cX10_atFirst 57 = .ok (.iaload, 1) := by decide +kernel
theorem dX10_atFirst_58 : decode cX10_atFirst 58 = .ok (.iastore, 1) := by decide +kernel
theorem dX10_atFirst_59 : decode cX10_atFirst 59 = .ok (.aload_n 0, 1) := by decide +kernel
theorem dX10_atFirst_60 : decode cX10_atFirst 60 = .ok (.getfield 94, 3) := by decide +kernel
theorem dX10_atFirst_63 : decode cX10_atFirst 63 = .ok (.bipush 6, 2) := by decide +kernel
theorem dX10_atFirst_65 : decode cX10_atFirst 65 = .ok (.iload_n 1, 1) := by decide +kernel
theorem dX10_atFirst_66 : decode cX10_atFirst 66 = .ok (.imul, 1) := by decide +kernel
theorem dX10_atFirst_67 : decode cX10_atFirst 67 = .ok (.iload_n 2, 1) := by decide +kernel
theorem dX10_atFirst_68 : decode cX10_atFirst 68 = .ok (.iadd, 1) := by decide +kernel
theorem dX10_atFirst_69 : decode cX10_atFirst 69 = .ok (.iconst 1, 1) := by decide +kernel
theorem dX10_atFirst_70 : decode cX10_atFirst 70 = .ok (.bastore, 1) := by decide +kernel
theorem dX10_atFirst_71 : decode cX10_atFirst 71 = .ok (.aload_n 0, 1) := by decide +kernel
theorem dX10_atFirst_72 : decode cX10_atFirst 72 = .ok (.getfield 97, 3) := by decide +kernel
theorem dX10_atFirst_75 : decode cX10_atFirst 75 = .ok (.bipush 6, 2) := by decide +kernel
theorem dX10_atFirst_77 : decode cX10_atFirst 77 = .ok (.iload_n 1, 1) := by decide +kernel
theorem dX10_atFirst_78 : decode cX10_atFirst 78 = .ok (.imul, 1) := by decide +kernel
theorem dX10_atFirst_79 : decode cX10_atFirst 79 = .ok (.iload_n 2, 1) := by decide +kernel
theorem dX10_atFirst_80 : decode cX10_atFirst 80 = .ok (.iadd, 1) := by decide +kernel
theorem dX10_atFirst_81 : decode cX10_atFirst 81 = .ok (.iconst 0, 1) := by decide +kernel
theorem dX10_atFirst_82 : decode cX10_atFirst 82 = .ok (.iastore, 1) := by decide +kernel
theorem dX10_atFirst_83 : decode cX10_atFirst 83 = .ok (.aload_n 0, 1) := by decide +kernel
theorem dX10_atFirst_84 : decode cX10_atFirst 84 = .ok (.getfield 100, 3) := by decide +kernel
theorem dX10_atFirst_87 : decode cX10_atFirst 87 = .ok (.bipush 6, 2) := by decide +kernel
theorem dX10_atFirst_89 : decode cX10_atFirst 89 = .ok (.iload_n 1, 1) := by decide +kernel
theorem dX10_atFirst_90 : decode cX10_atFirst 90 = .ok (.imul, 1) := by decide +kernel
theorem dX10_atFirst_91 : decode cX10_atFirst 91 = .ok (.iload_n 2, 1) := by decide +kernel
theorem dX10_atFirst_92 : decode cX10_atFirst 92 = .ok (.iadd, 1) := by decide +kernel
theorem dX10_atFirst_93 : decode cX10_atFirst 93 = .ok (.iconst (-1), 1) := by decide +kernel
theorem dX10_atFirst_94 : decode cX10_atFirst 94 = .ok (.iastore, 1) := by decide +kernel
theorem dX10_atFirst_95 : decode cX10_atFirst 95 = .ok (.aload_n 0, 1) := by decide +kernel
theorem dX10_atFirst_96 : decode cX10_atFirst 96 = .ok (.getfield 103, 3) := by decide +kernel
theorem dX10_atFirst_99 : decode cX10_atFirst 99 = .ok (.bipush 6, 2) := by decide +kernel
theorem dX10_atFirst_101 : decode cX10_atFirst 101 = .ok (.iload_n 1, 1) := by decide +kernel
theorem dX10_atFirst_102 : decode cX10_atFirst 102 = .ok (.imul, 1) := by decide +kernel
theorem dX10_atFirst_103 : decode cX10_atFirst 103 = .ok (.iload_n 2, 1) := by decide +kernel
theorem dX10_atFirst_104 : decode cX10_atFirst 104 = .ok (.iadd, 1) := by decide +kernel
theorem dX10_atFirst_105 : decode cX10_atFirst 105 = .ok (.aload_n 0, 1) := by decide +kernel
theorem dX10_atFirst_106 : decode cX10_atFirst 106 = .ok (.getfield 51, 3) := by decide +kernel
theorem dX10_atFirst_109 : decode cX10_atFirst 109 = .ok (.iload_n 2, 1) := by decide +kernel
theorem dX10_atFirst_110 : decode cX10_atFirst 110 = .ok (.iaload, 1) := by decide +kernel
theorem dX10_atFirst_111 : decode cX10_atFirst 111 = .ok (.iastore, 1) := by decide +kernel
theorem dX10_atFirst_112 : decode cX10_atFirst 112 = .ok (.aload_n 0, 1) := by decide +kernel
theorem dX10_atFirst_113 : decode cX10_atFirst 113 = .ok (.getfield 106, 3) := by decide +kernel
theorem dX10_atFirst_116 : decode cX10_atFirst 116 = .ok (.bipush 6, 2) := by decide +kernel
theorem dX10_atFirst_118 : decode cX10_atFirst 118 = .ok (.iload_n 1, 1) := by decide +kernel
theorem dX10_atFirst_119 : decode cX10_atFirst 119 = .ok (.imul, 1) := by decide +kernel
theorem dX10_atFirst_120 : decode cX10_atFirst 120 = .ok (.iload_n 2, 1) := by decide +kernel
theorem dX10_atFirst_121 : decode cX10_atFirst 121 = .ok (.iadd, 1) := by decide +kernel
theorem dX10_atFirst_122 : decode cX10_atFirst 122 = .ok (.iconst 1, 1) := by decide +kernel
theorem dX10_atFirst_123 : decode cX10_atFirst 123 = .ok (.bastore, 1) := by decide +kernel
theorem dX10_atFirst_124 : decode cX10_atFirst 124 = .ok (.iinc 2 1, 3) := by decide +kernel
theorem dX10_atFirst_127 : decode cX10_atFirst 127 = .ok (.goto (-125), 3) := by decide +kernel
theorem dX10_atFirst_130 : decode cX10_atFirst 130 = .ok (.aload_n 0, 1) := by decide +kernel
theorem dX10_atFirst_131 : decode cX10_atFirst 131 = .ok (.getfield 109, 3) := by decide +kernel
theorem dX10_atFirst_134 : decode cX10_atFirst 134 = .ok (.iload_n 1, 1) := by decide +kernel
theorem dX10_atFirst_135 : decode cX10_atFirst 135 = .ok (.aload_n 0, 1) := by decide +kernel
theorem dX10_atFirst_136 : decode cX10_atFirst 136 = .ok (.getfield 24, 3) := by decide +kernel
theorem dX10_atFirst_139 : decode cX10_atFirst 139 = .ok (.iconst 1, 1) := by decide +kernel
theorem dX10_atFirst_140 : decode cX10_atFirst 140 = .ok (.iaload, 1) := by decide +kernel
theorem dX10_atFirst_141 : decode cX10_atFirst 141 = .ok (.iastore, 1) := by decide +kernel
theorem dX10_atFirst_142 : decode cX10_atFirst 142 = .ok (.aload_n 0, 1) := by decide +kernel
theorem dX10_atFirst_143 : decode cX10_atFirst 143 = .ok (.getfield 112, 3) := by decide +kernel
theorem dX10_atFirst_146 : decode cX10_atFirst 146 = .ok (.iload_n 1, 1) := by decide +kernel
theorem dX10_atFirst_147 : decode cX10_atFirst 147 = .ok (.iconst (-1), 1) := by decide +kernel
theorem dX10_atFirst_148 : decode cX10_atFirst 148 = .ok (.iastore, 1) := by decide +kernel
theorem dX10_atFirst_149 : decode cX10_atFirst 149 = .ok (.aload_n 0, 1) := by decide +kernel
theorem dX10_atFirst_150 : decode cX10_atFirst 150 = .ok (.getfield 115, 3) := by decide +kernel
theorem dX10_atFirst_153 : decode cX10_atFirst 153 = .ok (.iload_n 1, 1) := by decide +kernel
theorem dX10_atFirst_154 : decode cX10_atFirst 154 = .ok (.iconst 0, 1) := by decide +kernel
theorem dX10_atFirst_155 : decode cX10_atFirst 155 = .ok (.iastore, 1) := by decide +kernel
theorem dX10_atFirst_156 : decode cX10_atFirst 156 = .ok (.aload_n 0, 1) := by decide +kernel
theorem dX10_atFirst_157 : decode cX10_atFirst 157 = .ok (.getfield 118, 3) := by decide +kernel
theorem dX10_atFirst_160 : decode cX10_atFirst 160 = .ok (.iload_n 1, 1) := by decide +kernel
theorem dX10_atFirst_161 : decode cX10_atFirst 161 = .ok (.iconst 0, 1) := by decide +kernel
theorem dX10_atFirst_162 : decode cX10_atFirst 162 = .ok (.bastore, 1) := by decide +kernel
theorem dX10_atFirst_163 : decode cX10_atFirst 163 = .ok (.aload_n 0, 1) := by decide +kernel
theorem dX10_atFirst_164 : decode cX10_atFirst 164 = .ok (.getfield 121, 3) := by decide +kernel
theorem dX10_atFirst_167 : decode cX10_atFirst 167 = .ok (.iload_n 1, 1) := by decide +kernel
theorem dX10_atFirst_168 : decode cX10_atFirst 168 = .ok (.iconst 0, 1) := by decide +kernel
theorem dX10_atFirst_169 : decode cX10_atFirst 169 = .ok (.iastore, 1) := by decide +kernel
theorem dX10_atFirst_170 : decode cX10_atFirst 170 = .ok (.aload_n 0, 1) := by decide +kernel
theorem dX10_atFirst_171 : decode cX10_atFirst 171 = .ok (.getfield 124, 3) := by decide +kernel
theorem dX10_atFirst_174 : decode cX10_atFirst 174 = .ok (.iload_n 1, 1) := by decide +kernel
theorem dX10_atFirst_175 : decode cX10_atFirst 175 = .ok (.iconst 0, 1) := by decide +kernel
theorem dX10_atFirst_176 : decode cX10_atFirst 176 = .ok (.iastore, 1) := by decide +kernel
theorem dX10_atFirst_177 : decode cX10_atFirst 177 = .ok (.return_, 1) := by decide +kernel
theorem dX10_plainTried_0 : decode cX10_plainTried 0 = .ok (.aload_n 0, 1) := by decide +kernel
theorem dX10_plainTried_1 : decode cX10_plainTried 1 = .ok (.iconst 0, 1) := by decide +kernel
theorem dX10_plainTried_2 : decode cX10_plainTried 2 = .ok (.putfield 353, 3) := by decide +kernel
theorem dX10_plainTried_5 : decode cX10_plainTried 5 = .ok (.aload_n 0, 1) := by decide +kernel
theorem dX10_plainTried_6 : decode cX10_plainTried 6 = .ok (.iconst 0, 1) := by decide +kernel
theorem dX10_plainTried_7 : decode cX10_plainTried 7 = .ok (.putfield 356, 3) := by decide +kernel
theorem dX10_plainTried_10 : decode cX10_plainTried 10 = .ok (.aload_n 0, 1) := by decide +kernel
theorem dX10_plainTried_11 : decode cX10_plainTried 11 = .ok (.iconst 0, 1) := by decide +kernel
theorem dX10_plainTried_12 : decode cX10_plainTried 12 = .ok (.putfield 359, 3) := by decide +kernel
theorem dX10_plainTried_15 : decode cX10_plainTried 15 = .ok (.aload_n 0, 1) := by decide +kernel
theorem dX10_plainTried_16 : decode cX10_plainTried 16 = .ok (.iconst 0, 1) := by decide +kernel
theorem dX10_plainTried_17 : decode cX10_plainTried 17 = .ok (.putfield 362, 3) := by decide +kernel
theorem dX10_plainTried_20 : decode cX10_plainTried 20 = .ok (.aload_n 0, 1) := by decide +kernel
theorem dX10_plainTried_21 : decode cX10_plainTried 21 = .ok (.iconst 0, 1) := by decide +kernel
theorem dX10_plainTried_22 : decode cX10_plainTried 22 = .ok (.putfield 365, 3) := by decide +kernel
theorem dX10_plainTried_25 : decode cX10_plainTried 25 = .ok (.return_, 1) := by decide +kernel
theorem dX10_layTried_0 : decode cX10_layTried 0 = .ok (.iconst 0, 1) := by decide +kernel
theorem dX10_layTried_1 : decode cX10_layTried 1 = .ok (.istore_n 1, 1) := by decide +kernel
theorem dX10_layTried_2 : decode cX10_layTried 2 = .ok (.iload_n 1, 1) := by decide +kernel
theorem dX10_layTried_3 : decode cX10_layTried 3 = .ok (.bipush 6, 2) := by decide +kernel
theorem dX10_layTried_5 : decode cX10_layTried 5 = .ok (.if_icmp .ge 129, 3) := by decide +kernel
theorem dX10_layTried_8 : decode cX10_layTried 8 = .ok (.aload_n 0, 1) := by decide +kernel
theorem dX10_layTried_9 : decode cX10_layTried 9 = .ok (.getfield 85, 3) := by decide +kernel
theorem dX10_layTried_12 : decode cX10_layTried 12 = .ok (.bipush 6, 2) := by decide +kernel
theorem dX10_layTried_14 : decode cX10_layTried 14 = .ok (.iload_n 1, 1) := by decide +kernel
theorem dX10_layTried_15 : decode cX10_layTried 15 = .ok (.iadd, 1) := by decide +kernel
theorem dX10_layTried_16 : decode cX10_layTried 16 = .ok (.aload_n 0, 1) := by decide +kernel
theorem dX10_layTried_17 : decode cX10_layTried 17 = .ok (.getfield 85, 3) := by decide +kernel
theorem dX10_layTried_20 : decode cX10_layTried 20 = .ok (.iload_n 1, 1) := by decide +kernel
theorem dX10_layTried_21 : decode cX10_layTried 21 = .ok (.iaload, 1) := by decide +kernel
theorem dX10_layTried_22 : decode cX10_layTried 22 = .ok (.iastore, 1) := by decide +kernel
theorem dX10_layTried_23 : decode cX10_layTried 23 = .ok (.aload_n 0, 1) := by decide +kernel
theorem dX10_layTried_24 : decode cX10_layTried 24 = .ok (.getfield 88, 3) := by decide +kernel
theorem dX10_layTried_27 : decode cX10_layTried 27 = .ok (.bipush 6, 2) := by decide +kernel
theorem dX10_layTried_29 : decode cX10_layTried 29 = .ok (.iload_n 1, 1) := by decide +kernel
theorem dX10_layTried_30 : decode cX10_layTried 30 = .ok (.iadd, 1) := by decide +kernel
theorem dX10_layTried_31 : decode cX10_layTried 31 = .ok (.aload_n 0, 1) := by decide +kernel
theorem dX10_layTried_32 : decode cX10_layTried 32 = .ok (.getfield 88, 3) := by decide +kernel
theorem dX10_layTried_35 : decode cX10_layTried 35 = .ok (.iload_n 1, 1) := by decide +kernel
theorem dX10_layTried_36 : decode cX10_layTried 36 = .ok (.iaload, 1) := by decide +kernel
theorem dX10_layTried_37 : decode cX10_layTried 37 = .ok (.iastore, 1) := by decide +kernel
theorem dX10_layTried_38 : decode cX10_layTried 38 = .ok (.aload_n 0, 1) := by decide +kernel
theorem dX10_layTried_39 : decode cX10_layTried 39 = .ok (.getfield 91, 3) := by decide +kernel
theorem dX10_layTried_42 : decode cX10_layTried 42 = .ok (.bipush 6, 2) := by decide +kernel
theorem dX10_layTried_44 : decode cX10_layTried 44 = .ok (.iload_n 1, 1) := by decide +kernel
theorem dX10_layTried_45 : decode cX10_layTried 45 = .ok (.iadd, 1) := by decide +kernel
theorem dX10_layTried_46 : decode cX10_layTried 46 = .ok (.aload_n 0, 1) := by decide +kernel
theorem dX10_layTried_47 : decode cX10_layTried 47 = .ok (.getfield 91, 3) := by decide +kernel
theorem dX10_layTried_50 : decode cX10_layTried 50 = .ok (.iload_n 1, 1) := by decide +kernel
theorem dX10_layTried_51 : decode cX10_layTried 51 = .ok (.iaload, 1) := by decide +kernel
theorem dX10_layTried_52 : decode cX10_layTried 52 = .ok (.iastore, 1) := by decide +kernel
theorem dX10_layTried_53 : decode cX10_layTried 53 = .ok (.aload_n 0, 1) := by decide +kernel
theorem dX10_layTried_54 : decode cX10_layTried 54 = .ok (.getfield 94, 3) := by decide +kernel
theorem dX10_layTried_57 : decode cX10_layTried 57 = .ok (.bipush 6, 2) := by decide +kernel
theorem dX10_layTried_59 : decode cX10_layTried 59 = .ok (.iload_n 1, 1) := by decide +kernel
theorem dX10_layTried_60 : decode cX10_layTried 60 = .ok (.iadd, 1) := by decide +kernel
theorem dX10_layTried_61 : decode cX10_layTried 61 = .ok (.aload_n 0, 1) := by decide +kernel
theorem dX10_layTried_62 : decode cX10_layTried 62 = .ok (.getfield 94, 3) := by decide +kernel
theorem dX10_layTried_65 : decode cX10_layTried 65 = .ok (.iload_n 1, 1) := by decide +kernel
theorem dX10_layTried_66 : decode cX10_layTried 66 = .ok (.baload, 1) := by decide +kernel
theorem dX10_layTried_67 : decode cX10_layTried 67 = .ok (.bastore, 1) := by decide +kernel
theorem dX10_layTried_68 : decode cX10_layTried 68 = .ok (.aload_n 0, 1) := by decide +kernel
theorem dX10_layTried_69 : decode cX10_layTried 69 = .ok (.getfield 97, 3) := by decide +kernel
theorem dX10_layTried_72 : decode cX10_layTried 72 = .ok (.bipush 6, 2) := by decide +kernel
theorem dX10_layTried_74 : decode cX10_layTried 74 = .ok (.iload_n 1, 1) := by decide +kernel
theorem dX10_layTried_75 : decode cX10_layTried 75 = .ok (.iadd, 1) := by decide +kernel
theorem dX10_layTried_76 : decode cX10_layTried 76 = .ok (.aload_n 0, 1) := by decide +kernel
theorem dX10_layTried_77 : decode cX10_layTried 77 = .ok (.getfield 97, 3) := by decide +kernel
theorem dX10_layTried_80 : decode cX10_layTried 80 = .ok (.iload_n 1, 1) := by decide +kernel
theorem dX10_layTried_81 : decode cX10_layTried 81 = .ok (.iaload, 1) := by decide +kernel
theorem dX10_layTried_82 : decode cX10_layTried 82 = .ok (.iastore, 1) := by decide +kernel
theorem dX10_layTried_83 : decode cX10_layTried 83 = .ok (.aload_n 0, 1) := by decide +kernel
theorem dX10_layTried_84 : decode cX10_layTried 84 = .ok (.getfield 100, 3) := by decide +kernel
theorem dX10_layTried_87 : decode cX10_layTried 87 = .ok (.bipush 6, 2) := by decide +kernel
theorem dX10_layTried_89 : decode cX10_layTried 89 = .ok (.iload_n 1, 1) := by decide +kernel
theorem dX10_layTried_90 : decode cX10_layTried 90 = .ok (.iadd, 1) := by decide +kernel
theorem dX10_layTried_91 : decode cX10_layTried 91 = .ok (.aload_n 0, 1) := by decide +kernel
theorem dX10_layTried_92 : decode cX10_layTried 92 = .ok (.getfield 100, 3) := by decide +kernel
theorem dX10_layTried_95 : decode cX10_layTried 95 = .ok (.iload_n 1, 1) := by decide +kernel
theorem dX10_layTried_96 : decode cX10_layTried 96 = .ok (.iaload, 1) := by decide +kernel
theorem dX10_layTried_97 : decode cX10_layTried 97 = .ok (.iastore, 1) := by decide +kernel
theorem dX10_layTried_98 : decode cX10_layTried 98 = .ok (.aload_n 0, 1) := by decide +kernel
theorem dX10_layTried_99 : decode cX10_layTried 99 = .ok (.getfield 103, 3) := by decide +kernel
theorem dX10_layTried_102 : decode cX10_layTried 102 = .ok (.bipush 6, 2) := by decide +kernel
theorem dX10_layTried_104 : decode cX10_layTried 104 = .ok (.iload_n 1, 1) := by decide +kernel
theorem dX10_layTried_105 : decode cX10_layTried 105 = .ok (.iadd, 1) := by decide +kernel
theorem dX10_layTried_106 : decode cX10_layTried 106 = .ok (.aload_n 0, 1) := by decide +kernel
theorem dX10_layTried_107 : decode cX10_layTried 107 = .ok (.getfield 103, 3) := by decide +kernel
theorem dX10_layTried_110 : decode cX10_layTried 110 = .ok (.iload_n 1, 1) := by decide +kernel
theorem dX10_layTried_111 : decode cX10_layTried 111 = .ok (.iaload, 1) := by decide +kernel
theorem dX10_layTried_112 : decode cX10_layTried 112 = .ok (.iastore, 1) := by decide +kernel
theorem dX10_layTried_113 : decode cX10_layTried 113 = .ok (.aload_n 0, 1) := by decide +kernel
theorem dX10_layTried_114 : decode cX10_layTried 114 = .ok (.getfield 106, 3) := by decide +kernel
theorem dX10_layTried_117 : decode cX10_layTried 117 = .ok (.bipush 6, 2) := by decide +kernel
theorem dX10_layTried_119 : decode cX10_layTried 119 = .ok (.iload_n 1, 1) := by decide +kernel
theorem dX10_layTried_120 : decode cX10_layTried 120 = .ok (.iadd, 1) := by decide +kernel
theorem dX10_layTried_121 : decode cX10_layTried 121 = .ok (.aload_n 0, 1) := by decide +kernel
theorem dX10_layTried_122 : decode cX10_layTried 122 = .ok (.getfield 106, 3) := by decide +kernel
theorem dX10_layTried_125 : decode cX10_layTried 125 = .ok (.iload_n 1, 1) := by decide +kernel
theorem dX10_layTried_126 : decode cX10_layTried 126 = .ok (.baload, 1) := by decide +kernel
theorem dX10_layTried_127 : decode cX10_layTried 127 = .ok (.bastore, 1) := by decide +kernel
theorem dX10_layTried_128 : decode cX10_layTried 128 = .ok (.iinc 1 1, 3) := by decide +kernel
theorem dX10_layTried_131 : decode cX10_layTried 131 = .ok (.goto (-129), 3) := by decide +kernel
theorem dX10_layTried_134 : decode cX10_layTried 134 = .ok (.aload_n 0, 1) := by decide +kernel
theorem dX10_layTried_135 : decode cX10_layTried 135 = .ok (.getfield 109, 3) := by decide +kernel
theorem dX10_layTried_138 : decode cX10_layTried 138 = .ok (.iconst 1, 1) := by decide +kernel
theorem dX10_layTried_139 : decode cX10_layTried 139 = .ok (.aload_n 0, 1) := by decide +kernel
theorem dX10_layTried_140 : decode cX10_layTried 140 = .ok (.getfield 109, 3) := by decide +kernel
theorem dX10_layTried_143 : decode cX10_layTried 143 = .ok (.iconst 0, 1) := by decide +kernel
theorem dX10_layTried_144 : decode cX10_layTried 144 = .ok (.iaload, 1) := by decide +kernel
theorem dX10_layTried_145 : decode cX10_layTried 145 = .ok (.iastore, 1) := by decide +kernel
theorem dX10_layTried_146 : decode cX10_layTried 146 = .ok (.aload_n 0, 1) := by decide +kernel
theorem dX10_layTried_147 : decode cX10_layTried 147 = .ok (.getfield 112, 3) := by decide +kernel
theorem dX10_layTried_150 : decode cX10_layTried 150 = .ok (.iconst 1, 1) := by decide +kernel
theorem dX10_layTried_151 : decode cX10_layTried 151 = .ok (.aload_n 0, 1) := by decide +kernel
theorem dX10_layTried_152 : decode cX10_layTried 152 = .ok (.getfield 112, 3) := by decide +kernel
theorem dX10_layTried_155 : decode cX10_layTried 155 = .ok (.iconst 0, 1) := by decide +kernel
theorem dX10_layTried_156 : decode cX10_layTried 156 = .ok (.iaload, 1) := by decide +kernel
theorem dX10_layTried_157 : decode cX10_layTried 157 = .ok (.iastore, 1) := by decide +kernel
theorem dX10_layTried_158 : decode cX10_layTried 158 = .ok (.aload_n 0, 1) := by decide +kernel
theorem dX10_layTried_159 : decode cX10_layTried 159 = .ok (.getfield 115, 3) := by decide +kernel
theorem dX10_layTried_162 : decode cX10_layTried 162 = .ok (.iconst 1, 1) := by decide +kernel
theorem dX10_layTried_163 : decode cX10_layTried 163 = .ok (.aload_n 0, 1) := by decide +kernel
theorem dX10_layTried_164 : decode cX10_layTried 164 = .ok (.getfield 115, 3) := by decide +kernel
theorem dX10_layTried_167 : decode cX10_layTried 167 = .ok (.iconst 0, 1) := by decide +kernel
theorem dX10_layTried_168 : decode cX10_layTried 168 = .ok (.iaload, 1) := by decide +kernel
theorem dX10_layTried_169 : decode cX10_layTried 169 = .ok (.iastore, 1) := by decide +kernel
theorem dX10_layTried_170 : decode cX10_layTried 170 = .ok (.aload_n 0, 1) := by decide +kernel
theorem dX10_layTried_171 : decode cX10_layTried 171 = .ok (.getfield 118, 3) := by decide +kernel
theorem dX10_layTried_174 : decode cX10_layTried 174 = .ok (.iconst 1, 1) := by decide +kernel
theorem dX10_layTried_175 : decode cX10_layTried 175 = .ok (.aload_n 0, 1) := by decide +kernel
theorem dX10_layTried_176 : decode cX10_layTried 176 = .ok (.getfield 118, 3) := by decide +kernel
theorem dX10_layTried_179 : decode cX10_layTried 179 = .ok (.iconst 0, 1) := by decide +kernel
theorem dX10_layTried_180 : decode cX10_layTried 180 = .ok (.baload, 1) := by decide +kernel
theorem dX10_layTried_181 : decode cX10_layTried 181 = .ok (.bastore, 1) := by decide +kernel
theorem dX10_layTried_182 : decode cX10_layTried 182 = .ok (.aload_n 0, 1) := by decide +kernel
theorem dX10_layTried_183 : decode cX10_layTried 183 = .ok (.getfield 121, 3) := by decide +kernel
theorem dX10_layTried_186 : decode cX10_layTried 186 = .ok (.iconst 1, 1) := by decide +kernel
theorem dX10_layTried_187 : decode cX10_layTried 187 = .ok (.aload_n 0, 1) := by decide +kernel
theorem dX10_layTried_188 : decode cX10_layTried 188 = .ok (.getfield 121, 3) := by decide +kernel
theorem dX10_layTried_191 : decode cX10_layTried 191 = .ok (.iconst 0, 1) := by decide +kernel
theorem dX10_layTried_192 : decode cX10_layTried 192 = .ok (.iaload, 1) := by decide +kernel
theorem dX10_layTried_193 : decode cX10_layTried 193 = .ok (.iastore, 1) := by decide +kernel
theorem dX10_layTried_194 : decode cX10_layTried 194 = .ok (.aload_n 0, 1) := by decide +kernel
theorem dX10_layTried_195 : decode cX10_layTried 195 = .ok (.getfield 124, 3) := by decide +kernel
theorem dX10_layTried_198 : decode cX10_layTried 198 = .ok (.iconst 1, 1) := by decide +kernel
theorem dX10_layTried_199 : decode cX10_layTried 199 = .ok (.aload_n 0, 1) := by decide +kernel
theorem dX10_layTried_200 : decode cX10_layTried 200 = .ok (.getfield 124, 3) := by decide +kernel
theorem dX10_layTried_203 : decode cX10_layTried 203 = .ok (.iconst 0, 1) := by decide +kernel
theorem dX10_layTried_204 : decode cX10_layTried 204 = .ok (.iaload, 1) := by decide +kernel
theorem dX10_layTried_205 : decode cX10_layTried 205 = .ok (.iastore, 1) := by decide +kernel
theorem dX10_layTried_206 : decode cX10_layTried 206 = .ok (.aload_n 0, 1) := by decide +kernel
theorem dX10_layTried_207 : decode cX10_layTried 207 = .ok (.invokevirtual 341, 3) := by decide +kernel
theorem dX10_layTried_210 : decode cX10_layTried 210 = .ok (.return_, 1) := by decide +kernel
theorem dX10_isHouse_0 : decode cX10_isHouse 0 = .ok (.iload_n 1, 1) := by decide +kernel
theorem dX10_isHouse_1 : decode cX10_isHouse 1 = .ok (.ifCond .lt 15, 3) := by decide +kernel
theorem dX10_isHouse_4 : decode cX10_isHouse 4 = .ok (.iload_n 1, 1) := by decide +kernel
theorem dX10_isHouse_5 : decode cX10_isHouse 5 = .ok (.aload_n 0, 1) := by decide +kernel
theorem dX10_isHouse_6 : decode cX10_isHouse 6 = .ok (.getfield 225, 3) := by decide +kernel
theorem dX10_isHouse_9 : decode cX10_isHouse 9 = .ok (.if_icmp .ge 7, 3) := by decide +kernel
theorem dX10_isHouse_12 : decode cX10_isHouse 12 = .ok (.iconst 1, 1) := by decide +kernel
theorem dX10_isHouse_13 : decode cX10_isHouse 13 = .ok (.goto 4, 3) := by decide +kernel
theorem dX10_isHouse_16 : decode cX10_isHouse 16 = .ok (.iconst 0, 1) := by decide +kernel
theorem dX10_isHouse_17 : decode cX10_isHouse 17 = .ok (.ireturn, 1) := by decide +kernel
theorem dX10_isOn_0 : decode cX10_isOn 0 = .ok (.iload_n 2, 1) := by decide +kernel
theorem dX10_isOn_1 : decode cX10_isOn 1 = .ok (.aload_n 0, 1) := by decide +kernel
theorem dX10_isOn_2 : decode cX10_isOn 2 = .ok (.getfield 225, 3) := by decide +kernel
theorem dX10_isOn_5 : decode cX10_isOn 5 = .ok (.if_icmp .ge 21, 3) := by decide +kernel
theorem dX10_isOn_8 : decode cX10_isOn 8 = .ok (.aload_n 0, 1) := by decide +kernel
theorem dX10_isOn_9 : decode cX10_isOn 9 = .ok (.getfield 94, 3) := by decide +kernel
theorem dX10_isOn_12 : decode cX10_isOn 12 = .ok (.bipush 6, 2) := by decide +kernel
theorem dX10_isOn_14 : decode cX10_isOn 14 = .ok (.iload_n 1, 1) := by decide +kernel
theorem dX10_isOn_15 : decode cX10_isOn 15 = .ok (.imul, 1) := by decide +kernel
theorem dX10_isOn_16 : decode cX10_isOn 16 = .ok (.iload_n 2, 1) := by decide +kernel
theorem dX10_isOn_17 : decode cX10_isOn 17 = .ok (.iadd, 1) := by decide +kernel
theorem dX10_isOn_18 : decode cX10_isOn 18 = .ok (.baload, 1) := by decide +kernel
theorem dX10_isOn_19 : decode cX10_isOn 19 = .ok (.ifCond .eq 7, 3) := by decide +kernel
theorem dX10_isOn_22 : decode cX10_isOn 22 = .ok (.iconst 1, 1) := by decide +kernel
theorem dX10_isOn_23 : decode cX10_isOn 23 = .ok (.goto 4, 3) := by decide +kernel
theorem dX10_isOn_26 : decode cX10_isOn 26 = .ok (.iconst 0, 1) := by decide +kernel
theorem dX10_isOn_27 : decode cX10_isOn 27 = .ok (.ireturn, 1) := by decide +kernel
theorem dX10_isOnNow_0 : decode cX10_isOnNow 0 = .ok (.aload_n 0, 1) := by decide +kernel
theorem dX10_isOnNow_1 : decode cX10_isOnNow 1 = .ok (.iload_n 1, 1) := by decide +kernel
theorem dX10_isOnNow_2 : decode cX10_isOnNow 2 = .ok (.invokevirtual 368, 3) := by decide +kernel
theorem dX10_isOnNow_5 : decode cX10_isOnNow 5 = .ok (.ifCond .eq 16, 3) := by decide +kernel
theorem dX10_isOnNow_8 : decode cX10_isOnNow 8 = .ok (.aload_n 0, 1) := by decide +kernel
theorem dX10_isOnNow_9 : decode cX10_isOnNow 9 = .ok (.getfield 94, 3) := by decide +kernel
theorem dX10_isOnNow_12 : decode cX10_isOnNow 12 = .ok (.iload_n 1, 1) := by decide +kernel
theorem dX10_isOnNow_13 : decode cX10_isOnNow 13 = .ok (.baload, 1) := by decide +kernel
theorem dX10_isOnNow_14 : decode cX10_isOnNow 14 = .ok (.ifCond .eq 7, 3) := by decide +kernel
theorem dX10_isOnNow_17 : decode cX10_isOnNow 17 = .ok (.iconst 1, 1) := by decide +kernel
theorem dX10_isOnNow_18 : decode cX10_isOnNow 18 = .ok (.goto 4, 3) := by decide +kernel
theorem dX10_isOnNow_21 : decode cX10_isOnNow 21 = .ok (.iconst 0, 1) := by decide +kernel
theorem dX10_isOnNow_22 : decode cX10_isOnNow 22 = .ok (.ireturn, 1) := by decide +kernel
theorem dX10_stepOf_0 : decode cX10_stepOf 0 = .ok (.aload_n 0, 1) := by decide +kernel
theorem dX10_stepOf_1 : decode cX10_stepOf 1 = .ok (.getfield 362, 3) := by decide +kernel
theorem dX10_stepOf_4 : decode cX10_stepOf 4 = .ok (.ifCond .eq 7, 3) := by decide +kernel
theorem dX10_stepOf_7 : decode cX10_stepOf 7 = .ok (.iconst 1, 1) := by decide +kernel
theorem dX10_stepOf_8 : decode cX10_stepOf 8 = .ok (.goto 9, 3) := by decide +kernel
theorem dX10_stepOf_11 : decode cX10_stepOf 11 = .ok (.aload_n 0, 1) := by decide +kernel
theorem dX10_stepOf_12 : decode cX10_stepOf 12 = .ok (.getfield 36, 3) := by decide +kernel
theorem dX10_stepOf_15 : decode cX10_stepOf 15 = .ok (.iload_n 1, 1) := by decide +kernel
theorem dX10_stepOf_16 : decode cX10_stepOf 16 = .ok (.iaload, 1) := by decide +kernel
