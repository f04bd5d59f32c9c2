theorem dX10_against_38 : decode cX10_against 38 = .ok (.ifCond .ne 7, 3) := by decide +kernel
theorem dX10_against_41 : decode cX10_against 41 = .ok (.iload_n 1, 1) := by decide +kernel
theorem dX10_against_42 : decode cX10_against 42 = .ok (.goto 4, 3) := by decide +kernel
theorem dX10_against_45 : decode cX10_against 45 = .ok (.iload_n 2, 1) := by decide +kernel
theorem dX10_against_46 : decode cX10_against 46 = .ok (.istore 6, 2) := by decide +kernel
theorem dX10_against_48 : decode cX10_against 48 = .ok (.iload 4, 2) := by decide +kernel
theorem dX10_against_50 : decode cX10_against 50 = .ok (.aload_n 0, 1) := by decide +kernel
theorem dX10_against_51 : decode cX10_against 51 = .ok (.getfield 36, 3) := by decide +kernel
theorem dX10_against_54 : decode cX10_against 54 = .ok (.iload 6, 2) := by decide +kernel
theorem dX10_against_56 : decode cX10_against 56 = .ok (.iaload, 1) := by decide +kernel
theorem dX10_against_57 : decode cX10_against 57 = .ok (.iadd, 1) := by decide +kernel
theorem dX10_against_58 : decode cX10_against 58 = .ok (.istore 7, 2) := by decide +kernel
theorem dX10_against_60 : decode cX10_against 60 = .ok (.iload 7, 2) := by decide +kernel
theorem dX10_against_62 : decode cX10_against 62 = .ok (.aload_n 0, 1) := by decide +kernel
theorem dX10_against_63 : decode cX10_against 63 = .ok (.getfield 85, 3) := by decide +kernel
theorem dX10_against_66 : decode cX10_against 66 = .ok (.iload 6, 2) := by decide +kernel
theorem dX10_against_68 : decode cX10_against 68 = .ok (.iaload, 1) := by decide +kernel
theorem dX10_against_69 : decode cX10_against 69 = .ok (.if_icmp .gt 15, 3) := by decide +kernel
theorem dX10_against_72 : decode cX10_against 72 = .ok (.iload 7, 2) := by decide +kernel
theorem dX10_against_74 : decode cX10_against 74 = .ok (.aload_n 0, 1) := by decide +kernel
theorem dX10_against_75 : decode cX10_against 75 = .ok (.getfield 33, 3) := by decide +kernel
theorem dX10_against_78 : decode cX10_against 78 = .ok (.iload 6, 2) := by decide +kernel
theorem dX10_against_80 : decode cX10_against 80 = .ok (.iaload, 1) := by decide +kernel
theorem dX10_against_81 : decode cX10_against 81 = .ok (.if_icmp .lt 17, 3) := by decide +kernel
theorem dX10_against_84 : decode cX10_against 84 = .ok (.iload_n 3, 1) := by decide +kernel
theorem dX10_against_85 : decode cX10_against 85 = .ok (.ifCond .ne 10, 3) := by decide +kernel
theorem dX10_against_88 : decode cX10_against 88 = .ok (.iconst 1, 1) := by decide +kernel
theorem dX10_against_89 : decode cX10_against 89 = .ok (.iload 5, 2) := by decide +kernel
theorem dX10_against_91 : decode cX10_against 91 = .ok (.isub, 1) := by decide +kernel
theorem dX10_against_92 : decode cX10_against 92 = .ok (.goto 5, 3) := by decide +kernel
theorem dX10_against_95 : decode cX10_against 95 = .ok (.iload 4, 2) := by decide +kernel
theorem dX10_against_97 : decode cX10_against 97 = .ok (.ireturn, 1) := by decide +kernel
theorem dX10_against_98 : decode cX10_against 98 = .ok (.iload 7, 2) := by decide +kernel
theorem dX10_against_100 : decode cX10_against 100 = .ok (.istore 4, 2) := by decide +kernel
theorem dX10_against_102 : decode cX10_against 102 = .ok (.iconst 1, 1) := by decide +kernel
theorem dX10_against_103 : decode cX10_against 103 = .ok (.iload 5, 2) := by decide +kernel
theorem dX10_against_105 : decode cX10_against 105 = .ok (.isub, 1) := by decide +kernel
theorem dX10_against_106 : decode cX10_against 106 = .ok (.istore 5, 2) := by decide +kernel
theorem dX10_against_108 : decode cX10_against 108 = .ok (.goto (-72), 3) := by decide +kernel
theorem dX10_hasOf_0 : decode cX10_hasOf 0 = .ok (.aload_n 0, 1) := by decide +kernel
theorem dX10_hasOf_1 : decode cX10_hasOf 1 = .ok (.iload_n 1, 1) := by decide +kernel
theorem dX10_hasOf_2 : decode cX10_hasOf 2 = .ok (.invokevirtual 471, 3) := by decide +kernel
theorem dX10_hasOf_5 : decode cX10_hasOf 5 = .ok (.aload_n 0, 1) := by decide +kernel
theorem dX10_hasOf_6 : decode cX10_hasOf 6 = .ok (.getfield 109, 3) := by decide +kernel
theorem dX10_hasOf_9 : decode cX10_hasOf 9 = .ok (.iconst 0, 1) := by decide +kernel
theorem dX10_hasOf_10 : decode cX10_hasOf 10 = .ok (.iaload, 1) := by decide +kernel
theorem dX10_hasOf_11 : decode cX10_hasOf 11 = .ok (.aload_n 0, 1) := by decide +kernel
theorem dX10_hasOf_12 : decode cX10_hasOf 12 = .ok (.iload_n 1, 1) := by decide +kernel
theorem dX10_hasOf_13 : decode cX10_hasOf 13 = .ok (.invokevirtual 474, 3) := by decide +kernel
theorem dX10_hasOf_16 : decode cX10_hasOf 16 = .ok (.iadd, 1) := by decide +kernel
theorem dX10_hasOf_17 : decode cX10_hasOf 17 = .ok (.if_icmp .ge 5, 3) := by decide +kernel
theorem dX10_hasOf_20 : decode cX10_hasOf 20 = .ok (.iconst 0, 1) := by decide +kernel
theorem dX10_hasOf_21 : decode cX10_hasOf 21 = .ok (.ireturn, 1) := by decide +kernel
theorem dX10_hasOf_22 : decode cX10_hasOf 22 = .ok (.iconst 0, 1) := by decide +kernel
theorem dX10_hasOf_23 : decode cX10_hasOf 23 = .ok (.istore_n 2, 1) := by decide +kernel
theorem dX10_hasOf_24 : decode cX10_hasOf 24 = .ok (.iconst 0, 1) := by decide +kernel
theorem dX10_hasOf_25 : decode cX10_hasOf 25 = .ok (.istore_n 3, 1) := by decide +kernel
theorem dX10_hasOf_26 : decode cX10_hasOf 26 = .ok (.iload_n 3, 1) := by decide +kernel
theorem dX10_hasOf_27 : decode cX10_hasOf 27 = .ok (.aload_n 0, 1) := by decide +kernel
theorem dX10_hasOf_28 : decode cX10_hasOf 28 = .ok (.getfield 225, 3) := by decide +kernel
theorem dX10_hasOf_31 : decode cX10_hasOf 31 = .ok (.if_icmp .ge 38, 3) := by decide +kernel
theorem dX10_hasOf_34 : decode cX10_hasOf 34 = .ok (.iload_n 1, 1) := by decide +kernel
theorem dX10_hasOf_35 : decode cX10_hasOf 35 = .ok (.iload_n 3, 1) := by decide +kernel
theorem dX10_hasOf_36 : decode cX10_hasOf 36 = .ok (.invokestatic 406, 3) := by decide +kernel
theorem dX10_hasOf_39 : decode cX10_hasOf 39 = .ok (.ifCond .eq 22, 3) := by decide +kernel
theorem dX10_hasOf_42 : decode cX10_hasOf 42 = .ok (.aload_n 0, 1) := by decide +kernel
theorem dX10_hasOf_43 : decode cX10_hasOf 43 = .ok (.getfield 33, 3) := by decide +kernel
theorem dX10_hasOf_46 : decode cX10_hasOf 46 = .ok (.iload_n 3, 1) := by decide +kernel
theorem dX10_hasOf_47 : decode cX10_hasOf 47 = .ok (.iaload, 1) := by decide +kernel
theorem dX10_hasOf_48 : decode cX10_hasOf 48 = .ok (.iload_n 2, 1) := by decide +kernel
theorem dX10_hasOf_49 : decode cX10_hasOf 49 = .ok (.if_icmp .le 12, 3) := by decide +kernel
theorem dX10_hasOf_52 : decode cX10_hasOf 52 = .ok (.aload_n 0, 1) := by decide +kernel
theorem dX10_hasOf_53 : decode cX10_hasOf 53 = .ok (.getfield 33, 3) := by decide +kernel
theorem dX10_hasOf_56 : decode cX10_hasOf 56 = .ok (.iload_n 3, 1) := by decide +kernel
theorem dX10_hasOf_57 : decode cX10_hasOf 57 = .ok (.iaload, 1) := by decide +kernel
theorem dX10_hasOf_58 : decode cX10_hasOf 58 = .ok (.goto 4, 3) := by decide +kernel
theorem dX10_hasOf_61 : decode cX10_hasOf 61 = .ok (.iload_n 2, 1) := by decide +kernel
theorem dX10_hasOf_62 : decode cX10_hasOf 62 = .ok (.istore_n 2, 1) := by decide +kernel
theorem dX10_hasOf_63 : decode cX10_hasOf 63 = .ok (.iinc 3 1, 3) := by decide +kernel
theorem dX10_hasOf_66 : decode cX10_hasOf 66 = .ok (.goto (-40), 3) := by decide +kernel
theorem dX10_hasOf_69 : decode cX10_hasOf 69 = .ok (.iload_n 2, 1) := by decide +kernel
theorem dX10_hasOf_70 : decode cX10_hasOf 70 = .ok (.aload_n 0, 1) := by decide +kernel
theorem dX10_hasOf_71 : decode cX10_hasOf 71 = .ok (.getfield 109, 3) := by decide +kernel
theorem dX10_hasOf_74 : decode cX10_hasOf 74 = .ok (.iconst 0, 1) := by decide +kernel
theorem dX10_hasOf_75 : decode cX10_hasOf 75 = .ok (.iaload, 1) := by decide +kernel
theorem dX10_hasOf_76 : decode cX10_hasOf 76 = .ok (.if_icmp .le 14, 3) := by decide +kernel
theorem dX10_hasOf_79 : decode cX10_hasOf 79 = .ok (.iload_n 2, 1) := by decide +kernel
theorem dX10_hasOf_80 : decode cX10_hasOf 80 = .ok (.aload_n 0, 1) := by decide +kernel
theorem dX10_hasOf_81 : decode cX10_hasOf 81 = .ok (.getfield 109, 3) := by decide +kernel
theorem dX10_hasOf_84 : decode cX10_hasOf 84 = .ok (.iconst 0, 1) := by decide +kernel
theorem dX10_hasOf_85 : decode cX10_hasOf 85 = .ok (.iaload, 1) := by decide +kernel
theorem dX10_hasOf_86 : decode cX10_hasOf 86 = .ok (.isub, 1) := by decide +kernel
theorem dX10_hasOf_87 : decode cX10_hasOf 87 = .ok (.goto 4, 3) := by decide +kernel
theorem dX10_hasOf_90 : decode cX10_hasOf 90 = .ok (.iconst 0, 1) := by decide +kernel
theorem dX10_hasOf_91 : decode cX10_hasOf 91 = .ok (.ireturn, 1) := by decide +kernel
theorem dX10_stays_0 : decode cX10_stays 0 = .ok (.aload_n 0, 1) := by decide +kernel
theorem dX10_stays_1 : decode cX10_stays 1 = .ok (.iconst 0, 1) := by decide +kernel
theorem dX10_stays_2 : decode cX10_stays 2 = .ok (.putfield 151, 3) := by decide +kernel
theorem dX10_stays_5 : decode cX10_stays 5 = .ok (.aload_n 0, 1) := by decide +kernel
theorem dX10_stays_6 : decode cX10_stays 6 = .ok (.iload_n 1, 1) := by decide +kernel
theorem dX10_stays_7 : decode cX10_stays 7 = .ok (.iload_n 2, 1) := by decide +kernel
theorem dX10_stays_8 : decode cX10_stays 8 = .ok (.invokevirtual 447, 3) := by decide +kernel
theorem dX10_stays_11 : decode cX10_stays 11 = .ok (.ifCond .eq 49, 3) := by decide +kernel
theorem dX10_stays_14 : decode cX10_stays 14 = .ok (.aload_n 0, 1) := by decide +kernel
theorem dX10_stays_15 : decode cX10_stays 15 = .ok (.iload_n 1, 1) := by decide +kernel
theorem dX10_stays_16 : decode cX10_stays 16 = .ok (.iload_n 3, 1) := by decide +kernel
theorem dX10_stays_17 : decode cX10_stays 17 = .ok (.invokevirtual 447, 3) := by decide +kernel
theorem dX10_stays_20 : decode cX10_stays 20 = .ok (.ifCond .eq 40, 3) := by decide +kernel
theorem dX10_stays_23 : decode cX10_stays 23 = .ok (.aload_n 0, 1) := by decide +kernel
theorem dX10_stays_24 : decode cX10_stays 24 = .ok (.iload_n 2, 1) := by decide +kernel
theorem dX10_stays_25 : decode cX10_stays 25 = .ok (.iload_n 3, 1) := by decide +kernel
theorem dX10_stays_26 : decode cX10_stays 26 = .ok (.invokevirtual 447, 3) := by decide +kernel
theorem dX10_stays_29 : decode cX10_stays 29 = .ok (.ifCond .eq 31, 3) := by decide +kernel
theorem dX10_stays_32 : decode cX10_stays 32 = .ok (.iload 4, 2) := by decide +kernel
theorem dX10_stays_34 : decode cX10_stays 34 = .ok (.sipush (-9999), 3) := by decide +kernel
theorem dX10_stays_37 : decode cX10_stays 37 = .ok (.sipush 9999, 3) := by decide +kernel
theorem dX10_stays_40 : decode cX10_stays 40 = .ok (.invokestatic 196, 3) := by decide +kernel
theorem dX10_stays_43 : decode cX10_stays 43 = .ok (.ifCond .eq 17, 3) := by decide +kernel
theorem dX10_stays_46 : decode cX10_stays 46 = .ok (.iload 5, 2) := by decide +kernel
theorem dX10_stays_48 : decode cX10_stays 48 = .ok (.sipush (-9999), 3) := by decide +kernel
theorem dX10_stays_51 : decode cX10_stays 51 = .ok (.sipush 9999, 3) := by decide +kernel
theorem dX10_stays_54 : decode cX10_stays 54 = .ok (.invokestatic 196, 3) := by decide +kernel
theorem dX10_stays_57 : decode cX10_stays 57 = .ok (.ifCond .ne 5, 3) := by decide +kernel
theorem dX10_stays_60 : decode cX10_stays 60 = .ok (.iconst (-1), 1) := by decide +kernel
theorem dX10_stays_61 : decode cX10_stays 61 = .ok (.ireturn, 1) := by decide +kernel
theorem dX10_stays_62 : decode cX10_stays 62 = .ok (.iconst 1, 1) := by decide +kernel
theorem dX10_stays_63 : decode cX10_stays 63 = .ok (.iload_n 1, 1) := by decide +kernel
theorem dX10_stays_64 : decode cX10_stays 64 = .ok (.ishl, 1) := by decide +kernel
theorem dX10_stays_65 : decode cX10_stays 65 = .ok (.istore 6, 2) := by decide +kernel
theorem dX10_stays_67 : decode cX10_stays 67 = .ok (.iconst 1, 1) := by decide +kernel
theorem dX10_stays_68 : decode cX10_stays 68 = .ok (.iload_n 2, 1) := by decide +kernel
theorem dX10_stays_69 : decode cX10_stays 69 = .ok (.ishl, 1) := by decide +kernel
theorem dX10_stays_70 : decode cX10_stays 70 = .ok (.istore 7, 2) := by decide +kernel
theorem dX10_stays_72 : decode cX10_stays 72 = .ok (.iconst 1, 1) := by decide +kernel
theorem dX10_stays_73 : decode cX10_stays 73 = .ok (.iload_n 3, 1) := by decide +kernel
theorem dX10_stays_74 : decode cX10_stays 74 = .ok (.ishl, 1) := by decide +kernel
theorem dX10_stays_75 : decode cX10_stays 75 = .ok (.istore 8, 2) := by decide +kernel
theorem dX10_stays_77 : decode cX10_stays 77 = .ok (.aload_n 0, 1) := by decide +kernel
theorem dX10_stays_78 : decode cX10_stays 78 = .ok (.iload 6, 2) := by decide +kernel
theorem dX10_stays_80 : decode cX10_stays 80 = .ok (.iload 7, 2) := by decide +kernel
theorem dX10_stays_82 : decode cX10_stays 82 = .ok (.ior, 1) := by decide +kernel
theorem dX10_stays_83 : decode cX10_stays 83 = .ok (.iload 8, 2) := by decide +kernel
theorem dX10_stays_85 : decode cX10_stays 85 = .ok (.ior, 1) := by decide +kernel
theorem dX10_stays_86 : decode cX10_stays 86 = .ok (.invokevirtual 477, 3) := by decide +kernel
theorem dX10_stays_89 : decode cX10_stays 89 = .ok (.iload 4, 2) := by decide +kernel
theorem dX10_stays_91 : decode cX10_stays 91 = .ok (.isub, 1) := by decide +kernel
theorem dX10_stays_92 : decode cX10_stays 92 = .ok (.iload 5, 2) := by decide +kernel
theorem dX10_stays_94 : decode cX10_stays 94 = .ok (.isub, 1) := by decide +kernel
theorem dX10_stays_95 : decode cX10_stays 95 = .ok (.istore 9, 2) := by decide +kernel
theorem dX10_stays_97 : decode cX10_stays 97 = .ok (.iload 4, 2) := by decide +kernel
theorem dX10_stays_99 : decode cX10_stays 99 = .ok (.aload_n 0, 1) := by decide +kernel
theorem dX10_stays_100 : decode cX10_stays 100 = .ok (.iload 6, 2) := by decide +kernel
theorem dX10_stays_102 : decode cX10_stays 102 = .ok (.invokevirtual 477, 3) := by decide +kernel
theorem dX10_stays_105 : decode cX10_stays 105 = .ok (.if_icmp .lt 29, 3) := by decide +kernel
theorem dX10_stays_108 : decode cX10_stays 108 = .ok (.iload 5, 2) := by decide +kernel
theorem dX10_stays_110 : decode cX10_stays 110 = .ok (.aload_n 0, 1) := by decide +kernel
theorem dX10_stays_111 : decode cX10_stays 111 = .ok (.iload 7, 2) := by decide +kernel
theorem dX10_stays_113 : decode cX10_stays 113 = .ok (.invokevirtual 477, 3) := by decide +kernel
theorem dX10_stays_116 : decode cX10_stays 116 = .ok (.if_icmp .lt 18, 3) := by decide +kernel
theorem dX10_stays_119 : decode cX10_stays 119 = .ok (.iload 9, 2) := by decide +kernel
theorem dX10_stays_121 : decode cX10_stays 121 = .ok (.aload_n 0, 1) := by decide +kernel
theorem dX10_stays_122 : decode cX10_stays 122 = .ok (.iload 8, 2) := by decide +kernel
theorem dX10_stays_124 : decode cX10_stays 124 = .ok (.invokevirtual 477, 3) := by decide +kernel
theorem dX10_stays_127 : decode cX10_stays 127 = .ok (.if_icmp .lt 7, 3) := by decide +kernel
theorem dX10_stays_130 : decode cX10_stays 130 = .ok (.iconst 1, 1) := by decide +kernel
theorem dX10_stays_131 : decode cX10_stays 131 = .ok (.goto 4, 3) := by decide +kernel
theorem dX10_stays_134 : decode cX10_stays 134 = .ok (.iconst 0, 1) := by decide +kernel
theorem dX10_stays_135 : decode cX10_stays 135 = .ok (.istore 10, 2) := by decide +kernel
theorem dX10_stays_137 : decode cX10_stays 137 = .ok (.iload 10, 2) := by decide +kernel
theorem dX10_stays_139 : decode cX10_stays 139 = .ok (.ifCond .eq 58, 3) := by decide +kernel
theorem dX10_stays_142 : decode cX10_stays 142 = .ok (.iload 4, 2) := by decide +kernel
theorem dX10_stays_144 : decode cX10_stays 144 = .ok (.iload 5, 2) := by decide +kernel
theorem dX10_stays_146 : decode cX10_stays 146 = .ok (.iadd, 1) := by decide +kernel
theorem dX10_stays_147 : decode cX10_stays 147 = .ok (.aload_n 0, 1) := by decide +kernel
theorem dX10_stays_148 : decode cX10_stays 148 = .ok (.iload 6, 2) := by decide +kernel
theorem dX10_stays_150 : decode cX10_stays 150 = .ok (.iload 7, 2) := by decide +kernel
theorem dX10_stays_152 : decode cX10_stays 152 = .ok (.ior, 1) := by decide +kernel
theorem dX10_stays_153 : decode cX10_stays 153 = .ok (.invokevirtual 477, 3) := by decide +kernel
theorem dX10_stays_156 : decode cX10_stays 156 = .ok (.if_icmp .lt 41, 3) := by decide +kernel
theorem dX10_stays_159 : decode cX10_stays 159 = .ok (.iload 4, 2) := by decide +kernel
theorem dX10_stays_161 : decode cX10_stays 161 = .ok (.iload 9, 2) := by decide +kernel
theorem dX10_stays_163 : decode cX10_stays 163 = .ok (.iadd, 1) := by decide +kernel
theorem dX10_stays_164 : decode cX10_stays 164 = .ok (.aload_n 0, 1) := by decide +kernel
theorem dX10_stays_165 : decode cX10_stays 165 = .ok (.iload 6, 2) := by decide +kernel
theorem dX10_stays_167 : decode cX10_stays 167 = .ok (.iload 8, 2) := by decide +kernel
theorem dX10_stays_169 : decode cX10_stays 169 = .ok (.ior, 1) := by decide +kernel
theorem dX10_stays_170 : decode cX10_stays 170 = .ok (.invokevirtual 477, 3) := by decide +kernel
theorem dX10_stays_173 : decode cX10_stays 173 = .ok (.if_icmp .lt 24, 3) := by decide +kernel
theorem dX10_stays_176 : decode cX10_stays 176 = .ok (.iload 5, 2) := by decide +kernel
theorem dX10_stays_178 : decode cX10_stays 178 = .ok (.iload 9, 2) := by decide +kernel
theorem dX10_stays_180 : decode cX10_stays 180 = .ok (.iadd, 1) := by decide +kernel
theorem dX10_stays_181 : decode cX10_stays 181 = .ok (.aload_n 0, 1) := by decide +kernel
theorem dX10_stays_182 : decode cX10_stays 182 = .ok (.iload 7, 2) := by decide +kernel
theorem dX10_stays_184 : decode cX10_stays 184 = .ok (.iload 8, 2) := by decide +kernel
theorem dX10_stays_186 : decode cX10_stays 186 = .ok (.ior, 1) := by decide +kernel
theorem dX10_stays_187 : decode cX10_stays 187 = .ok (.invokevirtual 477, 3) := by decide +kernel
theorem dX10_stays_190 : decode cX10_stays 190 = .ok (.if_icmp .lt 7, 3) := by decide +kernel
theorem dX10_stays_193 : decode cX10_stays 193 = .ok (.iconst 1, 1) := by decide +kernel
theorem dX10_stays_194 : decode cX10_stays 194 = .ok (.goto 4, 3) := by decide +kernel
theorem dX10_stays_197 : decode cX10_stays 197 = .ok (.iconst 0, 1) := by decide +kernel
theorem dX10_stays_198 : decode cX10_stays 198 = .ok (.ireturn, 1) := by decide +kernel
theorem dX10_when_0 : decode cX10_when 0 = .ok (.aload_n 0, 1) := by decide +kernel
theorem dX10_when_1 : decode cX10_when 1 = .ok (.iconst 0, 1) := by decide +kernel
theorem dX10_when_2 : decode cX10_when 2 = .ok (.putfield 151, 3) := by decide +kernel
theorem dX10_when_5 : decode cX10_when 5 = .ok (.aload_n 0, 1) := by decide +kernel
theorem dX10_when_6 : decode cX10_when 6 = .ok (.iload_n 1, 1) := by decide +kernel
theorem dX10_when_7 : decode cX10_when 7 = .ok (.invokevirtual 444, 3) := by decide +kernel
theorem dX10_when_10 : decode cX10_when 10 = .ok (.ifCond .eq 22, 3) := by decide +kernel
theorem dX10_when_13 : decode cX10_when 13 = .ok (.iload_n 2, 1) := by decide +kernel
theorem dX10_when_14 : decode cX10_when 14 = .ok (.iconst 0, 1) := by decide +kernel
theorem dX10_when_15 : decode cX10_when 15 = .ok (.bipush 40, 2) := by decide +kernel
theorem dX10_when_17 : decode cX10_when 17 = .ok (.invokestatic 196, 3) := by decide +kernel
theorem dX10_when_20 : decode cX10_when 20 = .ok (.ifCond .eq 12, 3) := by decide +kernel
theorem dX10_when_23 : decode cX10_when 23 = .ok (.iload_n 3, 1) := by decide +kernel
theorem dX10_when_24 : decode cX10_when 24 = .ok (.iconst 0, 1) := by decide +kernel
theorem dX10_when_25 : decode cX10_when 25 = .ok (.iconst 1, 1) := by decide +kernel
theorem dX10_when_26 : decode cX10_when 26 = .ok (.invokestatic 196, 3) := by decide +kernel
theorem dX10_when_29 : decode cX10_when 29 = .ok (.ifCond .ne 5, 3) := by decide +kernel
theorem dX10_when_32 : decode cX10_when 32 = .ok (.iconst (-1), 1) := by decide +kernel
theorem dX10_when_33 : decode cX10_when 33 = .ok (.ireturn, 1) := by decide +kernel
theorem dX10_when_34 : decode cX10_when 34 = .ok (.bipush (-2), 2) := by decide +kernel
theorem dX10_when_36 : decode cX10_when 36 = .ok (.istore 4, 2) := by decide +kernel
theorem dX10_when_38 : decode cX10_when 38 = .ok (.bipush (-2), 2) := by decide +kernel
theorem dX10_when_40 : decode cX10_when 40 = .ok (.istore 5, 2) := by decide +kernel
theorem dX10_when_42 : decode cX10_when 42 = .ok (.iconst 0, 1) := by decide +kernel
theorem dX10_when_43 : decode cX10_when 43 = .ok (.istore 6, 2) := by decide +kernel
theorem dX10_when_45 : decode cX10_when 45 = .ok (.iload 6, 2) := by decide +kernel
theorem dX10_when_47 : decode cX10_when 47 = .ok (.iload_n 2, 1) := by decide +kernel
theorem dX10_when_48 : decode cX10_when 48 = .ok (.if_icmp .gt 111, 3) := by decide +kernel
theorem dX10_when_51 : decode cX10_when 51 = .ok (.aload_n 0, 1) := by decide +kernel
theorem dX10_when_52 : decode cX10_when 52 = .ok (.invokevirtual 453, 3) := by decide +kernel
theorem dX10_when_55 : decode cX10_when 55 = .ok (.aload_n 0, 1) := by decide +kernel
theorem dX10_when_56 : decode cX10_when 56 = .ok (.iload 6, 2) := by decide +kernel
theorem dX10_when_58 : decode cX10_when 58 = .ok (.invokevirtual 456, 3) := by decide +kernel
theorem dX10_when_61 : decode cX10_when 61 = .ok (.aload_n 0, 1) := by decide +kernel
theorem dX10_when_62 : decode cX10_when 62 = .ok (.getfield 118, 3) := by decide +kernel
theorem dX10_when_65 : decode cX10_when 65 = .ok (.iconst 1, 1) := by decide +kernel
theorem dX10_when_66 : decode cX10_when 66 = .ok (.baload, 1) := by decide +kernel
theorem dX10_when_67 : decode cX10_when 67 = .ok (.ifCond .ne 86, 3) := by decide +kernel
theorem dX10_when_70 : decode cX10_when 70 = .ok (.aload_n 0, 1) := by decide +kernel
theorem dX10_when_71 : decode cX10_when 71 = .ok (.getfield 94, 3) := by decide +kernel
theorem dX10_when_74 : decode cX10_when 74 = .ok (.bipush 6, 2) := by decide +kernel
theorem dX10_when_76 : decode cX10_when 76 = .ok (.iload_n 1, 1) := by decide +kernel
theorem dX10_when_77 : decode cX10_when 77 = .ok (.iadd, 1) := by decide +kernel
theorem dX10_when_78 : decode cX10_when 78 = .ok (.baload, 1) := by decide +kernel
theorem dX10_when_79 : decode cX10_when 79 = .ok (.ifCond .eq 74, 3) := by decide +kernel
theorem dX10_when_82 : decode cX10_when 82 = .ok (.aload_n 0, 1) := by decide +kernel
theorem dX10_when_83 : decode cX10_when 83 = .ok (.iconst 1, 1) := by decide +kernel
theorem dX10_when_84 : decode cX10_when 84 = .ok (.iload_n 1, 1) := by decide +kernel
theorem dX10_when_85 : decode cX10_when 85 = .ok (.invokevirtual 409, 3) := by decide +kernel
theorem dX10_when_88 : decode cX10_when 88 = .ok (.ifCond .ne 6, 3) := by decide +kernel
theorem dX10_when_91 : decode cX10_when 91 = .ok (.goto 62, 3) := by decide +kernel
theorem dX10_when_94 : decode cX10_when 94 = .ok (.aload_n 0, 1) := by decide +kernel
theorem dX10_when_95 : decode cX10_when 95 = .ok (.iconst 1, 1) := by decide +kernel
theorem dX10_when_96 : decode cX10_when 96 = .ok (.iload_n 1, 1) := by decide +kernel
theorem dX10_when_97 : decode cX10_when 97 = .ok (.invokevirtual 427, 3) := by decide +kernel
theorem dX10_when_100 : decode cX10_when 100 = .ok (.aload_n 0, 1) := by decide +kernel
theorem dX10_when_101 : decode cX10_when 101 = .ok (.bipush 120, 2) := by decide +kernel
theorem dX10_when_103 : decode cX10_when 103 = .ok (.iload 6, 2) := by decide +kernel
theorem dX10_when_105 : decode cX10_when 105 = .ok (.isub, 1) := by decide +kernel
theorem dX10_when_106 : decode cX10_when 106 = .ok (.invokevirtual 462, 3) := by decide +kernel
theorem dX10_when_109 : decode cX10_when 109 = .ok (.ifCond .lt 44, 3) := by decide +kernel
theorem dX10_when_112 : decode cX10_when 112 = .ok (.aload_n 0, 1) := by decide +kernel
theorem dX10_when_113 : decode cX10_when 113 = .ok (.getfield 112, 3) := by decide +kernel
theorem dX10_when_116 : decode cX10_when 116 = .ok (.iconst 1, 1) := by decide +kernel
theorem dX10_when_117 : decode cX10_when 117 = .ok (.iaload, 1) := by decide +kernel
theorem dX10_when_118 : decode cX10_when 118 = .ok (.iload_n 1, 1) := by decide +kernel
theorem dX10_when_119 : decode cX10_when 119 = .ok (.if_icmp .ne 34, 3) := by decide +kernel
theorem dX10_when_122 : decode cX10_when 122 = .ok (.iload 4, 2) := by decide +kernel
theorem dX10_when_124 : decode cX10_when 124 = .ok (.ifCond .lt 17, 3) := by decide +kernel
theorem dX10_when_127 : decode cX10_when 127 = .ok (.aload_n 0, 1) := by decide +kernel
theorem dX10_when_128 : decode cX10_when 128 = .ok (.getfield 109, 3) := by decide +kernel
theorem dX10_when_131 : decode cX10_when 131 = .ok (.iconst 1, 1) := by decide +kernel
theorem dX10_when_132 : decode cX10_when 132 = .ok (.iaload, 1) := by decide +kernel
theorem dX10_when_133 : decode cX10_when 133 = .ok (.iload 5, 2) := by decide +kernel
theorem dX10_when_135 : decode cX10_when 135 = .ok (.if_icmp .lt 6, 3) := by decide +kernel
theorem dX10_when_138 : decode cX10_when 138 = .ok (.goto 15, 3) := by decide +kernel
theorem dX10_when_141 : decode cX10_when 141 = .ok (.iload 6, 2) := by decide +kernel
theorem dX10_when_143 : decode cX10_when 143 = .ok (.istore 4, 2) := by decide +kernel
theorem dX10_when_145 : decode cX10_when 145 = .ok (.aload_n 0, 1) := by decide +kernel
theorem dX10_when_146 : decode cX10_when 146 = .ok (.getfield 109, 3) := by decide +kernel
theorem dX10_when_149 : decode cX10_when 149 = .ok (.iconst 1, 1) := by decide +kernel
theorem dX10_when_150 : decode cX10_when 150 = .ok (.iaload, 1) := by decide +kernel
theorem dX10_when_151 : decode cX10_when 151 = .ok (.istore 5, 2) := by decide +kernel
theorem dX10_when_153 : decode cX10_when 153 = .ok (.iinc 6 1, 3) := by decide +kernel
theorem dX10_when_156 : decode cX10_when 156 = .ok (.goto (-111), 3) := by decide +kernel
theorem dX10_when_159 : decode cX10_when 159 = .ok (.iload_n 3, 1) := by decide +kernel
theorem dX10_when_160 : decode cX10_when 160 = .ok (.ifCond .ne 8, 3) := by decide +kernel
theorem dX10_when_163 : decode cX10_when 163 = .ok (.iload 4, 2) := by decide +kernel
theorem dX10_when_165 : decode cX10_when 165 = .ok (.goto 5, 3) := by decide +kernel
theorem dX10_when_168 : decode cX10_when 168 = .ok (.iload 5, 2) := by decide +kernel
theorem dX10_when_170 : decode cX10_when 170 = .ok (.ireturn, 1) := by decide +kernel
theorem dX10_match_0 : decode cX10_match 0 = .ok (.aload_n 0, 1) := by decide +kernel
theorem dX10_match_1 : decode cX10_match 1 = .ok (.iconst 0, 1) := by decide +kernel
theorem dX10_match_2 : decode cX10_match 2 = .ok (.putfield 151, 3) := by decide +kernel
theorem dX10_match_5 : decode cX10_match 5 = .ok (.aload_n 0, 1) := by decide +kernel
theorem dX10_match_6 : decode cX10_match 6 = .ok (.iload_n 1, 1) := by decide +kernel
theorem dX10_match_7 : decode cX10_match 7 = .ok (.invokevirtual 444, 3) := by decide +kernel
theorem dX10_match_10 : decode cX10_match 10 = .ok (.ifCond .ne 5, 3) := by decide +kernel
theorem dX10_match_13 : decode cX10_match 13 = .ok (.iconst (-1), 1) := by decide +kernel
theorem dX10_match_14 : decode cX10_match 14 = .ok (.ireturn, 1) := by decide +kernel
theorem dX10_match_15 : decode cX10_match 15 = .ok (.bipush (-2), 2) := by decide +kernel
theorem dX10_match_17 : decode cX10_match 17 = .ok (.istore_n 2, 1) := by decide +kernel
theorem dX10_match_18 : decode cX10_match 18 = .ok (.iconst 0, 1) := by decide +kernel
theorem dX10_match_19 : decode cX10_match 19 = .ok (.istore_n 3, 1) := by decide +kernel
theorem dX10_match_20 : decode cX10_match 20 = .ok (.iload_n 3, 1) := by decide +kernel
theorem dX10_match_21 : decode cX10_match 21 = .ok (.aload_n 0, 1) := by decide +kernel
theorem dX10_match_22 : decode cX10_match 22 = .ok (.getfield 225, 3) := by decide +kernel
theorem dX10_match_25 : decode cX10_match 25 = .ok (.if_icmp .ge 72, 3) := by decide +kernel
theorem dX10_match_28 : decode cX10_match 28 = .ok (.aload_n 0, 1) := by decide +kernel
theorem dX10_match_29 : decode cX10_match 29 = .ok (.iload_n 1, 1) := by decide +kernel
theorem dX10_match_30 : decode cX10_match 30 = .ok (.iload_n 3, 1) := by decide +kernel
theorem dX10_match_31 : decode cX10_match 31 = .ok (.invokevirtual 447, 3) := by decide +kernel
theorem dX10_match_34 : decode cX10_match 34 = .ok (.ifCond .eq 57, 3) := by decide +kernel
theorem dX10_match_37 : decode cX10_match 37 = .ok (.iload_n 2, 1) := by decide +kernel
theorem dX10_match_38 : decode cX10_match 38 = .ok (.ifCond .lt 21, 3) := by decide +kernel
theorem dX10_match_41 : decode cX10_match 41 = .ok (.aload_n 0, 1) := by decide +kernel
theorem dX10_match_42 : decode cX10_match 42 = .ok (.getfield 85, 3) := by decide +kernel
theorem dX10_match_45 : decode cX10_match 45 = .ok (.iload_n 3, 1) := by decide +kernel
theorem dX10_match_46 : decode cX10_match 46 = .ok (.iaload, 1) := by decide +kernel
theorem dX10_match_47 : decode cX10_match 47 = .ok (.aload_n 0, 1) := by decide +kernel
theorem dX10_match_48 : decode cX10_match 48 = .ok (.getfield 85, 3) := by decide +kernel
theorem dX10_match_51 : decode cX10_match 51 = .ok (.iload_n 2, 1) := by decide +kernel
theorem dX10_match_52 : decode cX10_match 52 = .ok (.iaload, 1) := by decide +kernel
theorem dX10_match_53 : decode cX10_match 53 = .ok (.if_icmp .lt 6, 3) := by decide +kernel
theorem dX10_match_56 : decode cX10_match 56 = .ok (.goto 35, 3) := by decide +kernel
theorem dX10_match_59 : decode cX10_match 59 = .ok (.aload_n 0, 1) := by decide +kernel
theorem dX10_match_60 : decode cX10_match 60 = .ok (.invokevirtual 453, 3) := by decide +kernel
theorem dX10_match_63 : decode cX10_match 63 = .ok (.aload_n 0, 1) := by decide +kernel
theorem dX10_match_64 : decode cX10_match 64 = .ok (.iconst 1, 1) := by decide +kernel
theorem dX10_match_65 : decode cX10_match 65 = .ok (.iload_n 1, 1) := by decide +kernel
theorem dX10_match_66 : decode cX10_match 66 = .ok (.iload_n 3, 1) := by decide +kernel
theorem dX10_match_67 : decode cX10_match 67 = .ok (.invokevirtual 450, 3) := by decide +kernel
theorem dX10_match_70 : decode cX10_match 70 = .ok (.aload_n 0, 1) := by decide +kernel
theorem dX10_match_71 : decode cX10_match 71 = .ok (.bipush 120, 2) := by decide +kernel
theorem dX10_match_73 : decode cX10_match 73 = .ok (.invokevirtual 462, 3) := by decide +kernel
theorem dX10_match_76 : decode cX10_match 76 = .ok (.ifCond .lt 15, 3) := by decide +kernel
theorem dX10_match_79 : decode cX10_match 79 = .ok (.aload_n 0, 1) := by decide +kernel
theorem dX10_match_80 : decode cX10_match 80 = .ok (.getfield 112, 3) := by decide +kernel
theorem dX10_match_83 : decode cX10_match 83 = .ok (.iconst 1, 1) := by decide +kernel
theorem dX10_match_84 : decode cX10_match 84 = .ok (.iaload, 1) := by decide +kernel
theorem dX10_match_85 : decode cX10_match 85 = .ok (.iload_n 1, 1) := by decide +kernel
theorem dX10_match_86 : decode cX10_match 86 = .ok (.if_icmp .ne 5, 3) := by decide +kernel
theorem dX10_match_89 : decode cX10_match 89 = .ok (.iload_n 3, 1) := by decide +kernel
theorem dX10_match_90 : decode cX10_match 90 = .ok (.istore_n 2, 1) := by decide +kernel
theorem dX10_match_91 : decode cX10_match 91 = .ok (.iinc 3 1, 3) := by decide +kernel
theorem dX10_match_94 : decode cX10_match 94 = .ok (.goto (-74), 3) := by decide +kernel
theorem dX10_match_97 : decode cX10_match 97 = .ok (.iload_n 2, 1) := by decide +kernel
theorem dX10_match_98 : decode cX10_match 98 = .ok (.ireturn, 1) := by decide +kernel
theorem dX10_hush_0 : decode cX10_hush 0 = .ok (.aload_n 0, 1) := by decide +kernel
theorem dX10_hush_1 : decode cX10_hush 1 = .ok (.iconst 0, 1) := by decide +kernel
theorem dX10_hush_2 : decode cX10_hush 2 = .ok (.putfield 151, 3) := by decide +kernel
theorem dX10_hush_5 : decode cX10_hush 5 = .ok (.aload_n 0, 1) := by decide +kernel
theorem dX10_hush_6 : decode cX10_hush 6 = .ok (.iload_n 1, 1) := by decide +kernel
theorem dX10_hush_7 : decode cX10_hush 7 = .ok (.invokevirtual 444, 3) := by decide +kernel
theorem dX10_hush_10 : decode cX10_hush 10 = .ok (.ifCond .eq 13, 3) := by decide +kernel
theorem dX10_hush_13 : decode cX10_hush 13 = .ok (.iload_n 2, 1) := by decide +kernel
theorem dX10_hush_14 : decode cX10_hush 14 = .ok (.iconst 1, 1) := by decide +kernel
theorem dX10_hush_15 : decode cX10_hush 15 = .ok (.bipush 40, 2) := by decide +kernel
theorem dX10_hush_17 : decode cX10_hush 17 = .ok (.invokestatic 196, 3) := by decide +kernel
theorem dX10_hush_20 : decode cX10_hush 20 = .ok (.ifCond .ne 5, 3) := by decide +kernel
theorem dX10_hush_23 : decode cX10_hush 23 = .ok (.iconst (-1), 1) := by decide +kernel
theorem dX10_hush_24 : decode cX10_hush 24 = .ok (.ireturn, 1) := by decide +kernel
theorem dX10_hush_25 : decode cX10_hush 25 = .ok (.aload_n 0, 1) := by decide +kernel
theorem dX10_hush_26 : decode cX10_hush 26 = .ok (.invokevirtual 465, 3) := by decide +kernel
theorem dX10_hush_29 : decode cX10_hush 29 = .ok (.iconst 1, 1) := by decide +kernel
theorem dX10_hush_30 : decode cX10_hush 30 = .ok (.iload_n 1, 1) := by decide +kernel
theorem dX10_hush_31 : decode cX10_hush 31 = .ok (.ishl, 1) := by decide +kernel
theorem dX10_hush_32 : decode cX10_hush 32 = .ok (.iconst (-1), 1) := by decide +kernel
theorem dX10_hush_33 : decode cX10_hush 33 = .ok (.ixor, 1) := by decide +kernel
theorem dX10_hush_34 : decode cX10_hush 34 = .ok (.iand, 1) := by decide +kernel
theorem dX10_hush_35 : decode cX10_hush 35 = .ok (.istore_n 3, 1) := by decide +kernel
theorem dX10_hush_36 : decode cX10_hush 36 = .ok (.bipush (-2), 2) := by decide +kernel
theorem dX10_hush_38 : decode cX10_hush 38 = .ok (.istore 4, 2) := by decide +kernel
theorem dX10_hush_40 : decode cX10_hush 40 = .ok (.iconst 0, 1) := by decide +kernel
theorem dX10_hush_41 : decode cX10_hush 41 = .ok (.istore 5, 2) := by decide +kernel
theorem dX10_hush_43 : decode cX10_hush 43 = .ok (.iload 5, 2) := by decide +kernel
theorem dX10_hush_45 : decode cX10_hush 45 = .ok (.iconst 1, 1) := by decide +kernel
theorem dX10_hush_46 : decode cX10_hush 46 = .ok (.aload_n 0, 1) := by decide +kernel
theorem dX10_hush_47 : decode cX10_hush 47 = .ok (.getfield 225, 3) := by decide +kernel
theorem dX10_hush_50 : decode cX10_hush 50 = .ok (.ishl, 1) := by decide +kernel
theorem dX10_hush_51 : decode cX10_hush 51 = .ok (.if_icmp .ge 68, 3) := by decide +kernel
theorem dX10_hush_54 : decode cX10_hush 54 = .ok (.iload 5, 2) := by decide +kernel
theorem dX10_hush_56 : decode cX10_hush 56 = .ok (.iload_n 3, 1) := by decide +kernel
theorem dX10_hush_57 : decode cX10_hush 57 = .ok (.iconst (-1), 1) := by decide +kernel
theorem dX10_hush_58 : decode cX10_hush 58 = .ok (.ixor, 1) := by decide +kernel
theorem dX10_hush_59 : decode cX10_hush 59 = .ok (.iand, 1) := by decide +kernel
theorem dX10_hush_60 : decode cX10_hush 60 = .ok (.ifCond .ne 53, 3) := by decide +kernel
theorem dX10_hush_63 : decode cX10_hush 63 = .ok (.iload 4, 2) := by decide +kernel
theorem dX10_hush_65 : decode cX10_hush 65 = .ok (.ifCond .lt 19, 3) := by decide +kernel
theorem dX10_hush_68 : decode cX10_hush 68 = .ok (.iload 5, 2) := by decide +kernel
theorem dX10_hush_70 : decode cX10_hush 70 = .ok (.invokestatic 468, 3) := by decide +kernel
theorem dX10_hush_73 : decode cX10_hush 73 = .ok (.iload 4, 2) := by decide +kernel
theorem dX10_hush_75 : decode cX10_hush 75 = .ok (.invokestatic 468, 3) := by decide +kernel
theorem dX10_hush_78 : decode cX10_hush 78 = .ok (.if_icmp .lt 6, 3) := by decide +kernel
theorem dX10_hush_81 : decode cX10_hush 81 = .ok (.goto 32, 3) := by decide +kernel
theorem dX10_hush_84 : decode cX10_hush 84 = .ok (.aload_n 0, 1) := by decide +kernel
theorem dX10_hush_85 : decode cX10_hush 85 = .ok (.invokevirtual 453, 3) := by decide +kernel
theorem dX10_hush_88 : decode cX10_hush 88 = .ok (.aload_n 0, 1) := by decide +kernel
theorem dX10_hush_89 : decode cX10_hush 89 = .ok (.iload 5, 2) := by decide +kernel
theorem dX10_hush_91 : decode cX10_hush 91 = .ok (.putfield 365, 3) := by decide +kernel
theorem dX10_hush_94 : decode cX10_hush 94 = .ok (.aload_n 0, 1) := by decide +kernel
theorem dX10_hush_95 : decode cX10_hush 95 = .ok (.iload_n 2, 1) := by decide +kernel
theorem dX10_hush_96 : decode cX10_hush 96 = .ok (.invokevirtual 456, 3) := by decide +kernel
theorem dX10_hush_99 : decode cX10_hush 99 = .ok (.aload_n 0, 1) := by decide +kernel
theorem dX10_hush_100 : decode cX10_hush 100 = .ok (.getfield 112, 3) := by decide +kernel
theorem dX10_hush_103 : decode cX10_hush 103 = .ok (.iconst 1, 1) := by decide +kernel
theorem dX10_hush_104 : decode cX10_hush 104 = .ok (.iaload, 1) := by decide +kernel
theorem dX10_hush_105 : decode cX10_hush 105 = .ok (.iload_n 1, 1) := by decide +kernel
theorem dX10_hush_106 : decode cX10_hush 106 = .ok (.if_icmp .ne 7, 3) := by decide +kernel
theorem dX10_hush_109 : decode cX10_hush 109 = .ok (.iload 5, 2) := by decide +kernel
theorem dX10_hush_111 : decode cX10_hush 111 = .ok (.istore 4, 2) := by decide +kernel
theorem dX10_hush_113 : decode cX10_hush 113 = .ok (.iinc 5 1, 3) := by decide +kernel
theorem dX10_hush_116 : decode cX10_hush 116 = .ok (.goto (-73), 3) := by decide +kernel
theorem dX10_hush_119 : decode cX10_hush 119 = .ok (.aload_n 0, 1) := by decide +kernel
theorem dX10_hush_120 : decode cX10_hush 120 = .ok (.invokevirtual 341, 3) := by decide +kernel
theorem dX10_hush_123 : decode cX10_hush 123 = .ok (.iload 4, 2) := by decide +kernel
theorem dX10_hush_125 : decode cX10_hush 125 = .ok (.ireturn, 1) := by decide +kernel
theorem dX10_still_0 : decode cX10_still 0 = .ok (.aload_n 0, 1) := by decide +kernel
theorem dX10_still_1 : decode cX10_still 1 = .ok (.iconst 0, 1) := by decide +kernel
theorem dX10_still_2 : decode cX10_still 2 = .ok (.putfield 151, 3) := by decide +kernel
theorem dX10_still_5 : decode cX10_still 5 = .ok (.iconst 0, 1) := by decide +kernel
theorem dX10_still_6 : decode cX10_still 6 = .ok (.istore_n 1, 1) := by decide +kernel
theorem dX10_still_7 : decode cX10_still 7 = .ok (.iconst 0, 1) := by decide +kernel
theorem dX10_still_8 : decode cX10_still 8 = .ok (.istore_n 2, 1) := by decide +kernel
theorem dX10_still_9 : decode cX10_still 9 = .ok (.iload_n 2, 1) := by decide +kernel
theorem dX10_still_10 : decode cX10_still 10 = .ok (.aload_n 0, 1) := by decide +kernel
theorem dX10_still_11 : decode cX10_still 11 = .ok (.getfield 225, 3) := by decide +kernel
theorem dX10_still_14 : decode cX10_still 14 = .ok (.if_icmp .ge 50, 3) := by decide +kernel
theorem dX10_still_17 : decode cX10_still 17 = .ok (.iload_n 1, 1) := by decide +kernel
theorem dX10_still_18 : decode cX10_still 18 = .ok (.aload_n 0, 1) := by decide +kernel
theorem dX10_still_19 : decode cX10_still 19 = .ok (.getfield 94, 3) := by decide +kernel
theorem dX10_still_22 : decode cX10_still 22 = .ok (.iload_n 2, 1) := by decide +kernel
theorem dX10_still_23 : decode cX10_still 23 = .ok (.baload, 1) := by decide +kernel
theorem dX10_still_24 : decode cX10_still 24 = .ok (.ifCond .eq 31, 3) := by decide +kernel
theorem dX10_still_27 : decode cX10_still 27 = .ok (.aload_n 0, 1) := by decide +kernel
theorem dX10_still_28 : decode cX10_still 28 = .ok (.getfield 109, 3) := by decide +kernel
theorem dX10_still_31 : decode cX10_still 31 = .ok (.iconst 0, 1) := by decide +kernel
theorem dX10_still_32 : decode cX10_still 32 = .ok (.iaload, 1) := by decide +kernel
theorem dX10_still_33 : decode cX10_still 33 = .ok (.aload_n 0, 1) := by decide +kernel
theorem dX10_still_34 : decode cX10_still 34 = .ok (.getfield 36, 3) := by decide +kernel
theorem dX10_still_37 : decode cX10_still 37 = .ok (.iload_n 2, 1) := by decide +kernel
theorem dX10_still_38 : decode cX10_still 38 = .ok (.iaload, 1) := by decide +kernel
theorem dX10_still_39 : decode cX10_still 39 = .ok (.iadd, 1) := by decide +kernel
theorem dX10_still_40 : decode cX10_still 40 = .ok (.aload_n 0, 1) := by decide +kernel
theorem dX10_still_41 : decode cX10_still 41 = .ok (.getfield 85, 3) := by decide +kernel
theorem dX10_still_44 : decode cX10_still 44 = .ok (.iload_n 2, 1) := by decide +kernel
theorem dX10_still_45 : decode cX10_still 45 = .ok (.iaload, 1) := by decide +kernel
theorem dX10_still_46 : decode cX10_still 46 = .ok (.if_icmp .gt 9, 3) := by decide +kernel
theorem dX10_still_49 : decode cX10_still 49 = .ok (.iconst 1, 1) := by decide +kernel
theorem dX10_still_50 : decode cX10_still 50 = .ok (.iload_n 2, 1) := by decide +kernel
theorem dX10_still_51 : decode cX10_still 51 = .ok (.ishl, 1) := by decide +kernel
theorem dX10_still_52 : decode cX10_still 52 = .ok (.goto 4, 3) := by decide +kernel
theorem dX10_still_55 : decode cX10_still 55 = .ok (.iconst 0, 1) := by decide +kernel
theorem dX10_still_56 : decode cX10_still 56 = .ok (.ior, 1) := by decide +kernel
theorem dX10_still_57 : decode cX10_still 57 = .ok (.istore_n 1, 1) := by decide +kernel
theorem dX10_still_58 : decode cX10_still 58 = .ok (.iinc 2 1, 3) := by decide +kernel
theorem dX10_still_61 : decode cX10_still 61 = .ok (.goto (-52), 3) := by decide +kernel
theorem dX10_still_64 : decode cX10_still 64 = .ok (.iload_n 1, 1) := by decide +kernel
theorem dX10_still_65 : decode cX10_still 65 = .ok (.ireturn, 1) := by decide +kernel
theorem dX10_most_0 : decode cX10_most 0 = .ok (.aload_n 0, 1) := by decide +kernel
theorem dX10_most_1 : decode cX10_most 1 = .ok (.iconst 0, 1) := by decide +kernel
theorem dX10_most_2 : decode cX10_most 2 = .ok (.putfield 151, 3) := by decide +kernel
theorem dX10_most_5 : decode cX10_most 5 = .ok (.aload_n 0, 1) := by decide +kernel
theorem dX10_most_6 : decode cX10_most 6 = .ok (.getfield 118, 3) := by decide +kernel
theorem dX10_most_9 : decode cX10_most 9 = .ok (.iconst 0, 1) := by decide +kernel
theorem dX10_most_10 : decode cX10_most 10 = .ok (.baload, 1) := by decide +kernel
theorem dX10_most_11 : decode cX10_most 11 = .ok (.ifCond .eq 5, 3) := by decide +kernel
theorem dX10_most_14 : decode cX10_most 14 = .ok (.iconst 0, 1) := by decide +kernel
theorem dX10_most_15 : decode cX10_most 15 = .ok (.ireturn, 1) := by decide +kernel
theorem dX10_most_16 : decode cX10_most 16 = .ok (.aload_n 0, 1) := by decide +kernel
theorem dX10_most_17 : decode cX10_most 17 = .ok (.invokevirtual 453, 3) := by decide +kernel
theorem dX10_most_20 : decode cX10_most 20 = .ok (.iconst 0, 1) := by decide +kernel
theorem dX10_most_21 : decode cX10_most 21 = .ok (.istore_n 1, 1) := by decide +kernel
theorem dX10_most_22 : decode cX10_most 22 = .ok (.iconst 0, 1) := by decide +kernel
theorem dX10_most_23 : decode cX10_most 23 = .ok (.istore_n 2, 1) := by decide +kernel
theorem dX10_most_24 : decode cX10_most 24 = .ok (.iconst 0, 1) := by decide +kernel
theorem dX10_most_25 : decode cX10_most 25 = .ok (.istore_n 3, 1) := by decide +kernel
theorem dX10_most_26 : decode cX10_most 26 = .ok (.iload_n 2, 1) := by decide +kernel
theorem dX10_most_27 : decode cX10_most 27 = .ok (.aload_n 0, 1) := by decide +kernel
theorem dX10_most_28 : decode cX10_most 28 = .ok (.getfield 225, 3) := by decide +kernel
theorem dX10_most_31 : decode cX10_most 31 = .ok (.if_icmp .ge 77, 3) := by decide +kernel
theorem dX10_most_34 : decode cX10_most 34 = .ok (.aload_n 0, 1) := by decide +kernel
theorem dX10_most_35 : decode cX10_most 35 = .ok (.iconst 1, 1) := by decide +kernel
theorem dX10_most_36 : decode cX10_most 36 = .ok (.iload_n 3, 1) := by decide +kernel
theorem dX10_most_37 : decode cX10_most 37 = .ok (.invokevirtual 400, 3) := by decide +kernel
theorem dX10_most_40 : decode cX10_most 40 = .ok (.ifCond .eq 16, 3) := by decide +kernel
theorem dX10_most_43 : decode cX10_most 43 = .ok (.aload_n 0, 1) := by decide +kernel
theorem dX10_most_44 : decode cX10_most 44 = .ok (.iconst 1, 1) := by decide +kernel
theorem dX10_most_45 : decode cX10_most 45 = .ok (.iload_n 3, 1) := by decide +kernel
theorem dX10_most_46 : decode cX10_most 46 = .ok (.invokevirtual 409, 3) := by decide +kernel
theorem dX10_most_49 : decode cX10_most 49 = .ok (.ifCond .eq 7, 3) := by decide +kernel
theorem dX10_most_52 : decode cX10_most 52 = .ok (.iconst 1, 1) := by decide +kernel
theorem dX10_most_53 : decode cX10_most 53 = .ok (.goto 4, 3) := by decide +kernel
theorem dX10_most_56 : decode cX10_most 56 = .ok (.iconst 0, 1) := by decide +kernel
theorem dX10_most_57 : decode cX10_most 57 = .ok (.istore 4, 2) := by decide +kernel
theorem dX10_most_59 : decode cX10_most 59 = .ok (.iload 4, 2) := by decide +kernel
theorem dX10_most_61 : decode cX10_most 61 = .ok (.ifCond .eq 9, 3) := by decide +kernel
theorem dX10_most_64 : decode cX10_most 64 = .ok (.aload_n 0, 1) := by decide +kernel
theorem dX10_most_65 : decode cX10_most 65 = .ok (.iconst 1, 1) := by decide +kernel
theorem dX10_most_66 : decode cX10_most 66 = .ok (.iload_n 3, 1) := by decide +kernel
theorem dX10_most_67 : decode cX10_most 67 = .ok (.invokevirtual 427, 3) := by decide +kernel
theorem dX10_most_70 : decode cX10_most 70 = .ok (.iload_n 1, 1) := by decide +kernel
theorem dX10_most_71 : decode cX10_most 71 = .ok (.iload 4, 2) := by decide +kernel
theorem dX10_most_73 : decode cX10_most 73 = .ok (.ifCond .eq 7, 3) := by decide +kernel
theorem dX10_most_76 : decode cX10_most 76 = .ok (.iconst 1, 1) := by decide +kernel
theorem dX10_most_77 : decode cX10_most 77 = .ok (.goto 4, 3) := by decide +kernel
theorem dX10_most_80 : decode cX10_most 80 = .ok (.iconst 0, 1) := by decide +kernel
theorem dX10_most_81 : decode cX10_most 81 = .ok (.iadd, 1) := by decide +kernel
theorem dX10_most_82 : decode cX10_most 82 = .ok (.istore_n 1, 1) := by decide +kernel
theorem dX10_most_83 : decode cX10_most 83 = .ok (.iload 4, 2) := by decide +kernel
theorem dX10_most_85 : decode cX10_most 85 = .ok (.ifCond .eq 7, 3) := by decide +kernel
theorem dX10_most_88 : decode cX10_most 88 = .ok (.iconst 0, 1) := by decide +kernel
theorem dX10_most_89 : decode cX10_most 89 = .ok (.goto 6, 3) := by decide +kernel
theorem dX10_most_92 : decode cX10_most 92 = .ok (.iload_n 2, 1) := by decide +kernel
theorem dX10_most_93 : decode cX10_most 93 = .ok (.iconst 1, 1) := by decide +kernel
theorem dX10_most_94 : decode cX10_most 94 = .ok (.iadd, 1) := by decide +kernel
theorem dX10_most_95 : decode cX10_most 95 = .ok (.istore_n 2, 1) := by decide +kernel
theorem dX10_most_96 : decode cX10_most 96 = .ok (.iload_n 3, 1) := by decide +kernel
theorem dX10_most_97 : decode cX10_most 97 = .ok (.iconst 1, 1) := by decide +kernel
theorem dX10_most_98 : decode cX10_most 98 = .ok (.iadd, 1) := by decide +kernel
theorem dX10_most_99 : decode cX10_most 99 = .ok (.aload_n 0, 1) := by decide +kernel
theorem dX10_most_100 : decode cX10_most 100 = .ok (.getfield 225, 3) := by decide +kernel
theorem dX10_most_103 : decode cX10_most 103 = .ok (.irem, 1) := by decide +kernel
theorem dX10_most_104 : decode cX10_most 104 = .ok (.istore_n 3, 1) := by decide +kernel
theorem dX10_most_105 : decode cX10_most 105 = .ok (.goto (-79), 3) := by decide +kernel
theorem dX10_most_108 : decode cX10_most 108 = .ok (.iload_n 1, 1) := by decide +kernel
theorem dX10_most_109 : decode cX10_most 109 = .ok (.ireturn, 1) := by decide +kernel
theorem dX10_sameOf_0 : decode cX10_sameOf 0 = .ok (.iconst 0, 1) := by decide +kernel
theorem dX10_sameOf_1 : decode cX10_sameOf 1 = .ok (.istore_n 2, 1) := by decide +kernel
theorem dX10_sameOf_2 : decode cX10_sameOf 2 = .ok (.iconst 0, 1) := by decide +kernel
theorem dX10_sameOf_3 : decode cX10_sameOf 3 = .ok (.istore_n 3, 1) := by decide +kernel
theorem dX10_sameOf_4 : decode cX10_sameOf 4 = .ok (.iload_n 3, 1) := by decide +kernel
theorem dX10_sameOf_5 : decode cX10_sameOf 5 = .ok (.aload_n 0, 1) := by decide +kernel
theorem dX10_sameOf_6 : decode cX10_sameOf 6 = .ok (.getfield 228, 3) := by decide +kernel
theorem dX10_sameOf_9 : decode cX10_sameOf 9 = .ok (.if_icmp .ge 31, 3) := by decide +kernel
theorem dX10_sameOf_12 : decode cX10_sameOf 12 = .ok (.iload_n 2, 1) := by decide +kernel
theorem dX10_sameOf_13 : decode cX10_sameOf 13 = .ok (.aload_n 0, 1) := by decide +kernel
theorem dX10_sameOf_14 : decode cX10_sameOf 14 = .ok (.getfield 106, 3) := by decide +kernel
theorem dX10_sameOf_17 : decode cX10_sameOf 17 = .ok (.bipush 6, 2) := by decide +kernel
theorem dX10_sameOf_19 : decode cX10_sameOf 19 = .ok (.iload_n 1, 1) := by decide +kernel
theorem dX10_sameOf_20 : decode cX10_sameOf 20 = .ok (.imul, 1) := by decide +kernel
theorem dX10_sameOf_21 : decode cX10_sameOf 21 = .ok (.iload_n 3, 1) := by decide +kernel
theorem dX10_sameOf_22 : decode cX10_sameOf 22 = .ok (.iadd, 1) := by decide +kernel
theorem dX10_sameOf_23 : decode cX10_sameOf 23 = .ok (.baload, 1) := by decide +kernel
theorem dX10_sameOf_24 : decode cX10_sameOf 24 = .ok (.ifCond .eq 7, 3) := by decide +kernel
theorem dX10_sameOf_27 : decode cX10_sameOf 27 = .ok (.iconst 1, 1) := by decide +kernel
theorem dX10_sameOf_28 : decode cX10_sameOf 28 = .ok (.goto 4, 3) := by decide +kernel
theorem dX10_sameOf_31 : decode cX10_sameOf 31 = .ok (.iconst 0, 1) := by decide +kernel
theorem dX10_sameOf_32 : decode cX10_sameOf 32 = .ok (.iadd, 1) := by decide +kernel
theorem dX10_sameOf_33 : decode cX10_sameOf 33 = .ok (.istore_n 2, 1) := by decide +kernel
theorem dX10_sameOf_34 : decode cX10_sameOf 34 = .ok (.iinc 3 1, 3) := by decide +kernel
theorem dX10_sameOf_37 : decode cX10_sameOf 37 = .ok (.goto (-33), 3) := by decide +kernel
theorem dX10_sameOf_40 : decode cX10_sameOf 40 = .ok (.iload_n 2, 1) := by decide +kernel
theorem dX10_sameOf_41 : decode cX10_sameOf 41 = .ok (.ireturn, 1) := by decide +kernel
theorem dX10_same_0 : decode cX10_same 0 = .ok (.aload_n 0, 1) := by decide +kernel
theorem dX10_same_1 : decode cX10_same 1 = .ok (.iconst 0, 1) := by decide +kernel
theorem dX10_same_2 : decode cX10_same 2 = .ok (.putfield 151, 3) := by decide +kernel
theorem dX10_same_5 : decode cX10_same 5 = .ok (.aload_n 0, 1) := by decide +kernel
theorem dX10_same_6 : decode cX10_same 6 = .ok (.iconst 0, 1) := by decide +kernel
theorem dX10_same_7 : decode cX10_same 7 = .ok (.invokevirtual 480, 3) := by decide +kernel
theorem dX10_same_10 : decode cX10_same 10 = .ok (.ireturn, 1) := by decide +kernel
theorem dX10_sameIn_0 : decode cX10_sameIn 0 = .ok (.aload_n 0, 1) := by decide +kernel
theorem dX10_sameIn_1 : decode cX10_sameIn 1 = .ok (.iconst 0, 1) := by decide +kernel
theorem dX10_sameIn_2 : decode cX10_sameIn 2 = .ok (.putfield 151, 3) := by decide +kernel
theorem dX10_sameIn_5 : decode cX10_sameIn 5 = .ok (.iload_n 1, 1) := by decide +kernel
theorem dX10_sameIn_6 : decode cX10_sameIn 6 = .ok (.iconst 0, 1) := by decide +kernel
theorem dX10_sameIn_7 : decode cX10_sameIn 7 = .ok (.sipush 999, 3) := by decide +kernel
theorem dX10_sameIn_10 : decode cX10_sameIn 10 = .ok (.invokestatic 196, 3) := by decide +kernel
theorem dX10_sameIn_13 : decode cX10_sameIn 13 = .ok (.ifCond .ne 5, 3) := by decide +kernel
theorem dX10_sameIn_16 : decode cX10_sameIn 16 = .ok (.iconst (-1), 1) := by decide +kernel
theorem dX10_sameIn_17 : decode cX10_sameIn 17 = .ok (.ireturn, 1) := by decide +kernel
theorem dX10_sameIn_18 : decode cX10_sameIn 18 = .ok (.aload_n 0, 1) := by decide +kernel
theorem dX10_sameIn_19 : decode cX10_sameIn 19 = .ok (.invokevirtual 453, 3) := by decide +kernel
theorem dX10_sameIn_22 : decode cX10_sameIn 22 = .ok (.iconst 0, 1) := by decide +kernel
theorem dX10_sameIn_23 : decode cX10_sameIn 23 = .ok (.istore_n 2, 1) := by decide +kernel
theorem dX10_sameIn_24 : decode cX10_sameIn 24 = .ok (.iload_n 2, 1) := by decide +kernel
theorem dX10_sameIn_25 : decode cX10_sameIn 25 = .ok (.iload_n 1, 1) := by decide +kernel
theorem dX10_sameIn_26 : decode cX10_sameIn 26 = .ok (.if_icmp .ge 14, 3) := by decide +kernel
theorem dX10_sameIn_29 : decode cX10_sameIn 29 = .ok (.aload_n 0, 1) := by decide +kernel
theorem dX10_sameIn_30 : decode cX10_sameIn 30 = .ok (.iconst 1, 1) := by decide +kernel
theorem dX10_sameIn_31 : decode cX10_sameIn 31 = .ok (.invokevirtual 430, 3) := by decide +kernel
theorem dX10_sameIn_34 : decode cX10_sameIn 34 = .ok (.iinc 2 1, 3) := by decide +kernel
theorem dX10_sameIn_37 : decode cX10_sameIn 37 = .ok (.goto (-13), 3) := by decide +kernel
theorem dX10_sameIn_40 : decode cX10_sameIn 40 = .ok (.aload_n 0, 1) := by decide +kernel
theorem dX10_sameIn_41 : decode cX10_sameIn 41 = .ok (.iconst 1, 1) := by decide +kernel
theorem dX10_sameIn_42 : decode cX10_sameIn 42 = .ok (.invokevirtual 480, 3) := by decide +kernel
theorem dX10_sameIn_45 : decode cX10_sameIn 45 = .ok (.ireturn, 1) := by decide +kernel
theorem dX10_noneLeft_0 : decode cX10_noneLeft 0 = .ok (.aload_n 0, 1) := by decide +kernel
theorem dX10_noneLeft_1 : decode cX10_noneLeft 1 = .ok (.iconst 0, 1) := by decide +kernel
theorem dX10_noneLeft_2 : decode cX10_noneLeft 2 = .ok (.putfield 151, 3) := by decide +kernel
theorem dX10_noneLeft_5 : decode cX10_noneLeft 5 = .ok (.aload_n 0, 1) := by decide +kernel
theorem dX10_noneLeft_6 : decode cX10_noneLeft 6 = .ok (.invokevirtual 453, 3) := by decide +kernel
theorem dX10_noneLeft_9 : decode cX10_noneLeft 9 = .ok (.iconst 0, 1) := by decide +kernel
theorem dX10_noneLeft_10 : decode cX10_noneLeft 10 = .ok (.istore_n 1, 1) := by decide +kernel
theorem dX10_noneLeft_11 : decode cX10_noneLeft 11 = .ok (.iload_n 1, 1) := by decide +kernel
theorem dX10_noneLeft_12 : decode cX10_noneLeft 12 = .ok (.sipush 999, 3) := by decide +kernel
theorem dX10_noneLeft_15 : decode cX10_noneLeft 15 = .ok (.if_icmp .gt 24, 3) := by decide +kernel
theorem dX10_noneLeft_18 : decode cX10_noneLeft 18 = .ok (.aload_n 0, 1) := by decide +kernel
theorem dX10_noneLeft_19 : decode cX10_noneLeft 19 = .ok (.iconst 1, 1) := by decide +kernel
theorem dX10_noneLeft_20 : decode cX10_noneLeft 20 = .ok (.invokevirtual 480, 3) := by decide +kernel
theorem dX10_noneLeft_23 : decode cX10_noneLeft 23 = .ok (.ifCond .ne 5, 3) := by decide +kernel
theorem dX10_noneLeft_26 : decode cX10_noneLeft 26 = .ok (.iload_n 1, 1) := by decide +kernel
theorem dX10_noneLeft_27 : decode cX10_noneLeft 27 = .ok (.ireturn, 1) := by decide +kernel
theorem dX10_noneLeft_28 : decode cX10_noneLeft 28 = .ok (.aload_n 0, 1) := by decide +kernel
theorem dX10_noneLeft_29 : decode cX10_noneLeft 29 = .ok (.iconst 1, 1) := by decide +kernel
theorem dX10_noneLeft_30 : decode cX10_noneLeft 30 = .ok (.invokevirtual 430, 3) := by decide +kernel
theorem dX10_noneLeft_33 : decode cX10_noneLeft 33 = .ok (.iinc 1 1, 3) := by decide +kernel
theorem dX10_noneLeft_36 : decode cX10_noneLeft 36 = .ok (.goto (-25), 3) := by decide +kernel
theorem dX10_noneLeft_39 : decode cX10_noneLeft 39 = .ok (.bipush (-2), 2) := by decide +kernel
theorem dX10_noneLeft_41 : decode cX10_noneLeft 41 = .ok (.ireturn, 1) := by decide +kernel
theorem dX10_nextPart_0 : decode cX10_nextPart 0 = .ok (.aload_n 0, 1) := by decide +kernel
theorem dX10_nextPart_1 : decode cX10_nextPart 1 = .ok (.iconst 0, 1) := by decide +kernel
theorem dX10_nextPart_2 : decode cX10_nextPart 2 = .ok (.putfield 151, 3) := by decide +kernel
theorem dX10_nextPart_5 : decode cX10_nextPart 5 = .ok (.iload_n 1, 1) := by decide +kernel
theorem dX10_nextPart_6 : decode cX10_nextPart 6 = .ok (.iconst 0, 1) := by decide +kernel
theorem dX10_nextPart_7 : decode cX10_nextPart 7 = .ok (.iconst 1, 1) := by decide +kernel
theorem dX10_nextPart_8 : decode cX10_nextPart 8 = .ok (.invokestatic 196, 3) := by decide +kernel
theorem dX10_nextPart_11 : decode cX10_nextPart 11 = .ok (.ifCond .ne 5, 3) := by decide +kernel
theorem dX10_nextPart_14 : decode cX10_nextPart 14 = .ok (.iconst (-1), 1) := by decide +kernel
theorem dX10_nextPart_15 : decode cX10_nextPart 15 = .ok (.ireturn, 1) := by decide +kernel
theorem dX10_nextPart_16 : decode cX10_nextPart 16 = .ok (.bipush (-2), 2) := by decide +kernel
theorem dX10_nextPart_18 : decode cX10_nextPart 18 = .ok (.istore_n 2, 1) := by decide +kernel
theorem dX10_nextPart_19 : decode cX10_nextPart 19 = .ok (.bipush (-2), 2) := by decide +kernel
theorem dX10_nextPart_21 : decode cX10_nextPart 21 = .ok (.istore_n 3, 1) := by decide +kernel
theorem dX10_nextPart_22 : decode cX10_nextPart 22 = .ok (.iconst 0, 1) := by decide +kernel
theorem dX10_nextPart_23 : decode cX10_nextPart 23 = .ok (.istore 4, 2) := by decide +kernel
theorem dX10_nextPart_25 : decode cX10_nextPart 25 = .ok (.iload 4, 2) := by decide +kernel
theorem dX10_nextPart_27 : decode cX10_nextPart 27 = .ok (.aload_n 0, 1) := by decide +kernel
theorem dX10_nextPart_28 : decode cX10_nextPart 28 = .ok (.getfield 228, 3) := by decide +kernel
theorem dX10_nextPart_31 : decode cX10_nextPart 31 = .ok (.if_icmp .ge 59, 3) := by decide +kernel
theorem dX10_nextPart_34 : decode cX10_nextPart 34 = .ok (.aload_n 0, 1) := by decide +kernel
theorem dX10_nextPart_35 : decode cX10_nextPart 35 = .ok (.getfield 48, 3) := by decide +kernel
theorem dX10_nextPart_38 : decode cX10_nextPart 38 = .ok (.iload 4, 2) := by decide +kernel
theorem dX10_nextPart_40 : decode cX10_nextPart 40 = .ok (.iaload, 1) := by decide +kernel
theorem dX10_nextPart_41 : decode cX10_nextPart 41 = .ok (.aload_n 0, 1) := by decide +kernel
theorem dX10_nextPart_42 : decode cX10_nextPart 42 = .ok (.getfield 103, 3) := by decide +kernel
theorem dX10_nextPart_45 : decode cX10_nextPart 45 = .ok (.iload 4, 2) := by decide +kernel
theorem dX10_nextPart_47 : decode cX10_nextPart 47 = .ok (.iaload, 1) := by decide +kernel
theorem dX10_nextPart_48 : decode cX10_nextPart 48 = .ok (.isub, 1) := by decide +kernel
theorem dX10_nextPart_49 : decode cX10_nextPart 49 = .ok (.istore 5, 2) := by decide +kernel
theorem dX10_nextPart_51 : decode cX10_nextPart 51 = .ok (.iload 5, 2) := by decide +kernel
theorem dX10_nextPart_53 : decode cX10_nextPart 53 = .ok (.iconst 1, 1) := by decide +kernel
theorem dX10_nextPart_54 : decode cX10_nextPart 54 = .ok (.if_icmp .ge 7, 3) := by decide +kernel
theorem dX10_nextPart_57 : decode cX10_nextPart 57 = .ok (.iconst 1, 1) := by decide +kernel
theorem dX10_nextPart_58 : decode cX10_nextPart 58 = .ok (.goto 5, 3) := by decide +kernel
theorem dX10_nextPart_61 : decode cX10_nextPart 61 = .ok (.iload 5, 2) := by decide +kernel
theorem dX10_nextPart_63 : decode cX10_nextPart 63 = .ok (.istore 5, 2) := by decide +kernel
theorem dX10_nextPart_65 : decode cX10_nextPart 65 = .ok (.iload_n 2, 1) := by decide +kernel
theorem dX10_nextPart_66 : decode cX10_nextPart 66 = .ok (.ifCond .lt 12, 3) := by decide +kernel
theorem dX10_nextPart_69 : decode cX10_nextPart 69 = .ok (.iload 5, 2) := by decide +kernel
theorem dX10_nextPart_71 : decode cX10_nextPart 71 = .ok (.iload_n 3, 1) := by decide +kernel
theorem dX10_nextPart_72 : decode cX10_nextPart 72 = .ok (.if_icmp .lt 6, 3) := by decide +kernel
theorem dX10_nextPart_75 : decode cX10_nextPart 75 = .ok (.goto 9, 3) := by decide +kernel
theorem dX10_nextPart_78 : decode cX10_nextPart 78 = .ok (.iload 4, 2) := by decide +kernel
theorem dX10_nextPart_80 : decode cX10_nextPart 80 = .ok (.istore_n 2, 1) := by decide +kernel
theorem dX10_nextPart_81 : decode cX10_nextPart 81 = .ok (.iload 5, 2) := by decide +kernel
theorem dX10_nextPart_83 : decode cX10_nextPart 83 = .ok (.istore_n 3, 1) := by decide +kernel
theorem dX10_nextPart_84 : decode cX10_nextPart 84 = .ok (.iinc 4 1, 3) := by decide +kernel
theorem dX10_nextPart_87 : decode cX10_nextPart 87 = .ok (.goto (-62), 3) := by decide +kernel
theorem dX10_nextPart_90 : decode cX10_nextPart 90 = .ok (.iload_n 1, 1) := by decide +kernel
theorem dX10_nextPart_91 : decode cX10_nextPart 91 = .ok (.ifCond .ne 7, 3) := by decide +kernel
theorem dX10_nextPart_94 : decode cX10_nextPart 94 = .ok (.iload_n 2, 1) := by decide +kernel
theorem dX10_nextPart_95 : decode cX10_nextPart 95 = .ok (.goto 4, 3) := by decide +kernel
theorem dX10_nextPart_98 : decode cX10_nextPart 98 = .ok (.iload_n 3, 1) := by decide +kernel
theorem dX10_nextPart_99 : decode cX10_nextPart 99 = .ok (.ireturn, 1) := by decide +kernel
theorem dX10_lives_0 : decode cX10_lives 0 = .ok (.aload_n 0, 1) := by decide +kernel
theorem dX10_lives_1 : decode cX10_lives 1 = .ok (.iconst 0, 1) := by decide +kernel
theorem dX10_lives_2 : decode cX10_lives 2 = .ok (.putfield 151, 3) := by decide +kernel
theorem dX10_lives_5 : decode cX10_lives 5 = .ok (.aload_n 0, 1) := by decide +kernel
theorem dX10_lives_6 : decode cX10_lives 6 = .ok (.iload_n 1, 1) := by decide +kernel
theorem dX10_lives_7 : decode cX10_lives 7 = .ok (.invokevirtual 444, 3) := by decide +kernel
theorem dX10_lives_10 : decode cX10_lives 10 = .ok (.ifCond .eq 22, 3) := by decide +kernel
theorem dX10_lives_13 : decode cX10_lives 13 = .ok (.iload_n 2, 1) := by decide +kernel
theorem dX10_lives_14 : decode cX10_lives 14 = .ok (.iconst 0, 1) := by decide +kernel
theorem dX10_lives_15 : decode cX10_lives 15 = .ok (.bipush 6, 2) := by decide +kernel
theorem dX10_lives_17 : decode cX10_lives 17 = .ok (.invokestatic 196, 3) := by decide +kernel
theorem dX10_lives_20 : decode cX10_lives 20 = .ok (.ifCond .eq 12, 3) := by decide +kernel
theorem dX10_lives_23 : decode cX10_lives 23 = .ok (.iload_n 3, 1) := by decide +kernel
theorem dX10_lives_24 : decode cX10_lives 24 = .ok (.iconst 0, 1) := by decide +kernel
theorem dX10_lives_25 : decode cX10_lives 25 = .ok (.iconst 1, 1) := by decide +kernel
theorem dX10_lives_26 : decode cX10_lives 26 = .ok (.invokestatic 196, 3) := by decide +kernel
theorem dX10_lives_29 : decode cX10_lives 29 = .ok (.ifCond .ne 7, 3) := by decide +kernel
theorem dX10_lives_32 : decode cX10_lives 32 = .ok (.ldc2_w 483, 3) := by decide +kernel
theorem dX10_lives_35 : decode cX10_lives 35 = .ok (.lreturn, 1) := by decide +kernel
theorem dX10_lives_36 : decode cX10_lives 36 = .ok (.aload_n 0, 1) := by decide +kernel
theorem dX10_lives_37 : decode cX10_lives 37 = .ok (.invokevirtual 453, 3) := by decide +kernel
theorem dX10_lives_40 : decode cX10_lives 40 = .ok (.lconst 1, 1) := by decide +kernel
theorem dX10_lives_41 : decode cX10_lives 41 = .ok (.lstore 4, 2) := by decide +kernel
theorem dX10_lives_43 : decode cX10_lives 43 = .ok (.lconst 1, 1) := by decide +kernel
theorem dX10_lives_44 : decode cX10_lives 44 = .ok (.lstore 6, 2) := by decide +kernel
theorem dX10_lives_46 : decode cX10_lives 46 = .ok (.iconst 0, 1) := by decide +kernel
theorem dX10_lives_47 : decode cX10_lives 47 = .ok (.istore 8, 2) := by decide +kernel
theorem dX10_lives_49 : decode cX10_lives 49 = .ok (.iload 8, 2) := by decide +kernel
theorem dX10_lives_51 : decode cX10_lives 51 = .ok (.iload_n 2, 1) := by decide +kernel
theorem dX10_lives_52 : decode cX10_lives 52 = .ok (.if_icmp .ge 71, 3) := by decide +kernel
theorem dX10_lives_55 : decode cX10_lives 55 = .ok (.aload_n 0, 1) := by decide +kernel
theorem dX10_lives_56 : decode cX10_lives 56 = .ok (.getfield 88, 3) := by decide +kernel
theorem dX10_lives_59 : decode cX10_lives 59 = .ok (.bipush 6, 2) := by decide +kernel
theorem dX10_lives_61 : decode cX10_lives 61 = .ok (.iload_n 1, 1) := by decide +kernel
