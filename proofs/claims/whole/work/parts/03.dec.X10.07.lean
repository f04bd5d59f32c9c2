theorem dX10_lives_62 : decode cX10_lives 62 = .ok (.iadd, 1) := by decide +kernel
theorem dX10_lives_63 : decode cX10_lives 63 = .ok (.aload_n 0, 1) := by decide +kernel
theorem dX10_lives_64 : decode cX10_lives 64 = .ok (.getfield 88, 3) := by decide +kernel
theorem dX10_lives_67 : decode cX10_lives 67 = .ok (.bipush 6, 2) := by decide +kernel
theorem dX10_lives_69 : decode cX10_lives 69 = .ok (.iload_n 1, 1) := by decide +kernel
theorem dX10_lives_70 : decode cX10_lives 70 = .ok (.iadd, 1) := by decide +kernel
theorem dX10_lives_71 : decode cX10_lives 71 = .ok (.iaload, 1) := by decide +kernel
theorem dX10_lives_72 : decode cX10_lives 72 = .ok (.bipush 99, 2) := by decide +kernel
theorem dX10_lives_74 : decode cX10_lives 74 = .ok (.if_icmp .ge 17, 3) := by decide +kernel
theorem dX10_lives_77 : decode cX10_lives 77 = .ok (.aload_n 0, 1) := by decide +kernel
theorem dX10_lives_78 : decode cX10_lives 78 = .ok (.getfield 88, 3) := by decide +kernel
theorem dX10_lives_81 : decode cX10_lives 81 = .ok (.bipush 6, 2) := by decide +kernel
theorem dX10_lives_83 : decode cX10_lives 83 = .ok (.iload_n 1, 1) := by decide +kernel
theorem dX10_lives_84 : decode cX10_lives 84 = .ok (.iadd, 1) := by decide +kernel
theorem dX10_lives_85 : decode cX10_lives 85 = .ok (.iaload, 1) := by decide +kernel
theorem dX10_lives_86 : decode cX10_lives 86 = .ok (.iconst 1, 1) := by decide +kernel
theorem dX10_lives_87 : decode cX10_lives 87 = .ok (.iadd, 1) := by decide +kernel
theorem dX10_lives_88 : decode cX10_lives 88 = .ok (.goto 5, 3) := by decide +kernel
theorem dX10_lives_91 : decode cX10_lives 91 = .ok (.bipush 99, 2) := by decide +kernel
theorem dX10_lives_93 : decode cX10_lives 93 = .ok (.iastore, 1) := by decide +kernel
theorem dX10_lives_94 : decode cX10_lives 94 = .ok (.lload 4, 2) := by decide +kernel
theorem dX10_lives_96 : decode cX10_lives 96 = .ok (.bipush 100, 2) := by decide +kernel
theorem dX10_lives_98 : decode cX10_lives 98 = .ok (.aload_n 0, 1) := by decide +kernel
theorem dX10_lives_99 : decode cX10_lives 99 = .ok (.iconst 1, 1) := by decide +kernel
theorem dX10_lives_100 : decode cX10_lives 100 = .ok (.iload_n 1, 1) := by decide +kernel
theorem dX10_lives_101 : decode cX10_lives 101 = .ok (.invokevirtual 394, 3) := by decide +kernel
theorem dX10_lives_104 : decode cX10_lives 104 = .ok (.isub, 1) := by decide +kernel
theorem dX10_lives_105 : decode cX10_lives 105 = .ok (.i2l, 1) := by decide +kernel
theorem dX10_lives_106 : decode cX10_lives 106 = .ok (.lmul, 1) := by decide +kernel
theorem dX10_lives_107 : decode cX10_lives 107 = .ok (.lstore 4, 2) := by decide +kernel
theorem dX10_lives_109 : decode cX10_lives 109 = .ok (.lload 6, 2) := by decide +kernel
theorem dX10_lives_111 : decode cX10_lives 111 = .ok (.ldc2_w 485, 3) := by decide +kernel
theorem dX10_lives_114 : decode cX10_lives 114 = .ok (.lmul, 1) := by decide +kernel
theorem dX10_lives_115 : decode cX10_lives 115 = .ok (.lstore 6, 2) := by decide +kernel
theorem dX10_lives_117 : decode cX10_lives 117 = .ok (.iinc 8 1, 3) := by decide +kernel
theorem dX10_lives_120 : decode cX10_lives 120 = .ok (.goto (-71), 3) := by decide +kernel
theorem dX10_lives_123 : decode cX10_lives 123 = .ok (.lload 6, 2) := by decide +kernel
theorem dX10_lives_125 : decode cX10_lives 125 = .ok (.lstore 8, 2) := by decide +kernel
theorem dX10_lives_127 : decode cX10_lives 127 = .ok (.lload 4, 2) := by decide +kernel
theorem dX10_lives_129 : decode cX10_lives 129 = .ok (.lstore 10, 2) := by decide +kernel
theorem dX10_lives_131 : decode cX10_lives 131 = .ok (.lload 10, 2) := by decide +kernel
theorem dX10_lives_133 : decode cX10_lives 133 = .ok (.lconst 0, 1) := by decide +kernel
theorem dX10_lives_134 : decode cX10_lives 134 = .ok (.lcmp, 1) := by decide +kernel
theorem dX10_lives_135 : decode cX10_lives 135 = .ok (.ifCond .eq 21, 3) := by decide +kernel
theorem dX10_lives_138 : decode cX10_lives 138 = .ok (.lload 8, 2) := by decide +kernel
theorem dX10_lives_140 : decode cX10_lives 140 = .ok (.lload 10, 2) := by decide +kernel
theorem dX10_lives_142 : decode cX10_lives 142 = .ok (.lrem, 1) := by decide +kernel
theorem dX10_lives_143 : decode cX10_lives 143 = .ok (.lstore 12, 2) := by decide +kernel
theorem dX10_lives_145 : decode cX10_lives 145 = .ok (.lload 10, 2) := by decide +kernel
theorem dX10_lives_147 : decode cX10_lives 147 = .ok (.lstore 8, 2) := by decide +kernel
theorem dX10_lives_149 : decode cX10_lives 149 = .ok (.lload 12, 2) := by decide +kernel
theorem dX10_lives_151 : decode cX10_lives 151 = .ok (.lstore 10, 2) := by decide +kernel
theorem dX10_lives_153 : decode cX10_lives 153 = .ok (.goto (-22), 3) := by decide +kernel
theorem dX10_lives_156 : decode cX10_lives 156 = .ok (.iload_n 3, 1) := by decide +kernel
theorem dX10_lives_157 : decode cX10_lives 157 = .ok (.ifCond .ne 11, 3) := by decide +kernel
theorem dX10_lives_160 : decode cX10_lives 160 = .ok (.lload 4, 2) := by decide +kernel
theorem dX10_lives_162 : decode cX10_lives 162 = .ok (.lload 8, 2) := by decide +kernel
theorem dX10_lives_164 : decode cX10_lives 164 = .ok (.ldiv, 1) := by decide +kernel
theorem dX10_lives_165 : decode cX10_lives 165 = .ok (.goto 8, 3) := by decide +kernel
theorem dX10_lives_168 : decode cX10_lives 168 = .ok (.lload 6, 2) := by decide +kernel
theorem dX10_lives_170 : decode cX10_lives 170 = .ok (.lload 8, 2) := by decide +kernel
theorem dX10_lives_172 : decode cX10_lives 172 = .ok (.ldiv, 1) := by decide +kernel
theorem dX10_lives_173 : decode cX10_lives 173 = .ok (.lreturn, 1) := by decide +kernel
theorem dX10_shares_0 : decode cX10_shares 0 = .ok (.aload_n 0, 1) := by decide +kernel
theorem dX10_shares_1 : decode cX10_shares 1 = .ok (.iconst 0, 1) := by decide +kernel
theorem dX10_shares_2 : decode cX10_shares 2 = .ok (.putfield 151, 3) := by decide +kernel
theorem dX10_shares_5 : decode cX10_shares 5 = .ok (.aload_n 0, 1) := by decide +kernel
theorem dX10_shares_6 : decode cX10_shares 6 = .ok (.iload_n 1, 1) := by decide +kernel
theorem dX10_shares_7 : decode cX10_shares 7 = .ok (.iload_n 2, 1) := by decide +kernel
theorem dX10_shares_8 : decode cX10_shares 8 = .ok (.invokevirtual 447, 3) := by decide +kernel
theorem dX10_shares_11 : decode cX10_shares 11 = .ok (.ifCond .ne 5, 3) := by decide +kernel
theorem dX10_shares_14 : decode cX10_shares 14 = .ok (.iconst (-1), 1) := by decide +kernel
theorem dX10_shares_15 : decode cX10_shares 15 = .ok (.ireturn, 1) := by decide +kernel
theorem dX10_shares_16 : decode cX10_shares 16 = .ok (.aload_n 0, 1) := by decide +kernel
theorem dX10_shares_17 : decode cX10_shares 17 = .ok (.iconst 1, 1) := by decide +kernel
theorem dX10_shares_18 : decode cX10_shares 18 = .ok (.iload_n 1, 1) := by decide +kernel
theorem dX10_shares_19 : decode cX10_shares 19 = .ok (.ishl, 1) := by decide +kernel
theorem dX10_shares_20 : decode cX10_shares 20 = .ok (.invokevirtual 477, 3) := by decide +kernel
theorem dX10_shares_23 : decode cX10_shares 23 = .ok (.istore_n 3, 1) := by decide +kernel
theorem dX10_shares_24 : decode cX10_shares 24 = .ok (.aload_n 0, 1) := by decide +kernel
theorem dX10_shares_25 : decode cX10_shares 25 = .ok (.iconst 1, 1) := by decide +kernel
theorem dX10_shares_26 : decode cX10_shares 26 = .ok (.iload_n 2, 1) := by decide +kernel
theorem dX10_shares_27 : decode cX10_shares 27 = .ok (.ishl, 1) := by decide +kernel
theorem dX10_shares_28 : decode cX10_shares 28 = .ok (.invokevirtual 477, 3) := by decide +kernel
theorem dX10_shares_31 : decode cX10_shares 31 = .ok (.istore 4, 2) := by decide +kernel
theorem dX10_shares_33 : decode cX10_shares 33 = .ok (.iload_n 3, 1) := by decide +kernel
theorem dX10_shares_34 : decode cX10_shares 34 = .ok (.aload_n 0, 1) := by decide +kernel
theorem dX10_shares_35 : decode cX10_shares 35 = .ok (.iconst 1, 1) := by decide +kernel
theorem dX10_shares_36 : decode cX10_shares 36 = .ok (.iload_n 1, 1) := by decide +kernel
theorem dX10_shares_37 : decode cX10_shares 37 = .ok (.ishl, 1) := by decide +kernel
theorem dX10_shares_38 : decode cX10_shares 38 = .ok (.iconst 1, 1) := by decide +kernel
theorem dX10_shares_39 : decode cX10_shares 39 = .ok (.iload_n 2, 1) := by decide +kernel
theorem dX10_shares_40 : decode cX10_shares 40 = .ok (.ishl, 1) := by decide +kernel
theorem dX10_shares_41 : decode cX10_shares 41 = .ok (.ior, 1) := by decide +kernel
theorem dX10_shares_42 : decode cX10_shares 42 = .ok (.invokevirtual 477, 3) := by decide +kernel
theorem dX10_shares_45 : decode cX10_shares 45 = .ok (.iload_n 3, 1) := by decide +kernel
theorem dX10_shares_46 : decode cX10_shares 46 = .ok (.isub, 1) := by decide +kernel
theorem dX10_shares_47 : decode cX10_shares 47 = .ok (.iload 4, 2) := by decide +kernel
theorem dX10_shares_49 : decode cX10_shares 49 = .ok (.isub, 1) := by decide +kernel
theorem dX10_shares_50 : decode cX10_shares 50 = .ok (.iconst 2, 1) := by decide +kernel
theorem dX10_shares_51 : decode cX10_shares 51 = .ok (.idiv, 1) := by decide +kernel
theorem dX10_shares_52 : decode cX10_shares 52 = .ok (.iadd, 1) := by decide +kernel
theorem dX10_shares_53 : decode cX10_shares 53 = .ok (.ireturn, 1) := by decide +kernel
theorem dX10_turn_0 : decode cX10_turn 0 = .ok (.aload_n 0, 1) := by decide +kernel
theorem dX10_turn_1 : decode cX10_turn 1 = .ok (.iconst 0, 1) := by decide +kernel
theorem dX10_turn_2 : decode cX10_turn 2 = .ok (.putfield 151, 3) := by decide +kernel
theorem dX10_turn_5 : decode cX10_turn 5 = .ok (.aload_n 0, 1) := by decide +kernel
theorem dX10_turn_6 : decode cX10_turn 6 = .ok (.iconst 0, 1) := by decide +kernel
theorem dX10_turn_7 : decode cX10_turn 7 = .ok (.invokevirtual 421, 3) := by decide +kernel
theorem dX10_turn_10 : decode cX10_turn 10 = .ok (.istore_n 1, 1) := by decide +kernel
theorem dX10_turn_11 : decode cX10_turn 11 = .ok (.iload_n 1, 1) := by decide +kernel
theorem dX10_turn_12 : decode cX10_turn 12 = .ok (.ifCond .ge 8, 3) := by decide +kernel
theorem dX10_turn_15 : decode cX10_turn 15 = .ok (.bipush (-2), 2) := by decide +kernel
theorem dX10_turn_17 : decode cX10_turn 17 = .ok (.goto 4, 3) := by decide +kernel
theorem dX10_turn_20 : decode cX10_turn 20 = .ok (.iload_n 1, 1) := by decide +kernel
theorem dX10_turn_21 : decode cX10_turn 21 = .ok (.ireturn, 1) := by decide +kernel
theorem dX10_nextRaise_0 : decode cX10_nextRaise 0 = .ok (.aload_n 0, 1) := by decide +kernel
theorem dX10_nextRaise_1 : decode cX10_nextRaise 1 = .ok (.iconst 0, 1) := by decide +kernel
theorem dX10_nextRaise_2 : decode cX10_nextRaise 2 = .ok (.putfield 151, 3) := by decide +kernel
theorem dX10_nextRaise_5 : decode cX10_nextRaise 5 = .ok (.iload_n 1, 1) := by decide +kernel
theorem dX10_nextRaise_6 : decode cX10_nextRaise 6 = .ok (.iconst 0, 1) := by decide +kernel
theorem dX10_nextRaise_7 : decode cX10_nextRaise 7 = .ok (.iconst 1, 1) := by decide +kernel
theorem dX10_nextRaise_8 : decode cX10_nextRaise 8 = .ok (.invokestatic 196, 3) := by decide +kernel
theorem dX10_nextRaise_11 : decode cX10_nextRaise 11 = .ok (.ifCond .ne 5, 3) := by decide +kernel
theorem dX10_nextRaise_14 : decode cX10_nextRaise 14 = .ok (.iconst (-1), 1) := by decide +kernel
theorem dX10_nextRaise_15 : decode cX10_nextRaise 15 = .ok (.ireturn, 1) := by decide +kernel
theorem dX10_nextRaise_16 : decode cX10_nextRaise 16 = .ok (.aload_n 0, 1) := by decide +kernel
theorem dX10_nextRaise_17 : decode cX10_nextRaise 17 = .ok (.invokevirtual 453, 3) := by decide +kernel
theorem dX10_nextRaise_20 : decode cX10_nextRaise 20 = .ok (.iconst 1, 1) := by decide +kernel
theorem dX10_nextRaise_21 : decode cX10_nextRaise 21 = .ok (.istore_n 2, 1) := by decide +kernel
theorem dX10_nextRaise_22 : decode cX10_nextRaise 22 = .ok (.iload_n 2, 1) := by decide +kernel
theorem dX10_nextRaise_23 : decode cX10_nextRaise 23 = .ok (.bipush 99, 2) := by decide +kernel
theorem dX10_nextRaise_25 : decode cX10_nextRaise 25 = .ok (.if_icmp .gt 34, 3) := by decide +kernel
theorem dX10_nextRaise_28 : decode cX10_nextRaise 28 = .ok (.aload_n 0, 1) := by decide +kernel
theorem dX10_nextRaise_29 : decode cX10_nextRaise 29 = .ok (.iconst 1, 1) := by decide +kernel
theorem dX10_nextRaise_30 : decode cX10_nextRaise 30 = .ok (.invokevirtual 433, 3) := by decide +kernel
theorem dX10_nextRaise_33 : decode cX10_nextRaise 33 = .ok (.aload_n 0, 1) := by decide +kernel
theorem dX10_nextRaise_34 : decode cX10_nextRaise 34 = .ok (.getfield 412, 3) := by decide +kernel
theorem dX10_nextRaise_37 : decode cX10_nextRaise 37 = .ok (.ifCond .lt 16, 3) := by decide +kernel
theorem dX10_nextRaise_40 : decode cX10_nextRaise 40 = .ok (.iload_n 1, 1) := by decide +kernel
theorem dX10_nextRaise_41 : decode cX10_nextRaise 41 = .ok (.ifCond .ne 7, 3) := by decide +kernel
theorem dX10_nextRaise_44 : decode cX10_nextRaise 44 = .ok (.iload_n 2, 1) := by decide +kernel
theorem dX10_nextRaise_45 : decode cX10_nextRaise 45 = .ok (.goto 7, 3) := by decide +kernel
theorem dX10_nextRaise_48 : decode cX10_nextRaise 48 = .ok (.aload_n 0, 1) := by decide +kernel
theorem dX10_nextRaise_49 : decode cX10_nextRaise 49 = .ok (.getfield 412, 3) := by decide +kernel
theorem dX10_nextRaise_52 : decode cX10_nextRaise 52 = .ok (.ireturn, 1) := by decide +kernel
theorem dX10_nextRaise_53 : decode cX10_nextRaise 53 = .ok (.iinc 2 1, 3) := by decide +kernel
theorem dX10_nextRaise_56 : decode cX10_nextRaise 56 = .ok (.goto (-34), 3) := by decide +kernel
theorem dX10_nextRaise_59 : decode cX10_nextRaise 59 = .ok (.bipush (-2), 2) := by decide +kernel
theorem dX10_nextRaise_61 : decode cX10_nextRaise 61 = .ok (.ireturn, 1) := by decide +kernel
theorem dX10_rival_0 : decode cX10_rival 0 = .ok (.aload_n 0, 1) := by decide +kernel
theorem dX10_rival_1 : decode cX10_rival 1 = .ok (.iconst 0, 1) := by decide +kernel
theorem dX10_rival_2 : decode cX10_rival 2 = .ok (.putfield 151, 3) := by decide +kernel
theorem dX10_rival_5 : decode cX10_rival 5 = .ok (.aload_n 0, 1) := by decide +kernel
theorem dX10_rival_6 : decode cX10_rival 6 = .ok (.iload_n 1, 1) := by decide +kernel
theorem dX10_rival_7 : decode cX10_rival 7 = .ok (.invokevirtual 368, 3) := by decide +kernel
theorem dX10_rival_10 : decode cX10_rival 10 = .ok (.ifCond .ne 5, 3) := by decide +kernel
theorem dX10_rival_13 : decode cX10_rival 13 = .ok (.iconst (-1), 1) := by decide +kernel
theorem dX10_rival_14 : decode cX10_rival 14 = .ok (.ireturn, 1) := by decide +kernel
theorem dX10_rival_15 : decode cX10_rival 15 = .ok (.bipush (-2), 2) := by decide +kernel
theorem dX10_rival_17 : decode cX10_rival 17 = .ok (.istore_n 2, 1) := by decide +kernel
theorem dX10_rival_18 : decode cX10_rival 18 = .ok (.iconst 0, 1) := by decide +kernel
theorem dX10_rival_19 : decode cX10_rival 19 = .ok (.istore_n 3, 1) := by decide +kernel
theorem dX10_rival_20 : decode cX10_rival 20 = .ok (.iload_n 3, 1) := by decide +kernel
theorem dX10_rival_21 : decode cX10_rival 21 = .ok (.aload_n 0, 1) := by decide +kernel
theorem dX10_rival_22 : decode cX10_rival 22 = .ok (.getfield 225, 3) := by decide +kernel
theorem dX10_rival_25 : decode cX10_rival 25 = .ok (.if_icmp .ge 48, 3) := by decide +kernel
theorem dX10_rival_28 : decode cX10_rival 28 = .ok (.iload_n 3, 1) := by decide +kernel
theorem dX10_rival_29 : decode cX10_rival 29 = .ok (.iload_n 1, 1) := by decide +kernel
theorem dX10_rival_30 : decode cX10_rival 30 = .ok (.if_icmp .eq 35, 3) := by decide +kernel
theorem dX10_rival_33 : decode cX10_rival 33 = .ok (.aload_n 0, 1) := by decide +kernel
theorem dX10_rival_34 : decode cX10_rival 34 = .ok (.getfield 94, 3) := by decide +kernel
theorem dX10_rival_37 : decode cX10_rival 37 = .ok (.iload_n 3, 1) := by decide +kernel
theorem dX10_rival_38 : decode cX10_rival 38 = .ok (.baload, 1) := by decide +kernel
theorem dX10_rival_39 : decode cX10_rival 39 = .ok (.ifCond .eq 26, 3) := by decide +kernel
theorem dX10_rival_42 : decode cX10_rival 42 = .ok (.iload_n 2, 1) := by decide +kernel
theorem dX10_rival_43 : decode cX10_rival 43 = .ok (.ifCond .lt 18, 3) := by decide +kernel
theorem dX10_rival_46 : decode cX10_rival 46 = .ok (.aload_n 0, 1) := by decide +kernel
theorem dX10_rival_47 : decode cX10_rival 47 = .ok (.getfield 85, 3) := by decide +kernel
theorem dX10_rival_50 : decode cX10_rival 50 = .ok (.iload_n 3, 1) := by decide +kernel
theorem dX10_rival_51 : decode cX10_rival 51 = .ok (.iaload, 1) := by decide +kernel
theorem dX10_rival_52 : decode cX10_rival 52 = .ok (.aload_n 0, 1) := by decide +kernel
theorem dX10_rival_53 : decode cX10_rival 53 = .ok (.getfield 85, 3) := by decide +kernel
theorem dX10_rival_56 : decode cX10_rival 56 = .ok (.iload_n 2, 1) := by decide +kernel
theorem dX10_rival_57 : decode cX10_rival 57 = .ok (.iaload, 1) := by decide +kernel
theorem dX10_rival_58 : decode cX10_rival 58 = .ok (.if_icmp .le 7, 3) := by decide +kernel
theorem dX10_rival_61 : decode cX10_rival 61 = .ok (.iload_n 3, 1) := by decide +kernel
theorem dX10_rival_62 : decode cX10_rival 62 = .ok (.goto 4, 3) := by decide +kernel
theorem dX10_rival_65 : decode cX10_rival 65 = .ok (.iload_n 2, 1) := by decide +kernel
theorem dX10_rival_66 : decode cX10_rival 66 = .ok (.istore_n 2, 1) := by decide +kernel
theorem dX10_rival_67 : decode cX10_rival 67 = .ok (.iinc 3 1, 3) := by decide +kernel
theorem dX10_rival_70 : decode cX10_rival 70 = .ok (.goto (-50), 3) := by decide +kernel
theorem dX10_rival_73 : decode cX10_rival 73 = .ok (.iload_n 2, 1) := by decide +kernel
theorem dX10_rival_74 : decode cX10_rival 74 = .ok (.ireturn, 1) := by decide +kernel
theorem dX10_left_0 : decode cX10_left 0 = .ok (.aload_n 0, 1) := by decide +kernel
theorem dX10_left_1 : decode cX10_left 1 = .ok (.iconst 0, 1) := by decide +kernel
theorem dX10_left_2 : decode cX10_left 2 = .ok (.putfield 151, 3) := by decide +kernel
theorem dX10_left_5 : decode cX10_left 5 = .ok (.iload_n 1, 1) := by decide +kernel
theorem dX10_left_6 : decode cX10_left 6 = .ok (.iconst 0, 1) := by decide +kernel
theorem dX10_left_7 : decode cX10_left 7 = .ok (.bipush 99, 2) := by decide +kernel
theorem dX10_left_9 : decode cX10_left 9 = .ok (.invokestatic 196, 3) := by decide +kernel
theorem dX10_left_12 : decode cX10_left 12 = .ok (.ifCond .ne 5, 3) := by decide +kernel
theorem dX10_left_15 : decode cX10_left 15 = .ok (.iconst (-1), 1) := by decide +kernel
theorem dX10_left_16 : decode cX10_left 16 = .ok (.ireturn, 1) := by decide +kernel
theorem dX10_left_17 : decode cX10_left 17 = .ok (.aload_n 0, 1) := by decide +kernel
theorem dX10_left_18 : decode cX10_left 18 = .ok (.invokevirtual 453, 3) := by decide +kernel
theorem dX10_left_21 : decode cX10_left 21 = .ok (.aload_n 0, 1) := by decide +kernel
theorem dX10_left_22 : decode cX10_left 22 = .ok (.iload_n 1, 1) := by decide +kernel
theorem dX10_left_23 : decode cX10_left 23 = .ok (.invokevirtual 456, 3) := by decide +kernel
theorem dX10_left_26 : decode cX10_left 26 = .ok (.iconst 0, 1) := by decide +kernel
theorem dX10_left_27 : decode cX10_left 27 = .ok (.istore_n 2, 1) := by decide +kernel
theorem dX10_left_28 : decode cX10_left 28 = .ok (.iconst 0, 1) := by decide +kernel
theorem dX10_left_29 : decode cX10_left 29 = .ok (.istore_n 3, 1) := by decide +kernel
theorem dX10_left_30 : decode cX10_left 30 = .ok (.iload_n 3, 1) := by decide +kernel
theorem dX10_left_31 : decode cX10_left 31 = .ok (.aload_n 0, 1) := by decide +kernel
theorem dX10_left_32 : decode cX10_left 32 = .ok (.getfield 225, 3) := by decide +kernel
theorem dX10_left_35 : decode cX10_left 35 = .ok (.if_icmp .ge 28, 3) := by decide +kernel
theorem dX10_left_38 : decode cX10_left 38 = .ok (.iload_n 2, 1) := by decide +kernel
theorem dX10_left_39 : decode cX10_left 39 = .ok (.aload_n 0, 1) := by decide +kernel
theorem dX10_left_40 : decode cX10_left 40 = .ok (.iconst 1, 1) := by decide +kernel
theorem dX10_left_41 : decode cX10_left 41 = .ok (.iload_n 3, 1) := by decide +kernel
theorem dX10_left_42 : decode cX10_left 42 = .ok (.invokevirtual 400, 3) := by decide +kernel
theorem dX10_left_45 : decode cX10_left 45 = .ok (.ifCond .eq 9, 3) := by decide +kernel
theorem dX10_left_48 : decode cX10_left 48 = .ok (.iconst 1, 1) := by decide +kernel
theorem dX10_left_49 : decode cX10_left 49 = .ok (.iload_n 3, 1) := by decide +kernel
theorem dX10_left_50 : decode cX10_left 50 = .ok (.ishl, 1) := by decide +kernel
theorem dX10_left_51 : decode cX10_left 51 = .ok (.goto 4, 3) := by decide +kernel
theorem dX10_left_54 : decode cX10_left 54 = .ok (.iconst 0, 1) := by decide +kernel
theorem dX10_left_55 : decode cX10_left 55 = .ok (.ior, 1) := by decide +kernel
theorem dX10_left_56 : decode cX10_left 56 = .ok (.istore_n 2, 1) := by decide +kernel
theorem dX10_left_57 : decode cX10_left 57 = .ok (.iinc 3 1, 3) := by decide +kernel
theorem dX10_left_60 : decode cX10_left 60 = .ok (.goto (-30), 3) := by decide +kernel
theorem dX10_left_63 : decode cX10_left 63 = .ok (.iload_n 2, 1) := by decide +kernel
theorem dX10_left_64 : decode cX10_left 64 = .ok (.ireturn, 1) := by decide +kernel
theorem dX10_atMost_0 : decode cX10_atMost 0 = .ok (.aload_n 0, 1) := by decide +kernel
theorem dX10_atMost_1 : decode cX10_atMost 1 = .ok (.iconst 0, 1) := by decide +kernel
theorem dX10_atMost_2 : decode cX10_atMost 2 = .ok (.putfield 151, 3) := by decide +kernel
theorem dX10_atMost_5 : decode cX10_atMost 5 = .ok (.aload_n 0, 1) := by decide +kernel
theorem dX10_atMost_6 : decode cX10_atMost 6 = .ok (.invokevirtual 453, 3) := by decide +kernel
theorem dX10_atMost_9 : decode cX10_atMost 9 = .ok (.aload_n 0, 1) := by decide +kernel
theorem dX10_atMost_10 : decode cX10_atMost 10 = .ok (.iconst 1, 1) := by decide +kernel
theorem dX10_atMost_11 : decode cX10_atMost 11 = .ok (.putfield 356, 3) := by decide +kernel
theorem dX10_atMost_14 : decode cX10_atMost 14 = .ok (.aload_n 0, 1) := by decide +kernel
theorem dX10_atMost_15 : decode cX10_atMost 15 = .ok (.sipush 999, 3) := by decide +kernel
theorem dX10_atMost_18 : decode cX10_atMost 18 = .ok (.invokevirtual 462, 3) := by decide +kernel
theorem dX10_atMost_21 : decode cX10_atMost 21 = .ok (.istore_n 1, 1) := by decide +kernel
theorem dX10_atMost_22 : decode cX10_atMost 22 = .ok (.aload_n 0, 1) := by decide +kernel
theorem dX10_atMost_23 : decode cX10_atMost 23 = .ok (.invokevirtual 341, 3) := by decide +kernel
theorem dX10_atMost_26 : decode cX10_atMost 26 = .ok (.iload_n 1, 1) := by decide +kernel
theorem dX10_atMost_27 : decode cX10_atMost 27 = .ok (.ireturn, 1) := by decide +kernel
theorem dX10_noted_0 : decode cX10_noted 0 = .ok (.aload_n 0, 1) := by decide +kernel
theorem dX10_noted_1 : decode cX10_noted 1 = .ok (.getfield 130, 3) := by decide +kernel
theorem dX10_noted_4 : decode cX10_noted 4 = .ok (.iconst 3, 1) := by decide +kernel
theorem dX10_noted_5 : decode cX10_noted 5 = .ok (.aload_n 0, 1) := by decide +kernel
theorem dX10_noted_6 : decode cX10_noted 6 = .ok (.getfield 344, 3) := by decide +kernel
theorem dX10_noted_9 : decode cX10_noted 9 = .ok (.imul, 1) := by decide +kernel
theorem dX10_noted_10 : decode cX10_noted 10 = .ok (.iload_n 1, 1) := by decide +kernel
theorem dX10_noted_11 : decode cX10_noted 11 = .ok (.iastore, 1) := by decide +kernel
theorem dX10_noted_12 : decode cX10_noted 12 = .ok (.aload_n 0, 1) := by decide +kernel
theorem dX10_noted_13 : decode cX10_noted 13 = .ok (.getfield 130, 3) := by decide +kernel
theorem dX10_noted_16 : decode cX10_noted 16 = .ok (.iconst 3, 1) := by decide +kernel
theorem dX10_noted_17 : decode cX10_noted 17 = .ok (.aload_n 0, 1) := by decide +kernel
theorem dX10_noted_18 : decode cX10_noted 18 = .ok (.getfield 344, 3) := by decide +kernel
theorem dX10_noted_21 : decode cX10_noted 21 = .ok (.imul, 1) := by decide +kernel
theorem dX10_noted_22 : decode cX10_noted 22 = .ok (.iconst 1, 1) := by decide +kernel
theorem dX10_noted_23 : decode cX10_noted 23 = .ok (.iadd, 1) := by decide +kernel
theorem dX10_noted_24 : decode cX10_noted 24 = .ok (.iload_n 2, 1) := by decide +kernel
theorem dX10_noted_25 : decode cX10_noted 25 = .ok (.iastore, 1) := by decide +kernel
theorem dX10_noted_26 : decode cX10_noted 26 = .ok (.aload_n 0, 1) := by decide +kernel
theorem dX10_noted_27 : decode cX10_noted 27 = .ok (.getfield 130, 3) := by decide +kernel
theorem dX10_noted_30 : decode cX10_noted 30 = .ok (.iconst 3, 1) := by decide +kernel
theorem dX10_noted_31 : decode cX10_noted 31 = .ok (.aload_n 0, 1) := by decide +kernel
theorem dX10_noted_32 : decode cX10_noted 32 = .ok (.getfield 344, 3) := by decide +kernel
theorem dX10_noted_35 : decode cX10_noted 35 = .ok (.imul, 1) := by decide +kernel
theorem dX10_noted_36 : decode cX10_noted 36 = .ok (.iconst 2, 1) := by decide +kernel
theorem dX10_noted_37 : decode cX10_noted 37 = .ok (.iadd, 1) := by decide +kernel
theorem dX10_noted_38 : decode cX10_noted 38 = .ok (.iload_n 3, 1) := by decide +kernel
theorem dX10_noted_39 : decode cX10_noted 39 = .ok (.iastore, 1) := by decide +kernel
theorem dX10_noted_40 : decode cX10_noted 40 = .ok (.aload_n 0, 1) := by decide +kernel
theorem dX10_noted_41 : decode cX10_noted 41 = .ok (.dup, 1) := by decide +kernel
theorem dX10_noted_42 : decode cX10_noted 42 = .ok (.getfield 344, 3) := by decide +kernel
theorem dX10_noted_45 : decode cX10_noted 45 = .ok (.iconst 1, 1) := by decide +kernel
theorem dX10_noted_46 : decode cX10_noted 46 = .ok (.iadd, 1) := by decide +kernel
theorem dX10_noted_47 : decode cX10_noted 47 = .ok (.putfield 344, 3) := by decide +kernel
theorem dX10_noted_50 : decode cX10_noted 50 = .ok (.aload_n 0, 1) := by decide +kernel
theorem dX10_noted_51 : decode cX10_noted 51 = .ok (.getfield 344, 3) := by decide +kernel
theorem dX10_noted_54 : decode cX10_noted 54 = .ok (.iconst 1, 1) := by decide +kernel
theorem dX10_noted_55 : decode cX10_noted 55 = .ok (.isub, 1) := by decide +kernel
theorem dX10_noted_56 : decode cX10_noted 56 = .ok (.ireturn, 1) := by decide +kernel
theorem dX10_see_0 : decode cX10_see 0 = .ok (.aload_n 0, 1) := by decide +kernel
theorem dX10_see_1 : decode cX10_see 1 = .ok (.iconst 0, 1) := by decide +kernel
theorem dX10_see_2 : decode cX10_see 2 = .ok (.putfield 151, 3) := by decide +kernel
theorem dX10_see_5 : decode cX10_see 5 = .ok (.aload_n 0, 1) := by decide +kernel
theorem dX10_see_6 : decode cX10_see 6 = .ok (.getfield 344, 3) := by decide +kernel
theorem dX10_see_9 : decode cX10_see 9 = .ok (.bipush 24, 2) := by decide +kernel
theorem dX10_see_11 : decode cX10_see 11 = .ok (.if_icmp .eq 24, 3) := by decide +kernel
theorem dX10_see_14 : decode cX10_see 14 = .ok (.iload_n 1, 1) := by decide +kernel
theorem dX10_see_15 : decode cX10_see 15 = .ok (.iconst 1, 1) := by decide +kernel
theorem dX10_see_16 : decode cX10_see 16 = .ok (.bipush 99, 2) := by decide +kernel
theorem dX10_see_18 : decode cX10_see 18 = .ok (.invokestatic 196, 3) := by decide +kernel
theorem dX10_see_21 : decode cX10_see 21 = .ok (.ifCond .eq 14, 3) := by decide +kernel
theorem dX10_see_24 : decode cX10_see 24 = .ok (.iload_n 2, 1) := by decide +kernel
theorem dX10_see_25 : decode cX10_see 25 = .ok (.iconst 0, 1) := by decide +kernel
theorem dX10_see_26 : decode cX10_see 26 = .ok (.sipush 9999, 3) := by decide +kernel
theorem dX10_see_29 : decode cX10_see 29 = .ok (.invokestatic 196, 3) := by decide +kernel
theorem dX10_see_32 : decode cX10_see 32 = .ok (.ifCond .ne 7, 3) := by decide +kernel
theorem dX10_see_35 : decode cX10_see 35 = .ok (.iconst (-1), 1) := by decide +kernel
theorem dX10_see_36 : decode cX10_see 36 = .ok (.goto 18, 3) := by decide +kernel
theorem dX10_see_39 : decode cX10_see 39 = .ok (.aload_n 0, 1) := by decide +kernel
theorem dX10_see_40 : decode cX10_see 40 = .ok (.iload_n 1, 1) := by decide +kernel
theorem dX10_see_41 : decode cX10_see 41 = .ok (.iload_n 2, 1) := by decide +kernel
theorem dX10_see_42 : decode cX10_see 42 = .ok (.iload_n 3, 1) := by decide +kernel
theorem dX10_see_43 : decode cX10_see 43 = .ok (.ifCond .eq 7, 3) := by decide +kernel
theorem dX10_see_46 : decode cX10_see 46 = .ok (.iconst 1, 1) := by decide +kernel
theorem dX10_see_47 : decode cX10_see 47 = .ok (.goto 4, 3) := by decide +kernel
theorem dX10_see_50 : decode cX10_see 50 = .ok (.iconst 0, 1) := by decide +kernel
theorem dX10_see_51 : decode cX10_see 51 = .ok (.invokevirtual 487, 3) := by decide +kernel
theorem dX10_see_54 : decode cX10_see 54 = .ok (.ireturn, 1) := by decide +kernel
theorem dX10_strike_0 : decode cX10_strike 0 = .ok (.aload_n 0, 1) := by decide +kernel
theorem dX10_strike_1 : decode cX10_strike 1 = .ok (.iconst 0, 1) := by decide +kernel
theorem dX10_strike_2 : decode cX10_strike 2 = .ok (.putfield 151, 3) := by decide +kernel
theorem dX10_strike_5 : decode cX10_strike 5 = .ok (.aload_n 0, 1) := by decide +kernel
theorem dX10_strike_6 : decode cX10_strike 6 = .ok (.getfield 344, 3) := by decide +kernel
theorem dX10_strike_9 : decode cX10_strike 9 = .ok (.bipush 24, 2) := by decide +kernel
theorem dX10_strike_11 : decode cX10_strike 11 = .ok (.if_icmp .eq 15, 3) := by decide +kernel
theorem dX10_strike_14 : decode cX10_strike 14 = .ok (.iload_n 1, 1) := by decide +kernel
theorem dX10_strike_15 : decode cX10_strike 15 = .ok (.ifCond .lt 11, 3) := by decide +kernel
theorem dX10_strike_18 : decode cX10_strike 18 = .ok (.iload_n 1, 1) := by decide +kernel
theorem dX10_strike_19 : decode cX10_strike 19 = .ok (.aload_n 0, 1) := by decide +kernel
theorem dX10_strike_20 : decode cX10_strike 20 = .ok (.getfield 344, 3) := by decide +kernel
theorem dX10_strike_23 : decode cX10_strike 23 = .ok (.if_icmp .lt 7, 3) := by decide +kernel
theorem dX10_strike_26 : decode cX10_strike 26 = .ok (.iconst (-1), 1) := by decide +kernel
theorem dX10_strike_27 : decode cX10_strike 27 = .ok (.goto 10, 3) := by decide +kernel
theorem dX10_strike_30 : decode cX10_strike 30 = .ok (.aload_n 0, 1) := by decide +kernel
theorem dX10_strike_31 : decode cX10_strike 31 = .ok (.iconst (-1), 1) := by decide +kernel
theorem dX10_strike_32 : decode cX10_strike 32 = .ok (.iload_n 1, 1) := by decide +kernel
theorem dX10_strike_33 : decode cX10_strike 33 = .ok (.iconst 0, 1) := by decide +kernel
theorem dX10_strike_34 : decode cX10_strike 34 = .ok (.invokevirtual 487, 3) := by decide +kernel
theorem dX10_strike_37 : decode cX10_strike 37 = .ok (.ireturn, 1) := by decide +kernel
theorem dX10_known_0 : decode cX10_known 0 = .ok (.aload_n 0, 1) := by decide +kernel
theorem dX10_known_1 : decode cX10_known 1 = .ok (.iconst 0, 1) := by decide +kernel
theorem dX10_known_2 : decode cX10_known 2 = .ok (.putfield 151, 3) := by decide +kernel
theorem dX10_known_5 : decode cX10_known 5 = .ok (.iload_n 1, 1) := by decide +kernel
theorem dX10_known_6 : decode cX10_known 6 = .ok (.iconst (-1), 1) := by decide +kernel
theorem dX10_known_7 : decode cX10_known 7 = .ok (.aload_n 0, 1) := by decide +kernel
theorem dX10_known_8 : decode cX10_known 8 = .ok (.getfield 344, 3) := by decide +kernel
theorem dX10_known_11 : decode cX10_known 11 = .ok (.invokestatic 196, 3) := by decide +kernel
theorem dX10_known_14 : decode cX10_known 14 = .ok (.ifCond .ne 5, 3) := by decide +kernel
theorem dX10_known_17 : decode cX10_known 17 = .ok (.iconst 0, 1) := by decide +kernel
theorem dX10_known_18 : decode cX10_known 18 = .ok (.ireturn, 1) := by decide +kernel
theorem dX10_known_19 : decode cX10_known 19 = .ok (.aload_n 0, 1) := by decide +kernel
theorem dX10_known_20 : decode cX10_known 20 = .ok (.iload_n 1, 1) := by decide +kernel
theorem dX10_known_21 : decode cX10_known 21 = .ok (.putfield 127, 3) := by decide +kernel
theorem dX10_known_24 : decode cX10_known 24 = .ok (.iconst 1, 1) := by decide +kernel
theorem dX10_known_25 : decode cX10_known 25 = .ok (.ireturn, 1) := by decide +kernel
theorem dX10_knownBy_0 : decode cX10_knownBy 0 = .ok (.aload_n 0, 1) := by decide +kernel
theorem dX10_knownBy_1 : decode cX10_knownBy 1 = .ok (.getfield 127, 3) := by decide +kernel
theorem dX10_knownBy_4 : decode cX10_knownBy 4 = .ok (.ifCond .ge 10, 3) := by decide +kernel
theorem dX10_knownBy_7 : decode cX10_knownBy 7 = .ok (.aload_n 0, 1) := by decide +kernel
theorem dX10_knownBy_8 : decode cX10_knownBy 8 = .ok (.getfield 344, 3) := by decide +kernel
theorem dX10_knownBy_11 : decode cX10_knownBy 11 = .ok (.goto 7, 3) := by decide +kernel
theorem dX10_knownBy_14 : decode cX10_knownBy 14 = .ok (.aload_n 0, 1) := by decide +kernel
theorem dX10_knownBy_15 : decode cX10_knownBy 15 = .ok (.getfield 127, 3) := by decide +kernel
theorem dX10_knownBy_18 : decode cX10_knownBy 18 = .ok (.ireturn, 1) := by decide +kernel
theorem dX10_isSo_0 : decode cX10_isSo 0 = .ok (.iconst 0, 1) := by decide +kernel
theorem dX10_isSo_1 : decode cX10_isSo 1 = .ok (.istore_n 2, 1) := by decide +kernel
theorem dX10_isSo_2 : decode cX10_isSo 2 = .ok (.iload_n 2, 1) := by decide +kernel
theorem dX10_isSo_3 : decode cX10_isSo 3 = .ok (.aload_n 0, 1) := by decide +kernel
theorem dX10_isSo_4 : decode cX10_isSo 4 = .ok (.invokevirtual 490, 3) := by decide +kernel
theorem dX10_isSo_7 : decode cX10_isSo 7 = .ok (.if_icmp .ge 81, 3) := by decide +kernel
theorem dX10_isSo_10 : decode cX10_isSo 10 = .ok (.aload_n 0, 1) := by decide +kernel
theorem dX10_isSo_11 : decode cX10_isSo 11 = .ok (.getfield 133, 3) := by decide +kernel
theorem dX10_isSo_14 : decode cX10_isSo 14 = .ok (.iload_n 2, 1) := by decide +kernel
theorem dX10_isSo_15 : decode cX10_isSo 15 = .ok (.baload, 1) := by decide +kernel
theorem dX10_isSo_16 : decode cX10_isSo 16 = .ok (.ifCond .eq 66, 3) := by decide +kernel
theorem dX10_isSo_19 : decode cX10_isSo 19 = .ok (.aload_n 0, 1) := by decide +kernel
theorem dX10_isSo_20 : decode cX10_isSo 20 = .ok (.getfield 130, 3) := by decide +kernel
theorem dX10_isSo_23 : decode cX10_isSo 23 = .ok (.iconst 3, 1) := by decide +kernel
theorem dX10_isSo_24 : decode cX10_isSo 24 = .ok (.iload_n 2, 1) := by decide +kernel
theorem dX10_isSo_25 : decode cX10_isSo 25 = .ok (.imul, 1) := by decide +kernel
theorem dX10_isSo_26 : decode cX10_isSo 26 = .ok (.iaload, 1) := by decide +kernel
theorem dX10_isSo_27 : decode cX10_isSo 27 = .ok (.iload_n 1, 1) := by decide +kernel
theorem dX10_isSo_28 : decode cX10_isSo 28 = .ok (.if_icmp .eq 6, 3) := by decide +kernel
theorem dX10_isSo_31 : decode cX10_isSo 31 = .ok (.goto 51, 3) := by decide +kernel
theorem dX10_isSo_34 : decode cX10_isSo 34 = .ok (.aload_n 0, 1) := by decide +kernel
theorem dX10_isSo_35 : decode cX10_isSo 35 = .ok (.getfield 109, 3) := by decide +kernel
theorem dX10_isSo_38 : decode cX10_isSo 38 = .ok (.iconst 1, 1) := by decide +kernel
theorem dX10_isSo_39 : decode cX10_isSo 39 = .ok (.iaload, 1) := by decide +kernel
theorem dX10_isSo_40 : decode cX10_isSo 40 = .ok (.aload_n 0, 1) := by decide +kernel
theorem dX10_isSo_41 : decode cX10_isSo 41 = .ok (.getfield 130, 3) := by decide +kernel
theorem dX10_isSo_44 : decode cX10_isSo 44 = .ok (.iconst 3, 1) := by decide +kernel
theorem dX10_isSo_45 : decode cX10_isSo 45 = .ok (.iload_n 2, 1) := by decide +kernel
theorem dX10_isSo_46 : decode cX10_isSo 46 = .ok (.imul, 1) := by decide +kernel
theorem dX10_isSo_47 : decode cX10_isSo 47 = .ok (.iconst 1, 1) := by decide +kernel
theorem dX10_isSo_48 : decode cX10_isSo 48 = .ok (.iadd, 1) := by decide +kernel
theorem dX10_isSo_49 : decode cX10_isSo 49 = .ok (.iaload, 1) := by decide +kernel
theorem dX10_isSo_50 : decode cX10_isSo 50 = .ok (.if_icmp .lt 7, 3) := by decide +kernel
theorem dX10_isSo_53 : decode cX10_isSo 53 = .ok (.iconst 1, 1) := by decide +kernel
theorem dX10_isSo_54 : decode cX10_isSo 54 = .ok (.goto 4, 3) := by decide +kernel
theorem dX10_isSo_57 : decode cX10_isSo 57 = .ok (.iconst 0, 1) := by decide +kernel
theorem dX10_isSo_58 : decode cX10_isSo 58 = .ok (.aload_n 0, 1) := by decide +kernel
theorem dX10_isSo_59 : decode cX10_isSo 59 = .ok (.getfield 130, 3) := by decide +kernel
theorem dX10_isSo_62 : decode cX10_isSo 62 = .ok (.iconst 3, 1) := by decide +kernel
theorem dX10_isSo_63 : decode cX10_isSo 63 = .ok (.iload_n 2, 1) := by decide +kernel
theorem dX10_isSo_64 : decode cX10_isSo 64 = .ok (.imul, 1) := by decide +kernel
theorem dX10_isSo_65 : decode cX10_isSo 65 = .ok (.iconst 2, 1) := by decide +kernel
theorem dX10_isSo_66 : decode cX10_isSo 66 = .ok (.iadd, 1) := by decide +kernel
theorem dX10_isSo_67 : decode cX10_isSo 67 = .ok (.iaload, 1) := by decide +kernel
theorem dX10_isSo_68 : decode cX10_isSo 68 = .ok (.iconst 1, 1) := by decide +kernel
theorem dX10_isSo_69 : decode cX10_isSo 69 = .ok (.if_icmp .ne 7, 3) := by decide +kernel
theorem dX10_isSo_72 : decode cX10_isSo 72 = .ok (.iconst 1, 1) := by decide +kernel
theorem dX10_isSo_73 : decode cX10_isSo 73 = .ok (.goto 4, 3) := by decide +kernel
theorem dX10_isSo_76 : decode cX10_isSo 76 = .ok (.iconst 0, 1) := by decide +kernel
theorem dX10_isSo_77 : decode cX10_isSo 77 = .ok (.if_icmp .eq 5, 3) := by decide +kernel
theorem dX10_isSo_80 : decode cX10_isSo 80 = .ok (.iconst 0, 1) := by decide +kernel
theorem dX10_isSo_81 : decode cX10_isSo 81 = .ok (.ireturn, 1) := by decide +kernel
theorem dX10_isSo_82 : decode cX10_isSo 82 = .ok (.iinc 2 1, 3) := by decide +kernel
theorem dX10_isSo_85 : decode cX10_isSo 85 = .ok (.goto (-83), 3) := by decide +kernel
theorem dX10_isSo_88 : decode cX10_isSo 88 = .ok (.iconst 1, 1) := by decide +kernel
theorem dX10_isSo_89 : decode cX10_isSo 89 = .ok (.ireturn, 1) := by decide +kernel
theorem dX10_fits_0 : decode cX10_fits 0 = .ok (.aload_n 0, 1) := by decide +kernel
theorem dX10_fits_1 : decode cX10_fits 1 = .ok (.iconst 1, 1) := by decide +kernel
theorem dX10_fits_2 : decode cX10_fits 2 = .ok (.invokevirtual 334, 3) := by decide +kernel
theorem dX10_fits_5 : decode cX10_fits 5 = .ok (.aload_n 0, 1) := by decide +kernel
theorem dX10_fits_6 : decode cX10_fits 6 = .ok (.invokevirtual 341, 3) := by decide +kernel
theorem dX10_fits_9 : decode cX10_fits 9 = .ok (.aload_n 0, 1) := by decide +kernel
theorem dX10_fits_10 : decode cX10_fits 10 = .ok (.getfield 85, 3) := by decide +kernel
theorem dX10_fits_13 : decode cX10_fits 13 = .ok (.bipush 6, 2) := by decide +kernel
theorem dX10_fits_15 : decode cX10_fits 15 = .ok (.iload_n 1, 1) := by decide +kernel
theorem dX10_fits_16 : decode cX10_fits 16 = .ok (.iadd, 1) := by decide +kernel
theorem dX10_fits_17 : decode cX10_fits 17 = .ok (.iload_n 2, 1) := by decide +kernel
theorem dX10_fits_18 : decode cX10_fits 18 = .ok (.iastore, 1) := by decide +kernel
theorem dX10_fits_19 : decode cX10_fits 19 = .ok (.iconst 1, 1) := by decide +kernel
theorem dX10_fits_20 : decode cX10_fits 20 = .ok (.istore_n 3, 1) := by decide +kernel
theorem dX10_fits_21 : decode cX10_fits 21 = .ok (.iload_n 3, 1) := by decide +kernel
theorem dX10_fits_22 : decode cX10_fits 22 = .ok (.bipush 99, 2) := by decide +kernel
theorem dX10_fits_24 : decode cX10_fits 24 = .ok (.if_icmp .gt 24, 3) := by decide +kernel
theorem dX10_fits_27 : decode cX10_fits 27 = .ok (.aload_n 0, 1) := by decide +kernel
theorem dX10_fits_28 : decode cX10_fits 28 = .ok (.iconst 1, 1) := by decide +kernel
theorem dX10_fits_29 : decode cX10_fits 29 = .ok (.invokevirtual 433, 3) := by decide +kernel
theorem dX10_fits_32 : decode cX10_fits 32 = .ok (.aload_n 0, 1) := by decide +kernel
theorem dX10_fits_33 : decode cX10_fits 33 = .ok (.iload_n 3, 1) := by decide +kernel
theorem dX10_fits_34 : decode cX10_fits 34 = .ok (.invokevirtual 493, 3) := by decide +kernel
theorem dX10_fits_37 : decode cX10_fits 37 = .ok (.ifCond .ne 5, 3) := by decide +kernel
theorem dX10_fits_40 : decode cX10_fits 40 = .ok (.iconst 0, 1) := by decide +kernel
theorem dX10_fits_41 : decode cX10_fits 41 = .ok (.ireturn, 1) := by decide +kernel
theorem dX10_fits_42 : decode cX10_fits 42 = .ok (.iinc 3 1, 3) := by decide +kernel
theorem dX10_fits_45 : decode cX10_fits 45 = .ok (.goto (-24), 3) := by decide +kernel
theorem dX10_fits_48 : decode cX10_fits 48 = .ok (.iconst 1, 1) := by decide +kernel
theorem dX10_fits_49 : decode cX10_fits 49 = .ok (.ireturn, 1) := by decide +kernel
theorem dX10_bounds_0 : decode cX10_bounds 0 = .ok (.aload_n 0, 1) := by decide +kernel
theorem dX10_bounds_1 : decode cX10_bounds 1 = .ok (.iconst 0, 1) := by decide +kernel
theorem dX10_bounds_2 : decode cX10_bounds 2 = .ok (.putfield 151, 3) := by decide +kernel
theorem dX10_bounds_5 : decode cX10_bounds 5 = .ok (.aload_n 0, 1) := by decide +kernel
theorem dX10_bounds_6 : decode cX10_bounds 6 = .ok (.iload_n 1, 1) := by decide +kernel
theorem dX10_bounds_7 : decode cX10_bounds 7 = .ok (.invokevirtual 368, 3) := by decide +kernel
theorem dX10_bounds_10 : decode cX10_bounds 10 = .ok (.ifCond .ne 5, 3) := by decide +kernel
theorem dX10_bounds_13 : decode cX10_bounds 13 = .ok (.iconst (-1), 1) := by decide +kernel
theorem dX10_bounds_14 : decode cX10_bounds 14 = .ok (.ireturn, 1) := by decide +kernel
theorem dX10_bounds_15 : decode cX10_bounds 15 = .ok (.iconst 0, 1) := by decide +kernel
theorem dX10_bounds_16 : decode cX10_bounds 16 = .ok (.istore_n 2, 1) := by decide +kernel
theorem dX10_bounds_17 : decode cX10_bounds 17 = .ok (.iload_n 2, 1) := by decide +kernel
theorem dX10_bounds_18 : decode cX10_bounds 18 = .ok (.aload_n 0, 1) := by decide +kernel
theorem dX10_bounds_19 : decode cX10_bounds 19 = .ok (.invokevirtual 490, 3) := by decide +kernel
theorem dX10_bounds_22 : decode cX10_bounds 22 = .ok (.if_icmp .ge 16, 3) := by decide +kernel
theorem dX10_bounds_25 : decode cX10_bounds 25 = .ok (.aload_n 0, 1) := by decide +kernel
theorem dX10_bounds_26 : decode cX10_bounds 26 = .ok (.getfield 133, 3) := by decide +kernel
theorem dX10_bounds_29 : decode cX10_bounds 29 = .ok (.iload_n 2, 1) := by decide +kernel
theorem dX10_bounds_30 : decode cX10_bounds 30 = .ok (.iconst 1, 1) := by decide +kernel
theorem dX10_bounds_31 : decode cX10_bounds 31 = .ok (.bastore, 1) := by decide +kernel
theorem dX10_bounds_32 : decode cX10_bounds 32 = .ok (.iinc 2 1, 3) := by decide +kernel
theorem dX10_bounds_35 : decode cX10_bounds 35 = .ok (.goto (-18), 3) := by decide +kernel
theorem dX10_bounds_38 : decode cX10_bounds 38 = .ok (.aload_n 0, 1) := by decide +kernel
theorem dX10_bounds_39 : decode cX10_bounds 39 = .ok (.invokevirtual 490, 3) := by decide +kernel
theorem dX10_bounds_42 : decode cX10_bounds 42 = .ok (.iconst 1, 1) := by decide +kernel
theorem dX10_bounds_43 : decode cX10_bounds 43 = .ok (.isub, 1) := by decide +kernel
theorem dX10_bounds_44 : decode cX10_bounds 44 = .ok (.istore_n 2, 1) := by decide +kernel
theorem dX10_bounds_45 : decode cX10_bounds 45 = .ok (.iload_n 2, 1) := by decide +kernel
theorem dX10_bounds_46 : decode cX10_bounds 46 = .ok (.ifCond .lt 45, 3) := by decide +kernel
theorem dX10_bounds_49 : decode cX10_bounds 49 = .ok (.aload_n 0, 1) := by decide +kernel
theorem dX10_bounds_50 : decode cX10_bounds 50 = .ok (.getfield 133, 3) := by decide +kernel
theorem dX10_bounds_53 : decode cX10_bounds 53 = .ok (.iload_n 2, 1) := by decide +kernel
theorem dX10_bounds_54 : decode cX10_bounds 54 = .ok (.baload, 1) := by decide +kernel
theorem dX10_bounds_55 : decode cX10_bounds 55 = .ok (.ifCond .eq 30, 3) := by decide +kernel
theorem dX10_bounds_58 : decode cX10_bounds 58 = .ok (.aload_n 0, 1) := by decide +kernel
theorem dX10_bounds_59 : decode cX10_bounds 59 = .ok (.getfield 130, 3) := by decide +kernel
theorem dX10_bounds_62 : decode cX10_bounds 62 = .ok (.iconst 3, 1) := by decide +kernel
theorem dX10_bounds_63 : decode cX10_bounds 63 = .ok (.iload_n 2, 1) := by decide +kernel
theorem dX10_bounds_64 : decode cX10_bounds 64 = .ok (.imul, 1) := by decide +kernel
theorem dX10_bounds_65 : decode cX10_bounds 65 = .ok (.iaload, 1) := by decide +kernel
theorem dX10_bounds_66 : decode cX10_bounds 66 = .ok (.ifCond .ge 19, 3) := by decide +kernel
theorem dX10_bounds_69 : decode cX10_bounds 69 = .ok (.aload_n 0, 1) := by decide +kernel
theorem dX10_bounds_70 : decode cX10_bounds 70 = .ok (.getfield 133, 3) := by decide +kernel
theorem dX10_bounds_73 : decode cX10_bounds 73 = .ok (.aload_n 0, 1) := by decide +kernel
theorem dX10_bounds_74 : decode cX10_bounds 74 = .ok (.getfield 130, 3) := by decide +kernel
theorem dX10_bounds_77 : decode cX10_bounds 77 = .ok (.iconst 3, 1) := by decide +kernel
theorem dX10_bounds_78 : decode cX10_bounds 78 = .ok (.iload_n 2, 1) := by decide +kernel
theorem dX10_bounds_79 : decode cX10_bounds 79 = .ok (.imul, 1) := by decide +kernel
theorem dX10_bounds_80 : decode cX10_bounds 80 = .ok (.iconst 1, 1) := by decide +kernel
theorem dX10_bounds_81 : decode cX10_bounds 81 = .ok (.iadd, 1) := by decide +kernel
theorem dX10_bounds_82 : decode cX10_bounds 82 = .ok (.iaload, 1) := by decide +kernel
theorem dX10_bounds_83 : decode cX10_bounds 83 = .ok (.iconst 0, 1) := by decide +kernel
theorem dX10_bounds_84 : decode cX10_bounds 84 = .ok (.bastore, 1) := by decide +kernel
theorem dX10_bounds_85 : decode cX10_bounds 85 = .ok (.iinc 2 (-1), 3) := by decide +kernel
theorem dX10_bounds_88 : decode cX10_bounds 88 = .ok (.goto (-43), 3) := by decide +kernel
theorem dX10_bounds_91 : decode cX10_bounds 91 = .ok (.iconst 0, 1) := by decide +kernel
theorem dX10_bounds_92 : decode cX10_bounds 92 = .ok (.istore_n 2, 1) := by decide +kernel
theorem dX10_bounds_93 : decode cX10_bounds 93 = .ok (.iconst 0, 1) := by decide +kernel
theorem dX10_bounds_94 : decode cX10_bounds 94 = .ok (.istore_n 3, 1) := by decide +kernel
theorem dX10_bounds_95 : decode cX10_bounds 95 = .ok (.iload_n 3, 1) := by decide +kernel
theorem dX10_bounds_96 : decode cX10_bounds 96 = .ok (.bipush 10, 2) := by decide +kernel
theorem dX10_bounds_98 : decode cX10_bounds 98 = .ok (.if_icmp .ge 31, 3) := by decide +kernel
theorem dX10_bounds_101 : decode cX10_bounds 101 = .ok (.iload_n 2, 1) := by decide +kernel
theorem dX10_bounds_102 : decode cX10_bounds 102 = .ok (.aload_n 0, 1) := by decide +kernel
theorem dX10_bounds_103 : decode cX10_bounds 103 = .ok (.iload_n 1, 1) := by decide +kernel
theorem dX10_bounds_104 : decode cX10_bounds 104 = .ok (.bipush 20, 2) := by decide +kernel
theorem dX10_bounds_106 : decode cX10_bounds 106 = .ok (.iload_n 3, 1) := by decide +kernel
theorem dX10_bounds_107 : decode cX10_bounds 107 = .ok (.imul, 1) := by decide +kernel
theorem dX10_bounds_108 : decode cX10_bounds 108 = .ok (.invokevirtual 496, 3) := by decide +kernel
theorem dX10_bounds_111 : decode cX10_bounds 111 = .ok (.ifCond .eq 9, 3) := by decide +kernel
theorem dX10_bounds_114 : decode cX10_bounds 114 = .ok (.iconst 1, 1) := by decide +kernel
theorem dX10_bounds_115 : decode cX10_bounds 115 = .ok (.iload_n 3, 1) := by decide +kernel
theorem dX10_bounds_116 : decode cX10_bounds 116 = .ok (.ishl, 1) := by decide +kernel
theorem dX10_bounds_117 : decode cX10_bounds 117 = .ok (.goto 4, 3) := by decide +kernel
theorem dX10_bounds_120 : decode cX10_bounds 120 = .ok (.iconst 0, 1) := by decide +kernel
theorem dX10_bounds_121 : decode cX10_bounds 121 = .ok (.ior, 1) := by decide +kernel
theorem dX10_bounds_122 : decode cX10_bounds 122 = .ok (.istore_n 2, 1) := by decide +kernel
theorem dX10_bounds_123 : decode cX10_bounds 123 = .ok (.iinc 3 1, 3) := by decide +kernel
theorem dX10_bounds_126 : decode cX10_bounds 126 = .ok (.goto (-31), 3) := by decide +kernel
theorem dX10_bounds_129 : decode cX10_bounds 129 = .ok (.iload_n 2, 1) := by decide +kernel
theorem dX10_bounds_130 : decode cX10_bounds 130 = .ok (.ireturn, 1) := by decide +kernel
theorem dX10_chance_0 : decode cX10_chance 0 = .ok (.aload_n 0, 1) := by decide +kernel
theorem dX10_chance_1 : decode cX10_chance 1 = .ok (.iconst 0, 1) := by decide +kernel
theorem dX10_chance_2 : decode cX10_chance 2 = .ok (.putfield 151, 3) := by decide +kernel
theorem dX10_chance_5 : decode cX10_chance 5 = .ok (.iload_n 1, 1) := by decide +kernel
theorem dX10_chance_6 : decode cX10_chance 6 = .ok (.ifCond .lt 21, 3) := by decide +kernel
theorem dX10_chance_9 : decode cX10_chance 9 = .ok (.iload_n 2, 1) := by decide +kernel
theorem dX10_chance_10 : decode cX10_chance 10 = .ok (.iconst 1, 1) := by decide +kernel
theorem dX10_chance_11 : decode cX10_chance 11 = .ok (.bipush 99, 2) := by decide +kernel
theorem dX10_chance_13 : decode cX10_chance 13 = .ok (.invokestatic 196, 3) := by decide +kernel
theorem dX10_chance_16 : decode cX10_chance 16 = .ok (.ifCond .eq 11, 3) := by decide +kernel
theorem dX10_chance_19 : decode cX10_chance 19 = .ok (.aload_n 0, 1) := by decide +kernel
theorem dX10_chance_20 : decode cX10_chance 20 = .ok (.iload_n 3, 1) := by decide +kernel
theorem dX10_chance_21 : decode cX10_chance 21 = .ok (.invokevirtual 368, 3) := by decide +kernel
theorem dX10_chance_24 : decode cX10_chance 24 = .ok (.ifCond .ne 5, 3) := by decide +kernel
theorem dX10_chance_27 : decode cX10_chance 27 = .ok (.iconst (-1), 1) := by decide +kernel
theorem dX10_chance_28 : decode cX10_chance 28 = .ok (.ireturn, 1) := by decide +kernel
theorem dX10_chance_29 : decode cX10_chance 29 = .ok (.aload_n 0, 1) := by decide +kernel
theorem dX10_chance_30 : decode cX10_chance 30 = .ok (.getfield 337, 3) := by decide +kernel
theorem dX10_chance_33 : decode cX10_chance 33 = .ok (.lstore 4, 2) := by decide +kernel
theorem dX10_chance_35 : decode cX10_chance 35 = .ok (.aload_n 0, 1) := by decide +kernel
theorem dX10_chance_36 : decode cX10_chance 36 = .ok (.iload_n 1, 1) := by decide +kernel
theorem dX10_chance_37 : decode cX10_chance 37 = .ok (.i2l, 1) := by decide +kernel
theorem dX10_chance_38 : decode cX10_chance 38 = .ok (.putfield 337, 3) := by decide +kernel
theorem dX10_chance_41 : decode cX10_chance 41 = .ok (.iconst 0, 1) := by decide +kernel
theorem dX10_chance_42 : decode cX10_chance 42 = .ok (.istore 6, 2) := by decide +kernel
theorem dX10_chance_44 : decode cX10_chance 44 = .ok (.iconst 0, 1) := by decide +kernel
theorem dX10_chance_45 : decode cX10_chance 45 = .ok (.istore 7, 2) := by decide +kernel
theorem dX10_chance_47 : decode cX10_chance 47 = .ok (.iload 7, 2) := by decide +kernel
theorem dX10_chance_49 : decode cX10_chance 49 = .ok (.bipush 10, 2) := by decide +kernel
theorem dX10_chance_51 : decode cX10_chance 51 = .ok (.if_icmp .ge 45, 3) := by decide +kernel
theorem dX10_chance_54 : decode cX10_chance 54 = .ok (.aload_n 0, 1) := by decide +kernel
theorem dX10_chance_55 : decode cX10_chance 55 = .ok (.invokevirtual 453, 3) := by decide +kernel
theorem dX10_chance_58 : decode cX10_chance 58 = .ok (.aload_n 0, 1) := by decide +kernel
theorem dX10_chance_59 : decode cX10_chance 59 = .ok (.iconst 1, 1) := by decide +kernel
theorem dX10_chance_60 : decode cX10_chance 60 = .ok (.putfield 353, 3) := by decide +kernel
theorem dX10_chance_63 : decode cX10_chance 63 = .ok (.aload_n 0, 1) := by decide +kernel
theorem dX10_chance_64 : decode cX10_chance 64 = .ok (.iload_n 2, 1) := by decide +kernel
theorem dX10_chance_65 : decode cX10_chance 65 = .ok (.invokevirtual 456, 3) := by decide +kernel
theorem dX10_chance_68 : decode cX10_chance 68 = .ok (.iload 6, 2) := by decide +kernel
theorem dX10_chance_70 : decode cX10_chance 70 = .ok (.aload_n 0, 1) := by decide +kernel
theorem dX10_chance_71 : decode cX10_chance 71 = .ok (.getfield 94, 3) := by decide +kernel
theorem dX10_chance_74 : decode cX10_chance 74 = .ok (.bipush 6, 2) := by decide +kernel
theorem dX10_chance_76 : decode cX10_chance 76 = .ok (.iload_n 3, 1) := by decide +kernel
theorem dX10_chance_77 : decode cX10_chance 77 = .ok (.iadd, 1) := by decide +kernel
theorem dX10_chance_78 : decode cX10_chance 78 = .ok (.baload, 1) := by decide +kernel
theorem dX10_chance_79 : decode cX10_chance 79 = .ok (.ifCond .eq 7, 3) := by decide +kernel
theorem dX10_chance_82 : decode cX10_chance 82 = .ok (.iconst 1, 1) := by decide +kernel
theorem dX10_chance_83 : decode cX10_chance 83 = .ok (.goto 4, 3) := by decide +kernel
theorem dX10_chance_86 : decode cX10_chance 86 = .ok (.iconst 0, 1) := by decide +kernel
theorem dX10_chance_87 : decode cX10_chance 87 = .ok (.iadd, 1) := by decide +kernel
theorem dX10_chance_88 : decode cX10_chance 88 = .ok (.istore 6, 2) := by decide +kernel
theorem dX10_chance_90 : decode cX10_chance 90 = .ok (.iinc 7 1, 3) := by decide +kernel
theorem dX10_chance_93 : decode cX10_chance 93 = .ok (.goto (-46), 3) := by decide +kernel
theorem dX10_chance_96 : decode cX10_chance 96 = .ok (.aload_n 0, 1) := by decide +kernel
theorem dX10_chance_97 : decode cX10_chance 97 = .ok (.iconst 0, 1) := by decide +kernel
theorem dX10_chance_98 : decode cX10_chance 98 = .ok (.putfield 353, 3) := by decide +kernel
theorem dX10_chance_101 : decode cX10_chance 101 = .ok (.aload_n 0, 1) := by decide +kernel
theorem dX10_chance_102 : decode cX10_chance 102 = .ok (.lload 4, 2) := by decide +kernel
theorem dX10_chance_104 : decode cX10_chance 104 = .ok (.putfield 337, 3) := by decide +kernel
theorem dX10_chance_107 : decode cX10_chance 107 = .ok (.iload 6, 2) := by decide +kernel
theorem dX10_chance_109 : decode cX10_chance 109 = .ok (.ireturn, 1) := by decide +kernel
theorem dX10_tried_0 : decode cX10_tried 0 = .ok (.aload_n 0, 1) := by decide +kernel
theorem dX10_tried_1 : decode cX10_tried 1 = .ok (.iconst 0, 1) := by decide +kernel
theorem dX10_tried_2 : decode cX10_tried 2 = .ok (.putfield 151, 3) := by decide +kernel
theorem dX10_tried_5 : decode cX10_tried 5 = .ok (.iload_n 1, 1) := by decide +kernel
theorem dX10_tried_6 : decode cX10_tried 6 = .ok (.iconst 0, 1) := by decide +kernel
theorem dX10_tried_7 : decode cX10_tried 7 = .ok (.iconst 4, 1) := by decide +kernel
theorem dX10_tried_8 : decode cX10_tried 8 = .ok (.invokestatic 196, 3) := by decide +kernel
theorem dX10_tried_11 : decode cX10_tried 11 = .ok (.ifCond .eq 33, 3) := by decide +kernel
theorem dX10_tried_14 : decode cX10_tried 14 = .ok (.iload_n 3, 1) := by decide +kernel
theorem dX10_tried_15 : decode cX10_tried 15 = .ok (.iconst 0, 1) := by decide +kernel
theorem dX10_tried_16 : decode cX10_tried 16 = .ok (.bipush 99, 2) := by decide +kernel
theorem dX10_tried_18 : decode cX10_tried 18 = .ok (.invokestatic 196, 3) := by decide +kernel
theorem dX10_tried_21 : decode cX10_tried 21 = .ok (.ifCond .eq 23, 3) := by decide +kernel
theorem dX10_tried_24 : decode cX10_tried 24 = .ok (.iload_n 1, 1) := by decide +kernel
theorem dX10_tried_25 : decode cX10_tried 25 = .ok (.iconst 2, 1) := by decide +kernel
theorem dX10_tried_26 : decode cX10_tried 26 = .ok (.if_icmp .ne 14, 3) := by decide +kernel
theorem dX10_tried_29 : decode cX10_tried 29 = .ok (.aload_n 0, 1) := by decide +kernel
theorem dX10_tried_30 : decode cX10_tried 30 = .ok (.iload_n 2, 1) := by decide +kernel
theorem dX10_tried_31 : decode cX10_tried 31 = .ok (.invokevirtual 368, 3) := by decide +kernel
theorem dX10_tried_34 : decode cX10_tried 34 = .ok (.ifCond .ne 12, 3) := by decide +kernel
theorem dX10_tried_37 : decode cX10_tried 37 = .ok (.goto 7, 3) := by decide +kernel
theorem dX10_tried_40 : decode cX10_tried 40 = .ok (.iload_n 2, 1) := by decide +kernel
theorem dX10_tried_41 : decode cX10_tried 41 = .ok (.ifCond .eq 5, 3) := by decide +kernel
theorem dX10_tried_44 : decode cX10_tried 44 = .ok (.iconst (-1), 1) := by decide +kernel
theorem dX10_tried_45 : decode cX10_tried 45 = .ok (.ireturn, 1) := by decide +kernel
theorem dX10_tried_46 : decode cX10_tried 46 = .ok (.aload_n 0, 1) := by decide +kernel
theorem dX10_tried_47 : decode cX10_tried 47 = .ok (.invokevirtual 453, 3) := by decide +kernel
theorem dX10_tried_50 : decode cX10_tried 50 = .ok (.aload_n 0, 1) := by decide +kernel
theorem dX10_tried_51 : decode cX10_tried 51 = .ok (.iload_n 1, 1) := by decide +kernel
theorem dX10_tried_52 : decode cX10_tried 52 = .ok (.ifCond .ne 7, 3) := by decide +kernel
theorem dX10_tried_55 : decode cX10_tried 55 = .ok (.iconst 1, 1) := by decide +kernel
theorem dX10_tried_56 : decode cX10_tried 56 = .ok (.goto 4, 3) := by decide +kernel
theorem dX10_tried_59 : decode cX10_tried 59 = .ok (.iconst 0, 1) := by decide +kernel
theorem dX10_tried_60 : decode cX10_tried 60 = .ok (.putfield 356, 3) := by decide +kernel
theorem dX10_tried_63 : decode cX10_tried 63 = .ok (.aload_n 0, 1) := by decide +kernel
theorem dX10_tried_64 : decode cX10_tried 64 = .ok (.iload_n 1, 1) := by decide +kernel
theorem dX10_tried_65 : decode cX10_tried 65 = .ok (.iconst 1, 1) := by decide +kernel
theorem dX10_tried_66 : decode cX10_tried 66 = .ok (.if_icmp .ne 7, 3) := by decide +kernel
theorem dX10_tried_69 : decode cX10_tried 69 = .ok (.iconst 1, 1) := by decide +kernel
theorem dX10_tried_70 : decode cX10_tried 70 = .ok (.goto 4, 3) := by decide +kernel
theorem dX10_tried_73 : decode cX10_tried 73 = .ok (.iconst 0, 1) := by decide +kernel
theorem dX10_tried_74 : decode cX10_tried 74 = .ok (.putfield 359, 3) := by decide +kernel
theorem dX10_tried_77 : decode cX10_tried 77 = .ok (.aload_n 0, 1) := by decide +kernel
theorem dX10_tried_78 : decode cX10_tried 78 = .ok (.iload_n 1, 1) := by decide +kernel
theorem dX10_tried_79 : decode cX10_tried 79 = .ok (.iconst 2, 1) := by decide +kernel
theorem dX10_tried_80 : decode cX10_tried 80 = .ok (.if_icmp .ne 9, 3) := by decide +kernel
theorem dX10_tried_83 : decode cX10_tried 83 = .ok (.iconst 1, 1) := by decide +kernel
theorem dX10_tried_84 : decode cX10_tried 84 = .ok (.iload_n 2, 1) := by decide +kernel
theorem dX10_tried_85 : decode cX10_tried 85 = .ok (.ishl, 1) := by decide +kernel
theorem dX10_tried_86 : decode cX10_tried 86 = .ok (.goto 4, 3) := by decide +kernel
theorem dX10_tried_89 : decode cX10_tried 89 = .ok (.iconst 0, 1) := by decide +kernel
theorem dX10_tried_90 : decode cX10_tried 90 = .ok (.putfield 365, 3) := by decide +kernel
theorem dX10_tried_93 : decode cX10_tried 93 = .ok (.aload_n 0, 1) := by decide +kernel
theorem dX10_tried_94 : decode cX10_tried 94 = .ok (.iload_n 1, 1) := by decide +kernel
theorem dX10_tried_95 : decode cX10_tried 95 = .ok (.iconst 3, 1) := by decide +kernel
theorem dX10_tried_96 : decode cX10_tried 96 = .ok (.if_icmp .ne 7, 3) := by decide +kernel
theorem dX10_tried_99 : decode cX10_tried 99 = .ok (.iconst 1, 1) := by decide +kernel
theorem dX10_tried_100 : decode cX10_tried 100 = .ok (.goto 4, 3) := by decide +kernel
theorem dX10_tried_103 : decode cX10_tried 103 = .ok (.iconst 0, 1) := by decide +kernel
theorem dX10_tried_104 : decode cX10_tried 104 = .ok (.putfield 362, 3) := by decide +kernel
theorem dX10_tried_107 : decode cX10_tried 107 = .ok (.iconst 0, 1) := by decide +kernel
theorem dX10_tried_108 : decode cX10_tried 108 = .ok (.istore 4, 2) := by decide +kernel
theorem dX10_tried_110 : decode cX10_tried 110 = .ok (.iload 4, 2) := by decide +kernel
theorem dX10_tried_112 : decode cX10_tried 112 = .ok (.bipush 6, 2) := by decide +kernel
theorem dX10_tried_114 : decode cX10_tried 114 = .ok (.if_icmp .ge 27, 3) := by decide +kernel
theorem dX10_tried_117 : decode cX10_tried 117 = .ok (.iload_n 1, 1) := by decide +kernel
theorem dX10_tried_118 : decode cX10_tried 118 = .ok (.iconst 4, 1) := by decide +kernel
theorem dX10_tried_119 : decode cX10_tried 119 = .ok (.if_icmp .ne 22, 3) := by decide +kernel
theorem dX10_tried_122 : decode cX10_tried 122 = .ok (.aload_n 0, 1) := by decide +kernel
theorem dX10_tried_123 : decode cX10_tried 123 = .ok (.getfield 85, 3) := by decide +kernel
theorem dX10_tried_126 : decode cX10_tried 126 = .ok (.bipush 6, 2) := by decide +kernel
theorem dX10_tried_128 : decode cX10_tried 128 = .ok (.iload 4, 2) := by decide +kernel
theorem dX10_tried_130 : decode cX10_tried 130 = .ok (.iadd, 1) := by decide +kernel
theorem dX10_tried_131 : decode cX10_tried 131 = .ok (.sipush 999, 3) := by decide +kernel
theorem dX10_tried_134 : decode cX10_tried 134 = .ok (.iastore, 1) := by decide +kernel
theorem dX10_tried_135 : decode cX10_tried 135 = .ok (.iinc 4 1, 3) := by decide +kernel
theorem dX10_tried_138 : decode cX10_tried 138 = .ok (.goto (-28), 3) := by decide +kernel
theorem dX10_tried_141 : decode cX10_tried 141 = .ok (.aload_n 0, 1) := by decide +kernel
theorem dX10_tried_142 : decode cX10_tried 142 = .ok (.iload_n 3, 1) := by decide +kernel
theorem dX10_tried_143 : decode cX10_tried 143 = .ok (.invokevirtual 456, 3) := by decide +kernel
theorem dX10_tried_146 : decode cX10_tried 146 = .ok (.aload_n 0, 1) := by decide +kernel
theorem dX10_tried_147 : decode cX10_tried 147 = .ok (.invokevirtual 341, 3) := by decide +kernel
theorem dX10_tried_150 : decode cX10_tried 150 = .ok (.aload_n 0, 1) := by decide +kernel
theorem dX10_tried_151 : decode cX10_tried 151 = .ok (.getfield 109, 3) := by decide +kernel
theorem dX10_tried_154 : decode cX10_tried 154 = .ok (.iconst 1, 1) := by decide +kernel
theorem dX10_tried_155 : decode cX10_tried 155 = .ok (.iaload, 1) := by decide +kernel
theorem dX10_tried_156 : decode cX10_tried 156 = .ok (.ireturn, 1) := by decide +kernel
theorem dX10_put_0 : decode cX10_put 0 = .ok (.iconst 0, 1) := by decide +kernel
theorem dX10_put_1 : decode cX10_put 1 = .ok (.istore_n 3, 1) := by decide +kernel
theorem dX10_put_2 : decode cX10_put 2 = .ok (.iload_n 3, 1) := by decide +kernel
theorem dX10_put_3 : decode cX10_put 3 = .ok (.bipush 6, 2) := by decide +kernel
theorem dX10_put_5 : decode cX10_put 5 = .ok (.if_icmp .ge 84, 3) := by decide +kernel
theorem dX10_put_8 : decode cX10_put 8 = .ok (.aload_n 1, 1) := by decide +kernel
theorem dX10_put_9 : decode cX10_put 9 = .ok (.iload_n 2, 1) := by decide +kernel
theorem dX10_put_10 : decode cX10_put 10 = .ok (.iload_n 3, 1) := by decide +kernel
theorem dX10_put_11 : decode cX10_put 11 = .ok (.iadd, 1) := by decide +kernel
theorem dX10_put_12 : decode cX10_put 12 = .ok (.aload_n 0, 1) := by decide +kernel
theorem dX10_put_13 : decode cX10_put 13 = .ok (.getfield 85, 3) := by decide +kernel
theorem dX10_put_16 : decode cX10_put 16 = .ok (.iload_n 3, 1) := by decide +kernel
theorem dX10_put_17 : decode cX10_put 17 = .ok (.iaload, 1) := by decide +kernel
theorem dX10_put_18 : decode cX10_put 18 = .ok (.iastore, 1) := by decide +kernel
theorem dX10_put_19 : decode cX10_put 19 = .ok (.aload_n 1, 1) := by decide +kernel
theorem dX10_put_20 : decode cX10_put 20 = .ok (.iload_n 2, 1) := by decide +kernel
theorem dX10_put_21 : decode cX10_put 21 = .ok (.bipush 6, 2) := by decide +kernel
theorem dX10_put_23 : decode cX10_put 23 = .ok (.iadd, 1) := by decide +kernel
theorem dX10_put_24 : decode cX10_put 24 = .ok (.iload_n 3, 1) := by decide +kernel
theorem dX10_put_25 : decode cX10_put 25 = .ok (.iadd, 1) := by decide +kernel
theorem dX10_put_26 : decode cX10_put 26 = .ok (.aload_n 0, 1) := by decide +kernel
