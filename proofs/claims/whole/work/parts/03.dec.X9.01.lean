theorem dX9_undo_5 : decode cX9_undo 5 = .ok (.getfield 47, 3) := by decide +kernel
theorem dX9_undo_8 : decode cX9_undo 8 = .ok (.invokevirtual 272, 3) := by decide +kernel
theorem dX9_undo_11 : decode cX9_undo 11 = .ok (.ireturn, 1) := by decide +kernel
theorem dX9_keep_0 : decode cX9_keep 0 = .ok (.aload_n 0, 1) := by decide +kernel
theorem dX9_keep_1 : decode cX9_keep 1 = .ok (.getfield 57, 3) := by decide +kernel
theorem dX9_keep_4 : decode cX9_keep 4 = .ok (.aload_n 0, 1) := by decide +kernel
theorem dX9_keep_5 : decode cX9_keep 5 = .ok (.getfield 47, 3) := by decide +kernel
theorem dX9_keep_8 : decode cX9_keep 8 = .ok (.invokevirtual 275, 3) := by decide +kernel
theorem dX9_keep_11 : decode cX9_keep 11 = .ok (.aload_n 0, 1) := by decide +kernel
theorem dX9_keep_12 : decode cX9_keep 12 = .ok (.iconst 1, 1) := by decide +kernel
theorem dX9_keep_13 : decode cX9_keep 13 = .ok (.putfield 60, 3) := by decide +kernel
theorem dX9_keep_16 : decode cX9_keep 16 = .ok (.aload_n 0, 1) := by decide +kernel
theorem dX9_keep_17 : decode cX9_keep 17 = .ok (.getfield 47, 3) := by decide +kernel
theorem dX9_keep_20 : decode cX9_keep 20 = .ok (.getfield 210, 3) := by decide +kernel
theorem dX9_keep_23 : decode cX9_keep 23 = .ok (.ireturn, 1) := by decide +kernel
theorem dX9_back_0 : decode cX9_back 0 = .ok (.aload_n 0, 1) := by decide +kernel
theorem dX9_back_1 : decode cX9_back 1 = .ok (.getfield 60, 3) := by decide +kernel
theorem dX9_back_4 : decode cX9_back 4 = .ok (.ifCond .ne 5, 3) := by decide +kernel
theorem dX9_back_7 : decode cX9_back 7 = .ok (.iconst (-1), 1) := by decide +kernel
theorem dX9_back_8 : decode cX9_back 8 = .ok (.ireturn, 1) := by decide +kernel
theorem dX9_back_9 : decode cX9_back 9 = .ok (.aload_n 0, 1) := by decide +kernel
theorem dX9_back_10 : decode cX9_back 10 = .ok (.getfield 47, 3) := by decide +kernel
theorem dX9_back_13 : decode cX9_back 13 = .ok (.aload_n 0, 1) := by decide +kernel
theorem dX9_back_14 : decode cX9_back 14 = .ok (.getfield 57, 3) := by decide +kernel
theorem dX9_back_17 : decode cX9_back 17 = .ok (.invokevirtual 275, 3) := by decide +kernel
theorem dX9_back_20 : decode cX9_back 20 = .ok (.aload_n 0, 1) := by decide +kernel
theorem dX9_back_21 : decode cX9_back 21 = .ok (.getfield 67, 3) := by decide +kernel
theorem dX9_back_24 : decode cX9_back 24 = .ok (.invokevirtual 111, 3) := by decide +kernel
theorem dX9_back_27 : decode cX9_back 27 = .ok (.aload_n 0, 1) := by decide +kernel
theorem dX9_back_28 : decode cX9_back 28 = .ok (.getfield 47, 3) := by decide +kernel
theorem dX9_back_31 : decode cX9_back 31 = .ok (.getfield 210, 3) := by decide +kernel
theorem dX9_back_34 : decode cX9_back 34 = .ok (.ireturn, 1) := by decide +kernel
theorem dX9_tryAsItGoes_0 : decode cX9_tryAsItGoes 0 = .ok (.aload_n 0, 1) := by decide +kernel
theorem dX9_tryAsItGoes_1 : decode cX9_tryAsItGoes 1 = .ok (.getfield 83, 3) := by decide +kernel
theorem dX9_tryAsItGoes_4 : decode cX9_tryAsItGoes 4 = .ok (.aload_n 0, 1) := by decide +kernel
theorem dX9_tryAsItGoes_5 : decode cX9_tryAsItGoes 5 = .ok (.getfield 22, 3) := by decide +kernel
theorem dX9_tryAsItGoes_8 : decode cX9_tryAsItGoes 8 = .ok (.invokevirtual 194, 3) := by decide +kernel
theorem dX9_tryAsItGoes_11 : decode cX9_tryAsItGoes 11 = .ok (.aload_n 0, 1) := by decide +kernel
theorem dX9_tryAsItGoes_12 : decode cX9_tryAsItGoes 12 = .ok (.getfield 51, 3) := by decide +kernel
theorem dX9_tryAsItGoes_15 : decode cX9_tryAsItGoes 15 = .ok (.aload_n 0, 1) := by decide +kernel
theorem dX9_tryAsItGoes_16 : decode cX9_tryAsItGoes 16 = .ok (.getfield 47, 3) := by decide +kernel
theorem dX9_tryAsItGoes_19 : decode cX9_tryAsItGoes 19 = .ok (.invokevirtual 275, 3) := by decide +kernel
theorem dX9_tryAsItGoes_22 : decode cX9_tryAsItGoes 22 = .ok (.return_, 1) := by decide +kernel
theorem dX9_ahead_0 : decode cX9_ahead 0 = .ok (.iload_n 1, 1) := by decide +kernel
theorem dX9_ahead_1 : decode cX9_ahead 1 = .ok (.iconst 0, 1) := by decide +kernel
theorem dX9_ahead_2 : decode cX9_ahead 2 = .ok (.bipush 99, 2) := by decide +kernel
theorem dX9_ahead_4 : decode cX9_ahead 4 = .ok (.invokestatic 188, 3) := by decide +kernel
theorem dX9_ahead_7 : decode cX9_ahead 7 = .ok (.ifCond .eq 12, 3) := by decide +kernel
theorem dX9_ahead_10 : decode cX9_ahead 10 = .ok (.iload_n 2, 1) := by decide +kernel
theorem dX9_ahead_11 : decode cX9_ahead 11 = .ok (.iconst 0, 1) := by decide +kernel
theorem dX9_ahead_12 : decode cX9_ahead 12 = .ok (.iconst 3, 1) := by decide +kernel
theorem dX9_ahead_13 : decode cX9_ahead 13 = .ok (.invokestatic 188, 3) := by decide +kernel
theorem dX9_ahead_16 : decode cX9_ahead 16 = .ok (.ifCond .ne 5, 3) := by decide +kernel
theorem dX9_ahead_19 : decode cX9_ahead 19 = .ok (.iconst (-1), 1) := by decide +kernel
theorem dX9_ahead_20 : decode cX9_ahead 20 = .ok (.ireturn, 1) := by decide +kernel
theorem dX9_ahead_21 : decode cX9_ahead 21 = .ok (.aload_n 0, 1) := by decide +kernel
theorem dX9_ahead_22 : decode cX9_ahead 22 = .ok (.invokevirtual 279, 3) := by decide +kernel
theorem dX9_ahead_25 : decode cX9_ahead 25 = .ok (.aload_n 0, 1) := by decide +kernel
theorem dX9_ahead_26 : decode cX9_ahead 26 = .ok (.getfield 83, 3) := by decide +kernel
theorem dX9_ahead_29 : decode cX9_ahead 29 = .ok (.aload_n 0, 1) := by decide +kernel
theorem dX9_ahead_30 : decode cX9_ahead 30 = .ok (.getfield 51, 3) := by decide +kernel
theorem dX9_ahead_33 : decode cX9_ahead 33 = .ok (.iload_n 1, 1) := by decide +kernel
theorem dX9_ahead_34 : decode cX9_ahead 34 = .ok (.invokevirtual 282, 3) := by decide +kernel
theorem dX9_ahead_37 : decode cX9_ahead 37 = .ok (.iload_n 2, 1) := by decide +kernel
theorem dX9_ahead_38 : decode cX9_ahead 38 = .ok (.tableswitch 69 0 2 #[26, 34, 58], 26) := by decide +kernel
theorem dX9_ahead_64 : decode cX9_ahead 64 = .ok (.aload_n 0, 1) := by decide +kernel
theorem dX9_ahead_65 : decode cX9_ahead 65 = .ok (.getfield 51, 3) := by decide +kernel
theorem dX9_ahead_68 : decode cX9_ahead 68 = .ok (.getfield 213, 3) := by decide +kernel
theorem dX9_ahead_71 : decode cX9_ahead 71 = .ok (.ireturn, 1) := by decide +kernel
theorem dX9_ahead_72 : decode cX9_ahead 72 = .ok (.aload_n 0, 1) := by decide +kernel
theorem dX9_ahead_73 : decode cX9_ahead 73 = .ok (.getfield 51, 3) := by decide +kernel
theorem dX9_ahead_76 : decode cX9_ahead 76 = .ok (.getfield 216, 3) := by decide +kernel
theorem dX9_ahead_79 : decode cX9_ahead 79 = .ok (.iconst (-1), 1) := by decide +kernel
theorem dX9_ahead_80 : decode cX9_ahead 80 = .ok (.if_icmp .ne 8, 3) := by decide +kernel
theorem dX9_ahead_83 : decode cX9_ahead 83 = .ok (.bipush (-2), 2) := by decide +kernel
theorem dX9_ahead_85 : decode cX9_ahead 85 = .ok (.goto 10, 3) := by decide +kernel
theorem dX9_ahead_88 : decode cX9_ahead 88 = .ok (.aload_n 0, 1) := by decide +kernel
theorem dX9_ahead_89 : decode cX9_ahead 89 = .ok (.getfield 51, 3) := by decide +kernel
theorem dX9_ahead_92 : decode cX9_ahead 92 = .ok (.getfield 216, 3) := by decide +kernel
theorem dX9_ahead_95 : decode cX9_ahead 95 = .ok (.ireturn, 1) := by decide +kernel
theorem dX9_ahead_96 : decode cX9_ahead 96 = .ok (.aload_n 0, 1) := by decide +kernel
theorem dX9_ahead_97 : decode cX9_ahead 97 = .ok (.getfield 51, 3) := by decide +kernel
theorem dX9_ahead_100 : decode cX9_ahead 100 = .ok (.getfield 225, 3) := by decide +kernel
theorem dX9_ahead_103 : decode cX9_ahead 103 = .ok (.invokestatic 228, 3) := by decide +kernel
theorem dX9_ahead_106 : decode cX9_ahead 106 = .ok (.ireturn, 1) := by decide +kernel
theorem dX9_ahead_107 : decode cX9_ahead 107 = .ok (.aload_n 0, 1) := by decide +kernel
theorem dX9_ahead_108 : decode cX9_ahead 108 = .ok (.getfield 51, 3) := by decide +kernel
theorem dX9_ahead_111 : decode cX9_ahead 111 = .ok (.getfield 234, 3) := by decide +kernel
theorem dX9_ahead_114 : decode cX9_ahead 114 = .ok (.aload_n 0, 1) := by decide +kernel
theorem dX9_ahead_115 : decode cX9_ahead 115 = .ok (.getfield 47, 3) := by decide +kernel
theorem dX9_ahead_118 : decode cX9_ahead 118 = .ok (.getfield 234, 3) := by decide +kernel
theorem dX9_ahead_121 : decode cX9_ahead 121 = .ok (.isub, 1) := by decide +kernel
theorem dX9_ahead_122 : decode cX9_ahead 122 = .ok (.ireturn, 1) := by decide +kernel
theorem dX9_falls_0 : decode cX9_falls 0 = .ok (.iload_n 1, 1) := by decide +kernel
theorem dX9_falls_1 : decode cX9_falls 1 = .ok (.iconst 0, 1) := by decide +kernel
theorem dX9_falls_2 : decode cX9_falls 2 = .ok (.iconst 2, 1) := by decide +kernel
theorem dX9_falls_3 : decode cX9_falls 3 = .ok (.invokestatic 188, 3) := by decide +kernel
theorem dX9_falls_6 : decode cX9_falls 6 = .ok (.ifCond .ne 5, 3) := by decide +kernel
theorem dX9_falls_9 : decode cX9_falls 9 = .ok (.iconst (-1), 1) := by decide +kernel
theorem dX9_falls_10 : decode cX9_falls 10 = .ok (.ireturn, 1) := by decide +kernel
theorem dX9_falls_11 : decode cX9_falls 11 = .ok (.aload_n 0, 1) := by decide +kernel
theorem dX9_falls_12 : decode cX9_falls 12 = .ok (.invokevirtual 279, 3) := by decide +kernel
theorem dX9_falls_15 : decode cX9_falls 15 = .ok (.aload_n 0, 1) := by decide +kernel
theorem dX9_falls_16 : decode cX9_falls 16 = .ok (.getfield 83, 3) := by decide +kernel
theorem dX9_falls_19 : decode cX9_falls 19 = .ok (.aload_n 0, 1) := by decide +kernel
theorem dX9_falls_20 : decode cX9_falls 20 = .ok (.getfield 51, 3) := by decide +kernel
theorem dX9_falls_23 : decode cX9_falls 23 = .ok (.sipush 999, 3) := by decide +kernel
theorem dX9_falls_26 : decode cX9_falls 26 = .ok (.invokevirtual 285, 3) := by decide +kernel
theorem dX9_falls_29 : decode cX9_falls 29 = .ok (.istore_n 2, 1) := by decide +kernel
theorem dX9_falls_30 : decode cX9_falls 30 = .ok (.iload_n 2, 1) := by decide +kernel
theorem dX9_falls_31 : decode cX9_falls 31 = .ok (.bipush (-2), 2) := by decide +kernel
theorem dX9_falls_33 : decode cX9_falls 33 = .ok (.if_icmp .eq 7, 3) := by decide +kernel
theorem dX9_falls_36 : decode cX9_falls 36 = .ok (.iload_n 1, 1) := by decide +kernel
theorem dX9_falls_37 : decode cX9_falls 37 = .ok (.ifCond .ne 5, 3) := by decide +kernel
theorem dX9_falls_40 : decode cX9_falls 40 = .ok (.iload_n 2, 1) := by decide +kernel
theorem dX9_falls_41 : decode cX9_falls 41 = .ok (.ireturn, 1) := by decide +kernel
theorem dX9_falls_42 : decode cX9_falls 42 = .ok (.iload_n 1, 1) := by decide +kernel
theorem dX9_falls_43 : decode cX9_falls 43 = .ok (.iconst 1, 1) := by decide +kernel
theorem dX9_falls_44 : decode cX9_falls 44 = .ok (.if_icmp .ne 13, 3) := by decide +kernel
theorem dX9_falls_47 : decode cX9_falls 47 = .ok (.aload_n 0, 1) := by decide +kernel
theorem dX9_falls_48 : decode cX9_falls 48 = .ok (.getfield 51, 3) := by decide +kernel
theorem dX9_falls_51 : decode cX9_falls 51 = .ok (.getfield 216, 3) := by decide +kernel
theorem dX9_falls_54 : decode cX9_falls 54 = .ok (.goto 10, 3) := by decide +kernel
theorem dX9_falls_57 : decode cX9_falls 57 = .ok (.aload_n 0, 1) := by decide +kernel
theorem dX9_falls_58 : decode cX9_falls 58 = .ok (.getfield 51, 3) := by decide +kernel
theorem dX9_falls_61 : decode cX9_falls 61 = .ok (.getfield 213, 3) := by decide +kernel
theorem dX9_falls_64 : decode cX9_falls 64 = .ok (.ireturn, 1) := by decide +kernel
theorem dX9_atMost_0 : decode cX9_atMost 0 = .ok (.aload_n 0, 1) := by decide +kernel
theorem dX9_atMost_1 : decode cX9_atMost 1 = .ok (.invokevirtual 279, 3) := by decide +kernel
theorem dX9_atMost_4 : decode cX9_atMost 4 = .ok (.aload_n 0, 1) := by decide +kernel
theorem dX9_atMost_5 : decode cX9_atMost 5 = .ok (.getfield 83, 3) := by decide +kernel
theorem dX9_atMost_8 : decode cX9_atMost 8 = .ok (.iconst 1, 1) := by decide +kernel
theorem dX9_atMost_9 : decode cX9_atMost 9 = .ok (.putfield 289, 3) := by decide +kernel
theorem dX9_atMost_12 : decode cX9_atMost 12 = .ok (.aload_n 0, 1) := by decide +kernel
theorem dX9_atMost_13 : decode cX9_atMost 13 = .ok (.getfield 83, 3) := by decide +kernel
theorem dX9_atMost_16 : decode cX9_atMost 16 = .ok (.aload_n 0, 1) := by decide +kernel
theorem dX9_atMost_17 : decode cX9_atMost 17 = .ok (.getfield 51, 3) := by decide +kernel
theorem dX9_atMost_20 : decode cX9_atMost 20 = .ok (.sipush 999, 3) := by decide +kernel
theorem dX9_atMost_23 : decode cX9_atMost 23 = .ok (.invokevirtual 285, 3) := by decide +kernel
theorem dX9_atMost_26 : decode cX9_atMost 26 = .ok (.ireturn, 1) := by decide +kernel
theorem dX9_left_0 : decode cX9_left 0 = .ok (.iload_n 1, 1) := by decide +kernel
theorem dX9_left_1 : decode cX9_left 1 = .ok (.iconst 0, 1) := by decide +kernel
theorem dX9_left_2 : decode cX9_left 2 = .ok (.bipush 99, 2) := by decide +kernel
theorem dX9_left_4 : decode cX9_left 4 = .ok (.invokestatic 188, 3) := by decide +kernel
theorem dX9_left_7 : decode cX9_left 7 = .ok (.ifCond .ne 5, 3) := by decide +kernel
theorem dX9_left_10 : decode cX9_left 10 = .ok (.iconst (-1), 1) := by decide +kernel
theorem dX9_left_11 : decode cX9_left 11 = .ok (.ireturn, 1) := by decide +kernel
theorem dX9_left_12 : decode cX9_left 12 = .ok (.aload_n 0, 1) := by decide +kernel
theorem dX9_left_13 : decode cX9_left 13 = .ok (.invokevirtual 279, 3) := by decide +kernel
theorem dX9_left_16 : decode cX9_left 16 = .ok (.aload_n 0, 1) := by decide +kernel
theorem dX9_left_17 : decode cX9_left 17 = .ok (.getfield 83, 3) := by decide +kernel
theorem dX9_left_20 : decode cX9_left 20 = .ok (.aload_n 0, 1) := by decide +kernel
theorem dX9_left_21 : decode cX9_left 21 = .ok (.getfield 51, 3) := by decide +kernel
theorem dX9_left_24 : decode cX9_left 24 = .ok (.iload_n 1, 1) := by decide +kernel
theorem dX9_left_25 : decode cX9_left 25 = .ok (.invokevirtual 282, 3) := by decide +kernel
theorem dX9_left_28 : decode cX9_left 28 = .ok (.aload_n 0, 1) := by decide +kernel
theorem dX9_left_29 : decode cX9_left 29 = .ok (.getfield 51, 3) := by decide +kernel
theorem dX9_left_32 : decode cX9_left 32 = .ok (.getfield 225, 3) := by decide +kernel
theorem dX9_left_35 : decode cX9_left 35 = .ok (.ireturn, 1) := by decide +kernel
theorem dX9_nextRaise_0 : decode cX9_nextRaise 0 = .ok (.iload_n 1, 1) := by decide +kernel
theorem dX9_nextRaise_1 : decode cX9_nextRaise 1 = .ok (.iconst 0, 1) := by decide +kernel
theorem dX9_nextRaise_2 : decode cX9_nextRaise 2 = .ok (.iconst 1, 1) := by decide +kernel
theorem dX9_nextRaise_3 : decode cX9_nextRaise 3 = .ok (.invokestatic 188, 3) := by decide +kernel
theorem dX9_nextRaise_6 : decode cX9_nextRaise 6 = .ok (.ifCond .ne 5, 3) := by decide +kernel
theorem dX9_nextRaise_9 : decode cX9_nextRaise 9 = .ok (.iconst (-1), 1) := by decide +kernel
theorem dX9_nextRaise_10 : decode cX9_nextRaise 10 = .ok (.ireturn, 1) := by decide +kernel
theorem dX9_nextRaise_11 : decode cX9_nextRaise 11 = .ok (.aload_n 0, 1) := by decide +kernel
theorem dX9_nextRaise_12 : decode cX9_nextRaise 12 = .ok (.invokevirtual 279, 3) := by decide +kernel
theorem dX9_nextRaise_15 : decode cX9_nextRaise 15 = .ok (.iconst 1, 1) := by decide +kernel
theorem dX9_nextRaise_16 : decode cX9_nextRaise 16 = .ok (.istore_n 2, 1) := by decide +kernel
theorem dX9_nextRaise_17 : decode cX9_nextRaise 17 = .ok (.iload_n 2, 1) := by decide +kernel
theorem dX9_nextRaise_18 : decode cX9_nextRaise 18 = .ok (.bipush 99, 2) := by decide +kernel
theorem dX9_nextRaise_20 : decode cX9_nextRaise 20 = .ok (.if_icmp .gt 36, 3) := by decide +kernel
theorem dX9_nextRaise_23 : decode cX9_nextRaise 23 = .ok (.aload_n 0, 1) := by decide +kernel
theorem dX9_nextRaise_24 : decode cX9_nextRaise 24 = .ok (.getfield 83, 3) := by decide +kernel
theorem dX9_nextRaise_27 : decode cX9_nextRaise 27 = .ok (.aload_n 0, 1) := by decide +kernel
theorem dX9_nextRaise_28 : decode cX9_nextRaise 28 = .ok (.getfield 51, 3) := by decide +kernel
theorem dX9_nextRaise_31 : decode cX9_nextRaise 31 = .ok (.invokevirtual 266, 3) := by decide +kernel
theorem dX9_nextRaise_34 : decode cX9_nextRaise 34 = .ok (.istore_n 3, 1) := by decide +kernel
theorem dX9_nextRaise_35 : decode cX9_nextRaise 35 = .ok (.iload_n 3, 1) := by decide +kernel
theorem dX9_nextRaise_36 : decode cX9_nextRaise 36 = .ok (.iconst (-1), 1) := by decide +kernel
theorem dX9_nextRaise_37 : decode cX9_nextRaise 37 = .ok (.if_icmp .eq 13, 3) := by decide +kernel
theorem dX9_nextRaise_40 : decode cX9_nextRaise 40 = .ok (.iload_n 1, 1) := by decide +kernel
theorem dX9_nextRaise_41 : decode cX9_nextRaise 41 = .ok (.ifCond .ne 7, 3) := by decide +kernel
theorem dX9_nextRaise_44 : decode cX9_nextRaise 44 = .ok (.iload_n 2, 1) := by decide +kernel
theorem dX9_nextRaise_45 : decode cX9_nextRaise 45 = .ok (.goto 4, 3) := by decide +kernel
theorem dX9_nextRaise_48 : decode cX9_nextRaise 48 = .ok (.iload_n 3, 1) := by decide +kernel
theorem dX9_nextRaise_49 : decode cX9_nextRaise 49 = .ok (.ireturn, 1) := by decide +kernel
theorem dX9_nextRaise_50 : decode cX9_nextRaise 50 = .ok (.iinc 2 1, 3) := by decide +kernel
theorem dX9_nextRaise_53 : decode cX9_nextRaise 53 = .ok (.goto (-36), 3) := by decide +kernel
theorem dX9_nextRaise_56 : decode cX9_nextRaise 56 = .ok (.bipush (-2), 2) := by decide +kernel
theorem dX9_nextRaise_58 : decode cX9_nextRaise 58 = .ok (.ireturn, 1) := by decide +kernel
theorem dX9_tried_0 : decode cX9_tried 0 = .ok (.iload_n 1, 1) := by decide +kernel
theorem dX9_tried_1 : decode cX9_tried 1 = .ok (.iconst 2, 1) := by decide +kernel
theorem dX9_tried_2 : decode cX9_tried 2 = .ok (.if_icmp .ne 11, 3) := by decide +kernel
theorem dX9_tried_5 : decode cX9_tried 5 = .ok (.aload_n 0, 1) := by decide +kernel
theorem dX9_tried_6 : decode cX9_tried 6 = .ok (.iload_n 2, 1) := by decide +kernel
theorem dX9_tried_7 : decode cX9_tried 7 = .ok (.invokevirtual 132, 3) := by decide +kernel
theorem dX9_tried_10 : decode cX9_tried 10 = .ok (.goto 12, 3) := by decide +kernel
theorem dX9_tried_13 : decode cX9_tried 13 = .ok (.iload_n 2, 1) := by decide +kernel
theorem dX9_tried_14 : decode cX9_tried 14 = .ok (.ifCond .ne 7, 3) := by decide +kernel
theorem dX9_tried_17 : decode cX9_tried 17 = .ok (.iconst 1, 1) := by decide +kernel
theorem dX9_tried_18 : decode cX9_tried 18 = .ok (.goto 4, 3) := by decide +kernel
theorem dX9_tried_21 : decode cX9_tried 21 = .ok (.iconst 0, 1) := by decide +kernel
theorem dX9_tried_22 : decode cX9_tried 22 = .ok (.istore 4, 2) := by decide +kernel
theorem dX9_tried_24 : decode cX9_tried 24 = .ok (.iload_n 1, 1) := by decide +kernel
theorem dX9_tried_25 : decode cX9_tried 25 = .ok (.iconst 0, 1) := by decide +kernel
theorem dX9_tried_26 : decode cX9_tried 26 = .ok (.iconst 4, 1) := by decide +kernel
theorem dX9_tried_27 : decode cX9_tried 27 = .ok (.invokestatic 188, 3) := by decide +kernel
theorem dX9_tried_30 : decode cX9_tried 30 = .ok (.ifCond .eq 18, 3) := by decide +kernel
theorem dX9_tried_33 : decode cX9_tried 33 = .ok (.iload 4, 2) := by decide +kernel
theorem dX9_tried_35 : decode cX9_tried 35 = .ok (.ifCond .eq 13, 3) := by decide +kernel
theorem dX9_tried_38 : decode cX9_tried 38 = .ok (.iload_n 3, 1) := by decide +kernel
theorem dX9_tried_39 : decode cX9_tried 39 = .ok (.iconst 0, 1) := by decide +kernel
theorem dX9_tried_40 : decode cX9_tried 40 = .ok (.bipush 99, 2) := by decide +kernel
theorem dX9_tried_42 : decode cX9_tried 42 = .ok (.invokestatic 188, 3) := by decide +kernel
theorem dX9_tried_45 : decode cX9_tried 45 = .ok (.ifCond .ne 5, 3) := by decide +kernel
theorem dX9_tried_48 : decode cX9_tried 48 = .ok (.iconst (-1), 1) := by decide +kernel
theorem dX9_tried_49 : decode cX9_tried 49 = .ok (.ireturn, 1) := by decide +kernel
theorem dX9_tried_50 : decode cX9_tried 50 = .ok (.aload_n 0, 1) := by decide +kernel
theorem dX9_tried_51 : decode cX9_tried 51 = .ok (.invokevirtual 279, 3) := by decide +kernel
theorem dX9_tried_54 : decode cX9_tried 54 = .ok (.iload_n 1, 1) := by decide +kernel
theorem dX9_tried_55 : decode cX9_tried 55 = .ok (.tableswitch 75 0 3 #[29, 40, 51, 64], 29) := by decide +kernel
theorem dX9_tried_84 : decode cX9_tried 84 = .ok (.aload_n 0, 1) := by decide +kernel
theorem dX9_tried_85 : decode cX9_tried 85 = .ok (.getfield 83, 3) := by decide +kernel
theorem dX9_tried_88 : decode cX9_tried 88 = .ok (.iconst 1, 1) := by decide +kernel
theorem dX9_tried_89 : decode cX9_tried 89 = .ok (.putfield 289, 3) := by decide +kernel
theorem dX9_tried_92 : decode cX9_tried 92 = .ok (.goto 48, 3) := by decide +kernel
theorem dX9_tried_95 : decode cX9_tried 95 = .ok (.aload_n 0, 1) := by decide +kernel
theorem dX9_tried_96 : decode cX9_tried 96 = .ok (.getfield 83, 3) := by decide +kernel
theorem dX9_tried_99 : decode cX9_tried 99 = .ok (.iconst 1, 1) := by decide +kernel
theorem dX9_tried_100 : decode cX9_tried 100 = .ok (.putfield 292, 3) := by decide +kernel
theorem dX9_tried_103 : decode cX9_tried 103 = .ok (.goto 37, 3) := by decide +kernel
theorem dX9_tried_106 : decode cX9_tried 106 = .ok (.aload_n 0, 1) := by decide +kernel
theorem dX9_tried_107 : decode cX9_tried 107 = .ok (.getfield 83, 3) := by decide +kernel
theorem dX9_tried_110 : decode cX9_tried 110 = .ok (.iconst 1, 1) := by decide +kernel
theorem dX9_tried_111 : decode cX9_tried 111 = .ok (.iload_n 2, 1) := by decide +kernel
theorem dX9_tried_112 : decode cX9_tried 112 = .ok (.ishl, 1) := by decide +kernel
theorem dX9_tried_113 : decode cX9_tried 113 = .ok (.putfield 295, 3) := by decide +kernel
theorem dX9_tried_116 : decode cX9_tried 116 = .ok (.goto 24, 3) := by decide +kernel
theorem dX9_tried_119 : decode cX9_tried 119 = .ok (.aload_n 0, 1) := by decide +kernel
theorem dX9_tried_120 : decode cX9_tried 120 = .ok (.getfield 83, 3) := by decide +kernel
theorem dX9_tried_123 : decode cX9_tried 123 = .ok (.iconst 1, 1) := by decide +kernel
theorem dX9_tried_124 : decode cX9_tried 124 = .ok (.putfield 298, 3) := by decide +kernel
theorem dX9_tried_127 : decode cX9_tried 127 = .ok (.goto 13, 3) := by decide +kernel
theorem dX9_tried_130 : decode cX9_tried 130 = .ok (.aload_n 0, 1) := by decide +kernel
theorem dX9_tried_131 : decode cX9_tried 131 = .ok (.getfield 51, 3) := by decide +kernel
theorem dX9_tried_134 : decode cX9_tried 134 = .ok (.sipush 999, 3) := by decide +kernel
theorem dX9_tried_137 : decode cX9_tried 137 = .ok (.invokevirtual 301, 3) := by decide +kernel
theorem dX9_tried_140 : decode cX9_tried 140 = .ok (.aload_n 0, 1) := by decide +kernel
theorem dX9_tried_141 : decode cX9_tried 141 = .ok (.getfield 83, 3) := by decide +kernel
theorem dX9_tried_144 : decode cX9_tried 144 = .ok (.aload_n 0, 1) := by decide +kernel
theorem dX9_tried_145 : decode cX9_tried 145 = .ok (.getfield 51, 3) := by decide +kernel
theorem dX9_tried_148 : decode cX9_tried 148 = .ok (.iload_n 3, 1) := by decide +kernel
theorem dX9_tried_149 : decode cX9_tried 149 = .ok (.invokevirtual 282, 3) := by decide +kernel
theorem dX9_tried_152 : decode cX9_tried 152 = .ok (.aload_n 0, 1) := by decide +kernel
theorem dX9_tried_153 : decode cX9_tried 153 = .ok (.getfield 51, 3) := by decide +kernel
theorem dX9_tried_156 : decode cX9_tried 156 = .ok (.getfield 213, 3) := by decide +kernel
theorem dX9_tried_159 : decode cX9_tried 159 = .ok (.ireturn, 1) := by decide +kernel
theorem dX9_chance_0 : decode cX9_chance 0 = .ok (.iload_n 1, 1) := by decide +kernel
theorem dX9_chance_1 : decode cX9_chance 1 = .ok (.ifCond .lt 21, 3) := by decide +kernel
theorem dX9_chance_4 : decode cX9_chance 4 = .ok (.iload_n 2, 1) := by decide +kernel
theorem dX9_chance_5 : decode cX9_chance 5 = .ok (.iconst 1, 1) := by decide +kernel
theorem dX9_chance_6 : decode cX9_chance 6 = .ok (.bipush 99, 2) := by decide +kernel
theorem dX9_chance_8 : decode cX9_chance 8 = .ok (.invokestatic 188, 3) := by decide +kernel
theorem dX9_chance_11 : decode cX9_chance 11 = .ok (.ifCond .eq 11, 3) := by decide +kernel
theorem dX9_chance_14 : decode cX9_chance 14 = .ok (.aload_n 0, 1) := by decide +kernel
theorem dX9_chance_15 : decode cX9_chance 15 = .ok (.iload_n 3, 1) := by decide +kernel
theorem dX9_chance_16 : decode cX9_chance 16 = .ok (.invokevirtual 132, 3) := by decide +kernel
theorem dX9_chance_19 : decode cX9_chance 19 = .ok (.ifCond .ne 5, 3) := by decide +kernel
theorem dX9_chance_22 : decode cX9_chance 22 = .ok (.iconst (-1), 1) := by decide +kernel
theorem dX9_chance_23 : decode cX9_chance 23 = .ok (.ireturn, 1) := by decide +kernel
theorem dX9_chance_24 : decode cX9_chance 24 = .ok (.aload_n 0, 1) := by decide +kernel
theorem dX9_chance_25 : decode cX9_chance 25 = .ok (.getfield 83, 3) := by decide +kernel
theorem dX9_chance_28 : decode cX9_chance 28 = .ok (.aload_n 0, 1) := by decide +kernel
theorem dX9_chance_29 : decode cX9_chance 29 = .ok (.getfield 22, 3) := by decide +kernel
theorem dX9_chance_32 : decode cX9_chance 32 = .ok (.invokevirtual 263, 3) := by decide +kernel
theorem dX9_chance_35 : decode cX9_chance 35 = .ok (.iload_n 1, 1) := by decide +kernel
theorem dX9_chance_36 : decode cX9_chance 36 = .ok (.istore 4, 2) := by decide +kernel
theorem dX9_chance_38 : decode cX9_chance 38 = .ok (.iconst 0, 1) := by decide +kernel
theorem dX9_chance_39 : decode cX9_chance 39 = .ok (.istore 5, 2) := by decide +kernel
theorem dX9_chance_41 : decode cX9_chance 41 = .ok (.iconst 0, 1) := by decide +kernel
theorem dX9_chance_42 : decode cX9_chance 42 = .ok (.istore 6, 2) := by decide +kernel
theorem dX9_chance_44 : decode cX9_chance 44 = .ok (.iload 6, 2) := by decide +kernel
theorem dX9_chance_46 : decode cX9_chance 46 = .ok (.bipush 10, 2) := by decide +kernel
theorem dX9_chance_48 : decode cX9_chance 48 = .ok (.if_icmp .ge 71, 3) := by decide +kernel
theorem dX9_chance_51 : decode cX9_chance 51 = .ok (.aload_n 0, 1) := by decide +kernel
theorem dX9_chance_52 : decode cX9_chance 52 = .ok (.getfield 51, 3) := by decide +kernel
theorem dX9_chance_55 : decode cX9_chance 55 = .ok (.aload_n 0, 1) := by decide +kernel
theorem dX9_chance_56 : decode cX9_chance 56 = .ok (.getfield 47, 3) := by decide +kernel
theorem dX9_chance_59 : decode cX9_chance 59 = .ok (.invokevirtual 275, 3) := by decide +kernel
theorem dX9_chance_62 : decode cX9_chance 62 = .ok (.aload_n 0, 1) := by decide +kernel
theorem dX9_chance_63 : decode cX9_chance 63 = .ok (.getfield 51, 3) := by decide +kernel
theorem dX9_chance_66 : decode cX9_chance 66 = .ok (.iload 4, 2) := by decide +kernel
theorem dX9_chance_68 : decode cX9_chance 68 = .ok (.putfield 304, 3) := by decide +kernel
theorem dX9_chance_71 : decode cX9_chance 71 = .ok (.aload_n 0, 1) := by decide +kernel
theorem dX9_chance_72 : decode cX9_chance 72 = .ok (.getfield 83, 3) := by decide +kernel
theorem dX9_chance_75 : decode cX9_chance 75 = .ok (.aload_n 0, 1) := by decide +kernel
theorem dX9_chance_76 : decode cX9_chance 76 = .ok (.getfield 51, 3) := by decide +kernel
theorem dX9_chance_79 : decode cX9_chance 79 = .ok (.iload_n 2, 1) := by decide +kernel
theorem dX9_chance_80 : decode cX9_chance 80 = .ok (.invokevirtual 282, 3) := by decide +kernel
theorem dX9_chance_83 : decode cX9_chance 83 = .ok (.aload_n 0, 1) := by decide +kernel
theorem dX9_chance_84 : decode cX9_chance 84 = .ok (.getfield 51, 3) := by decide +kernel
theorem dX9_chance_87 : decode cX9_chance 87 = .ok (.getfield 304, 3) := by decide +kernel
theorem dX9_chance_90 : decode cX9_chance 90 = .ok (.istore 4, 2) := by decide +kernel
theorem dX9_chance_92 : decode cX9_chance 92 = .ok (.iload 5, 2) := by decide +kernel
theorem dX9_chance_94 : decode cX9_chance 94 = .ok (.aload_n 0, 1) := by decide +kernel
theorem dX9_chance_95 : decode cX9_chance 95 = .ok (.getfield 51, 3) := by decide +kernel
theorem dX9_chance_98 : decode cX9_chance 98 = .ok (.iload_n 3, 1) := by decide +kernel
theorem dX9_chance_99 : decode cX9_chance 99 = .ok (.invokevirtual 136, 3) := by decide +kernel
theorem dX9_chance_102 : decode cX9_chance 102 = .ok (.ifCond .eq 7, 3) := by decide +kernel
theorem dX9_chance_105 : decode cX9_chance 105 = .ok (.iconst 1, 1) := by decide +kernel
theorem dX9_chance_106 : decode cX9_chance 106 = .ok (.goto 4, 3) := by decide +kernel
theorem dX9_chance_109 : decode cX9_chance 109 = .ok (.iconst 0, 1) := by decide +kernel
theorem dX9_chance_110 : decode cX9_chance 110 = .ok (.iadd, 1) := by decide +kernel
theorem dX9_chance_111 : decode cX9_chance 111 = .ok (.istore 5, 2) := by decide +kernel
theorem dX9_chance_113 : decode cX9_chance 113 = .ok (.iinc 6 1, 3) := by decide +kernel
theorem dX9_chance_116 : decode cX9_chance 116 = .ok (.goto (-72), 3) := by decide +kernel
theorem dX9_chance_119 : decode cX9_chance 119 = .ok (.iload 5, 2) := by decide +kernel
theorem dX9_chance_121 : decode cX9_chance 121 = .ok (.ireturn, 1) := by decide +kernel
theorem dX9_lives_0 : decode cX9_lives 0 = .ok (.aload_n 0, 1) := by decide +kernel
theorem dX9_lives_1 : decode cX9_lives 1 = .ok (.iload_n 1, 1) := by decide +kernel
theorem dX9_lives_2 : decode cX9_lives 2 = .ok (.invokevirtual 139, 3) := by decide +kernel
theorem dX9_lives_5 : decode cX9_lives 5 = .ok (.ifCond .eq 22, 3) := by decide +kernel
theorem dX9_lives_8 : decode cX9_lives 8 = .ok (.iload_n 2, 1) := by decide +kernel
theorem dX9_lives_9 : decode cX9_lives 9 = .ok (.iconst 0, 1) := by decide +kernel
theorem dX9_lives_10 : decode cX9_lives 10 = .ok (.bipush 6, 2) := by decide +kernel
theorem dX9_lives_12 : decode cX9_lives 12 = .ok (.invokestatic 188, 3) := by decide +kernel
theorem dX9_lives_15 : decode cX9_lives 15 = .ok (.ifCond .eq 12, 3) := by decide +kernel
theorem dX9_lives_18 : decode cX9_lives 18 = .ok (.iload_n 3, 1) := by decide +kernel
theorem dX9_lives_19 : decode cX9_lives 19 = .ok (.iconst 0, 1) := by decide +kernel
theorem dX9_lives_20 : decode cX9_lives 20 = .ok (.iconst 1, 1) := by decide +kernel
theorem dX9_lives_21 : decode cX9_lives 21 = .ok (.invokestatic 188, 3) := by decide +kernel
theorem dX9_lives_24 : decode cX9_lives 24 = .ok (.ifCond .ne 7, 3) := by decide +kernel
theorem dX9_lives_27 : decode cX9_lives 27 = .ok (.ldc2_w 307, 3) := by decide +kernel
theorem dX9_lives_30 : decode cX9_lives 30 = .ok (.lreturn, 1) := by decide +kernel
theorem dX9_lives_31 : decode cX9_lives 31 = .ok (.aload_n 0, 1) := by decide +kernel
theorem dX9_lives_32 : decode cX9_lives 32 = .ok (.invokevirtual 279, 3) := by decide +kernel
theorem dX9_lives_35 : decode cX9_lives 35 = .ok (.lconst 1, 1) := by decide +kernel
theorem dX9_lives_36 : decode cX9_lives 36 = .ok (.lstore 4, 2) := by decide +kernel
theorem dX9_lives_38 : decode cX9_lives 38 = .ok (.lconst 1, 1) := by decide +kernel
theorem dX9_lives_39 : decode cX9_lives 39 = .ok (.lstore 6, 2) := by decide +kernel
theorem dX9_lives_41 : decode cX9_lives 41 = .ok (.iconst 0, 1) := by decide +kernel
theorem dX9_lives_42 : decode cX9_lives 42 = .ok (.istore 8, 2) := by decide +kernel
theorem dX9_lives_44 : decode cX9_lives 44 = .ok (.iload 8, 2) := by decide +kernel
theorem dX9_lives_46 : decode cX9_lives 46 = .ok (.iload_n 2, 1) := by decide +kernel
theorem dX9_lives_47 : decode cX9_lives 47 = .ok (.if_icmp .ge 46, 3) := by decide +kernel
theorem dX9_lives_50 : decode cX9_lives 50 = .ok (.aload_n 0, 1) := by decide +kernel
theorem dX9_lives_51 : decode cX9_lives 51 = .ok (.getfield 51, 3) := by decide +kernel
theorem dX9_lives_54 : decode cX9_lives 54 = .ok (.iload_n 1, 1) := by decide +kernel
theorem dX9_lives_55 : decode cX9_lives 55 = .ok (.invokevirtual 309, 3) := by decide +kernel
theorem dX9_lives_58 : decode cX9_lives 58 = .ok (.lload 4, 2) := by decide +kernel
theorem dX9_lives_60 : decode cX9_lives 60 = .ok (.bipush 100, 2) := by decide +kernel
theorem dX9_lives_62 : decode cX9_lives 62 = .ok (.aload_n 0, 1) := by decide +kernel
theorem dX9_lives_63 : decode cX9_lives 63 = .ok (.getfield 83, 3) := by decide +kernel
theorem dX9_lives_66 : decode cX9_lives 66 = .ok (.aload_n 0, 1) := by decide +kernel
theorem dX9_lives_67 : decode cX9_lives 67 = .ok (.getfield 51, 3) := by decide +kernel
theorem dX9_lives_70 : decode cX9_lives 70 = .ok (.iload_n 1, 1) := by decide +kernel
theorem dX9_lives_71 : decode cX9_lives 71 = .ok (.invokevirtual 312, 3) := by decide +kernel
theorem dX9_lives_74 : decode cX9_lives 74 = .ok (.isub, 1) := by decide +kernel
theorem dX9_lives_75 : decode cX9_lives 75 = .ok (.i2l, 1) := by decide +kernel
theorem dX9_lives_76 : decode cX9_lives 76 = .ok (.lmul, 1) := by decide +kernel
theorem dX9_lives_77 : decode cX9_lives 77 = .ok (.lstore 4, 2) := by decide +kernel
theorem dX9_lives_79 : decode cX9_lives 79 = .ok (.lload 6, 2) := by decide +kernel
theorem dX9_lives_81 : decode cX9_lives 81 = .ok (.ldc2_w 315, 3) := by decide +kernel
theorem dX9_lives_84 : decode cX9_lives 84 = .ok (.lmul, 1) := by decide +kernel
theorem dX9_lives_85 : decode cX9_lives 85 = .ok (.lstore 6, 2) := by decide +kernel
theorem dX9_lives_87 : decode cX9_lives 87 = .ok (.iinc 8 1, 3) := by decide +kernel
theorem dX9_lives_90 : decode cX9_lives 90 = .ok (.goto (-46), 3) := by decide +kernel
theorem dX9_lives_93 : decode cX9_lives 93 = .ok (.lconst 1, 1) := by decide +kernel
theorem dX9_lives_94 : decode cX9_lives 94 = .ok (.lload 4, 2) := by decide +kernel
theorem dX9_lives_96 : decode cX9_lives 96 = .ok (.lload 6, 2) := by decide +kernel
theorem dX9_lives_98 : decode cX9_lives 98 = .ok (.invokestatic 317, 3) := by decide +kernel
theorem dX9_lives_101 : decode cX9_lives 101 = .ok (.invokestatic 321, 3) := by decide +kernel
theorem dX9_lives_104 : decode cX9_lives 104 = .ok (.lstore 8, 2) := by decide +kernel
theorem dX9_lives_106 : decode cX9_lives 106 = .ok (.iload_n 3, 1) := by decide +kernel
theorem dX9_lives_107 : decode cX9_lives 107 = .ok (.ifCond .ne 8, 3) := by decide +kernel
theorem dX9_lives_110 : decode cX9_lives 110 = .ok (.lload 4, 2) := by decide +kernel
theorem dX9_lives_112 : decode cX9_lives 112 = .ok (.goto 5, 3) := by decide +kernel
theorem dX9_lives_115 : decode cX9_lives 115 = .ok (.lload 6, 2) := by decide +kernel
theorem dX9_lives_117 : decode cX9_lives 117 = .ok (.lload 8, 2) := by decide +kernel
theorem dX9_lives_119 : decode cX9_lives 119 = .ok (.ldiv, 1) := by decide +kernel
theorem dX9_lives_120 : decode cX9_lives 120 = .ok (.lreturn, 1) := by decide +kernel
theorem dX9_commonDivisor_0 : decode cX9_commonDivisor 0 = .ok (.lload_n 0, 1) := by decide +kernel
theorem dX9_commonDivisor_1 : decode cX9_commonDivisor 1 = .ok (.lstore 4, 2) := by decide +kernel
theorem dX9_commonDivisor_3 : decode cX9_commonDivisor 3 = .ok (.lload_n 2, 1) := by decide +kernel
theorem dX9_commonDivisor_4 : decode cX9_commonDivisor 4 = .ok (.lstore 6, 2) := by decide +kernel
theorem dX9_commonDivisor_6 : decode cX9_commonDivisor 6 = .ok (.iconst 0, 1) := by decide +kernel
theorem dX9_commonDivisor_7 : decode cX9_commonDivisor 7 = .ok (.istore 8, 2) := by decide +kernel
theorem dX9_commonDivisor_9 : decode cX9_commonDivisor 9 = .ok (.iload 8, 2) := by decide +kernel
theorem dX9_commonDivisor_11 : decode cX9_commonDivisor 11 = .ok (.sipush 200, 3) := by decide +kernel
theorem dX9_commonDivisor_14 : decode cX9_commonDivisor 14 = .ok (.if_icmp .ge 31, 3) := by decide +kernel
theorem dX9_commonDivisor_17 : decode cX9_commonDivisor 17 = .ok (.lload 6, 2) := by decide +kernel
theorem dX9_commonDivisor_19 : decode cX9_commonDivisor 19 = .ok (.lconst 0, 1) := by decide +kernel
theorem dX9_commonDivisor_20 : decode cX9_commonDivisor 20 = .ok (.lcmp, 1) := by decide +kernel
theorem dX9_commonDivisor_21 : decode cX9_commonDivisor 21 = .ok (.ifCond .eq 24, 3) := by decide +kernel
theorem dX9_commonDivisor_24 : decode cX9_commonDivisor 24 = .ok (.lload 4, 2) := by decide +kernel
theorem dX9_commonDivisor_26 : decode cX9_commonDivisor 26 = .ok (.lload 6, 2) := by decide +kernel
theorem dX9_commonDivisor_28 : decode cX9_commonDivisor 28 = .ok (.lrem, 1) := by decide +kernel
theorem dX9_commonDivisor_29 : decode cX9_commonDivisor 29 = .ok (.lstore 9, 2) := by decide +kernel
theorem dX9_commonDivisor_31 : decode cX9_commonDivisor 31 = .ok (.lload 6, 2) := by decide +kernel
theorem dX9_commonDivisor_33 : decode cX9_commonDivisor 33 = .ok (.lstore 4, 2) := by decide +kernel
theorem dX9_commonDivisor_35 : decode cX9_commonDivisor 35 = .ok (.lload 9, 2) := by decide +kernel
theorem dX9_commonDivisor_37 : decode cX9_commonDivisor 37 = .ok (.lstore 6, 2) := by decide +kernel
theorem dX9_commonDivisor_39 : decode cX9_commonDivisor 39 = .ok (.iinc 8 1, 3) := by decide +kernel
theorem dX9_commonDivisor_42 : decode cX9_commonDivisor 42 = .ok (.goto (-33), 3) := by decide +kernel
theorem dX9_commonDivisor_45 : decode cX9_commonDivisor 45 = .ok (.lload 4, 2) := by decide +kernel
theorem dX9_commonDivisor_47 : decode cX9_commonDivisor 47 = .ok (.lreturn, 1) := by decide +kernel
theorem dX9_letGo_0 : decode cX9_letGo 0 = .ok (.aload_n 0, 1) := by decide +kernel
theorem dX9_letGo_1 : decode cX9_letGo 1 = .ok (.iload_n 1, 1) := by decide +kernel
theorem dX9_letGo_2 : decode cX9_letGo 2 = .ok (.invokevirtual 139, 3) := by decide +kernel
theorem dX9_letGo_5 : decode cX9_letGo 5 = .ok (.ifCond .ne 5, 3) := by decide +kernel
theorem dX9_letGo_8 : decode cX9_letGo 8 = .ok (.iconst (-1), 1) := by decide +kernel
theorem dX9_letGo_9 : decode cX9_letGo 9 = .ok (.ireturn, 1) := by decide +kernel
theorem dX9_letGo_10 : decode cX9_letGo 10 = .ok (.iconst 0, 1) := by decide +kernel
theorem dX9_letGo_11 : decode cX9_letGo 11 = .ok (.istore_n 2, 1) := by decide +kernel
theorem dX9_letGo_12 : decode cX9_letGo 12 = .ok (.iload_n 2, 1) := by decide +kernel
theorem dX9_letGo_13 : decode cX9_letGo 13 = .ok (.sipush 300, 3) := by decide +kernel
theorem dX9_letGo_16 : decode cX9_letGo 16 = .ok (.if_icmp .gt 53, 3) := by decide +kernel
theorem dX9_letGo_19 : decode cX9_letGo 19 = .ok (.aload_n 0, 1) := by decide +kernel
theorem dX9_letGo_20 : decode cX9_letGo 20 = .ok (.invokevirtual 279, 3) := by decide +kernel
theorem dX9_letGo_23 : decode cX9_letGo 23 = .ok (.aload_n 0, 1) := by decide +kernel
theorem dX9_letGo_24 : decode cX9_letGo 24 = .ok (.getfield 51, 3) := by decide +kernel
theorem dX9_letGo_27 : decode cX9_letGo 27 = .ok (.getfield 153, 3) := by decide +kernel
theorem dX9_letGo_30 : decode cX9_letGo 30 = .ok (.iload_n 1, 1) := by decide +kernel
theorem dX9_letGo_31 : decode cX9_letGo 31 = .ok (.dup2, 1) := by decide +kernel
theorem dX9_letGo_32 : decode cX9_letGo 32 = .ok (.iaload, 1) := by decide +kernel
theorem dX9_letGo_33 : decode cX9_letGo 33 = .ok (.iload_n 2, 1) := by decide +kernel
theorem dX9_letGo_34 : decode cX9_letGo 34 = .ok (.iadd, 1) := by decide +kernel
theorem dX9_letGo_35 : decode cX9_letGo 35 = .ok (.iastore, 1) := by decide +kernel
theorem dX9_letGo_36 : decode cX9_letGo 36 = .ok (.aload_n 0, 1) := by decide +kernel
theorem dX9_letGo_37 : decode cX9_letGo 37 = .ok (.getfield 83, 3) := by decide +kernel
theorem dX9_letGo_40 : decode cX9_letGo 40 = .ok (.aload_n 0, 1) := by decide +kernel
theorem dX9_letGo_41 : decode cX9_letGo 41 = .ok (.getfield 51, 3) := by decide +kernel
theorem dX9_letGo_44 : decode cX9_letGo 44 = .ok (.bipush 120, 2) := by decide +kernel
theorem dX9_letGo_46 : decode cX9_letGo 46 = .ok (.invokevirtual 285, 3) := by decide +kernel
theorem dX9_letGo_49 : decode cX9_letGo 49 = .ok (.pop, 1) := by decide +kernel
theorem dX9_letGo_50 : decode cX9_letGo 50 = .ok (.aload_n 0, 1) := by decide +kernel
theorem dX9_letGo_51 : decode cX9_letGo 51 = .ok (.getfield 51, 3) := by decide +kernel
theorem dX9_letGo_54 : decode cX9_letGo 54 = .ok (.iload_n 1, 1) := by decide +kernel
theorem dX9_letGo_55 : decode cX9_letGo 55 = .ok (.invokevirtual 326, 3) := by decide +kernel
theorem dX9_letGo_58 : decode cX9_letGo 58 = .ok (.ifCond .eq 5, 3) := by decide +kernel
theorem dX9_letGo_61 : decode cX9_letGo 61 = .ok (.iload_n 2, 1) := by decide +kernel
theorem dX9_letGo_62 : decode cX9_letGo 62 = .ok (.ireturn, 1) := by decide +kernel
theorem dX9_letGo_63 : decode cX9_letGo 63 = .ok (.iinc 2 1, 3) := by decide +kernel
theorem dX9_letGo_66 : decode cX9_letGo 66 = .ok (.goto (-54), 3) := by decide +kernel
theorem dX9_letGo_69 : decode cX9_letGo 69 = .ok (.bipush (-2), 2) := by decide +kernel
theorem dX9_letGo_71 : decode cX9_letGo 71 = .ok (.ireturn, 1) := by decide +kernel
theorem dX9_when_0 : decode cX9_when 0 = .ok (.aload_n 0, 1) := by decide +kernel
theorem dX9_when_1 : decode cX9_when 1 = .ok (.iload_n 1, 1) := by decide +kernel
theorem dX9_when_2 : decode cX9_when 2 = .ok (.invokevirtual 139, 3) := by decide +kernel
theorem dX9_when_5 : decode cX9_when 5 = .ok (.ifCond .eq 22, 3) := by decide +kernel
theorem dX9_when_8 : decode cX9_when 8 = .ok (.iload_n 2, 1) := by decide +kernel
theorem dX9_when_9 : decode cX9_when 9 = .ok (.iconst 0, 1) := by decide +kernel
theorem dX9_when_10 : decode cX9_when 10 = .ok (.bipush 40, 2) := by decide +kernel
theorem dX9_when_12 : decode cX9_when 12 = .ok (.invokestatic 188, 3) := by decide +kernel
theorem dX9_when_15 : decode cX9_when 15 = .ok (.ifCond .eq 12, 3) := by decide +kernel
theorem dX9_when_18 : decode cX9_when 18 = .ok (.iload_n 3, 1) := by decide +kernel
theorem dX9_when_19 : decode cX9_when 19 = .ok (.iconst 0, 1) := by decide +kernel
theorem dX9_when_20 : decode cX9_when 20 = .ok (.iconst 1, 1) := by decide +kernel
theorem dX9_when_21 : decode cX9_when 21 = .ok (.invokestatic 188, 3) := by decide +kernel
theorem dX9_when_24 : decode cX9_when 24 = .ok (.ifCond .ne 5, 3) := by decide +kernel
theorem dX9_when_27 : decode cX9_when 27 = .ok (.iconst (-1), 1) := by decide +kernel
theorem dX9_when_28 : decode cX9_when 28 = .ok (.ireturn, 1) := by decide +kernel
theorem dX9_when_29 : decode cX9_when 29 = .ok (.aload_n 0, 1) := by decide +kernel
theorem dX9_when_30 : decode cX9_when 30 = .ok (.getfield 83, 3) := by decide +kernel
theorem dX9_when_33 : decode cX9_when 33 = .ok (.aload_n 0, 1) := by decide +kernel
theorem dX9_when_34 : decode cX9_when 34 = .ok (.getfield 22, 3) := by decide +kernel
theorem dX9_when_37 : decode cX9_when 37 = .ok (.invokevirtual 194, 3) := by decide +kernel
theorem dX9_when_40 : decode cX9_when 40 = .ok (.aload_n 0, 1) := by decide +kernel
theorem dX9_when_41 : decode cX9_when 41 = .ok (.getfield 54, 3) := by decide +kernel
theorem dX9_when_44 : decode cX9_when 44 = .ok (.aload_n 0, 1) := by decide +kernel
theorem dX9_when_45 : decode cX9_when 45 = .ok (.getfield 47, 3) := by decide +kernel
theorem dX9_when_48 : decode cX9_when 48 = .ok (.invokevirtual 275, 3) := by decide +kernel
theorem dX9_when_51 : decode cX9_when 51 = .ok (.bipush (-2), 2) := by decide +kernel
theorem dX9_when_53 : decode cX9_when 53 = .ok (.istore 4, 2) := by decide +kernel
theorem dX9_when_55 : decode cX9_when 55 = .ok (.bipush (-2), 2) := by decide +kernel
theorem dX9_when_57 : decode cX9_when 57 = .ok (.istore 5, 2) := by decide +kernel
theorem dX9_when_59 : decode cX9_when 59 = .ok (.iconst 0, 1) := by decide +kernel
theorem dX9_when_60 : decode cX9_when 60 = .ok (.istore 6, 2) := by decide +kernel
theorem dX9_when_62 : decode cX9_when 62 = .ok (.iload 6, 2) := by decide +kernel
theorem dX9_when_64 : decode cX9_when 64 = .ok (.iload_n 2, 1) := by decide +kernel
theorem dX9_when_65 : decode cX9_when 65 = .ok (.if_icmp .gt 119, 3) := by decide +kernel
theorem dX9_when_68 : decode cX9_when 68 = .ok (.aload_n 0, 1) := by decide +kernel
theorem dX9_when_69 : decode cX9_when 69 = .ok (.getfield 51, 3) := by decide +kernel
theorem dX9_when_72 : decode cX9_when 72 = .ok (.aload_n 0, 1) := by decide +kernel
theorem dX9_when_73 : decode cX9_when 73 = .ok (.getfield 54, 3) := by decide +kernel
theorem dX9_when_76 : decode cX9_when 76 = .ok (.invokevirtual 275, 3) := by decide +kernel
theorem dX9_when_79 : decode cX9_when 79 = .ok (.aload_n 0, 1) := by decide +kernel
theorem dX9_when_80 : decode cX9_when 80 = .ok (.getfield 83, 3) := by decide +kernel
theorem dX9_when_83 : decode cX9_when 83 = .ok (.aload_n 0, 1) := by decide +kernel
theorem dX9_when_84 : decode cX9_when 84 = .ok (.getfield 51, 3) := by decide +kernel
theorem dX9_when_87 : decode cX9_when 87 = .ok (.iload_n 1, 1) := by decide +kernel
theorem dX9_when_88 : decode cX9_when 88 = .ok (.invokevirtual 248, 3) := by decide +kernel
theorem dX9_when_91 : decode cX9_when 91 = .ok (.ifCond .eq 75, 3) := by decide +kernel
theorem dX9_when_94 : decode cX9_when 94 = .ok (.aload_n 0, 1) := by decide +kernel
theorem dX9_when_95 : decode cX9_when 95 = .ok (.getfield 83, 3) := by decide +kernel
theorem dX9_when_98 : decode cX9_when 98 = .ok (.aload_n 0, 1) := by decide +kernel
theorem dX9_when_99 : decode cX9_when 99 = .ok (.getfield 51, 3) := by decide +kernel
theorem dX9_when_102 : decode cX9_when 102 = .ok (.iload_n 1, 1) := by decide +kernel
theorem dX9_when_103 : decode cX9_when 103 = .ok (.invokevirtual 256, 3) := by decide +kernel
theorem dX9_when_106 : decode cX9_when 106 = .ok (.aload_n 0, 1) := by decide +kernel
theorem dX9_when_107 : decode cX9_when 107 = .ok (.getfield 83, 3) := by decide +kernel
theorem dX9_when_110 : decode cX9_when 110 = .ok (.aload_n 0, 1) := by decide +kernel
theorem dX9_when_111 : decode cX9_when 111 = .ok (.getfield 51, 3) := by decide +kernel
theorem dX9_when_114 : decode cX9_when 114 = .ok (.bipush 120, 2) := by decide +kernel
theorem dX9_when_116 : decode cX9_when 116 = .ok (.iload 6, 2) := by decide +kernel
theorem dX9_when_118 : decode cX9_when 118 = .ok (.isub, 1) := by decide +kernel
theorem dX9_when_119 : decode cX9_when 119 = .ok (.invokevirtual 285, 3) := by decide +kernel
theorem dX9_when_122 : decode cX9_when 122 = .ok (.pop, 1) := by decide +kernel
theorem dX9_when_123 : decode cX9_when 123 = .ok (.aload_n 0, 1) := by decide +kernel
theorem dX9_when_124 : decode cX9_when 124 = .ok (.getfield 51, 3) := by decide +kernel
theorem dX9_when_127 : decode cX9_when 127 = .ok (.iload_n 1, 1) := by decide +kernel
theorem dX9_when_128 : decode cX9_when 128 = .ok (.invokevirtual 326, 3) := by decide +kernel
theorem dX9_when_131 : decode cX9_when 131 = .ok (.ifCond .eq 35, 3) := by decide +kernel
theorem dX9_when_134 : decode cX9_when 134 = .ok (.iload 4, 2) := by decide +kernel
theorem dX9_when_136 : decode cX9_when 136 = .ok (.bipush (-2), 2) := by decide +kernel
theorem dX9_when_138 : decode cX9_when 138 = .ok (.if_icmp .eq 15, 3) := by decide +kernel
theorem dX9_when_141 : decode cX9_when 141 = .ok (.aload_n 0, 1) := by decide +kernel
theorem dX9_when_142 : decode cX9_when 142 = .ok (.getfield 51, 3) := by decide +kernel
theorem dX9_when_145 : decode cX9_when 145 = .ok (.getfield 213, 3) := by decide +kernel
theorem dX9_when_148 : decode cX9_when 148 = .ok (.iload 5, 2) := by decide +kernel
theorem dX9_when_150 : decode cX9_when 150 = .ok (.if_icmp .ge 16, 3) := by decide +kernel
theorem dX9_when_153 : decode cX9_when 153 = .ok (.iload 6, 2) := by decide +kernel
theorem dX9_when_155 : decode cX9_when 155 = .ok (.istore 4, 2) := by decide +kernel
theorem dX9_when_157 : decode cX9_when 157 = .ok (.aload_n 0, 1) := by decide +kernel
theorem dX9_when_158 : decode cX9_when 158 = .ok (.getfield 51, 3) := by decide +kernel
theorem dX9_when_161 : decode cX9_when 161 = .ok (.getfield 213, 3) := by decide +kernel
theorem dX9_when_164 : decode cX9_when 164 = .ok (.istore 5, 2) := by decide +kernel
theorem dX9_when_166 : decode cX9_when 166 = .ok (.aload_n 0, 1) := by decide +kernel
theorem dX9_when_167 : decode cX9_when 167 = .ok (.getfield 83, 3) := by decide +kernel
theorem dX9_when_170 : decode cX9_when 170 = .ok (.aload_n 0, 1) := by decide +kernel
theorem dX9_when_171 : decode cX9_when 171 = .ok (.getfield 54, 3) := by decide +kernel
theorem dX9_when_174 : decode cX9_when 174 = .ok (.invokevirtual 266, 3) := by decide +kernel
theorem dX9_when_177 : decode cX9_when 177 = .ok (.pop, 1) := by decide +kernel
theorem dX9_when_178 : decode cX9_when 178 = .ok (.iinc 6 1, 3) := by decide +kernel
theorem dX9_when_181 : decode cX9_when 181 = .ok (.goto (-119), 3) := by decide +kernel
theorem dX9_when_184 : decode cX9_when 184 = .ok (.iload_n 3, 1) := by decide +kernel
theorem dX9_when_185 : decode cX9_when 185 = .ok (.ifCond .ne 8, 3) := by decide +kernel
theorem dX9_when_188 : decode cX9_when 188 = .ok (.iload 4, 2) := by decide +kernel
theorem dX9_when_190 : decode cX9_when 190 = .ok (.goto 5, 3) := by decide +kernel
theorem dX9_when_193 : decode cX9_when 193 = .ok (.iload 5, 2) := by decide +kernel
theorem dX9_when_195 : decode cX9_when 195 = .ok (.ireturn, 1) := by decide +kernel
theorem dX9_match_0 : decode cX9_match 0 = .ok (.aload_n 0, 1) := by decide +kernel
theorem dX9_match_1 : decode cX9_match 1 = .ok (.iload_n 1, 1) := by decide +kernel
theorem dX9_match_2 : decode cX9_match 2 = .ok (.invokevirtual 139, 3) := by decide +kernel
theorem dX9_match_5 : decode cX9_match 5 = .ok (.ifCond .ne 5, 3) := by decide +kernel
theorem dX9_match_8 : decode cX9_match 8 = .ok (.iconst (-1), 1) := by decide +kernel
theorem dX9_match_9 : decode cX9_match 9 = .ok (.ireturn, 1) := by decide +kernel
theorem dX9_match_10 : decode cX9_match 10 = .ok (.bipush (-2), 2) := by decide +kernel
theorem dX9_match_12 : decode cX9_match 12 = .ok (.istore_n 2, 1) := by decide +kernel
theorem dX9_match_13 : decode cX9_match 13 = .ok (.iconst 0, 1) := by decide +kernel
theorem dX9_match_14 : decode cX9_match 14 = .ok (.istore_n 3, 1) := by decide +kernel
theorem dX9_match_15 : decode cX9_match 15 = .ok (.iload_n 3, 1) := by decide +kernel
theorem dX9_match_16 : decode cX9_match 16 = .ok (.aload_n 0, 1) := by decide +kernel
theorem dX9_match_17 : decode cX9_match 17 = .ok (.getfield 22, 3) := by decide +kernel
theorem dX9_match_20 : decode cX9_match 20 = .ok (.getfield 119, 3) := by decide +kernel
theorem dX9_match_23 : decode cX9_match 23 = .ok (.if_icmp .ge 95, 3) := by decide +kernel
theorem dX9_match_26 : decode cX9_match 26 = .ok (.iload_n 2, 1) := by decide +kernel
theorem dX9_match_27 : decode cX9_match 27 = .ok (.ifCond .lt 24, 3) := by decide +kernel
theorem dX9_match_30 : decode cX9_match 30 = .ok (.aload_n 0, 1) := by decide +kernel
theorem dX9_match_31 : decode cX9_match 31 = .ok (.getfield 47, 3) := by decide +kernel
theorem dX9_match_34 : decode cX9_match 34 = .ok (.getfield 153, 3) := by decide +kernel
theorem dX9_match_37 : decode cX9_match 37 = .ok (.iload_n 3, 1) := by decide +kernel
theorem dX9_match_38 : decode cX9_match 38 = .ok (.iaload, 1) := by decide +kernel
theorem dX9_match_39 : decode cX9_match 39 = .ok (.aload_n 0, 1) := by decide +kernel
theorem dX9_match_40 : decode cX9_match 40 = .ok (.getfield 47, 3) := by decide +kernel
theorem dX9_match_43 : decode cX9_match 43 = .ok (.getfield 153, 3) := by decide +kernel
theorem dX9_match_46 : decode cX9_match 46 = .ok (.iload_n 2, 1) := by decide +kernel
theorem dX9_match_47 : decode cX9_match 47 = .ok (.iaload, 1) := by decide +kernel
theorem dX9_match_48 : decode cX9_match 48 = .ok (.if_icmp .ge 7, 3) := by decide +kernel
theorem dX9_match_51 : decode cX9_match 51 = .ok (.iconst 1, 1) := by decide +kernel
theorem dX9_match_52 : decode cX9_match 52 = .ok (.goto 4, 3) := by decide +kernel
theorem dX9_match_55 : decode cX9_match 55 = .ok (.iconst 0, 1) := by decide +kernel
theorem dX9_match_56 : decode cX9_match 56 = .ok (.istore 4, 2) := by decide +kernel
theorem dX9_match_58 : decode cX9_match 58 = .ok (.iload 4, 2) := by decide +kernel
theorem dX9_match_60 : decode cX9_match 60 = .ok (.ifCond .eq 52, 3) := by decide +kernel
theorem dX9_match_63 : decode cX9_match 63 = .ok (.aload_n 0, 1) := by decide +kernel
theorem dX9_match_64 : decode cX9_match 64 = .ok (.iload_n 1, 1) := by decide +kernel
theorem dX9_match_65 : decode cX9_match 65 = .ok (.iload_n 3, 1) := by decide +kernel
theorem dX9_match_66 : decode cX9_match 66 = .ok (.invokevirtual 142, 3) := by decide +kernel
theorem dX9_match_69 : decode cX9_match 69 = .ok (.ifCond .eq 43, 3) := by decide +kernel
theorem dX9_match_72 : decode cX9_match 72 = .ok (.aload_n 0, 1) := by decide +kernel
theorem dX9_match_73 : decode cX9_match 73 = .ok (.invokevirtual 279, 3) := by decide +kernel
theorem dX9_match_76 : decode cX9_match 76 = .ok (.aload_n 0, 1) := by decide +kernel
theorem dX9_match_77 : decode cX9_match 77 = .ok (.getfield 51, 3) := by decide +kernel
theorem dX9_match_80 : decode cX9_match 80 = .ok (.iload_n 1, 1) := by decide +kernel
theorem dX9_match_81 : decode cX9_match 81 = .ok (.iload_n 3, 1) := by decide +kernel
theorem dX9_match_82 : decode cX9_match 82 = .ok (.invokevirtual 259, 3) := by decide +kernel
theorem dX9_match_85 : decode cX9_match 85 = .ok (.aload_n 0, 1) := by decide +kernel
theorem dX9_match_86 : decode cX9_match 86 = .ok (.getfield 83, 3) := by decide +kernel
theorem dX9_match_89 : decode cX9_match 89 = .ok (.aload_n 0, 1) := by decide +kernel
theorem dX9_match_90 : decode cX9_match 90 = .ok (.getfield 51, 3) := by decide +kernel
theorem dX9_match_93 : decode cX9_match 93 = .ok (.bipush 120, 2) := by decide +kernel
theorem dX9_match_95 : decode cX9_match 95 = .ok (.invokevirtual 285, 3) := by decide +kernel
theorem dX9_match_98 : decode cX9_match 98 = .ok (.pop, 1) := by decide +kernel
theorem dX9_match_99 : decode cX9_match 99 = .ok (.aload_n 0, 1) := by decide +kernel
theorem dX9_match_100 : decode cX9_match 100 = .ok (.getfield 51, 3) := by decide +kernel
theorem dX9_match_103 : decode cX9_match 103 = .ok (.iload_n 1, 1) := by decide +kernel
theorem dX9_match_104 : decode cX9_match 104 = .ok (.invokevirtual 326, 3) := by decide +kernel
theorem dX9_match_107 : decode cX9_match 107 = .ok (.ifCond .eq 5, 3) := by decide +kernel
theorem dX9_match_110 : decode cX9_match 110 = .ok (.iload_n 3, 1) := by decide +kernel
theorem dX9_match_111 : decode cX9_match 111 = .ok (.istore_n 2, 1) := by decide +kernel
theorem dX9_match_112 : decode cX9_match 112 = .ok (.iinc 3 1, 3) := by decide +kernel
theorem dX9_match_115 : decode cX9_match 115 = .ok (.goto (-100), 3) := by decide +kernel
theorem dX9_match_118 : decode cX9_match 118 = .ok (.iload_n 2, 1) := by decide +kernel
theorem dX9_match_119 : decode cX9_match 119 = .ok (.ireturn, 1) := by decide +kernel
theorem dX9_hush_0 : decode cX9_hush 0 = .ok (.aload_n 0, 1) := by decide +kernel
theorem dX9_hush_1 : decode cX9_hush 1 = .ok (.iload_n 1, 1) := by decide +kernel
theorem dX9_hush_2 : decode cX9_hush 2 = .ok (.invokevirtual 139, 3) := by decide +kernel
theorem dX9_hush_5 : decode cX9_hush 5 = .ok (.ifCond .eq 13, 3) := by decide +kernel
theorem dX9_hush_8 : decode cX9_hush 8 = .ok (.iload_n 2, 1) := by decide +kernel
theorem dX9_hush_9 : decode cX9_hush 9 = .ok (.iconst 1, 1) := by decide +kernel
theorem dX9_hush_10 : decode cX9_hush 10 = .ok (.bipush 40, 2) := by decide +kernel
theorem dX9_hush_12 : decode cX9_hush 12 = .ok (.invokestatic 188, 3) := by decide +kernel
theorem dX9_hush_15 : decode cX9_hush 15 = .ok (.ifCond .ne 5, 3) := by decide +kernel
theorem dX9_hush_18 : decode cX9_hush 18 = .ok (.iconst (-1), 1) := by decide +kernel
theorem dX9_hush_19 : decode cX9_hush 19 = .ok (.ireturn, 1) := by decide +kernel
theorem dX9_hush_20 : decode cX9_hush 20 = .ok (.aload_n 0, 1) := by decide +kernel
theorem dX9_hush_21 : decode cX9_hush 21 = .ok (.getfield 47, 3) := by decide +kernel
theorem dX9_hush_24 : decode cX9_hush 24 = .ok (.getfield 225, 3) := by decide +kernel
theorem dX9_hush_27 : decode cX9_hush 27 = .ok (.iconst 1, 1) := by decide +kernel
theorem dX9_hush_28 : decode cX9_hush 28 = .ok (.iload_n 1, 1) := by decide +kernel
theorem dX9_hush_29 : decode cX9_hush 29 = .ok (.ishl, 1) := by decide +kernel
theorem dX9_hush_30 : decode cX9_hush 30 = .ok (.iconst (-1), 1) := by decide +kernel
theorem dX9_hush_31 : decode cX9_hush 31 = .ok (.ixor, 1) := by decide +kernel
theorem dX9_hush_32 : decode cX9_hush 32 = .ok (.iand, 1) := by decide +kernel
theorem dX9_hush_33 : decode cX9_hush 33 = .ok (.istore_n 3, 1) := by decide +kernel
theorem dX9_hush_34 : decode cX9_hush 34 = .ok (.bipush (-2), 2) := by decide +kernel
theorem dX9_hush_36 : decode cX9_hush 36 = .ok (.istore 4, 2) := by decide +kernel
theorem dX9_hush_38 : decode cX9_hush 38 = .ok (.iconst 0, 1) := by decide +kernel
theorem dX9_hush_39 : decode cX9_hush 39 = .ok (.istore 5, 2) := by decide +kernel
theorem dX9_hush_41 : decode cX9_hush 41 = .ok (.iload 5, 2) := by decide +kernel
theorem dX9_hush_43 : decode cX9_hush 43 = .ok (.bipush 64, 2) := by decide +kernel
theorem dX9_hush_45 : decode cX9_hush 45 = .ok (.if_icmp .ge 68, 3) := by decide +kernel
theorem dX9_hush_48 : decode cX9_hush 48 = .ok (.iload 5, 2) := by decide +kernel
theorem dX9_hush_50 : decode cX9_hush 50 = .ok (.iload_n 3, 1) := by decide +kernel
theorem dX9_hush_51 : decode cX9_hush 51 = .ok (.iconst (-1), 1) := by decide +kernel
theorem dX9_hush_52 : decode cX9_hush 52 = .ok (.ixor, 1) := by decide +kernel
theorem dX9_hush_53 : decode cX9_hush 53 = .ok (.iand, 1) := by decide +kernel
theorem dX9_hush_54 : decode cX9_hush 54 = .ok (.ifCond .ne 53, 3) := by decide +kernel
theorem dX9_hush_57 : decode cX9_hush 57 = .ok (.iload 5, 2) := by decide +kernel
theorem dX9_hush_59 : decode cX9_hush 59 = .ok (.iload 4, 2) := by decide +kernel
theorem dX9_hush_61 : decode cX9_hush 61 = .ok (.invokestatic 329, 3) := by decide +kernel
theorem dX9_hush_64 : decode cX9_hush 64 = .ok (.ifCond .eq 43, 3) := by decide +kernel
theorem dX9_hush_67 : decode cX9_hush 67 = .ok (.aload_n 0, 1) := by decide +kernel
theorem dX9_hush_68 : decode cX9_hush 68 = .ok (.invokevirtual 279, 3) := by decide +kernel
theorem dX9_hush_71 : decode cX9_hush 71 = .ok (.aload_n 0, 1) := by decide +kernel
theorem dX9_hush_72 : decode cX9_hush 72 = .ok (.getfield 83, 3) := by decide +kernel
theorem dX9_hush_75 : decode cX9_hush 75 = .ok (.iload 5, 2) := by decide +kernel
theorem dX9_hush_77 : decode cX9_hush 77 = .ok (.putfield 295, 3) := by decide +kernel
theorem dX9_hush_80 : decode cX9_hush 80 = .ok (.aload_n 0, 1) := by decide +kernel
theorem dX9_hush_81 : decode cX9_hush 81 = .ok (.getfield 83, 3) := by decide +kernel
theorem dX9_hush_84 : decode cX9_hush 84 = .ok (.aload_n 0, 1) := by decide +kernel
theorem dX9_hush_85 : decode cX9_hush 85 = .ok (.getfield 51, 3) := by decide +kernel
theorem dX9_hush_88 : decode cX9_hush 88 = .ok (.iload_n 2, 1) := by decide +kernel
theorem dX9_hush_89 : decode cX9_hush 89 = .ok (.invokevirtual 282, 3) := by decide +kernel
theorem dX9_hush_92 : decode cX9_hush 92 = .ok (.aload_n 0, 1) := by decide +kernel
theorem dX9_hush_93 : decode cX9_hush 93 = .ok (.getfield 51, 3) := by decide +kernel
theorem dX9_hush_96 : decode cX9_hush 96 = .ok (.getfield 216, 3) := by decide +kernel
theorem dX9_hush_99 : decode cX9_hush 99 = .ok (.iload_n 1, 1) := by decide +kernel
theorem dX9_hush_100 : decode cX9_hush 100 = .ok (.if_icmp .ne 7, 3) := by decide +kernel
theorem dX9_hush_103 : decode cX9_hush 103 = .ok (.iload 5, 2) := by decide +kernel
theorem dX9_hush_105 : decode cX9_hush 105 = .ok (.istore 4, 2) := by decide +kernel
theorem dX9_hush_107 : decode cX9_hush 107 = .ok (.iinc 5 1, 3) := by decide +kernel
theorem dX9_hush_110 : decode cX9_hush 110 = .ok (.goto (-69), 3) := by decide +kernel
theorem dX9_hush_113 : decode cX9_hush 113 = .ok (.iload 4, 2) := by decide +kernel
theorem dX9_hush_115 : decode cX9_hush 115 = .ok (.ireturn, 1) := by decide +kernel
theorem dX9_isFewer_0 : decode cX9_isFewer 0 = .ok (.iload_n 1, 1) := by decide +kernel
theorem dX9_isFewer_1 : decode cX9_isFewer 1 = .ok (.ifCond .lt 14, 3) := by decide +kernel
theorem dX9_isFewer_4 : decode cX9_isFewer 4 = .ok (.iload_n 0, 1) := by decide +kernel
theorem dX9_isFewer_5 : decode cX9_isFewer 5 = .ok (.invokestatic 228, 3) := by decide +kernel
theorem dX9_isFewer_8 : decode cX9_isFewer 8 = .ok (.iload_n 1, 1) := by decide +kernel
theorem dX9_isFewer_9 : decode cX9_isFewer 9 = .ok (.invokestatic 228, 3) := by decide +kernel
theorem dX9_isFewer_12 : decode cX9_isFewer 12 = .ok (.if_icmp .ge 7, 3) := by decide +kernel
theorem dX9_isFewer_15 : decode cX9_isFewer 15 = .ok (.iconst 1, 1) := by decide +kernel
theorem dX9_isFewer_16 : decode cX9_isFewer 16 = .ok (.goto 4, 3) := by decide +kernel
theorem dX9_isFewer_19 : decode cX9_isFewer 19 = .ok (.iconst 0, 1) := by decide +kernel
theorem dX9_isFewer_20 : decode cX9_isFewer 20 = .ok (.ireturn, 1) := by decide +kernel
theorem dX9_outbid_0 : decode cX9_outbid 0 = .ok (.bipush (-2), 2) := by decide +kernel
theorem dX9_outbid_2 : decode cX9_outbid 2 = .ok (.istore_n 1, 1) := by decide +kernel
theorem dX9_outbid_3 : decode cX9_outbid 3 = .ok (.iconst 1, 1) := by decide +kernel
theorem dX9_outbid_4 : decode cX9_outbid 4 = .ok (.istore_n 2, 1) := by decide +kernel
theorem dX9_outbid_5 : decode cX9_outbid 5 = .ok (.iload_n 2, 1) := by decide +kernel
theorem dX9_outbid_6 : decode cX9_outbid 6 = .ok (.bipush 64, 2) := by decide +kernel
theorem dX9_outbid_8 : decode cX9_outbid 8 = .ok (.if_icmp .ge 41, 3) := by decide +kernel
theorem dX9_outbid_11 : decode cX9_outbid 11 = .ok (.iload_n 2, 1) := by decide +kernel
theorem dX9_outbid_12 : decode cX9_outbid 12 = .ok (.aload_n 0, 1) := by decide +kernel
theorem dX9_outbid_13 : decode cX9_outbid 13 = .ok (.getfield 47, 3) := by decide +kernel
theorem dX9_outbid_16 : decode cX9_outbid 16 = .ok (.getfield 225, 3) := by decide +kernel
theorem dX9_outbid_19 : decode cX9_outbid 19 = .ok (.iconst (-1), 1) := by decide +kernel
theorem dX9_outbid_20 : decode cX9_outbid 20 = .ok (.ixor, 1) := by decide +kernel
theorem dX9_outbid_21 : decode cX9_outbid 21 = .ok (.iand, 1) := by decide +kernel
theorem dX9_outbid_22 : decode cX9_outbid 22 = .ok (.ifCond .ne 21, 3) := by decide +kernel
theorem dX9_outbid_25 : decode cX9_outbid 25 = .ok (.iload_n 2, 1) := by decide +kernel
theorem dX9_outbid_26 : decode cX9_outbid 26 = .ok (.iload_n 1, 1) := by decide +kernel
theorem dX9_outbid_27 : decode cX9_outbid 27 = .ok (.invokestatic 329, 3) := by decide +kernel
theorem dX9_outbid_30 : decode cX9_outbid 30 = .ok (.ifCond .eq 13, 3) := by decide +kernel
theorem dX9_outbid_33 : decode cX9_outbid 33 = .ok (.aload_n 0, 1) := by decide +kernel
theorem dX9_outbid_34 : decode cX9_outbid 34 = .ok (.iload_n 2, 1) := by decide +kernel
