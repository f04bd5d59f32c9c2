theorem dX10_part_6 : decode cX10_part 6 = .ok (.ifCond .lt 11, 3) := by decide +kernel
theorem dX10_part_9 : decode cX10_part 9 = .ok (.iload_n 1, 1) := by decide +kernel
theorem dX10_part_10 : decode cX10_part 10 = .ok (.aload_n 0, 1) := by decide +kernel
theorem dX10_part_11 : decode cX10_part 11 = .ok (.getfield 228, 3) := by decide +kernel
theorem dX10_part_14 : decode cX10_part 14 = .ok (.if_icmp .lt 5, 3) := by decide +kernel
theorem dX10_part_17 : decode cX10_part 17 = .ok (.iconst (-1), 1) := by decide +kernel
theorem dX10_part_18 : decode cX10_part 18 = .ok (.ireturn, 1) := by decide +kernel
theorem dX10_part_19 : decode cX10_part 19 = .ok (.iload_n 2, 1) := by decide +kernel
theorem dX10_part_20 : decode cX10_part 20 = .ok (.ifCond .ne 12, 3) := by decide +kernel
theorem dX10_part_23 : decode cX10_part 23 = .ok (.aload_n 0, 1) := by decide +kernel
theorem dX10_part_24 : decode cX10_part 24 = .ok (.getfield 48, 3) := by decide +kernel
theorem dX10_part_27 : decode cX10_part 27 = .ok (.iload_n 1, 1) := by decide +kernel
theorem dX10_part_28 : decode cX10_part 28 = .ok (.iaload, 1) := by decide +kernel
theorem dX10_part_29 : decode cX10_part 29 = .ok (.goto 40, 3) := by decide +kernel
theorem dX10_part_32 : decode cX10_part 32 = .ok (.iload_n 2, 1) := by decide +kernel
theorem dX10_part_33 : decode cX10_part 33 = .ok (.iconst 1, 1) := by decide +kernel
theorem dX10_part_34 : decode cX10_part 34 = .ok (.if_icmp .ne 12, 3) := by decide +kernel
theorem dX10_part_37 : decode cX10_part 37 = .ok (.aload_n 0, 1) := by decide +kernel
theorem dX10_part_38 : decode cX10_part 38 = .ok (.getfield 103, 3) := by decide +kernel
theorem dX10_part_41 : decode cX10_part 41 = .ok (.iload_n 1, 1) := by decide +kernel
theorem dX10_part_42 : decode cX10_part 42 = .ok (.iaload, 1) := by decide +kernel
theorem dX10_part_43 : decode cX10_part 43 = .ok (.goto 26, 3) := by decide +kernel
theorem dX10_part_46 : decode cX10_part 46 = .ok (.iload_n 2, 1) := by decide +kernel
theorem dX10_part_47 : decode cX10_part 47 = .ok (.iconst 2, 1) := by decide +kernel
theorem dX10_part_48 : decode cX10_part 48 = .ok (.if_icmp .ne 20, 3) := by decide +kernel
theorem dX10_part_51 : decode cX10_part 51 = .ok (.aload_n 0, 1) := by decide +kernel
theorem dX10_part_52 : decode cX10_part 52 = .ok (.getfield 106, 3) := by decide +kernel
theorem dX10_part_55 : decode cX10_part 55 = .ok (.iload_n 1, 1) := by decide +kernel
theorem dX10_part_56 : decode cX10_part 56 = .ok (.baload, 1) := by decide +kernel
theorem dX10_part_57 : decode cX10_part 57 = .ok (.ifCond .eq 7, 3) := by decide +kernel
theorem dX10_part_60 : decode cX10_part 60 = .ok (.iconst 1, 1) := by decide +kernel
theorem dX10_part_61 : decode cX10_part 61 = .ok (.goto 8, 3) := by decide +kernel
theorem dX10_part_64 : decode cX10_part 64 = .ok (.iconst 0, 1) := by decide +kernel
theorem dX10_part_65 : decode cX10_part 65 = .ok (.goto 4, 3) := by decide +kernel
theorem dX10_part_68 : decode cX10_part 68 = .ok (.iconst (-1), 1) := by decide +kernel
theorem dX10_part_69 : decode cX10_part 69 = .ok (.ireturn, 1) := by decide +kernel
theorem dX10_law_0 : decode cX10_law 0 = .ok (.aload_n 0, 1) := by decide +kernel
theorem dX10_law_1 : decode cX10_law 1 = .ok (.iconst 0, 1) := by decide +kernel
theorem dX10_law_2 : decode cX10_law 2 = .ok (.putfield 151, 3) := by decide +kernel
theorem dX10_law_5 : decode cX10_law 5 = .ok (.iload_n 1, 1) := by decide +kernel
theorem dX10_law_6 : decode cX10_law 6 = .ok (.iconst 0, 1) := by decide +kernel
theorem dX10_law_7 : decode cX10_law 7 = .ok (.iconst 2, 1) := by decide +kernel
theorem dX10_law_8 : decode cX10_law 8 = .ok (.invokestatic 196, 3) := by decide +kernel
theorem dX10_law_11 : decode cX10_law 11 = .ok (.ifCond .eq 20, 3) := by decide +kernel
theorem dX10_law_14 : decode cX10_law 14 = .ok (.aload_n 0, 1) := by decide +kernel
theorem dX10_law_15 : decode cX10_law 15 = .ok (.getfield 54, 3) := by decide +kernel
theorem dX10_law_18 : decode cX10_law 18 = .ok (.iload_n 1, 1) := by decide +kernel
theorem dX10_law_19 : decode cX10_law 19 = .ok (.baload, 1) := by decide +kernel
theorem dX10_law_20 : decode cX10_law 20 = .ok (.ifCond .eq 11, 3) := by decide +kernel
theorem dX10_law_23 : decode cX10_law 23 = .ok (.aload_n 0, 1) := by decide +kernel
theorem dX10_law_24 : decode cX10_law 24 = .ok (.iload_n 2, 1) := by decide +kernel
theorem dX10_law_25 : decode cX10_law 25 = .ok (.invokevirtual 368, 3) := by decide +kernel
theorem dX10_law_28 : decode cX10_law 28 = .ok (.ifCond .ne 7, 3) := by decide +kernel
theorem dX10_law_31 : decode cX10_law 31 = .ok (.ldc2_w 439, 3) := by decide +kernel
theorem dX10_law_34 : decode cX10_law 34 = .ok (.lreturn, 1) := by decide +kernel
theorem dX10_law_35 : decode cX10_law 35 = .ok (.aload_n 0, 1) := by decide +kernel
theorem dX10_law_36 : decode cX10_law 36 = .ok (.invokevirtual 341, 3) := by decide +kernel
theorem dX10_law_39 : decode cX10_law 39 = .ok (.aload_n 0, 1) := by decide +kernel
theorem dX10_law_40 : decode cX10_law 40 = .ok (.iconst 0, 1) := by decide +kernel
theorem dX10_law_41 : decode cX10_law 41 = .ok (.iload_n 2, 1) := by decide +kernel
theorem dX10_law_42 : decode cX10_law 42 = .ok (.invokevirtual 378, 3) := by decide +kernel
theorem dX10_law_45 : decode cX10_law 45 = .ok (.aload_n 0, 1) := by decide +kernel
theorem dX10_law_46 : decode cX10_law 46 = .ok (.iload_n 1, 1) := by decide +kernel
theorem dX10_law_47 : decode cX10_law 47 = .ok (.invokevirtual 375, 3) := by decide +kernel
theorem dX10_law_50 : decode cX10_law 50 = .ok (.lstore_n 3, 1) := by decide +kernel
theorem dX10_law_51 : decode cX10_law 51 = .ok (.aload_n 0, 1) := by decide +kernel
theorem dX10_law_52 : decode cX10_law 52 = .ok (.getfield 315, 3) := by decide +kernel
theorem dX10_law_55 : decode cX10_law 55 = .ok (.ifCond .eq 9, 3) := by decide +kernel
theorem dX10_law_58 : decode cX10_law 58 = .ok (.ldc2_w 439, 3) := by decide +kernel
theorem dX10_law_61 : decode cX10_law 61 = .ok (.goto 4, 3) := by decide +kernel
theorem dX10_law_64 : decode cX10_law 64 = .ok (.lload_n 3, 1) := by decide +kernel
theorem dX10_law_65 : decode cX10_law 65 = .ok (.lreturn, 1) := by decide +kernel
theorem dX10_nod_0 : decode cX10_nod 0 = .ok (.aload_n 0, 1) := by decide +kernel
theorem dX10_nod_1 : decode cX10_nod 1 = .ok (.iconst 0, 1) := by decide +kernel
theorem dX10_nod_2 : decode cX10_nod 2 = .ok (.putfield 151, 3) := by decide +kernel
theorem dX10_nod_5 : decode cX10_nod 5 = .ok (.aload_n 0, 1) := by decide +kernel
theorem dX10_nod_6 : decode cX10_nod 6 = .ok (.iload_n 1, 1) := by decide +kernel
theorem dX10_nod_7 : decode cX10_nod 7 = .ok (.invokevirtual 368, 3) := by decide +kernel
theorem dX10_nod_10 : decode cX10_nod 10 = .ok (.ifCond .ne 5, 3) := by decide +kernel
theorem dX10_nod_13 : decode cX10_nod 13 = .ok (.iconst (-1), 1) := by decide +kernel
theorem dX10_nod_14 : decode cX10_nod 14 = .ok (.ireturn, 1) := by decide +kernel
theorem dX10_nod_15 : decode cX10_nod 15 = .ok (.aload_n 0, 1) := by decide +kernel
theorem dX10_nod_16 : decode cX10_nod 16 = .ok (.invokevirtual 341, 3) := by decide +kernel
theorem dX10_nod_19 : decode cX10_nod 19 = .ok (.aload_n 0, 1) := by decide +kernel
theorem dX10_nod_20 : decode cX10_nod 20 = .ok (.getfield 118, 3) := by decide +kernel
theorem dX10_nod_23 : decode cX10_nod 23 = .ok (.iconst 0, 1) := by decide +kernel
theorem dX10_nod_24 : decode cX10_nod 24 = .ok (.baload, 1) := by decide +kernel
theorem dX10_nod_25 : decode cX10_nod 25 = .ok (.ifCond .ne 21, 3) := by decide +kernel
theorem dX10_nod_28 : decode cX10_nod 28 = .ok (.aload_n 0, 1) := by decide +kernel
theorem dX10_nod_29 : decode cX10_nod 29 = .ok (.getfield 94, 3) := by decide +kernel
theorem dX10_nod_32 : decode cX10_nod 32 = .ok (.iload_n 1, 1) := by decide +kernel
theorem dX10_nod_33 : decode cX10_nod 33 = .ok (.baload, 1) := by decide +kernel
theorem dX10_nod_34 : decode cX10_nod 34 = .ok (.ifCond .eq 12, 3) := by decide +kernel
theorem dX10_nod_37 : decode cX10_nod 37 = .ok (.aload_n 0, 1) := by decide +kernel
theorem dX10_nod_38 : decode cX10_nod 38 = .ok (.iconst 0, 1) := by decide +kernel
theorem dX10_nod_39 : decode cX10_nod 39 = .ok (.iload_n 1, 1) := by decide +kernel
theorem dX10_nod_40 : decode cX10_nod 40 = .ok (.invokevirtual 409, 3) := by decide +kernel
theorem dX10_nod_43 : decode cX10_nod 43 = .ok (.ifCond .ne 6, 3) := by decide +kernel
theorem dX10_nod_46 : decode cX10_nod 46 = .ok (.bipush (-2), 2) := by decide +kernel
theorem dX10_nod_48 : decode cX10_nod 48 = .ok (.ireturn, 1) := by decide +kernel
theorem dX10_nod_49 : decode cX10_nod 49 = .ok (.aload_n 0, 1) := by decide +kernel
theorem dX10_nod_50 : decode cX10_nod 50 = .ok (.invokevirtual 441, 3) := by decide +kernel
theorem dX10_nod_53 : decode cX10_nod 53 = .ok (.aload_n 0, 1) := by decide +kernel
theorem dX10_nod_54 : decode cX10_nod 54 = .ok (.iconst 0, 1) := by decide +kernel
theorem dX10_nod_55 : decode cX10_nod 55 = .ok (.iload_n 1, 1) := by decide +kernel
theorem dX10_nod_56 : decode cX10_nod 56 = .ok (.invokevirtual 427, 3) := by decide +kernel
theorem dX10_nod_59 : decode cX10_nod 59 = .ok (.aload_n 0, 1) := by decide +kernel
theorem dX10_nod_60 : decode cX10_nod 60 = .ok (.getfield 109, 3) := by decide +kernel
theorem dX10_nod_63 : decode cX10_nod 63 = .ok (.iconst 0, 1) := by decide +kernel
theorem dX10_nod_64 : decode cX10_nod 64 = .ok (.iaload, 1) := by decide +kernel
theorem dX10_nod_65 : decode cX10_nod 65 = .ok (.ireturn, 1) := by decide +kernel
theorem dX10_areTwo_0 : decode cX10_areTwo 0 = .ok (.aload_n 0, 1) := by decide +kernel
theorem dX10_areTwo_1 : decode cX10_areTwo 1 = .ok (.iload_n 1, 1) := by decide +kernel
theorem dX10_areTwo_2 : decode cX10_areTwo 2 = .ok (.invokevirtual 444, 3) := by decide +kernel
theorem dX10_areTwo_5 : decode cX10_areTwo 5 = .ok (.ifCond .eq 20, 3) := by decide +kernel
theorem dX10_areTwo_8 : decode cX10_areTwo 8 = .ok (.aload_n 0, 1) := by decide +kernel
theorem dX10_areTwo_9 : decode cX10_areTwo 9 = .ok (.iload_n 2, 1) := by decide +kernel
theorem dX10_areTwo_10 : decode cX10_areTwo 10 = .ok (.invokevirtual 444, 3) := by decide +kernel
theorem dX10_areTwo_13 : decode cX10_areTwo 13 = .ok (.ifCond .eq 12, 3) := by decide +kernel
theorem dX10_areTwo_16 : decode cX10_areTwo 16 = .ok (.iload_n 1, 1) := by decide +kernel
theorem dX10_areTwo_17 : decode cX10_areTwo 17 = .ok (.iload_n 2, 1) := by decide +kernel
theorem dX10_areTwo_18 : decode cX10_areTwo 18 = .ok (.if_icmp .eq 7, 3) := by decide +kernel
theorem dX10_areTwo_21 : decode cX10_areTwo 21 = .ok (.iconst 1, 1) := by decide +kernel
theorem dX10_areTwo_22 : decode cX10_areTwo 22 = .ok (.goto 4, 3) := by decide +kernel
theorem dX10_areTwo_25 : decode cX10_areTwo 25 = .ok (.iconst 0, 1) := by decide +kernel
theorem dX10_areTwo_26 : decode cX10_areTwo 26 = .ok (.ireturn, 1) := by decide +kernel
theorem dX10_marries_0 : decode cX10_marries 0 = .ok (.bipush 6, 2) := by decide +kernel
theorem dX10_marries_2 : decode cX10_marries 2 = .ok (.iload_n 1, 1) := by decide +kernel
theorem dX10_marries_3 : decode cX10_marries 3 = .ok (.imul, 1) := by decide +kernel
theorem dX10_marries_4 : decode cX10_marries 4 = .ok (.iload_n 2, 1) := by decide +kernel
theorem dX10_marries_5 : decode cX10_marries 5 = .ok (.iadd, 1) := by decide +kernel
theorem dX10_marries_6 : decode cX10_marries 6 = .ok (.istore 4, 2) := by decide +kernel
theorem dX10_marries_8 : decode cX10_marries 8 = .ok (.bipush 6, 2) := by decide +kernel
theorem dX10_marries_10 : decode cX10_marries 10 = .ok (.iload_n 1, 1) := by decide +kernel
theorem dX10_marries_11 : decode cX10_marries 11 = .ok (.imul, 1) := by decide +kernel
theorem dX10_marries_12 : decode cX10_marries 12 = .ok (.iload_n 3, 1) := by decide +kernel
theorem dX10_marries_13 : decode cX10_marries 13 = .ok (.iadd, 1) := by decide +kernel
theorem dX10_marries_14 : decode cX10_marries 14 = .ok (.istore 5, 2) := by decide +kernel
theorem dX10_marries_16 : decode cX10_marries 16 = .ok (.aload_n 0, 1) := by decide +kernel
theorem dX10_marries_17 : decode cX10_marries 17 = .ok (.getfield 85, 3) := by decide +kernel
theorem dX10_marries_20 : decode cX10_marries 20 = .ok (.iload 4, 2) := by decide +kernel
theorem dX10_marries_22 : decode cX10_marries 22 = .ok (.aload_n 0, 1) := by decide +kernel
theorem dX10_marries_23 : decode cX10_marries 23 = .ok (.getfield 85, 3) := by decide +kernel
theorem dX10_marries_26 : decode cX10_marries 26 = .ok (.iload 4, 2) := by decide +kernel
theorem dX10_marries_28 : decode cX10_marries 28 = .ok (.iaload, 1) := by decide +kernel
theorem dX10_marries_29 : decode cX10_marries 29 = .ok (.aload_n 0, 1) := by decide +kernel
theorem dX10_marries_30 : decode cX10_marries 30 = .ok (.getfield 85, 3) := by decide +kernel
theorem dX10_marries_33 : decode cX10_marries 33 = .ok (.iload 5, 2) := by decide +kernel
theorem dX10_marries_35 : decode cX10_marries 35 = .ok (.iaload, 1) := by decide +kernel
theorem dX10_marries_36 : decode cX10_marries 36 = .ok (.iadd, 1) := by decide +kernel
theorem dX10_marries_37 : decode cX10_marries 37 = .ok (.sipush 9999, 3) := by decide +kernel
theorem dX10_marries_40 : decode cX10_marries 40 = .ok (.if_icmp .le 9, 3) := by decide +kernel
theorem dX10_marries_43 : decode cX10_marries 43 = .ok (.sipush 9999, 3) := by decide +kernel
theorem dX10_marries_46 : decode cX10_marries 46 = .ok (.goto 18, 3) := by decide +kernel
theorem dX10_marries_49 : decode cX10_marries 49 = .ok (.aload_n 0, 1) := by decide +kernel
theorem dX10_marries_50 : decode cX10_marries 50 = .ok (.getfield 85, 3) := by decide +kernel
theorem dX10_marries_53 : decode cX10_marries 53 = .ok (.iload 4, 2) := by decide +kernel
theorem dX10_marries_55 : decode cX10_marries 55 = .ok (.iaload, 1) := by decide +kernel
theorem dX10_marries_56 : decode cX10_marries 56 = .ok (.aload_n 0, 1) := by decide +kernel
theorem dX10_marries_57 : decode cX10_marries 57 = .ok (.getfield 85, 3) := by decide +kernel
theorem dX10_marries_60 : decode cX10_marries 60 = .ok (.iload 5, 2) := by decide +kernel
theorem dX10_marries_62 : decode cX10_marries 62 = .ok (.iaload, 1) := by decide +kernel
theorem dX10_marries_63 : decode cX10_marries 63 = .ok (.iadd, 1) := by decide +kernel
theorem dX10_marries_64 : decode cX10_marries 64 = .ok (.iastore, 1) := by decide +kernel
theorem dX10_marries_65 : decode cX10_marries 65 = .ok (.aload_n 0, 1) := by decide +kernel
theorem dX10_marries_66 : decode cX10_marries 66 = .ok (.getfield 91, 3) := by decide +kernel
theorem dX10_marries_69 : decode cX10_marries 69 = .ok (.iload 4, 2) := by decide +kernel
theorem dX10_marries_71 : decode cX10_marries 71 = .ok (.aload_n 0, 1) := by decide +kernel
theorem dX10_marries_72 : decode cX10_marries 72 = .ok (.getfield 91, 3) := by decide +kernel
theorem dX10_marries_75 : decode cX10_marries 75 = .ok (.iload 4, 2) := by decide +kernel
theorem dX10_marries_77 : decode cX10_marries 77 = .ok (.iaload, 1) := by decide +kernel
theorem dX10_marries_78 : decode cX10_marries 78 = .ok (.aload_n 0, 1) := by decide +kernel
theorem dX10_marries_79 : decode cX10_marries 79 = .ok (.getfield 91, 3) := by decide +kernel
theorem dX10_marries_82 : decode cX10_marries 82 = .ok (.iload 5, 2) := by decide +kernel
theorem dX10_marries_84 : decode cX10_marries 84 = .ok (.iaload, 1) := by decide +kernel
theorem dX10_marries_85 : decode cX10_marries 85 = .ok (.iadd, 1) := by decide +kernel
theorem dX10_marries_86 : decode cX10_marries 86 = .ok (.bipush 9, 2) := by decide +kernel
theorem dX10_marries_88 : decode cX10_marries 88 = .ok (.if_icmp .le 8, 3) := by decide +kernel
theorem dX10_marries_91 : decode cX10_marries 91 = .ok (.bipush 9, 2) := by decide +kernel
theorem dX10_marries_93 : decode cX10_marries 93 = .ok (.goto 18, 3) := by decide +kernel
theorem dX10_marries_96 : decode cX10_marries 96 = .ok (.aload_n 0, 1) := by decide +kernel
theorem dX10_marries_97 : decode cX10_marries 97 = .ok (.getfield 91, 3) := by decide +kernel
theorem dX10_marries_100 : decode cX10_marries 100 = .ok (.iload 4, 2) := by decide +kernel
theorem dX10_marries_102 : decode cX10_marries 102 = .ok (.iaload, 1) := by decide +kernel
theorem dX10_marries_103 : decode cX10_marries 103 = .ok (.aload_n 0, 1) := by decide +kernel
theorem dX10_marries_104 : decode cX10_marries 104 = .ok (.getfield 91, 3) := by decide +kernel
theorem dX10_marries_107 : decode cX10_marries 107 = .ok (.iload 5, 2) := by decide +kernel
theorem dX10_marries_109 : decode cX10_marries 109 = .ok (.iaload, 1) := by decide +kernel
theorem dX10_marries_110 : decode cX10_marries 110 = .ok (.iadd, 1) := by decide +kernel
theorem dX10_marries_111 : decode cX10_marries 111 = .ok (.iastore, 1) := by decide +kernel
theorem dX10_marries_112 : decode cX10_marries 112 = .ok (.aload_n 0, 1) := by decide +kernel
theorem dX10_marries_113 : decode cX10_marries 113 = .ok (.getfield 94, 3) := by decide +kernel
theorem dX10_marries_116 : decode cX10_marries 116 = .ok (.iload 5, 2) := by decide +kernel
theorem dX10_marries_118 : decode cX10_marries 118 = .ok (.iconst 0, 1) := by decide +kernel
theorem dX10_marries_119 : decode cX10_marries 119 = .ok (.bastore, 1) := by decide +kernel
theorem dX10_marries_120 : decode cX10_marries 120 = .ok (.aload_n 0, 1) := by decide +kernel
theorem dX10_marries_121 : decode cX10_marries 121 = .ok (.getfield 112, 3) := by decide +kernel
theorem dX10_marries_124 : decode cX10_marries 124 = .ok (.iload_n 1, 1) := by decide +kernel
theorem dX10_marries_125 : decode cX10_marries 125 = .ok (.aload_n 0, 1) := by decide +kernel
theorem dX10_marries_126 : decode cX10_marries 126 = .ok (.getfield 112, 3) := by decide +kernel
theorem dX10_marries_129 : decode cX10_marries 129 = .ok (.iload_n 1, 1) := by decide +kernel
theorem dX10_marries_130 : decode cX10_marries 130 = .ok (.iaload, 1) := by decide +kernel
theorem dX10_marries_131 : decode cX10_marries 131 = .ok (.iload_n 3, 1) := by decide +kernel
theorem dX10_marries_132 : decode cX10_marries 132 = .ok (.if_icmp .ne 7, 3) := by decide +kernel
theorem dX10_marries_135 : decode cX10_marries 135 = .ok (.iload_n 2, 1) := by decide +kernel
theorem dX10_marries_136 : decode cX10_marries 136 = .ok (.goto 9, 3) := by decide +kernel
theorem dX10_marries_139 : decode cX10_marries 139 = .ok (.aload_n 0, 1) := by decide +kernel
theorem dX10_marries_140 : decode cX10_marries 140 = .ok (.getfield 112, 3) := by decide +kernel
theorem dX10_marries_143 : decode cX10_marries 143 = .ok (.iload_n 1, 1) := by decide +kernel
theorem dX10_marries_144 : decode cX10_marries 144 = .ok (.iaload, 1) := by decide +kernel
theorem dX10_marries_145 : decode cX10_marries 145 = .ok (.iastore, 1) := by decide +kernel
theorem dX10_marries_146 : decode cX10_marries 146 = .ok (.return_, 1) := by decide +kernel
theorem dX10_marry_0 : decode cX10_marry 0 = .ok (.aload_n 0, 1) := by decide +kernel
theorem dX10_marry_1 : decode cX10_marry 1 = .ok (.iconst 0, 1) := by decide +kernel
theorem dX10_marry_2 : decode cX10_marry 2 = .ok (.putfield 151, 3) := by decide +kernel
theorem dX10_marry_5 : decode cX10_marry 5 = .ok (.aload_n 0, 1) := by decide +kernel
theorem dX10_marry_6 : decode cX10_marry 6 = .ok (.iload_n 1, 1) := by decide +kernel
theorem dX10_marry_7 : decode cX10_marry 7 = .ok (.iload_n 2, 1) := by decide +kernel
theorem dX10_marry_8 : decode cX10_marry 8 = .ok (.invokevirtual 447, 3) := by decide +kernel
theorem dX10_marry_11 : decode cX10_marry 11 = .ok (.ifCond .ne 5, 3) := by decide +kernel
theorem dX10_marry_14 : decode cX10_marry 14 = .ok (.iconst 0, 1) := by decide +kernel
theorem dX10_marry_15 : decode cX10_marry 15 = .ok (.ireturn, 1) := by decide +kernel
theorem dX10_marry_16 : decode cX10_marry 16 = .ok (.aload_n 0, 1) := by decide +kernel
theorem dX10_marry_17 : decode cX10_marry 17 = .ok (.invokevirtual 441, 3) := by decide +kernel
theorem dX10_marry_20 : decode cX10_marry 20 = .ok (.aload_n 0, 1) := by decide +kernel
theorem dX10_marry_21 : decode cX10_marry 21 = .ok (.iconst 0, 1) := by decide +kernel
theorem dX10_marry_22 : decode cX10_marry 22 = .ok (.iload_n 1, 1) := by decide +kernel
theorem dX10_marry_23 : decode cX10_marry 23 = .ok (.iload_n 2, 1) := by decide +kernel
theorem dX10_marry_24 : decode cX10_marry 24 = .ok (.invokevirtual 450, 3) := by decide +kernel
theorem dX10_marry_27 : decode cX10_marry 27 = .ok (.iconst 1, 1) := by decide +kernel
theorem dX10_marry_28 : decode cX10_marry 28 = .ok (.ireturn, 1) := by decide +kernel
theorem dX10_will_0 : decode cX10_will 0 = .ok (.aload_n 0, 1) := by decide +kernel
theorem dX10_will_1 : decode cX10_will 1 = .ok (.iconst 0, 1) := by decide +kernel
theorem dX10_will_2 : decode cX10_will 2 = .ok (.putfield 151, 3) := by decide +kernel
theorem dX10_will_5 : decode cX10_will 5 = .ok (.aload_n 0, 1) := by decide +kernel
theorem dX10_will_6 : decode cX10_will 6 = .ok (.iload_n 1, 1) := by decide +kernel
theorem dX10_will_7 : decode cX10_will 7 = .ok (.invokevirtual 444, 3) := by decide +kernel
theorem dX10_will_10 : decode cX10_will 10 = .ok (.ifCond .eq 24, 3) := by decide +kernel
theorem dX10_will_13 : decode cX10_will 13 = .ok (.iload_n 2, 1) := by decide +kernel
theorem dX10_will_14 : decode cX10_will 14 = .ok (.iconst 0, 1) := by decide +kernel
theorem dX10_will_15 : decode cX10_will 15 = .ok (.sipush 9999, 3) := by decide +kernel
theorem dX10_will_18 : decode cX10_will 18 = .ok (.invokestatic 196, 3) := by decide +kernel
theorem dX10_will_21 : decode cX10_will 21 = .ok (.ifCond .eq 13, 3) := by decide +kernel
theorem dX10_will_24 : decode cX10_will 24 = .ok (.aload_n 0, 1) := by decide +kernel
theorem dX10_will_25 : decode cX10_will 25 = .ok (.getfield 85, 3) := by decide +kernel
theorem dX10_will_28 : decode cX10_will 28 = .ok (.iload_n 1, 1) := by decide +kernel
theorem dX10_will_29 : decode cX10_will 29 = .ok (.iaload, 1) := by decide +kernel
theorem dX10_will_30 : decode cX10_will 30 = .ok (.iload_n 2, 1) := by decide +kernel
theorem dX10_will_31 : decode cX10_will 31 = .ok (.if_icmp .ne 5, 3) := by decide +kernel
theorem dX10_will_34 : decode cX10_will 34 = .ok (.iconst 0, 1) := by decide +kernel
theorem dX10_will_35 : decode cX10_will 35 = .ok (.ireturn, 1) := by decide +kernel
theorem dX10_will_36 : decode cX10_will 36 = .ok (.aload_n 0, 1) := by decide +kernel
theorem dX10_will_37 : decode cX10_will 37 = .ok (.invokevirtual 441, 3) := by decide +kernel
theorem dX10_will_40 : decode cX10_will 40 = .ok (.aload_n 0, 1) := by decide +kernel
theorem dX10_will_41 : decode cX10_will 41 = .ok (.getfield 85, 3) := by decide +kernel
theorem dX10_will_44 : decode cX10_will 44 = .ok (.iload_n 1, 1) := by decide +kernel
theorem dX10_will_45 : decode cX10_will 45 = .ok (.iload_n 2, 1) := by decide +kernel
theorem dX10_will_46 : decode cX10_will 46 = .ok (.iastore, 1) := by decide +kernel
theorem dX10_will_47 : decode cX10_will 47 = .ok (.iconst 1, 1) := by decide +kernel
theorem dX10_will_48 : decode cX10_will 48 = .ok (.ireturn, 1) := by decide +kernel
theorem dX10_child_0 : decode cX10_child 0 = .ok (.aload_n 0, 1) := by decide +kernel
theorem dX10_child_1 : decode cX10_child 1 = .ok (.iconst 0, 1) := by decide +kernel
theorem dX10_child_2 : decode cX10_child 2 = .ok (.putfield 151, 3) := by decide +kernel
theorem dX10_child_5 : decode cX10_child 5 = .ok (.aload_n 0, 1) := by decide +kernel
theorem dX10_child_6 : decode cX10_child 6 = .ok (.iload_n 1, 1) := by decide +kernel
theorem dX10_child_7 : decode cX10_child 7 = .ok (.invokevirtual 444, 3) := by decide +kernel
theorem dX10_child_10 : decode cX10_child 10 = .ok (.ifCond .eq 14, 3) := by decide +kernel
theorem dX10_child_13 : decode cX10_child 13 = .ok (.aload_n 0, 1) := by decide +kernel
theorem dX10_child_14 : decode cX10_child 14 = .ok (.getfield 91, 3) := by decide +kernel
theorem dX10_child_17 : decode cX10_child 17 = .ok (.iload_n 1, 1) := by decide +kernel
theorem dX10_child_18 : decode cX10_child 18 = .ok (.iaload, 1) := by decide +kernel
theorem dX10_child_19 : decode cX10_child 19 = .ok (.bipush 9, 2) := by decide +kernel
theorem dX10_child_21 : decode cX10_child 21 = .ok (.if_icmp .ne 5, 3) := by decide +kernel
theorem dX10_child_24 : decode cX10_child 24 = .ok (.iconst (-1), 1) := by decide +kernel
theorem dX10_child_25 : decode cX10_child 25 = .ok (.ireturn, 1) := by decide +kernel
theorem dX10_child_26 : decode cX10_child 26 = .ok (.aload_n 0, 1) := by decide +kernel
theorem dX10_child_27 : decode cX10_child 27 = .ok (.invokevirtual 441, 3) := by decide +kernel
theorem dX10_child_30 : decode cX10_child 30 = .ok (.aload_n 0, 1) := by decide +kernel
theorem dX10_child_31 : decode cX10_child 31 = .ok (.getfield 91, 3) := by decide +kernel
theorem dX10_child_34 : decode cX10_child 34 = .ok (.iload_n 1, 1) := by decide +kernel
theorem dX10_child_35 : decode cX10_child 35 = .ok (.dup2, 1) := by decide +kernel
theorem dX10_child_36 : decode cX10_child 36 = .ok (.iaload, 1) := by decide +kernel
theorem dX10_child_37 : decode cX10_child 37 = .ok (.iconst 1, 1) := by decide +kernel
theorem dX10_child_38 : decode cX10_child 38 = .ok (.iadd, 1) := by decide +kernel
theorem dX10_child_39 : decode cX10_child 39 = .ok (.iastore, 1) := by decide +kernel
theorem dX10_child_40 : decode cX10_child 40 = .ok (.aload_n 0, 1) := by decide +kernel
theorem dX10_child_41 : decode cX10_child 41 = .ok (.getfield 91, 3) := by decide +kernel
theorem dX10_child_44 : decode cX10_child 44 = .ok (.iload_n 1, 1) := by decide +kernel
theorem dX10_child_45 : decode cX10_child 45 = .ok (.iaload, 1) := by decide +kernel
theorem dX10_child_46 : decode cX10_child 46 = .ok (.ireturn, 1) := by decide +kernel
theorem dX10_go_0 : decode cX10_go 0 = .ok (.aload_n 0, 1) := by decide +kernel
theorem dX10_go_1 : decode cX10_go 1 = .ok (.iconst 0, 1) := by decide +kernel
theorem dX10_go_2 : decode cX10_go 2 = .ok (.putfield 151, 3) := by decide +kernel
theorem dX10_go_5 : decode cX10_go 5 = .ok (.iload_n 1, 1) := by decide +kernel
theorem dX10_go_6 : decode cX10_go 6 = .ok (.iconst 0, 1) := by decide +kernel
theorem dX10_go_7 : decode cX10_go 7 = .ok (.bipush 99, 2) := by decide +kernel
theorem dX10_go_9 : decode cX10_go 9 = .ok (.invokestatic 196, 3) := by decide +kernel
theorem dX10_go_12 : decode cX10_go 12 = .ok (.ifCond .eq 17, 3) := by decide +kernel
theorem dX10_go_15 : decode cX10_go 15 = .ok (.aload_n 0, 1) := by decide +kernel
theorem dX10_go_16 : decode cX10_go 16 = .ok (.getfield 124, 3) := by decide +kernel
theorem dX10_go_19 : decode cX10_go 19 = .ok (.iconst 0, 1) := by decide +kernel
theorem dX10_go_20 : decode cX10_go 20 = .ok (.iaload, 1) := by decide +kernel
theorem dX10_go_21 : decode cX10_go 21 = .ok (.iload_n 1, 1) := by decide +kernel
theorem dX10_go_22 : decode cX10_go 22 = .ok (.iadd, 1) := by decide +kernel
theorem dX10_go_23 : decode cX10_go 23 = .ok (.sipush 9000, 3) := by decide +kernel
theorem dX10_go_26 : decode cX10_go 26 = .ok (.if_icmp .le 5, 3) := by decide +kernel
theorem dX10_go_29 : decode cX10_go 29 = .ok (.iconst (-1), 1) := by decide +kernel
theorem dX10_go_30 : decode cX10_go 30 = .ok (.ireturn, 1) := by decide +kernel
theorem dX10_go_31 : decode cX10_go 31 = .ok (.aload_n 0, 1) := by decide +kernel
theorem dX10_go_32 : decode cX10_go 32 = .ok (.invokevirtual 341, 3) := by decide +kernel
theorem dX10_go_35 : decode cX10_go 35 = .ok (.aload_n 0, 1) := by decide +kernel
theorem dX10_go_36 : decode cX10_go 36 = .ok (.iconst 1, 1) := by decide +kernel
theorem dX10_go_37 : decode cX10_go 37 = .ok (.putfield 353, 3) := by decide +kernel
theorem dX10_go_40 : decode cX10_go 40 = .ok (.iconst 0, 1) := by decide +kernel
theorem dX10_go_41 : decode cX10_go 41 = .ok (.istore_n 2, 1) := by decide +kernel
theorem dX10_go_42 : decode cX10_go 42 = .ok (.iload_n 2, 1) := by decide +kernel
theorem dX10_go_43 : decode cX10_go 43 = .ok (.iload_n 1, 1) := by decide +kernel
theorem dX10_go_44 : decode cX10_go 44 = .ok (.if_icmp .ge 14, 3) := by decide +kernel
theorem dX10_go_47 : decode cX10_go 47 = .ok (.aload_n 0, 1) := by decide +kernel
theorem dX10_go_48 : decode cX10_go 48 = .ok (.iconst 0, 1) := by decide +kernel
theorem dX10_go_49 : decode cX10_go 49 = .ok (.invokevirtual 433, 3) := by decide +kernel
theorem dX10_go_52 : decode cX10_go 52 = .ok (.iinc 2 1, 3) := by decide +kernel
theorem dX10_go_55 : decode cX10_go 55 = .ok (.goto (-13), 3) := by decide +kernel
theorem dX10_go_58 : decode cX10_go 58 = .ok (.aload_n 0, 1) := by decide +kernel
theorem dX10_go_59 : decode cX10_go 59 = .ok (.iconst 0, 1) := by decide +kernel
theorem dX10_go_60 : decode cX10_go 60 = .ok (.putfield 353, 3) := by decide +kernel
theorem dX10_go_63 : decode cX10_go 63 = .ok (.aload_n 0, 1) := by decide +kernel
theorem dX10_go_64 : decode cX10_go 64 = .ok (.iload_n 1, 1) := by decide +kernel
theorem dX10_go_65 : decode cX10_go 65 = .ok (.ifCond .le 7, 3) := by decide +kernel
theorem dX10_go_68 : decode cX10_go 68 = .ok (.iconst 0, 1) := by decide +kernel
theorem dX10_go_69 : decode cX10_go 69 = .ok (.goto 7, 3) := by decide +kernel
theorem dX10_go_72 : decode cX10_go 72 = .ok (.aload_n 0, 1) := by decide +kernel
theorem dX10_go_73 : decode cX10_go 73 = .ok (.getfield 347, 3) := by decide +kernel
theorem dX10_go_76 : decode cX10_go 76 = .ok (.putfield 347, 3) := by decide +kernel
theorem dX10_go_79 : decode cX10_go 79 = .ok (.aload_n 0, 1) := by decide +kernel
theorem dX10_go_80 : decode cX10_go 80 = .ok (.getfield 124, 3) := by decide +kernel
theorem dX10_go_83 : decode cX10_go 83 = .ok (.iconst 0, 1) := by decide +kernel
theorem dX10_go_84 : decode cX10_go 84 = .ok (.iaload, 1) := by decide +kernel
theorem dX10_go_85 : decode cX10_go 85 = .ok (.ireturn, 1) := by decide +kernel
theorem dX10_ahead_0 : decode cX10_ahead 0 = .ok (.aload_n 0, 1) := by decide +kernel
theorem dX10_ahead_1 : decode cX10_ahead 1 = .ok (.iconst 0, 1) := by decide +kernel
theorem dX10_ahead_2 : decode cX10_ahead 2 = .ok (.putfield 151, 3) := by decide +kernel
theorem dX10_ahead_5 : decode cX10_ahead 5 = .ok (.iload_n 1, 1) := by decide +kernel
theorem dX10_ahead_6 : decode cX10_ahead 6 = .ok (.iconst 0, 1) := by decide +kernel
theorem dX10_ahead_7 : decode cX10_ahead 7 = .ok (.bipush 99, 2) := by decide +kernel
theorem dX10_ahead_9 : decode cX10_ahead 9 = .ok (.invokestatic 196, 3) := by decide +kernel
theorem dX10_ahead_12 : decode cX10_ahead 12 = .ok (.ifCond .eq 12, 3) := by decide +kernel
theorem dX10_ahead_15 : decode cX10_ahead 15 = .ok (.iload_n 2, 1) := by decide +kernel
theorem dX10_ahead_16 : decode cX10_ahead 16 = .ok (.iconst 0, 1) := by decide +kernel
theorem dX10_ahead_17 : decode cX10_ahead 17 = .ok (.iconst 3, 1) := by decide +kernel
theorem dX10_ahead_18 : decode cX10_ahead 18 = .ok (.invokestatic 196, 3) := by decide +kernel
theorem dX10_ahead_21 : decode cX10_ahead 21 = .ok (.ifCond .ne 5, 3) := by decide +kernel
theorem dX10_ahead_24 : decode cX10_ahead 24 = .ok (.iconst (-1), 1) := by decide +kernel
theorem dX10_ahead_25 : decode cX10_ahead 25 = .ok (.ireturn, 1) := by decide +kernel
theorem dX10_ahead_26 : decode cX10_ahead 26 = .ok (.aload_n 0, 1) := by decide +kernel
theorem dX10_ahead_27 : decode cX10_ahead 27 = .ok (.invokevirtual 453, 3) := by decide +kernel
theorem dX10_ahead_30 : decode cX10_ahead 30 = .ok (.aload_n 0, 1) := by decide +kernel
theorem dX10_ahead_31 : decode cX10_ahead 31 = .ok (.iload_n 1, 1) := by decide +kernel
theorem dX10_ahead_32 : decode cX10_ahead 32 = .ok (.invokevirtual 456, 3) := by decide +kernel
theorem dX10_ahead_35 : decode cX10_ahead 35 = .ok (.iload_n 2, 1) := by decide +kernel
theorem dX10_ahead_36 : decode cX10_ahead 36 = .ok (.tableswitch 62 0 2 #[28, 35, 56], 28) := by decide +kernel
theorem dX10_ahead_64 : decode cX10_ahead 64 = .ok (.aload_n 0, 1) := by decide +kernel
theorem dX10_ahead_65 : decode cX10_ahead 65 = .ok (.getfield 109, 3) := by decide +kernel
theorem dX10_ahead_68 : decode cX10_ahead 68 = .ok (.iconst 1, 1) := by decide +kernel
theorem dX10_ahead_69 : decode cX10_ahead 69 = .ok (.iaload, 1) := by decide +kernel
theorem dX10_ahead_70 : decode cX10_ahead 70 = .ok (.ireturn, 1) := by decide +kernel
theorem dX10_ahead_71 : decode cX10_ahead 71 = .ok (.aload_n 0, 1) := by decide +kernel
theorem dX10_ahead_72 : decode cX10_ahead 72 = .ok (.getfield 112, 3) := by decide +kernel
theorem dX10_ahead_75 : decode cX10_ahead 75 = .ok (.iconst 1, 1) := by decide +kernel
theorem dX10_ahead_76 : decode cX10_ahead 76 = .ok (.iaload, 1) := by decide +kernel
theorem dX10_ahead_77 : decode cX10_ahead 77 = .ok (.ifCond .ge 8, 3) := by decide +kernel
theorem dX10_ahead_80 : decode cX10_ahead 80 = .ok (.bipush (-2), 2) := by decide +kernel
theorem dX10_ahead_82 : decode cX10_ahead 82 = .ok (.goto 9, 3) := by decide +kernel
theorem dX10_ahead_85 : decode cX10_ahead 85 = .ok (.aload_n 0, 1) := by decide +kernel
theorem dX10_ahead_86 : decode cX10_ahead 86 = .ok (.getfield 112, 3) := by decide +kernel
theorem dX10_ahead_89 : decode cX10_ahead 89 = .ok (.iconst 1, 1) := by decide +kernel
theorem dX10_ahead_90 : decode cX10_ahead 90 = .ok (.iaload, 1) := by decide +kernel
theorem dX10_ahead_91 : decode cX10_ahead 91 = .ok (.ireturn, 1) := by decide +kernel
theorem dX10_ahead_92 : decode cX10_ahead 92 = .ok (.aload_n 0, 1) := by decide +kernel
theorem dX10_ahead_93 : decode cX10_ahead 93 = .ok (.iconst 1, 1) := by decide +kernel
theorem dX10_ahead_94 : decode cX10_ahead 94 = .ok (.invokevirtual 459, 3) := by decide +kernel
theorem dX10_ahead_97 : decode cX10_ahead 97 = .ok (.ireturn, 1) := by decide +kernel
theorem dX10_ahead_98 : decode cX10_ahead 98 = .ok (.aload_n 0, 1) := by decide +kernel
theorem dX10_ahead_99 : decode cX10_ahead 99 = .ok (.getfield 121, 3) := by decide +kernel
theorem dX10_ahead_102 : decode cX10_ahead 102 = .ok (.iconst 1, 1) := by decide +kernel
theorem dX10_ahead_103 : decode cX10_ahead 103 = .ok (.iaload, 1) := by decide +kernel
theorem dX10_ahead_104 : decode cX10_ahead 104 = .ok (.aload_n 0, 1) := by decide +kernel
theorem dX10_ahead_105 : decode cX10_ahead 105 = .ok (.getfield 121, 3) := by decide +kernel
theorem dX10_ahead_108 : decode cX10_ahead 108 = .ok (.iconst 0, 1) := by decide +kernel
theorem dX10_ahead_109 : decode cX10_ahead 109 = .ok (.iaload, 1) := by decide +kernel
theorem dX10_ahead_110 : decode cX10_ahead 110 = .ok (.isub, 1) := by decide +kernel
theorem dX10_ahead_111 : decode cX10_ahead 111 = .ok (.ireturn, 1) := by decide +kernel
theorem dX10_fallsBy_0 : decode cX10_fallsBy 0 = .ok (.iconst 0, 1) := by decide +kernel
theorem dX10_fallsBy_1 : decode cX10_fallsBy 1 = .ok (.istore_n 2, 1) := by decide +kernel
theorem dX10_fallsBy_2 : decode cX10_fallsBy 2 = .ok (.iload_n 2, 1) := by decide +kernel
theorem dX10_fallsBy_3 : decode cX10_fallsBy 3 = .ok (.iload_n 1, 1) := by decide +kernel
theorem dX10_fallsBy_4 : decode cX10_fallsBy 4 = .ok (.if_icmp .gt 25, 3) := by decide +kernel
theorem dX10_fallsBy_7 : decode cX10_fallsBy 7 = .ok (.aload_n 0, 1) := by decide +kernel
theorem dX10_fallsBy_8 : decode cX10_fallsBy 8 = .ok (.getfield 118, 3) := by decide +kernel
theorem dX10_fallsBy_11 : decode cX10_fallsBy 11 = .ok (.iconst 1, 1) := by decide +kernel
theorem dX10_fallsBy_12 : decode cX10_fallsBy 12 = .ok (.baload, 1) := by decide +kernel
theorem dX10_fallsBy_13 : decode cX10_fallsBy 13 = .ok (.ifCond .eq 5, 3) := by decide +kernel
theorem dX10_fallsBy_16 : decode cX10_fallsBy 16 = .ok (.iload_n 2, 1) := by decide +kernel
theorem dX10_fallsBy_17 : decode cX10_fallsBy 17 = .ok (.ireturn, 1) := by decide +kernel
theorem dX10_fallsBy_18 : decode cX10_fallsBy 18 = .ok (.aload_n 0, 1) := by decide +kernel
theorem dX10_fallsBy_19 : decode cX10_fallsBy 19 = .ok (.iconst 1, 1) := by decide +kernel
theorem dX10_fallsBy_20 : decode cX10_fallsBy 20 = .ok (.invokevirtual 433, 3) := by decide +kernel
theorem dX10_fallsBy_23 : decode cX10_fallsBy 23 = .ok (.iinc 2 1, 3) := by decide +kernel
theorem dX10_fallsBy_26 : decode cX10_fallsBy 26 = .ok (.goto (-24), 3) := by decide +kernel
theorem dX10_fallsBy_29 : decode cX10_fallsBy 29 = .ok (.bipush (-2), 2) := by decide +kernel
theorem dX10_fallsBy_31 : decode cX10_fallsBy 31 = .ok (.ireturn, 1) := by decide +kernel
theorem dX10_falls_0 : decode cX10_falls 0 = .ok (.aload_n 0, 1) := by decide +kernel
theorem dX10_falls_1 : decode cX10_falls 1 = .ok (.iconst 0, 1) := by decide +kernel
theorem dX10_falls_2 : decode cX10_falls 2 = .ok (.putfield 151, 3) := by decide +kernel
theorem dX10_falls_5 : decode cX10_falls 5 = .ok (.iload_n 1, 1) := by decide +kernel
theorem dX10_falls_6 : decode cX10_falls 6 = .ok (.iconst 0, 1) := by decide +kernel
theorem dX10_falls_7 : decode cX10_falls 7 = .ok (.iconst 2, 1) := by decide +kernel
theorem dX10_falls_8 : decode cX10_falls 8 = .ok (.invokestatic 196, 3) := by decide +kernel
theorem dX10_falls_11 : decode cX10_falls 11 = .ok (.ifCond .ne 5, 3) := by decide +kernel
theorem dX10_falls_14 : decode cX10_falls 14 = .ok (.iconst (-1), 1) := by decide +kernel
theorem dX10_falls_15 : decode cX10_falls 15 = .ok (.ireturn, 1) := by decide +kernel
theorem dX10_falls_16 : decode cX10_falls 16 = .ok (.aload_n 0, 1) := by decide +kernel
theorem dX10_falls_17 : decode cX10_falls 17 = .ok (.invokevirtual 453, 3) := by decide +kernel
theorem dX10_falls_20 : decode cX10_falls 20 = .ok (.aload_n 0, 1) := by decide +kernel
theorem dX10_falls_21 : decode cX10_falls 21 = .ok (.sipush 999, 3) := by decide +kernel
theorem dX10_falls_24 : decode cX10_falls 24 = .ok (.invokevirtual 462, 3) := by decide +kernel
theorem dX10_falls_27 : decode cX10_falls 27 = .ok (.istore_n 2, 1) := by decide +kernel
theorem dX10_falls_28 : decode cX10_falls 28 = .ok (.iload_n 2, 1) := by decide +kernel
theorem dX10_falls_29 : decode cX10_falls 29 = .ok (.ifCond .lt 7, 3) := by decide +kernel
theorem dX10_falls_32 : decode cX10_falls 32 = .ok (.iload_n 1, 1) := by decide +kernel
theorem dX10_falls_33 : decode cX10_falls 33 = .ok (.ifCond .ne 7, 3) := by decide +kernel
theorem dX10_falls_36 : decode cX10_falls 36 = .ok (.iload_n 2, 1) := by decide +kernel
theorem dX10_falls_37 : decode cX10_falls 37 = .ok (.goto 23, 3) := by decide +kernel
theorem dX10_falls_40 : decode cX10_falls 40 = .ok (.iload_n 1, 1) := by decide +kernel
theorem dX10_falls_41 : decode cX10_falls 41 = .ok (.iconst 1, 1) := by decide +kernel
theorem dX10_falls_42 : decode cX10_falls 42 = .ok (.if_icmp .ne 12, 3) := by decide +kernel
theorem dX10_falls_45 : decode cX10_falls 45 = .ok (.aload_n 0, 1) := by decide +kernel
theorem dX10_falls_46 : decode cX10_falls 46 = .ok (.getfield 112, 3) := by decide +kernel
theorem dX10_falls_49 : decode cX10_falls 49 = .ok (.iconst 1, 1) := by decide +kernel
theorem dX10_falls_50 : decode cX10_falls 50 = .ok (.iaload, 1) := by decide +kernel
theorem dX10_falls_51 : decode cX10_falls 51 = .ok (.goto 9, 3) := by decide +kernel
theorem dX10_falls_54 : decode cX10_falls 54 = .ok (.aload_n 0, 1) := by decide +kernel
theorem dX10_falls_55 : decode cX10_falls 55 = .ok (.getfield 109, 3) := by decide +kernel
theorem dX10_falls_58 : decode cX10_falls 58 = .ok (.iconst 1, 1) := by decide +kernel
theorem dX10_falls_59 : decode cX10_falls 59 = .ok (.iaload, 1) := by decide +kernel
theorem dX10_falls_60 : decode cX10_falls 60 = .ok (.ireturn, 1) := by decide +kernel
theorem dX10_letGo_0 : decode cX10_letGo 0 = .ok (.aload_n 0, 1) := by decide +kernel
theorem dX10_letGo_1 : decode cX10_letGo 1 = .ok (.iconst 0, 1) := by decide +kernel
theorem dX10_letGo_2 : decode cX10_letGo 2 = .ok (.putfield 151, 3) := by decide +kernel
theorem dX10_letGo_5 : decode cX10_letGo 5 = .ok (.aload_n 0, 1) := by decide +kernel
theorem dX10_letGo_6 : decode cX10_letGo 6 = .ok (.iload_n 1, 1) := by decide +kernel
theorem dX10_letGo_7 : decode cX10_letGo 7 = .ok (.invokevirtual 444, 3) := by decide +kernel
theorem dX10_letGo_10 : decode cX10_letGo 10 = .ok (.ifCond .ne 5, 3) := by decide +kernel
theorem dX10_letGo_13 : decode cX10_letGo 13 = .ok (.iconst (-1), 1) := by decide +kernel
theorem dX10_letGo_14 : decode cX10_letGo 14 = .ok (.ireturn, 1) := by decide +kernel
theorem dX10_letGo_15 : decode cX10_letGo 15 = .ok (.iconst 0, 1) := by decide +kernel
theorem dX10_letGo_16 : decode cX10_letGo 16 = .ok (.istore_n 2, 1) := by decide +kernel
theorem dX10_letGo_17 : decode cX10_letGo 17 = .ok (.iload_n 2, 1) := by decide +kernel
theorem dX10_letGo_18 : decode cX10_letGo 18 = .ok (.sipush 300, 3) := by decide +kernel
theorem dX10_letGo_21 : decode cX10_letGo 21 = .ok (.if_icmp .gt 59, 3) := by decide +kernel
theorem dX10_letGo_24 : decode cX10_letGo 24 = .ok (.aload_n 0, 1) := by decide +kernel
theorem dX10_letGo_25 : decode cX10_letGo 25 = .ok (.invokevirtual 453, 3) := by decide +kernel
theorem dX10_letGo_28 : decode cX10_letGo 28 = .ok (.aload_n 0, 1) := by decide +kernel
theorem dX10_letGo_29 : decode cX10_letGo 29 = .ok (.getfield 85, 3) := by decide +kernel
theorem dX10_letGo_32 : decode cX10_letGo 32 = .ok (.bipush 6, 2) := by decide +kernel
theorem dX10_letGo_34 : decode cX10_letGo 34 = .ok (.iload_n 1, 1) := by decide +kernel
theorem dX10_letGo_35 : decode cX10_letGo 35 = .ok (.iadd, 1) := by decide +kernel
theorem dX10_letGo_36 : decode cX10_letGo 36 = .ok (.dup2, 1) := by decide +kernel
theorem dX10_letGo_37 : decode cX10_letGo 37 = .ok (.iaload, 1) := by decide +kernel
theorem dX10_letGo_38 : decode cX10_letGo 38 = .ok (.iload_n 2, 1) := by decide +kernel
theorem dX10_letGo_39 : decode cX10_letGo 39 = .ok (.iadd, 1) := by decide +kernel
theorem dX10_letGo_40 : decode cX10_letGo 40 = .ok (.iastore, 1) := by decide +kernel
theorem dX10_letGo_41 : decode cX10_letGo 41 = .ok (.aload_n 0, 1) := by decide +kernel
theorem dX10_letGo_42 : decode cX10_letGo 42 = .ok (.bipush 120, 2) := by decide +kernel
theorem dX10_letGo_44 : decode cX10_letGo 44 = .ok (.invokevirtual 462, 3) := by decide +kernel
theorem dX10_letGo_47 : decode cX10_letGo 47 = .ok (.ifCond .lt 15, 3) := by decide +kernel
theorem dX10_letGo_50 : decode cX10_letGo 50 = .ok (.aload_n 0, 1) := by decide +kernel
theorem dX10_letGo_51 : decode cX10_letGo 51 = .ok (.getfield 112, 3) := by decide +kernel
theorem dX10_letGo_54 : decode cX10_letGo 54 = .ok (.iconst 1, 1) := by decide +kernel
theorem dX10_letGo_55 : decode cX10_letGo 55 = .ok (.iaload, 1) := by decide +kernel
theorem dX10_letGo_56 : decode cX10_letGo 56 = .ok (.iload_n 1, 1) := by decide +kernel
theorem dX10_letGo_57 : decode cX10_letGo 57 = .ok (.if_icmp .ne 5, 3) := by decide +kernel
theorem dX10_letGo_60 : decode cX10_letGo 60 = .ok (.iload_n 2, 1) := by decide +kernel
theorem dX10_letGo_61 : decode cX10_letGo 61 = .ok (.ireturn, 1) := by decide +kernel
theorem dX10_letGo_62 : decode cX10_letGo 62 = .ok (.aload_n 0, 1) := by decide +kernel
theorem dX10_letGo_63 : decode cX10_letGo 63 = .ok (.getfield 118, 3) := by decide +kernel
theorem dX10_letGo_66 : decode cX10_letGo 66 = .ok (.iconst 0, 1) := by decide +kernel
theorem dX10_letGo_67 : decode cX10_letGo 67 = .ok (.baload, 1) := by decide +kernel
theorem dX10_letGo_68 : decode cX10_letGo 68 = .ok (.ifCond .eq 6, 3) := by decide +kernel
theorem dX10_letGo_71 : decode cX10_letGo 71 = .ok (.bipush (-2), 2) := by decide +kernel
theorem dX10_letGo_73 : decode cX10_letGo 73 = .ok (.ireturn, 1) := by decide +kernel
theorem dX10_letGo_74 : decode cX10_letGo 74 = .ok (.iinc 2 1, 3) := by decide +kernel
theorem dX10_letGo_77 : decode cX10_letGo 77 = .ok (.goto (-60), 3) := by decide +kernel
theorem dX10_letGo_80 : decode cX10_letGo 80 = .ok (.bipush (-2), 2) := by decide +kernel
theorem dX10_letGo_82 : decode cX10_letGo 82 = .ok (.ireturn, 1) := by decide +kernel
theorem dX10_manyOf_0 : decode cX10_manyOf 0 = .ok (.iconst 0, 1) := by decide +kernel
theorem dX10_manyOf_1 : decode cX10_manyOf 1 = .ok (.istore_n 1, 1) := by decide +kernel
theorem dX10_manyOf_2 : decode cX10_manyOf 2 = .ok (.iconst 0, 1) := by decide +kernel
theorem dX10_manyOf_3 : decode cX10_manyOf 3 = .ok (.istore_n 2, 1) := by decide +kernel
theorem dX10_manyOf_4 : decode cX10_manyOf 4 = .ok (.iload_n 2, 1) := by decide +kernel
theorem dX10_manyOf_5 : decode cX10_manyOf 5 = .ok (.bipush 6, 2) := by decide +kernel
theorem dX10_manyOf_7 : decode cX10_manyOf 7 = .ok (.if_icmp .ge 17, 3) := by decide +kernel
theorem dX10_manyOf_10 : decode cX10_manyOf 10 = .ok (.iload_n 1, 1) := by decide +kernel
theorem dX10_manyOf_11 : decode cX10_manyOf 11 = .ok (.iload_n 0, 1) := by decide +kernel
theorem dX10_manyOf_12 : decode cX10_manyOf 12 = .ok (.iload_n 2, 1) := by decide +kernel
theorem dX10_manyOf_13 : decode cX10_manyOf 13 = .ok (.ishr, 1) := by decide +kernel
theorem dX10_manyOf_14 : decode cX10_manyOf 14 = .ok (.iconst 1, 1) := by decide +kernel
theorem dX10_manyOf_15 : decode cX10_manyOf 15 = .ok (.iand, 1) := by decide +kernel
theorem dX10_manyOf_16 : decode cX10_manyOf 16 = .ok (.iadd, 1) := by decide +kernel
theorem dX10_manyOf_17 : decode cX10_manyOf 17 = .ok (.istore_n 1, 1) := by decide +kernel
theorem dX10_manyOf_18 : decode cX10_manyOf 18 = .ok (.iinc 2 1, 3) := by decide +kernel
theorem dX10_manyOf_21 : decode cX10_manyOf 21 = .ok (.goto (-17), 3) := by decide +kernel
theorem dX10_manyOf_24 : decode cX10_manyOf 24 = .ok (.iload_n 1, 1) := by decide +kernel
theorem dX10_manyOf_25 : decode cX10_manyOf 25 = .ok (.ireturn, 1) := by decide +kernel
theorem dX10_boundsOf_0 : decode cX10_boundsOf 0 = .ok (.iconst 0, 1) := by decide +kernel
theorem dX10_boundsOf_1 : decode cX10_boundsOf 1 = .ok (.istore_n 2, 1) := by decide +kernel
theorem dX10_boundsOf_2 : decode cX10_boundsOf 2 = .ok (.iconst 0, 1) := by decide +kernel
theorem dX10_boundsOf_3 : decode cX10_boundsOf 3 = .ok (.istore_n 3, 1) := by decide +kernel
theorem dX10_boundsOf_4 : decode cX10_boundsOf 4 = .ok (.iload_n 3, 1) := by decide +kernel
theorem dX10_boundsOf_5 : decode cX10_boundsOf 5 = .ok (.aload_n 0, 1) := by decide +kernel
theorem dX10_boundsOf_6 : decode cX10_boundsOf 6 = .ok (.getfield 225, 3) := by decide +kernel
theorem dX10_boundsOf_9 : decode cX10_boundsOf 9 = .ok (.if_icmp .ge 30, 3) := by decide +kernel
theorem dX10_boundsOf_12 : decode cX10_boundsOf 12 = .ok (.iload_n 2, 1) := by decide +kernel
theorem dX10_boundsOf_13 : decode cX10_boundsOf 13 = .ok (.iload_n 1, 1) := by decide +kernel
theorem dX10_boundsOf_14 : decode cX10_boundsOf 14 = .ok (.iload_n 3, 1) := by decide +kernel
theorem dX10_boundsOf_15 : decode cX10_boundsOf 15 = .ok (.invokestatic 406, 3) := by decide +kernel
theorem dX10_boundsOf_18 : decode cX10_boundsOf 18 = .ok (.ifCond .eq 12, 3) := by decide +kernel
theorem dX10_boundsOf_21 : decode cX10_boundsOf 21 = .ok (.aload_n 0, 1) := by decide +kernel
theorem dX10_boundsOf_22 : decode cX10_boundsOf 22 = .ok (.getfield 85, 3) := by decide +kernel
theorem dX10_boundsOf_25 : decode cX10_boundsOf 25 = .ok (.iload_n 3, 1) := by decide +kernel
theorem dX10_boundsOf_26 : decode cX10_boundsOf 26 = .ok (.iaload, 1) := by decide +kernel
theorem dX10_boundsOf_27 : decode cX10_boundsOf 27 = .ok (.goto 4, 3) := by decide +kernel
theorem dX10_boundsOf_30 : decode cX10_boundsOf 30 = .ok (.iconst 0, 1) := by decide +kernel
theorem dX10_boundsOf_31 : decode cX10_boundsOf 31 = .ok (.iadd, 1) := by decide +kernel
theorem dX10_boundsOf_32 : decode cX10_boundsOf 32 = .ok (.istore_n 2, 1) := by decide +kernel
theorem dX10_boundsOf_33 : decode cX10_boundsOf 33 = .ok (.iinc 3 1, 3) := by decide +kernel
theorem dX10_boundsOf_36 : decode cX10_boundsOf 36 = .ok (.goto (-32), 3) := by decide +kernel
theorem dX10_boundsOf_39 : decode cX10_boundsOf 39 = .ok (.iload_n 2, 1) := by decide +kernel
theorem dX10_boundsOf_40 : decode cX10_boundsOf 40 = .ok (.ireturn, 1) := by decide +kernel
theorem dX10_leastStep_0 : decode cX10_leastStep 0 = .ok (.bipush 99, 2) := by decide +kernel
theorem dX10_leastStep_2 : decode cX10_leastStep 2 = .ok (.istore_n 2, 1) := by decide +kernel
theorem dX10_leastStep_3 : decode cX10_leastStep 3 = .ok (.iconst 0, 1) := by decide +kernel
theorem dX10_leastStep_4 : decode cX10_leastStep 4 = .ok (.istore_n 3, 1) := by decide +kernel
theorem dX10_leastStep_5 : decode cX10_leastStep 5 = .ok (.iload_n 3, 1) := by decide +kernel
theorem dX10_leastStep_6 : decode cX10_leastStep 6 = .ok (.aload_n 0, 1) := by decide +kernel
theorem dX10_leastStep_7 : decode cX10_leastStep 7 = .ok (.getfield 225, 3) := by decide +kernel
theorem dX10_leastStep_10 : decode cX10_leastStep 10 = .ok (.if_icmp .ge 38, 3) := by decide +kernel
theorem dX10_leastStep_13 : decode cX10_leastStep 13 = .ok (.iload_n 1, 1) := by decide +kernel
theorem dX10_leastStep_14 : decode cX10_leastStep 14 = .ok (.iload_n 3, 1) := by decide +kernel
theorem dX10_leastStep_15 : decode cX10_leastStep 15 = .ok (.invokestatic 406, 3) := by decide +kernel
theorem dX10_leastStep_18 : decode cX10_leastStep 18 = .ok (.ifCond .eq 22, 3) := by decide +kernel
theorem dX10_leastStep_21 : decode cX10_leastStep 21 = .ok (.aload_n 0, 1) := by decide +kernel
theorem dX10_leastStep_22 : decode cX10_leastStep 22 = .ok (.getfield 36, 3) := by decide +kernel
theorem dX10_leastStep_25 : decode cX10_leastStep 25 = .ok (.iload_n 3, 1) := by decide +kernel
theorem dX10_leastStep_26 : decode cX10_leastStep 26 = .ok (.iaload, 1) := by decide +kernel
theorem dX10_leastStep_27 : decode cX10_leastStep 27 = .ok (.iload_n 2, 1) := by decide +kernel
theorem dX10_leastStep_28 : decode cX10_leastStep 28 = .ok (.if_icmp .ge 12, 3) := by decide +kernel
theorem dX10_leastStep_31 : decode cX10_leastStep 31 = .ok (.aload_n 0, 1) := by decide +kernel
theorem dX10_leastStep_32 : decode cX10_leastStep 32 = .ok (.getfield 36, 3) := by decide +kernel
theorem dX10_leastStep_35 : decode cX10_leastStep 35 = .ok (.iload_n 3, 1) := by decide +kernel
theorem dX10_leastStep_36 : decode cX10_leastStep 36 = .ok (.iaload, 1) := by decide +kernel
theorem dX10_leastStep_37 : decode cX10_leastStep 37 = .ok (.goto 4, 3) := by decide +kernel
theorem dX10_leastStep_40 : decode cX10_leastStep 40 = .ok (.iload_n 2, 1) := by decide +kernel
theorem dX10_leastStep_41 : decode cX10_leastStep 41 = .ok (.istore_n 2, 1) := by decide +kernel
theorem dX10_leastStep_42 : decode cX10_leastStep 42 = .ok (.iinc 3 1, 3) := by decide +kernel
theorem dX10_leastStep_45 : decode cX10_leastStep 45 = .ok (.goto (-40), 3) := by decide +kernel
theorem dX10_leastStep_48 : decode cX10_leastStep 48 = .ok (.iload_n 2, 1) := by decide +kernel
theorem dX10_leastStep_49 : decode cX10_leastStep 49 = .ok (.ireturn, 1) := by decide +kernel
theorem dX10_onNow_0 : decode cX10_onNow 0 = .ok (.iconst 0, 1) := by decide +kernel
theorem dX10_onNow_1 : decode cX10_onNow 1 = .ok (.istore_n 1, 1) := by decide +kernel
theorem dX10_onNow_2 : decode cX10_onNow 2 = .ok (.iconst 0, 1) := by decide +kernel
theorem dX10_onNow_3 : decode cX10_onNow 3 = .ok (.istore_n 2, 1) := by decide +kernel
theorem dX10_onNow_4 : decode cX10_onNow 4 = .ok (.iload_n 2, 1) := by decide +kernel
theorem dX10_onNow_5 : decode cX10_onNow 5 = .ok (.aload_n 0, 1) := by decide +kernel
theorem dX10_onNow_6 : decode cX10_onNow 6 = .ok (.getfield 225, 3) := by decide +kernel
theorem dX10_onNow_9 : decode cX10_onNow 9 = .ok (.if_icmp .ge 28, 3) := by decide +kernel
theorem dX10_onNow_12 : decode cX10_onNow 12 = .ok (.iload_n 1, 1) := by decide +kernel
theorem dX10_onNow_13 : decode cX10_onNow 13 = .ok (.aload_n 0, 1) := by decide +kernel
theorem dX10_onNow_14 : decode cX10_onNow 14 = .ok (.getfield 94, 3) := by decide +kernel
theorem dX10_onNow_17 : decode cX10_onNow 17 = .ok (.iload_n 2, 1) := by decide +kernel
theorem dX10_onNow_18 : decode cX10_onNow 18 = .ok (.baload, 1) := by decide +kernel
theorem dX10_onNow_19 : decode cX10_onNow 19 = .ok (.ifCond .eq 9, 3) := by decide +kernel
theorem dX10_onNow_22 : decode cX10_onNow 22 = .ok (.iconst 1, 1) := by decide +kernel
theorem dX10_onNow_23 : decode cX10_onNow 23 = .ok (.iload_n 2, 1) := by decide +kernel
theorem dX10_onNow_24 : decode cX10_onNow 24 = .ok (.ishl, 1) := by decide +kernel
theorem dX10_onNow_25 : decode cX10_onNow 25 = .ok (.goto 4, 3) := by decide +kernel
theorem dX10_onNow_28 : decode cX10_onNow 28 = .ok (.iconst 0, 1) := by decide +kernel
theorem dX10_onNow_29 : decode cX10_onNow 29 = .ok (.ior, 1) := by decide +kernel
theorem dX10_onNow_30 : decode cX10_onNow 30 = .ok (.istore_n 1, 1) := by decide +kernel
theorem dX10_onNow_31 : decode cX10_onNow 31 = .ok (.iinc 2 1, 3) := by decide +kernel
theorem dX10_onNow_34 : decode cX10_onNow 34 = .ok (.goto (-30), 3) := by decide +kernel
theorem dX10_onNow_37 : decode cX10_onNow 37 = .ok (.iload_n 1, 1) := by decide +kernel
theorem dX10_onNow_38 : decode cX10_onNow 38 = .ok (.ireturn, 1) := by decide +kernel
theorem dX10_outbid_0 : decode cX10_outbid 0 = .ok (.aload_n 0, 1) := by decide +kernel
theorem dX10_outbid_1 : decode cX10_outbid 1 = .ok (.iconst 0, 1) := by decide +kernel
theorem dX10_outbid_2 : decode cX10_outbid 2 = .ok (.putfield 151, 3) := by decide +kernel
theorem dX10_outbid_5 : decode cX10_outbid 5 = .ok (.aload_n 0, 1) := by decide +kernel
theorem dX10_outbid_6 : decode cX10_outbid 6 = .ok (.invokevirtual 465, 3) := by decide +kernel
theorem dX10_outbid_9 : decode cX10_outbid 9 = .ok (.istore_n 1, 1) := by decide +kernel
theorem dX10_outbid_10 : decode cX10_outbid 10 = .ok (.bipush (-2), 2) := by decide +kernel
theorem dX10_outbid_12 : decode cX10_outbid 12 = .ok (.istore_n 2, 1) := by decide +kernel
theorem dX10_outbid_13 : decode cX10_outbid 13 = .ok (.iconst 1, 1) := by decide +kernel
theorem dX10_outbid_14 : decode cX10_outbid 14 = .ok (.istore_n 3, 1) := by decide +kernel
theorem dX10_outbid_15 : decode cX10_outbid 15 = .ok (.iload_n 3, 1) := by decide +kernel
theorem dX10_outbid_16 : decode cX10_outbid 16 = .ok (.iconst 1, 1) := by decide +kernel
theorem dX10_outbid_17 : decode cX10_outbid 17 = .ok (.aload_n 0, 1) := by decide +kernel
theorem dX10_outbid_18 : decode cX10_outbid 18 = .ok (.getfield 225, 3) := by decide +kernel
theorem dX10_outbid_21 : decode cX10_outbid 21 = .ok (.ishl, 1) := by decide +kernel
theorem dX10_outbid_22 : decode cX10_outbid 22 = .ok (.if_icmp .ge 128, 3) := by decide +kernel
theorem dX10_outbid_25 : decode cX10_outbid 25 = .ok (.iload_n 3, 1) := by decide +kernel
theorem dX10_outbid_26 : decode cX10_outbid 26 = .ok (.iload_n 1, 1) := by decide +kernel
theorem dX10_outbid_27 : decode cX10_outbid 27 = .ok (.iconst (-1), 1) := by decide +kernel
theorem dX10_outbid_28 : decode cX10_outbid 28 = .ok (.ixor, 1) := by decide +kernel
theorem dX10_outbid_29 : decode cX10_outbid 29 = .ok (.iand, 1) := by decide +kernel
theorem dX10_outbid_30 : decode cX10_outbid 30 = .ok (.ifCond .ne 114, 3) := by decide +kernel
theorem dX10_outbid_33 : decode cX10_outbid 33 = .ok (.iload_n 2, 1) := by decide +kernel
theorem dX10_outbid_34 : decode cX10_outbid 34 = .ok (.ifCond .lt 17, 3) := by decide +kernel
theorem dX10_outbid_37 : decode cX10_outbid 37 = .ok (.iload_n 3, 1) := by decide +kernel
theorem dX10_outbid_38 : decode cX10_outbid 38 = .ok (.invokestatic 468, 3) := by decide +kernel
theorem dX10_outbid_41 : decode cX10_outbid 41 = .ok (.iload_n 2, 1) := by decide +kernel
theorem dX10_outbid_42 : decode cX10_outbid 42 = .ok (.invokestatic 468, 3) := by decide +kernel
theorem dX10_outbid_45 : decode cX10_outbid 45 = .ok (.if_icmp .lt 6, 3) := by decide +kernel
theorem dX10_outbid_48 : decode cX10_outbid 48 = .ok (.goto 96, 3) := by decide +kernel
theorem dX10_outbid_51 : decode cX10_outbid 51 = .ok (.aload_n 0, 1) := by decide +kernel
theorem dX10_outbid_52 : decode cX10_outbid 52 = .ok (.iload_n 3, 1) := by decide +kernel
theorem dX10_outbid_53 : decode cX10_outbid 53 = .ok (.invokevirtual 471, 3) := by decide +kernel
theorem dX10_outbid_56 : decode cX10_outbid 56 = .ok (.istore 4, 2) := by decide +kernel
theorem dX10_outbid_58 : decode cX10_outbid 58 = .ok (.iload 4, 2) := by decide +kernel
theorem dX10_outbid_60 : decode cX10_outbid 60 = .ok (.aload_n 0, 1) := by decide +kernel
theorem dX10_outbid_61 : decode cX10_outbid 61 = .ok (.getfield 109, 3) := by decide +kernel
theorem dX10_outbid_64 : decode cX10_outbid 64 = .ok (.iconst 0, 1) := by decide +kernel
theorem dX10_outbid_65 : decode cX10_outbid 65 = .ok (.iaload, 1) := by decide +kernel
theorem dX10_outbid_66 : decode cX10_outbid 66 = .ok (.aload_n 0, 1) := by decide +kernel
theorem dX10_outbid_67 : decode cX10_outbid 67 = .ok (.iload_n 3, 1) := by decide +kernel
theorem dX10_outbid_68 : decode cX10_outbid 68 = .ok (.invokevirtual 474, 3) := by decide +kernel
theorem dX10_outbid_71 : decode cX10_outbid 71 = .ok (.iadd, 1) := by decide +kernel
theorem dX10_outbid_72 : decode cX10_outbid 72 = .ok (.if_icmp .lt 7, 3) := by decide +kernel
theorem dX10_outbid_75 : decode cX10_outbid 75 = .ok (.iconst 1, 1) := by decide +kernel
theorem dX10_outbid_76 : decode cX10_outbid 76 = .ok (.goto 4, 3) := by decide +kernel
theorem dX10_outbid_79 : decode cX10_outbid 79 = .ok (.iconst 0, 1) := by decide +kernel
theorem dX10_outbid_80 : decode cX10_outbid 80 = .ok (.istore 5, 2) := by decide +kernel
theorem dX10_outbid_82 : decode cX10_outbid 82 = .ok (.iconst 0, 1) := by decide +kernel
theorem dX10_outbid_83 : decode cX10_outbid 83 = .ok (.istore 6, 2) := by decide +kernel
theorem dX10_outbid_85 : decode cX10_outbid 85 = .ok (.iload 6, 2) := by decide +kernel
theorem dX10_outbid_87 : decode cX10_outbid 87 = .ok (.aload_n 0, 1) := by decide +kernel
theorem dX10_outbid_88 : decode cX10_outbid 88 = .ok (.getfield 225, 3) := by decide +kernel
theorem dX10_outbid_91 : decode cX10_outbid 91 = .ok (.if_icmp .ge 46, 3) := by decide +kernel
theorem dX10_outbid_94 : decode cX10_outbid 94 = .ok (.iload 5, 2) := by decide +kernel
theorem dX10_outbid_96 : decode cX10_outbid 96 = .ok (.ifCond .eq 32, 3) := by decide +kernel
theorem dX10_outbid_99 : decode cX10_outbid 99 = .ok (.iload_n 1, 1) := by decide +kernel
theorem dX10_outbid_100 : decode cX10_outbid 100 = .ok (.iload_n 3, 1) := by decide +kernel
theorem dX10_outbid_101 : decode cX10_outbid 101 = .ok (.iconst (-1), 1) := by decide +kernel
theorem dX10_outbid_102 : decode cX10_outbid 102 = .ok (.ixor, 1) := by decide +kernel
theorem dX10_outbid_103 : decode cX10_outbid 103 = .ok (.iand, 1) := by decide +kernel
theorem dX10_outbid_104 : decode cX10_outbid 104 = .ok (.iload 6, 2) := by decide +kernel
theorem dX10_outbid_106 : decode cX10_outbid 106 = .ok (.invokestatic 406, 3) := by decide +kernel
theorem dX10_outbid_109 : decode cX10_outbid 109 = .ok (.ifCond .eq 15, 3) := by decide +kernel
theorem dX10_outbid_112 : decode cX10_outbid 112 = .ok (.aload_n 0, 1) := by decide +kernel
theorem dX10_outbid_113 : decode cX10_outbid 113 = .ok (.getfield 85, 3) := by decide +kernel
theorem dX10_outbid_116 : decode cX10_outbid 116 = .ok (.iload 6, 2) := by decide +kernel
theorem dX10_outbid_118 : decode cX10_outbid 118 = .ok (.iaload, 1) := by decide +kernel
theorem dX10_outbid_119 : decode cX10_outbid 119 = .ok (.iload 4, 2) := by decide +kernel
theorem dX10_outbid_121 : decode cX10_outbid 121 = .ok (.if_icmp .ge 7, 3) := by decide +kernel
theorem dX10_outbid_124 : decode cX10_outbid 124 = .ok (.iconst 1, 1) := by decide +kernel
theorem dX10_outbid_125 : decode cX10_outbid 125 = .ok (.goto 4, 3) := by decide +kernel
theorem dX10_outbid_128 : decode cX10_outbid 128 = .ok (.iconst 0, 1) := by decide +kernel
theorem dX10_outbid_129 : decode cX10_outbid 129 = .ok (.istore 5, 2) := by decide +kernel
theorem dX10_outbid_131 : decode cX10_outbid 131 = .ok (.iinc 6 1, 3) := by decide +kernel
theorem dX10_outbid_134 : decode cX10_outbid 134 = .ok (.goto (-49), 3) := by decide +kernel
theorem dX10_outbid_137 : decode cX10_outbid 137 = .ok (.iload 5, 2) := by decide +kernel
theorem dX10_outbid_139 : decode cX10_outbid 139 = .ok (.ifCond .eq 5, 3) := by decide +kernel
theorem dX10_outbid_142 : decode cX10_outbid 142 = .ok (.iload_n 3, 1) := by decide +kernel
theorem dX10_outbid_143 : decode cX10_outbid 143 = .ok (.istore_n 2, 1) := by decide +kernel
theorem dX10_outbid_144 : decode cX10_outbid 144 = .ok (.iinc 3 1, 3) := by decide +kernel
theorem dX10_outbid_147 : decode cX10_outbid 147 = .ok (.goto (-132), 3) := by decide +kernel
theorem dX10_outbid_150 : decode cX10_outbid 150 = .ok (.iload_n 2, 1) := by decide +kernel
theorem dX10_outbid_151 : decode cX10_outbid 151 = .ok (.ireturn, 1) := by decide +kernel
theorem dX10_against_0 : decode cX10_against 0 = .ok (.aload_n 0, 1) := by decide +kernel
theorem dX10_against_1 : decode cX10_against 1 = .ok (.iconst 0, 1) := by decide +kernel
theorem dX10_against_2 : decode cX10_against 2 = .ok (.putfield 151, 3) := by decide +kernel
theorem dX10_against_5 : decode cX10_against 5 = .ok (.aload_n 0, 1) := by decide +kernel
theorem dX10_against_6 : decode cX10_against 6 = .ok (.iload_n 1, 1) := by decide +kernel
theorem dX10_against_7 : decode cX10_against 7 = .ok (.iload_n 2, 1) := by decide +kernel
theorem dX10_against_8 : decode cX10_against 8 = .ok (.invokevirtual 447, 3) := by decide +kernel
theorem dX10_against_11 : decode cX10_against 11 = .ok (.ifCond .eq 12, 3) := by decide +kernel
theorem dX10_against_14 : decode cX10_against 14 = .ok (.iload_n 3, 1) := by decide +kernel
theorem dX10_against_15 : decode cX10_against 15 = .ok (.iconst 0, 1) := by decide +kernel
theorem dX10_against_16 : decode cX10_against 16 = .ok (.iconst 1, 1) := by decide +kernel
theorem dX10_against_17 : decode cX10_against 17 = .ok (.invokestatic 196, 3) := by decide +kernel
theorem dX10_against_20 : decode cX10_against 20 = .ok (.ifCond .ne 5, 3) := by decide +kernel
theorem dX10_against_23 : decode cX10_against 23 = .ok (.iconst (-1), 1) := by decide +kernel
theorem dX10_against_24 : decode cX10_against 24 = .ok (.ireturn, 1) := by decide +kernel
theorem dX10_against_25 : decode cX10_against 25 = .ok (.aload_n 0, 1) := by decide +kernel
theorem dX10_against_26 : decode cX10_against 26 = .ok (.getfield 109, 3) := by decide +kernel
theorem dX10_against_29 : decode cX10_against 29 = .ok (.iconst 0, 1) := by decide +kernel
theorem dX10_against_30 : decode cX10_against 30 = .ok (.iaload, 1) := by decide +kernel
theorem dX10_against_31 : decode cX10_against 31 = .ok (.istore 4, 2) := by decide +kernel
theorem dX10_against_33 : decode cX10_against 33 = .ok (.iconst 0, 1) := by decide +kernel
theorem dX10_against_34 : decode cX10_against 34 = .ok (.istore 5, 2) := by decide +kernel
theorem dX10_against_36 : decode cX10_against 36 = .ok (.iload 5, 2) := by decide +kernel
