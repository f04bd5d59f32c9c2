theorem dX10_put_27 : decode cX10_put 27 = .ok (.getfield 91, 3) := by decide +kernel
theorem dX10_put_30 : decode cX10_put 30 = .ok (.iload_n 3, 1) := by decide +kernel
theorem dX10_put_31 : decode cX10_put 31 = .ok (.iaload, 1) := by decide +kernel
theorem dX10_put_32 : decode cX10_put 32 = .ok (.iastore, 1) := by decide +kernel
theorem dX10_put_33 : decode cX10_put 33 = .ok (.aload_n 1, 1) := by decide +kernel
theorem dX10_put_34 : decode cX10_put 34 = .ok (.iload_n 2, 1) := by decide +kernel
theorem dX10_put_35 : decode cX10_put 35 = .ok (.bipush 12, 2) := by decide +kernel
theorem dX10_put_37 : decode cX10_put 37 = .ok (.iadd, 1) := by decide +kernel
theorem dX10_put_38 : decode cX10_put 38 = .ok (.iload_n 3, 1) := by decide +kernel
theorem dX10_put_39 : decode cX10_put 39 = .ok (.iadd, 1) := by decide +kernel
theorem dX10_put_40 : decode cX10_put 40 = .ok (.aload_n 0, 1) := by decide +kernel
theorem dX10_put_41 : decode cX10_put 41 = .ok (.getfield 94, 3) := by decide +kernel
theorem dX10_put_44 : decode cX10_put 44 = .ok (.iload_n 3, 1) := by decide +kernel
theorem dX10_put_45 : decode cX10_put 45 = .ok (.baload, 1) := by decide +kernel
theorem dX10_put_46 : decode cX10_put 46 = .ok (.ifCond .eq 7, 3) := by decide +kernel
theorem dX10_put_49 : decode cX10_put 49 = .ok (.iconst 1, 1) := by decide +kernel
theorem dX10_put_50 : decode cX10_put 50 = .ok (.goto 4, 3) := by decide +kernel
theorem dX10_put_53 : decode cX10_put 53 = .ok (.iconst 0, 1) := by decide +kernel
theorem dX10_put_54 : decode cX10_put 54 = .ok (.iastore, 1) := by decide +kernel
theorem dX10_put_55 : decode cX10_put 55 = .ok (.aload_n 1, 1) := by decide +kernel
theorem dX10_put_56 : decode cX10_put 56 = .ok (.iload_n 2, 1) := by decide +kernel
theorem dX10_put_57 : decode cX10_put 57 = .ok (.bipush 18, 2) := by decide +kernel
theorem dX10_put_59 : decode cX10_put 59 = .ok (.iadd, 1) := by decide +kernel
theorem dX10_put_60 : decode cX10_put 60 = .ok (.iload_n 3, 1) := by decide +kernel
theorem dX10_put_61 : decode cX10_put 61 = .ok (.iadd, 1) := by decide +kernel
theorem dX10_put_62 : decode cX10_put 62 = .ok (.aload_n 0, 1) := by decide +kernel
theorem dX10_put_63 : decode cX10_put 63 = .ok (.getfield 97, 3) := by decide +kernel
theorem dX10_put_66 : decode cX10_put 66 = .ok (.iload_n 3, 1) := by decide +kernel
theorem dX10_put_67 : decode cX10_put 67 = .ok (.iaload, 1) := by decide +kernel
theorem dX10_put_68 : decode cX10_put 68 = .ok (.iastore, 1) := by decide +kernel
theorem dX10_put_69 : decode cX10_put 69 = .ok (.aload_n 1, 1) := by decide +kernel
theorem dX10_put_70 : decode cX10_put 70 = .ok (.iload_n 2, 1) := by decide +kernel
theorem dX10_put_71 : decode cX10_put 71 = .ok (.bipush 24, 2) := by decide +kernel
theorem dX10_put_73 : decode cX10_put 73 = .ok (.iadd, 1) := by decide +kernel
theorem dX10_put_74 : decode cX10_put 74 = .ok (.iload_n 3, 1) := by decide +kernel
theorem dX10_put_75 : decode cX10_put 75 = .ok (.iadd, 1) := by decide +kernel
theorem dX10_put_76 : decode cX10_put 76 = .ok (.aload_n 0, 1) := by decide +kernel
theorem dX10_put_77 : decode cX10_put 77 = .ok (.getfield 100, 3) := by decide +kernel
theorem dX10_put_80 : decode cX10_put 80 = .ok (.iload_n 3, 1) := by decide +kernel
theorem dX10_put_81 : decode cX10_put 81 = .ok (.iaload, 1) := by decide +kernel
theorem dX10_put_82 : decode cX10_put 82 = .ok (.iastore, 1) := by decide +kernel
theorem dX10_put_83 : decode cX10_put 83 = .ok (.iinc 3 1, 3) := by decide +kernel
theorem dX10_put_86 : decode cX10_put 86 = .ok (.goto (-84), 3) := by decide +kernel
theorem dX10_put_89 : decode cX10_put 89 = .ok (.aload_n 1, 1) := by decide +kernel
theorem dX10_put_90 : decode cX10_put 90 = .ok (.iload_n 2, 1) := by decide +kernel
theorem dX10_put_91 : decode cX10_put 91 = .ok (.bipush 30, 2) := by decide +kernel
theorem dX10_put_93 : decode cX10_put 93 = .ok (.iadd, 1) := by decide +kernel
theorem dX10_put_94 : decode cX10_put 94 = .ok (.aload_n 0, 1) := by decide +kernel
theorem dX10_put_95 : decode cX10_put 95 = .ok (.getfield 109, 3) := by decide +kernel
theorem dX10_put_98 : decode cX10_put 98 = .ok (.iconst 0, 1) := by decide +kernel
theorem dX10_put_99 : decode cX10_put 99 = .ok (.iaload, 1) := by decide +kernel
theorem dX10_put_100 : decode cX10_put 100 = .ok (.iastore, 1) := by decide +kernel
theorem dX10_put_101 : decode cX10_put 101 = .ok (.aload_n 1, 1) := by decide +kernel
theorem dX10_put_102 : decode cX10_put 102 = .ok (.iload_n 2, 1) := by decide +kernel
theorem dX10_put_103 : decode cX10_put 103 = .ok (.bipush 31, 2) := by decide +kernel
theorem dX10_put_105 : decode cX10_put 105 = .ok (.iadd, 1) := by decide +kernel
theorem dX10_put_106 : decode cX10_put 106 = .ok (.aload_n 0, 1) := by decide +kernel
theorem dX10_put_107 : decode cX10_put 107 = .ok (.getfield 112, 3) := by decide +kernel
theorem dX10_put_110 : decode cX10_put 110 = .ok (.iconst 0, 1) := by decide +kernel
theorem dX10_put_111 : decode cX10_put 111 = .ok (.iaload, 1) := by decide +kernel
theorem dX10_put_112 : decode cX10_put 112 = .ok (.iastore, 1) := by decide +kernel
theorem dX10_put_113 : decode cX10_put 113 = .ok (.aload_n 1, 1) := by decide +kernel
theorem dX10_put_114 : decode cX10_put 114 = .ok (.iload_n 2, 1) := by decide +kernel
theorem dX10_put_115 : decode cX10_put 115 = .ok (.bipush 32, 2) := by decide +kernel
theorem dX10_put_117 : decode cX10_put 117 = .ok (.iadd, 1) := by decide +kernel
theorem dX10_put_118 : decode cX10_put 118 = .ok (.aload_n 0, 1) := by decide +kernel
theorem dX10_put_119 : decode cX10_put 119 = .ok (.getfield 115, 3) := by decide +kernel
theorem dX10_put_122 : decode cX10_put 122 = .ok (.iconst 0, 1) := by decide +kernel
theorem dX10_put_123 : decode cX10_put 123 = .ok (.iaload, 1) := by decide +kernel
theorem dX10_put_124 : decode cX10_put 124 = .ok (.iastore, 1) := by decide +kernel
theorem dX10_put_125 : decode cX10_put 125 = .ok (.return_, 1) := by decide +kernel
theorem dX10_take_0 : decode cX10_take 0 = .ok (.iconst 0, 1) := by decide +kernel
theorem dX10_take_1 : decode cX10_take 1 = .ok (.istore_n 3, 1) := by decide +kernel
theorem dX10_take_2 : decode cX10_take 2 = .ok (.iload_n 3, 1) := by decide +kernel
theorem dX10_take_3 : decode cX10_take 3 = .ok (.bipush 6, 2) := by decide +kernel
theorem dX10_take_5 : decode cX10_take 5 = .ok (.if_icmp .ge 85, 3) := by decide +kernel
theorem dX10_take_8 : decode cX10_take 8 = .ok (.aload_n 0, 1) := by decide +kernel
theorem dX10_take_9 : decode cX10_take 9 = .ok (.getfield 85, 3) := by decide +kernel
theorem dX10_take_12 : decode cX10_take 12 = .ok (.iload_n 3, 1) := by decide +kernel
theorem dX10_take_13 : decode cX10_take 13 = .ok (.aload_n 1, 1) := by decide +kernel
theorem dX10_take_14 : decode cX10_take 14 = .ok (.iload_n 2, 1) := by decide +kernel
theorem dX10_take_15 : decode cX10_take 15 = .ok (.iload_n 3, 1) := by decide +kernel
theorem dX10_take_16 : decode cX10_take 16 = .ok (.iadd, 1) := by decide +kernel
theorem dX10_take_17 : decode cX10_take 17 = .ok (.iaload, 1) := by decide +kernel
theorem dX10_take_18 : decode cX10_take 18 = .ok (.iastore, 1) := by decide +kernel
theorem dX10_take_19 : decode cX10_take 19 = .ok (.aload_n 0, 1) := by decide +kernel
theorem dX10_take_20 : decode cX10_take 20 = .ok (.getfield 91, 3) := by decide +kernel
theorem dX10_take_23 : decode cX10_take 23 = .ok (.iload_n 3, 1) := by decide +kernel
theorem dX10_take_24 : decode cX10_take 24 = .ok (.aload_n 1, 1) := by decide +kernel
theorem dX10_take_25 : decode cX10_take 25 = .ok (.iload_n 2, 1) := by decide +kernel
theorem dX10_take_26 : decode cX10_take 26 = .ok (.bipush 6, 2) := by decide +kernel
theorem dX10_take_28 : decode cX10_take 28 = .ok (.iadd, 1) := by decide +kernel
theorem dX10_take_29 : decode cX10_take 29 = .ok (.iload_n 3, 1) := by decide +kernel
theorem dX10_take_30 : decode cX10_take 30 = .ok (.iadd, 1) := by decide +kernel
theorem dX10_take_31 : decode cX10_take 31 = .ok (.iaload, 1) := by decide +kernel
theorem dX10_take_32 : decode cX10_take 32 = .ok (.iastore, 1) := by decide +kernel
theorem dX10_take_33 : decode cX10_take 33 = .ok (.aload_n 0, 1) := by decide +kernel
theorem dX10_take_34 : decode cX10_take 34 = .ok (.getfield 94, 3) := by decide +kernel
theorem dX10_take_37 : decode cX10_take 37 = .ok (.iload_n 3, 1) := by decide +kernel
theorem dX10_take_38 : decode cX10_take 38 = .ok (.aload_n 1, 1) := by decide +kernel
theorem dX10_take_39 : decode cX10_take 39 = .ok (.iload_n 2, 1) := by decide +kernel
theorem dX10_take_40 : decode cX10_take 40 = .ok (.bipush 12, 2) := by decide +kernel
theorem dX10_take_42 : decode cX10_take 42 = .ok (.iadd, 1) := by decide +kernel
theorem dX10_take_43 : decode cX10_take 43 = .ok (.iload_n 3, 1) := by decide +kernel
theorem dX10_take_44 : decode cX10_take 44 = .ok (.iadd, 1) := by decide +kernel
theorem dX10_take_45 : decode cX10_take 45 = .ok (.iaload, 1) := by decide +kernel
theorem dX10_take_46 : decode cX10_take 46 = .ok (.iconst 1, 1) := by decide +kernel
theorem dX10_take_47 : decode cX10_take 47 = .ok (.if_icmp .ne 7, 3) := by decide +kernel
theorem dX10_take_50 : decode cX10_take 50 = .ok (.iconst 1, 1) := by decide +kernel
theorem dX10_take_51 : decode cX10_take 51 = .ok (.goto 4, 3) := by decide +kernel
theorem dX10_take_54 : decode cX10_take 54 = .ok (.iconst 0, 1) := by decide +kernel
theorem dX10_take_55 : decode cX10_take 55 = .ok (.bastore, 1) := by decide +kernel
theorem dX10_take_56 : decode cX10_take 56 = .ok (.aload_n 0, 1) := by decide +kernel
theorem dX10_take_57 : decode cX10_take 57 = .ok (.getfield 97, 3) := by decide +kernel
theorem dX10_take_60 : decode cX10_take 60 = .ok (.iload_n 3, 1) := by decide +kernel
theorem dX10_take_61 : decode cX10_take 61 = .ok (.aload_n 1, 1) := by decide +kernel
theorem dX10_take_62 : decode cX10_take 62 = .ok (.iload_n 2, 1) := by decide +kernel
theorem dX10_take_63 : decode cX10_take 63 = .ok (.bipush 18, 2) := by decide +kernel
theorem dX10_take_65 : decode cX10_take 65 = .ok (.iadd, 1) := by decide +kernel
theorem dX10_take_66 : decode cX10_take 66 = .ok (.iload_n 3, 1) := by decide +kernel
theorem dX10_take_67 : decode cX10_take 67 = .ok (.iadd, 1) := by decide +kernel
theorem dX10_take_68 : decode cX10_take 68 = .ok (.iaload, 1) := by decide +kernel
theorem dX10_take_69 : decode cX10_take 69 = .ok (.iastore, 1) := by decide +kernel
theorem dX10_take_70 : decode cX10_take 70 = .ok (.aload_n 0, 1) := by decide +kernel
theorem dX10_take_71 : decode cX10_take 71 = .ok (.getfield 100, 3) := by decide +kernel
theorem dX10_take_74 : decode cX10_take 74 = .ok (.iload_n 3, 1) := by decide +kernel
theorem dX10_take_75 : decode cX10_take 75 = .ok (.aload_n 1, 1) := by decide +kernel
theorem dX10_take_76 : decode cX10_take 76 = .ok (.iload_n 2, 1) := by decide +kernel
theorem dX10_take_77 : decode cX10_take 77 = .ok (.bipush 24, 2) := by decide +kernel
theorem dX10_take_79 : decode cX10_take 79 = .ok (.iadd, 1) := by decide +kernel
theorem dX10_take_80 : decode cX10_take 80 = .ok (.iload_n 3, 1) := by decide +kernel
theorem dX10_take_81 : decode cX10_take 81 = .ok (.iadd, 1) := by decide +kernel
theorem dX10_take_82 : decode cX10_take 82 = .ok (.iaload, 1) := by decide +kernel
theorem dX10_take_83 : decode cX10_take 83 = .ok (.iastore, 1) := by decide +kernel
theorem dX10_take_84 : decode cX10_take 84 = .ok (.iinc 3 1, 3) := by decide +kernel
theorem dX10_take_87 : decode cX10_take 87 = .ok (.goto (-85), 3) := by decide +kernel
theorem dX10_take_90 : decode cX10_take 90 = .ok (.aload_n 0, 1) := by decide +kernel
theorem dX10_take_91 : decode cX10_take 91 = .ok (.getfield 109, 3) := by decide +kernel
theorem dX10_take_94 : decode cX10_take 94 = .ok (.iconst 0, 1) := by decide +kernel
theorem dX10_take_95 : decode cX10_take 95 = .ok (.aload_n 1, 1) := by decide +kernel
theorem dX10_take_96 : decode cX10_take 96 = .ok (.iload_n 2, 1) := by decide +kernel
theorem dX10_take_97 : decode cX10_take 97 = .ok (.bipush 30, 2) := by decide +kernel
theorem dX10_take_99 : decode cX10_take 99 = .ok (.iadd, 1) := by decide +kernel
theorem dX10_take_100 : decode cX10_take 100 = .ok (.iaload, 1) := by decide +kernel
theorem dX10_take_101 : decode cX10_take 101 = .ok (.iastore, 1) := by decide +kernel
theorem dX10_take_102 : decode cX10_take 102 = .ok (.aload_n 0, 1) := by decide +kernel
theorem dX10_take_103 : decode cX10_take 103 = .ok (.getfield 112, 3) := by decide +kernel
theorem dX10_take_106 : decode cX10_take 106 = .ok (.iconst 0, 1) := by decide +kernel
theorem dX10_take_107 : decode cX10_take 107 = .ok (.aload_n 1, 1) := by decide +kernel
theorem dX10_take_108 : decode cX10_take 108 = .ok (.iload_n 2, 1) := by decide +kernel
theorem dX10_take_109 : decode cX10_take 109 = .ok (.bipush 31, 2) := by decide +kernel
theorem dX10_take_111 : decode cX10_take 111 = .ok (.iadd, 1) := by decide +kernel
theorem dX10_take_112 : decode cX10_take 112 = .ok (.iaload, 1) := by decide +kernel
theorem dX10_take_113 : decode cX10_take 113 = .ok (.iastore, 1) := by decide +kernel
theorem dX10_take_114 : decode cX10_take 114 = .ok (.aload_n 0, 1) := by decide +kernel
theorem dX10_take_115 : decode cX10_take 115 = .ok (.getfield 115, 3) := by decide +kernel
theorem dX10_take_118 : decode cX10_take 118 = .ok (.iconst 0, 1) := by decide +kernel
theorem dX10_take_119 : decode cX10_take 119 = .ok (.aload_n 1, 1) := by decide +kernel
theorem dX10_take_120 : decode cX10_take 120 = .ok (.iload_n 2, 1) := by decide +kernel
theorem dX10_take_121 : decode cX10_take 121 = .ok (.bipush 32, 2) := by decide +kernel
theorem dX10_take_123 : decode cX10_take 123 = .ok (.iadd, 1) := by decide +kernel
theorem dX10_take_124 : decode cX10_take 124 = .ok (.iaload, 1) := by decide +kernel
theorem dX10_take_125 : decode cX10_take 125 = .ok (.iastore, 1) := by decide +kernel
theorem dX10_take_126 : decode cX10_take 126 = .ok (.return_, 1) := by decide +kernel
theorem dX10_remember_0 : decode cX10_remember 0 = .ok (.aload_n 0, 1) := by decide +kernel
theorem dX10_remember_1 : decode cX10_remember 1 = .ok (.getfield 347, 3) := by decide +kernel
theorem dX10_remember_4 : decode cX10_remember 4 = .ok (.bipush 20, 2) := by decide +kernel
theorem dX10_remember_6 : decode cX10_remember 6 = .ok (.if_icmp .ne 43, 3) := by decide +kernel
theorem dX10_remember_9 : decode cX10_remember 9 = .ok (.iconst 0, 1) := by decide +kernel
theorem dX10_remember_10 : decode cX10_remember 10 = .ok (.istore_n 1, 1) := by decide +kernel
theorem dX10_remember_11 : decode cX10_remember 11 = .ok (.iload_n 1, 1) := by decide +kernel
theorem dX10_remember_12 : decode cX10_remember 12 = .ok (.sipush 627, 3) := by decide +kernel
theorem dX10_remember_15 : decode cX10_remember 15 = .ok (.if_icmp .ge 24, 3) := by decide +kernel
theorem dX10_remember_18 : decode cX10_remember 18 = .ok (.aload_n 0, 1) := by decide +kernel
theorem dX10_remember_19 : decode cX10_remember 19 = .ok (.getfield 136, 3) := by decide +kernel
theorem dX10_remember_22 : decode cX10_remember 22 = .ok (.iload_n 1, 1) := by decide +kernel
theorem dX10_remember_23 : decode cX10_remember 23 = .ok (.aload_n 0, 1) := by decide +kernel
theorem dX10_remember_24 : decode cX10_remember 24 = .ok (.getfield 136, 3) := by decide +kernel
theorem dX10_remember_27 : decode cX10_remember 27 = .ok (.iload_n 1, 1) := by decide +kernel
theorem dX10_remember_28 : decode cX10_remember 28 = .ok (.bipush 33, 2) := by decide +kernel
theorem dX10_remember_30 : decode cX10_remember 30 = .ok (.iadd, 1) := by decide +kernel
theorem dX10_remember_31 : decode cX10_remember 31 = .ok (.iaload, 1) := by decide +kernel
theorem dX10_remember_32 : decode cX10_remember 32 = .ok (.iastore, 1) := by decide +kernel
theorem dX10_remember_33 : decode cX10_remember 33 = .ok (.iinc 1 1, 3) := by decide +kernel
theorem dX10_remember_36 : decode cX10_remember 36 = .ok (.goto (-25), 3) := by decide +kernel
theorem dX10_remember_39 : decode cX10_remember 39 = .ok (.aload_n 0, 1) := by decide +kernel
theorem dX10_remember_40 : decode cX10_remember 40 = .ok (.dup, 1) := by decide +kernel
theorem dX10_remember_41 : decode cX10_remember 41 = .ok (.getfield 347, 3) := by decide +kernel
theorem dX10_remember_44 : decode cX10_remember 44 = .ok (.iconst 1, 1) := by decide +kernel
theorem dX10_remember_45 : decode cX10_remember 45 = .ok (.isub, 1) := by decide +kernel
theorem dX10_remember_46 : decode cX10_remember 46 = .ok (.putfield 347, 3) := by decide +kernel
theorem dX10_remember_49 : decode cX10_remember 49 = .ok (.aload_n 0, 1) := by decide +kernel
theorem dX10_remember_50 : decode cX10_remember 50 = .ok (.aload_n 0, 1) := by decide +kernel
theorem dX10_remember_51 : decode cX10_remember 51 = .ok (.getfield 136, 3) := by decide +kernel
theorem dX10_remember_54 : decode cX10_remember 54 = .ok (.bipush 33, 2) := by decide +kernel
theorem dX10_remember_56 : decode cX10_remember 56 = .ok (.aload_n 0, 1) := by decide +kernel
theorem dX10_remember_57 : decode cX10_remember 57 = .ok (.getfield 347, 3) := by decide +kernel
theorem dX10_remember_60 : decode cX10_remember 60 = .ok (.imul, 1) := by decide +kernel
theorem dX10_remember_61 : decode cX10_remember 61 = .ok (.invokevirtual 499, 3) := by decide +kernel
theorem dX10_remember_64 : decode cX10_remember 64 = .ok (.aload_n 0, 1) := by decide +kernel
theorem dX10_remember_65 : decode cX10_remember 65 = .ok (.dup, 1) := by decide +kernel
theorem dX10_remember_66 : decode cX10_remember 66 = .ok (.getfield 347, 3) := by decide +kernel
theorem dX10_remember_69 : decode cX10_remember 69 = .ok (.iconst 1, 1) := by decide +kernel
theorem dX10_remember_70 : decode cX10_remember 70 = .ok (.iadd, 1) := by decide +kernel
theorem dX10_remember_71 : decode cX10_remember 71 = .ok (.putfield 347, 3) := by decide +kernel
theorem dX10_remember_74 : decode cX10_remember 74 = .ok (.return_, 1) := by decide +kernel
theorem dX10_undo_0 : decode cX10_undo 0 = .ok (.aload_n 0, 1) := by decide +kernel
theorem dX10_undo_1 : decode cX10_undo 1 = .ok (.iconst 0, 1) := by decide +kernel
theorem dX10_undo_2 : decode cX10_undo 2 = .ok (.putfield 151, 3) := by decide +kernel
theorem dX10_undo_5 : decode cX10_undo 5 = .ok (.aload_n 0, 1) := by decide +kernel
theorem dX10_undo_6 : decode cX10_undo 6 = .ok (.getfield 347, 3) := by decide +kernel
theorem dX10_undo_9 : decode cX10_undo 9 = .ok (.ifCond .ne 5, 3) := by decide +kernel
theorem dX10_undo_12 : decode cX10_undo 12 = .ok (.iconst (-1), 1) := by decide +kernel
theorem dX10_undo_13 : decode cX10_undo 13 = .ok (.ireturn, 1) := by decide +kernel
theorem dX10_undo_14 : decode cX10_undo 14 = .ok (.aload_n 0, 1) := by decide +kernel
theorem dX10_undo_15 : decode cX10_undo 15 = .ok (.dup, 1) := by decide +kernel
theorem dX10_undo_16 : decode cX10_undo 16 = .ok (.getfield 347, 3) := by decide +kernel
theorem dX10_undo_19 : decode cX10_undo 19 = .ok (.iconst 1, 1) := by decide +kernel
theorem dX10_undo_20 : decode cX10_undo 20 = .ok (.isub, 1) := by decide +kernel
theorem dX10_undo_21 : decode cX10_undo 21 = .ok (.putfield 347, 3) := by decide +kernel
theorem dX10_undo_24 : decode cX10_undo 24 = .ok (.aload_n 0, 1) := by decide +kernel
theorem dX10_undo_25 : decode cX10_undo 25 = .ok (.aload_n 0, 1) := by decide +kernel
theorem dX10_undo_26 : decode cX10_undo 26 = .ok (.getfield 136, 3) := by decide +kernel
theorem dX10_undo_29 : decode cX10_undo 29 = .ok (.bipush 33, 2) := by decide +kernel
theorem dX10_undo_31 : decode cX10_undo 31 = .ok (.aload_n 0, 1) := by decide +kernel
theorem dX10_undo_32 : decode cX10_undo 32 = .ok (.getfield 347, 3) := by decide +kernel
theorem dX10_undo_35 : decode cX10_undo 35 = .ok (.imul, 1) := by decide +kernel
theorem dX10_undo_36 : decode cX10_undo 36 = .ok (.invokevirtual 502, 3) := by decide +kernel
theorem dX10_undo_39 : decode cX10_undo 39 = .ok (.aload_n 0, 1) := by decide +kernel
theorem dX10_undo_40 : decode cX10_undo 40 = .ok (.getfield 347, 3) := by decide +kernel
theorem dX10_undo_43 : decode cX10_undo 43 = .ok (.ireturn, 1) := by decide +kernel
theorem dX10_keep_0 : decode cX10_keep 0 = .ok (.aload_n 0, 1) := by decide +kernel
theorem dX10_keep_1 : decode cX10_keep 1 = .ok (.iconst 0, 1) := by decide +kernel
theorem dX10_keep_2 : decode cX10_keep 2 = .ok (.putfield 151, 3) := by decide +kernel
theorem dX10_keep_5 : decode cX10_keep 5 = .ok (.aload_n 0, 1) := by decide +kernel
theorem dX10_keep_6 : decode cX10_keep 6 = .ok (.iconst 1, 1) := by decide +kernel
theorem dX10_keep_7 : decode cX10_keep 7 = .ok (.putfield 350, 3) := by decide +kernel
theorem dX10_keep_10 : decode cX10_keep 10 = .ok (.aload_n 0, 1) := by decide +kernel
theorem dX10_keep_11 : decode cX10_keep 11 = .ok (.aload_n 0, 1) := by decide +kernel
theorem dX10_keep_12 : decode cX10_keep 12 = .ok (.getfield 139, 3) := by decide +kernel
theorem dX10_keep_15 : decode cX10_keep 15 = .ok (.iconst 0, 1) := by decide +kernel
theorem dX10_keep_16 : decode cX10_keep 16 = .ok (.invokevirtual 499, 3) := by decide +kernel
theorem dX10_keep_19 : decode cX10_keep 19 = .ok (.iconst 0, 1) := by decide +kernel
theorem dX10_keep_20 : decode cX10_keep 20 = .ok (.istore_n 1, 1) := by decide +kernel
theorem dX10_keep_21 : decode cX10_keep 21 = .ok (.iload_n 1, 1) := by decide +kernel
theorem dX10_keep_22 : decode cX10_keep 22 = .ok (.bipush 6, 2) := by decide +kernel
theorem dX10_keep_24 : decode cX10_keep 24 = .ok (.if_icmp .ge 59, 3) := by decide +kernel
theorem dX10_keep_27 : decode cX10_keep 27 = .ok (.aload_n 0, 1) := by decide +kernel
theorem dX10_keep_28 : decode cX10_keep 28 = .ok (.getfield 142, 3) := by decide +kernel
theorem dX10_keep_31 : decode cX10_keep 31 = .ok (.iload_n 1, 1) := by decide +kernel
theorem dX10_keep_32 : decode cX10_keep 32 = .ok (.aload_n 0, 1) := by decide +kernel
theorem dX10_keep_33 : decode cX10_keep 33 = .ok (.getfield 88, 3) := by decide +kernel
theorem dX10_keep_36 : decode cX10_keep 36 = .ok (.iload_n 1, 1) := by decide +kernel
theorem dX10_keep_37 : decode cX10_keep 37 = .ok (.iaload, 1) := by decide +kernel
theorem dX10_keep_38 : decode cX10_keep 38 = .ok (.iastore, 1) := by decide +kernel
theorem dX10_keep_39 : decode cX10_keep 39 = .ok (.aload_n 0, 1) := by decide +kernel
theorem dX10_keep_40 : decode cX10_keep 40 = .ok (.getfield 142, 3) := by decide +kernel
theorem dX10_keep_43 : decode cX10_keep 43 = .ok (.bipush 6, 2) := by decide +kernel
theorem dX10_keep_45 : decode cX10_keep 45 = .ok (.iload_n 1, 1) := by decide +kernel
theorem dX10_keep_46 : decode cX10_keep 46 = .ok (.iadd, 1) := by decide +kernel
theorem dX10_keep_47 : decode cX10_keep 47 = .ok (.aload_n 0, 1) := by decide +kernel
theorem dX10_keep_48 : decode cX10_keep 48 = .ok (.getfield 103, 3) := by decide +kernel
theorem dX10_keep_51 : decode cX10_keep 51 = .ok (.iload_n 1, 1) := by decide +kernel
theorem dX10_keep_52 : decode cX10_keep 52 = .ok (.iaload, 1) := by decide +kernel
theorem dX10_keep_53 : decode cX10_keep 53 = .ok (.iastore, 1) := by decide +kernel
theorem dX10_keep_54 : decode cX10_keep 54 = .ok (.aload_n 0, 1) := by decide +kernel
theorem dX10_keep_55 : decode cX10_keep 55 = .ok (.getfield 142, 3) := by decide +kernel
theorem dX10_keep_58 : decode cX10_keep 58 = .ok (.bipush 12, 2) := by decide +kernel
theorem dX10_keep_60 : decode cX10_keep 60 = .ok (.iload_n 1, 1) := by decide +kernel
theorem dX10_keep_61 : decode cX10_keep 61 = .ok (.iadd, 1) := by decide +kernel
theorem dX10_keep_62 : decode cX10_keep 62 = .ok (.aload_n 0, 1) := by decide +kernel
theorem dX10_keep_63 : decode cX10_keep 63 = .ok (.getfield 106, 3) := by decide +kernel
theorem dX10_keep_66 : decode cX10_keep 66 = .ok (.iload_n 1, 1) := by decide +kernel
theorem dX10_keep_67 : decode cX10_keep 67 = .ok (.baload, 1) := by decide +kernel
theorem dX10_keep_68 : decode cX10_keep 68 = .ok (.ifCond .eq 7, 3) := by decide +kernel
theorem dX10_keep_71 : decode cX10_keep 71 = .ok (.iconst 1, 1) := by decide +kernel
theorem dX10_keep_72 : decode cX10_keep 72 = .ok (.goto 4, 3) := by decide +kernel
theorem dX10_keep_75 : decode cX10_keep 75 = .ok (.iconst 0, 1) := by decide +kernel
theorem dX10_keep_76 : decode cX10_keep 76 = .ok (.iastore, 1) := by decide +kernel
theorem dX10_keep_77 : decode cX10_keep 77 = .ok (.iinc 1 1, 3) := by decide +kernel
theorem dX10_keep_80 : decode cX10_keep 80 = .ok (.goto (-59), 3) := by decide +kernel
theorem dX10_keep_83 : decode cX10_keep 83 = .ok (.aload_n 0, 1) := by decide +kernel
theorem dX10_keep_84 : decode cX10_keep 84 = .ok (.getfield 142, 3) := by decide +kernel
theorem dX10_keep_87 : decode cX10_keep 87 = .ok (.bipush 18, 2) := by decide +kernel
theorem dX10_keep_89 : decode cX10_keep 89 = .ok (.aload_n 0, 1) := by decide +kernel
theorem dX10_keep_90 : decode cX10_keep 90 = .ok (.getfield 118, 3) := by decide +kernel
theorem dX10_keep_93 : decode cX10_keep 93 = .ok (.iconst 0, 1) := by decide +kernel
theorem dX10_keep_94 : decode cX10_keep 94 = .ok (.baload, 1) := by decide +kernel
theorem dX10_keep_95 : decode cX10_keep 95 = .ok (.ifCond .eq 7, 3) := by decide +kernel
theorem dX10_keep_98 : decode cX10_keep 98 = .ok (.iconst 1, 1) := by decide +kernel
theorem dX10_keep_99 : decode cX10_keep 99 = .ok (.goto 4, 3) := by decide +kernel
theorem dX10_keep_102 : decode cX10_keep 102 = .ok (.iconst 0, 1) := by decide +kernel
theorem dX10_keep_103 : decode cX10_keep 103 = .ok (.iastore, 1) := by decide +kernel
theorem dX10_keep_104 : decode cX10_keep 104 = .ok (.aload_n 0, 1) := by decide +kernel
theorem dX10_keep_105 : decode cX10_keep 105 = .ok (.getfield 142, 3) := by decide +kernel
theorem dX10_keep_108 : decode cX10_keep 108 = .ok (.bipush 19, 2) := by decide +kernel
theorem dX10_keep_110 : decode cX10_keep 110 = .ok (.aload_n 0, 1) := by decide +kernel
theorem dX10_keep_111 : decode cX10_keep 111 = .ok (.getfield 121, 3) := by decide +kernel
theorem dX10_keep_114 : decode cX10_keep 114 = .ok (.iconst 0, 1) := by decide +kernel
theorem dX10_keep_115 : decode cX10_keep 115 = .ok (.iaload, 1) := by decide +kernel
theorem dX10_keep_116 : decode cX10_keep 116 = .ok (.iastore, 1) := by decide +kernel
theorem dX10_keep_117 : decode cX10_keep 117 = .ok (.aload_n 0, 1) := by decide +kernel
theorem dX10_keep_118 : decode cX10_keep 118 = .ok (.getfield 142, 3) := by decide +kernel
theorem dX10_keep_121 : decode cX10_keep 121 = .ok (.bipush 20, 2) := by decide +kernel
theorem dX10_keep_123 : decode cX10_keep 123 = .ok (.aload_n 0, 1) := by decide +kernel
theorem dX10_keep_124 : decode cX10_keep 124 = .ok (.getfield 124, 3) := by decide +kernel
theorem dX10_keep_127 : decode cX10_keep 127 = .ok (.iconst 0, 1) := by decide +kernel
theorem dX10_keep_128 : decode cX10_keep 128 = .ok (.iaload, 1) := by decide +kernel
theorem dX10_keep_129 : decode cX10_keep 129 = .ok (.iastore, 1) := by decide +kernel
theorem dX10_keep_130 : decode cX10_keep 130 = .ok (.aload_n 0, 1) := by decide +kernel
theorem dX10_keep_131 : decode cX10_keep 131 = .ok (.aload_n 0, 1) := by decide +kernel
theorem dX10_keep_132 : decode cX10_keep 132 = .ok (.getfield 337, 3) := by decide +kernel
theorem dX10_keep_135 : decode cX10_keep 135 = .ok (.putfield 505, 3) := by decide +kernel
theorem dX10_keep_138 : decode cX10_keep 138 = .ok (.aload_n 0, 1) := by decide +kernel
theorem dX10_keep_139 : decode cX10_keep 139 = .ok (.getfield 124, 3) := by decide +kernel
theorem dX10_keep_142 : decode cX10_keep 142 = .ok (.iconst 0, 1) := by decide +kernel
theorem dX10_keep_143 : decode cX10_keep 143 = .ok (.iaload, 1) := by decide +kernel
theorem dX10_keep_144 : decode cX10_keep 144 = .ok (.ireturn, 1) := by decide +kernel
theorem dX10_back_0 : decode cX10_back 0 = .ok (.aload_n 0, 1) := by decide +kernel
theorem dX10_back_1 : decode cX10_back 1 = .ok (.iconst 0, 1) := by decide +kernel
theorem dX10_back_2 : decode cX10_back 2 = .ok (.putfield 151, 3) := by decide +kernel
theorem dX10_back_5 : decode cX10_back 5 = .ok (.aload_n 0, 1) := by decide +kernel
theorem dX10_back_6 : decode cX10_back 6 = .ok (.getfield 350, 3) := by decide +kernel
theorem dX10_back_9 : decode cX10_back 9 = .ok (.ifCond .ne 5, 3) := by decide +kernel
theorem dX10_back_12 : decode cX10_back 12 = .ok (.iconst (-1), 1) := by decide +kernel
theorem dX10_back_13 : decode cX10_back 13 = .ok (.ireturn, 1) := by decide +kernel
theorem dX10_back_14 : decode cX10_back 14 = .ok (.aload_n 0, 1) := by decide +kernel
theorem dX10_back_15 : decode cX10_back 15 = .ok (.aload_n 0, 1) := by decide +kernel
theorem dX10_back_16 : decode cX10_back 16 = .ok (.getfield 139, 3) := by decide +kernel
theorem dX10_back_19 : decode cX10_back 19 = .ok (.iconst 0, 1) := by decide +kernel
theorem dX10_back_20 : decode cX10_back 20 = .ok (.invokevirtual 502, 3) := by decide +kernel
theorem dX10_back_23 : decode cX10_back 23 = .ok (.iconst 0, 1) := by decide +kernel
theorem dX10_back_24 : decode cX10_back 24 = .ok (.istore_n 1, 1) := by decide +kernel
theorem dX10_back_25 : decode cX10_back 25 = .ok (.iload_n 1, 1) := by decide +kernel
theorem dX10_back_26 : decode cX10_back 26 = .ok (.bipush 6, 2) := by decide +kernel
theorem dX10_back_28 : decode cX10_back 28 = .ok (.if_icmp .ge 60, 3) := by decide +kernel
theorem dX10_back_31 : decode cX10_back 31 = .ok (.aload_n 0, 1) := by decide +kernel
theorem dX10_back_32 : decode cX10_back 32 = .ok (.getfield 88, 3) := by decide +kernel
theorem dX10_back_35 : decode cX10_back 35 = .ok (.iload_n 1, 1) := by decide +kernel
theorem dX10_back_36 : decode cX10_back 36 = .ok (.aload_n 0, 1) := by decide +kernel
theorem dX10_back_37 : decode cX10_back 37 = .ok (.getfield 142, 3) := by decide +kernel
theorem dX10_back_40 : decode cX10_back 40 = .ok (.iload_n 1, 1) := by decide +kernel
theorem dX10_back_41 : decode cX10_back 41 = .ok (.iaload, 1) := by decide +kernel
theorem dX10_back_42 : decode cX10_back 42 = .ok (.iastore, 1) := by decide +kernel
theorem dX10_back_43 : decode cX10_back 43 = .ok (.aload_n 0, 1) := by decide +kernel
theorem dX10_back_44 : decode cX10_back 44 = .ok (.getfield 103, 3) := by decide +kernel
theorem dX10_back_47 : decode cX10_back 47 = .ok (.iload_n 1, 1) := by decide +kernel
theorem dX10_back_48 : decode cX10_back 48 = .ok (.aload_n 0, 1) := by decide +kernel
theorem dX10_back_49 : decode cX10_back 49 = .ok (.getfield 142, 3) := by decide +kernel
theorem dX10_back_52 : decode cX10_back 52 = .ok (.bipush 6, 2) := by decide +kernel
theorem dX10_back_54 : decode cX10_back 54 = .ok (.iload_n 1, 1) := by decide +kernel
theorem dX10_back_55 : decode cX10_back 55 = .ok (.iadd, 1) := by decide +kernel
theorem dX10_back_56 : decode cX10_back 56 = .ok (.iaload, 1) := by decide +kernel
theorem dX10_back_57 : decode cX10_back 57 = .ok (.iastore, 1) := by decide +kernel
theorem dX10_back_58 : decode cX10_back 58 = .ok (.aload_n 0, 1) := by decide +kernel
theorem dX10_back_59 : decode cX10_back 59 = .ok (.getfield 106, 3) := by decide +kernel
theorem dX10_back_62 : decode cX10_back 62 = .ok (.iload_n 1, 1) := by decide +kernel
theorem dX10_back_63 : decode cX10_back 63 = .ok (.aload_n 0, 1) := by decide +kernel
theorem dX10_back_64 : decode cX10_back 64 = .ok (.getfield 142, 3) := by decide +kernel
theorem dX10_back_67 : decode cX10_back 67 = .ok (.bipush 12, 2) := by decide +kernel
theorem dX10_back_69 : decode cX10_back 69 = .ok (.iload_n 1, 1) := by decide +kernel
theorem dX10_back_70 : decode cX10_back 70 = .ok (.iadd, 1) := by decide +kernel
theorem dX10_back_71 : decode cX10_back 71 = .ok (.iaload, 1) := by decide +kernel
theorem dX10_back_72 : decode cX10_back 72 = .ok (.iconst 1, 1) := by decide +kernel
theorem dX10_back_73 : decode cX10_back 73 = .ok (.if_icmp .ne 7, 3) := by decide +kernel
theorem dX10_back_76 : decode cX10_back 76 = .ok (.iconst 1, 1) := by decide +kernel
theorem dX10_back_77 : decode cX10_back 77 = .ok (.goto 4, 3) := by decide +kernel
theorem dX10_back_80 : decode cX10_back 80 = .ok (.iconst 0, 1) := by decide +kernel
theorem dX10_back_81 : decode cX10_back 81 = .ok (.bastore, 1) := by decide +kernel
theorem dX10_back_82 : decode cX10_back 82 = .ok (.iinc 1 1, 3) := by decide +kernel
theorem dX10_back_85 : decode cX10_back 85 = .ok (.goto (-60), 3) := by decide +kernel
theorem dX10_back_88 : decode cX10_back 88 = .ok (.aload_n 0, 1) := by decide +kernel
theorem dX10_back_89 : decode cX10_back 89 = .ok (.getfield 118, 3) := by decide +kernel
theorem dX10_back_92 : decode cX10_back 92 = .ok (.iconst 0, 1) := by decide +kernel
theorem dX10_back_93 : decode cX10_back 93 = .ok (.aload_n 0, 1) := by decide +kernel
theorem dX10_back_94 : decode cX10_back 94 = .ok (.getfield 142, 3) := by decide +kernel
theorem dX10_back_97 : decode cX10_back 97 = .ok (.bipush 18, 2) := by decide +kernel
theorem dX10_back_99 : decode cX10_back 99 = .ok (.iaload, 1) := by decide +kernel
theorem dX10_back_100 : decode cX10_back 100 = .ok (.iconst 1, 1) := by decide +kernel
theorem dX10_back_101 : decode cX10_back 101 = .ok (.if_icmp .ne 7, 3) := by decide +kernel
theorem dX10_back_104 : decode cX10_back 104 = .ok (.iconst 1, 1) := by decide +kernel
theorem dX10_back_105 : decode cX10_back 105 = .ok (.goto 4, 3) := by decide +kernel
theorem dX10_back_108 : decode cX10_back 108 = .ok (.iconst 0, 1) := by decide +kernel
theorem dX10_back_109 : decode cX10_back 109 = .ok (.bastore, 1) := by decide +kernel
theorem dX10_back_110 : decode cX10_back 110 = .ok (.aload_n 0, 1) := by decide +kernel
theorem dX10_back_111 : decode cX10_back 111 = .ok (.getfield 121, 3) := by decide +kernel
theorem dX10_back_114 : decode cX10_back 114 = .ok (.iconst 0, 1) := by decide +kernel
theorem dX10_back_115 : decode cX10_back 115 = .ok (.aload_n 0, 1) := by decide +kernel
theorem dX10_back_116 : decode cX10_back 116 = .ok (.getfield 142, 3) := by decide +kernel
theorem dX10_back_119 : decode cX10_back 119 = .ok (.bipush 19, 2) := by decide +kernel
theorem dX10_back_121 : decode cX10_back 121 = .ok (.iaload, 1) := by decide +kernel
theorem dX10_back_122 : decode cX10_back 122 = .ok (.iastore, 1) := by decide +kernel
theorem dX10_back_123 : decode cX10_back 123 = .ok (.aload_n 0, 1) := by decide +kernel
theorem dX10_back_124 : decode cX10_back 124 = .ok (.getfield 124, 3) := by decide +kernel
theorem dX10_back_127 : decode cX10_back 127 = .ok (.iconst 0, 1) := by decide +kernel
theorem dX10_back_128 : decode cX10_back 128 = .ok (.aload_n 0, 1) := by decide +kernel
theorem dX10_back_129 : decode cX10_back 129 = .ok (.getfield 142, 3) := by decide +kernel
theorem dX10_back_132 : decode cX10_back 132 = .ok (.bipush 20, 2) := by decide +kernel
theorem dX10_back_134 : decode cX10_back 134 = .ok (.iaload, 1) := by decide +kernel
theorem dX10_back_135 : decode cX10_back 135 = .ok (.iastore, 1) := by decide +kernel
theorem dX10_back_136 : decode cX10_back 136 = .ok (.aload_n 0, 1) := by decide +kernel
theorem dX10_back_137 : decode cX10_back 137 = .ok (.aload_n 0, 1) := by decide +kernel
theorem dX10_back_138 : decode cX10_back 138 = .ok (.getfield 505, 3) := by decide +kernel
theorem dX10_back_141 : decode cX10_back 141 = .ok (.putfield 337, 3) := by decide +kernel
theorem dX10_back_144 : decode cX10_back 144 = .ok (.aload_n 0, 1) := by decide +kernel
theorem dX10_back_145 : decode cX10_back 145 = .ok (.iconst 0, 1) := by decide +kernel
theorem dX10_back_146 : decode cX10_back 146 = .ok (.putfield 347, 3) := by decide +kernel
theorem dX10_back_149 : decode cX10_back 149 = .ok (.aload_n 0, 1) := by decide +kernel
theorem dX10_back_150 : decode cX10_back 150 = .ok (.getfield 124, 3) := by decide +kernel
theorem dX10_back_153 : decode cX10_back 153 = .ok (.iconst 0, 1) := by decide +kernel
theorem dX10_back_154 : decode cX10_back 154 = .ok (.iaload, 1) := by decide +kernel
theorem dX10_back_155 : decode cX10_back 155 = .ok (.ireturn, 1) := by decide +kernel
theorem dX10_count_0 : decode cX10_count 0 = .ok (.aload_n 0, 1) := by decide +kernel
theorem dX10_count_1 : decode cX10_count 1 = .ok (.iconst 0, 1) := by decide +kernel
theorem dX10_count_2 : decode cX10_count 2 = .ok (.putfield 151, 3) := by decide +kernel
theorem dX10_count_5 : decode cX10_count 5 = .ok (.iload_n 1, 1) := by decide +kernel
theorem dX10_count_6 : decode cX10_count 6 = .ok (.tableswitch 152 0 12 #[66, 71, 76, 81, 88, 95, 102, 109, 124, 130, 137, 142, 147], 66) := by decide +kernel
theorem dX10_count_72 : decode cX10_count 72 = .ok (.aload_n 0, 1) := by decide +kernel
theorem dX10_count_73 : decode cX10_count 73 = .ok (.getfield 225, 3) := by decide +kernel
theorem dX10_count_76 : decode cX10_count 76 = .ok (.ireturn, 1) := by decide +kernel
theorem dX10_count_77 : decode cX10_count 77 = .ok (.aload_n 0, 1) := by decide +kernel
theorem dX10_count_78 : decode cX10_count 78 = .ok (.getfield 228, 3) := by decide +kernel
theorem dX10_count_81 : decode cX10_count 81 = .ok (.ireturn, 1) := by decide +kernel
theorem dX10_count_82 : decode cX10_count 82 = .ok (.aload_n 0, 1) := by decide +kernel
theorem dX10_count_83 : decode cX10_count 83 = .ok (.getfield 231, 3) := by decide +kernel
theorem dX10_count_86 : decode cX10_count 86 = .ok (.ireturn, 1) := by decide +kernel
theorem dX10_count_87 : decode cX10_count 87 = .ok (.aload_n 0, 1) := by decide +kernel
theorem dX10_count_88 : decode cX10_count 88 = .ok (.getfield 124, 3) := by decide +kernel
theorem dX10_count_91 : decode cX10_count 91 = .ok (.iconst 0, 1) := by decide +kernel
theorem dX10_count_92 : decode cX10_count 92 = .ok (.iaload, 1) := by decide +kernel
theorem dX10_count_93 : decode cX10_count 93 = .ok (.ireturn, 1) := by decide +kernel
theorem dX10_count_94 : decode cX10_count 94 = .ok (.aload_n 0, 1) := by decide +kernel
theorem dX10_count_95 : decode cX10_count 95 = .ok (.getfield 109, 3) := by decide +kernel
theorem dX10_count_98 : decode cX10_count 98 = .ok (.iconst 0, 1) := by decide +kernel
theorem dX10_count_99 : decode cX10_count 99 = .ok (.iaload, 1) := by decide +kernel
theorem dX10_count_100 : decode cX10_count 100 = .ok (.ireturn, 1) := by decide +kernel
theorem dX10_count_101 : decode cX10_count 101 = .ok (.aload_n 0, 1) := by decide +kernel
theorem dX10_count_102 : decode cX10_count 102 = .ok (.getfield 112, 3) := by decide +kernel
theorem dX10_count_105 : decode cX10_count 105 = .ok (.iconst 0, 1) := by decide +kernel
theorem dX10_count_106 : decode cX10_count 106 = .ok (.iaload, 1) := by decide +kernel
theorem dX10_count_107 : decode cX10_count 107 = .ok (.ireturn, 1) := by decide +kernel
theorem dX10_count_108 : decode cX10_count 108 = .ok (.aload_n 0, 1) := by decide +kernel
theorem dX10_count_109 : decode cX10_count 109 = .ok (.getfield 115, 3) := by decide +kernel
theorem dX10_count_112 : decode cX10_count 112 = .ok (.iconst 0, 1) := by decide +kernel
theorem dX10_count_113 : decode cX10_count 113 = .ok (.iaload, 1) := by decide +kernel
theorem dX10_count_114 : decode cX10_count 114 = .ok (.ireturn, 1) := by decide +kernel
theorem dX10_count_115 : decode cX10_count 115 = .ok (.aload_n 0, 1) := by decide +kernel
theorem dX10_count_116 : decode cX10_count 116 = .ok (.getfield 118, 3) := by decide +kernel
theorem dX10_count_119 : decode cX10_count 119 = .ok (.iconst 0, 1) := by decide +kernel
theorem dX10_count_120 : decode cX10_count 120 = .ok (.baload, 1) := by decide +kernel
theorem dX10_count_121 : decode cX10_count 121 = .ok (.ifCond .eq 7, 3) := by decide +kernel
theorem dX10_count_124 : decode cX10_count 124 = .ok (.iconst 1, 1) := by decide +kernel
theorem dX10_count_125 : decode cX10_count 125 = .ok (.goto 4, 3) := by decide +kernel
theorem dX10_count_128 : decode cX10_count 128 = .ok (.iconst 0, 1) := by decide +kernel
theorem dX10_count_129 : decode cX10_count 129 = .ok (.ireturn, 1) := by decide +kernel
theorem dX10_count_130 : decode cX10_count 130 = .ok (.aload_n 0, 1) := by decide +kernel
theorem dX10_count_131 : decode cX10_count 131 = .ok (.iconst 0, 1) := by decide +kernel
theorem dX10_count_132 : decode cX10_count 132 = .ok (.invokevirtual 459, 3) := by decide +kernel
theorem dX10_count_135 : decode cX10_count 135 = .ok (.ireturn, 1) := by decide +kernel
theorem dX10_count_136 : decode cX10_count 136 = .ok (.aload_n 0, 1) := by decide +kernel
theorem dX10_count_137 : decode cX10_count 137 = .ok (.getfield 121, 3) := by decide +kernel
theorem dX10_count_140 : decode cX10_count 140 = .ok (.iconst 0, 1) := by decide +kernel
theorem dX10_count_141 : decode cX10_count 141 = .ok (.iaload, 1) := by decide +kernel
theorem dX10_count_142 : decode cX10_count 142 = .ok (.ireturn, 1) := by decide +kernel
theorem dX10_count_143 : decode cX10_count 143 = .ok (.aload_n 0, 1) := by decide +kernel
theorem dX10_count_144 : decode cX10_count 144 = .ok (.getfield 344, 3) := by decide +kernel
theorem dX10_count_147 : decode cX10_count 147 = .ok (.ireturn, 1) := by decide +kernel
theorem dX10_count_148 : decode cX10_count 148 = .ok (.aload_n 0, 1) := by decide +kernel
theorem dX10_count_149 : decode cX10_count 149 = .ok (.invokevirtual 490, 3) := by decide +kernel
theorem dX10_count_152 : decode cX10_count 152 = .ok (.ireturn, 1) := by decide +kernel
theorem dX10_count_153 : decode cX10_count 153 = .ok (.aload_n 0, 1) := by decide +kernel
theorem dX10_count_154 : decode cX10_count 154 = .ok (.getfield 347, 3) := by decide +kernel
theorem dX10_count_157 : decode cX10_count 157 = .ok (.ireturn, 1) := by decide +kernel
theorem dX10_count_158 : decode cX10_count 158 = .ok (.iconst (-1), 1) := by decide +kernel
theorem dX10_count_159 : decode cX10_count 159 = .ok (.ireturn, 1) := by decide +kernel
