theorem dX7_init_0 : decode cX7_init 0 = .ok (.aload_n 0, 1) := by decide +kernel
theorem dX7_init_1 : decode cX7_init 1 = .ok (.invokespecial 3, 3) := by decide +kernel
theorem dX7_init_4 : decode cX7_init 4 = .ok (.aload_n 0, 1) := by decide +kernel
theorem dX7_init_5 : decode cX7_init 5 = .ok (.aload_n 1, 1) := by decide +kernel
theorem dX7_init_6 : decode cX7_init 6 = .ok (.putfield 9, 3) := by decide +kernel
theorem dX7_init_9 : decode cX7_init 9 = .ok (.return_, 1) := by decide +kernel
theorem dX7_start_0 : decode cX7_start 0 = .ok (.aload_n 0, 1) := by decide +kernel
theorem dX7_start_1 : decode cX7_start 1 = .ok (.iload_n 1, 1) := by decide +kernel
theorem dX7_start_2 : decode cX7_start 2 = .ok (.aload_n 0, 1) := by decide +kernel
theorem dX7_start_3 : decode cX7_start 3 = .ok (.getfield 9, 3) := by decide +kernel
theorem dX7_start_6 : decode cX7_start 6 = .ok (.arraylength, 1) := by decide +kernel
theorem dX7_start_7 : decode cX7_start 7 = .ok (.invokestatic 15, 3) := by decide +kernel
theorem dX7_start_10 : decode cX7_start 10 = .ok (.putfield 21, 3) := by decide +kernel
theorem dX7_start_13 : decode cX7_start 13 = .ok (.aload_n 0, 1) := by decide +kernel
theorem dX7_start_14 : decode cX7_start 14 = .ok (.iconst 0, 1) := by decide +kernel
theorem dX7_start_15 : decode cX7_start 15 = .ok (.putfield 25, 3) := by decide +kernel
theorem dX7_start_18 : decode cX7_start 18 = .ok (.aload_n 0, 1) := by decide +kernel
theorem dX7_start_19 : decode cX7_start 19 = .ok (.invokevirtual 28, 3) := by decide +kernel
theorem dX7_start_22 : decode cX7_start 22 = .ok (.return_, 1) := by decide +kernel
theorem dX7_advance_0 : decode cX7_advance 0 = .ok (.aload_n 0, 1) := by decide +kernel
theorem dX7_advance_1 : decode cX7_advance 1 = .ok (.getfield 25, 3) := by decide +kernel
theorem dX7_advance_4 : decode cX7_advance 4 = .ok (.aload_n 0, 1) := by decide +kernel
theorem dX7_advance_5 : decode cX7_advance 5 = .ok (.getfield 21, 3) := by decide +kernel
theorem dX7_advance_8 : decode cX7_advance 8 = .ok (.if_icmp .ge 44, 3) := by decide +kernel
theorem dX7_advance_11 : decode cX7_advance 11 = .ok (.aload_n 0, 1) := by decide +kernel
theorem dX7_advance_12 : decode cX7_advance 12 = .ok (.getfield 9, 3) := by decide +kernel
theorem dX7_advance_15 : decode cX7_advance 15 = .ok (.aload_n 0, 1) := by decide +kernel
theorem dX7_advance_16 : decode cX7_advance 16 = .ok (.getfield 25, 3) := by decide +kernel
theorem dX7_advance_19 : decode cX7_advance 19 = .ok (.baload, 1) := by decide +kernel
theorem dX7_advance_20 : decode cX7_advance 20 = .ok (.bipush 32, 2) := by decide +kernel
theorem dX7_advance_22 : decode cX7_advance 22 = .ok (.if_icmp .eq 17, 3) := by decide +kernel
theorem dX7_advance_25 : decode cX7_advance 25 = .ok (.aload_n 0, 1) := by decide +kernel
theorem dX7_advance_26 : decode cX7_advance 26 = .ok (.getfield 9, 3) := by decide +kernel
theorem dX7_advance_29 : decode cX7_advance 29 = .ok (.aload_n 0, 1) := by decide +kernel
theorem dX7_advance_30 : decode cX7_advance 30 = .ok (.getfield 25, 3) := by decide +kernel
theorem dX7_advance_33 : decode cX7_advance 33 = .ok (.baload, 1) := by decide +kernel
theorem dX7_advance_34 : decode cX7_advance 34 = .ok (.bipush 10, 2) := by decide +kernel
theorem dX7_advance_36 : decode cX7_advance 36 = .ok (.if_icmp .ne 16, 3) := by decide +kernel
theorem dX7_advance_39 : decode cX7_advance 39 = .ok (.aload_n 0, 1) := by decide +kernel
theorem dX7_advance_40 : decode cX7_advance 40 = .ok (.dup, 1) := by decide +kernel
theorem dX7_advance_41 : decode cX7_advance 41 = .ok (.getfield 25, 3) := by decide +kernel
theorem dX7_advance_44 : decode cX7_advance 44 = .ok (.iconst 1, 1) := by decide +kernel
theorem dX7_advance_45 : decode cX7_advance 45 = .ok (.iadd, 1) := by decide +kernel
theorem dX7_advance_46 : decode cX7_advance 46 = .ok (.putfield 25, 3) := by decide +kernel
theorem dX7_advance_49 : decode cX7_advance 49 = .ok (.goto (-49), 3) := by decide +kernel
theorem dX7_advance_52 : decode cX7_advance 52 = .ok (.aload_n 0, 1) := by decide +kernel
theorem dX7_advance_53 : decode cX7_advance 53 = .ok (.aload_n 0, 1) := by decide +kernel
theorem dX7_advance_54 : decode cX7_advance 54 = .ok (.getfield 25, 3) := by decide +kernel
theorem dX7_advance_57 : decode cX7_advance 57 = .ok (.putfield 31, 3) := by decide +kernel
theorem dX7_advance_60 : decode cX7_advance 60 = .ok (.aload_n 0, 1) := by decide +kernel
theorem dX7_advance_61 : decode cX7_advance 61 = .ok (.iconst 0, 1) := by decide +kernel
theorem dX7_advance_62 : decode cX7_advance 62 = .ok (.putfield 34, 3) := by decide +kernel
theorem dX7_advance_65 : decode cX7_advance 65 = .ok (.aload_n 0, 1) := by decide +kernel
theorem dX7_advance_66 : decode cX7_advance 66 = .ok (.getfield 25, 3) := by decide +kernel
theorem dX7_advance_69 : decode cX7_advance 69 = .ok (.aload_n 0, 1) := by decide +kernel
theorem dX7_advance_70 : decode cX7_advance 70 = .ok (.getfield 21, 3) := by decide +kernel
theorem dX7_advance_73 : decode cX7_advance 73 = .ok (.if_icmp .lt 12, 3) := by decide +kernel
theorem dX7_advance_76 : decode cX7_advance 76 = .ok (.aload_n 0, 1) := by decide +kernel
theorem dX7_advance_77 : decode cX7_advance 77 = .ok (.bipush 21, 2) := by decide +kernel
theorem dX7_advance_79 : decode cX7_advance 79 = .ok (.putfield 37, 3) := by decide +kernel
theorem dX7_advance_82 : decode cX7_advance 82 = .ok (.goto 60, 3) := by decide +kernel
theorem dX7_advance_85 : decode cX7_advance 85 = .ok (.aload_n 0, 1) := by decide +kernel
theorem dX7_advance_86 : decode cX7_advance 86 = .ok (.getfield 9, 3) := by decide +kernel
theorem dX7_advance_89 : decode cX7_advance 89 = .ok (.aload_n 0, 1) := by decide +kernel
theorem dX7_advance_90 : decode cX7_advance 90 = .ok (.getfield 25, 3) := by decide +kernel
theorem dX7_advance_93 : decode cX7_advance 93 = .ok (.baload, 1) := by decide +kernel
theorem dX7_advance_94 : decode cX7_advance 94 = .ok (.invokestatic 40, 3) := by decide +kernel
theorem dX7_advance_97 : decode cX7_advance 97 = .ok (.ifCond .eq 10, 3) := by decide +kernel
theorem dX7_advance_100 : decode cX7_advance 100 = .ok (.aload_n 0, 1) := by decide +kernel
theorem dX7_advance_101 : decode cX7_advance 101 = .ok (.invokevirtual 44, 3) := by decide +kernel
theorem dX7_advance_104 : decode cX7_advance 104 = .ok (.goto 38, 3) := by decide +kernel
theorem dX7_advance_107 : decode cX7_advance 107 = .ok (.aload_n 0, 1) := by decide +kernel
theorem dX7_advance_108 : decode cX7_advance 108 = .ok (.getfield 9, 3) := by decide +kernel
theorem dX7_advance_111 : decode cX7_advance 111 = .ok (.aload_n 0, 1) := by decide +kernel
theorem dX7_advance_112 : decode cX7_advance 112 = .ok (.getfield 25, 3) := by decide +kernel
theorem dX7_advance_115 : decode cX7_advance 115 = .ok (.baload, 1) := by decide +kernel
theorem dX7_advance_116 : decode cX7_advance 116 = .ok (.invokestatic 47, 3) := by decide +kernel
theorem dX7_advance_119 : decode cX7_advance 119 = .ok (.ifCond .eq 10, 3) := by decide +kernel
theorem dX7_advance_122 : decode cX7_advance 122 = .ok (.aload_n 0, 1) := by decide +kernel
theorem dX7_advance_123 : decode cX7_advance 123 = .ok (.invokevirtual 50, 3) := by decide +kernel
theorem dX7_advance_126 : decode cX7_advance 126 = .ok (.goto 16, 3) := by decide +kernel
theorem dX7_advance_129 : decode cX7_advance 129 = .ok (.aload_n 0, 1) := by decide +kernel
theorem dX7_advance_130 : decode cX7_advance 130 = .ok (.aload_n 0, 1) := by decide +kernel
theorem dX7_advance_131 : decode cX7_advance 131 = .ok (.getfield 9, 3) := by decide +kernel
theorem dX7_advance_134 : decode cX7_advance 134 = .ok (.aload_n 0, 1) := by decide +kernel
theorem dX7_advance_135 : decode cX7_advance 135 = .ok (.getfield 25, 3) := by decide +kernel
theorem dX7_advance_138 : decode cX7_advance 138 = .ok (.baload, 1) := by decide +kernel
theorem dX7_advance_139 : decode cX7_advance 139 = .ok (.invokevirtual 53, 3) := by decide +kernel
theorem dX7_advance_142 : decode cX7_advance 142 = .ok (.return_, 1) := by decide +kernel
theorem dX7_isLetter_0 : decode cX7_isLetter 0 = .ok (.iload_n 0, 1) := by decide +kernel
theorem dX7_isLetter_1 : decode cX7_isLetter 1 = .ok (.bipush 97, 2) := by decide +kernel
theorem dX7_isLetter_3 : decode cX7_isLetter 3 = .ok (.if_icmp .lt 13, 3) := by decide +kernel
theorem dX7_isLetter_6 : decode cX7_isLetter 6 = .ok (.iload_n 0, 1) := by decide +kernel
theorem dX7_isLetter_7 : decode cX7_isLetter 7 = .ok (.bipush 122, 2) := by decide +kernel
theorem dX7_isLetter_9 : decode cX7_isLetter 9 = .ok (.if_icmp .gt 7, 3) := by decide +kernel
theorem dX7_isLetter_12 : decode cX7_isLetter 12 = .ok (.iconst 1, 1) := by decide +kernel
theorem dX7_isLetter_13 : decode cX7_isLetter 13 = .ok (.goto 4, 3) := by decide +kernel
theorem dX7_isLetter_16 : decode cX7_isLetter 16 = .ok (.iconst 0, 1) := by decide +kernel
theorem dX7_isLetter_17 : decode cX7_isLetter 17 = .ok (.ireturn, 1) := by decide +kernel
theorem dX7_isDigit_0 : decode cX7_isDigit 0 = .ok (.iload_n 0, 1) := by decide +kernel
theorem dX7_isDigit_1 : decode cX7_isDigit 1 = .ok (.bipush 48, 2) := by decide +kernel
theorem dX7_isDigit_3 : decode cX7_isDigit 3 = .ok (.if_icmp .lt 13, 3) := by decide +kernel
theorem dX7_isDigit_6 : decode cX7_isDigit 6 = .ok (.iload_n 0, 1) := by decide +kernel
theorem dX7_isDigit_7 : decode cX7_isDigit 7 = .ok (.bipush 57, 2) := by decide +kernel
theorem dX7_isDigit_9 : decode cX7_isDigit 9 = .ok (.if_icmp .gt 7, 3) := by decide +kernel
theorem dX7_isDigit_12 : decode cX7_isDigit 12 = .ok (.iconst 1, 1) := by decide +kernel
theorem dX7_isDigit_13 : decode cX7_isDigit 13 = .ok (.goto 4, 3) := by decide +kernel
theorem dX7_isDigit_16 : decode cX7_isDigit 16 = .ok (.iconst 0, 1) := by decide +kernel
theorem dX7_isDigit_17 : decode cX7_isDigit 17 = .ok (.ireturn, 1) := by decide +kernel
theorem dX7_readWord_0 : decode cX7_readWord 0 = .ok (.iconst 0, 1) := by decide +kernel
theorem dX7_readWord_1 : decode cX7_readWord 1 = .ok (.istore_n 1, 1) := by decide +kernel
theorem dX7_readWord_2 : decode cX7_readWord 2 = .ok (.aload_n 0, 1) := by decide +kernel
theorem dX7_readWord_3 : decode cX7_readWord 3 = .ok (.getfield 25, 3) := by decide +kernel
theorem dX7_readWord_6 : decode cX7_readWord 6 = .ok (.aload_n 0, 1) := by decide +kernel
theorem dX7_readWord_7 : decode cX7_readWord 7 = .ok (.getfield 21, 3) := by decide +kernel
theorem dX7_readWord_10 : decode cX7_readWord 10 = .ok (.if_icmp .ge 70, 3) := by decide +kernel
theorem dX7_readWord_13 : decode cX7_readWord 13 = .ok (.aload_n 0, 1) := by decide +kernel
theorem dX7_readWord_14 : decode cX7_readWord 14 = .ok (.getfield 9, 3) := by decide +kernel
theorem dX7_readWord_17 : decode cX7_readWord 17 = .ok (.aload_n 0, 1) := by decide +kernel
theorem dX7_readWord_18 : decode cX7_readWord 18 = .ok (.getfield 25, 3) := by decide +kernel
theorem dX7_readWord_21 : decode cX7_readWord 21 = .ok (.baload, 1) := by decide +kernel
theorem dX7_readWord_22 : decode cX7_readWord 22 = .ok (.invokestatic 40, 3) := by decide +kernel
theorem dX7_readWord_25 : decode cX7_readWord 25 = .ok (.ifCond .eq 55, 3) := by decide +kernel
theorem dX7_readWord_28 : decode cX7_readWord 28 = .ok (.iload_n 1, 1) := by decide +kernel
theorem dX7_readWord_29 : decode cX7_readWord 29 = .ok (.bipush 6, 2) := by decide +kernel
theorem dX7_readWord_31 : decode cX7_readWord 31 = .ok (.if_icmp .ge 33, 3) := by decide +kernel
theorem dX7_readWord_34 : decode cX7_readWord 34 = .ok (.aload_n 0, 1) := by decide +kernel
theorem dX7_readWord_35 : decode cX7_readWord 35 = .ok (.dup, 1) := by decide +kernel
theorem dX7_readWord_36 : decode cX7_readWord 36 = .ok (.getfield 34, 3) := by decide +kernel
theorem dX7_readWord_39 : decode cX7_readWord 39 = .ok (.aload_n 0, 1) := by decide +kernel
theorem dX7_readWord_40 : decode cX7_readWord 40 = .ok (.getfield 9, 3) := by decide +kernel
theorem dX7_readWord_43 : decode cX7_readWord 43 = .ok (.aload_n 0, 1) := by decide +kernel
theorem dX7_readWord_44 : decode cX7_readWord 44 = .ok (.getfield 25, 3) := by decide +kernel
theorem dX7_readWord_47 : decode cX7_readWord 47 = .ok (.baload, 1) := by decide +kernel
theorem dX7_readWord_48 : decode cX7_readWord 48 = .ok (.bipush 97, 2) := by decide +kernel
theorem dX7_readWord_50 : decode cX7_readWord 50 = .ok (.isub, 1) := by decide +kernel
theorem dX7_readWord_51 : decode cX7_readWord 51 = .ok (.iconst 1, 1) := by decide +kernel
theorem dX7_readWord_52 : decode cX7_readWord 52 = .ok (.iadd, 1) := by decide +kernel
theorem dX7_readWord_53 : decode cX7_readWord 53 = .ok (.bipush 25, 2) := by decide +kernel
theorem dX7_readWord_55 : decode cX7_readWord 55 = .ok (.iconst 5, 1) := by decide +kernel
theorem dX7_readWord_56 : decode cX7_readWord 56 = .ok (.iload_n 1, 1) := by decide +kernel
theorem dX7_readWord_57 : decode cX7_readWord 57 = .ok (.imul, 1) := by decide +kernel
theorem dX7_readWord_58 : decode cX7_readWord 58 = .ok (.isub, 1) := by decide +kernel
theorem dX7_readWord_59 : decode cX7_readWord 59 = .ok (.ishl, 1) := by decide +kernel
theorem dX7_readWord_60 : decode cX7_readWord 60 = .ok (.ior, 1) := by decide +kernel
theorem dX7_readWord_61 : decode cX7_readWord 61 = .ok (.putfield 34, 3) := by decide +kernel
theorem dX7_readWord_64 : decode cX7_readWord 64 = .ok (.iinc 1 1, 3) := by decide +kernel
theorem dX7_readWord_67 : decode cX7_readWord 67 = .ok (.aload_n 0, 1) := by decide +kernel
theorem dX7_readWord_68 : decode cX7_readWord 68 = .ok (.dup, 1) := by decide +kernel
theorem dX7_readWord_69 : decode cX7_readWord 69 = .ok (.getfield 25, 3) := by decide +kernel
theorem dX7_readWord_72 : decode cX7_readWord 72 = .ok (.iconst 1, 1) := by decide +kernel
theorem dX7_readWord_73 : decode cX7_readWord 73 = .ok (.iadd, 1) := by decide +kernel
theorem dX7_readWord_74 : decode cX7_readWord 74 = .ok (.putfield 25, 3) := by decide +kernel
theorem dX7_readWord_77 : decode cX7_readWord 77 = .ok (.goto (-75), 3) := by decide +kernel
theorem dX7_readWord_80 : decode cX7_readWord 80 = .ok (.iload_n 1, 1) := by decide +kernel
theorem dX7_readWord_81 : decode cX7_readWord 81 = .ok (.bipush 6, 2) := by decide +kernel
theorem dX7_readWord_83 : decode cX7_readWord 83 = .ok (.if_icmp .le 7, 3) := by decide +kernel
theorem dX7_readWord_86 : decode cX7_readWord 86 = .ok (.iconst (-1), 1) := by decide +kernel
theorem dX7_readWord_87 : decode cX7_readWord 87 = .ok (.goto 17, 3) := by decide +kernel
theorem dX7_readWord_90 : decode cX7_readWord 90 = .ok (.aload_n 0, 1) := by decide +kernel
theorem dX7_readWord_91 : decode cX7_readWord 91 = .ok (.getfield 34, 3) := by decide +kernel
theorem dX7_readWord_94 : decode cX7_readWord 94 = .ok (.getstatic 57, 3) := by decide +kernel
theorem dX7_readWord_97 : decode cX7_readWord 97 = .ok (.getstatic 57, 3) := by decide +kernel
theorem dX7_readWord_100 : decode cX7_readWord 100 = .ok (.arraylength, 1) := by decide +kernel
theorem dX7_readWord_101 : decode cX7_readWord 101 = .ok (.invokestatic 61, 3) := by decide +kernel
theorem dX7_readWord_104 : decode cX7_readWord 104 = .ok (.istore_n 2, 1) := by decide +kernel
theorem dX7_readWord_105 : decode cX7_readWord 105 = .ok (.iload_n 2, 1) := by decide +kernel
theorem dX7_readWord_106 : decode cX7_readWord 106 = .ok (.iconst (-1), 1) := by decide +kernel
theorem dX7_readWord_107 : decode cX7_readWord 107 = .ok (.if_icmp .eq 11, 3) := by decide +kernel
theorem dX7_readWord_110 : decode cX7_readWord 110 = .ok (.aload_n 0, 1) := by decide +kernel
theorem dX7_readWord_111 : decode cX7_readWord 111 = .ok (.iload_n 2, 1) := by decide +kernel
theorem dX7_readWord_112 : decode cX7_readWord 112 = .ok (.putfield 37, 3) := by decide +kernel
theorem dX7_readWord_115 : decode cX7_readWord 115 = .ok (.goto 20, 3) := by decide +kernel
theorem dX7_readWord_118 : decode cX7_readWord 118 = .ok (.aload_n 0, 1) := by decide +kernel
theorem dX7_readWord_119 : decode cX7_readWord 119 = .ok (.iload_n 1, 1) := by decide +kernel
theorem dX7_readWord_120 : decode cX7_readWord 120 = .ok (.bipush 6, 2) := by decide +kernel
theorem dX7_readWord_122 : decode cX7_readWord 122 = .ok (.if_icmp .le 8, 3) := by decide +kernel
theorem dX7_readWord_125 : decode cX7_readWord 125 = .ok (.bipush 22, 2) := by decide +kernel
theorem dX7_readWord_127 : decode cX7_readWord 127 = .ok (.goto 5, 3) := by decide +kernel
theorem dX7_readWord_130 : decode cX7_readWord 130 = .ok (.bipush 19, 2) := by decide +kernel
theorem dX7_readWord_132 : decode cX7_readWord 132 = .ok (.putfield 37, 3) := by decide +kernel
theorem dX7_readWord_135 : decode cX7_readWord 135 = .ok (.return_, 1) := by decide +kernel
theorem dX7_readNumber_0 : decode cX7_readNumber 0 = .ok (.aload_n 0, 1) := by decide +kernel
theorem dX7_readNumber_1 : decode cX7_readNumber 1 = .ok (.bipush 20, 2) := by decide +kernel
theorem dX7_readNumber_3 : decode cX7_readNumber 3 = .ok (.putfield 37, 3) := by decide +kernel
theorem dX7_readNumber_6 : decode cX7_readNumber 6 = .ok (.aload_n 0, 1) := by decide +kernel
theorem dX7_readNumber_7 : decode cX7_readNumber 7 = .ok (.getfield 25, 3) := by decide +kernel
theorem dX7_readNumber_10 : decode cX7_readNumber 10 = .ok (.aload_n 0, 1) := by decide +kernel
theorem dX7_readNumber_11 : decode cX7_readNumber 11 = .ok (.getfield 21, 3) := by decide +kernel
theorem dX7_readNumber_14 : decode cX7_readNumber 14 = .ok (.if_icmp .ge 60, 3) := by decide +kernel
theorem dX7_readNumber_17 : decode cX7_readNumber 17 = .ok (.aload_n 0, 1) := by decide +kernel
theorem dX7_readNumber_18 : decode cX7_readNumber 18 = .ok (.getfield 9, 3) := by decide +kernel
theorem dX7_readNumber_21 : decode cX7_readNumber 21 = .ok (.aload_n 0, 1) := by decide +kernel
theorem dX7_readNumber_22 : decode cX7_readNumber 22 = .ok (.getfield 25, 3) := by decide +kernel
theorem dX7_readNumber_25 : decode cX7_readNumber 25 = .ok (.baload, 1) := by decide +kernel
theorem dX7_readNumber_26 : decode cX7_readNumber 26 = .ok (.invokestatic 47, 3) := by decide +kernel
theorem dX7_readNumber_29 : decode cX7_readNumber 29 = .ok (.ifCond .eq 45, 3) := by decide +kernel
theorem dX7_readNumber_32 : decode cX7_readNumber 32 = .ok (.aload_n 0, 1) := by decide +kernel
theorem dX7_readNumber_33 : decode cX7_readNumber 33 = .ok (.ldc 65, 2) := by decide +kernel
theorem dX7_readNumber_35 : decode cX7_readNumber 35 = .ok (.bipush 10, 2) := by decide +kernel
theorem dX7_readNumber_37 : decode cX7_readNumber 37 = .ok (.aload_n 0, 1) := by decide +kernel
theorem dX7_readNumber_38 : decode cX7_readNumber 38 = .ok (.getfield 34, 3) := by decide +kernel
theorem dX7_readNumber_41 : decode cX7_readNumber 41 = .ok (.imul, 1) := by decide +kernel
theorem dX7_readNumber_42 : decode cX7_readNumber 42 = .ok (.aload_n 0, 1) := by decide +kernel
theorem dX7_readNumber_43 : decode cX7_readNumber 43 = .ok (.getfield 9, 3) := by decide +kernel
theorem dX7_readNumber_46 : decode cX7_readNumber 46 = .ok (.aload_n 0, 1) := by decide +kernel
theorem dX7_readNumber_47 : decode cX7_readNumber 47 = .ok (.getfield 25, 3) := by decide +kernel
theorem dX7_readNumber_50 : decode cX7_readNumber 50 = .ok (.baload, 1) := by decide +kernel
theorem dX7_readNumber_51 : decode cX7_readNumber 51 = .ok (.iadd, 1) := by decide +kernel
theorem dX7_readNumber_52 : decode cX7_readNumber 52 = .ok (.bipush 48, 2) := by decide +kernel
theorem dX7_readNumber_54 : decode cX7_readNumber 54 = .ok (.isub, 1) := by decide +kernel
theorem dX7_readNumber_55 : decode cX7_readNumber 55 = .ok (.invokestatic 15, 3) := by decide +kernel
theorem dX7_readNumber_58 : decode cX7_readNumber 58 = .ok (.putfield 34, 3) := by decide +kernel
theorem dX7_readNumber_61 : decode cX7_readNumber 61 = .ok (.aload_n 0, 1) := by decide +kernel
theorem dX7_readNumber_62 : decode cX7_readNumber 62 = .ok (.dup, 1) := by decide +kernel
theorem dX7_readNumber_63 : decode cX7_readNumber 63 = .ok (.getfield 25, 3) := by decide +kernel
theorem dX7_readNumber_66 : decode cX7_readNumber 66 = .ok (.iconst 1, 1) := by decide +kernel
theorem dX7_readNumber_67 : decode cX7_readNumber 67 = .ok (.iadd, 1) := by decide +kernel
theorem dX7_readNumber_68 : decode cX7_readNumber 68 = .ok (.putfield 25, 3) := by decide +kernel
theorem dX7_readNumber_71 : decode cX7_readNumber 71 = .ok (.goto (-65), 3) := by decide +kernel
theorem dX7_readNumber_74 : decode cX7_readNumber 74 = .ok (.return_, 1) := by decide +kernel
theorem dX7_readSign_0 : decode cX7_readSign 0 = .ok (.aload_n 0, 1) := by decide +kernel
theorem dX7_readSign_1 : decode cX7_readSign 1 = .ok (.iload_n 1, 1) := by decide +kernel
theorem dX7_readSign_2 : decode cX7_readSign 2 = .ok (.invokestatic 66, 3) := by decide +kernel
theorem dX7_readSign_5 : decode cX7_readSign 5 = .ok (.putfield 37, 3) := by decide +kernel
theorem dX7_readSign_8 : decode cX7_readSign 8 = .ok (.aload_n 0, 1) := by decide +kernel
theorem dX7_readSign_9 : decode cX7_readSign 9 = .ok (.dup, 1) := by decide +kernel
theorem dX7_readSign_10 : decode cX7_readSign 10 = .ok (.getfield 25, 3) := by decide +kernel
theorem dX7_readSign_13 : decode cX7_readSign 13 = .ok (.iconst 1, 1) := by decide +kernel
theorem dX7_readSign_14 : decode cX7_readSign 14 = .ok (.iadd, 1) := by decide +kernel
theorem dX7_readSign_15 : decode cX7_readSign 15 = .ok (.putfield 25, 3) := by decide +kernel
theorem dX7_readSign_18 : decode cX7_readSign 18 = .ok (.aload_n 0, 1) := by decide +kernel
theorem dX7_readSign_19 : decode cX7_readSign 19 = .ok (.getfield 37, 3) := by decide +kernel
theorem dX7_readSign_22 : decode cX7_readSign 22 = .ok (.bipush 26, 2) := by decide +kernel
theorem dX7_readSign_24 : decode cX7_readSign 24 = .ok (.if_icmp .ne 31, 3) := by decide +kernel
theorem dX7_readSign_27 : decode cX7_readSign 27 = .ok (.aload_n 0, 1) := by decide +kernel
theorem dX7_readSign_28 : decode cX7_readSign 28 = .ok (.bipush 61, 2) := by decide +kernel
theorem dX7_readSign_30 : decode cX7_readSign 30 = .ok (.invokevirtual 70, 3) := by decide +kernel
theorem dX7_readSign_33 : decode cX7_readSign 33 = .ok (.ifCond .eq 22, 3) := by decide +kernel
theorem dX7_readSign_36 : decode cX7_readSign 36 = .ok (.aload_n 0, 1) := by decide +kernel
theorem dX7_readSign_37 : decode cX7_readSign 37 = .ok (.bipush 27, 2) := by decide +kernel
theorem dX7_readSign_39 : decode cX7_readSign 39 = .ok (.putfield 37, 3) := by decide +kernel
theorem dX7_readSign_42 : decode cX7_readSign 42 = .ok (.aload_n 0, 1) := by decide +kernel
theorem dX7_readSign_43 : decode cX7_readSign 43 = .ok (.dup, 1) := by decide +kernel
theorem dX7_readSign_44 : decode cX7_readSign 44 = .ok (.getfield 25, 3) := by decide +kernel
theorem dX7_readSign_47 : decode cX7_readSign 47 = .ok (.iconst 1, 1) := by decide +kernel
theorem dX7_readSign_48 : decode cX7_readSign 48 = .ok (.iadd, 1) := by decide +kernel
theorem dX7_readSign_49 : decode cX7_readSign 49 = .ok (.putfield 25, 3) := by decide +kernel
theorem dX7_readSign_52 : decode cX7_readSign 52 = .ok (.goto 74, 3) := by decide +kernel
theorem dX7_readSign_55 : decode cX7_readSign 55 = .ok (.aload_n 0, 1) := by decide +kernel
theorem dX7_readSign_56 : decode cX7_readSign 56 = .ok (.getfield 37, 3) := by decide +kernel
theorem dX7_readSign_59 : decode cX7_readSign 59 = .ok (.bipush 26, 2) := by decide +kernel
theorem dX7_readSign_61 : decode cX7_readSign 61 = .ok (.if_icmp .ne 31, 3) := by decide +kernel
theorem dX7_readSign_64 : decode cX7_readSign 64 = .ok (.aload_n 0, 1) := by decide +kernel
theorem dX7_readSign_65 : decode cX7_readSign 65 = .ok (.bipush 62, 2) := by decide +kernel
theorem dX7_readSign_67 : decode cX7_readSign 67 = .ok (.invokevirtual 70, 3) := by decide +kernel
theorem dX7_readSign_70 : decode cX7_readSign 70 = .ok (.ifCond .eq 22, 3) := by decide +kernel
theorem dX7_readSign_73 : decode cX7_readSign 73 = .ok (.aload_n 0, 1) := by decide +kernel
theorem dX7_readSign_74 : decode cX7_readSign 74 = .ok (.bipush 29, 2) := by decide +kernel
theorem dX7_readSign_76 : decode cX7_readSign 76 = .ok (.putfield 37, 3) := by decide +kernel
theorem dX7_readSign_79 : decode cX7_readSign 79 = .ok (.aload_n 0, 1) := by decide +kernel
theorem dX7_readSign_80 : decode cX7_readSign 80 = .ok (.dup, 1) := by decide +kernel
theorem dX7_readSign_81 : decode cX7_readSign 81 = .ok (.getfield 25, 3) := by decide +kernel
theorem dX7_readSign_84 : decode cX7_readSign 84 = .ok (.iconst 1, 1) := by decide +kernel
theorem dX7_readSign_85 : decode cX7_readSign 85 = .ok (.iadd, 1) := by decide +kernel
theorem dX7_readSign_86 : decode cX7_readSign 86 = .ok (.putfield 25, 3) := by decide +kernel
theorem dX7_readSign_89 : decode cX7_readSign 89 = .ok (.goto 37, 3) := by decide +kernel
theorem dX7_readSign_92 : decode cX7_readSign 92 = .ok (.aload_n 0, 1) := by decide +kernel
theorem dX7_readSign_93 : decode cX7_readSign 93 = .ok (.getfield 37, 3) := by decide +kernel
theorem dX7_readSign_96 : decode cX7_readSign 96 = .ok (.bipush 31, 2) := by decide +kernel
theorem dX7_readSign_98 : decode cX7_readSign 98 = .ok (.if_icmp .ne 28, 3) := by decide +kernel
theorem dX7_readSign_101 : decode cX7_readSign 101 = .ok (.aload_n 0, 1) := by decide +kernel
theorem dX7_readSign_102 : decode cX7_readSign 102 = .ok (.bipush 61, 2) := by decide +kernel
theorem dX7_readSign_104 : decode cX7_readSign 104 = .ok (.invokevirtual 70, 3) := by decide +kernel
theorem dX7_readSign_107 : decode cX7_readSign 107 = .ok (.ifCond .eq 19, 3) := by decide +kernel
theorem dX7_readSign_110 : decode cX7_readSign 110 = .ok (.aload_n 0, 1) := by decide +kernel
theorem dX7_readSign_111 : decode cX7_readSign 111 = .ok (.bipush 30, 2) := by decide +kernel
theorem dX7_readSign_113 : decode cX7_readSign 113 = .ok (.putfield 37, 3) := by decide +kernel
theorem dX7_readSign_116 : decode cX7_readSign 116 = .ok (.aload_n 0, 1) := by decide +kernel
theorem dX7_readSign_117 : decode cX7_readSign 117 = .ok (.dup, 1) := by decide +kernel
theorem dX7_readSign_118 : decode cX7_readSign 118 = .ok (.getfield 25, 3) := by decide +kernel
theorem dX7_readSign_121 : decode cX7_readSign 121 = .ok (.iconst 1, 1) := by decide +kernel
theorem dX7_readSign_122 : decode cX7_readSign 122 = .ok (.iadd, 1) := by decide +kernel
theorem dX7_readSign_123 : decode cX7_readSign 123 = .ok (.putfield 25, 3) := by decide +kernel
theorem dX7_readSign_126 : decode cX7_readSign 126 = .ok (.return_, 1) := by decide +kernel
theorem dX7_isNext_0 : decode cX7_isNext 0 = .ok (.aload_n 0, 1) := by decide +kernel
theorem dX7_isNext_1 : decode cX7_isNext 1 = .ok (.getfield 25, 3) := by decide +kernel
theorem dX7_isNext_4 : decode cX7_isNext 4 = .ok (.aload_n 0, 1) := by decide +kernel
theorem dX7_isNext_5 : decode cX7_isNext 5 = .ok (.getfield 21, 3) := by decide +kernel
theorem dX7_isNext_8 : decode cX7_isNext 8 = .ok (.if_icmp .ge 20, 3) := by decide +kernel
theorem dX7_isNext_11 : decode cX7_isNext 11 = .ok (.aload_n 0, 1) := by decide +kernel
theorem dX7_isNext_12 : decode cX7_isNext 12 = .ok (.getfield 9, 3) := by decide +kernel
theorem dX7_isNext_15 : decode cX7_isNext 15 = .ok (.aload_n 0, 1) := by decide +kernel
theorem dX7_isNext_16 : decode cX7_isNext 16 = .ok (.getfield 25, 3) := by decide +kernel
theorem dX7_isNext_19 : decode cX7_isNext 19 = .ok (.baload, 1) := by decide +kernel
theorem dX7_isNext_20 : decode cX7_isNext 20 = .ok (.iload_n 1, 1) := by decide +kernel
theorem dX7_isNext_21 : decode cX7_isNext 21 = .ok (.if_icmp .ne 7, 3) := by decide +kernel
theorem dX7_isNext_24 : decode cX7_isNext 24 = .ok (.iconst 1, 1) := by decide +kernel
theorem dX7_isNext_25 : decode cX7_isNext 25 = .ok (.goto 4, 3) := by decide +kernel
theorem dX7_isNext_28 : decode cX7_isNext 28 = .ok (.iconst 0, 1) := by decide +kernel
theorem dX7_isNext_29 : decode cX7_isNext 29 = .ok (.ireturn, 1) := by decide +kernel
theorem dX7_kindOfSign_0 : decode cX7_kindOfSign 0 = .ok (.iload_n 0, 1) := by decide +kernel
theorem dX7_kindOfSign_1 : decode cX7_kindOfSign 1 = .ok (.tableswitch 137 40 62 #[110, 113, 131, 125, 137, 128, 137, 134, 137, 137, 137, 137, 137, 137, 137, 137, 137, 137, 137, 107, 116, 119, 122], 107) := by decide +kernel
theorem dX7_kindOfSign_108 : decode cX7_kindOfSign 108 = .ok (.bipush 23, 2) := by decide +kernel
theorem dX7_kindOfSign_110 : decode cX7_kindOfSign 110 = .ok (.ireturn, 1) := by decide +kernel
theorem dX7_kindOfSign_111 : decode cX7_kindOfSign 111 = .ok (.bipush 24, 2) := by decide +kernel
theorem dX7_kindOfSign_113 : decode cX7_kindOfSign 113 = .ok (.ireturn, 1) := by decide +kernel
theorem dX7_kindOfSign_114 : decode cX7_kindOfSign 114 = .ok (.bipush 25, 2) := by decide +kernel
theorem dX7_kindOfSign_116 : decode cX7_kindOfSign 116 = .ok (.ireturn, 1) := by decide +kernel
theorem dX7_kindOfSign_117 : decode cX7_kindOfSign 117 = .ok (.bipush 26, 2) := by decide +kernel
theorem dX7_kindOfSign_119 : decode cX7_kindOfSign 119 = .ok (.ireturn, 1) := by decide +kernel
theorem dX7_kindOfSign_120 : decode cX7_kindOfSign 120 = .ok (.bipush 28, 2) := by decide +kernel
theorem dX7_kindOfSign_122 : decode cX7_kindOfSign 122 = .ok (.ireturn, 1) := by decide +kernel
theorem dX7_kindOfSign_123 : decode cX7_kindOfSign 123 = .ok (.bipush 31, 2) := by decide +kernel
theorem dX7_kindOfSign_125 : decode cX7_kindOfSign 125 = .ok (.ireturn, 1) := by decide +kernel
theorem dX7_kindOfSign_126 : decode cX7_kindOfSign 126 = .ok (.bipush 32, 2) := by decide +kernel
theorem dX7_kindOfSign_128 : decode cX7_kindOfSign 128 = .ok (.ireturn, 1) := by decide +kernel
theorem dX7_kindOfSign_129 : decode cX7_kindOfSign 129 = .ok (.bipush 33, 2) := by decide +kernel
theorem dX7_kindOfSign_131 : decode cX7_kindOfSign 131 = .ok (.ireturn, 1) := by decide +kernel
theorem dX7_kindOfSign_132 : decode cX7_kindOfSign 132 = .ok (.bipush 34, 2) := by decide +kernel
theorem dX7_kindOfSign_134 : decode cX7_kindOfSign 134 = .ok (.ireturn, 1) := by decide +kernel
theorem dX7_kindOfSign_135 : decode cX7_kindOfSign 135 = .ok (.bipush 35, 2) := by decide +kernel
theorem dX7_kindOfSign_137 : decode cX7_kindOfSign 137 = .ok (.ireturn, 1) := by decide +kernel
theorem dX7_kindOfSign_138 : decode cX7_kindOfSign 138 = .ok (.bipush 22, 2) := by decide +kernel
theorem dX7_kindOfSign_140 : decode cX7_kindOfSign 140 = .ok (.ireturn, 1) := by decide +kernel
