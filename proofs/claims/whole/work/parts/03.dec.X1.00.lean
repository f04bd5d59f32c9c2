theorem dX1_init_0 : decode cX1_init 0 = .ok (.aload_n 0, 1) := by decide +kernel
theorem dX1_init_1 : decode cX1_init 1 = .ok (.invokespecial 3, 3) := by decide +kernel
theorem dX1_init_4 : decode cX1_init 4 = .ok (.aload_n 0, 1) := by decide +kernel
theorem dX1_init_5 : decode cX1_init 5 = .ok (.bipush 72, 2) := by decide +kernel
theorem dX1_init_7 : decode cX1_init 7 = .ok (.newarray .int, 2) := by decide +kernel
theorem dX1_init_9 : decode cX1_init 9 = .ok (.putfield 9, 3) := by decide +kernel
theorem dX1_init_12 : decode cX1_init 12 = .ok (.aload_n 0, 1) := by decide +kernel
theorem dX1_init_13 : decode cX1_init 13 = .ok (.aload_n 1, 1) := by decide +kernel
theorem dX1_init_14 : decode cX1_init 14 = .ok (.putfield 15, 3) := by decide +kernel
theorem dX1_init_17 : decode cX1_init 17 = .ok (.aload_n 0, 1) := by decide +kernel
theorem dX1_init_18 : decode cX1_init 18 = .ok (.aload_n 2, 1) := by decide +kernel
theorem dX1_init_19 : decode cX1_init 19 = .ok (.putfield 19, 3) := by decide +kernel
theorem dX1_init_22 : decode cX1_init 22 = .ok (.return_, 1) := by decide +kernel
theorem dX1_begin_0 : decode cX1_begin 0 = .ok (.aload_n 0, 1) := by decide +kernel
theorem dX1_begin_1 : decode cX1_begin 1 = .ok (.iconst 0, 1) := by decide +kernel
theorem dX1_begin_2 : decode cX1_begin 2 = .ok (.putfield 23, 3) := by decide +kernel
theorem dX1_begin_5 : decode cX1_begin 5 = .ok (.return_, 1) := by decide +kernel
theorem dX1_readFormula_0 : decode cX1_readFormula 0 = .ok (.aload_n 0, 1) := by decide +kernel
theorem dX1_readFormula_1 : decode cX1_readFormula 1 = .ok (.aload_n 1, 1) := by decide +kernel
theorem dX1_readFormula_2 : decode cX1_readFormula 2 = .ok (.putfield 19, 3) := by decide +kernel
theorem dX1_readFormula_5 : decode cX1_readFormula 5 = .ok (.aload_n 0, 1) := by decide +kernel
theorem dX1_readFormula_6 : decode cX1_readFormula 6 = .ok (.iconst 0, 1) := by decide +kernel
theorem dX1_readFormula_7 : decode cX1_readFormula 7 = .ok (.putfield 27, 3) := by decide +kernel
theorem dX1_readFormula_10 : decode cX1_readFormula 10 = .ok (.aload_n 0, 1) := by decide +kernel
theorem dX1_readFormula_11 : decode cX1_readFormula 11 = .ok (.iconst 0, 1) := by decide +kernel
theorem dX1_readFormula_12 : decode cX1_readFormula 12 = .ok (.putfield 30, 3) := by decide +kernel
theorem dX1_readFormula_15 : decode cX1_readFormula 15 = .ok (.aload_n 0, 1) := by decide +kernel
theorem dX1_readFormula_16 : decode cX1_readFormula 16 = .ok (.iconst 0, 1) := by decide +kernel
theorem dX1_readFormula_17 : decode cX1_readFormula 17 = .ok (.putfield 33, 3) := by decide +kernel
theorem dX1_readFormula_20 : decode cX1_readFormula 20 = .ok (.aload_n 0, 1) := by decide +kernel
theorem dX1_readFormula_21 : decode cX1_readFormula 21 = .ok (.iconst 1, 1) := by decide +kernel
theorem dX1_readFormula_22 : decode cX1_readFormula 22 = .ok (.putfield 36, 3) := by decide +kernel
theorem dX1_readFormula_25 : decode cX1_readFormula 25 = .ok (.aload_n 0, 1) := by decide +kernel
theorem dX1_readFormula_26 : decode cX1_readFormula 26 = .ok (.iconst 1, 1) := by decide +kernel
theorem dX1_readFormula_27 : decode cX1_readFormula 27 = .ok (.putfield 40, 3) := by decide +kernel
theorem dX1_readFormula_30 : decode cX1_readFormula 30 = .ok (.aload_n 0, 1) := by decide +kernel
theorem dX1_readFormula_31 : decode cX1_readFormula 31 = .ok (.getfield 19, 3) := by decide +kernel
theorem dX1_readFormula_34 : decode cX1_readFormula 34 = .ok (.getfield 43, 3) := by decide +kernel
theorem dX1_readFormula_37 : decode cX1_readFormula 37 = .ok (.istore_n 3, 1) := by decide +kernel
theorem dX1_readFormula_38 : decode cX1_readFormula 38 = .ok (.iconst 0, 1) := by decide +kernel
theorem dX1_readFormula_39 : decode cX1_readFormula 39 = .ok (.istore 4, 2) := by decide +kernel
theorem dX1_readFormula_41 : decode cX1_readFormula 41 = .ok (.iconst 0, 1) := by decide +kernel
theorem dX1_readFormula_42 : decode cX1_readFormula 42 = .ok (.istore 5, 2) := by decide +kernel
theorem dX1_readFormula_44 : decode cX1_readFormula 44 = .ok (.iload 5, 2) := by decide +kernel
theorem dX1_readFormula_46 : decode cX1_readFormula 46 = .ok (.sipush 700, 3) := by decide +kernel
theorem dX1_readFormula_49 : decode cX1_readFormula 49 = .ok (.if_icmp .gt 74, 3) := by decide +kernel
theorem dX1_readFormula_52 : decode cX1_readFormula 52 = .ok (.iload 4, 2) := by decide +kernel
theorem dX1_readFormula_54 : decode cX1_readFormula 54 = .ok (.ifCond .ne 69, 3) := by decide +kernel
theorem dX1_readFormula_57 : decode cX1_readFormula 57 = .ok (.aload_n 0, 1) := by decide +kernel
theorem dX1_readFormula_58 : decode cX1_readFormula 58 = .ok (.invokevirtual 48, 3) := by decide +kernel
theorem dX1_readFormula_61 : decode cX1_readFormula 61 = .ok (.ifCond .ne 62, 3) := by decide +kernel
theorem dX1_readFormula_64 : decode cX1_readFormula 64 = .ok (.aload_n 0, 1) := by decide +kernel
theorem dX1_readFormula_65 : decode cX1_readFormula 65 = .ok (.getfield 36, 3) := by decide +kernel
theorem dX1_readFormula_68 : decode cX1_readFormula 68 = .ok (.ifCond .eq 12, 3) := by decide +kernel
theorem dX1_readFormula_71 : decode cX1_readFormula 71 = .ok (.aload_n 0, 1) := by decide +kernel
theorem dX1_readFormula_72 : decode cX1_readFormula 72 = .ok (.invokevirtual 52, 3) := by decide +kernel
theorem dX1_readFormula_75 : decode cX1_readFormula 75 = .ok (.istore 4, 2) := by decide +kernel
theorem dX1_readFormula_77 : decode cX1_readFormula 77 = .ok (.goto 28, 3) := by decide +kernel
theorem dX1_readFormula_80 : decode cX1_readFormula 80 = .ok (.aload_n 0, 1) := by decide +kernel
theorem dX1_readFormula_81 : decode cX1_readFormula 81 = .ok (.getfield 15, 3) := by decide +kernel
theorem dX1_readFormula_84 : decode cX1_readFormula 84 = .ok (.getfield 56, 3) := by decide +kernel
theorem dX1_readFormula_87 : decode cX1_readFormula 87 = .ok (.bipush 25, 2) := by decide +kernel
theorem dX1_readFormula_89 : decode cX1_readFormula 89 = .ok (.if_icmp .ne 10, 3) := by decide +kernel
theorem dX1_readFormula_92 : decode cX1_readFormula 92 = .ok (.aload_n 0, 1) := by decide +kernel
theorem dX1_readFormula_93 : decode cX1_readFormula 93 = .ok (.invokevirtual 61, 3) := by decide +kernel
theorem dX1_readFormula_96 : decode cX1_readFormula 96 = .ok (.goto 7, 3) := by decide +kernel
theorem dX1_readFormula_99 : decode cX1_readFormula 99 = .ok (.aload_n 0, 1) := by decide +kernel
theorem dX1_readFormula_100 : decode cX1_readFormula 100 = .ok (.invokevirtual 64, 3) := by decide +kernel
theorem dX1_readFormula_103 : decode cX1_readFormula 103 = .ok (.istore 4, 2) := by decide +kernel
theorem dX1_readFormula_105 : decode cX1_readFormula 105 = .ok (.iload 4, 2) := by decide +kernel
theorem dX1_readFormula_107 : decode cX1_readFormula 107 = .ok (.ifCond .ne 10, 3) := by decide +kernel
theorem dX1_readFormula_110 : decode cX1_readFormula 110 = .ok (.aload_n 0, 1) := by decide +kernel
theorem dX1_readFormula_111 : decode cX1_readFormula 111 = .ok (.getfield 15, 3) := by decide +kernel
theorem dX1_readFormula_114 : decode cX1_readFormula 114 = .ok (.invokevirtual 67, 3) := by decide +kernel
theorem dX1_readFormula_117 : decode cX1_readFormula 117 = .ok (.iinc 5 1, 3) := by decide +kernel
theorem dX1_readFormula_120 : decode cX1_readFormula 120 = .ok (.goto (-76), 3) := by decide +kernel
theorem dX1_readFormula_123 : decode cX1_readFormula 123 = .ok (.iload 4, 2) := by decide +kernel
theorem dX1_readFormula_125 : decode cX1_readFormula 125 = .ok (.ifCond .ne 34, 3) := by decide +kernel
theorem dX1_readFormula_128 : decode cX1_readFormula 128 = .ok (.aload_n 0, 1) := by decide +kernel
theorem dX1_readFormula_129 : decode cX1_readFormula 129 = .ok (.iconst 0, 1) := by decide +kernel
theorem dX1_readFormula_130 : decode cX1_readFormula 130 = .ok (.invokevirtual 70, 3) := by decide +kernel
theorem dX1_readFormula_133 : decode cX1_readFormula 133 = .ok (.aload_n 0, 1) := by decide +kernel
theorem dX1_readFormula_134 : decode cX1_readFormula 134 = .ok (.getfield 19, 3) := by decide +kernel
theorem dX1_readFormula_137 : decode cX1_readFormula 137 = .ok (.getfield 74, 3) := by decide +kernel
theorem dX1_readFormula_140 : decode cX1_readFormula 140 = .ok (.iload_n 2, 1) := by decide +kernel
theorem dX1_readFormula_141 : decode cX1_readFormula 141 = .ok (.iload_n 3, 1) := by decide +kernel
theorem dX1_readFormula_142 : decode cX1_readFormula 142 = .ok (.iastore, 1) := by decide +kernel
theorem dX1_readFormula_143 : decode cX1_readFormula 143 = .ok (.aload_n 0, 1) := by decide +kernel
theorem dX1_readFormula_144 : decode cX1_readFormula 144 = .ok (.getfield 19, 3) := by decide +kernel
theorem dX1_readFormula_147 : decode cX1_readFormula 147 = .ok (.getfield 77, 3) := by decide +kernel
theorem dX1_readFormula_150 : decode cX1_readFormula 150 = .ok (.iload_n 2, 1) := by decide +kernel
theorem dX1_readFormula_151 : decode cX1_readFormula 151 = .ok (.aload_n 0, 1) := by decide +kernel
theorem dX1_readFormula_152 : decode cX1_readFormula 152 = .ok (.getfield 19, 3) := by decide +kernel
theorem dX1_readFormula_155 : decode cX1_readFormula 155 = .ok (.getfield 43, 3) := by decide +kernel
theorem dX1_readFormula_158 : decode cX1_readFormula 158 = .ok (.iastore, 1) := by decide +kernel
theorem dX1_readFormula_159 : decode cX1_readFormula 159 = .ok (.iload 4, 2) := by decide +kernel
theorem dX1_readFormula_161 : decode cX1_readFormula 161 = .ok (.ireturn, 1) := by decide +kernel
theorem dX1_isEnd_0 : decode cX1_isEnd 0 = .ok (.aload_n 0, 1) := by decide +kernel
theorem dX1_isEnd_1 : decode cX1_isEnd 1 = .ok (.getfield 36, 3) := by decide +kernel
theorem dX1_isEnd_4 : decode cX1_isEnd 4 = .ok (.ifCond .ne 26, 3) := by decide +kernel
theorem dX1_isEnd_7 : decode cX1_isEnd 7 = .ok (.aload_n 0, 1) := by decide +kernel
theorem dX1_isEnd_8 : decode cX1_isEnd 8 = .ok (.getfield 30, 3) := by decide +kernel
theorem dX1_isEnd_11 : decode cX1_isEnd 11 = .ok (.ifCond .ne 19, 3) := by decide +kernel
theorem dX1_isEnd_14 : decode cX1_isEnd 14 = .ok (.aload_n 0, 1) := by decide +kernel
theorem dX1_isEnd_15 : decode cX1_isEnd 15 = .ok (.getfield 15, 3) := by decide +kernel
theorem dX1_isEnd_18 : decode cX1_isEnd 18 = .ok (.getfield 56, 3) := by decide +kernel
theorem dX1_isEnd_21 : decode cX1_isEnd 21 = .ok (.bipush 23, 2) := by decide +kernel
theorem dX1_isEnd_23 : decode cX1_isEnd 23 = .ok (.if_icmp .ne 7, 3) := by decide +kernel
theorem dX1_isEnd_26 : decode cX1_isEnd 26 = .ok (.iconst 1, 1) := by decide +kernel
theorem dX1_isEnd_27 : decode cX1_isEnd 27 = .ok (.goto 4, 3) := by decide +kernel
theorem dX1_isEnd_30 : decode cX1_isEnd 30 = .ok (.iconst 0, 1) := by decide +kernel
theorem dX1_isEnd_31 : decode cX1_isEnd 31 = .ok (.ireturn, 1) := by decide +kernel
theorem dX1_takeOperand_0 : decode cX1_takeOperand 0 = .ok (.aload_n 0, 1) := by decide +kernel
theorem dX1_takeOperand_1 : decode cX1_takeOperand 1 = .ok (.getfield 15, 3) := by decide +kernel
theorem dX1_takeOperand_4 : decode cX1_takeOperand 4 = .ok (.getfield 56, 3) := by decide +kernel
theorem dX1_takeOperand_7 : decode cX1_takeOperand 7 = .ok (.istore_n 1, 1) := by decide +kernel
theorem dX1_takeOperand_8 : decode cX1_takeOperand 8 = .ok (.iload_n 1, 1) := by decide +kernel
theorem dX1_takeOperand_9 : decode cX1_takeOperand 9 = .ok (.bipush 20, 2) := by decide +kernel
theorem dX1_takeOperand_11 : decode cX1_takeOperand 11 = .ok (.if_icmp .eq 14, 3) := by decide +kernel
theorem dX1_takeOperand_14 : decode cX1_takeOperand 14 = .ok (.iload_n 1, 1) := by decide +kernel
theorem dX1_takeOperand_15 : decode cX1_takeOperand 15 = .ok (.bipush 12, 2) := by decide +kernel
theorem dX1_takeOperand_17 : decode cX1_takeOperand 17 = .ok (.bipush 18, 2) := by decide +kernel
theorem dX1_takeOperand_19 : decode cX1_takeOperand 19 = .ok (.invokestatic 80, 3) := by decide +kernel
theorem dX1_takeOperand_22 : decode cX1_takeOperand 22 = .ok (.ifCond .eq 9, 3) := by decide +kernel
theorem dX1_takeOperand_25 : decode cX1_takeOperand 25 = .ok (.aload_n 0, 1) := by decide +kernel
theorem dX1_takeOperand_26 : decode cX1_takeOperand 26 = .ok (.iload_n 1, 1) := by decide +kernel
theorem dX1_takeOperand_27 : decode cX1_takeOperand 27 = .ok (.invokevirtual 84, 3) := by decide +kernel
theorem dX1_takeOperand_30 : decode cX1_takeOperand 30 = .ok (.ireturn, 1) := by decide +kernel
theorem dX1_takeOperand_31 : decode cX1_takeOperand 31 = .ok (.iload_n 1, 1) := by decide +kernel
theorem dX1_takeOperand_32 : decode cX1_takeOperand 32 = .ok (.bipush 24, 2) := by decide +kernel
theorem dX1_takeOperand_34 : decode cX1_takeOperand 34 = .ok (.if_icmp .ne 8, 3) := by decide +kernel
theorem dX1_takeOperand_37 : decode cX1_takeOperand 37 = .ok (.aload_n 0, 1) := by decide +kernel
theorem dX1_takeOperand_38 : decode cX1_takeOperand 38 = .ok (.invokevirtual 88, 3) := by decide +kernel
theorem dX1_takeOperand_41 : decode cX1_takeOperand 41 = .ok (.ireturn, 1) := by decide +kernel
theorem dX1_takeOperand_42 : decode cX1_takeOperand 42 = .ok (.iload_n 1, 1) := by decide +kernel
theorem dX1_takeOperand_43 : decode cX1_takeOperand 43 = .ok (.bipush 11, 2) := by decide +kernel
theorem dX1_takeOperand_45 : decode cX1_takeOperand 45 = .ok (.if_icmp .ne 10, 3) := by decide +kernel
theorem dX1_takeOperand_48 : decode cX1_takeOperand 48 = .ok (.aload_n 0, 1) := by decide +kernel
theorem dX1_takeOperand_49 : decode cX1_takeOperand 49 = .ok (.getfield 40, 3) := by decide +kernel
theorem dX1_takeOperand_52 : decode cX1_takeOperand 52 = .ok (.ifCond .ne 5, 3) := by decide +kernel
theorem dX1_takeOperand_55 : decode cX1_takeOperand 55 = .ok (.iconst 1, 1) := by decide +kernel
theorem dX1_takeOperand_56 : decode cX1_takeOperand 56 = .ok (.ireturn, 1) := by decide +kernel
theorem dX1_takeOperand_57 : decode cX1_takeOperand 57 = .ok (.aload_n 0, 1) := by decide +kernel
theorem dX1_takeOperand_58 : decode cX1_takeOperand 58 = .ok (.invokevirtual 91, 3) := by decide +kernel
theorem dX1_takeOperand_61 : decode cX1_takeOperand 61 = .ok (.ifCond .ne 5, 3) := by decide +kernel
theorem dX1_takeOperand_64 : decode cX1_takeOperand 64 = .ok (.iconst 2, 1) := by decide +kernel
theorem dX1_takeOperand_65 : decode cX1_takeOperand 65 = .ok (.ireturn, 1) := by decide +kernel
theorem dX1_takeOperand_66 : decode cX1_takeOperand 66 = .ok (.aload_n 0, 1) := by decide +kernel
theorem dX1_takeOperand_67 : decode cX1_takeOperand 67 = .ok (.bipush 11, 2) := by decide +kernel
theorem dX1_takeOperand_69 : decode cX1_takeOperand 69 = .ok (.invokevirtual 94, 3) := by decide +kernel
theorem dX1_takeOperand_72 : decode cX1_takeOperand 72 = .ok (.iconst 0, 1) := by decide +kernel
theorem dX1_takeOperand_73 : decode cX1_takeOperand 73 = .ok (.ireturn, 1) := by decide +kernel
theorem dX1_takeValue_0 : decode cX1_takeValue 0 = .ok (.aload_n 0, 1) := by decide +kernel
theorem dX1_takeValue_1 : decode cX1_takeValue 1 = .ok (.invokevirtual 91, 3) := by decide +kernel
theorem dX1_takeValue_4 : decode cX1_takeValue 4 = .ok (.ifCond .eq 22, 3) := by decide +kernel
theorem dX1_takeValue_7 : decode cX1_takeValue 7 = .ok (.aload_n 0, 1) := by decide +kernel
theorem dX1_takeValue_8 : decode cX1_takeValue 8 = .ok (.getfield 15, 3) := by decide +kernel
theorem dX1_takeValue_11 : decode cX1_takeValue 11 = .ok (.getfield 97, 3) := by decide +kernel
theorem dX1_takeValue_14 : decode cX1_takeValue 14 = .ok (.sipush 9999, 3) := by decide +kernel
theorem dX1_takeValue_17 : decode cX1_takeValue 17 = .ok (.if_icmp .le 11, 3) := by decide +kernel
theorem dX1_takeValue_20 : decode cX1_takeValue 20 = .ok (.iload_n 1, 1) := by decide +kernel
theorem dX1_takeValue_21 : decode cX1_takeValue 21 = .ok (.bipush 20, 2) := by decide +kernel
theorem dX1_takeValue_23 : decode cX1_takeValue 23 = .ok (.if_icmp .ne 5, 3) := by decide +kernel
theorem dX1_takeValue_26 : decode cX1_takeValue 26 = .ok (.iconst 2, 1) := by decide +kernel
theorem dX1_takeValue_27 : decode cX1_takeValue 27 = .ok (.ireturn, 1) := by decide +kernel
theorem dX1_takeValue_28 : decode cX1_takeValue 28 = .ok (.aload_n 0, 1) := by decide +kernel
theorem dX1_takeValue_29 : decode cX1_takeValue 29 = .ok (.getfield 19, 3) := by decide +kernel
theorem dX1_takeValue_32 : decode cX1_takeValue 32 = .ok (.iload_n 1, 1) := by decide +kernel
theorem dX1_takeValue_33 : decode cX1_takeValue 33 = .ok (.aload_n 0, 1) := by decide +kernel
theorem dX1_takeValue_34 : decode cX1_takeValue 34 = .ok (.getfield 15, 3) := by decide +kernel
theorem dX1_takeValue_37 : decode cX1_takeValue 37 = .ok (.getfield 97, 3) := by decide +kernel
theorem dX1_takeValue_40 : decode cX1_takeValue 40 = .ok (.invokevirtual 100, 3) := by decide +kernel
theorem dX1_takeValue_43 : decode cX1_takeValue 43 = .ok (.aload_n 0, 1) := by decide +kernel
theorem dX1_takeValue_44 : decode cX1_takeValue 44 = .ok (.iconst 0, 1) := by decide +kernel
theorem dX1_takeValue_45 : decode cX1_takeValue 45 = .ok (.putfield 36, 3) := by decide +kernel
theorem dX1_takeValue_48 : decode cX1_takeValue 48 = .ok (.iconst 0, 1) := by decide +kernel
theorem dX1_takeValue_49 : decode cX1_takeValue 49 = .ok (.ireturn, 1) := by decide +kernel
theorem dX1_takeOpening_0 : decode cX1_takeOpening 0 = .ok (.aload_n 0, 1) := by decide +kernel
theorem dX1_takeOpening_1 : decode cX1_takeOpening 1 = .ok (.getfield 30, 3) := by decide +kernel
theorem dX1_takeOpening_4 : decode cX1_takeOpening 4 = .ok (.bipush 8, 2) := by decide +kernel
theorem dX1_takeOpening_6 : decode cX1_takeOpening 6 = .ok (.if_icmp .lt 5, 3) := by decide +kernel
theorem dX1_takeOpening_9 : decode cX1_takeOpening 9 = .ok (.iconst 2, 1) := by decide +kernel
theorem dX1_takeOpening_10 : decode cX1_takeOpening 10 = .ok (.ireturn, 1) := by decide +kernel
theorem dX1_takeOpening_11 : decode cX1_takeOpening 11 = .ok (.aload_n 0, 1) := by decide +kernel
theorem dX1_takeOpening_12 : decode cX1_takeOpening 12 = .ok (.dup, 1) := by decide +kernel
theorem dX1_takeOpening_13 : decode cX1_takeOpening 13 = .ok (.getfield 30, 3) := by decide +kernel
theorem dX1_takeOpening_16 : decode cX1_takeOpening 16 = .ok (.iconst 1, 1) := by decide +kernel
theorem dX1_takeOpening_17 : decode cX1_takeOpening 17 = .ok (.iadd, 1) := by decide +kernel
theorem dX1_takeOpening_18 : decode cX1_takeOpening 18 = .ok (.putfield 30, 3) := by decide +kernel
theorem dX1_takeOpening_21 : decode cX1_takeOpening 21 = .ok (.aload_n 0, 1) := by decide +kernel
theorem dX1_takeOpening_22 : decode cX1_takeOpening 22 = .ok (.dup, 1) := by decide +kernel
theorem dX1_takeOpening_23 : decode cX1_takeOpening 23 = .ok (.getfield 33, 3) := by decide +kernel
theorem dX1_takeOpening_26 : decode cX1_takeOpening 26 = .ok (.iconst 1, 1) := by decide +kernel
theorem dX1_takeOpening_27 : decode cX1_takeOpening 27 = .ok (.aload_n 0, 1) := by decide +kernel
theorem dX1_takeOpening_28 : decode cX1_takeOpening 28 = .ok (.getfield 30, 3) := by decide +kernel
theorem dX1_takeOpening_31 : decode cX1_takeOpening 31 = .ok (.ishl, 1) := by decide +kernel
theorem dX1_takeOpening_32 : decode cX1_takeOpening 32 = .ok (.iconst (-1), 1) := by decide +kernel
theorem dX1_takeOpening_33 : decode cX1_takeOpening 33 = .ok (.ixor, 1) := by decide +kernel
theorem dX1_takeOpening_34 : decode cX1_takeOpening 34 = .ok (.iand, 1) := by decide +kernel
theorem dX1_takeOpening_35 : decode cX1_takeOpening 35 = .ok (.putfield 33, 3) := by decide +kernel
theorem dX1_takeOpening_38 : decode cX1_takeOpening 38 = .ok (.aload_n 0, 1) := by decide +kernel
theorem dX1_takeOpening_39 : decode cX1_takeOpening 39 = .ok (.iconst 1, 1) := by decide +kernel
theorem dX1_takeOpening_40 : decode cX1_takeOpening 40 = .ok (.putfield 40, 3) := by decide +kernel
theorem dX1_takeOpening_43 : decode cX1_takeOpening 43 = .ok (.aload_n 0, 1) := by decide +kernel
theorem dX1_takeOpening_44 : decode cX1_takeOpening 44 = .ok (.bipush 24, 2) := by decide +kernel
theorem dX1_takeOpening_46 : decode cX1_takeOpening 46 = .ok (.invokevirtual 94, 3) := by decide +kernel
theorem dX1_takeOpening_49 : decode cX1_takeOpening 49 = .ok (.iconst 0, 1) := by decide +kernel
theorem dX1_takeOpening_50 : decode cX1_takeOpening 50 = .ok (.ireturn, 1) := by decide +kernel
theorem dX1_takeSign_0 : decode cX1_takeSign 0 = .ok (.aload_n 0, 1) := by decide +kernel
theorem dX1_takeSign_1 : decode cX1_takeSign 1 = .ok (.getfield 15, 3) := by decide +kernel
theorem dX1_takeSign_4 : decode cX1_takeSign 4 = .ok (.getfield 56, 3) := by decide +kernel
theorem dX1_takeSign_7 : decode cX1_takeSign 7 = .ok (.istore_n 1, 1) := by decide +kernel
theorem dX1_takeSign_8 : decode cX1_takeSign 8 = .ok (.iload_n 1, 1) := by decide +kernel
theorem dX1_takeSign_9 : decode cX1_takeSign 9 = .ok (.bipush 26, 2) := by decide +kernel
theorem dX1_takeSign_11 : decode cX1_takeSign 11 = .ok (.bipush 31, 2) := by decide +kernel
theorem dX1_takeSign_13 : decode cX1_takeSign 13 = .ok (.invokestatic 80, 3) := by decide +kernel
theorem dX1_takeSign_16 : decode cX1_takeSign 16 = .ok (.istore_n 2, 1) := by decide +kernel
theorem dX1_takeSign_17 : decode cX1_takeSign 17 = .ok (.iload_n 2, 1) := by decide +kernel
theorem dX1_takeSign_18 : decode cX1_takeSign 18 = .ok (.ifCond .eq 22, 3) := by decide +kernel
theorem dX1_takeSign_21 : decode cX1_takeSign 21 = .ok (.aload_n 0, 1) := by decide +kernel
theorem dX1_takeSign_22 : decode cX1_takeSign 22 = .ok (.getfield 33, 3) := by decide +kernel
theorem dX1_takeSign_25 : decode cX1_takeSign 25 = .ok (.aload_n 0, 1) := by decide +kernel
theorem dX1_takeSign_26 : decode cX1_takeSign 26 = .ok (.getfield 30, 3) := by decide +kernel
theorem dX1_takeSign_29 : decode cX1_takeSign 29 = .ok (.ishr, 1) := by decide +kernel
theorem dX1_takeSign_30 : decode cX1_takeSign 30 = .ok (.iconst 1, 1) := by decide +kernel
theorem dX1_takeSign_31 : decode cX1_takeSign 31 = .ok (.iand, 1) := by decide +kernel
theorem dX1_takeSign_32 : decode cX1_takeSign 32 = .ok (.iconst 1, 1) := by decide +kernel
theorem dX1_takeSign_33 : decode cX1_takeSign 33 = .ok (.if_icmp .ne 7, 3) := by decide +kernel
theorem dX1_takeSign_36 : decode cX1_takeSign 36 = .ok (.iconst 1, 1) := by decide +kernel
theorem dX1_takeSign_37 : decode cX1_takeSign 37 = .ok (.goto 4, 3) := by decide +kernel
theorem dX1_takeSign_40 : decode cX1_takeSign 40 = .ok (.iconst 0, 1) := by decide +kernel
theorem dX1_takeSign_41 : decode cX1_takeSign 41 = .ok (.istore_n 3, 1) := by decide +kernel
theorem dX1_takeSign_42 : decode cX1_takeSign 42 = .ok (.iload_n 1, 1) := by decide +kernel
theorem dX1_takeSign_43 : decode cX1_takeSign 43 = .ok (.invokestatic 104, 3) := by decide +kernel
theorem dX1_takeSign_46 : decode cX1_takeSign 46 = .ok (.ifCond .eq 13, 3) := by decide +kernel
theorem dX1_takeSign_49 : decode cX1_takeSign 49 = .ok (.iload_n 1, 1) := by decide +kernel
theorem dX1_takeSign_50 : decode cX1_takeSign 50 = .ok (.bipush 11, 2) := by decide +kernel
theorem dX1_takeSign_52 : decode cX1_takeSign 52 = .ok (.if_icmp .eq 7, 3) := by decide +kernel
theorem dX1_takeSign_55 : decode cX1_takeSign 55 = .ok (.iload_n 3, 1) := by decide +kernel
theorem dX1_takeSign_56 : decode cX1_takeSign 56 = .ok (.ifCond .eq 5, 3) := by decide +kernel
theorem dX1_takeSign_59 : decode cX1_takeSign 59 = .ok (.iconst 1, 1) := by decide +kernel
theorem dX1_takeSign_60 : decode cX1_takeSign 60 = .ok (.ireturn, 1) := by decide +kernel
theorem dX1_takeSign_61 : decode cX1_takeSign 61 = .ok (.aload_n 0, 1) := by decide +kernel
theorem dX1_takeSign_62 : decode cX1_takeSign 62 = .ok (.invokevirtual 91, 3) := by decide +kernel
theorem dX1_takeSign_65 : decode cX1_takeSign 65 = .ok (.ifCond .ne 5, 3) := by decide +kernel
theorem dX1_takeSign_68 : decode cX1_takeSign 68 = .ok (.iconst 2, 1) := by decide +kernel
theorem dX1_takeSign_69 : decode cX1_takeSign 69 = .ok (.ireturn, 1) := by decide +kernel
theorem dX1_takeSign_70 : decode cX1_takeSign 70 = .ok (.aload_n 0, 1) := by decide +kernel
theorem dX1_takeSign_71 : decode cX1_takeSign 71 = .ok (.iload_n 1, 1) := by decide +kernel
theorem dX1_takeSign_72 : decode cX1_takeSign 72 = .ok (.bipush 10, 2) := by decide +kernel
theorem dX1_takeSign_74 : decode cX1_takeSign 74 = .ok (.if_icmp .eq 9, 3) := by decide +kernel
theorem dX1_takeSign_77 : decode cX1_takeSign 77 = .ok (.iload_n 1, 1) := by decide +kernel
theorem dX1_takeSign_78 : decode cX1_takeSign 78 = .ok (.bipush 9, 2) := by decide +kernel
theorem dX1_takeSign_80 : decode cX1_takeSign 80 = .ok (.if_icmp .ne 7, 3) := by decide +kernel
theorem dX1_takeSign_83 : decode cX1_takeSign 83 = .ok (.iconst 1, 1) := by decide +kernel
theorem dX1_takeSign_84 : decode cX1_takeSign 84 = .ok (.goto 4, 3) := by decide +kernel
theorem dX1_takeSign_87 : decode cX1_takeSign 87 = .ok (.iconst 0, 1) := by decide +kernel
theorem dX1_takeSign_88 : decode cX1_takeSign 88 = .ok (.putfield 40, 3) := by decide +kernel
theorem dX1_takeSign_91 : decode cX1_takeSign 91 = .ok (.aload_n 0, 1) := by decide +kernel
theorem dX1_takeSign_92 : decode cX1_takeSign 92 = .ok (.getfield 40, 3) := by decide +kernel
theorem dX1_takeSign_95 : decode cX1_takeSign 95 = .ok (.ifCond .eq 23, 3) := by decide +kernel
theorem dX1_takeSign_98 : decode cX1_takeSign 98 = .ok (.aload_n 0, 1) := by decide +kernel
theorem dX1_takeSign_99 : decode cX1_takeSign 99 = .ok (.dup, 1) := by decide +kernel
theorem dX1_takeSign_100 : decode cX1_takeSign 100 = .ok (.getfield 33, 3) := by decide +kernel
theorem dX1_takeSign_103 : decode cX1_takeSign 103 = .ok (.iconst 1, 1) := by decide +kernel
theorem dX1_takeSign_104 : decode cX1_takeSign 104 = .ok (.aload_n 0, 1) := by decide +kernel
theorem dX1_takeSign_105 : decode cX1_takeSign 105 = .ok (.getfield 30, 3) := by decide +kernel
theorem dX1_takeSign_108 : decode cX1_takeSign 108 = .ok (.ishl, 1) := by decide +kernel
theorem dX1_takeSign_109 : decode cX1_takeSign 109 = .ok (.iconst (-1), 1) := by decide +kernel
theorem dX1_takeSign_110 : decode cX1_takeSign 110 = .ok (.ixor, 1) := by decide +kernel
theorem dX1_takeSign_111 : decode cX1_takeSign 111 = .ok (.iand, 1) := by decide +kernel
theorem dX1_takeSign_112 : decode cX1_takeSign 112 = .ok (.putfield 33, 3) := by decide +kernel
theorem dX1_takeSign_115 : decode cX1_takeSign 115 = .ok (.goto 22, 3) := by decide +kernel
theorem dX1_takeSign_118 : decode cX1_takeSign 118 = .ok (.iload_n 2, 1) := by decide +kernel
theorem dX1_takeSign_119 : decode cX1_takeSign 119 = .ok (.ifCond .eq 18, 3) := by decide +kernel
theorem dX1_takeSign_122 : decode cX1_takeSign 122 = .ok (.aload_n 0, 1) := by decide +kernel
theorem dX1_takeSign_123 : decode cX1_takeSign 123 = .ok (.dup, 1) := by decide +kernel
theorem dX1_takeSign_124 : decode cX1_takeSign 124 = .ok (.getfield 33, 3) := by decide +kernel
theorem dX1_takeSign_127 : decode cX1_takeSign 127 = .ok (.iconst 1, 1) := by decide +kernel
theorem dX1_takeSign_128 : decode cX1_takeSign 128 = .ok (.aload_n 0, 1) := by decide +kernel
theorem dX1_takeSign_129 : decode cX1_takeSign 129 = .ok (.getfield 30, 3) := by decide +kernel
theorem dX1_takeSign_132 : decode cX1_takeSign 132 = .ok (.ishl, 1) := by decide +kernel
theorem dX1_takeSign_133 : decode cX1_takeSign 133 = .ok (.ior, 1) := by decide +kernel
theorem dX1_takeSign_134 : decode cX1_takeSign 134 = .ok (.putfield 33, 3) := by decide +kernel
theorem dX1_takeSign_137 : decode cX1_takeSign 137 = .ok (.aload_n 0, 1) := by decide +kernel
theorem dX1_takeSign_138 : decode cX1_takeSign 138 = .ok (.iload_n 1, 1) := by decide +kernel
theorem dX1_takeSign_139 : decode cX1_takeSign 139 = .ok (.invokestatic 104, 3) := by decide +kernel
theorem dX1_takeSign_142 : decode cX1_takeSign 142 = .ok (.invokevirtual 70, 3) := by decide +kernel
theorem dX1_takeSign_145 : decode cX1_takeSign 145 = .ok (.aload_n 0, 1) := by decide +kernel
theorem dX1_takeSign_146 : decode cX1_takeSign 146 = .ok (.iload_n 1, 1) := by decide +kernel
theorem dX1_takeSign_147 : decode cX1_takeSign 147 = .ok (.invokevirtual 94, 3) := by decide +kernel
theorem dX1_takeSign_150 : decode cX1_takeSign 150 = .ok (.aload_n 0, 1) := by decide +kernel
theorem dX1_takeSign_151 : decode cX1_takeSign 151 = .ok (.iconst 1, 1) := by decide +kernel
theorem dX1_takeSign_152 : decode cX1_takeSign 152 = .ok (.putfield 36, 3) := by decide +kernel
theorem dX1_takeSign_155 : decode cX1_takeSign 155 = .ok (.iconst 0, 1) := by decide +kernel
theorem dX1_takeSign_156 : decode cX1_takeSign 156 = .ok (.ireturn, 1) := by decide +kernel
theorem dX1_takeClosing_0 : decode cX1_takeClosing 0 = .ok (.aload_n 0, 1) := by decide +kernel
theorem dX1_takeClosing_1 : decode cX1_takeClosing 1 = .ok (.getfield 30, 3) := by decide +kernel
theorem dX1_takeClosing_4 : decode cX1_takeClosing 4 = .ok (.ifCond .ne 5, 3) := by decide +kernel
theorem dX1_takeClosing_7 : decode cX1_takeClosing 7 = .ok (.iconst 1, 1) := by decide +kernel
theorem dX1_takeClosing_8 : decode cX1_takeClosing 8 = .ok (.ireturn, 1) := by decide +kernel
theorem dX1_takeClosing_9 : decode cX1_takeClosing 9 = .ok (.aload_n 0, 1) := by decide +kernel
theorem dX1_takeClosing_10 : decode cX1_takeClosing 10 = .ok (.iconst 1, 1) := by decide +kernel
theorem dX1_takeClosing_11 : decode cX1_takeClosing 11 = .ok (.invokevirtual 70, 3) := by decide +kernel
theorem dX1_takeClosing_14 : decode cX1_takeClosing 14 = .ok (.aload_n 0, 1) := by decide +kernel
theorem dX1_takeClosing_15 : decode cX1_takeClosing 15 = .ok (.iconst 0, 1) := by decide +kernel
theorem dX1_takeClosing_16 : decode cX1_takeClosing 16 = .ok (.aload_n 0, 1) := by decide +kernel
theorem dX1_takeClosing_17 : decode cX1_takeClosing 17 = .ok (.getfield 27, 3) := by decide +kernel
theorem dX1_takeClosing_20 : decode cX1_takeClosing 20 = .ok (.iconst 1, 1) := by decide +kernel
theorem dX1_takeClosing_21 : decode cX1_takeClosing 21 = .ok (.isub, 1) := by decide +kernel
theorem dX1_takeClosing_22 : decode cX1_takeClosing 22 = .ok (.invokestatic 107, 3) := by decide +kernel
theorem dX1_takeClosing_25 : decode cX1_takeClosing 25 = .ok (.putfield 27, 3) := by decide +kernel
theorem dX1_takeClosing_28 : decode cX1_takeClosing 28 = .ok (.aload_n 0, 1) := by decide +kernel
theorem dX1_takeClosing_29 : decode cX1_takeClosing 29 = .ok (.dup, 1) := by decide +kernel
theorem dX1_takeClosing_30 : decode cX1_takeClosing 30 = .ok (.getfield 30, 3) := by decide +kernel
theorem dX1_takeClosing_33 : decode cX1_takeClosing 33 = .ok (.iconst 1, 1) := by decide +kernel
theorem dX1_takeClosing_34 : decode cX1_takeClosing 34 = .ok (.isub, 1) := by decide +kernel
theorem dX1_takeClosing_35 : decode cX1_takeClosing 35 = .ok (.putfield 30, 3) := by decide +kernel
theorem dX1_takeClosing_38 : decode cX1_takeClosing 38 = .ok (.iconst 0, 1) := by decide +kernel
theorem dX1_takeClosing_39 : decode cX1_takeClosing 39 = .ok (.ireturn, 1) := by decide +kernel
theorem dX1_meetKnot_0 : decode cX1_meetKnot 0 = .ok (.aload_n 0, 1) := by decide +kernel
theorem dX1_meetKnot_1 : decode cX1_meetKnot 1 = .ok (.dup, 1) := by decide +kernel
theorem dX1_meetKnot_2 : decode cX1_meetKnot 2 = .ok (.getfield 23, 3) := by decide +kernel
theorem dX1_meetKnot_5 : decode cX1_meetKnot 5 = .ok (.iconst 1, 1) := by decide +kernel
theorem dX1_meetKnot_6 : decode cX1_meetKnot 6 = .ok (.iadd, 1) := by decide +kernel
theorem dX1_meetKnot_7 : decode cX1_meetKnot 7 = .ok (.putfield 23, 3) := by decide +kernel
theorem dX1_meetKnot_10 : decode cX1_meetKnot 10 = .ok (.aload_n 0, 1) := by decide +kernel
theorem dX1_meetKnot_11 : decode cX1_meetKnot 11 = .ok (.getfield 23, 3) := by decide +kernel
theorem dX1_meetKnot_14 : decode cX1_meetKnot 14 = .ok (.bipush 64, 2) := by decide +kernel
theorem dX1_meetKnot_16 : decode cX1_meetKnot 16 = .ok (.if_icmp .gt 7, 3) := by decide +kernel
theorem dX1_meetKnot_19 : decode cX1_meetKnot 19 = .ok (.iconst 1, 1) := by decide +kernel
theorem dX1_meetKnot_20 : decode cX1_meetKnot 20 = .ok (.goto 4, 3) := by decide +kernel
theorem dX1_meetKnot_23 : decode cX1_meetKnot 23 = .ok (.iconst 0, 1) := by decide +kernel
theorem dX1_meetKnot_24 : decode cX1_meetKnot 24 = .ok (.ireturn, 1) := by decide +kernel
theorem dX1_putOff_0 : decode cX1_putOff 0 = .ok (.aload_n 0, 1) := by decide +kernel
theorem dX1_putOff_1 : decode cX1_putOff 1 = .ok (.getfield 27, 3) := by decide +kernel
theorem dX1_putOff_4 : decode cX1_putOff 4 = .ok (.aload_n 0, 1) := by decide +kernel
theorem dX1_putOff_5 : decode cX1_putOff 5 = .ok (.getfield 9, 3) := by decide +kernel
theorem dX1_putOff_8 : decode cX1_putOff 8 = .ok (.arraylength, 1) := by decide +kernel
theorem dX1_putOff_9 : decode cX1_putOff 9 = .ok (.if_icmp .ge 23, 3) := by decide +kernel
theorem dX1_putOff_12 : decode cX1_putOff 12 = .ok (.aload_n 0, 1) := by decide +kernel
theorem dX1_putOff_13 : decode cX1_putOff 13 = .ok (.getfield 9, 3) := by decide +kernel
theorem dX1_putOff_16 : decode cX1_putOff 16 = .ok (.aload_n 0, 1) := by decide +kernel
theorem dX1_putOff_17 : decode cX1_putOff 17 = .ok (.getfield 27, 3) := by decide +kernel
theorem dX1_putOff_20 : decode cX1_putOff 20 = .ok (.iload_n 1, 1) := by decide +kernel
theorem dX1_putOff_21 : decode cX1_putOff 21 = .ok (.iastore, 1) := by decide +kernel
theorem dX1_putOff_22 : decode cX1_putOff 22 = .ok (.aload_n 0, 1) := by decide +kernel
theorem dX1_putOff_23 : decode cX1_putOff 23 = .ok (.dup, 1) := by decide +kernel
theorem dX1_putOff_24 : decode cX1_putOff 24 = .ok (.getfield 27, 3) := by decide +kernel
theorem dX1_putOff_27 : decode cX1_putOff 27 = .ok (.iconst 1, 1) := by decide +kernel
theorem dX1_putOff_28 : decode cX1_putOff 28 = .ok (.iadd, 1) := by decide +kernel
theorem dX1_putOff_29 : decode cX1_putOff 29 = .ok (.putfield 27, 3) := by decide +kernel
theorem dX1_putOff_32 : decode cX1_putOff 32 = .ok (.return_, 1) := by decide +kernel
theorem dX1_releaseDownTo_0 : decode cX1_releaseDownTo 0 = .ok (.aload_n 0, 1) := by decide +kernel
theorem dX1_releaseDownTo_1 : decode cX1_releaseDownTo 1 = .ok (.getfield 27, 3) := by decide +kernel
theorem dX1_releaseDownTo_4 : decode cX1_releaseDownTo 4 = .ok (.ifCond .le 67, 3) := by decide +kernel
theorem dX1_releaseDownTo_7 : decode cX1_releaseDownTo 7 = .ok (.aload_n 0, 1) := by decide +kernel
theorem dX1_releaseDownTo_8 : decode cX1_releaseDownTo 8 = .ok (.getfield 9, 3) := by decide +kernel
theorem dX1_releaseDownTo_11 : decode cX1_releaseDownTo 11 = .ok (.aload_n 0, 1) := by decide +kernel
theorem dX1_releaseDownTo_12 : decode cX1_releaseDownTo 12 = .ok (.getfield 27, 3) := by decide +kernel
theorem dX1_releaseDownTo_15 : decode cX1_releaseDownTo 15 = .ok (.iconst 1, 1) := by decide +kernel
theorem dX1_releaseDownTo_16 : decode cX1_releaseDownTo 16 = .ok (.isub, 1) := by decide +kernel
theorem dX1_releaseDownTo_17 : decode cX1_releaseDownTo 17 = .ok (.iaload, 1) := by decide +kernel
theorem dX1_releaseDownTo_18 : decode cX1_releaseDownTo 18 = .ok (.bipush 24, 2) := by decide +kernel
theorem dX1_releaseDownTo_20 : decode cX1_releaseDownTo 20 = .ok (.if_icmp .eq 51, 3) := by decide +kernel
theorem dX1_releaseDownTo_23 : decode cX1_releaseDownTo 23 = .ok (.aload_n 0, 1) := by decide +kernel
theorem dX1_releaseDownTo_24 : decode cX1_releaseDownTo 24 = .ok (.getfield 9, 3) := by decide +kernel
theorem dX1_releaseDownTo_27 : decode cX1_releaseDownTo 27 = .ok (.aload_n 0, 1) := by decide +kernel
theorem dX1_releaseDownTo_28 : decode cX1_releaseDownTo 28 = .ok (.getfield 27, 3) := by decide +kernel
theorem dX1_releaseDownTo_31 : decode cX1_releaseDownTo 31 = .ok (.iconst 1, 1) := by decide +kernel
theorem dX1_releaseDownTo_32 : decode cX1_releaseDownTo 32 = .ok (.isub, 1) := by decide +kernel
theorem dX1_releaseDownTo_33 : decode cX1_releaseDownTo 33 = .ok (.iaload, 1) := by decide +kernel
theorem dX1_releaseDownTo_34 : decode cX1_releaseDownTo 34 = .ok (.invokestatic 104, 3) := by decide +kernel
theorem dX1_releaseDownTo_37 : decode cX1_releaseDownTo 37 = .ok (.iload_n 1, 1) := by decide +kernel
theorem dX1_releaseDownTo_38 : decode cX1_releaseDownTo 38 = .ok (.if_icmp .lt 33, 3) := by decide +kernel
theorem dX1_releaseDownTo_41 : decode cX1_releaseDownTo 41 = .ok (.aload_n 0, 1) := by decide +kernel
theorem dX1_releaseDownTo_42 : decode cX1_releaseDownTo 42 = .ok (.dup, 1) := by decide +kernel
theorem dX1_releaseDownTo_43 : decode cX1_releaseDownTo 43 = .ok (.getfield 27, 3) := by decide +kernel
theorem dX1_releaseDownTo_46 : decode cX1_releaseDownTo 46 = .ok (.iconst 1, 1) := by decide +kernel
theorem dX1_releaseDownTo_47 : decode cX1_releaseDownTo 47 = .ok (.isub, 1) := by decide +kernel
theorem dX1_releaseDownTo_48 : decode cX1_releaseDownTo 48 = .ok (.putfield 27, 3) := by decide +kernel
theorem dX1_releaseDownTo_51 : decode cX1_releaseDownTo 51 = .ok (.aload_n 0, 1) := by decide +kernel
theorem dX1_releaseDownTo_52 : decode cX1_releaseDownTo 52 = .ok (.getfield 19, 3) := by decide +kernel
theorem dX1_releaseDownTo_55 : decode cX1_releaseDownTo 55 = .ok (.aload_n 0, 1) := by decide +kernel
theorem dX1_releaseDownTo_56 : decode cX1_releaseDownTo 56 = .ok (.getfield 9, 3) := by decide +kernel
theorem dX1_releaseDownTo_59 : decode cX1_releaseDownTo 59 = .ok (.aload_n 0, 1) := by decide +kernel
theorem dX1_releaseDownTo_60 : decode cX1_releaseDownTo 60 = .ok (.getfield 27, 3) := by decide +kernel
theorem dX1_releaseDownTo_63 : decode cX1_releaseDownTo 63 = .ok (.iaload, 1) := by decide +kernel
theorem dX1_releaseDownTo_64 : decode cX1_releaseDownTo 64 = .ok (.iconst 0, 1) := by decide +kernel
theorem dX1_releaseDownTo_65 : decode cX1_releaseDownTo 65 = .ok (.invokevirtual 100, 3) := by decide +kernel
theorem dX1_releaseDownTo_68 : decode cX1_releaseDownTo 68 = .ok (.goto (-68), 3) := by decide +kernel
theorem dX1_releaseDownTo_71 : decode cX1_releaseDownTo 71 = .ok (.return_, 1) := by decide +kernel
theorem dX1_rankOf_0 : decode cX1_rankOf 0 = .ok (.iload_n 0, 1) := by decide +kernel
theorem dX1_rankOf_1 : decode cX1_rankOf 1 = .ok (.tableswitch 136 9 35 #[123, 125, 127, 136, 136, 136, 136, 136, 136, 136, 136, 136, 136, 136, 136, 136, 136, 129, 129, 129, 129, 129, 129, 131, 131, 133, 133], 123) := by decide +kernel
theorem dX1_rankOf_124 : decode cX1_rankOf 124 = .ok (.iconst 1, 1) := by decide +kernel
theorem dX1_rankOf_125 : decode cX1_rankOf 125 = .ok (.ireturn, 1) := by decide +kernel
theorem dX1_rankOf_126 : decode cX1_rankOf 126 = .ok (.iconst 2, 1) := by decide +kernel
theorem dX1_rankOf_127 : decode cX1_rankOf 127 = .ok (.ireturn, 1) := by decide +kernel
theorem dX1_rankOf_128 : decode cX1_rankOf 128 = .ok (.iconst 3, 1) := by decide +kernel
theorem dX1_rankOf_129 : decode cX1_rankOf 129 = .ok (.ireturn, 1) := by decide +kernel
theorem dX1_rankOf_130 : decode cX1_rankOf 130 = .ok (.iconst 4, 1) := by decide +kernel
theorem dX1_rankOf_131 : decode cX1_rankOf 131 = .ok (.ireturn, 1) := by decide +kernel
theorem dX1_rankOf_132 : decode cX1_rankOf 132 = .ok (.iconst 5, 1) := by decide +kernel
theorem dX1_rankOf_133 : decode cX1_rankOf 133 = .ok (.ireturn, 1) := by decide +kernel
theorem dX1_rankOf_134 : decode cX1_rankOf 134 = .ok (.bipush 6, 2) := by decide +kernel
theorem dX1_rankOf_136 : decode cX1_rankOf 136 = .ok (.ireturn, 1) := by decide +kernel
theorem dX1_rankOf_137 : decode cX1_rankOf 137 = .ok (.iconst 0, 1) := by decide +kernel
theorem dX1_rankOf_138 : decode cX1_rankOf 138 = .ok (.ireturn, 1) := by decide +kernel
