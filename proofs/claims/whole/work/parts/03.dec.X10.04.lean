theorem dX10_stepOf_17 : decode cX10_stepOf 17 = .ok (.ireturn, 1) := by decide +kernel
theorem dX10_layNames_0 : decode cX10_layNames 0 = .ok (.aload_n 0, 1) := by decide +kernel
theorem dX10_layNames_1 : decode cX10_layNames 1 = .ok (.getfield 78, 3) := by decide +kernel
theorem dX10_layNames_4 : decode cX10_layNames 4 = .ok (.iconst 0, 1) := by decide +kernel
theorem dX10_layNames_5 : decode cX10_layNames 5 = .ok (.aload_n 0, 1) := by decide +kernel
theorem dX10_layNames_6 : decode cX10_layNames 6 = .ok (.getfield 109, 3) := by decide +kernel
theorem dX10_layNames_9 : decode cX10_layNames 9 = .ok (.iload_n 1, 1) := by decide +kernel
theorem dX10_layNames_10 : decode cX10_layNames 10 = .ok (.iaload, 1) := by decide +kernel
theorem dX10_layNames_11 : decode cX10_layNames 11 = .ok (.i2l, 1) := by decide +kernel
theorem dX10_layNames_12 : decode cX10_layNames 12 = .ok (.lastore, 1) := by decide +kernel
theorem dX10_layNames_13 : decode cX10_layNames 13 = .ok (.aload_n 0, 1) := by decide +kernel
theorem dX10_layNames_14 : decode cX10_layNames 14 = .ok (.getfield 78, 3) := by decide +kernel
theorem dX10_layNames_17 : decode cX10_layNames 17 = .ok (.iconst 1, 1) := by decide +kernel
theorem dX10_layNames_18 : decode cX10_layNames 18 = .ok (.aload_n 0, 1) := by decide +kernel
theorem dX10_layNames_19 : decode cX10_layNames 19 = .ok (.getfield 85, 3) := by decide +kernel
theorem dX10_layNames_22 : decode cX10_layNames 22 = .ok (.bipush 6, 2) := by decide +kernel
theorem dX10_layNames_24 : decode cX10_layNames 24 = .ok (.iload_n 1, 1) := by decide +kernel
theorem dX10_layNames_25 : decode cX10_layNames 25 = .ok (.imul, 1) := by decide +kernel
theorem dX10_layNames_26 : decode cX10_layNames 26 = .ok (.iload_n 2, 1) := by decide +kernel
theorem dX10_layNames_27 : decode cX10_layNames 27 = .ok (.iadd, 1) := by decide +kernel
theorem dX10_layNames_28 : decode cX10_layNames 28 = .ok (.iaload, 1) := by decide +kernel
theorem dX10_layNames_29 : decode cX10_layNames 29 = .ok (.i2l, 1) := by decide +kernel
theorem dX10_layNames_30 : decode cX10_layNames 30 = .ok (.lastore, 1) := by decide +kernel
theorem dX10_layNames_31 : decode cX10_layNames 31 = .ok (.aload_n 0, 1) := by decide +kernel
theorem dX10_layNames_32 : decode cX10_layNames 32 = .ok (.getfield 78, 3) := by decide +kernel
theorem dX10_layNames_35 : decode cX10_layNames 35 = .ok (.iconst 2, 1) := by decide +kernel
theorem dX10_layNames_36 : decode cX10_layNames 36 = .ok (.aload_n 0, 1) := by decide +kernel
theorem dX10_layNames_37 : decode cX10_layNames 37 = .ok (.getfield 33, 3) := by decide +kernel
theorem dX10_layNames_40 : decode cX10_layNames 40 = .ok (.iload_n 2, 1) := by decide +kernel
theorem dX10_layNames_41 : decode cX10_layNames 41 = .ok (.iaload, 1) := by decide +kernel
theorem dX10_layNames_42 : decode cX10_layNames 42 = .ok (.i2l, 1) := by decide +kernel
theorem dX10_layNames_43 : decode cX10_layNames 43 = .ok (.lastore, 1) := by decide +kernel
theorem dX10_layNames_44 : decode cX10_layNames 44 = .ok (.aload_n 0, 1) := by decide +kernel
theorem dX10_layNames_45 : decode cX10_layNames 45 = .ok (.getfield 78, 3) := by decide +kernel
theorem dX10_layNames_48 : decode cX10_layNames 48 = .ok (.iconst 3, 1) := by decide +kernel
theorem dX10_layNames_49 : decode cX10_layNames 49 = .ok (.aload_n 0, 1) := by decide +kernel
theorem dX10_layNames_50 : decode cX10_layNames 50 = .ok (.getfield 88, 3) := by decide +kernel
theorem dX10_layNames_53 : decode cX10_layNames 53 = .ok (.bipush 6, 2) := by decide +kernel
theorem dX10_layNames_55 : decode cX10_layNames 55 = .ok (.iload_n 1, 1) := by decide +kernel
theorem dX10_layNames_56 : decode cX10_layNames 56 = .ok (.imul, 1) := by decide +kernel
theorem dX10_layNames_57 : decode cX10_layNames 57 = .ok (.iload_n 2, 1) := by decide +kernel
theorem dX10_layNames_58 : decode cX10_layNames 58 = .ok (.iadd, 1) := by decide +kernel
theorem dX10_layNames_59 : decode cX10_layNames 59 = .ok (.iaload, 1) := by decide +kernel
theorem dX10_layNames_60 : decode cX10_layNames 60 = .ok (.i2l, 1) := by decide +kernel
theorem dX10_layNames_61 : decode cX10_layNames 61 = .ok (.lastore, 1) := by decide +kernel
theorem dX10_layNames_62 : decode cX10_layNames 62 = .ok (.aload_n 0, 1) := by decide +kernel
theorem dX10_layNames_63 : decode cX10_layNames 63 = .ok (.getfield 78, 3) := by decide +kernel
theorem dX10_layNames_66 : decode cX10_layNames 66 = .ok (.iconst 4, 1) := by decide +kernel
theorem dX10_layNames_67 : decode cX10_layNames 67 = .ok (.aload_n 0, 1) := by decide +kernel
theorem dX10_layNames_68 : decode cX10_layNames 68 = .ok (.getfield 91, 3) := by decide +kernel
theorem dX10_layNames_71 : decode cX10_layNames 71 = .ok (.bipush 6, 2) := by decide +kernel
theorem dX10_layNames_73 : decode cX10_layNames 73 = .ok (.iload_n 1, 1) := by decide +kernel
theorem dX10_layNames_74 : decode cX10_layNames 74 = .ok (.imul, 1) := by decide +kernel
theorem dX10_layNames_75 : decode cX10_layNames 75 = .ok (.iload_n 2, 1) := by decide +kernel
theorem dX10_layNames_76 : decode cX10_layNames 76 = .ok (.iadd, 1) := by decide +kernel
theorem dX10_layNames_77 : decode cX10_layNames 77 = .ok (.iaload, 1) := by decide +kernel
theorem dX10_layNames_78 : decode cX10_layNames 78 = .ok (.i2l, 1) := by decide +kernel
theorem dX10_layNames_79 : decode cX10_layNames 79 = .ok (.lastore, 1) := by decide +kernel
theorem dX10_layNames_80 : decode cX10_layNames 80 = .ok (.aload_n 0, 1) := by decide +kernel
theorem dX10_layNames_81 : decode cX10_layNames 81 = .ok (.getfield 78, 3) := by decide +kernel
theorem dX10_layNames_84 : decode cX10_layNames 84 = .ok (.iconst 5, 1) := by decide +kernel
theorem dX10_layNames_85 : decode cX10_layNames 85 = .ok (.aload_n 0, 1) := by decide +kernel
theorem dX10_layNames_86 : decode cX10_layNames 86 = .ok (.getfield 115, 3) := by decide +kernel
theorem dX10_layNames_89 : decode cX10_layNames 89 = .ok (.iload_n 1, 1) := by decide +kernel
theorem dX10_layNames_90 : decode cX10_layNames 90 = .ok (.iaload, 1) := by decide +kernel
theorem dX10_layNames_91 : decode cX10_layNames 91 = .ok (.i2l, 1) := by decide +kernel
theorem dX10_layNames_92 : decode cX10_layNames 92 = .ok (.lastore, 1) := by decide +kernel
theorem dX10_layNames_93 : decode cX10_layNames 93 = .ok (.aload_n 0, 1) := by decide +kernel
theorem dX10_layNames_94 : decode cX10_layNames 94 = .ok (.getfield 78, 3) := by decide +kernel
theorem dX10_layNames_97 : decode cX10_layNames 97 = .ok (.bipush 6, 2) := by decide +kernel
theorem dX10_layNames_99 : decode cX10_layNames 99 = .ok (.aload_n 0, 1) := by decide +kernel
theorem dX10_layNames_100 : decode cX10_layNames 100 = .ok (.getfield 124, 3) := by decide +kernel
theorem dX10_layNames_103 : decode cX10_layNames 103 = .ok (.iload_n 1, 1) := by decide +kernel
theorem dX10_layNames_104 : decode cX10_layNames 104 = .ok (.iaload, 1) := by decide +kernel
theorem dX10_layNames_105 : decode cX10_layNames 105 = .ok (.i2l, 1) := by decide +kernel
theorem dX10_layNames_106 : decode cX10_layNames 106 = .ok (.lastore, 1) := by decide +kernel
theorem dX10_layNames_107 : decode cX10_layNames 107 = .ok (.return_, 1) := by decide +kernel
theorem dX10_lawOf_0 : decode cX10_lawOf 0 = .ok (.aload_n 0, 1) := by decide +kernel
theorem dX10_lawOf_1 : decode cX10_lawOf 1 = .ok (.iconst 0, 1) := by decide +kernel
theorem dX10_lawOf_2 : decode cX10_lawOf 2 = .ok (.putfield 315, 3) := by decide +kernel
theorem dX10_lawOf_5 : decode cX10_lawOf 5 = .ok (.aload_n 0, 1) := by decide +kernel
theorem dX10_lawOf_6 : decode cX10_lawOf 6 = .ok (.getfield 57, 3) := by decide +kernel
theorem dX10_lawOf_9 : decode cX10_lawOf 9 = .ok (.iload_n 1, 1) := by decide +kernel
theorem dX10_lawOf_10 : decode cX10_lawOf 10 = .ok (.iaload, 1) := by decide +kernel
theorem dX10_lawOf_11 : decode cX10_lawOf 11 = .ok (.istore_n 2, 1) := by decide +kernel
theorem dX10_lawOf_12 : decode cX10_lawOf 12 = .ok (.iload_n 2, 1) := by decide +kernel
theorem dX10_lawOf_13 : decode cX10_lawOf 13 = .ok (.aload_n 0, 1) := by decide +kernel
theorem dX10_lawOf_14 : decode cX10_lawOf 14 = .ok (.getfield 60, 3) := by decide +kernel
theorem dX10_lawOf_17 : decode cX10_lawOf 17 = .ok (.iload_n 1, 1) := by decide +kernel
theorem dX10_lawOf_18 : decode cX10_lawOf 18 = .ok (.iaload, 1) := by decide +kernel
theorem dX10_lawOf_19 : decode cX10_lawOf 19 = .ok (.if_icmp .ge 20, 3) := by decide +kernel
theorem dX10_lawOf_22 : decode cX10_lawOf 22 = .ok (.aload_n 0, 1) := by decide +kernel
theorem dX10_lawOf_23 : decode cX10_lawOf 23 = .ok (.getfield 82, 3) := by decide +kernel
theorem dX10_lawOf_26 : decode cX10_lawOf 26 = .ok (.iload_n 2, 1) := by decide +kernel
theorem dX10_lawOf_27 : decode cX10_lawOf 27 = .ok (.aload_n 0, 1) := by decide +kernel
theorem dX10_lawOf_28 : decode cX10_lawOf 28 = .ok (.iload_n 2, 1) := by decide +kernel
theorem dX10_lawOf_29 : decode cX10_lawOf 29 = .ok (.invokevirtual 371, 3) := by decide +kernel
theorem dX10_lawOf_32 : decode cX10_lawOf 32 = .ok (.lastore, 1) := by decide +kernel
theorem dX10_lawOf_33 : decode cX10_lawOf 33 = .ok (.iinc 2 1, 3) := by decide +kernel
theorem dX10_lawOf_36 : decode cX10_lawOf 36 = .ok (.goto (-24), 3) := by decide +kernel
theorem dX10_lawOf_39 : decode cX10_lawOf 39 = .ok (.aload_n 0, 1) := by decide +kernel
theorem dX10_lawOf_40 : decode cX10_lawOf 40 = .ok (.getfield 315, 3) := by decide +kernel
theorem dX10_lawOf_43 : decode cX10_lawOf 43 = .ok (.ifCond .eq 7, 3) := by decide +kernel
theorem dX10_lawOf_46 : decode cX10_lawOf 46 = .ok (.lconst 0, 1) := by decide +kernel
theorem dX10_lawOf_47 : decode cX10_lawOf 47 = .ok (.goto 16, 3) := by decide +kernel
theorem dX10_lawOf_50 : decode cX10_lawOf 50 = .ok (.aload_n 0, 1) := by decide +kernel
theorem dX10_lawOf_51 : decode cX10_lawOf 51 = .ok (.getfield 82, 3) := by decide +kernel
theorem dX10_lawOf_54 : decode cX10_lawOf 54 = .ok (.aload_n 0, 1) := by decide +kernel
theorem dX10_lawOf_55 : decode cX10_lawOf 55 = .ok (.getfield 60, 3) := by decide +kernel
theorem dX10_lawOf_58 : decode cX10_lawOf 58 = .ok (.iload_n 1, 1) := by decide +kernel
theorem dX10_lawOf_59 : decode cX10_lawOf 59 = .ok (.iaload, 1) := by decide +kernel
theorem dX10_lawOf_60 : decode cX10_lawOf 60 = .ok (.iconst 1, 1) := by decide +kernel
theorem dX10_lawOf_61 : decode cX10_lawOf 61 = .ok (.isub, 1) := by decide +kernel
theorem dX10_lawOf_62 : decode cX10_lawOf 62 = .ok (.laload, 1) := by decide +kernel
theorem dX10_lawOf_63 : decode cX10_lawOf 63 = .ok (.lreturn, 1) := by decide +kernel
theorem dX10_boundLaw_0 : decode cX10_boundLaw 0 = .ok (.aload_n 0, 1) := by decide +kernel
theorem dX10_boundLaw_1 : decode cX10_boundLaw 1 = .ok (.getfield 54, 3) := by decide +kernel
theorem dX10_boundLaw_4 : decode cX10_boundLaw 4 = .ok (.iload_n 1, 1) := by decide +kernel
theorem dX10_boundLaw_5 : decode cX10_boundLaw 5 = .ok (.baload, 1) := by decide +kernel
theorem dX10_boundLaw_6 : decode cX10_boundLaw 6 = .ok (.ifCond .ne 5, 3) := by decide +kernel
theorem dX10_boundLaw_9 : decode cX10_boundLaw 9 = .ok (.iload_n 2, 1) := by decide +kernel
theorem dX10_boundLaw_10 : decode cX10_boundLaw 10 = .ok (.ireturn, 1) := by decide +kernel
theorem dX10_boundLaw_11 : decode cX10_boundLaw 11 = .ok (.aload_n 0, 1) := by decide +kernel
theorem dX10_boundLaw_12 : decode cX10_boundLaw 12 = .ok (.iload_n 1, 1) := by decide +kernel
theorem dX10_boundLaw_13 : decode cX10_boundLaw 13 = .ok (.invokevirtual 375, 3) := by decide +kernel
theorem dX10_boundLaw_16 : decode cX10_boundLaw 16 = .ok (.lstore 4, 2) := by decide +kernel
theorem dX10_boundLaw_18 : decode cX10_boundLaw 18 = .ok (.aload_n 0, 1) := by decide +kernel
theorem dX10_boundLaw_19 : decode cX10_boundLaw 19 = .ok (.getfield 315, 3) := by decide +kernel
theorem dX10_boundLaw_22 : decode cX10_boundLaw 22 = .ok (.ifCond .eq 5, 3) := by decide +kernel
theorem dX10_boundLaw_25 : decode cX10_boundLaw 25 = .ok (.iload_n 2, 1) := by decide +kernel
theorem dX10_boundLaw_26 : decode cX10_boundLaw 26 = .ok (.ireturn, 1) := by decide +kernel
theorem dX10_boundLaw_27 : decode cX10_boundLaw 27 = .ok (.lload 4, 2) := by decide +kernel
theorem dX10_boundLaw_29 : decode cX10_boundLaw 29 = .ok (.lconst 0, 1) := by decide +kernel
theorem dX10_boundLaw_30 : decode cX10_boundLaw 30 = .ok (.lcmp, 1) := by decide +kernel
theorem dX10_boundLaw_31 : decode cX10_boundLaw 31 = .ok (.ifCond .ge 7, 3) := by decide +kernel
theorem dX10_boundLaw_34 : decode cX10_boundLaw 34 = .ok (.iconst 0, 1) := by decide +kernel
theorem dX10_boundLaw_35 : decode cX10_boundLaw 35 = .ok (.goto 18, 3) := by decide +kernel
theorem dX10_boundLaw_38 : decode cX10_boundLaw 38 = .ok (.lload 4, 2) := by decide +kernel
theorem dX10_boundLaw_40 : decode cX10_boundLaw 40 = .ok (.iload_n 3, 1) := by decide +kernel
theorem dX10_boundLaw_41 : decode cX10_boundLaw 41 = .ok (.i2l, 1) := by decide +kernel
theorem dX10_boundLaw_42 : decode cX10_boundLaw 42 = .ok (.lcmp, 1) := by decide +kernel
theorem dX10_boundLaw_43 : decode cX10_boundLaw 43 = .ok (.ifCond .le 7, 3) := by decide +kernel
theorem dX10_boundLaw_46 : decode cX10_boundLaw 46 = .ok (.iload_n 3, 1) := by decide +kernel
theorem dX10_boundLaw_47 : decode cX10_boundLaw 47 = .ok (.goto 6, 3) := by decide +kernel
theorem dX10_boundLaw_50 : decode cX10_boundLaw 50 = .ok (.lload 4, 2) := by decide +kernel
theorem dX10_boundLaw_52 : decode cX10_boundLaw 52 = .ok (.l2i, 1) := by decide +kernel
theorem dX10_boundLaw_53 : decode cX10_boundLaw 53 = .ok (.ireturn, 1) := by decide +kernel
theorem dX10_deathOf_0 : decode cX10_deathOf 0 = .ok (.aload_n 0, 1) := by decide +kernel
theorem dX10_deathOf_1 : decode cX10_deathOf 1 = .ok (.iload_n 1, 1) := by decide +kernel
theorem dX10_deathOf_2 : decode cX10_deathOf 2 = .ok (.iload_n 2, 1) := by decide +kernel
theorem dX10_deathOf_3 : decode cX10_deathOf 3 = .ok (.invokevirtual 378, 3) := by decide +kernel
theorem dX10_deathOf_6 : decode cX10_deathOf 6 = .ok (.aload_n 0, 1) := by decide +kernel
theorem dX10_deathOf_7 : decode cX10_deathOf 7 = .ok (.getfield 88, 3) := by decide +kernel
theorem dX10_deathOf_10 : decode cX10_deathOf 10 = .ok (.bipush 6, 2) := by decide +kernel
theorem dX10_deathOf_12 : decode cX10_deathOf 12 = .ok (.iload_n 1, 1) := by decide +kernel
theorem dX10_deathOf_13 : decode cX10_deathOf 13 = .ok (.imul, 1) := by decide +kernel
theorem dX10_deathOf_14 : decode cX10_deathOf 14 = .ok (.iload_n 2, 1) := by decide +kernel
theorem dX10_deathOf_15 : decode cX10_deathOf 15 = .ok (.iadd, 1) := by decide +kernel
theorem dX10_deathOf_16 : decode cX10_deathOf 16 = .ok (.iaload, 1) := by decide +kernel
theorem dX10_deathOf_17 : decode cX10_deathOf 17 = .ok (.bipush 40, 2) := by decide +kernel
theorem dX10_deathOf_19 : decode cX10_deathOf 19 = .ok (.isub, 1) := by decide +kernel
theorem dX10_deathOf_20 : decode cX10_deathOf 20 = .ok (.istore_n 3, 1) := by decide +kernel
theorem dX10_deathOf_21 : decode cX10_deathOf 21 = .ok (.aload_n 0, 1) := by decide +kernel
theorem dX10_deathOf_22 : decode cX10_deathOf 22 = .ok (.iconst 0, 1) := by decide +kernel
theorem dX10_deathOf_23 : decode cX10_deathOf 23 = .ok (.iload_n 3, 1) := by decide +kernel
theorem dX10_deathOf_24 : decode cX10_deathOf 24 = .ok (.ifCond .ge 7, 3) := by decide +kernel
theorem dX10_deathOf_27 : decode cX10_deathOf 27 = .ok (.iconst 0, 1) := by decide +kernel
theorem dX10_deathOf_28 : decode cX10_deathOf 28 = .ok (.goto 4, 3) := by decide +kernel
theorem dX10_deathOf_31 : decode cX10_deathOf 31 = .ok (.iload_n 3, 1) := by decide +kernel
theorem dX10_deathOf_32 : decode cX10_deathOf 32 = .ok (.bipush 100, 2) := by decide +kernel
theorem dX10_deathOf_34 : decode cX10_deathOf 34 = .ok (.invokevirtual 382, 3) := by decide +kernel
theorem dX10_deathOf_37 : decode cX10_deathOf 37 = .ok (.ireturn, 1) := by decide +kernel
theorem dX10_number1_0 : decode cX10_number1 0 = .ok (.aload_n 0, 1) := by decide +kernel
theorem dX10_number1_1 : decode cX10_number1 1 = .ok (.aload_n 0, 1) := by decide +kernel
theorem dX10_number1_2 : decode cX10_number1 2 = .ok (.getfield 337, 3) := by decide +kernel
theorem dX10_number1_5 : decode cX10_number1 5 = .ok (.ldc2_w 386, 3) := by decide +kernel
theorem dX10_number1_8 : decode cX10_number1 8 = .ok (.lmul, 1) := by decide +kernel
theorem dX10_number1_9 : decode cX10_number1 9 = .ok (.ldc2_w 388, 3) := by decide +kernel
theorem dX10_number1_12 : decode cX10_number1 12 = .ok (.ladd, 1) := by decide +kernel
theorem dX10_number1_13 : decode cX10_number1 13 = .ok (.ldc2_w 390, 3) := by decide +kernel
theorem dX10_number1_16 : decode cX10_number1 16 = .ok (.land, 1) := by decide +kernel
theorem dX10_number1_17 : decode cX10_number1 17 = .ok (.putfield 337, 3) := by decide +kernel
theorem dX10_number1_20 : decode cX10_number1 20 = .ok (.aload_n 0, 1) := by decide +kernel
theorem dX10_number1_21 : decode cX10_number1 21 = .ok (.getfield 337, 3) := by decide +kernel
theorem dX10_number1_24 : decode cX10_number1 24 = .ok (.ldc2_w 392, 3) := by decide +kernel
theorem dX10_number1_27 : decode cX10_number1 27 = .ok (.ldiv, 1) := by decide +kernel
theorem dX10_number1_28 : decode cX10_number1 28 = .ok (.iload_n 1, 1) := by decide +kernel
theorem dX10_number1_29 : decode cX10_number1 29 = .ok (.i2l, 1) := by decide +kernel
theorem dX10_number1_30 : decode cX10_number1 30 = .ok (.lrem, 1) := by decide +kernel
theorem dX10_number1_31 : decode cX10_number1 31 = .ok (.l2i, 1) := by decide +kernel
theorem dX10_number1_32 : decode cX10_number1 32 = .ok (.ireturn, 1) := by decide +kernel
theorem dX10_isDying_0 : decode cX10_isDying 0 = .ok (.aload_n 0, 1) := by decide +kernel
theorem dX10_isDying_1 : decode cX10_isDying 1 = .ok (.getfield 356, 3) := by decide +kernel
theorem dX10_isDying_4 : decode cX10_isDying 4 = .ok (.ifCond .eq 5, 3) := by decide +kernel
theorem dX10_isDying_7 : decode cX10_isDying 7 = .ok (.iconst 0, 1) := by decide +kernel
theorem dX10_isDying_8 : decode cX10_isDying 8 = .ok (.ireturn, 1) := by decide +kernel
theorem dX10_isDying_9 : decode cX10_isDying 9 = .ok (.aload_n 0, 1) := by decide +kernel
theorem dX10_isDying_10 : decode cX10_isDying 10 = .ok (.iload_n 1, 1) := by decide +kernel
theorem dX10_isDying_11 : decode cX10_isDying 11 = .ok (.iload_n 2, 1) := by decide +kernel
theorem dX10_isDying_12 : decode cX10_isDying 12 = .ok (.invokevirtual 394, 3) := by decide +kernel
theorem dX10_isDying_15 : decode cX10_isDying 15 = .ok (.istore_n 3, 1) := by decide +kernel
theorem dX10_isDying_16 : decode cX10_isDying 16 = .ok (.iload_n 3, 1) := by decide +kernel
theorem dX10_isDying_17 : decode cX10_isDying 17 = .ok (.ifCond .eq 9, 3) := by decide +kernel
theorem dX10_isDying_20 : decode cX10_isDying 20 = .ok (.iload_n 3, 1) := by decide +kernel
theorem dX10_isDying_21 : decode cX10_isDying 21 = .ok (.bipush 100, 2) := by decide +kernel
theorem dX10_isDying_23 : decode cX10_isDying 23 = .ok (.if_icmp .ne 15, 3) := by decide +kernel
theorem dX10_isDying_26 : decode cX10_isDying 26 = .ok (.iload_n 3, 1) := by decide +kernel
theorem dX10_isDying_27 : decode cX10_isDying 27 = .ok (.bipush 100, 2) := by decide +kernel
theorem dX10_isDying_29 : decode cX10_isDying 29 = .ok (.if_icmp .ne 7, 3) := by decide +kernel
theorem dX10_isDying_32 : decode cX10_isDying 32 = .ok (.iconst 1, 1) := by decide +kernel
theorem dX10_isDying_33 : decode cX10_isDying 33 = .ok (.goto 4, 3) := by decide +kernel
theorem dX10_isDying_36 : decode cX10_isDying 36 = .ok (.iconst 0, 1) := by decide +kernel
theorem dX10_isDying_37 : decode cX10_isDying 37 = .ok (.ireturn, 1) := by decide +kernel
theorem dX10_isDying_38 : decode cX10_isDying 38 = .ok (.aload_n 0, 1) := by decide +kernel
theorem dX10_isDying_39 : decode cX10_isDying 39 = .ok (.getfield 353, 3) := by decide +kernel
theorem dX10_isDying_42 : decode cX10_isDying 42 = .ok (.ifCond .eq 21, 3) := by decide +kernel
theorem dX10_isDying_45 : decode cX10_isDying 45 = .ok (.iload_n 3, 1) := by decide +kernel
theorem dX10_isDying_46 : decode cX10_isDying 46 = .ok (.aload_n 0, 1) := by decide +kernel
theorem dX10_isDying_47 : decode cX10_isDying 47 = .ok (.bipush 100, 2) := by decide +kernel
theorem dX10_isDying_49 : decode cX10_isDying 49 = .ok (.invokevirtual 397, 3) := by decide +kernel
theorem dX10_isDying_52 : decode cX10_isDying 52 = .ok (.if_icmp .le 7, 3) := by decide +kernel
theorem dX10_isDying_55 : decode cX10_isDying 55 = .ok (.iconst 1, 1) := by decide +kernel
theorem dX10_isDying_56 : decode cX10_isDying 56 = .ok (.goto 18, 3) := by decide +kernel
theorem dX10_isDying_59 : decode cX10_isDying 59 = .ok (.iconst 0, 1) := by decide +kernel
theorem dX10_isDying_60 : decode cX10_isDying 60 = .ok (.goto 14, 3) := by decide +kernel
theorem dX10_isDying_63 : decode cX10_isDying 63 = .ok (.iload_n 3, 1) := by decide +kernel
theorem dX10_isDying_64 : decode cX10_isDying 64 = .ok (.bipush 50, 2) := by decide +kernel
theorem dX10_isDying_66 : decode cX10_isDying 66 = .ok (.if_icmp .lt 7, 3) := by decide +kernel
theorem dX10_isDying_69 : decode cX10_isDying 69 = .ok (.iconst 1, 1) := by decide +kernel
theorem dX10_isDying_70 : decode cX10_isDying 70 = .ok (.goto 4, 3) := by decide +kernel
theorem dX10_isDying_73 : decode cX10_isDying 73 = .ok (.iconst 0, 1) := by decide +kernel
theorem dX10_isDying_74 : decode cX10_isDying 74 = .ok (.ireturn, 1) := by decide +kernel
theorem dX10_dies_0 : decode cX10_dies 0 = .ok (.bipush 6, 2) := by decide +kernel
theorem dX10_dies_2 : decode cX10_dies 2 = .ok (.iload_n 1, 1) := by decide +kernel
theorem dX10_dies_3 : decode cX10_dies 3 = .ok (.imul, 1) := by decide +kernel
theorem dX10_dies_4 : decode cX10_dies 4 = .ok (.iload_n 2, 1) := by decide +kernel
theorem dX10_dies_5 : decode cX10_dies 5 = .ok (.iadd, 1) := by decide +kernel
theorem dX10_dies_6 : decode cX10_dies 6 = .ok (.istore_n 3, 1) := by decide +kernel
theorem dX10_dies_7 : decode cX10_dies 7 = .ok (.aload_n 0, 1) := by decide +kernel
theorem dX10_dies_8 : decode cX10_dies 8 = .ok (.getfield 121, 3) := by decide +kernel
theorem dX10_dies_11 : decode cX10_dies 11 = .ok (.iload_n 1, 1) := by decide +kernel
theorem dX10_dies_12 : decode cX10_dies 12 = .ok (.dup2, 1) := by decide +kernel
theorem dX10_dies_13 : decode cX10_dies 13 = .ok (.iaload, 1) := by decide +kernel
theorem dX10_dies_14 : decode cX10_dies 14 = .ok (.iconst 1, 1) := by decide +kernel
theorem dX10_dies_15 : decode cX10_dies 15 = .ok (.iadd, 1) := by decide +kernel
theorem dX10_dies_16 : decode cX10_dies 16 = .ok (.iastore, 1) := by decide +kernel
theorem dX10_dies_17 : decode cX10_dies 17 = .ok (.aload_n 0, 1) := by decide +kernel
theorem dX10_dies_18 : decode cX10_dies 18 = .ok (.getfield 91, 3) := by decide +kernel
theorem dX10_dies_21 : decode cX10_dies 21 = .ok (.iload_n 3, 1) := by decide +kernel
theorem dX10_dies_22 : decode cX10_dies 22 = .ok (.iaload, 1) := by decide +kernel
theorem dX10_dies_23 : decode cX10_dies 23 = .ok (.ifCond .ne 18, 3) := by decide +kernel
theorem dX10_dies_26 : decode cX10_dies 26 = .ok (.aload_n 0, 1) := by decide +kernel
theorem dX10_dies_27 : decode cX10_dies 27 = .ok (.getfield 359, 3) := by decide +kernel
theorem dX10_dies_30 : decode cX10_dies 30 = .ok (.ifCond .ne 11, 3) := by decide +kernel
theorem dX10_dies_33 : decode cX10_dies 33 = .ok (.aload_n 0, 1) := by decide +kernel
theorem dX10_dies_34 : decode cX10_dies 34 = .ok (.getfield 94, 3) := by decide +kernel
theorem dX10_dies_37 : decode cX10_dies 37 = .ok (.iload_n 3, 1) := by decide +kernel
theorem dX10_dies_38 : decode cX10_dies 38 = .ok (.iconst 0, 1) := by decide +kernel
theorem dX10_dies_39 : decode cX10_dies 39 = .ok (.bastore, 1) := by decide +kernel
theorem dX10_dies_40 : decode cX10_dies 40 = .ok (.return_, 1) := by decide +kernel
theorem dX10_dies_41 : decode cX10_dies 41 = .ok (.aload_n 0, 1) := by decide +kernel
theorem dX10_dies_42 : decode cX10_dies 42 = .ok (.getfield 91, 3) := by decide +kernel
theorem dX10_dies_45 : decode cX10_dies 45 = .ok (.iload_n 3, 1) := by decide +kernel
theorem dX10_dies_46 : decode cX10_dies 46 = .ok (.aload_n 0, 1) := by decide +kernel
theorem dX10_dies_47 : decode cX10_dies 47 = .ok (.getfield 91, 3) := by decide +kernel
theorem dX10_dies_50 : decode cX10_dies 50 = .ok (.iload_n 3, 1) := by decide +kernel
theorem dX10_dies_51 : decode cX10_dies 51 = .ok (.iaload, 1) := by decide +kernel
theorem dX10_dies_52 : decode cX10_dies 52 = .ok (.ifCond .le 14, 3) := by decide +kernel
theorem dX10_dies_55 : decode cX10_dies 55 = .ok (.aload_n 0, 1) := by decide +kernel
theorem dX10_dies_56 : decode cX10_dies 56 = .ok (.getfield 91, 3) := by decide +kernel
theorem dX10_dies_59 : decode cX10_dies 59 = .ok (.iload_n 3, 1) := by decide +kernel
theorem dX10_dies_60 : decode cX10_dies 60 = .ok (.iaload, 1) := by decide +kernel
theorem dX10_dies_61 : decode cX10_dies 61 = .ok (.iconst 1, 1) := by decide +kernel
theorem dX10_dies_62 : decode cX10_dies 62 = .ok (.isub, 1) := by decide +kernel
theorem dX10_dies_63 : decode cX10_dies 63 = .ok (.goto 4, 3) := by decide +kernel
theorem dX10_dies_66 : decode cX10_dies 66 = .ok (.iconst 0, 1) := by decide +kernel
theorem dX10_dies_67 : decode cX10_dies 67 = .ok (.iastore, 1) := by decide +kernel
theorem dX10_dies_68 : decode cX10_dies 68 = .ok (.aload_n 0, 1) := by decide +kernel
theorem dX10_dies_69 : decode cX10_dies 69 = .ok (.iload_n 1, 1) := by decide +kernel
theorem dX10_dies_70 : decode cX10_dies 70 = .ok (.iload_n 2, 1) := by decide +kernel
theorem dX10_dies_71 : decode cX10_dies 71 = .ok (.invokevirtual 378, 3) := by decide +kernel
theorem dX10_dies_74 : decode cX10_dies 74 = .ok (.aload_n 0, 1) := by decide +kernel
theorem dX10_dies_75 : decode cX10_dies 75 = .ok (.getfield 85, 3) := by decide +kernel
theorem dX10_dies_78 : decode cX10_dies 78 = .ok (.iload_n 3, 1) := by decide +kernel
theorem dX10_dies_79 : decode cX10_dies 79 = .ok (.aload_n 0, 1) := by decide +kernel
theorem dX10_dies_80 : decode cX10_dies 80 = .ok (.iconst 1, 1) := by decide +kernel
theorem dX10_dies_81 : decode cX10_dies 81 = .ok (.aload_n 0, 1) := by decide +kernel
theorem dX10_dies_82 : decode cX10_dies 82 = .ok (.getfield 85, 3) := by decide +kernel
theorem dX10_dies_85 : decode cX10_dies 85 = .ok (.iload_n 3, 1) := by decide +kernel
theorem dX10_dies_86 : decode cX10_dies 86 = .ok (.iaload, 1) := by decide +kernel
theorem dX10_dies_87 : decode cX10_dies 87 = .ok (.sipush 9999, 3) := by decide +kernel
theorem dX10_dies_90 : decode cX10_dies 90 = .ok (.invokevirtual 382, 3) := by decide +kernel
theorem dX10_dies_93 : decode cX10_dies 93 = .ok (.iastore, 1) := by decide +kernel
theorem dX10_dies_94 : decode cX10_dies 94 = .ok (.aload_n 0, 1) := by decide +kernel
theorem dX10_dies_95 : decode cX10_dies 95 = .ok (.getfield 88, 3) := by decide +kernel
theorem dX10_dies_98 : decode cX10_dies 98 = .ok (.iload_n 3, 1) := by decide +kernel
theorem dX10_dies_99 : decode cX10_dies 99 = .ok (.bipush 20, 2) := by decide +kernel
theorem dX10_dies_101 : decode cX10_dies 101 = .ok (.iastore, 1) := by decide +kernel
theorem dX10_dies_102 : decode cX10_dies 102 = .ok (.return_, 1) := by decide +kernel
theorem dX10_turnOf_0 : decode cX10_turnOf 0 = .ok (.iconst 0, 1) := by decide +kernel
theorem dX10_turnOf_1 : decode cX10_turnOf 1 = .ok (.istore_n 2, 1) := by decide +kernel
theorem dX10_turnOf_2 : decode cX10_turnOf 2 = .ok (.iload_n 2, 1) := by decide +kernel
theorem dX10_turnOf_3 : decode cX10_turnOf 3 = .ok (.aload_n 0, 1) := by decide +kernel
theorem dX10_turnOf_4 : decode cX10_turnOf 4 = .ok (.getfield 225, 3) := by decide +kernel
theorem dX10_turnOf_7 : decode cX10_turnOf 7 = .ok (.if_icmp .ge 34, 3) := by decide +kernel
theorem dX10_turnOf_10 : decode cX10_turnOf 10 = .ok (.aload_n 0, 1) := by decide +kernel
theorem dX10_turnOf_11 : decode cX10_turnOf 11 = .ok (.getfield 124, 3) := by decide +kernel
theorem dX10_turnOf_14 : decode cX10_turnOf 14 = .ok (.iload_n 1, 1) := by decide +kernel
theorem dX10_turnOf_15 : decode cX10_turnOf 15 = .ok (.iaload, 1) := by decide +kernel
theorem dX10_turnOf_16 : decode cX10_turnOf 16 = .ok (.iload_n 2, 1) := by decide +kernel
theorem dX10_turnOf_17 : decode cX10_turnOf 17 = .ok (.iadd, 1) := by decide +kernel
theorem dX10_turnOf_18 : decode cX10_turnOf 18 = .ok (.aload_n 0, 1) := by decide +kernel
theorem dX10_turnOf_19 : decode cX10_turnOf 19 = .ok (.getfield 225, 3) := by decide +kernel
theorem dX10_turnOf_22 : decode cX10_turnOf 22 = .ok (.irem, 1) := by decide +kernel
theorem dX10_turnOf_23 : decode cX10_turnOf 23 = .ok (.istore_n 3, 1) := by decide +kernel
theorem dX10_turnOf_24 : decode cX10_turnOf 24 = .ok (.aload_n 0, 1) := by decide +kernel
theorem dX10_turnOf_25 : decode cX10_turnOf 25 = .ok (.iload_n 1, 1) := by decide +kernel
theorem dX10_turnOf_26 : decode cX10_turnOf 26 = .ok (.iload_n 3, 1) := by decide +kernel
theorem dX10_turnOf_27 : decode cX10_turnOf 27 = .ok (.invokevirtual 400, 3) := by decide +kernel
theorem dX10_turnOf_30 : decode cX10_turnOf 30 = .ok (.ifCond .eq 5, 3) := by decide +kernel
theorem dX10_turnOf_33 : decode cX10_turnOf 33 = .ok (.iload_n 3, 1) := by decide +kernel
theorem dX10_turnOf_34 : decode cX10_turnOf 34 = .ok (.ireturn, 1) := by decide +kernel
theorem dX10_turnOf_35 : decode cX10_turnOf 35 = .ok (.iinc 2 1, 3) := by decide +kernel
theorem dX10_turnOf_38 : decode cX10_turnOf 38 = .ok (.goto (-36), 3) := by decide +kernel
theorem dX10_turnOf_41 : decode cX10_turnOf 41 = .ok (.iconst (-1), 1) := by decide +kernel
theorem dX10_turnOf_42 : decode cX10_turnOf 42 = .ok (.ireturn, 1) := by decide +kernel
theorem dX10_mayRaise_0 : decode cX10_mayRaise 0 = .ok (.aload_n 0, 1) := by decide +kernel
theorem dX10_mayRaise_1 : decode cX10_mayRaise 1 = .ok (.getfield 112, 3) := by decide +kernel
theorem dX10_mayRaise_4 : decode cX10_mayRaise 4 = .ok (.iload_n 1, 1) := by decide +kernel
theorem dX10_mayRaise_5 : decode cX10_mayRaise 5 = .ok (.iaload, 1) := by decide +kernel
theorem dX10_mayRaise_6 : decode cX10_mayRaise 6 = .ok (.iload_n 2, 1) := by decide +kernel
theorem dX10_mayRaise_7 : decode cX10_mayRaise 7 = .ok (.if_icmp .eq 33, 3) := by decide +kernel
theorem dX10_mayRaise_10 : decode cX10_mayRaise 10 = .ok (.aload_n 0, 1) := by decide +kernel
theorem dX10_mayRaise_11 : decode cX10_mayRaise 11 = .ok (.getfield 109, 3) := by decide +kernel
theorem dX10_mayRaise_14 : decode cX10_mayRaise 14 = .ok (.iload_n 1, 1) := by decide +kernel
theorem dX10_mayRaise_15 : decode cX10_mayRaise 15 = .ok (.iaload, 1) := by decide +kernel
theorem dX10_mayRaise_16 : decode cX10_mayRaise 16 = .ok (.aload_n 0, 1) := by decide +kernel
theorem dX10_mayRaise_17 : decode cX10_mayRaise 17 = .ok (.iload_n 2, 1) := by decide +kernel
theorem dX10_mayRaise_18 : decode cX10_mayRaise 18 = .ok (.invokevirtual 403, 3) := by decide +kernel
theorem dX10_mayRaise_21 : decode cX10_mayRaise 21 = .ok (.iadd, 1) := by decide +kernel
theorem dX10_mayRaise_22 : decode cX10_mayRaise 22 = .ok (.aload_n 0, 1) := by decide +kernel
theorem dX10_mayRaise_23 : decode cX10_mayRaise 23 = .ok (.getfield 85, 3) := by decide +kernel
theorem dX10_mayRaise_26 : decode cX10_mayRaise 26 = .ok (.bipush 6, 2) := by decide +kernel
theorem dX10_mayRaise_28 : decode cX10_mayRaise 28 = .ok (.iload_n 1, 1) := by decide +kernel
theorem dX10_mayRaise_29 : decode cX10_mayRaise 29 = .ok (.imul, 1) := by decide +kernel
theorem dX10_mayRaise_30 : decode cX10_mayRaise 30 = .ok (.iload_n 2, 1) := by decide +kernel
theorem dX10_mayRaise_31 : decode cX10_mayRaise 31 = .ok (.iadd, 1) := by decide +kernel
theorem dX10_mayRaise_32 : decode cX10_mayRaise 32 = .ok (.iaload, 1) := by decide +kernel
theorem dX10_mayRaise_33 : decode cX10_mayRaise 33 = .ok (.if_icmp .gt 7, 3) := by decide +kernel
theorem dX10_mayRaise_36 : decode cX10_mayRaise 36 = .ok (.iconst 1, 1) := by decide +kernel
theorem dX10_mayRaise_37 : decode cX10_mayRaise 37 = .ok (.goto 4, 3) := by decide +kernel
theorem dX10_mayRaise_40 : decode cX10_mayRaise 40 = .ok (.iconst 0, 1) := by decide +kernel
theorem dX10_mayRaise_41 : decode cX10_mayRaise 41 = .ok (.ireturn, 1) := by decide +kernel
theorem dX10_wantsRaise_0 : decode cX10_wantsRaise 0 = .ok (.aload_n 0, 1) := by decide +kernel
theorem dX10_wantsRaise_1 : decode cX10_wantsRaise 1 = .ok (.getfield 365, 3) := by decide +kernel
theorem dX10_wantsRaise_4 : decode cX10_wantsRaise 4 = .ok (.iload_n 2, 1) := by decide +kernel
theorem dX10_wantsRaise_5 : decode cX10_wantsRaise 5 = .ok (.invokestatic 406, 3) := by decide +kernel
theorem dX10_wantsRaise_8 : decode cX10_wantsRaise 8 = .ok (.ifCond .ne 12, 3) := by decide +kernel
theorem dX10_wantsRaise_11 : decode cX10_wantsRaise 11 = .ok (.aload_n 0, 1) := by decide +kernel
theorem dX10_wantsRaise_12 : decode cX10_wantsRaise 12 = .ok (.iload_n 1, 1) := by decide +kernel
theorem dX10_wantsRaise_13 : decode cX10_wantsRaise 13 = .ok (.iload_n 2, 1) := by decide +kernel
theorem dX10_wantsRaise_14 : decode cX10_wantsRaise 14 = .ok (.invokevirtual 409, 3) := by decide +kernel
theorem dX10_wantsRaise_17 : decode cX10_wantsRaise 17 = .ok (.ifCond .ne 5, 3) := by decide +kernel
theorem dX10_wantsRaise_20 : decode cX10_wantsRaise 20 = .ok (.iconst 0, 1) := by decide +kernel
theorem dX10_wantsRaise_21 : decode cX10_wantsRaise 21 = .ok (.ireturn, 1) := by decide +kernel
theorem dX10_wantsRaise_22 : decode cX10_wantsRaise 22 = .ok (.aload_n 0, 1) := by decide +kernel
theorem dX10_wantsRaise_23 : decode cX10_wantsRaise 23 = .ok (.getfield 54, 3) := by decide +kernel
theorem dX10_wantsRaise_26 : decode cX10_wantsRaise 26 = .ok (.iconst 2, 1) := by decide +kernel
theorem dX10_wantsRaise_27 : decode cX10_wantsRaise 27 = .ok (.baload, 1) := by decide +kernel
theorem dX10_wantsRaise_28 : decode cX10_wantsRaise 28 = .ok (.ifCond .ne 5, 3) := by decide +kernel
theorem dX10_wantsRaise_31 : decode cX10_wantsRaise 31 = .ok (.iconst 1, 1) := by decide +kernel
theorem dX10_wantsRaise_32 : decode cX10_wantsRaise 32 = .ok (.ireturn, 1) := by decide +kernel
theorem dX10_wantsRaise_33 : decode cX10_wantsRaise 33 = .ok (.aload_n 0, 1) := by decide +kernel
theorem dX10_wantsRaise_34 : decode cX10_wantsRaise 34 = .ok (.iload_n 1, 1) := by decide +kernel
theorem dX10_wantsRaise_35 : decode cX10_wantsRaise 35 = .ok (.iload_n 2, 1) := by decide +kernel
theorem dX10_wantsRaise_36 : decode cX10_wantsRaise 36 = .ok (.invokevirtual 378, 3) := by decide +kernel
theorem dX10_wantsRaise_39 : decode cX10_wantsRaise 39 = .ok (.aload_n 0, 1) := by decide +kernel
theorem dX10_wantsRaise_40 : decode cX10_wantsRaise 40 = .ok (.iconst 2, 1) := by decide +kernel
theorem dX10_wantsRaise_41 : decode cX10_wantsRaise 41 = .ok (.invokevirtual 375, 3) := by decide +kernel
theorem dX10_wantsRaise_44 : decode cX10_wantsRaise 44 = .ok (.lstore_n 3, 1) := by decide +kernel
theorem dX10_wantsRaise_45 : decode cX10_wantsRaise 45 = .ok (.aload_n 0, 1) := by decide +kernel
theorem dX10_wantsRaise_46 : decode cX10_wantsRaise 46 = .ok (.getfield 315, 3) := by decide +kernel
theorem dX10_wantsRaise_49 : decode cX10_wantsRaise 49 = .ok (.ifCond .ne 9, 3) := by decide +kernel
theorem dX10_wantsRaise_52 : decode cX10_wantsRaise 52 = .ok (.lload_n 3, 1) := by decide +kernel
theorem dX10_wantsRaise_53 : decode cX10_wantsRaise 53 = .ok (.lconst 0, 1) := by decide +kernel
theorem dX10_wantsRaise_54 : decode cX10_wantsRaise 54 = .ok (.lcmp, 1) := by decide +kernel
theorem dX10_wantsRaise_55 : decode cX10_wantsRaise 55 = .ok (.ifCond .eq 7, 3) := by decide +kernel
theorem dX10_wantsRaise_58 : decode cX10_wantsRaise 58 = .ok (.iconst 1, 1) := by decide +kernel
theorem dX10_wantsRaise_59 : decode cX10_wantsRaise 59 = .ok (.goto 4, 3) := by decide +kernel
theorem dX10_wantsRaise_62 : decode cX10_wantsRaise 62 = .ok (.iconst 0, 1) := by decide +kernel
theorem dX10_wantsRaise_63 : decode cX10_wantsRaise 63 = .ok (.ireturn, 1) := by decide +kernel
theorem dX10_raises_0 : decode cX10_raises 0 = .ok (.aload_n 0, 1) := by decide +kernel
theorem dX10_raises_1 : decode cX10_raises 1 = .ok (.getfield 109, 3) := by decide +kernel
theorem dX10_raises_4 : decode cX10_raises 4 = .ok (.iload_n 1, 1) := by decide +kernel
theorem dX10_raises_5 : decode cX10_raises 5 = .ok (.dup2, 1) := by decide +kernel
theorem dX10_raises_6 : decode cX10_raises 6 = .ok (.iaload, 1) := by decide +kernel
theorem dX10_raises_7 : decode cX10_raises 7 = .ok (.aload_n 0, 1) := by decide +kernel
theorem dX10_raises_8 : decode cX10_raises 8 = .ok (.iload_n 2, 1) := by decide +kernel
theorem dX10_raises_9 : decode cX10_raises 9 = .ok (.invokevirtual 403, 3) := by decide +kernel
theorem dX10_raises_12 : decode cX10_raises 12 = .ok (.iadd, 1) := by decide +kernel
theorem dX10_raises_13 : decode cX10_raises 13 = .ok (.iastore, 1) := by decide +kernel
theorem dX10_raises_14 : decode cX10_raises 14 = .ok (.aload_n 0, 1) := by decide +kernel
theorem dX10_raises_15 : decode cX10_raises 15 = .ok (.getfield 112, 3) := by decide +kernel
theorem dX10_raises_18 : decode cX10_raises 18 = .ok (.iload_n 1, 1) := by decide +kernel
theorem dX10_raises_19 : decode cX10_raises 19 = .ok (.iload_n 2, 1) := by decide +kernel
theorem dX10_raises_20 : decode cX10_raises 20 = .ok (.iastore, 1) := by decide +kernel
theorem dX10_raises_21 : decode cX10_raises 21 = .ok (.aload_n 0, 1) := by decide +kernel
theorem dX10_raises_22 : decode cX10_raises 22 = .ok (.getfield 115, 3) := by decide +kernel
theorem dX10_raises_25 : decode cX10_raises 25 = .ok (.iload_n 1, 1) := by decide +kernel
theorem dX10_raises_26 : decode cX10_raises 26 = .ok (.iconst 0, 1) := by decide +kernel
theorem dX10_raises_27 : decode cX10_raises 27 = .ok (.iastore, 1) := by decide +kernel
theorem dX10_raises_28 : decode cX10_raises 28 = .ok (.aload_n 0, 1) := by decide +kernel
theorem dX10_raises_29 : decode cX10_raises 29 = .ok (.getfield 97, 3) := by decide +kernel
theorem dX10_raises_32 : decode cX10_raises 32 = .ok (.bipush 6, 2) := by decide +kernel
theorem dX10_raises_34 : decode cX10_raises 34 = .ok (.iload_n 1, 1) := by decide +kernel
theorem dX10_raises_35 : decode cX10_raises 35 = .ok (.imul, 1) := by decide +kernel
theorem dX10_raises_36 : decode cX10_raises 36 = .ok (.iload_n 2, 1) := by decide +kernel
theorem dX10_raises_37 : decode cX10_raises 37 = .ok (.iadd, 1) := by decide +kernel
theorem dX10_raises_38 : decode cX10_raises 38 = .ok (.dup2, 1) := by decide +kernel
theorem dX10_raises_39 : decode cX10_raises 39 = .ok (.iaload, 1) := by decide +kernel
theorem dX10_raises_40 : decode cX10_raises 40 = .ok (.iconst 1, 1) := by decide +kernel
theorem dX10_raises_41 : decode cX10_raises 41 = .ok (.iadd, 1) := by decide +kernel
theorem dX10_raises_42 : decode cX10_raises 42 = .ok (.iastore, 1) := by decide +kernel
theorem dX10_raises_43 : decode cX10_raises 43 = .ok (.aload_n 0, 1) := by decide +kernel
theorem dX10_raises_44 : decode cX10_raises 44 = .ok (.getfield 100, 3) := by decide +kernel
theorem dX10_raises_47 : decode cX10_raises 47 = .ok (.bipush 6, 2) := by decide +kernel
theorem dX10_raises_49 : decode cX10_raises 49 = .ok (.iload_n 1, 1) := by decide +kernel
theorem dX10_raises_50 : decode cX10_raises 50 = .ok (.imul, 1) := by decide +kernel
theorem dX10_raises_51 : decode cX10_raises 51 = .ok (.iload_n 2, 1) := by decide +kernel
theorem dX10_raises_52 : decode cX10_raises 52 = .ok (.iadd, 1) := by decide +kernel
theorem dX10_raises_53 : decode cX10_raises 53 = .ok (.aload_n 0, 1) := by decide +kernel
theorem dX10_raises_54 : decode cX10_raises 54 = .ok (.getfield 109, 3) := by decide +kernel
theorem dX10_raises_57 : decode cX10_raises 57 = .ok (.iload_n 1, 1) := by decide +kernel
theorem dX10_raises_58 : decode cX10_raises 58 = .ok (.iaload, 1) := by decide +kernel
theorem dX10_raises_59 : decode cX10_raises 59 = .ok (.iastore, 1) := by decide +kernel
theorem dX10_raises_60 : decode cX10_raises 60 = .ok (.aload_n 0, 1) := by decide +kernel
theorem dX10_raises_61 : decode cX10_raises 61 = .ok (.iload_n 2, 1) := by decide +kernel
theorem dX10_raises_62 : decode cX10_raises 62 = .ok (.putfield 412, 3) := by decide +kernel
theorem dX10_raises_65 : decode cX10_raises 65 = .ok (.return_, 1) := by decide +kernel
theorem dX10_partsGo_0 : decode cX10_partsGo 0 = .ok (.iconst 0, 1) := by decide +kernel
theorem dX10_partsGo_1 : decode cX10_partsGo 1 = .ok (.istore_n 2, 1) := by decide +kernel
theorem dX10_partsGo_2 : decode cX10_partsGo 2 = .ok (.iload_n 2, 1) := by decide +kernel
theorem dX10_partsGo_3 : decode cX10_partsGo 3 = .ok (.aload_n 0, 1) := by decide +kernel
theorem dX10_partsGo_4 : decode cX10_partsGo 4 = .ok (.getfield 228, 3) := by decide +kernel
theorem dX10_partsGo_7 : decode cX10_partsGo 7 = .ok (.if_icmp .ge 58, 3) := by decide +kernel
theorem dX10_partsGo_10 : decode cX10_partsGo 10 = .ok (.bipush 6, 2) := by decide +kernel
theorem dX10_partsGo_12 : decode cX10_partsGo 12 = .ok (.iload_n 1, 1) := by decide +kernel
theorem dX10_partsGo_13 : decode cX10_partsGo 13 = .ok (.imul, 1) := by decide +kernel
theorem dX10_partsGo_14 : decode cX10_partsGo 14 = .ok (.iload_n 2, 1) := by decide +kernel
theorem dX10_partsGo_15 : decode cX10_partsGo 15 = .ok (.iadd, 1) := by decide +kernel
theorem dX10_partsGo_16 : decode cX10_partsGo 16 = .ok (.istore_n 3, 1) := by decide +kernel
theorem dX10_partsGo_17 : decode cX10_partsGo 17 = .ok (.aload_n 0, 1) := by decide +kernel
theorem dX10_partsGo_18 : decode cX10_partsGo 18 = .ok (.getfield 103, 3) := by decide +kernel
theorem dX10_partsGo_21 : decode cX10_partsGo 21 = .ok (.iload_n 3, 1) := by decide +kernel
theorem dX10_partsGo_22 : decode cX10_partsGo 22 = .ok (.dup2, 1) := by decide +kernel
theorem dX10_partsGo_23 : decode cX10_partsGo 23 = .ok (.iaload, 1) := by decide +kernel
theorem dX10_partsGo_24 : decode cX10_partsGo 24 = .ok (.iconst 1, 1) := by decide +kernel
theorem dX10_partsGo_25 : decode cX10_partsGo 25 = .ok (.iadd, 1) := by decide +kernel
theorem dX10_partsGo_26 : decode cX10_partsGo 26 = .ok (.iastore, 1) := by decide +kernel
theorem dX10_partsGo_27 : decode cX10_partsGo 27 = .ok (.aload_n 0, 1) := by decide +kernel
theorem dX10_partsGo_28 : decode cX10_partsGo 28 = .ok (.getfield 103, 3) := by decide +kernel
theorem dX10_partsGo_31 : decode cX10_partsGo 31 = .ok (.iload_n 3, 1) := by decide +kernel
theorem dX10_partsGo_32 : decode cX10_partsGo 32 = .ok (.iaload, 1) := by decide +kernel
theorem dX10_partsGo_33 : decode cX10_partsGo 33 = .ok (.aload_n 0, 1) := by decide +kernel
theorem dX10_partsGo_34 : decode cX10_partsGo 34 = .ok (.getfield 48, 3) := by decide +kernel
theorem dX10_partsGo_37 : decode cX10_partsGo 37 = .ok (.iload_n 2, 1) := by decide +kernel
theorem dX10_partsGo_38 : decode cX10_partsGo 38 = .ok (.iaload, 1) := by decide +kernel
theorem dX10_partsGo_39 : decode cX10_partsGo 39 = .ok (.if_icmp .ge 6, 3) := by decide +kernel
theorem dX10_partsGo_42 : decode cX10_partsGo 42 = .ok (.goto 17, 3) := by decide +kernel
theorem dX10_partsGo_45 : decode cX10_partsGo 45 = .ok (.aload_n 0, 1) := by decide +kernel
theorem dX10_partsGo_46 : decode cX10_partsGo 46 = .ok (.getfield 103, 3) := by decide +kernel
theorem dX10_partsGo_49 : decode cX10_partsGo 49 = .ok (.iload_n 3, 1) := by decide +kernel
theorem dX10_partsGo_50 : decode cX10_partsGo 50 = .ok (.iconst 0, 1) := by decide +kernel
theorem dX10_partsGo_51 : decode cX10_partsGo 51 = .ok (.iastore, 1) := by decide +kernel
theorem dX10_partsGo_52 : decode cX10_partsGo 52 = .ok (.aload_n 0, 1) := by decide +kernel
theorem dX10_partsGo_53 : decode cX10_partsGo 53 = .ok (.getfield 106, 3) := by decide +kernel
theorem dX10_partsGo_56 : decode cX10_partsGo 56 = .ok (.iload_n 3, 1) := by decide +kernel
theorem dX10_partsGo_57 : decode cX10_partsGo 57 = .ok (.iconst 0, 1) := by decide +kernel
theorem dX10_partsGo_58 : decode cX10_partsGo 58 = .ok (.bastore, 1) := by decide +kernel
theorem dX10_partsGo_59 : decode cX10_partsGo 59 = .ok (.iinc 2 1, 3) := by decide +kernel
theorem dX10_partsGo_62 : decode cX10_partsGo 62 = .ok (.goto (-60), 3) := by decide +kernel
theorem dX10_partsGo_65 : decode cX10_partsGo 65 = .ok (.return_, 1) := by decide +kernel
theorem dX10_yearGoes_0 : decode cX10_yearGoes 0 = .ok (.aload_n 0, 1) := by decide +kernel
theorem dX10_yearGoes_1 : decode cX10_yearGoes 1 = .ok (.iconst (-1), 1) := by decide +kernel
theorem dX10_yearGoes_2 : decode cX10_yearGoes 2 = .ok (.putfield 412, 3) := by decide +kernel
theorem dX10_yearGoes_5 : decode cX10_yearGoes 5 = .ok (.aload_n 0, 1) := by decide +kernel
theorem dX10_yearGoes_6 : decode cX10_yearGoes 6 = .ok (.getfield 118, 3) := by decide +kernel
theorem dX10_yearGoes_9 : decode cX10_yearGoes 9 = .ok (.iload_n 1, 1) := by decide +kernel
theorem dX10_yearGoes_10 : decode cX10_yearGoes 10 = .ok (.baload, 1) := by decide +kernel
theorem dX10_yearGoes_11 : decode cX10_yearGoes 11 = .ok (.ifCond .ne 160, 3) := by decide +kernel
theorem dX10_yearGoes_14 : decode cX10_yearGoes 14 = .ok (.iconst 0, 1) := by decide +kernel
theorem dX10_yearGoes_15 : decode cX10_yearGoes 15 = .ok (.istore_n 2, 1) := by decide +kernel
theorem dX10_yearGoes_16 : decode cX10_yearGoes 16 = .ok (.iload_n 2, 1) := by decide +kernel
theorem dX10_yearGoes_17 : decode cX10_yearGoes 17 = .ok (.aload_n 0, 1) := by decide +kernel
theorem dX10_yearGoes_18 : decode cX10_yearGoes 18 = .ok (.getfield 225, 3) := by decide +kernel
theorem dX10_yearGoes_21 : decode cX10_yearGoes 21 = .ok (.if_icmp .ge 73, 3) := by decide +kernel
theorem dX10_yearGoes_24 : decode cX10_yearGoes 24 = .ok (.bipush 6, 2) := by decide +kernel
theorem dX10_yearGoes_26 : decode cX10_yearGoes 26 = .ok (.iload_n 1, 1) := by decide +kernel
theorem dX10_yearGoes_27 : decode cX10_yearGoes 27 = .ok (.imul, 1) := by decide +kernel
theorem dX10_yearGoes_28 : decode cX10_yearGoes 28 = .ok (.iload_n 2, 1) := by decide +kernel
theorem dX10_yearGoes_29 : decode cX10_yearGoes 29 = .ok (.iadd, 1) := by decide +kernel
theorem dX10_yearGoes_30 : decode cX10_yearGoes 30 = .ok (.istore_n 3, 1) := by decide +kernel
theorem dX10_yearGoes_31 : decode cX10_yearGoes 31 = .ok (.aload_n 0, 1) := by decide +kernel
theorem dX10_yearGoes_32 : decode cX10_yearGoes 32 = .ok (.getfield 94, 3) := by decide +kernel
theorem dX10_yearGoes_35 : decode cX10_yearGoes 35 = .ok (.iload_n 3, 1) := by decide +kernel
theorem dX10_yearGoes_36 : decode cX10_yearGoes 36 = .ok (.baload, 1) := by decide +kernel
theorem dX10_yearGoes_37 : decode cX10_yearGoes 37 = .ok (.ifCond .ne 6, 3) := by decide +kernel
theorem dX10_yearGoes_40 : decode cX10_yearGoes 40 = .ok (.goto 48, 3) := by decide +kernel
theorem dX10_yearGoes_43 : decode cX10_yearGoes 43 = .ok (.aload_n 0, 1) := by decide +kernel
theorem dX10_yearGoes_44 : decode cX10_yearGoes 44 = .ok (.getfield 88, 3) := by decide +kernel
theorem dX10_yearGoes_47 : decode cX10_yearGoes 47 = .ok (.iload_n 3, 1) := by decide +kernel
theorem dX10_yearGoes_48 : decode cX10_yearGoes 48 = .ok (.aload_n 0, 1) := by decide +kernel
theorem dX10_yearGoes_49 : decode cX10_yearGoes 49 = .ok (.getfield 88, 3) := by decide +kernel
theorem dX10_yearGoes_52 : decode cX10_yearGoes 52 = .ok (.iload_n 3, 1) := by decide +kernel
theorem dX10_yearGoes_53 : decode cX10_yearGoes 53 = .ok (.iaload, 1) := by decide +kernel
theorem dX10_yearGoes_54 : decode cX10_yearGoes 54 = .ok (.bipush 99, 2) := by decide +kernel
theorem dX10_yearGoes_56 : decode cX10_yearGoes 56 = .ok (.if_icmp .ge 14, 3) := by decide +kernel
theorem dX10_yearGoes_59 : decode cX10_yearGoes 59 = .ok (.aload_n 0, 1) := by decide +kernel
theorem dX10_yearGoes_60 : decode cX10_yearGoes 60 = .ok (.getfield 88, 3) := by decide +kernel
theorem dX10_yearGoes_63 : decode cX10_yearGoes 63 = .ok (.iload_n 3, 1) := by decide +kernel
theorem dX10_yearGoes_64 : decode cX10_yearGoes 64 = .ok (.iaload, 1) := by decide +kernel
theorem dX10_yearGoes_65 : decode cX10_yearGoes 65 = .ok (.iconst 1, 1) := by decide +kernel
theorem dX10_yearGoes_66 : decode cX10_yearGoes 66 = .ok (.iadd, 1) := by decide +kernel
theorem dX10_yearGoes_67 : decode cX10_yearGoes 67 = .ok (.goto 5, 3) := by decide +kernel
theorem dX10_yearGoes_70 : decode cX10_yearGoes 70 = .ok (.bipush 99, 2) := by decide +kernel
theorem dX10_yearGoes_72 : decode cX10_yearGoes 72 = .ok (.iastore, 1) := by decide +kernel
theorem dX10_yearGoes_73 : decode cX10_yearGoes 73 = .ok (.aload_n 0, 1) := by decide +kernel
theorem dX10_yearGoes_74 : decode cX10_yearGoes 74 = .ok (.iload_n 1, 1) := by decide +kernel
theorem dX10_yearGoes_75 : decode cX10_yearGoes 75 = .ok (.iload_n 2, 1) := by decide +kernel
theorem dX10_yearGoes_76 : decode cX10_yearGoes 76 = .ok (.invokevirtual 415, 3) := by decide +kernel
theorem dX10_yearGoes_79 : decode cX10_yearGoes 79 = .ok (.ifCond .eq 9, 3) := by decide +kernel
theorem dX10_yearGoes_82 : decode cX10_yearGoes 82 = .ok (.aload_n 0, 1) := by decide +kernel
theorem dX10_yearGoes_83 : decode cX10_yearGoes 83 = .ok (.iload_n 1, 1) := by decide +kernel
theorem dX10_yearGoes_84 : decode cX10_yearGoes 84 = .ok (.iload_n 2, 1) := by decide +kernel
theorem dX10_yearGoes_85 : decode cX10_yearGoes 85 = .ok (.invokevirtual 418, 3) := by decide +kernel
theorem dX10_yearGoes_88 : decode cX10_yearGoes 88 = .ok (.iinc 2 1, 3) := by decide +kernel
theorem dX10_yearGoes_91 : decode cX10_yearGoes 91 = .ok (.goto (-75), 3) := by decide +kernel
theorem dX10_yearGoes_94 : decode cX10_yearGoes 94 = .ok (.aload_n 0, 1) := by decide +kernel
theorem dX10_yearGoes_95 : decode cX10_yearGoes 95 = .ok (.iload_n 1, 1) := by decide +kernel
theorem dX10_yearGoes_96 : decode cX10_yearGoes 96 = .ok (.invokevirtual 421, 3) := by decide +kernel
theorem dX10_yearGoes_99 : decode cX10_yearGoes 99 = .ok (.istore_n 2, 1) := by decide +kernel
theorem dX10_yearGoes_100 : decode cX10_yearGoes 100 = .ok (.iload_n 2, 1) := by decide +kernel
theorem dX10_yearGoes_101 : decode cX10_yearGoes 101 = .ok (.ifCond .lt 18, 3) := by decide +kernel
theorem dX10_yearGoes_104 : decode cX10_yearGoes 104 = .ok (.aload_n 0, 1) := by decide +kernel
theorem dX10_yearGoes_105 : decode cX10_yearGoes 105 = .ok (.iload_n 1, 1) := by decide +kernel
theorem dX10_yearGoes_106 : decode cX10_yearGoes 106 = .ok (.iload_n 2, 1) := by decide +kernel
theorem dX10_yearGoes_107 : decode cX10_yearGoes 107 = .ok (.invokevirtual 424, 3) := by decide +kernel
theorem dX10_yearGoes_110 : decode cX10_yearGoes 110 = .ok (.ifCond .eq 9, 3) := by decide +kernel
theorem dX10_yearGoes_113 : decode cX10_yearGoes 113 = .ok (.aload_n 0, 1) := by decide +kernel
theorem dX10_yearGoes_114 : decode cX10_yearGoes 114 = .ok (.iload_n 1, 1) := by decide +kernel
theorem dX10_yearGoes_115 : decode cX10_yearGoes 115 = .ok (.iload_n 2, 1) := by decide +kernel
theorem dX10_yearGoes_116 : decode cX10_yearGoes 116 = .ok (.invokevirtual 427, 3) := by decide +kernel
theorem dX10_yearGoes_119 : decode cX10_yearGoes 119 = .ok (.aload_n 0, 1) := by decide +kernel
theorem dX10_yearGoes_120 : decode cX10_yearGoes 120 = .ok (.getfield 412, 3) := by decide +kernel
theorem dX10_yearGoes_123 : decode cX10_yearGoes 123 = .ok (.ifCond .ge 48, 3) := by decide +kernel
theorem dX10_yearGoes_126 : decode cX10_yearGoes 126 = .ok (.aload_n 0, 1) := by decide +kernel
theorem dX10_yearGoes_127 : decode cX10_yearGoes 127 = .ok (.getfield 112, 3) := by decide +kernel
theorem dX10_yearGoes_130 : decode cX10_yearGoes 130 = .ok (.iload_n 1, 1) := by decide +kernel
theorem dX10_yearGoes_131 : decode cX10_yearGoes 131 = .ok (.iaload, 1) := by decide +kernel
theorem dX10_yearGoes_132 : decode cX10_yearGoes 132 = .ok (.ifCond .lt 39, 3) := by decide +kernel
theorem dX10_yearGoes_135 : decode cX10_yearGoes 135 = .ok (.aload_n 0, 1) := by decide +kernel
theorem dX10_yearGoes_136 : decode cX10_yearGoes 136 = .ok (.getfield 115, 3) := by decide +kernel
theorem dX10_yearGoes_139 : decode cX10_yearGoes 139 = .ok (.iload_n 1, 1) := by decide +kernel
theorem dX10_yearGoes_140 : decode cX10_yearGoes 140 = .ok (.dup2, 1) := by decide +kernel
theorem dX10_yearGoes_141 : decode cX10_yearGoes 141 = .ok (.iaload, 1) := by decide +kernel
theorem dX10_yearGoes_142 : decode cX10_yearGoes 142 = .ok (.iconst 1, 1) := by decide +kernel
theorem dX10_yearGoes_143 : decode cX10_yearGoes 143 = .ok (.iadd, 1) := by decide +kernel
theorem dX10_yearGoes_144 : decode cX10_yearGoes 144 = .ok (.iastore, 1) := by decide +kernel
theorem dX10_yearGoes_145 : decode cX10_yearGoes 145 = .ok (.aload_n 0, 1) := by decide +kernel
theorem dX10_yearGoes_146 : decode cX10_yearGoes 146 = .ok (.getfield 118, 3) := by decide +kernel
theorem dX10_yearGoes_149 : decode cX10_yearGoes 149 = .ok (.iload_n 1, 1) := by decide +kernel
theorem dX10_yearGoes_150 : decode cX10_yearGoes 150 = .ok (.aload_n 0, 1) := by decide +kernel
theorem dX10_yearGoes_151 : decode cX10_yearGoes 151 = .ok (.getfield 115, 3) := by decide +kernel
theorem dX10_yearGoes_154 : decode cX10_yearGoes 154 = .ok (.iload_n 1, 1) := by decide +kernel
theorem dX10_yearGoes_155 : decode cX10_yearGoes 155 = .ok (.iaload, 1) := by decide +kernel
theorem dX10_yearGoes_156 : decode cX10_yearGoes 156 = .ok (.aload_n 0, 1) := by decide +kernel
theorem dX10_yearGoes_157 : decode cX10_yearGoes 157 = .ok (.getfield 24, 3) := by decide +kernel
theorem dX10_yearGoes_160 : decode cX10_yearGoes 160 = .ok (.iconst 0, 1) := by decide +kernel
theorem dX10_yearGoes_161 : decode cX10_yearGoes 161 = .ok (.iaload, 1) := by decide +kernel
theorem dX10_yearGoes_162 : decode cX10_yearGoes 162 = .ok (.if_icmp .lt 7, 3) := by decide +kernel
theorem dX10_yearGoes_165 : decode cX10_yearGoes 165 = .ok (.iconst 1, 1) := by decide +kernel
theorem dX10_yearGoes_166 : decode cX10_yearGoes 166 = .ok (.goto 4, 3) := by decide +kernel
theorem dX10_yearGoes_169 : decode cX10_yearGoes 169 = .ok (.iconst 0, 1) := by decide +kernel
theorem dX10_yearGoes_170 : decode cX10_yearGoes 170 = .ok (.bastore, 1) := by decide +kernel
theorem dX10_yearGoes_171 : decode cX10_yearGoes 171 = .ok (.aload_n 0, 1) := by decide +kernel
theorem dX10_yearGoes_172 : decode cX10_yearGoes 172 = .ok (.iload_n 1, 1) := by decide +kernel
theorem dX10_yearGoes_173 : decode cX10_yearGoes 173 = .ok (.invokevirtual 430, 3) := by decide +kernel
theorem dX10_yearGoes_176 : decode cX10_yearGoes 176 = .ok (.aload_n 0, 1) := by decide +kernel
theorem dX10_yearGoes_177 : decode cX10_yearGoes 177 = .ok (.getfield 124, 3) := by decide +kernel
theorem dX10_yearGoes_180 : decode cX10_yearGoes 180 = .ok (.iload_n 1, 1) := by decide +kernel
theorem dX10_yearGoes_181 : decode cX10_yearGoes 181 = .ok (.dup2, 1) := by decide +kernel
theorem dX10_yearGoes_182 : decode cX10_yearGoes 182 = .ok (.iaload, 1) := by decide +kernel
theorem dX10_yearGoes_183 : decode cX10_yearGoes 183 = .ok (.iconst 1, 1) := by decide +kernel
theorem dX10_yearGoes_184 : decode cX10_yearGoes 184 = .ok (.iadd, 1) := by decide +kernel
theorem dX10_yearGoes_185 : decode cX10_yearGoes 185 = .ok (.iastore, 1) := by decide +kernel
theorem dX10_yearGoes_186 : decode cX10_yearGoes 186 = .ok (.return_, 1) := by decide +kernel
theorem dX10_goMany_0 : decode cX10_goMany 0 = .ok (.iconst 0, 1) := by decide +kernel
theorem dX10_goMany_1 : decode cX10_goMany 1 = .ok (.istore_n 2, 1) := by decide +kernel
theorem dX10_goMany_2 : decode cX10_goMany 2 = .ok (.iload_n 2, 1) := by decide +kernel
theorem dX10_goMany_3 : decode cX10_goMany 3 = .ok (.iload_n 1, 1) := by decide +kernel
theorem dX10_goMany_4 : decode cX10_goMany 4 = .ok (.if_icmp .ge 14, 3) := by decide +kernel
theorem dX10_goMany_7 : decode cX10_goMany 7 = .ok (.aload_n 0, 1) := by decide +kernel
theorem dX10_goMany_8 : decode cX10_goMany 8 = .ok (.iconst 1, 1) := by decide +kernel
theorem dX10_goMany_9 : decode cX10_goMany 9 = .ok (.invokevirtual 433, 3) := by decide +kernel
theorem dX10_goMany_12 : decode cX10_goMany 12 = .ok (.iinc 2 1, 3) := by decide +kernel
theorem dX10_goMany_15 : decode cX10_goMany 15 = .ok (.goto (-13), 3) := by decide +kernel
theorem dX10_goMany_18 : decode cX10_goMany 18 = .ok (.return_, 1) := by decide +kernel
theorem dX10_onMany_0 : decode cX10_onMany 0 = .ok (.iconst 0, 1) := by decide +kernel
theorem dX10_onMany_1 : decode cX10_onMany 1 = .ok (.istore_n 2, 1) := by decide +kernel
theorem dX10_onMany_2 : decode cX10_onMany 2 = .ok (.iconst 0, 1) := by decide +kernel
theorem dX10_onMany_3 : decode cX10_onMany 3 = .ok (.istore_n 3, 1) := by decide +kernel
theorem dX10_onMany_4 : decode cX10_onMany 4 = .ok (.iload_n 3, 1) := by decide +kernel
theorem dX10_onMany_5 : decode cX10_onMany 5 = .ok (.aload_n 0, 1) := by decide +kernel
theorem dX10_onMany_6 : decode cX10_onMany 6 = .ok (.getfield 225, 3) := by decide +kernel
theorem dX10_onMany_9 : decode cX10_onMany 9 = .ok (.if_icmp .ge 26, 3) := by decide +kernel
theorem dX10_onMany_12 : decode cX10_onMany 12 = .ok (.iload_n 2, 1) := by decide +kernel
theorem dX10_onMany_13 : decode cX10_onMany 13 = .ok (.aload_n 0, 1) := by decide +kernel
theorem dX10_onMany_14 : decode cX10_onMany 14 = .ok (.iload_n 1, 1) := by decide +kernel
theorem dX10_onMany_15 : decode cX10_onMany 15 = .ok (.iload_n 3, 1) := by decide +kernel
theorem dX10_onMany_16 : decode cX10_onMany 16 = .ok (.invokevirtual 400, 3) := by decide +kernel
theorem dX10_onMany_19 : decode cX10_onMany 19 = .ok (.ifCond .eq 7, 3) := by decide +kernel
theorem dX10_onMany_22 : decode cX10_onMany 22 = .ok (.iconst 1, 1) := by decide +kernel
theorem dX10_onMany_23 : decode cX10_onMany 23 = .ok (.goto 4, 3) := by decide +kernel
theorem dX10_onMany_26 : decode cX10_onMany 26 = .ok (.iconst 0, 1) := by decide +kernel
theorem dX10_onMany_27 : decode cX10_onMany 27 = .ok (.iadd, 1) := by decide +kernel
theorem dX10_onMany_28 : decode cX10_onMany 28 = .ok (.istore_n 2, 1) := by decide +kernel
theorem dX10_onMany_29 : decode cX10_onMany 29 = .ok (.iinc 3 1, 3) := by decide +kernel
theorem dX10_onMany_32 : decode cX10_onMany 32 = .ok (.goto (-28), 3) := by decide +kernel
theorem dX10_onMany_35 : decode cX10_onMany 35 = .ok (.iload_n 2, 1) := by decide +kernel
theorem dX10_onMany_36 : decode cX10_onMany 36 = .ok (.ireturn, 1) := by decide +kernel
theorem dX10_fails_0 : decode cX10_fails 0 = .ok (.aload_n 0, 1) := by decide +kernel
theorem dX10_fails_1 : decode cX10_fails 1 = .ok (.iload_n 1, 1) := by decide +kernel
theorem dX10_fails_2 : decode cX10_fails 2 = .ok (.putfield 151, 3) := by decide +kernel
theorem dX10_fails_5 : decode cX10_fails 5 = .ok (.iconst 0, 1) := by decide +kernel
theorem dX10_fails_6 : decode cX10_fails 6 = .ok (.ireturn, 1) := by decide +kernel
theorem dX10_house_0 : decode cX10_house 0 = .ok (.aload_n 0, 1) := by decide +kernel
theorem dX10_house_1 : decode cX10_house 1 = .ok (.iconst 0, 1) := by decide +kernel
theorem dX10_house_2 : decode cX10_house 2 = .ok (.putfield 151, 3) := by decide +kernel
theorem dX10_house_5 : decode cX10_house 5 = .ok (.aload_n 0, 1) := by decide +kernel
theorem dX10_house_6 : decode cX10_house 6 = .ok (.iload_n 1, 1) := by decide +kernel
theorem dX10_house_7 : decode cX10_house 7 = .ok (.invokevirtual 368, 3) := by decide +kernel
theorem dX10_house_10 : decode cX10_house 10 = .ok (.ifCond .ne 9, 3) := by decide +kernel
theorem dX10_house_13 : decode cX10_house 13 = .ok (.aload_n 0, 1) := by decide +kernel
theorem dX10_house_14 : decode cX10_house 14 = .ok (.iconst 1, 1) := by decide +kernel
theorem dX10_house_15 : decode cX10_house 15 = .ok (.invokevirtual 436, 3) := by decide +kernel
theorem dX10_house_18 : decode cX10_house 18 = .ok (.ireturn, 1) := by decide +kernel
theorem dX10_house_19 : decode cX10_house 19 = .ok (.iload_n 2, 1) := by decide +kernel
theorem dX10_house_20 : decode cX10_house 20 = .ok (.tableswitch 112 0 7 #[48, 55, 62, 69, 76, 83, 98, 105], 48) := by decide +kernel
theorem dX10_house_68 : decode cX10_house 68 = .ok (.aload_n 0, 1) := by decide +kernel
theorem dX10_house_69 : decode cX10_house 69 = .ok (.getfield 85, 3) := by decide +kernel
theorem dX10_house_72 : decode cX10_house 72 = .ok (.iload_n 1, 1) := by decide +kernel
theorem dX10_house_73 : decode cX10_house 73 = .ok (.iaload, 1) := by decide +kernel
theorem dX10_house_74 : decode cX10_house 74 = .ok (.ireturn, 1) := by decide +kernel
theorem dX10_house_75 : decode cX10_house 75 = .ok (.aload_n 0, 1) := by decide +kernel
theorem dX10_house_76 : decode cX10_house 76 = .ok (.getfield 33, 3) := by decide +kernel
theorem dX10_house_79 : decode cX10_house 79 = .ok (.iload_n 1, 1) := by decide +kernel
theorem dX10_house_80 : decode cX10_house 80 = .ok (.iaload, 1) := by decide +kernel
theorem dX10_house_81 : decode cX10_house 81 = .ok (.ireturn, 1) := by decide +kernel
theorem dX10_house_82 : decode cX10_house 82 = .ok (.aload_n 0, 1) := by decide +kernel
theorem dX10_house_83 : decode cX10_house 83 = .ok (.getfield 36, 3) := by decide +kernel
theorem dX10_house_86 : decode cX10_house 86 = .ok (.iload_n 1, 1) := by decide +kernel
theorem dX10_house_87 : decode cX10_house 87 = .ok (.iaload, 1) := by decide +kernel
theorem dX10_house_88 : decode cX10_house 88 = .ok (.ireturn, 1) := by decide +kernel
theorem dX10_house_89 : decode cX10_house 89 = .ok (.aload_n 0, 1) := by decide +kernel
theorem dX10_house_90 : decode cX10_house 90 = .ok (.getfield 88, 3) := by decide +kernel
theorem dX10_house_93 : decode cX10_house 93 = .ok (.iload_n 1, 1) := by decide +kernel
theorem dX10_house_94 : decode cX10_house 94 = .ok (.iaload, 1) := by decide +kernel
theorem dX10_house_95 : decode cX10_house 95 = .ok (.ireturn, 1) := by decide +kernel
theorem dX10_house_96 : decode cX10_house 96 = .ok (.aload_n 0, 1) := by decide +kernel
theorem dX10_house_97 : decode cX10_house 97 = .ok (.getfield 91, 3) := by decide +kernel
theorem dX10_house_100 : decode cX10_house 100 = .ok (.iload_n 1, 1) := by decide +kernel
theorem dX10_house_101 : decode cX10_house 101 = .ok (.iaload, 1) := by decide +kernel
theorem dX10_house_102 : decode cX10_house 102 = .ok (.ireturn, 1) := by decide +kernel
theorem dX10_house_103 : decode cX10_house 103 = .ok (.aload_n 0, 1) := by decide +kernel
theorem dX10_house_104 : decode cX10_house 104 = .ok (.getfield 94, 3) := by decide +kernel
theorem dX10_house_107 : decode cX10_house 107 = .ok (.iload_n 1, 1) := by decide +kernel
theorem dX10_house_108 : decode cX10_house 108 = .ok (.baload, 1) := by decide +kernel
theorem dX10_house_109 : decode cX10_house 109 = .ok (.ifCond .eq 7, 3) := by decide +kernel
theorem dX10_house_112 : decode cX10_house 112 = .ok (.iconst 1, 1) := by decide +kernel
theorem dX10_house_113 : decode cX10_house 113 = .ok (.goto 4, 3) := by decide +kernel
theorem dX10_house_116 : decode cX10_house 116 = .ok (.iconst 0, 1) := by decide +kernel
theorem dX10_house_117 : decode cX10_house 117 = .ok (.ireturn, 1) := by decide +kernel
theorem dX10_house_118 : decode cX10_house 118 = .ok (.aload_n 0, 1) := by decide +kernel
theorem dX10_house_119 : decode cX10_house 119 = .ok (.getfield 97, 3) := by decide +kernel
theorem dX10_house_122 : decode cX10_house 122 = .ok (.iload_n 1, 1) := by decide +kernel
theorem dX10_house_123 : decode cX10_house 123 = .ok (.iaload, 1) := by decide +kernel
theorem dX10_house_124 : decode cX10_house 124 = .ok (.ireturn, 1) := by decide +kernel
theorem dX10_house_125 : decode cX10_house 125 = .ok (.aload_n 0, 1) := by decide +kernel
theorem dX10_house_126 : decode cX10_house 126 = .ok (.getfield 100, 3) := by decide +kernel
theorem dX10_house_129 : decode cX10_house 129 = .ok (.iload_n 1, 1) := by decide +kernel
theorem dX10_house_130 : decode cX10_house 130 = .ok (.iaload, 1) := by decide +kernel
theorem dX10_house_131 : decode cX10_house 131 = .ok (.ireturn, 1) := by decide +kernel
theorem dX10_house_132 : decode cX10_house 132 = .ok (.aload_n 0, 1) := by decide +kernel
theorem dX10_house_133 : decode cX10_house 133 = .ok (.iconst 2, 1) := by decide +kernel
theorem dX10_house_134 : decode cX10_house 134 = .ok (.invokevirtual 436, 3) := by decide +kernel
theorem dX10_house_137 : decode cX10_house 137 = .ok (.ireturn, 1) := by decide +kernel
theorem dX10_part_0 : decode cX10_part 0 = .ok (.aload_n 0, 1) := by decide +kernel
theorem dX10_part_1 : decode cX10_part 1 = .ok (.iconst 0, 1) := by decide +kernel
theorem dX10_part_2 : decode cX10_part 2 = .ok (.putfield 151, 3) := by decide +kernel
theorem dX10_part_5 : decode cX10_part 5 = .ok (.iload_n 1, 1) := by decide +kernel
