theorem dX5_init_0 : decode cX5_init 0 = .ok (.aload_n 0, 1) := by decide +kernel
theorem dX5_init_1 : decode cX5_init 1 = .ok (.invokespecial 3, 3) := by decide +kernel
theorem dX5_init_4 : decode cX5_init 4 = .ok (.aload_n 0, 1) := by decide +kernel
theorem dX5_init_5 : decode cX5_init 5 = .ok (.bipush 24, 2) := by decide +kernel
theorem dX5_init_7 : decode cX5_init 7 = .ok (.newarray .int, 2) := by decide +kernel
theorem dX5_init_9 : decode cX5_init 9 = .ok (.putfield 9, 3) := by decide +kernel
theorem dX5_init_12 : decode cX5_init 12 = .ok (.aload_n 0, 1) := by decide +kernel
theorem dX5_init_13 : decode cX5_init 13 = .ok (.bipush 24, 2) := by decide +kernel
theorem dX5_init_15 : decode cX5_init 15 = .ok (.newarray .int, 2) := by decide +kernel
theorem dX5_init_17 : decode cX5_init 17 = .ok (.putfield 15, 3) := by decide +kernel
theorem dX5_init_20 : decode cX5_init 20 = .ok (.aload_n 0, 1) := by decide +kernel
theorem dX5_init_21 : decode cX5_init 21 = .ok (.bipush 24, 2) := by decide +kernel
theorem dX5_init_23 : decode cX5_init 23 = .ok (.newarray .int, 2) := by decide +kernel
theorem dX5_init_25 : decode cX5_init 25 = .ok (.putfield 18, 3) := by decide +kernel
theorem dX5_init_28 : decode cX5_init 28 = .ok (.aload_n 0, 1) := by decide +kernel
theorem dX5_init_29 : decode cX5_init 29 = .ok (.bipush 24, 2) := by decide +kernel
theorem dX5_init_31 : decode cX5_init 31 = .ok (.newarray .boolean, 2) := by decide +kernel
theorem dX5_init_33 : decode cX5_init 33 = .ok (.putfield 21, 3) := by decide +kernel
theorem dX5_init_36 : decode cX5_init 36 = .ok (.aload_n 0, 1) := by decide +kernel
theorem dX5_init_37 : decode cX5_init 37 = .ok (.iconst (-1), 1) := by decide +kernel
theorem dX5_init_38 : decode cX5_init 38 = .ok (.putfield 25, 3) := by decide +kernel
theorem dX5_init_41 : decode cX5_init 41 = .ok (.return_, 1) := by decide +kernel
theorem dX5_forget_0 : decode cX5_forget 0 = .ok (.aload_n 0, 1) := by decide +kernel
theorem dX5_forget_1 : decode cX5_forget 1 = .ok (.iconst 0, 1) := by decide +kernel
theorem dX5_forget_2 : decode cX5_forget 2 = .ok (.putfield 29, 3) := by decide +kernel
theorem dX5_forget_5 : decode cX5_forget 5 = .ok (.aload_n 0, 1) := by decide +kernel
theorem dX5_forget_6 : decode cX5_forget 6 = .ok (.iconst (-1), 1) := by decide +kernel
theorem dX5_forget_7 : decode cX5_forget 7 = .ok (.putfield 25, 3) := by decide +kernel
theorem dX5_forget_10 : decode cX5_forget 10 = .ok (.return_, 1) := by decide +kernel
theorem dX5_howManyKnown_0 : decode cX5_howManyKnown 0 = .ok (.aload_n 0, 1) := by decide +kernel
theorem dX5_howManyKnown_1 : decode cX5_howManyKnown 1 = .ok (.getfield 25, 3) := by decide +kernel
theorem dX5_howManyKnown_4 : decode cX5_howManyKnown 4 = .ok (.iconst (-1), 1) := by decide +kernel
theorem dX5_howManyKnown_5 : decode cX5_howManyKnown 5 = .ok (.if_icmp .ne 10, 3) := by decide +kernel
theorem dX5_howManyKnown_8 : decode cX5_howManyKnown 8 = .ok (.aload_n 0, 1) := by decide +kernel
theorem dX5_howManyKnown_9 : decode cX5_howManyKnown 9 = .ok (.getfield 29, 3) := by decide +kernel
theorem dX5_howManyKnown_12 : decode cX5_howManyKnown 12 = .ok (.goto 14, 3) := by decide +kernel
theorem dX5_howManyKnown_15 : decode cX5_howManyKnown 15 = .ok (.aload_n 0, 1) := by decide +kernel
theorem dX5_howManyKnown_16 : decode cX5_howManyKnown 16 = .ok (.getfield 25, 3) := by decide +kernel
theorem dX5_howManyKnown_19 : decode cX5_howManyKnown 19 = .ok (.aload_n 0, 1) := by decide +kernel
theorem dX5_howManyKnown_20 : decode cX5_howManyKnown 20 = .ok (.getfield 29, 3) := by decide +kernel
theorem dX5_howManyKnown_23 : decode cX5_howManyKnown 23 = .ok (.invokestatic 32, 3) := by decide +kernel
theorem dX5_howManyKnown_26 : decode cX5_howManyKnown 26 = .ok (.ireturn, 1) := by decide +kernel
theorem dX5_add_0 : decode cX5_add 0 = .ok (.aload_n 0, 1) := by decide +kernel
theorem dX5_add_1 : decode cX5_add 1 = .ok (.getfield 29, 3) := by decide +kernel
theorem dX5_add_4 : decode cX5_add 4 = .ok (.bipush 24, 2) := by decide +kernel
theorem dX5_add_6 : decode cX5_add 6 = .ok (.if_icmp .lt 5, 3) := by decide +kernel
theorem dX5_add_9 : decode cX5_add 9 = .ok (.iconst (-1), 1) := by decide +kernel
theorem dX5_add_10 : decode cX5_add 10 = .ok (.ireturn, 1) := by decide +kernel
theorem dX5_add_11 : decode cX5_add 11 = .ok (.aload_n 0, 1) := by decide +kernel
theorem dX5_add_12 : decode cX5_add 12 = .ok (.getfield 9, 3) := by decide +kernel
theorem dX5_add_15 : decode cX5_add 15 = .ok (.aload_n 0, 1) := by decide +kernel
theorem dX5_add_16 : decode cX5_add 16 = .ok (.getfield 29, 3) := by decide +kernel
theorem dX5_add_19 : decode cX5_add 19 = .ok (.iload_n 1, 1) := by decide +kernel
theorem dX5_add_20 : decode cX5_add 20 = .ok (.iastore, 1) := by decide +kernel
theorem dX5_add_21 : decode cX5_add 21 = .ok (.aload_n 0, 1) := by decide +kernel
theorem dX5_add_22 : decode cX5_add 22 = .ok (.getfield 15, 3) := by decide +kernel
theorem dX5_add_25 : decode cX5_add 25 = .ok (.aload_n 0, 1) := by decide +kernel
theorem dX5_add_26 : decode cX5_add 26 = .ok (.getfield 29, 3) := by decide +kernel
theorem dX5_add_29 : decode cX5_add 29 = .ok (.iload_n 2, 1) := by decide +kernel
theorem dX5_add_30 : decode cX5_add 30 = .ok (.iastore, 1) := by decide +kernel
theorem dX5_add_31 : decode cX5_add 31 = .ok (.aload_n 0, 1) := by decide +kernel
theorem dX5_add_32 : decode cX5_add 32 = .ok (.getfield 18, 3) := by decide +kernel
theorem dX5_add_35 : decode cX5_add 35 = .ok (.aload_n 0, 1) := by decide +kernel
theorem dX5_add_36 : decode cX5_add 36 = .ok (.getfield 29, 3) := by decide +kernel
theorem dX5_add_39 : decode cX5_add 39 = .ok (.iload_n 3, 1) := by decide +kernel
theorem dX5_add_40 : decode cX5_add 40 = .ok (.iastore, 1) := by decide +kernel
theorem dX5_add_41 : decode cX5_add 41 = .ok (.aload_n 0, 1) := by decide +kernel
theorem dX5_add_42 : decode cX5_add 42 = .ok (.dup, 1) := by decide +kernel
theorem dX5_add_43 : decode cX5_add 43 = .ok (.getfield 29, 3) := by decide +kernel
theorem dX5_add_46 : decode cX5_add 46 = .ok (.iconst 1, 1) := by decide +kernel
theorem dX5_add_47 : decode cX5_add 47 = .ok (.iadd, 1) := by decide +kernel
theorem dX5_add_48 : decode cX5_add 48 = .ok (.putfield 29, 3) := by decide +kernel
theorem dX5_add_51 : decode cX5_add 51 = .ok (.aload_n 0, 1) := by decide +kernel
theorem dX5_add_52 : decode cX5_add 52 = .ok (.getfield 29, 3) := by decide +kernel
theorem dX5_add_55 : decode cX5_add 55 = .ok (.iconst 1, 1) := by decide +kernel
theorem dX5_add_56 : decode cX5_add 56 = .ok (.isub, 1) := by decide +kernel
theorem dX5_add_57 : decode cX5_add 57 = .ok (.ireturn, 1) := by decide +kernel
theorem dX5_findStruck_0 : decode cX5_findStruck 0 = .ok (.aload_n 0, 1) := by decide +kernel
theorem dX5_findStruck_1 : decode cX5_findStruck 1 = .ok (.invokevirtual 38, 3) := by decide +kernel
theorem dX5_findStruck_4 : decode cX5_findStruck 4 = .ok (.istore_n 1, 1) := by decide +kernel
theorem dX5_findStruck_5 : decode cX5_findStruck 5 = .ok (.iconst 0, 1) := by decide +kernel
theorem dX5_findStruck_6 : decode cX5_findStruck 6 = .ok (.istore_n 2, 1) := by decide +kernel
theorem dX5_findStruck_7 : decode cX5_findStruck 7 = .ok (.iload_n 2, 1) := by decide +kernel
theorem dX5_findStruck_8 : decode cX5_findStruck 8 = .ok (.iload_n 1, 1) := by decide +kernel
theorem dX5_findStruck_9 : decode cX5_findStruck 9 = .ok (.if_icmp .ge 16, 3) := by decide +kernel
theorem dX5_findStruck_12 : decode cX5_findStruck 12 = .ok (.aload_n 0, 1) := by decide +kernel
theorem dX5_findStruck_13 : decode cX5_findStruck 13 = .ok (.getfield 21, 3) := by decide +kernel
theorem dX5_findStruck_16 : decode cX5_findStruck 16 = .ok (.iload_n 2, 1) := by decide +kernel
theorem dX5_findStruck_17 : decode cX5_findStruck 17 = .ok (.iconst 0, 1) := by decide +kernel
theorem dX5_findStruck_18 : decode cX5_findStruck 18 = .ok (.bastore, 1) := by decide +kernel
theorem dX5_findStruck_19 : decode cX5_findStruck 19 = .ok (.iinc 2 1, 3) := by decide +kernel
theorem dX5_findStruck_22 : decode cX5_findStruck 22 = .ok (.goto (-15), 3) := by decide +kernel
theorem dX5_findStruck_25 : decode cX5_findStruck 25 = .ok (.iload_n 1, 1) := by decide +kernel
theorem dX5_findStruck_26 : decode cX5_findStruck 26 = .ok (.iconst 1, 1) := by decide +kernel
theorem dX5_findStruck_27 : decode cX5_findStruck 27 = .ok (.isub, 1) := by decide +kernel
theorem dX5_findStruck_28 : decode cX5_findStruck 28 = .ok (.istore_n 2, 1) := by decide +kernel
theorem dX5_findStruck_29 : decode cX5_findStruck 29 = .ok (.iload_n 2, 1) := by decide +kernel
theorem dX5_findStruck_30 : decode cX5_findStruck 30 = .ok (.ifCond .lt 50, 3) := by decide +kernel
theorem dX5_findStruck_33 : decode cX5_findStruck 33 = .ok (.aload_n 0, 1) := by decide +kernel
theorem dX5_findStruck_34 : decode cX5_findStruck 34 = .ok (.getfield 9, 3) := by decide +kernel
theorem dX5_findStruck_37 : decode cX5_findStruck 37 = .ok (.iload_n 2, 1) := by decide +kernel
theorem dX5_findStruck_38 : decode cX5_findStruck 38 = .ok (.iaload, 1) := by decide +kernel
theorem dX5_findStruck_39 : decode cX5_findStruck 39 = .ok (.iconst 2, 1) := by decide +kernel
theorem dX5_findStruck_40 : decode cX5_findStruck 40 = .ok (.if_icmp .ne 34, 3) := by decide +kernel
theorem dX5_findStruck_43 : decode cX5_findStruck 43 = .ok (.aload_n 0, 1) := by decide +kernel
theorem dX5_findStruck_44 : decode cX5_findStruck 44 = .ok (.getfield 21, 3) := by decide +kernel
theorem dX5_findStruck_47 : decode cX5_findStruck 47 = .ok (.iload_n 2, 1) := by decide +kernel
theorem dX5_findStruck_48 : decode cX5_findStruck 48 = .ok (.baload, 1) := by decide +kernel
theorem dX5_findStruck_49 : decode cX5_findStruck 49 = .ok (.ifCond .ne 25, 3) := by decide +kernel
theorem dX5_findStruck_52 : decode cX5_findStruck 52 = .ok (.aload_n 0, 1) := by decide +kernel
theorem dX5_findStruck_53 : decode cX5_findStruck 53 = .ok (.getfield 18, 3) := by decide +kernel
theorem dX5_findStruck_56 : decode cX5_findStruck 56 = .ok (.iload_n 2, 1) := by decide +kernel
theorem dX5_findStruck_57 : decode cX5_findStruck 57 = .ok (.iaload, 1) := by decide +kernel
theorem dX5_findStruck_58 : decode cX5_findStruck 58 = .ok (.iload_n 2, 1) := by decide +kernel
theorem dX5_findStruck_59 : decode cX5_findStruck 59 = .ok (.if_icmp .ge 15, 3) := by decide +kernel
theorem dX5_findStruck_62 : decode cX5_findStruck 62 = .ok (.aload_n 0, 1) := by decide +kernel
theorem dX5_findStruck_63 : decode cX5_findStruck 63 = .ok (.getfield 21, 3) := by decide +kernel
theorem dX5_findStruck_66 : decode cX5_findStruck 66 = .ok (.aload_n 0, 1) := by decide +kernel
theorem dX5_findStruck_67 : decode cX5_findStruck 67 = .ok (.getfield 18, 3) := by decide +kernel
theorem dX5_findStruck_70 : decode cX5_findStruck 70 = .ok (.iload_n 2, 1) := by decide +kernel
theorem dX5_findStruck_71 : decode cX5_findStruck 71 = .ok (.iaload, 1) := by decide +kernel
theorem dX5_findStruck_72 : decode cX5_findStruck 72 = .ok (.iconst 1, 1) := by decide +kernel
theorem dX5_findStruck_73 : decode cX5_findStruck 73 = .ok (.bastore, 1) := by decide +kernel
theorem dX5_findStruck_74 : decode cX5_findStruck 74 = .ok (.iinc 2 (-1), 3) := by decide +kernel
theorem dX5_findStruck_77 : decode cX5_findStruck 77 = .ok (.goto (-48), 3) := by decide +kernel
theorem dX5_findStruck_80 : decode cX5_findStruck 80 = .ok (.return_, 1) := by decide +kernel
theorem dX5_allows_0 : decode cX5_allows 0 = .ok (.aload_n 0, 1) := by decide +kernel
theorem dX5_allows_1 : decode cX5_allows 1 = .ok (.invokevirtual 38, 3) := by decide +kernel
theorem dX5_allows_4 : decode cX5_allows 4 = .ok (.istore_n 3, 1) := by decide +kernel
theorem dX5_allows_5 : decode cX5_allows 5 = .ok (.iconst 0, 1) := by decide +kernel
theorem dX5_allows_6 : decode cX5_allows 6 = .ok (.istore 4, 2) := by decide +kernel
theorem dX5_allows_8 : decode cX5_allows 8 = .ok (.iload 4, 2) := by decide +kernel
theorem dX5_allows_10 : decode cX5_allows 10 = .ok (.iload_n 3, 1) := by decide +kernel
theorem dX5_allows_11 : decode cX5_allows 11 = .ok (.if_icmp .ge 94, 3) := by decide +kernel
theorem dX5_allows_14 : decode cX5_allows 14 = .ok (.aload_n 0, 1) := by decide +kernel
theorem dX5_allows_15 : decode cX5_allows 15 = .ok (.getfield 9, 3) := by decide +kernel
theorem dX5_allows_18 : decode cX5_allows 18 = .ok (.iload 4, 2) := by decide +kernel
theorem dX5_allows_20 : decode cX5_allows 20 = .ok (.iaload, 1) := by decide +kernel
theorem dX5_allows_21 : decode cX5_allows 21 = .ok (.iconst 2, 1) := by decide +kernel
theorem dX5_allows_22 : decode cX5_allows 22 = .ok (.if_icmp .eq 28, 3) := by decide +kernel
theorem dX5_allows_25 : decode cX5_allows 25 = .ok (.aload_n 0, 1) := by decide +kernel
theorem dX5_allows_26 : decode cX5_allows 26 = .ok (.getfield 21, 3) := by decide +kernel
theorem dX5_allows_29 : decode cX5_allows 29 = .ok (.iload 4, 2) := by decide +kernel
theorem dX5_allows_31 : decode cX5_allows 31 = .ok (.baload, 1) := by decide +kernel
theorem dX5_allows_32 : decode cX5_allows 32 = .ok (.ifCond .ne 18, 3) := by decide +kernel
theorem dX5_allows_35 : decode cX5_allows 35 = .ok (.aload_n 0, 1) := by decide +kernel
theorem dX5_allows_36 : decode cX5_allows 36 = .ok (.getfield 15, 3) := by decide +kernel
theorem dX5_allows_39 : decode cX5_allows 39 = .ok (.iload 4, 2) := by decide +kernel
theorem dX5_allows_41 : decode cX5_allows 41 = .ok (.iaload, 1) := by decide +kernel
theorem dX5_allows_42 : decode cX5_allows 42 = .ok (.iload_n 1, 1) := by decide +kernel
theorem dX5_allows_43 : decode cX5_allows 43 = .ok (.if_icmp .ne 7, 3) := by decide +kernel
theorem dX5_allows_46 : decode cX5_allows 46 = .ok (.iconst 1, 1) := by decide +kernel
theorem dX5_allows_47 : decode cX5_allows 47 = .ok (.goto 4, 3) := by decide +kernel
theorem dX5_allows_50 : decode cX5_allows 50 = .ok (.iconst 0, 1) := by decide +kernel
theorem dX5_allows_51 : decode cX5_allows 51 = .ok (.istore 5, 2) := by decide +kernel
theorem dX5_allows_53 : decode cX5_allows 53 = .ok (.iload_n 2, 1) := by decide +kernel
theorem dX5_allows_54 : decode cX5_allows 54 = .ok (.aload_n 0, 1) := by decide +kernel
theorem dX5_allows_55 : decode cX5_allows 55 = .ok (.getfield 18, 3) := by decide +kernel
theorem dX5_allows_58 : decode cX5_allows 58 = .ok (.iload 4, 2) := by decide +kernel
theorem dX5_allows_60 : decode cX5_allows 60 = .ok (.iaload, 1) := by decide +kernel
theorem dX5_allows_61 : decode cX5_allows 61 = .ok (.if_icmp .lt 7, 3) := by decide +kernel
theorem dX5_allows_64 : decode cX5_allows 64 = .ok (.iconst 1, 1) := by decide +kernel
theorem dX5_allows_65 : decode cX5_allows 65 = .ok (.goto 4, 3) := by decide +kernel
theorem dX5_allows_68 : decode cX5_allows 68 = .ok (.iconst 0, 1) := by decide +kernel
theorem dX5_allows_69 : decode cX5_allows 69 = .ok (.istore 6, 2) := by decide +kernel
theorem dX5_allows_71 : decode cX5_allows 71 = .ok (.iload 5, 2) := by decide +kernel
theorem dX5_allows_73 : decode cX5_allows 73 = .ok (.ifCond .eq 26, 3) := by decide +kernel
theorem dX5_allows_76 : decode cX5_allows 76 = .ok (.iload 6, 2) := by decide +kernel
theorem dX5_allows_78 : decode cX5_allows 78 = .ok (.aload_n 0, 1) := by decide +kernel
theorem dX5_allows_79 : decode cX5_allows 79 = .ok (.getfield 9, 3) := by decide +kernel
theorem dX5_allows_82 : decode cX5_allows 82 = .ok (.iload 4, 2) := by decide +kernel
theorem dX5_allows_84 : decode cX5_allows 84 = .ok (.iaload, 1) := by decide +kernel
theorem dX5_allows_85 : decode cX5_allows 85 = .ok (.iconst 1, 1) := by decide +kernel
theorem dX5_allows_86 : decode cX5_allows 86 = .ok (.if_icmp .ne 7, 3) := by decide +kernel
theorem dX5_allows_89 : decode cX5_allows 89 = .ok (.iconst 1, 1) := by decide +kernel
theorem dX5_allows_90 : decode cX5_allows 90 = .ok (.goto 4, 3) := by decide +kernel
theorem dX5_allows_93 : decode cX5_allows 93 = .ok (.iconst 0, 1) := by decide +kernel
theorem dX5_allows_94 : decode cX5_allows 94 = .ok (.if_icmp .eq 5, 3) := by decide +kernel
theorem dX5_allows_97 : decode cX5_allows 97 = .ok (.iconst 0, 1) := by decide +kernel
theorem dX5_allows_98 : decode cX5_allows 98 = .ok (.ireturn, 1) := by decide +kernel
theorem dX5_allows_99 : decode cX5_allows 99 = .ok (.iinc 4 1, 3) := by decide +kernel
theorem dX5_allows_102 : decode cX5_allows 102 = .ok (.goto (-94), 3) := by decide +kernel
theorem dX5_allows_105 : decode cX5_allows 105 = .ok (.iconst 1, 1) := by decide +kernel
theorem dX5_allows_106 : decode cX5_allows 106 = .ok (.ireturn, 1) := by decide +kernel
