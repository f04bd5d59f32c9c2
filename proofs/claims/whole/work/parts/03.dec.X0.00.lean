theorem dX0_init_0 : decode cX0_init 0 = .ok (.aload_n 0, 1) := by decide +kernel
theorem dX0_init_1 : decode cX0_init 1 = .ok (.invokespecial 3, 3) := by decide +kernel
theorem dX0_init_4 : decode cX0_init 4 = .ok (.aload_n 0, 1) := by decide +kernel
theorem dX0_init_5 : decode cX0_init 5 = .ok (.bipush 64, 2) := by decide +kernel
theorem dX0_init_7 : decode cX0_init 7 = .ok (.newarray .long, 2) := by decide +kernel
theorem dX0_init_9 : decode cX0_init 9 = .ok (.putfield 9, 3) := by decide +kernel
theorem dX0_init_12 : decode cX0_init 12 = .ok (.aload_n 0, 1) := by decide +kernel
theorem dX0_init_13 : decode cX0_init 13 = .ok (.aload_n 1, 1) := by decide +kernel
theorem dX0_init_14 : decode cX0_init 14 = .ok (.putfield 15, 3) := by decide +kernel
theorem dX0_init_17 : decode cX0_init 17 = .ok (.return_, 1) := by decide +kernel
theorem dX0_asItGoes_0 : decode cX0_asItGoes 0 = .ok (.aload_n 0, 1) := by decide +kernel
theorem dX0_asItGoes_1 : decode cX0_asItGoes 1 = .ok (.aload_n 1, 1) := by decide +kernel
theorem dX0_asItGoes_2 : decode cX0_asItGoes 2 = .ok (.putfield 15, 3) := by decide +kernel
theorem dX0_asItGoes_5 : decode cX0_asItGoes 5 = .ok (.aload_n 0, 1) := by decide +kernel
theorem dX0_asItGoes_6 : decode cX0_asItGoes 6 = .ok (.iconst 0, 1) := by decide +kernel
theorem dX0_asItGoes_7 : decode cX0_asItGoes 7 = .ok (.putfield 19, 3) := by decide +kernel
theorem dX0_asItGoes_10 : decode cX0_asItGoes 10 = .ok (.aload_n 0, 1) := by decide +kernel
theorem dX0_asItGoes_11 : decode cX0_asItGoes 11 = .ok (.iconst 0, 1) := by decide +kernel
theorem dX0_asItGoes_12 : decode cX0_asItGoes 12 = .ok (.putfield 23, 3) := by decide +kernel
theorem dX0_asItGoes_15 : decode cX0_asItGoes 15 = .ok (.aload_n 0, 1) := by decide +kernel
theorem dX0_asItGoes_16 : decode cX0_asItGoes 16 = .ok (.iconst 0, 1) := by decide +kernel
theorem dX0_asItGoes_17 : decode cX0_asItGoes 17 = .ok (.putfield 26, 3) := by decide +kernel
theorem dX0_asItGoes_20 : decode cX0_asItGoes 20 = .ok (.aload_n 0, 1) := by decide +kernel
theorem dX0_asItGoes_21 : decode cX0_asItGoes 21 = .ok (.iconst 0, 1) := by decide +kernel
theorem dX0_asItGoes_22 : decode cX0_asItGoes 22 = .ok (.putfield 29, 3) := by decide +kernel
theorem dX0_asItGoes_25 : decode cX0_asItGoes 25 = .ok (.aload_n 0, 1) := by decide +kernel
theorem dX0_asItGoes_26 : decode cX0_asItGoes 26 = .ok (.iconst 0, 1) := by decide +kernel
theorem dX0_asItGoes_27 : decode cX0_asItGoes 27 = .ok (.putfield 32, 3) := by decide +kernel
theorem dX0_asItGoes_30 : decode cX0_asItGoes 30 = .ok (.return_, 1) := by decide +kernel
theorem dX0_byNumbers_0 : decode cX0_byNumbers 0 = .ok (.aload_n 0, 1) := by decide +kernel
theorem dX0_byNumbers_1 : decode cX0_byNumbers 1 = .ok (.aload_n 1, 1) := by decide +kernel
theorem dX0_byNumbers_2 : decode cX0_byNumbers 2 = .ok (.invokevirtual 36, 3) := by decide +kernel
theorem dX0_byNumbers_5 : decode cX0_byNumbers 5 = .ok (.aload_n 0, 1) := by decide +kernel
theorem dX0_byNumbers_6 : decode cX0_byNumbers 6 = .ok (.iconst 1, 1) := by decide +kernel
theorem dX0_byNumbers_7 : decode cX0_byNumbers 7 = .ok (.putfield 19, 3) := by decide +kernel
theorem dX0_byNumbers_10 : decode cX0_byNumbers 10 = .ok (.return_, 1) := by decide +kernel
theorem dX0_passYears_0 : decode cX0_passYears 0 = .ok (.iconst 0, 1) := by decide +kernel
theorem dX0_passYears_1 : decode cX0_passYears 1 = .ok (.istore_n 3, 1) := by decide +kernel
theorem dX0_passYears_2 : decode cX0_passYears 2 = .ok (.iload_n 3, 1) := by decide +kernel
theorem dX0_passYears_3 : decode cX0_passYears 3 = .ok (.iload_n 2, 1) := by decide +kernel
theorem dX0_passYears_4 : decode cX0_passYears 4 = .ok (.if_icmp .ge 22, 3) := by decide +kernel
theorem dX0_passYears_7 : decode cX0_passYears 7 = .ok (.aload_n 1, 1) := by decide +kernel
theorem dX0_passYears_8 : decode cX0_passYears 8 = .ok (.getfield 40, 3) := by decide +kernel
theorem dX0_passYears_11 : decode cX0_passYears 11 = .ok (.ifCond .ne 15, 3) := by decide +kernel
theorem dX0_passYears_14 : decode cX0_passYears 14 = .ok (.aload_n 0, 1) := by decide +kernel
theorem dX0_passYears_15 : decode cX0_passYears 15 = .ok (.aload_n 1, 1) := by decide +kernel
theorem dX0_passYears_16 : decode cX0_passYears 16 = .ok (.invokevirtual 45, 3) := by decide +kernel
theorem dX0_passYears_19 : decode cX0_passYears 19 = .ok (.pop, 1) := by decide +kernel
theorem dX0_passYears_20 : decode cX0_passYears 20 = .ok (.iinc 3 1, 3) := by decide +kernel
theorem dX0_passYears_23 : decode cX0_passYears 23 = .ok (.goto (-21), 3) := by decide +kernel
theorem dX0_passYears_26 : decode cX0_passYears 26 = .ok (.return_, 1) := by decide +kernel
theorem dX0_yearsToFall_0 : decode cX0_yearsToFall 0 = .ok (.iconst 0, 1) := by decide +kernel
theorem dX0_yearsToFall_1 : decode cX0_yearsToFall 1 = .ok (.istore_n 3, 1) := by decide +kernel
theorem dX0_yearsToFall_2 : decode cX0_yearsToFall 2 = .ok (.iload_n 3, 1) := by decide +kernel
theorem dX0_yearsToFall_3 : decode cX0_yearsToFall 3 = .ok (.iload_n 2, 1) := by decide +kernel
theorem dX0_yearsToFall_4 : decode cX0_yearsToFall 4 = .ok (.if_icmp .ge 51, 3) := by decide +kernel
theorem dX0_yearsToFall_7 : decode cX0_yearsToFall 7 = .ok (.aload_n 1, 1) := by decide +kernel
theorem dX0_yearsToFall_8 : decode cX0_yearsToFall 8 = .ok (.getfield 40, 3) := by decide +kernel
theorem dX0_yearsToFall_11 : decode cX0_yearsToFall 11 = .ok (.ifCond .ne 44, 3) := by decide +kernel
theorem dX0_yearsToFall_14 : decode cX0_yearsToFall 14 = .ok (.aload_n 1, 1) := by decide +kernel
theorem dX0_yearsToFall_15 : decode cX0_yearsToFall 15 = .ok (.getfield 49, 3) := by decide +kernel
theorem dX0_yearsToFall_18 : decode cX0_yearsToFall 18 = .ok (.ifCond .ne 14, 3) := by decide +kernel
theorem dX0_yearsToFall_21 : decode cX0_yearsToFall 21 = .ok (.aload_n 1, 1) := by decide +kernel
theorem dX0_yearsToFall_22 : decode cX0_yearsToFall 22 = .ok (.getfield 52, 3) := by decide +kernel
theorem dX0_yearsToFall_25 : decode cX0_yearsToFall 25 = .ok (.iconst (-1), 1) := by decide +kernel
theorem dX0_yearsToFall_26 : decode cX0_yearsToFall 26 = .ok (.if_icmp .ne 6, 3) := by decide +kernel
theorem dX0_yearsToFall_29 : decode cX0_yearsToFall 29 = .ok (.bipush (-2), 2) := by decide +kernel
theorem dX0_yearsToFall_31 : decode cX0_yearsToFall 31 = .ok (.ireturn, 1) := by decide +kernel
theorem dX0_yearsToFall_32 : decode cX0_yearsToFall 32 = .ok (.aload_n 0, 1) := by decide +kernel
theorem dX0_yearsToFall_33 : decode cX0_yearsToFall 33 = .ok (.aload_n 1, 1) := by decide +kernel
theorem dX0_yearsToFall_34 : decode cX0_yearsToFall 34 = .ok (.invokevirtual 45, 3) := by decide +kernel
theorem dX0_yearsToFall_37 : decode cX0_yearsToFall 37 = .ok (.pop, 1) := by decide +kernel
theorem dX0_yearsToFall_38 : decode cX0_yearsToFall 38 = .ok (.aload_n 1, 1) := by decide +kernel
theorem dX0_yearsToFall_39 : decode cX0_yearsToFall 39 = .ok (.getfield 40, 3) := by decide +kernel
theorem dX0_yearsToFall_42 : decode cX0_yearsToFall 42 = .ok (.ifCond .eq 7, 3) := by decide +kernel
theorem dX0_yearsToFall_45 : decode cX0_yearsToFall 45 = .ok (.iload_n 3, 1) := by decide +kernel
theorem dX0_yearsToFall_46 : decode cX0_yearsToFall 46 = .ok (.iconst 1, 1) := by decide +kernel
theorem dX0_yearsToFall_47 : decode cX0_yearsToFall 47 = .ok (.iadd, 1) := by decide +kernel
theorem dX0_yearsToFall_48 : decode cX0_yearsToFall 48 = .ok (.ireturn, 1) := by decide +kernel
theorem dX0_yearsToFall_49 : decode cX0_yearsToFall 49 = .ok (.iinc 3 1, 3) := by decide +kernel
theorem dX0_yearsToFall_52 : decode cX0_yearsToFall 52 = .ok (.goto (-50), 3) := by decide +kernel
theorem dX0_yearsToFall_55 : decode cX0_yearsToFall 55 = .ok (.aload_n 1, 1) := by decide +kernel
theorem dX0_yearsToFall_56 : decode cX0_yearsToFall 56 = .ok (.getfield 40, 3) := by decide +kernel
theorem dX0_yearsToFall_59 : decode cX0_yearsToFall 59 = .ok (.ifCond .eq 7, 3) := by decide +kernel
theorem dX0_yearsToFall_62 : decode cX0_yearsToFall 62 = .ok (.iconst 0, 1) := by decide +kernel
theorem dX0_yearsToFall_63 : decode cX0_yearsToFall 63 = .ok (.goto 5, 3) := by decide +kernel
theorem dX0_yearsToFall_66 : decode cX0_yearsToFall 66 = .ok (.bipush (-2), 2) := by decide +kernel
theorem dX0_yearsToFall_68 : decode cX0_yearsToFall 68 = .ok (.ireturn, 1) := by decide +kernel
theorem dX0_passYear_0 : decode cX0_passYear 0 = .ok (.iconst (-1), 1) := by decide +kernel
theorem dX0_passYear_1 : decode cX0_passYear 1 = .ok (.istore_n 2, 1) := by decide +kernel
theorem dX0_passYear_2 : decode cX0_passYear 2 = .ok (.aload_n 1, 1) := by decide +kernel
theorem dX0_passYear_3 : decode cX0_passYear 3 = .ok (.getfield 40, 3) := by decide +kernel
theorem dX0_passYear_6 : decode cX0_passYear 6 = .ok (.ifCond .ne 88, 3) := by decide +kernel
theorem dX0_passYear_9 : decode cX0_passYear 9 = .ok (.iconst 0, 1) := by decide +kernel
theorem dX0_passYear_10 : decode cX0_passYear 10 = .ok (.istore_n 3, 1) := by decide +kernel
theorem dX0_passYear_11 : decode cX0_passYear 11 = .ok (.iload_n 3, 1) := by decide +kernel
theorem dX0_passYear_12 : decode cX0_passYear 12 = .ok (.aload_n 0, 1) := by decide +kernel
theorem dX0_passYear_13 : decode cX0_passYear 13 = .ok (.getfield 15, 3) := by decide +kernel
theorem dX0_passYear_16 : decode cX0_passYear 16 = .ok (.getfield 55, 3) := by decide +kernel
theorem dX0_passYear_19 : decode cX0_passYear 19 = .ok (.if_icmp .ge 23, 3) := by decide +kernel
theorem dX0_passYear_22 : decode cX0_passYear 22 = .ok (.aload_n 1, 1) := by decide +kernel
theorem dX0_passYear_23 : decode cX0_passYear 23 = .ok (.iload_n 3, 1) := by decide +kernel
theorem dX0_passYear_24 : decode cX0_passYear 24 = .ok (.invokevirtual 60, 3) := by decide +kernel
theorem dX0_passYear_27 : decode cX0_passYear 27 = .ok (.ifCond .eq 9, 3) := by decide +kernel
theorem dX0_passYear_30 : decode cX0_passYear 30 = .ok (.aload_n 0, 1) := by decide +kernel
theorem dX0_passYear_31 : decode cX0_passYear 31 = .ok (.aload_n 1, 1) := by decide +kernel
theorem dX0_passYear_32 : decode cX0_passYear 32 = .ok (.iload_n 3, 1) := by decide +kernel
theorem dX0_passYear_33 : decode cX0_passYear 33 = .ok (.invokevirtual 64, 3) := by decide +kernel
theorem dX0_passYear_36 : decode cX0_passYear 36 = .ok (.iinc 3 1, 3) := by decide +kernel
theorem dX0_passYear_39 : decode cX0_passYear 39 = .ok (.goto (-28), 3) := by decide +kernel
theorem dX0_passYear_42 : decode cX0_passYear 42 = .ok (.aload_n 0, 1) := by decide +kernel
theorem dX0_passYear_43 : decode cX0_passYear 43 = .ok (.aload_n 1, 1) := by decide +kernel
theorem dX0_passYear_44 : decode cX0_passYear 44 = .ok (.invokevirtual 68, 3) := by decide +kernel
theorem dX0_passYear_47 : decode cX0_passYear 47 = .ok (.istore_n 2, 1) := by decide +kernel
theorem dX0_passYear_48 : decode cX0_passYear 48 = .ok (.iload_n 2, 1) := by decide +kernel
theorem dX0_passYear_49 : decode cX0_passYear 49 = .ok (.iconst (-1), 1) := by decide +kernel
theorem dX0_passYear_50 : decode cX0_passYear 50 = .ok (.if_icmp .ne 44, 3) := by decide +kernel
theorem dX0_passYear_53 : decode cX0_passYear 53 = .ok (.aload_n 1, 1) := by decide +kernel
theorem dX0_passYear_54 : decode cX0_passYear 54 = .ok (.getfield 52, 3) := by decide +kernel
theorem dX0_passYear_57 : decode cX0_passYear 57 = .ok (.iconst (-1), 1) := by decide +kernel
theorem dX0_passYear_58 : decode cX0_passYear 58 = .ok (.if_icmp .eq 36, 3) := by decide +kernel
theorem dX0_passYear_61 : decode cX0_passYear 61 = .ok (.aload_n 1, 1) := by decide +kernel
theorem dX0_passYear_62 : decode cX0_passYear 62 = .ok (.dup, 1) := by decide +kernel
theorem dX0_passYear_63 : decode cX0_passYear 63 = .ok (.getfield 71, 3) := by decide +kernel
theorem dX0_passYear_66 : decode cX0_passYear 66 = .ok (.iconst 1, 1) := by decide +kernel
theorem dX0_passYear_67 : decode cX0_passYear 67 = .ok (.iadd, 1) := by decide +kernel
theorem dX0_passYear_68 : decode cX0_passYear 68 = .ok (.putfield 71, 3) := by decide +kernel
theorem dX0_passYear_71 : decode cX0_passYear 71 = .ok (.aload_n 1, 1) := by decide +kernel
theorem dX0_passYear_72 : decode cX0_passYear 72 = .ok (.aload_n 1, 1) := by decide +kernel
theorem dX0_passYear_73 : decode cX0_passYear 73 = .ok (.getfield 71, 3) := by decide +kernel
theorem dX0_passYear_76 : decode cX0_passYear 76 = .ok (.aload_n 0, 1) := by decide +kernel
theorem dX0_passYear_77 : decode cX0_passYear 77 = .ok (.getfield 15, 3) := by decide +kernel
theorem dX0_passYear_80 : decode cX0_passYear 80 = .ok (.getfield 74, 3) := by decide +kernel
theorem dX0_passYear_83 : decode cX0_passYear 83 = .ok (.if_icmp .lt 7, 3) := by decide +kernel
theorem dX0_passYear_86 : decode cX0_passYear 86 = .ok (.iconst 1, 1) := by decide +kernel
theorem dX0_passYear_87 : decode cX0_passYear 87 = .ok (.goto 4, 3) := by decide +kernel
theorem dX0_passYear_90 : decode cX0_passYear 90 = .ok (.iconst 0, 1) := by decide +kernel
theorem dX0_passYear_91 : decode cX0_passYear 91 = .ok (.putfield 40, 3) := by decide +kernel
theorem dX0_passYear_94 : decode cX0_passYear 94 = .ok (.aload_n 1, 1) := by decide +kernel
theorem dX0_passYear_95 : decode cX0_passYear 95 = .ok (.dup, 1) := by decide +kernel
theorem dX0_passYear_96 : decode cX0_passYear 96 = .ok (.getfield 77, 3) := by decide +kernel
theorem dX0_passYear_99 : decode cX0_passYear 99 = .ok (.iconst 1, 1) := by decide +kernel
theorem dX0_passYear_100 : decode cX0_passYear 100 = .ok (.iadd, 1) := by decide +kernel
theorem dX0_passYear_101 : decode cX0_passYear 101 = .ok (.putfield 77, 3) := by decide +kernel
theorem dX0_passYear_104 : decode cX0_passYear 104 = .ok (.iload_n 2, 1) := by decide +kernel
theorem dX0_passYear_105 : decode cX0_passYear 105 = .ok (.ireturn, 1) := by decide +kernel
theorem dX0_passHead_0 : decode cX0_passHead 0 = .ok (.aload_n 1, 1) := by decide +kernel
theorem dX0_passHead_1 : decode cX0_passHead 1 = .ok (.iload_n 2, 1) := by decide +kernel
theorem dX0_passHead_2 : decode cX0_passHead 2 = .ok (.invokevirtual 80, 3) := by decide +kernel
theorem dX0_passHead_5 : decode cX0_passHead 5 = .ok (.aload_n 0, 1) := by decide +kernel
theorem dX0_passHead_6 : decode cX0_passHead 6 = .ok (.getfield 23, 3) := by decide +kernel
theorem dX0_passHead_9 : decode cX0_passHead 9 = .ok (.ifCond .ne 23, 3) := by decide +kernel
theorem dX0_passHead_12 : decode cX0_passHead 12 = .ok (.aload_n 0, 1) := by decide +kernel
theorem dX0_passHead_13 : decode cX0_passHead 13 = .ok (.aload_n 1, 1) := by decide +kernel
theorem dX0_passHead_14 : decode cX0_passHead 14 = .ok (.aload_n 0, 1) := by decide +kernel
theorem dX0_passHead_15 : decode cX0_passHead 15 = .ok (.aload_n 1, 1) := by decide +kernel
theorem dX0_passHead_16 : decode cX0_passHead 16 = .ok (.iload_n 2, 1) := by decide +kernel
theorem dX0_passHead_17 : decode cX0_passHead 17 = .ok (.invokevirtual 84, 3) := by decide +kernel
theorem dX0_passHead_20 : decode cX0_passHead 20 = .ok (.invokevirtual 88, 3) := by decide +kernel
theorem dX0_passHead_23 : decode cX0_passHead 23 = .ok (.ifCond .eq 9, 3) := by decide +kernel
theorem dX0_passHead_26 : decode cX0_passHead 26 = .ok (.aload_n 0, 1) := by decide +kernel
theorem dX0_passHead_27 : decode cX0_passHead 27 = .ok (.aload_n 1, 1) := by decide +kernel
theorem dX0_passHead_28 : decode cX0_passHead 28 = .ok (.iload_n 2, 1) := by decide +kernel
theorem dX0_passHead_29 : decode cX0_passHead 29 = .ok (.invokevirtual 92, 3) := by decide +kernel
theorem dX0_passHead_32 : decode cX0_passHead 32 = .ok (.return_, 1) := by decide +kernel
theorem dX0_isDying_0 : decode cX0_isDying 0 = .ok (.aload_n 0, 1) := by decide +kernel
theorem dX0_isDying_1 : decode cX0_isDying 1 = .ok (.getfield 19, 3) := by decide +kernel
theorem dX0_isDying_4 : decode cX0_isDying 4 = .ok (.ifCond .ne 15, 3) := by decide +kernel
theorem dX0_isDying_7 : decode cX0_isDying 7 = .ok (.iload_n 2, 1) := by decide +kernel
theorem dX0_isDying_8 : decode cX0_isDying 8 = .ok (.bipush 50, 2) := by decide +kernel
theorem dX0_isDying_10 : decode cX0_isDying 10 = .ok (.if_icmp .lt 7, 3) := by decide +kernel
theorem dX0_isDying_13 : decode cX0_isDying 13 = .ok (.iconst 1, 1) := by decide +kernel
theorem dX0_isDying_14 : decode cX0_isDying 14 = .ok (.goto 4, 3) := by decide +kernel
theorem dX0_isDying_17 : decode cX0_isDying 17 = .ok (.iconst 0, 1) := by decide +kernel
theorem dX0_isDying_18 : decode cX0_isDying 18 = .ok (.ireturn, 1) := by decide +kernel
theorem dX0_isDying_19 : decode cX0_isDying 19 = .ok (.iload_n 2, 1) := by decide +kernel
theorem dX0_isDying_20 : decode cX0_isDying 20 = .ok (.ifCond .eq 9, 3) := by decide +kernel
theorem dX0_isDying_23 : decode cX0_isDying 23 = .ok (.iload_n 2, 1) := by decide +kernel
theorem dX0_isDying_24 : decode cX0_isDying 24 = .ok (.bipush 100, 2) := by decide +kernel
theorem dX0_isDying_26 : decode cX0_isDying 26 = .ok (.if_icmp .ne 15, 3) := by decide +kernel
theorem dX0_isDying_29 : decode cX0_isDying 29 = .ok (.iload_n 2, 1) := by decide +kernel
theorem dX0_isDying_30 : decode cX0_isDying 30 = .ok (.bipush 100, 2) := by decide +kernel
theorem dX0_isDying_32 : decode cX0_isDying 32 = .ok (.if_icmp .ne 7, 3) := by decide +kernel
theorem dX0_isDying_35 : decode cX0_isDying 35 = .ok (.iconst 1, 1) := by decide +kernel
theorem dX0_isDying_36 : decode cX0_isDying 36 = .ok (.goto 4, 3) := by decide +kernel
theorem dX0_isDying_39 : decode cX0_isDying 39 = .ok (.iconst 0, 1) := by decide +kernel
theorem dX0_isDying_40 : decode cX0_isDying 40 = .ok (.ireturn, 1) := by decide +kernel
theorem dX0_isDying_41 : decode cX0_isDying 41 = .ok (.aload_n 1, 1) := by decide +kernel
theorem dX0_isDying_42 : decode cX0_isDying 42 = .ok (.invokevirtual 95, 3) := by decide +kernel
theorem dX0_isDying_45 : decode cX0_isDying 45 = .ok (.bipush 100, 2) := by decide +kernel
theorem dX0_isDying_47 : decode cX0_isDying 47 = .ok (.irem, 1) := by decide +kernel
theorem dX0_isDying_48 : decode cX0_isDying 48 = .ok (.iload_n 2, 1) := by decide +kernel
theorem dX0_isDying_49 : decode cX0_isDying 49 = .ok (.if_icmp .ge 7, 3) := by decide +kernel
theorem dX0_isDying_52 : decode cX0_isDying 52 = .ok (.iconst 1, 1) := by decide +kernel
theorem dX0_isDying_53 : decode cX0_isDying 53 = .ok (.goto 4, 3) := by decide +kernel
theorem dX0_isDying_56 : decode cX0_isDying 56 = .ok (.iconst 0, 1) := by decide +kernel
theorem dX0_isDying_57 : decode cX0_isDying 57 = .ok (.ireturn, 1) := by decide +kernel
theorem dX0_deathOf_0 : decode cX0_deathOf 0 = .ok (.aload_n 0, 1) := by decide +kernel
theorem dX0_deathOf_1 : decode cX0_deathOf 1 = .ok (.iconst 0, 1) := by decide +kernel
theorem dX0_deathOf_2 : decode cX0_deathOf 2 = .ok (.aload_n 1, 1) := by decide +kernel
theorem dX0_deathOf_3 : decode cX0_deathOf 3 = .ok (.iload_n 2, 1) := by decide +kernel
theorem dX0_deathOf_4 : decode cX0_deathOf 4 = .ok (.invokevirtual 99, 3) := by decide +kernel
theorem dX0_deathOf_7 : decode cX0_deathOf 7 = .ok (.lstore_n 3, 1) := by decide +kernel
theorem dX0_deathOf_8 : decode cX0_deathOf 8 = .ok (.lload_n 3, 1) := by decide +kernel
theorem dX0_deathOf_9 : decode cX0_deathOf 9 = .ok (.ldc2_w 103, 3) := by decide +kernel
theorem dX0_deathOf_12 : decode cX0_deathOf 12 = .ok (.lcmp, 1) := by decide +kernel
theorem dX0_deathOf_13 : decode cX0_deathOf 13 = .ok (.ifCond .ne 17, 3) := by decide +kernel
theorem dX0_deathOf_16 : decode cX0_deathOf 16 = .ok (.iconst 0, 1) := by decide +kernel
theorem dX0_deathOf_17 : decode cX0_deathOf 17 = .ok (.aload_n 1, 1) := by decide +kernel
theorem dX0_deathOf_18 : decode cX0_deathOf 18 = .ok (.getfield 105, 3) := by decide +kernel
theorem dX0_deathOf_21 : decode cX0_deathOf 21 = .ok (.iload_n 2, 1) := by decide +kernel
theorem dX0_deathOf_22 : decode cX0_deathOf 22 = .ok (.iaload, 1) := by decide +kernel
theorem dX0_deathOf_23 : decode cX0_deathOf 23 = .ok (.bipush 40, 2) := by decide +kernel
theorem dX0_deathOf_25 : decode cX0_deathOf 25 = .ok (.isub, 1) := by decide +kernel
theorem dX0_deathOf_26 : decode cX0_deathOf 26 = .ok (.invokestatic 109, 3) := by decide +kernel
theorem dX0_deathOf_29 : decode cX0_deathOf 29 = .ok (.ireturn, 1) := by decide +kernel
theorem dX0_deathOf_30 : decode cX0_deathOf 30 = .ok (.lconst 0, 1) := by decide +kernel
theorem dX0_deathOf_31 : decode cX0_deathOf 31 = .ok (.ldc2_w 115, 3) := by decide +kernel
theorem dX0_deathOf_34 : decode cX0_deathOf 34 = .ok (.lload_n 3, 1) := by decide +kernel
theorem dX0_deathOf_35 : decode cX0_deathOf 35 = .ok (.invokestatic 117, 3) := by decide +kernel
theorem dX0_deathOf_38 : decode cX0_deathOf 38 = .ok (.invokestatic 121, 3) := by decide +kernel
theorem dX0_deathOf_41 : decode cX0_deathOf 41 = .ok (.l2i, 1) := by decide +kernel
theorem dX0_deathOf_42 : decode cX0_deathOf 42 = .ok (.ireturn, 1) := by decide +kernel
theorem dX0_handOn_0 : decode cX0_handOn 0 = .ok (.aload_n 1, 1) := by decide +kernel
theorem dX0_handOn_1 : decode cX0_handOn 1 = .ok (.dup, 1) := by decide +kernel
theorem dX0_handOn_2 : decode cX0_handOn 2 = .ok (.getfield 123, 3) := by decide +kernel
theorem dX0_handOn_5 : decode cX0_handOn 5 = .ok (.iconst 1, 1) := by decide +kernel
theorem dX0_handOn_6 : decode cX0_handOn 6 = .ok (.iadd, 1) := by decide +kernel
theorem dX0_handOn_7 : decode cX0_handOn 7 = .ok (.putfield 123, 3) := by decide +kernel
theorem dX0_handOn_10 : decode cX0_handOn 10 = .ok (.aload_n 1, 1) := by decide +kernel
theorem dX0_handOn_11 : decode cX0_handOn 11 = .ok (.getfield 126, 3) := by decide +kernel
theorem dX0_handOn_14 : decode cX0_handOn 14 = .ok (.iload_n 2, 1) := by decide +kernel
theorem dX0_handOn_15 : decode cX0_handOn 15 = .ok (.iaload, 1) := by decide +kernel
theorem dX0_handOn_16 : decode cX0_handOn 16 = .ok (.ifCond .ne 17, 3) := by decide +kernel
theorem dX0_handOn_19 : decode cX0_handOn 19 = .ok (.aload_n 0, 1) := by decide +kernel
theorem dX0_handOn_20 : decode cX0_handOn 20 = .ok (.getfield 26, 3) := by decide +kernel
theorem dX0_handOn_23 : decode cX0_handOn 23 = .ok (.ifCond .eq 10, 3) := by decide +kernel
theorem dX0_handOn_26 : decode cX0_handOn 26 = .ok (.aload_n 1, 1) := by decide +kernel
theorem dX0_handOn_27 : decode cX0_handOn 27 = .ok (.getfield 126, 3) := by decide +kernel
theorem dX0_handOn_30 : decode cX0_handOn 30 = .ok (.iload_n 2, 1) := by decide +kernel
theorem dX0_handOn_31 : decode cX0_handOn 31 = .ok (.iconst 1, 1) := by decide +kernel
theorem dX0_handOn_32 : decode cX0_handOn 32 = .ok (.iastore, 1) := by decide +kernel
theorem dX0_handOn_33 : decode cX0_handOn 33 = .ok (.aload_n 1, 1) := by decide +kernel
theorem dX0_handOn_34 : decode cX0_handOn 34 = .ok (.getfield 126, 3) := by decide +kernel
theorem dX0_handOn_37 : decode cX0_handOn 37 = .ok (.iload_n 2, 1) := by decide +kernel
theorem dX0_handOn_38 : decode cX0_handOn 38 = .ok (.iaload, 1) := by decide +kernel
theorem dX0_handOn_39 : decode cX0_handOn 39 = .ok (.ifCond .ne 9, 3) := by decide +kernel
theorem dX0_handOn_42 : decode cX0_handOn 42 = .ok (.aload_n 1, 1) := by decide +kernel
theorem dX0_handOn_43 : decode cX0_handOn 43 = .ok (.iload_n 2, 1) := by decide +kernel
theorem dX0_handOn_44 : decode cX0_handOn 44 = .ok (.invokevirtual 129, 3) := by decide +kernel
theorem dX0_handOn_47 : decode cX0_handOn 47 = .ok (.return_, 1) := by decide +kernel
theorem dX0_handOn_48 : decode cX0_handOn 48 = .ok (.aload_n 1, 1) := by decide +kernel
theorem dX0_handOn_49 : decode cX0_handOn 49 = .ok (.getfield 126, 3) := by decide +kernel
theorem dX0_handOn_52 : decode cX0_handOn 52 = .ok (.iload_n 2, 1) := by decide +kernel
theorem dX0_handOn_53 : decode cX0_handOn 53 = .ok (.dup2, 1) := by decide +kernel
theorem dX0_handOn_54 : decode cX0_handOn 54 = .ok (.iaload, 1) := by decide +kernel
theorem dX0_handOn_55 : decode cX0_handOn 55 = .ok (.iconst 1, 1) := by decide +kernel
theorem dX0_handOn_56 : decode cX0_handOn 56 = .ok (.isub, 1) := by decide +kernel
theorem dX0_handOn_57 : decode cX0_handOn 57 = .ok (.iastore, 1) := by decide +kernel
theorem dX0_handOn_58 : decode cX0_handOn 58 = .ok (.aload_n 0, 1) := by decide +kernel
theorem dX0_handOn_59 : decode cX0_handOn 59 = .ok (.iconst 1, 1) := by decide +kernel
theorem dX0_handOn_60 : decode cX0_handOn 60 = .ok (.aload_n 1, 1) := by decide +kernel
theorem dX0_handOn_61 : decode cX0_handOn 61 = .ok (.iload_n 2, 1) := by decide +kernel
theorem dX0_handOn_62 : decode cX0_handOn 62 = .ok (.invokevirtual 99, 3) := by decide +kernel
theorem dX0_handOn_65 : decode cX0_handOn 65 = .ok (.lstore_n 3, 1) := by decide +kernel
theorem dX0_handOn_66 : decode cX0_handOn 66 = .ok (.lload_n 3, 1) := by decide +kernel
theorem dX0_handOn_67 : decode cX0_handOn 67 = .ok (.ldc2_w 103, 3) := by decide +kernel
theorem dX0_handOn_70 : decode cX0_handOn 70 = .ok (.lcmp, 1) := by decide +kernel
theorem dX0_handOn_71 : decode cX0_handOn 71 = .ok (.ifCond .eq 21, 3) := by decide +kernel
theorem dX0_handOn_74 : decode cX0_handOn 74 = .ok (.aload_n 1, 1) := by decide +kernel
theorem dX0_handOn_75 : decode cX0_handOn 75 = .ok (.getfield 132, 3) := by decide +kernel
theorem dX0_handOn_78 : decode cX0_handOn 78 = .ok (.iload_n 2, 1) := by decide +kernel
theorem dX0_handOn_79 : decode cX0_handOn 79 = .ok (.lconst 0, 1) := by decide +kernel
theorem dX0_handOn_80 : decode cX0_handOn 80 = .ok (.ldc2_w 135, 3) := by decide +kernel
theorem dX0_handOn_83 : decode cX0_handOn 83 = .ok (.lload_n 3, 1) := by decide +kernel
theorem dX0_handOn_84 : decode cX0_handOn 84 = .ok (.invokestatic 117, 3) := by decide +kernel
theorem dX0_handOn_87 : decode cX0_handOn 87 = .ok (.invokestatic 121, 3) := by decide +kernel
theorem dX0_handOn_90 : decode cX0_handOn 90 = .ok (.l2i, 1) := by decide +kernel
theorem dX0_handOn_91 : decode cX0_handOn 91 = .ok (.iastore, 1) := by decide +kernel
theorem dX0_handOn_92 : decode cX0_handOn 92 = .ok (.aload_n 1, 1) := by decide +kernel
theorem dX0_handOn_93 : decode cX0_handOn 93 = .ok (.getfield 105, 3) := by decide +kernel
theorem dX0_handOn_96 : decode cX0_handOn 96 = .ok (.iload_n 2, 1) := by decide +kernel
theorem dX0_handOn_97 : decode cX0_handOn 97 = .ok (.bipush 20, 2) := by decide +kernel
theorem dX0_handOn_99 : decode cX0_handOn 99 = .ok (.iastore, 1) := by decide +kernel
theorem dX0_handOn_100 : decode cX0_handOn 100 = .ok (.return_, 1) := by decide +kernel
theorem dX0_takeTurn_0 : decode cX0_takeTurn 0 = .ok (.aload_n 0, 1) := by decide +kernel
theorem dX0_takeTurn_1 : decode cX0_takeTurn 1 = .ok (.aload_n 1, 1) := by decide +kernel
theorem dX0_takeTurn_2 : decode cX0_takeTurn 2 = .ok (.invokevirtual 137, 3) := by decide +kernel
theorem dX0_takeTurn_5 : decode cX0_takeTurn 5 = .ok (.istore_n 2, 1) := by decide +kernel
theorem dX0_takeTurn_6 : decode cX0_takeTurn 6 = .ok (.iload_n 2, 1) := by decide +kernel
theorem dX0_takeTurn_7 : decode cX0_takeTurn 7 = .ok (.iconst (-1), 1) := by decide +kernel
theorem dX0_takeTurn_8 : decode cX0_takeTurn 8 = .ok (.if_icmp .eq 24, 3) := by decide +kernel
theorem dX0_takeTurn_11 : decode cX0_takeTurn 11 = .ok (.aload_n 0, 1) := by decide +kernel
theorem dX0_takeTurn_12 : decode cX0_takeTurn 12 = .ok (.getfield 32, 3) := by decide +kernel
theorem dX0_takeTurn_15 : decode cX0_takeTurn 15 = .ok (.iload_n 2, 1) := by decide +kernel
theorem dX0_takeTurn_16 : decode cX0_takeTurn 16 = .ok (.ishr, 1) := by decide +kernel
theorem dX0_takeTurn_17 : decode cX0_takeTurn 17 = .ok (.iconst 1, 1) := by decide +kernel
theorem dX0_takeTurn_18 : decode cX0_takeTurn 18 = .ok (.iand, 1) := by decide +kernel
theorem dX0_takeTurn_19 : decode cX0_takeTurn 19 = .ok (.iconst 1, 1) := by decide +kernel
theorem dX0_takeTurn_20 : decode cX0_takeTurn 20 = .ok (.if_icmp .eq 12, 3) := by decide +kernel
theorem dX0_takeTurn_23 : decode cX0_takeTurn 23 = .ok (.aload_n 0, 1) := by decide +kernel
theorem dX0_takeTurn_24 : decode cX0_takeTurn 24 = .ok (.aload_n 1, 1) := by decide +kernel
theorem dX0_takeTurn_25 : decode cX0_takeTurn 25 = .ok (.iload_n 2, 1) := by decide +kernel
theorem dX0_takeTurn_26 : decode cX0_takeTurn 26 = .ok (.invokevirtual 140, 3) := by decide +kernel
theorem dX0_takeTurn_29 : decode cX0_takeTurn 29 = .ok (.ifCond .ne 5, 3) := by decide +kernel
theorem dX0_takeTurn_32 : decode cX0_takeTurn 32 = .ok (.iconst (-1), 1) := by decide +kernel
theorem dX0_takeTurn_33 : decode cX0_takeTurn 33 = .ok (.ireturn, 1) := by decide +kernel
theorem dX0_takeTurn_34 : decode cX0_takeTurn 34 = .ok (.aload_n 0, 1) := by decide +kernel
theorem dX0_takeTurn_35 : decode cX0_takeTurn 35 = .ok (.iconst 2, 1) := by decide +kernel
theorem dX0_takeTurn_36 : decode cX0_takeTurn 36 = .ok (.aload_n 1, 1) := by decide +kernel
theorem dX0_takeTurn_37 : decode cX0_takeTurn 37 = .ok (.iload_n 2, 1) := by decide +kernel
theorem dX0_takeTurn_38 : decode cX0_takeTurn 38 = .ok (.invokevirtual 99, 3) := by decide +kernel
theorem dX0_takeTurn_41 : decode cX0_takeTurn 41 = .ok (.lconst 0, 1) := by decide +kernel
theorem dX0_takeTurn_42 : decode cX0_takeTurn 42 = .ok (.lcmp, 1) := by decide +kernel
theorem dX0_takeTurn_43 : decode cX0_takeTurn 43 = .ok (.ifCond .ne 5, 3) := by decide +kernel
theorem dX0_takeTurn_46 : decode cX0_takeTurn 46 = .ok (.iconst (-1), 1) := by decide +kernel
theorem dX0_takeTurn_47 : decode cX0_takeTurn 47 = .ok (.ireturn, 1) := by decide +kernel
theorem dX0_takeTurn_48 : decode cX0_takeTurn 48 = .ok (.aload_n 0, 1) := by decide +kernel
theorem dX0_takeTurn_49 : decode cX0_takeTurn 49 = .ok (.aload_n 1, 1) := by decide +kernel
theorem dX0_takeTurn_50 : decode cX0_takeTurn 50 = .ok (.iload_n 2, 1) := by decide +kernel
theorem dX0_takeTurn_51 : decode cX0_takeTurn 51 = .ok (.invokevirtual 143, 3) := by decide +kernel
theorem dX0_takeTurn_54 : decode cX0_takeTurn 54 = .ok (.iload_n 2, 1) := by decide +kernel
theorem dX0_takeTurn_55 : decode cX0_takeTurn 55 = .ok (.ireturn, 1) := by decide +kernel
theorem dX0_whoseTurn_0 : decode cX0_whoseTurn 0 = .ok (.aload_n 0, 1) := by decide +kernel
theorem dX0_whoseTurn_1 : decode cX0_whoseTurn 1 = .ok (.getfield 15, 3) := by decide +kernel
theorem dX0_whoseTurn_4 : decode cX0_whoseTurn 4 = .ok (.getfield 55, 3) := by decide +kernel
theorem dX0_whoseTurn_7 : decode cX0_whoseTurn 7 = .ok (.istore_n 2, 1) := by decide +kernel
theorem dX0_whoseTurn_8 : decode cX0_whoseTurn 8 = .ok (.iconst 0, 1) := by decide +kernel
theorem dX0_whoseTurn_9 : decode cX0_whoseTurn 9 = .ok (.istore_n 3, 1) := by decide +kernel
theorem dX0_whoseTurn_10 : decode cX0_whoseTurn 10 = .ok (.iload_n 3, 1) := by decide +kernel
theorem dX0_whoseTurn_11 : decode cX0_whoseTurn 11 = .ok (.iload_n 2, 1) := by decide +kernel
theorem dX0_whoseTurn_12 : decode cX0_whoseTurn 12 = .ok (.if_icmp .ge 31, 3) := by decide +kernel
theorem dX0_whoseTurn_15 : decode cX0_whoseTurn 15 = .ok (.aload_n 1, 1) := by decide +kernel
theorem dX0_whoseTurn_16 : decode cX0_whoseTurn 16 = .ok (.getfield 77, 3) := by decide +kernel
theorem dX0_whoseTurn_19 : decode cX0_whoseTurn 19 = .ok (.iload_n 3, 1) := by decide +kernel
theorem dX0_whoseTurn_20 : decode cX0_whoseTurn 20 = .ok (.iadd, 1) := by decide +kernel
theorem dX0_whoseTurn_21 : decode cX0_whoseTurn 21 = .ok (.iload_n 2, 1) := by decide +kernel
theorem dX0_whoseTurn_22 : decode cX0_whoseTurn 22 = .ok (.irem, 1) := by decide +kernel
theorem dX0_whoseTurn_23 : decode cX0_whoseTurn 23 = .ok (.istore 4, 2) := by decide +kernel
theorem dX0_whoseTurn_25 : decode cX0_whoseTurn 25 = .ok (.aload_n 1, 1) := by decide +kernel
theorem dX0_whoseTurn_26 : decode cX0_whoseTurn 26 = .ok (.iload 4, 2) := by decide +kernel
theorem dX0_whoseTurn_28 : decode cX0_whoseTurn 28 = .ok (.invokevirtual 60, 3) := by decide +kernel
theorem dX0_whoseTurn_31 : decode cX0_whoseTurn 31 = .ok (.ifCond .eq 6, 3) := by decide +kernel
theorem dX0_whoseTurn_34 : decode cX0_whoseTurn 34 = .ok (.iload 4, 2) := by decide +kernel
theorem dX0_whoseTurn_36 : decode cX0_whoseTurn 36 = .ok (.ireturn, 1) := by decide +kernel
theorem dX0_whoseTurn_37 : decode cX0_whoseTurn 37 = .ok (.iinc 3 1, 3) := by decide +kernel
theorem dX0_whoseTurn_40 : decode cX0_whoseTurn 40 = .ok (.goto (-30), 3) := by decide +kernel
theorem dX0_whoseTurn_43 : decode cX0_whoseTurn 43 = .ok (.iconst (-1), 1) := by decide +kernel
theorem dX0_whoseTurn_44 : decode cX0_whoseTurn 44 = .ok (.ireturn, 1) := by decide +kernel
theorem dX0_stepOf_0 : decode cX0_stepOf 0 = .ok (.aload_n 0, 1) := by decide +kernel
theorem dX0_stepOf_1 : decode cX0_stepOf 1 = .ok (.getfield 29, 3) := by decide +kernel
theorem dX0_stepOf_4 : decode cX0_stepOf 4 = .ok (.ifCond .eq 7, 3) := by decide +kernel
theorem dX0_stepOf_7 : decode cX0_stepOf 7 = .ok (.iconst 1, 1) := by decide +kernel
theorem dX0_stepOf_8 : decode cX0_stepOf 8 = .ok (.goto 12, 3) := by decide +kernel
theorem dX0_stepOf_11 : decode cX0_stepOf 11 = .ok (.aload_n 0, 1) := by decide +kernel
theorem dX0_stepOf_12 : decode cX0_stepOf 12 = .ok (.getfield 15, 3) := by decide +kernel
theorem dX0_stepOf_15 : decode cX0_stepOf 15 = .ok (.getfield 146, 3) := by decide +kernel
theorem dX0_stepOf_18 : decode cX0_stepOf 18 = .ok (.iload_n 1, 1) := by decide +kernel
theorem dX0_stepOf_19 : decode cX0_stepOf 19 = .ok (.iaload, 1) := by decide +kernel
theorem dX0_stepOf_20 : decode cX0_stepOf 20 = .ok (.ireturn, 1) := by decide +kernel
theorem dX0_mayNod_0 : decode cX0_mayNod 0 = .ok (.aload_n 1, 1) := by decide +kernel
theorem dX0_mayNod_1 : decode cX0_mayNod 1 = .ok (.getfield 40, 3) := by decide +kernel
theorem dX0_mayNod_4 : decode cX0_mayNod 4 = .ok (.ifCond .ne 42, 3) := by decide +kernel
theorem dX0_mayNod_7 : decode cX0_mayNod 7 = .ok (.aload_n 1, 1) := by decide +kernel
theorem dX0_mayNod_8 : decode cX0_mayNod 8 = .ok (.iload_n 2, 1) := by decide +kernel
theorem dX0_mayNod_9 : decode cX0_mayNod 9 = .ok (.invokevirtual 60, 3) := by decide +kernel
theorem dX0_mayNod_12 : decode cX0_mayNod 12 = .ok (.ifCond .eq 34, 3) := by decide +kernel
theorem dX0_mayNod_15 : decode cX0_mayNod 15 = .ok (.aload_n 1, 1) := by decide +kernel
theorem dX0_mayNod_16 : decode cX0_mayNod 16 = .ok (.getfield 52, 3) := by decide +kernel
theorem dX0_mayNod_19 : decode cX0_mayNod 19 = .ok (.iload_n 2, 1) := by decide +kernel
theorem dX0_mayNod_20 : decode cX0_mayNod 20 = .ok (.if_icmp .eq 26, 3) := by decide +kernel
theorem dX0_mayNod_23 : decode cX0_mayNod 23 = .ok (.aload_n 1, 1) := by decide +kernel
theorem dX0_mayNod_24 : decode cX0_mayNod 24 = .ok (.getfield 149, 3) := by decide +kernel
theorem dX0_mayNod_27 : decode cX0_mayNod 27 = .ok (.aload_n 0, 1) := by decide +kernel
theorem dX0_mayNod_28 : decode cX0_mayNod 28 = .ok (.iload_n 2, 1) := by decide +kernel
theorem dX0_mayNod_29 : decode cX0_mayNod 29 = .ok (.invokevirtual 152, 3) := by decide +kernel
theorem dX0_mayNod_32 : decode cX0_mayNod 32 = .ok (.iadd, 1) := by decide +kernel
theorem dX0_mayNod_33 : decode cX0_mayNod 33 = .ok (.aload_n 1, 1) := by decide +kernel
theorem dX0_mayNod_34 : decode cX0_mayNod 34 = .ok (.getfield 132, 3) := by decide +kernel
theorem dX0_mayNod_37 : decode cX0_mayNod 37 = .ok (.iload_n 2, 1) := by decide +kernel
theorem dX0_mayNod_38 : decode cX0_mayNod 38 = .ok (.iaload, 1) := by decide +kernel
theorem dX0_mayNod_39 : decode cX0_mayNod 39 = .ok (.if_icmp .gt 7, 3) := by decide +kernel
theorem dX0_mayNod_42 : decode cX0_mayNod 42 = .ok (.iconst 1, 1) := by decide +kernel
theorem dX0_mayNod_43 : decode cX0_mayNod 43 = .ok (.goto 4, 3) := by decide +kernel
theorem dX0_mayNod_46 : decode cX0_mayNod 46 = .ok (.iconst 0, 1) := by decide +kernel
theorem dX0_mayNod_47 : decode cX0_mayNod 47 = .ok (.ireturn, 1) := by decide +kernel
theorem dX0_raise_0 : decode cX0_raise 0 = .ok (.aload_n 1, 1) := by decide +kernel
theorem dX0_raise_1 : decode cX0_raise 1 = .ok (.dup, 1) := by decide +kernel
theorem dX0_raise_2 : decode cX0_raise 2 = .ok (.getfield 149, 3) := by decide +kernel
theorem dX0_raise_5 : decode cX0_raise 5 = .ok (.aload_n 0, 1) := by decide +kernel
theorem dX0_raise_6 : decode cX0_raise 6 = .ok (.iload_n 2, 1) := by decide +kernel
theorem dX0_raise_7 : decode cX0_raise 7 = .ok (.invokevirtual 152, 3) := by decide +kernel
theorem dX0_raise_10 : decode cX0_raise 10 = .ok (.iadd, 1) := by decide +kernel
theorem dX0_raise_11 : decode cX0_raise 11 = .ok (.putfield 149, 3) := by decide +kernel
theorem dX0_raise_14 : decode cX0_raise 14 = .ok (.aload_n 1, 1) := by decide +kernel
theorem dX0_raise_15 : decode cX0_raise 15 = .ok (.iload_n 2, 1) := by decide +kernel
theorem dX0_raise_16 : decode cX0_raise 16 = .ok (.putfield 52, 3) := by decide +kernel
theorem dX0_raise_19 : decode cX0_raise 19 = .ok (.aload_n 1, 1) := by decide +kernel
theorem dX0_raise_20 : decode cX0_raise 20 = .ok (.iconst 0, 1) := by decide +kernel
theorem dX0_raise_21 : decode cX0_raise 21 = .ok (.putfield 71, 3) := by decide +kernel
theorem dX0_raise_24 : decode cX0_raise 24 = .ok (.aload_n 1, 1) := by decide +kernel
theorem dX0_raise_25 : decode cX0_raise 25 = .ok (.getfield 156, 3) := by decide +kernel
theorem dX0_raise_28 : decode cX0_raise 28 = .ok (.iload_n 2, 1) := by decide +kernel
theorem dX0_raise_29 : decode cX0_raise 29 = .ok (.dup2, 1) := by decide +kernel
theorem dX0_raise_30 : decode cX0_raise 30 = .ok (.iaload, 1) := by decide +kernel
theorem dX0_raise_31 : decode cX0_raise 31 = .ok (.iconst 1, 1) := by decide +kernel
theorem dX0_raise_32 : decode cX0_raise 32 = .ok (.iadd, 1) := by decide +kernel
theorem dX0_raise_33 : decode cX0_raise 33 = .ok (.iastore, 1) := by decide +kernel
theorem dX0_raise_34 : decode cX0_raise 34 = .ok (.aload_n 1, 1) := by decide +kernel
theorem dX0_raise_35 : decode cX0_raise 35 = .ok (.getfield 159, 3) := by decide +kernel
theorem dX0_raise_38 : decode cX0_raise 38 = .ok (.iload_n 2, 1) := by decide +kernel
theorem dX0_raise_39 : decode cX0_raise 39 = .ok (.aload_n 1, 1) := by decide +kernel
theorem dX0_raise_40 : decode cX0_raise 40 = .ok (.getfield 149, 3) := by decide +kernel
theorem dX0_raise_43 : decode cX0_raise 43 = .ok (.iastore, 1) := by decide +kernel
theorem dX0_raise_44 : decode cX0_raise 44 = .ok (.return_, 1) := by decide +kernel
theorem dX0_valueOf_0 : decode cX0_valueOf 0 = .ok (.aload_n 0, 1) := by decide +kernel
theorem dX0_valueOf_1 : decode cX0_valueOf 1 = .ok (.getfield 15, 3) := by decide +kernel
theorem dX0_valueOf_4 : decode cX0_valueOf 4 = .ok (.getfield 162, 3) := by decide +kernel
theorem dX0_valueOf_7 : decode cX0_valueOf 7 = .ok (.astore 4, 2) := by decide +kernel
theorem dX0_valueOf_9 : decode cX0_valueOf 9 = .ok (.iconst 0, 1) := by decide +kernel
theorem dX0_valueOf_10 : decode cX0_valueOf 10 = .ok (.istore 5, 2) := by decide +kernel
theorem dX0_valueOf_12 : decode cX0_valueOf 12 = .ok (.aload 4, 2) := by decide +kernel
theorem dX0_valueOf_14 : decode cX0_valueOf 14 = .ok (.getfield 166, 3) := by decide +kernel
theorem dX0_valueOf_17 : decode cX0_valueOf 17 = .ok (.iload_n 1, 1) := by decide +kernel
theorem dX0_valueOf_18 : decode cX0_valueOf 18 = .ok (.iaload, 1) := by decide +kernel
theorem dX0_valueOf_19 : decode cX0_valueOf 19 = .ok (.istore 6, 2) := by decide +kernel
theorem dX0_valueOf_21 : decode cX0_valueOf 21 = .ok (.iload 6, 2) := by decide +kernel
theorem dX0_valueOf_23 : decode cX0_valueOf 23 = .ok (.aload 4, 2) := by decide +kernel
theorem dX0_valueOf_25 : decode cX0_valueOf 25 = .ok (.getfield 171, 3) := by decide +kernel
theorem dX0_valueOf_28 : decode cX0_valueOf 28 = .ok (.iload_n 1, 1) := by decide +kernel
theorem dX0_valueOf_29 : decode cX0_valueOf 29 = .ok (.iaload, 1) := by decide +kernel
theorem dX0_valueOf_30 : decode cX0_valueOf 30 = .ok (.if_icmp .ge 179, 3) := by decide +kernel
theorem dX0_valueOf_33 : decode cX0_valueOf 33 = .ok (.aload 4, 2) := by decide +kernel
theorem dX0_valueOf_35 : decode cX0_valueOf 35 = .ok (.getfield 174, 3) := by decide +kernel
theorem dX0_valueOf_38 : decode cX0_valueOf 38 = .ok (.iload 6, 2) := by decide +kernel
theorem dX0_valueOf_40 : decode cX0_valueOf 40 = .ok (.iaload, 1) := by decide +kernel
theorem dX0_valueOf_41 : decode cX0_valueOf 41 = .ok (.istore 7, 2) := by decide +kernel
theorem dX0_valueOf_43 : decode cX0_valueOf 43 = .ok (.iload 7, 2) := by decide +kernel
theorem dX0_valueOf_45 : decode cX0_valueOf 45 = .ok (.bipush 20, 2) := by decide +kernel
theorem dX0_valueOf_47 : decode cX0_valueOf 47 = .ok (.if_icmp .eq 15, 3) := by decide +kernel
theorem dX0_valueOf_50 : decode cX0_valueOf 50 = .ok (.iload 7, 2) := by decide +kernel
theorem dX0_valueOf_52 : decode cX0_valueOf 52 = .ok (.bipush 12, 2) := by decide +kernel
theorem dX0_valueOf_54 : decode cX0_valueOf 54 = .ok (.bipush 18, 2) := by decide +kernel
theorem dX0_valueOf_56 : decode cX0_valueOf 56 = .ok (.invokestatic 177, 3) := by decide +kernel
theorem dX0_valueOf_59 : decode cX0_valueOf 59 = .ok (.ifCond .eq 55, 3) := by decide +kernel
theorem dX0_valueOf_62 : decode cX0_valueOf 62 = .ok (.iload 5, 2) := by decide +kernel
theorem dX0_valueOf_64 : decode cX0_valueOf 64 = .ok (.bipush 64, 2) := by decide +kernel
theorem dX0_valueOf_66 : decode cX0_valueOf 66 = .ok (.if_icmp .lt 7, 3) := by decide +kernel
theorem dX0_valueOf_69 : decode cX0_valueOf 69 = .ok (.ldc2_w 103, 3) := by decide +kernel
theorem dX0_valueOf_72 : decode cX0_valueOf 72 = .ok (.lreturn, 1) := by decide +kernel
theorem dX0_valueOf_73 : decode cX0_valueOf 73 = .ok (.aload_n 0, 1) := by decide +kernel
theorem dX0_valueOf_74 : decode cX0_valueOf 74 = .ok (.getfield 9, 3) := by decide +kernel
theorem dX0_valueOf_77 : decode cX0_valueOf 77 = .ok (.iload 5, 2) := by decide +kernel
theorem dX0_valueOf_79 : decode cX0_valueOf 79 = .ok (.iload 7, 2) := by decide +kernel
theorem dX0_valueOf_81 : decode cX0_valueOf 81 = .ok (.bipush 20, 2) := by decide +kernel
theorem dX0_valueOf_83 : decode cX0_valueOf 83 = .ok (.if_icmp .ne 15, 3) := by decide +kernel
theorem dX0_valueOf_86 : decode cX0_valueOf 86 = .ok (.aload 4, 2) := by decide +kernel
theorem dX0_valueOf_88 : decode cX0_valueOf 88 = .ok (.getfield 181, 3) := by decide +kernel
theorem dX0_valueOf_91 : decode cX0_valueOf 91 = .ok (.iload 6, 2) := by decide +kernel
theorem dX0_valueOf_93 : decode cX0_valueOf 93 = .ok (.iaload, 1) := by decide +kernel
theorem dX0_valueOf_94 : decode cX0_valueOf 94 = .ok (.i2l, 1) := by decide +kernel
theorem dX0_valueOf_95 : decode cX0_valueOf 95 = .ok (.goto 12, 3) := by decide +kernel
theorem dX0_valueOf_98 : decode cX0_valueOf 98 = .ok (.aload_n 0, 1) := by decide +kernel
theorem dX0_valueOf_99 : decode cX0_valueOf 99 = .ok (.iload 7, 2) := by decide +kernel
theorem dX0_valueOf_101 : decode cX0_valueOf 101 = .ok (.aload_n 2, 1) := by decide +kernel
theorem dX0_valueOf_102 : decode cX0_valueOf 102 = .ok (.iload_n 3, 1) := by decide +kernel
theorem dX0_valueOf_103 : decode cX0_valueOf 103 = .ok (.invokevirtual 184, 3) := by decide +kernel
theorem dX0_valueOf_106 : decode cX0_valueOf 106 = .ok (.i2l, 1) := by decide +kernel
theorem dX0_valueOf_107 : decode cX0_valueOf 107 = .ok (.lastore, 1) := by decide +kernel
theorem dX0_valueOf_108 : decode cX0_valueOf 108 = .ok (.iinc 5 1, 3) := by decide +kernel
theorem dX0_valueOf_111 : decode cX0_valueOf 111 = .ok (.goto 92, 3) := by decide +kernel
theorem dX0_valueOf_114 : decode cX0_valueOf 114 = .ok (.iload 7, 2) := by decide +kernel
theorem dX0_valueOf_116 : decode cX0_valueOf 116 = .ok (.bipush 11, 2) := by decide +kernel
theorem dX0_valueOf_118 : decode cX0_valueOf 118 = .ok (.if_icmp .ne 10, 3) := by decide +kernel
theorem dX0_valueOf_121 : decode cX0_valueOf 121 = .ok (.iload 5, 2) := by decide +kernel
theorem dX0_valueOf_123 : decode cX0_valueOf 123 = .ok (.iconst 1, 1) := by decide +kernel
theorem dX0_valueOf_124 : decode cX0_valueOf 124 = .ok (.isub, 1) := by decide +kernel
theorem dX0_valueOf_125 : decode cX0_valueOf 125 = .ok (.goto 7, 3) := by decide +kernel
theorem dX0_valueOf_128 : decode cX0_valueOf 128 = .ok (.iload 5, 2) := by decide +kernel
theorem dX0_valueOf_130 : decode cX0_valueOf 130 = .ok (.iconst 2, 1) := by decide +kernel
theorem dX0_valueOf_131 : decode cX0_valueOf 131 = .ok (.isub, 1) := by decide +kernel
theorem dX0_valueOf_132 : decode cX0_valueOf 132 = .ok (.istore 8, 2) := by decide +kernel
theorem dX0_valueOf_134 : decode cX0_valueOf 134 = .ok (.iload 8, 2) := by decide +kernel
theorem dX0_valueOf_136 : decode cX0_valueOf 136 = .ok (.ifCond .ge 7, 3) := by decide +kernel
theorem dX0_valueOf_139 : decode cX0_valueOf 139 = .ok (.ldc2_w 103, 3) := by decide +kernel
theorem dX0_valueOf_142 : decode cX0_valueOf 142 = .ok (.lreturn, 1) := by decide +kernel
theorem dX0_valueOf_143 : decode cX0_valueOf 143 = .ok (.iload 7, 2) := by decide +kernel
theorem dX0_valueOf_145 : decode cX0_valueOf 145 = .ok (.aload_n 0, 1) := by decide +kernel
theorem dX0_valueOf_146 : decode cX0_valueOf 146 = .ok (.getfield 9, 3) := by decide +kernel
theorem dX0_valueOf_149 : decode cX0_valueOf 149 = .ok (.iload 8, 2) := by decide +kernel
theorem dX0_valueOf_151 : decode cX0_valueOf 151 = .ok (.laload, 1) := by decide +kernel
theorem dX0_valueOf_152 : decode cX0_valueOf 152 = .ok (.aload_n 0, 1) := by decide +kernel
theorem dX0_valueOf_153 : decode cX0_valueOf 153 = .ok (.getfield 9, 3) := by decide +kernel
theorem dX0_valueOf_156 : decode cX0_valueOf 156 = .ok (.iload 5, 2) := by decide +kernel
theorem dX0_valueOf_158 : decode cX0_valueOf 158 = .ok (.iconst 1, 1) := by decide +kernel
theorem dX0_valueOf_159 : decode cX0_valueOf 159 = .ok (.isub, 1) := by decide +kernel
theorem dX0_valueOf_160 : decode cX0_valueOf 160 = .ok (.laload, 1) := by decide +kernel
theorem dX0_valueOf_161 : decode cX0_valueOf 161 = .ok (.invokestatic 188, 3) := by decide +kernel
theorem dX0_valueOf_164 : decode cX0_valueOf 164 = .ok (.lstore 9, 2) := by decide +kernel
theorem dX0_valueOf_166 : decode cX0_valueOf 166 = .ok (.lload 9, 2) := by decide +kernel
theorem dX0_valueOf_168 : decode cX0_valueOf 168 = .ok (.ldc2_w 192, 3) := by decide +kernel
theorem dX0_valueOf_171 : decode cX0_valueOf 171 = .ok (.lcmp, 1) := by decide +kernel
theorem dX0_valueOf_172 : decode cX0_valueOf 172 = .ok (.ifCond .gt 12, 3) := by decide +kernel
theorem dX0_valueOf_175 : decode cX0_valueOf 175 = .ok (.lload 9, 2) := by decide +kernel
theorem dX0_valueOf_177 : decode cX0_valueOf 177 = .ok (.ldc2_w 194, 3) := by decide +kernel
theorem dX0_valueOf_180 : decode cX0_valueOf 180 = .ok (.lcmp, 1) := by decide +kernel
theorem dX0_valueOf_181 : decode cX0_valueOf 181 = .ok (.ifCond .ge 7, 3) := by decide +kernel
theorem dX0_valueOf_184 : decode cX0_valueOf 184 = .ok (.ldc2_w 103, 3) := by decide +kernel
theorem dX0_valueOf_187 : decode cX0_valueOf 187 = .ok (.lreturn, 1) := by decide +kernel
theorem dX0_valueOf_188 : decode cX0_valueOf 188 = .ok (.aload_n 0, 1) := by decide +kernel
theorem dX0_valueOf_189 : decode cX0_valueOf 189 = .ok (.getfield 9, 3) := by decide +kernel
theorem dX0_valueOf_192 : decode cX0_valueOf 192 = .ok (.iload 8, 2) := by decide +kernel
theorem dX0_valueOf_194 : decode cX0_valueOf 194 = .ok (.lload 9, 2) := by decide +kernel
theorem dX0_valueOf_196 : decode cX0_valueOf 196 = .ok (.lastore, 1) := by decide +kernel
theorem dX0_valueOf_197 : decode cX0_valueOf 197 = .ok (.iload 8, 2) := by decide +kernel
theorem dX0_valueOf_199 : decode cX0_valueOf 199 = .ok (.iconst 1, 1) := by decide +kernel
theorem dX0_valueOf_200 : decode cX0_valueOf 200 = .ok (.iadd, 1) := by decide +kernel
theorem dX0_valueOf_201 : decode cX0_valueOf 201 = .ok (.istore 5, 2) := by decide +kernel
theorem dX0_valueOf_203 : decode cX0_valueOf 203 = .ok (.iinc 6 1, 3) := by decide +kernel
theorem dX0_valueOf_206 : decode cX0_valueOf 206 = .ok (.goto (-185), 3) := by decide +kernel
theorem dX0_valueOf_209 : decode cX0_valueOf 209 = .ok (.iload 5, 2) := by decide +kernel
theorem dX0_valueOf_211 : decode cX0_valueOf 211 = .ok (.iconst 1, 1) := by decide +kernel
theorem dX0_valueOf_212 : decode cX0_valueOf 212 = .ok (.if_icmp .ne 12, 3) := by decide +kernel
theorem dX0_valueOf_215 : decode cX0_valueOf 215 = .ok (.aload_n 0, 1) := by decide +kernel
theorem dX0_valueOf_216 : decode cX0_valueOf 216 = .ok (.getfield 9, 3) := by decide +kernel
theorem dX0_valueOf_219 : decode cX0_valueOf 219 = .ok (.iconst 0, 1) := by decide +kernel
theorem dX0_valueOf_220 : decode cX0_valueOf 220 = .ok (.laload, 1) := by decide +kernel
theorem dX0_valueOf_221 : decode cX0_valueOf 221 = .ok (.goto 6, 3) := by decide +kernel
theorem dX0_valueOf_224 : decode cX0_valueOf 224 = .ok (.ldc2_w 103, 3) := by decide +kernel
theorem dX0_valueOf_227 : decode cX0_valueOf 227 = .ok (.lreturn, 1) := by decide +kernel
theorem dX0_nameOf_0 : decode cX0_nameOf 0 = .ok (.iload_n 1, 1) := by decide +kernel
theorem dX0_nameOf_1 : decode cX0_nameOf 1 = .ok (.tableswitch 80 12 17 #[39, 44, 51, 61, 68, 75], 39) := by decide +kernel
theorem dX0_nameOf_40 : decode cX0_nameOf 40 = .ok (.aload_n 2, 1) := by decide +kernel
theorem dX0_nameOf_41 : decode cX0_nameOf 41 = .ok (.getfield 149, 3) := by decide +kernel
theorem dX0_nameOf_44 : decode cX0_nameOf 44 = .ok (.ireturn, 1) := by decide +kernel
theorem dX0_nameOf_45 : decode cX0_nameOf 45 = .ok (.aload_n 2, 1) := by decide +kernel
theorem dX0_nameOf_46 : decode cX0_nameOf 46 = .ok (.getfield 132, 3) := by decide +kernel
theorem dX0_nameOf_49 : decode cX0_nameOf 49 = .ok (.iload_n 3, 1) := by decide +kernel
theorem dX0_nameOf_50 : decode cX0_nameOf 50 = .ok (.iaload, 1) := by decide +kernel
theorem dX0_nameOf_51 : decode cX0_nameOf 51 = .ok (.ireturn, 1) := by decide +kernel
theorem dX0_nameOf_52 : decode cX0_nameOf 52 = .ok (.aload_n 0, 1) := by decide +kernel
theorem dX0_nameOf_53 : decode cX0_nameOf 53 = .ok (.getfield 15, 3) := by decide +kernel
theorem dX0_nameOf_56 : decode cX0_nameOf 56 = .ok (.getfield 196, 3) := by decide +kernel
theorem dX0_nameOf_59 : decode cX0_nameOf 59 = .ok (.iload_n 3, 1) := by decide +kernel
theorem dX0_nameOf_60 : decode cX0_nameOf 60 = .ok (.iaload, 1) := by decide +kernel
theorem dX0_nameOf_61 : decode cX0_nameOf 61 = .ok (.ireturn, 1) := by decide +kernel
theorem dX0_nameOf_62 : decode cX0_nameOf 62 = .ok (.aload_n 2, 1) := by decide +kernel
theorem dX0_nameOf_63 : decode cX0_nameOf 63 = .ok (.getfield 105, 3) := by decide +kernel
theorem dX0_nameOf_66 : decode cX0_nameOf 66 = .ok (.iload_n 3, 1) := by decide +kernel
theorem dX0_nameOf_67 : decode cX0_nameOf 67 = .ok (.iaload, 1) := by decide +kernel
theorem dX0_nameOf_68 : decode cX0_nameOf 68 = .ok (.ireturn, 1) := by decide +kernel
theorem dX0_nameOf_69 : decode cX0_nameOf 69 = .ok (.aload_n 2, 1) := by decide +kernel
theorem dX0_nameOf_70 : decode cX0_nameOf 70 = .ok (.getfield 126, 3) := by decide +kernel
theorem dX0_nameOf_73 : decode cX0_nameOf 73 = .ok (.iload_n 3, 1) := by decide +kernel
theorem dX0_nameOf_74 : decode cX0_nameOf 74 = .ok (.iaload, 1) := by decide +kernel
theorem dX0_nameOf_75 : decode cX0_nameOf 75 = .ok (.ireturn, 1) := by decide +kernel
theorem dX0_nameOf_76 : decode cX0_nameOf 76 = .ok (.aload_n 2, 1) := by decide +kernel
theorem dX0_nameOf_77 : decode cX0_nameOf 77 = .ok (.getfield 71, 3) := by decide +kernel
theorem dX0_nameOf_80 : decode cX0_nameOf 80 = .ok (.ireturn, 1) := by decide +kernel
theorem dX0_nameOf_81 : decode cX0_nameOf 81 = .ok (.aload_n 2, 1) := by decide +kernel
theorem dX0_nameOf_82 : decode cX0_nameOf 82 = .ok (.getfield 77, 3) := by decide +kernel
theorem dX0_nameOf_85 : decode cX0_nameOf 85 = .ok (.ireturn, 1) := by decide +kernel
theorem dX0_join_0 : decode cX0_join 0 = .ok (.iload_n 0, 1) := by decide +kernel
theorem dX0_join_1 : decode cX0_join 1 = .ok (.tableswitch 279 9 34 #[131, 149, 119, 279, 279, 279, 279, 279, 279, 279, 279, 279, 279, 279, 279, 279, 279, 167, 179, 191, 203, 215, 227, 239, 243, 247], 119) := by decide +kernel
theorem dX0_join_120 : decode cX0_join 120 = .ok (.lload_n 1, 1) := by decide +kernel
theorem dX0_join_121 : decode cX0_join 121 = .ok (.lconst 0, 1) := by decide +kernel
theorem dX0_join_122 : decode cX0_join 122 = .ok (.lcmp, 1) := by decide +kernel
theorem dX0_join_123 : decode cX0_join 123 = .ok (.ifCond .ne 7, 3) := by decide +kernel
theorem dX0_join_126 : decode cX0_join 126 = .ok (.lconst 1, 1) := by decide +kernel
theorem dX0_join_127 : decode cX0_join 127 = .ok (.goto 4, 3) := by decide +kernel
theorem dX0_join_130 : decode cX0_join 130 = .ok (.lconst 0, 1) := by decide +kernel
theorem dX0_join_131 : decode cX0_join 131 = .ok (.lreturn, 1) := by decide +kernel
theorem dX0_join_132 : decode cX0_join 132 = .ok (.lload_n 1, 1) := by decide +kernel
theorem dX0_join_133 : decode cX0_join 133 = .ok (.lconst 0, 1) := by decide +kernel
theorem dX0_join_134 : decode cX0_join 134 = .ok (.lcmp, 1) := by decide +kernel
theorem dX0_join_135 : decode cX0_join 135 = .ok (.ifCond .ne 9, 3) := by decide +kernel
theorem dX0_join_138 : decode cX0_join 138 = .ok (.lload_n 3, 1) := by decide +kernel
theorem dX0_join_139 : decode cX0_join 139 = .ok (.lconst 0, 1) := by decide +kernel
theorem dX0_join_140 : decode cX0_join 140 = .ok (.lcmp, 1) := by decide +kernel
theorem dX0_join_141 : decode cX0_join 141 = .ok (.ifCond .eq 7, 3) := by decide +kernel
theorem dX0_join_144 : decode cX0_join 144 = .ok (.lconst 1, 1) := by decide +kernel
theorem dX0_join_145 : decode cX0_join 145 = .ok (.goto 4, 3) := by decide +kernel
theorem dX0_join_148 : decode cX0_join 148 = .ok (.lconst 0, 1) := by decide +kernel
theorem dX0_join_149 : decode cX0_join 149 = .ok (.lreturn, 1) := by decide +kernel
theorem dX0_join_150 : decode cX0_join 150 = .ok (.lload_n 1, 1) := by decide +kernel
theorem dX0_join_151 : decode cX0_join 151 = .ok (.lconst 0, 1) := by decide +kernel
theorem dX0_join_152 : decode cX0_join 152 = .ok (.lcmp, 1) := by decide +kernel
theorem dX0_join_153 : decode cX0_join 153 = .ok (.ifCond .eq 13, 3) := by decide +kernel
theorem dX0_join_156 : decode cX0_join 156 = .ok (.lload_n 3, 1) := by decide +kernel
theorem dX0_join_157 : decode cX0_join 157 = .ok (.lconst 0, 1) := by decide +kernel
theorem dX0_join_158 : decode cX0_join 158 = .ok (.lcmp, 1) := by decide +kernel
theorem dX0_join_159 : decode cX0_join 159 = .ok (.ifCond .eq 7, 3) := by decide +kernel
theorem dX0_join_162 : decode cX0_join 162 = .ok (.lconst 1, 1) := by decide +kernel
theorem dX0_join_163 : decode cX0_join 163 = .ok (.goto 4, 3) := by decide +kernel
theorem dX0_join_166 : decode cX0_join 166 = .ok (.lconst 0, 1) := by decide +kernel
theorem dX0_join_167 : decode cX0_join 167 = .ok (.lreturn, 1) := by decide +kernel
theorem dX0_join_168 : decode cX0_join 168 = .ok (.lload_n 1, 1) := by decide +kernel
theorem dX0_join_169 : decode cX0_join 169 = .ok (.lload_n 3, 1) := by decide +kernel
theorem dX0_join_170 : decode cX0_join 170 = .ok (.lcmp, 1) := by decide +kernel
theorem dX0_join_171 : decode cX0_join 171 = .ok (.ifCond .ge 7, 3) := by decide +kernel
theorem dX0_join_174 : decode cX0_join 174 = .ok (.lconst 1, 1) := by decide +kernel
theorem dX0_join_175 : decode cX0_join 175 = .ok (.goto 4, 3) := by decide +kernel
theorem dX0_join_178 : decode cX0_join 178 = .ok (.lconst 0, 1) := by decide +kernel
theorem dX0_join_179 : decode cX0_join 179 = .ok (.lreturn, 1) := by decide +kernel
theorem dX0_join_180 : decode cX0_join 180 = .ok (.lload_n 1, 1) := by decide +kernel
theorem dX0_join_181 : decode cX0_join 181 = .ok (.lload_n 3, 1) := by decide +kernel
theorem dX0_join_182 : decode cX0_join 182 = .ok (.lcmp, 1) := by decide +kernel
theorem dX0_join_183 : decode cX0_join 183 = .ok (.ifCond .gt 7, 3) := by decide +kernel
theorem dX0_join_186 : decode cX0_join 186 = .ok (.lconst 1, 1) := by decide +kernel
theorem dX0_join_187 : decode cX0_join 187 = .ok (.goto 4, 3) := by decide +kernel
theorem dX0_join_190 : decode cX0_join 190 = .ok (.lconst 0, 1) := by decide +kernel
theorem dX0_join_191 : decode cX0_join 191 = .ok (.lreturn, 1) := by decide +kernel
theorem dX0_join_192 : decode cX0_join 192 = .ok (.lload_n 1, 1) := by decide +kernel
theorem dX0_join_193 : decode cX0_join 193 = .ok (.lload_n 3, 1) := by decide +kernel
theorem dX0_join_194 : decode cX0_join 194 = .ok (.lcmp, 1) := by decide +kernel
theorem dX0_join_195 : decode cX0_join 195 = .ok (.ifCond .ne 7, 3) := by decide +kernel
theorem dX0_join_198 : decode cX0_join 198 = .ok (.lconst 1, 1) := by decide +kernel
theorem dX0_join_199 : decode cX0_join 199 = .ok (.goto 4, 3) := by decide +kernel
theorem dX0_join_202 : decode cX0_join 202 = .ok (.lconst 0, 1) := by decide +kernel
theorem dX0_join_203 : decode cX0_join 203 = .ok (.lreturn, 1) := by decide +kernel
theorem dX0_join_204 : decode cX0_join 204 = .ok (.lload_n 1, 1) := by decide +kernel
theorem dX0_join_205 : decode cX0_join 205 = .ok (.lload_n 3, 1) := by decide +kernel
theorem dX0_join_206 : decode cX0_join 206 = .ok (.lcmp, 1) := by decide +kernel
theorem dX0_join_207 : decode cX0_join 207 = .ok (.ifCond .eq 7, 3) := by decide +kernel
theorem dX0_join_210 : decode cX0_join 210 = .ok (.lconst 1, 1) := by decide +kernel
theorem dX0_join_211 : decode cX0_join 211 = .ok (.goto 4, 3) := by decide +kernel
theorem dX0_join_214 : decode cX0_join 214 = .ok (.lconst 0, 1) := by decide +kernel
theorem dX0_join_215 : decode cX0_join 215 = .ok (.lreturn, 1) := by decide +kernel
theorem dX0_join_216 : decode cX0_join 216 = .ok (.lload_n 1, 1) := by decide +kernel
theorem dX0_join_217 : decode cX0_join 217 = .ok (.lload_n 3, 1) := by decide +kernel
theorem dX0_join_218 : decode cX0_join 218 = .ok (.lcmp, 1) := by decide +kernel
theorem dX0_join_219 : decode cX0_join 219 = .ok (.ifCond .lt 7, 3) := by decide +kernel
theorem dX0_join_222 : decode cX0_join 222 = .ok (.lconst 1, 1) := by decide +kernel
theorem dX0_join_223 : decode cX0_join 223 = .ok (.goto 4, 3) := by decide +kernel
theorem dX0_join_226 : decode cX0_join 226 = .ok (.lconst 0, 1) := by decide +kernel
theorem dX0_join_227 : decode cX0_join 227 = .ok (.lreturn, 1) := by decide +kernel
theorem dX0_join_228 : decode cX0_join 228 = .ok (.lload_n 1, 1) := by decide +kernel
theorem dX0_join_229 : decode cX0_join 229 = .ok (.lload_n 3, 1) := by decide +kernel
theorem dX0_join_230 : decode cX0_join 230 = .ok (.lcmp, 1) := by decide +kernel
theorem dX0_join_231 : decode cX0_join 231 = .ok (.ifCond .le 7, 3) := by decide +kernel
theorem dX0_join_234 : decode cX0_join 234 = .ok (.lconst 1, 1) := by decide +kernel
theorem dX0_join_235 : decode cX0_join 235 = .ok (.goto 4, 3) := by decide +kernel
theorem dX0_join_238 : decode cX0_join 238 = .ok (.lconst 0, 1) := by decide +kernel
theorem dX0_join_239 : decode cX0_join 239 = .ok (.lreturn, 1) := by decide +kernel
theorem dX0_join_240 : decode cX0_join 240 = .ok (.lload_n 1, 1) := by decide +kernel
theorem dX0_join_241 : decode cX0_join 241 = .ok (.lload_n 3, 1) := by decide +kernel
theorem dX0_join_242 : decode cX0_join 242 = .ok (.ladd, 1) := by decide +kernel
theorem dX0_join_243 : decode cX0_join 243 = .ok (.lreturn, 1) := by decide +kernel
theorem dX0_join_244 : decode cX0_join 244 = .ok (.lload_n 1, 1) := by decide +kernel
theorem dX0_join_245 : decode cX0_join 245 = .ok (.lload_n 3, 1) := by decide +kernel
theorem dX0_join_246 : decode cX0_join 246 = .ok (.lsub, 1) := by decide +kernel
theorem dX0_join_247 : decode cX0_join 247 = .ok (.lreturn, 1) := by decide +kernel
theorem dX0_join_248 : decode cX0_join 248 = .ok (.lload_n 1, 1) := by decide +kernel
theorem dX0_join_249 : decode cX0_join 249 = .ok (.lconst 0, 1) := by decide +kernel
theorem dX0_join_250 : decode cX0_join 250 = .ok (.lcmp, 1) := by decide +kernel
theorem dX0_join_251 : decode cX0_join 251 = .ok (.ifCond .eq 25, 3) := by decide +kernel
theorem dX0_join_254 : decode cX0_join 254 = .ok (.lload_n 3, 1) := by decide +kernel
theorem dX0_join_255 : decode cX0_join 255 = .ok (.invokestatic 199, 3) := by decide +kernel
theorem dX0_join_258 : decode cX0_join 258 = .ok (.ldc2_w 192, 3) := by decide +kernel
theorem dX0_join_261 : decode cX0_join 261 = .ok (.lload_n 1, 1) := by decide +kernel
theorem dX0_join_262 : decode cX0_join 262 = .ok (.invokestatic 199, 3) := by decide +kernel
theorem dX0_join_265 : decode cX0_join 265 = .ok (.ldiv, 1) := by decide +kernel
theorem dX0_join_266 : decode cX0_join 266 = .ok (.lcmp, 1) := by decide +kernel
theorem dX0_join_267 : decode cX0_join 267 = .ok (.ifCond .le 9, 3) := by decide +kernel
theorem dX0_join_270 : decode cX0_join 270 = .ok (.ldc2_w 103, 3) := by decide +kernel
theorem dX0_join_273 : decode cX0_join 273 = .ok (.goto 6, 3) := by decide +kernel
theorem dX0_join_276 : decode cX0_join 276 = .ok (.lload_n 1, 1) := by decide +kernel
theorem dX0_join_277 : decode cX0_join 277 = .ok (.lload_n 3, 1) := by decide +kernel
theorem dX0_join_278 : decode cX0_join 278 = .ok (.lmul, 1) := by decide +kernel
theorem dX0_join_279 : decode cX0_join 279 = .ok (.lreturn, 1) := by decide +kernel
theorem dX0_join_280 : decode cX0_join 280 = .ok (.lload_n 3, 1) := by decide +kernel
theorem dX0_join_281 : decode cX0_join 281 = .ok (.lconst 0, 1) := by decide +kernel
theorem dX0_join_282 : decode cX0_join 282 = .ok (.lcmp, 1) := by decide +kernel
theorem dX0_join_283 : decode cX0_join 283 = .ok (.ifCond .ne 9, 3) := by decide +kernel
theorem dX0_join_286 : decode cX0_join 286 = .ok (.ldc2_w 103, 3) := by decide +kernel
theorem dX0_join_289 : decode cX0_join 289 = .ok (.goto 6, 3) := by decide +kernel
theorem dX0_join_292 : decode cX0_join 292 = .ok (.lload_n 1, 1) := by decide +kernel
theorem dX0_join_293 : decode cX0_join 293 = .ok (.lload_n 3, 1) := by decide +kernel
theorem dX0_join_294 : decode cX0_join 294 = .ok (.ldiv, 1) := by decide +kernel
theorem dX0_join_295 : decode cX0_join 295 = .ok (.lreturn, 1) := by decide +kernel
