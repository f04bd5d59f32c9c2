theorem dX3_init_0 : decode cX3_init 0 = .ok (.aload_n 0, 1) := by decide +kernel
theorem dX3_init_1 : decode cX3_init 1 = .ok (.invokespecial 3, 3) := by decide +kernel
theorem dX3_init_4 : decode cX3_init 4 = .ok (.aload_n 0, 1) := by decide +kernel
theorem dX3_init_5 : decode cX3_init 5 = .ok (.aload_n 2, 1) := by decide +kernel
theorem dX3_init_6 : decode cX3_init 6 = .ok (.putfield 9, 3) := by decide +kernel
theorem dX3_init_9 : decode cX3_init 9 = .ok (.aload_n 0, 1) := by decide +kernel
theorem dX3_init_10 : decode cX3_init 10 = .ok (.new 15, 3) := by decide +kernel
theorem dX3_init_13 : decode cX3_init 13 = .ok (.dup, 1) := by decide +kernel
theorem dX3_init_14 : decode cX3_init 14 = .ok (.aload_n 1, 1) := by decide +kernel
theorem dX3_init_15 : decode cX3_init 15 = .ok (.invokespecial 17, 3) := by decide +kernel
theorem dX3_init_18 : decode cX3_init 18 = .ok (.putfield 20, 3) := by decide +kernel
theorem dX3_init_21 : decode cX3_init 21 = .ok (.aload_n 0, 1) := by decide +kernel
theorem dX3_init_22 : decode cX3_init 22 = .ok (.new 24, 3) := by decide +kernel
theorem dX3_init_25 : decode cX3_init 25 = .ok (.dup, 1) := by decide +kernel
theorem dX3_init_26 : decode cX3_init 26 = .ok (.aload_n 0, 1) := by decide +kernel
theorem dX3_init_27 : decode cX3_init 27 = .ok (.getfield 20, 3) := by decide +kernel
theorem dX3_init_30 : decode cX3_init 30 = .ok (.aload_n 2, 1) := by decide +kernel
theorem dX3_init_31 : decode cX3_init 31 = .ok (.getfield 26, 3) := by decide +kernel
theorem dX3_init_34 : decode cX3_init 34 = .ok (.invokespecial 32, 3) := by decide +kernel
theorem dX3_init_37 : decode cX3_init 37 = .ok (.putfield 35, 3) := by decide +kernel
theorem dX3_init_40 : decode cX3_init 40 = .ok (.return_, 1) := by decide +kernel
theorem dX3_faultKind_0 : decode cX3_faultKind 0 = .ok (.aload_n 0, 1) := by decide +kernel
theorem dX3_faultKind_1 : decode cX3_faultKind 1 = .ok (.getfield 39, 3) := by decide +kernel
theorem dX3_faultKind_4 : decode cX3_faultKind 4 = .ok (.ireturn, 1) := by decide +kernel
theorem dX3_faultAt_0 : decode cX3_faultAt 0 = .ok (.aload_n 0, 1) := by decide +kernel
theorem dX3_faultAt_1 : decode cX3_faultAt 1 = .ok (.getfield 20, 3) := by decide +kernel
theorem dX3_faultAt_4 : decode cX3_faultAt 4 = .ok (.getfield 43, 3) := by decide +kernel
theorem dX3_faultAt_7 : decode cX3_faultAt 7 = .ok (.ireturn, 1) := by decide +kernel
theorem dX3_readText_0 : decode cX3_readText 0 = .ok (.aload_n 0, 1) := by decide +kernel
theorem dX3_readText_1 : decode cX3_readText 1 = .ok (.aload_n 1, 1) := by decide +kernel
theorem dX3_readText_2 : decode cX3_readText 2 = .ok (.putfield 9, 3) := by decide +kernel
theorem dX3_readText_5 : decode cX3_readText 5 = .ok (.aload_n 0, 1) := by decide +kernel
theorem dX3_readText_6 : decode cX3_readText 6 = .ok (.getfield 9, 3) := by decide +kernel
theorem dX3_readText_9 : decode cX3_readText 9 = .ok (.invokevirtual 46, 3) := by decide +kernel
theorem dX3_readText_12 : decode cX3_readText 12 = .ok (.aload_n 0, 1) := by decide +kernel
theorem dX3_readText_13 : decode cX3_readText 13 = .ok (.iconst 0, 1) := by decide +kernel
theorem dX3_readText_14 : decode cX3_readText 14 = .ok (.putfield 39, 3) := by decide +kernel
theorem dX3_readText_17 : decode cX3_readText 17 = .ok (.aload_n 0, 1) := by decide +kernel
theorem dX3_readText_18 : decode cX3_readText 18 = .ok (.iconst 0, 1) := by decide +kernel
theorem dX3_readText_19 : decode cX3_readText 19 = .ok (.putfield 49, 3) := by decide +kernel
theorem dX3_readText_22 : decode cX3_readText 22 = .ok (.aload_n 0, 1) := by decide +kernel
theorem dX3_readText_23 : decode cX3_readText 23 = .ok (.getfield 35, 3) := by decide +kernel
theorem dX3_readText_26 : decode cX3_readText 26 = .ok (.invokevirtual 52, 3) := by decide +kernel
theorem dX3_readText_29 : decode cX3_readText 29 = .ok (.aload_n 0, 1) := by decide +kernel
theorem dX3_readText_30 : decode cX3_readText 30 = .ok (.getfield 20, 3) := by decide +kernel
theorem dX3_readText_33 : decode cX3_readText 33 = .ok (.iload_n 2, 1) := by decide +kernel
theorem dX3_readText_34 : decode cX3_readText 34 = .ok (.invokevirtual 55, 3) := by decide +kernel
theorem dX3_readText_37 : decode cX3_readText 37 = .ok (.iconst 0, 1) := by decide +kernel
theorem dX3_readText_38 : decode cX3_readText 38 = .ok (.istore_n 3, 1) := by decide +kernel
theorem dX3_readText_39 : decode cX3_readText 39 = .ok (.iload_n 3, 1) := by decide +kernel
theorem dX3_readText_40 : decode cX3_readText 40 = .ok (.sipush 700, 3) := by decide +kernel
theorem dX3_readText_43 : decode cX3_readText 43 = .ok (.if_icmp .gt 37, 3) := by decide +kernel
theorem dX3_readText_46 : decode cX3_readText 46 = .ok (.aload_n 0, 1) := by decide +kernel
theorem dX3_readText_47 : decode cX3_readText 47 = .ok (.getfield 20, 3) := by decide +kernel
theorem dX3_readText_50 : decode cX3_readText 50 = .ok (.getfield 59, 3) := by decide +kernel
theorem dX3_readText_53 : decode cX3_readText 53 = .ok (.bipush 21, 2) := by decide +kernel
theorem dX3_readText_55 : decode cX3_readText 55 = .ok (.if_icmp .eq 25, 3) := by decide +kernel
theorem dX3_readText_58 : decode cX3_readText 58 = .ok (.aload_n 0, 1) := by decide +kernel
theorem dX3_readText_59 : decode cX3_readText 59 = .ok (.invokevirtual 62, 3) := by decide +kernel
theorem dX3_readText_62 : decode cX3_readText 62 = .ok (.ifCond .eq 10, 3) := by decide +kernel
theorem dX3_readText_65 : decode cX3_readText 65 = .ok (.aload_n 0, 1) := by decide +kernel
theorem dX3_readText_66 : decode cX3_readText 66 = .ok (.invokevirtual 66, 3) := by decide +kernel
theorem dX3_readText_69 : decode cX3_readText 69 = .ok (.ifCond .ne 5, 3) := by decide +kernel
theorem dX3_readText_72 : decode cX3_readText 72 = .ok (.iconst 0, 1) := by decide +kernel
theorem dX3_readText_73 : decode cX3_readText 73 = .ok (.ireturn, 1) := by decide +kernel
theorem dX3_readText_74 : decode cX3_readText 74 = .ok (.iinc 3 1, 3) := by decide +kernel
theorem dX3_readText_77 : decode cX3_readText 77 = .ok (.goto (-38), 3) := by decide +kernel
theorem dX3_readText_80 : decode cX3_readText 80 = .ok (.iconst 1, 1) := by decide +kernel
theorem dX3_readText_81 : decode cX3_readText 81 = .ok (.ireturn, 1) := by decide +kernel
theorem dX3_refuse_0 : decode cX3_refuse 0 = .ok (.aload_n 0, 1) := by decide +kernel
theorem dX3_refuse_1 : decode cX3_refuse 1 = .ok (.iload_n 1, 1) := by decide +kernel
theorem dX3_refuse_2 : decode cX3_refuse 2 = .ok (.putfield 39, 3) := by decide +kernel
theorem dX3_refuse_5 : decode cX3_refuse 5 = .ok (.iconst 0, 1) := by decide +kernel
theorem dX3_refuse_6 : decode cX3_refuse 6 = .ok (.ireturn, 1) := by decide +kernel
theorem dX3_endLine_0 : decode cX3_endLine 0 = .ok (.aload_n 0, 1) := by decide +kernel
theorem dX3_endLine_1 : decode cX3_endLine 1 = .ok (.getfield 20, 3) := by decide +kernel
theorem dX3_endLine_4 : decode cX3_endLine 4 = .ok (.getfield 59, 3) := by decide +kernel
theorem dX3_endLine_7 : decode cX3_endLine 7 = .ok (.bipush 23, 2) := by decide +kernel
theorem dX3_endLine_9 : decode cX3_endLine 9 = .ok (.if_icmp .eq 9, 3) := by decide +kernel
theorem dX3_endLine_12 : decode cX3_endLine 12 = .ok (.aload_n 0, 1) := by decide +kernel
theorem dX3_endLine_13 : decode cX3_endLine 13 = .ok (.iconst 1, 1) := by decide +kernel
theorem dX3_endLine_14 : decode cX3_endLine 14 = .ok (.invokevirtual 69, 3) := by decide +kernel
theorem dX3_endLine_17 : decode cX3_endLine 17 = .ok (.ireturn, 1) := by decide +kernel
theorem dX3_endLine_18 : decode cX3_endLine 18 = .ok (.aload_n 0, 1) := by decide +kernel
theorem dX3_endLine_19 : decode cX3_endLine 19 = .ok (.getfield 20, 3) := by decide +kernel
theorem dX3_endLine_22 : decode cX3_endLine 22 = .ok (.invokevirtual 73, 3) := by decide +kernel
theorem dX3_endLine_25 : decode cX3_endLine 25 = .ok (.aload_n 0, 1) := by decide +kernel
theorem dX3_endLine_26 : decode cX3_endLine 26 = .ok (.getfield 9, 3) := by decide +kernel
theorem dX3_endLine_29 : decode cX3_endLine 29 = .ok (.dup, 1) := by decide +kernel
theorem dX3_endLine_30 : decode cX3_endLine 30 = .ok (.getfield 76, 3) := by decide +kernel
theorem dX3_endLine_33 : decode cX3_endLine 33 = .ok (.iconst 1, 1) := by decide +kernel
theorem dX3_endLine_34 : decode cX3_endLine 34 = .ok (.iadd, 1) := by decide +kernel
theorem dX3_endLine_35 : decode cX3_endLine 35 = .ok (.putfield 76, 3) := by decide +kernel
theorem dX3_endLine_38 : decode cX3_endLine 38 = .ok (.iconst 1, 1) := by decide +kernel
theorem dX3_endLine_39 : decode cX3_endLine 39 = .ok (.ireturn, 1) := by decide +kernel
theorem dX3_readLine_0 : decode cX3_readLine 0 = .ok (.aload_n 0, 1) := by decide +kernel
theorem dX3_readLine_1 : decode cX3_readLine 1 = .ok (.getfield 20, 3) := by decide +kernel
theorem dX3_readLine_4 : decode cX3_readLine 4 = .ok (.getfield 59, 3) := by decide +kernel
theorem dX3_readLine_7 : decode cX3_readLine 7 = .ok (.tableswitch 64 0 5 #[37, 42, 47, 47, 47, 59], 37) := by decide +kernel
theorem dX3_readLine_44 : decode cX3_readLine 44 = .ok (.aload_n 0, 1) := by decide +kernel
theorem dX3_readLine_45 : decode cX3_readLine 45 = .ok (.invokevirtual 79, 3) := by decide +kernel
theorem dX3_readLine_48 : decode cX3_readLine 48 = .ok (.ireturn, 1) := by decide +kernel
theorem dX3_readLine_49 : decode cX3_readLine 49 = .ok (.aload_n 0, 1) := by decide +kernel
theorem dX3_readLine_50 : decode cX3_readLine 50 = .ok (.invokevirtual 82, 3) := by decide +kernel
theorem dX3_readLine_53 : decode cX3_readLine 53 = .ok (.ireturn, 1) := by decide +kernel
theorem dX3_readLine_54 : decode cX3_readLine 54 = .ok (.aload_n 0, 1) := by decide +kernel
theorem dX3_readLine_55 : decode cX3_readLine 55 = .ok (.aload_n 0, 1) := by decide +kernel
theorem dX3_readLine_56 : decode cX3_readLine 56 = .ok (.getfield 20, 3) := by decide +kernel
theorem dX3_readLine_59 : decode cX3_readLine 59 = .ok (.getfield 59, 3) := by decide +kernel
theorem dX3_readLine_62 : decode cX3_readLine 62 = .ok (.invokevirtual 85, 3) := by decide +kernel
theorem dX3_readLine_65 : decode cX3_readLine 65 = .ok (.ireturn, 1) := by decide +kernel
theorem dX3_readLine_66 : decode cX3_readLine 66 = .ok (.aload_n 0, 1) := by decide +kernel
theorem dX3_readLine_67 : decode cX3_readLine 67 = .ok (.invokevirtual 88, 3) := by decide +kernel
theorem dX3_readLine_70 : decode cX3_readLine 70 = .ok (.ireturn, 1) := by decide +kernel
theorem dX3_readLine_71 : decode cX3_readLine 71 = .ok (.aload_n 0, 1) := by decide +kernel
theorem dX3_readLine_72 : decode cX3_readLine 72 = .ok (.iconst 1, 1) := by decide +kernel
theorem dX3_readLine_73 : decode cX3_readLine 73 = .ok (.invokevirtual 69, 3) := by decide +kernel
theorem dX3_readLine_76 : decode cX3_readLine 76 = .ok (.ireturn, 1) := by decide +kernel
theorem dX3_readHouse_0 : decode cX3_readHouse 0 = .ok (.aload_n 0, 1) := by decide +kernel
theorem dX3_readHouse_1 : decode cX3_readHouse 1 = .ok (.getfield 9, 3) := by decide +kernel
theorem dX3_readHouse_4 : decode cX3_readHouse 4 = .ok (.getfield 91, 3) := by decide +kernel
theorem dX3_readHouse_7 : decode cX3_readHouse 7 = .ok (.istore_n 1, 1) := by decide +kernel
theorem dX3_readHouse_8 : decode cX3_readHouse 8 = .ok (.iload_n 1, 1) := by decide +kernel
theorem dX3_readHouse_9 : decode cX3_readHouse 9 = .ok (.bipush 6, 2) := by decide +kernel
theorem dX3_readHouse_11 : decode cX3_readHouse 11 = .ok (.if_icmp .lt 9, 3) := by decide +kernel
theorem dX3_readHouse_14 : decode cX3_readHouse 14 = .ok (.aload_n 0, 1) := by decide +kernel
theorem dX3_readHouse_15 : decode cX3_readHouse 15 = .ok (.iconst 2, 1) := by decide +kernel
theorem dX3_readHouse_16 : decode cX3_readHouse 16 = .ok (.invokevirtual 69, 3) := by decide +kernel
theorem dX3_readHouse_19 : decode cX3_readHouse 19 = .ok (.ireturn, 1) := by decide +kernel
theorem dX3_readHouse_20 : decode cX3_readHouse 20 = .ok (.aload_n 0, 1) := by decide +kernel
theorem dX3_readHouse_21 : decode cX3_readHouse 21 = .ok (.getfield 20, 3) := by decide +kernel
theorem dX3_readHouse_24 : decode cX3_readHouse 24 = .ok (.invokevirtual 73, 3) := by decide +kernel
theorem dX3_readHouse_27 : decode cX3_readHouse 27 = .ok (.aload_n 0, 1) := by decide +kernel
theorem dX3_readHouse_28 : decode cX3_readHouse 28 = .ok (.aload_n 0, 1) := by decide +kernel
theorem dX3_readHouse_29 : decode cX3_readHouse 29 = .ok (.getfield 9, 3) := by decide +kernel
theorem dX3_readHouse_32 : decode cX3_readHouse 32 = .ok (.getfield 94, 3) := by decide +kernel
theorem dX3_readHouse_35 : decode cX3_readHouse 35 = .ok (.iload_n 1, 1) := by decide +kernel
theorem dX3_readHouse_36 : decode cX3_readHouse 36 = .ok (.invokevirtual 98, 3) := by decide +kernel
theorem dX3_readHouse_39 : decode cX3_readHouse 39 = .ok (.ifCond .ne 5, 3) := by decide +kernel
theorem dX3_readHouse_42 : decode cX3_readHouse 42 = .ok (.iconst 0, 1) := by decide +kernel
theorem dX3_readHouse_43 : decode cX3_readHouse 43 = .ok (.ireturn, 1) := by decide +kernel
theorem dX3_readHouse_44 : decode cX3_readHouse 44 = .ok (.aload_n 0, 1) := by decide +kernel
theorem dX3_readHouse_45 : decode cX3_readHouse 45 = .ok (.aload_n 0, 1) := by decide +kernel
theorem dX3_readHouse_46 : decode cX3_readHouse 46 = .ok (.getfield 9, 3) := by decide +kernel
theorem dX3_readHouse_49 : decode cX3_readHouse 49 = .ok (.getfield 102, 3) := by decide +kernel
theorem dX3_readHouse_52 : decode cX3_readHouse 52 = .ok (.iload_n 1, 1) := by decide +kernel
theorem dX3_readHouse_53 : decode cX3_readHouse 53 = .ok (.iconst 0, 1) := by decide +kernel
theorem dX3_readHouse_54 : decode cX3_readHouse 54 = .ok (.sipush 999, 3) := by decide +kernel
theorem dX3_readHouse_57 : decode cX3_readHouse 57 = .ok (.invokevirtual 105, 3) := by decide +kernel
theorem dX3_readHouse_60 : decode cX3_readHouse 60 = .ok (.ifCond .eq 80, 3) := by decide +kernel
theorem dX3_readHouse_63 : decode cX3_readHouse 63 = .ok (.aload_n 0, 1) := by decide +kernel
theorem dX3_readHouse_64 : decode cX3_readHouse 64 = .ok (.aload_n 0, 1) := by decide +kernel
theorem dX3_readHouse_65 : decode cX3_readHouse 65 = .ok (.getfield 9, 3) := by decide +kernel
theorem dX3_readHouse_68 : decode cX3_readHouse 68 = .ok (.getfield 109, 3) := by decide +kernel
theorem dX3_readHouse_71 : decode cX3_readHouse 71 = .ok (.iload_n 1, 1) := by decide +kernel
theorem dX3_readHouse_72 : decode cX3_readHouse 72 = .ok (.iconst 0, 1) := by decide +kernel
theorem dX3_readHouse_73 : decode cX3_readHouse 73 = .ok (.sipush 999, 3) := by decide +kernel
theorem dX3_readHouse_76 : decode cX3_readHouse 76 = .ok (.invokevirtual 105, 3) := by decide +kernel
theorem dX3_readHouse_79 : decode cX3_readHouse 79 = .ok (.ifCond .eq 61, 3) := by decide +kernel
theorem dX3_readHouse_82 : decode cX3_readHouse 82 = .ok (.aload_n 0, 1) := by decide +kernel
theorem dX3_readHouse_83 : decode cX3_readHouse 83 = .ok (.aload_n 0, 1) := by decide +kernel
theorem dX3_readHouse_84 : decode cX3_readHouse 84 = .ok (.getfield 9, 3) := by decide +kernel
theorem dX3_readHouse_87 : decode cX3_readHouse 87 = .ok (.getfield 112, 3) := by decide +kernel
theorem dX3_readHouse_90 : decode cX3_readHouse 90 = .ok (.iload_n 1, 1) := by decide +kernel
theorem dX3_readHouse_91 : decode cX3_readHouse 91 = .ok (.iconst 1, 1) := by decide +kernel
theorem dX3_readHouse_92 : decode cX3_readHouse 92 = .ok (.bipush 99, 2) := by decide +kernel
theorem dX3_readHouse_94 : decode cX3_readHouse 94 = .ok (.invokevirtual 105, 3) := by decide +kernel
theorem dX3_readHouse_97 : decode cX3_readHouse 97 = .ok (.ifCond .eq 43, 3) := by decide +kernel
theorem dX3_readHouse_100 : decode cX3_readHouse 100 = .ok (.aload_n 0, 1) := by decide +kernel
theorem dX3_readHouse_101 : decode cX3_readHouse 101 = .ok (.aload_n 0, 1) := by decide +kernel
theorem dX3_readHouse_102 : decode cX3_readHouse 102 = .ok (.getfield 9, 3) := by decide +kernel
theorem dX3_readHouse_105 : decode cX3_readHouse 105 = .ok (.getfield 115, 3) := by decide +kernel
theorem dX3_readHouse_108 : decode cX3_readHouse 108 = .ok (.iload_n 1, 1) := by decide +kernel
theorem dX3_readHouse_109 : decode cX3_readHouse 109 = .ok (.iconst 0, 1) := by decide +kernel
theorem dX3_readHouse_110 : decode cX3_readHouse 110 = .ok (.bipush 99, 2) := by decide +kernel
theorem dX3_readHouse_112 : decode cX3_readHouse 112 = .ok (.invokevirtual 105, 3) := by decide +kernel
theorem dX3_readHouse_115 : decode cX3_readHouse 115 = .ok (.ifCond .eq 25, 3) := by decide +kernel
theorem dX3_readHouse_118 : decode cX3_readHouse 118 = .ok (.aload_n 0, 1) := by decide +kernel
theorem dX3_readHouse_119 : decode cX3_readHouse 119 = .ok (.aload_n 0, 1) := by decide +kernel
theorem dX3_readHouse_120 : decode cX3_readHouse 120 = .ok (.getfield 9, 3) := by decide +kernel
theorem dX3_readHouse_123 : decode cX3_readHouse 123 = .ok (.getfield 118, 3) := by decide +kernel
theorem dX3_readHouse_126 : decode cX3_readHouse 126 = .ok (.iload_n 1, 1) := by decide +kernel
theorem dX3_readHouse_127 : decode cX3_readHouse 127 = .ok (.iconst 0, 1) := by decide +kernel
theorem dX3_readHouse_128 : decode cX3_readHouse 128 = .ok (.bipush 9, 2) := by decide +kernel
theorem dX3_readHouse_130 : decode cX3_readHouse 130 = .ok (.invokevirtual 105, 3) := by decide +kernel
theorem dX3_readHouse_133 : decode cX3_readHouse 133 = .ok (.ifCond .eq 7, 3) := by decide +kernel
theorem dX3_readHouse_136 : decode cX3_readHouse 136 = .ok (.iconst 1, 1) := by decide +kernel
theorem dX3_readHouse_137 : decode cX3_readHouse 137 = .ok (.goto 4, 3) := by decide +kernel
theorem dX3_readHouse_140 : decode cX3_readHouse 140 = .ok (.iconst 0, 1) := by decide +kernel
theorem dX3_readHouse_141 : decode cX3_readHouse 141 = .ok (.istore_n 2, 1) := by decide +kernel
theorem dX3_readHouse_142 : decode cX3_readHouse 142 = .ok (.aload_n 0, 1) := by decide +kernel
theorem dX3_readHouse_143 : decode cX3_readHouse 143 = .ok (.getfield 9, 3) := by decide +kernel
theorem dX3_readHouse_146 : decode cX3_readHouse 146 = .ok (.dup, 1) := by decide +kernel
theorem dX3_readHouse_147 : decode cX3_readHouse 147 = .ok (.getfield 91, 3) := by decide +kernel
theorem dX3_readHouse_150 : decode cX3_readHouse 150 = .ok (.iconst 1, 1) := by decide +kernel
theorem dX3_readHouse_151 : decode cX3_readHouse 151 = .ok (.iadd, 1) := by decide +kernel
theorem dX3_readHouse_152 : decode cX3_readHouse 152 = .ok (.putfield 91, 3) := by decide +kernel
theorem dX3_readHouse_155 : decode cX3_readHouse 155 = .ok (.iload_n 2, 1) := by decide +kernel
theorem dX3_readHouse_156 : decode cX3_readHouse 156 = .ok (.ireturn, 1) := by decide +kernel
theorem dX3_readPart_0 : decode cX3_readPart 0 = .ok (.aload_n 0, 1) := by decide +kernel
theorem dX3_readPart_1 : decode cX3_readPart 1 = .ok (.getfield 9, 3) := by decide +kernel
theorem dX3_readPart_4 : decode cX3_readPart 4 = .ok (.getfield 121, 3) := by decide +kernel
theorem dX3_readPart_7 : decode cX3_readPart 7 = .ok (.istore_n 1, 1) := by decide +kernel
theorem dX3_readPart_8 : decode cX3_readPart 8 = .ok (.iload_n 1, 1) := by decide +kernel
theorem dX3_readPart_9 : decode cX3_readPart 9 = .ok (.bipush 6, 2) := by decide +kernel
theorem dX3_readPart_11 : decode cX3_readPart 11 = .ok (.if_icmp .lt 9, 3) := by decide +kernel
theorem dX3_readPart_14 : decode cX3_readPart 14 = .ok (.aload_n 0, 1) := by decide +kernel
theorem dX3_readPart_15 : decode cX3_readPart 15 = .ok (.iconst 2, 1) := by decide +kernel
theorem dX3_readPart_16 : decode cX3_readPart 16 = .ok (.invokevirtual 69, 3) := by decide +kernel
theorem dX3_readPart_19 : decode cX3_readPart 19 = .ok (.ireturn, 1) := by decide +kernel
theorem dX3_readPart_20 : decode cX3_readPart 20 = .ok (.aload_n 0, 1) := by decide +kernel
theorem dX3_readPart_21 : decode cX3_readPart 21 = .ok (.getfield 20, 3) := by decide +kernel
theorem dX3_readPart_24 : decode cX3_readPart 24 = .ok (.invokevirtual 73, 3) := by decide +kernel
theorem dX3_readPart_27 : decode cX3_readPart 27 = .ok (.aload_n 0, 1) := by decide +kernel
theorem dX3_readPart_28 : decode cX3_readPart 28 = .ok (.aload_n 0, 1) := by decide +kernel
theorem dX3_readPart_29 : decode cX3_readPart 29 = .ok (.getfield 9, 3) := by decide +kernel
theorem dX3_readPart_32 : decode cX3_readPart 32 = .ok (.getfield 124, 3) := by decide +kernel
theorem dX3_readPart_35 : decode cX3_readPart 35 = .ok (.iload_n 1, 1) := by decide +kernel
theorem dX3_readPart_36 : decode cX3_readPart 36 = .ok (.invokevirtual 98, 3) := by decide +kernel
theorem dX3_readPart_39 : decode cX3_readPart 39 = .ok (.ifCond .ne 5, 3) := by decide +kernel
theorem dX3_readPart_42 : decode cX3_readPart 42 = .ok (.iconst 0, 1) := by decide +kernel
theorem dX3_readPart_43 : decode cX3_readPart 43 = .ok (.ireturn, 1) := by decide +kernel
theorem dX3_readPart_44 : decode cX3_readPart 44 = .ok (.aload_n 0, 1) := by decide +kernel
theorem dX3_readPart_45 : decode cX3_readPart 45 = .ok (.aload_n 0, 1) := by decide +kernel
theorem dX3_readPart_46 : decode cX3_readPart 46 = .ok (.getfield 9, 3) := by decide +kernel
theorem dX3_readPart_49 : decode cX3_readPart 49 = .ok (.getfield 127, 3) := by decide +kernel
theorem dX3_readPart_52 : decode cX3_readPart 52 = .ok (.iload_n 1, 1) := by decide +kernel
theorem dX3_readPart_53 : decode cX3_readPart 53 = .ok (.iconst 1, 1) := by decide +kernel
theorem dX3_readPart_54 : decode cX3_readPart 54 = .ok (.bipush 99, 2) := by decide +kernel
theorem dX3_readPart_56 : decode cX3_readPart 56 = .ok (.invokevirtual 105, 3) := by decide +kernel
theorem dX3_readPart_59 : decode cX3_readPart 59 = .ok (.ifCond .eq 25, 3) := by decide +kernel
theorem dX3_readPart_62 : decode cX3_readPart 62 = .ok (.aload_n 0, 1) := by decide +kernel
theorem dX3_readPart_63 : decode cX3_readPart 63 = .ok (.aload_n 0, 1) := by decide +kernel
theorem dX3_readPart_64 : decode cX3_readPart 64 = .ok (.getfield 9, 3) := by decide +kernel
theorem dX3_readPart_67 : decode cX3_readPart 67 = .ok (.getfield 130, 3) := by decide +kernel
theorem dX3_readPart_70 : decode cX3_readPart 70 = .ok (.iload_n 1, 1) := by decide +kernel
theorem dX3_readPart_71 : decode cX3_readPart 71 = .ok (.iconst 0, 1) := by decide +kernel
theorem dX3_readPart_72 : decode cX3_readPart 72 = .ok (.bipush 99, 2) := by decide +kernel
theorem dX3_readPart_74 : decode cX3_readPart 74 = .ok (.invokevirtual 105, 3) := by decide +kernel
theorem dX3_readPart_77 : decode cX3_readPart 77 = .ok (.ifCond .eq 7, 3) := by decide +kernel
theorem dX3_readPart_80 : decode cX3_readPart 80 = .ok (.iconst 1, 1) := by decide +kernel
theorem dX3_readPart_81 : decode cX3_readPart 81 = .ok (.goto 4, 3) := by decide +kernel
theorem dX3_readPart_84 : decode cX3_readPart 84 = .ok (.iconst 0, 1) := by decide +kernel
theorem dX3_readPart_85 : decode cX3_readPart 85 = .ok (.istore_n 2, 1) := by decide +kernel
theorem dX3_readPart_86 : decode cX3_readPart 86 = .ok (.aload_n 0, 1) := by decide +kernel
theorem dX3_readPart_87 : decode cX3_readPart 87 = .ok (.getfield 9, 3) := by decide +kernel
theorem dX3_readPart_90 : decode cX3_readPart 90 = .ok (.dup, 1) := by decide +kernel
theorem dX3_readPart_91 : decode cX3_readPart 91 = .ok (.getfield 121, 3) := by decide +kernel
theorem dX3_readPart_94 : decode cX3_readPart 94 = .ok (.iconst 1, 1) := by decide +kernel
theorem dX3_readPart_95 : decode cX3_readPart 95 = .ok (.iadd, 1) := by decide +kernel
theorem dX3_readPart_96 : decode cX3_readPart 96 = .ok (.putfield 121, 3) := by decide +kernel
theorem dX3_readPart_99 : decode cX3_readPart 99 = .ok (.iload_n 2, 1) := by decide +kernel
theorem dX3_readPart_100 : decode cX3_readPart 100 = .ok (.ireturn, 1) := by decide +kernel
theorem dX3_readName_0 : decode cX3_readName 0 = .ok (.aload_n 0, 1) := by decide +kernel
theorem dX3_readName_1 : decode cX3_readName 1 = .ok (.getfield 20, 3) := by decide +kernel
theorem dX3_readName_4 : decode cX3_readName 4 = .ok (.getfield 59, 3) := by decide +kernel
theorem dX3_readName_7 : decode cX3_readName 7 = .ok (.bipush 19, 2) := by decide +kernel
theorem dX3_readName_9 : decode cX3_readName 9 = .ok (.if_icmp .eq 9, 3) := by decide +kernel
theorem dX3_readName_12 : decode cX3_readName 12 = .ok (.aload_n 0, 1) := by decide +kernel
theorem dX3_readName_13 : decode cX3_readName 13 = .ok (.iconst 1, 1) := by decide +kernel
theorem dX3_readName_14 : decode cX3_readName 14 = .ok (.invokevirtual 69, 3) := by decide +kernel
theorem dX3_readName_17 : decode cX3_readName 17 = .ok (.ireturn, 1) := by decide +kernel
theorem dX3_readName_18 : decode cX3_readName 18 = .ok (.aload_n 0, 1) := by decide +kernel
theorem dX3_readName_19 : decode cX3_readName 19 = .ok (.getfield 20, 3) := by decide +kernel
theorem dX3_readName_22 : decode cX3_readName 22 = .ok (.getfield 133, 3) := by decide +kernel
theorem dX3_readName_25 : decode cX3_readName 25 = .ok (.aload_n 1, 1) := by decide +kernel
theorem dX3_readName_26 : decode cX3_readName 26 = .ok (.iload_n 2, 1) := by decide +kernel
theorem dX3_readName_27 : decode cX3_readName 27 = .ok (.invokestatic 136, 3) := by decide +kernel
theorem dX3_readName_30 : decode cX3_readName 30 = .ok (.iconst (-1), 1) := by decide +kernel
theorem dX3_readName_31 : decode cX3_readName 31 = .ok (.if_icmp .eq 9, 3) := by decide +kernel
theorem dX3_readName_34 : decode cX3_readName 34 = .ok (.aload_n 0, 1) := by decide +kernel
theorem dX3_readName_35 : decode cX3_readName 35 = .ok (.iconst 3, 1) := by decide +kernel
theorem dX3_readName_36 : decode cX3_readName 36 = .ok (.invokevirtual 69, 3) := by decide +kernel
theorem dX3_readName_39 : decode cX3_readName 39 = .ok (.ireturn, 1) := by decide +kernel
theorem dX3_readName_40 : decode cX3_readName 40 = .ok (.iload_n 2, 1) := by decide +kernel
theorem dX3_readName_41 : decode cX3_readName 41 = .ok (.aload_n 1, 1) := by decide +kernel
theorem dX3_readName_42 : decode cX3_readName 42 = .ok (.arraylength, 1) := by decide +kernel
theorem dX3_readName_43 : decode cX3_readName 43 = .ok (.if_icmp .ge 13, 3) := by decide +kernel
theorem dX3_readName_46 : decode cX3_readName 46 = .ok (.aload_n 1, 1) := by decide +kernel
theorem dX3_readName_47 : decode cX3_readName 47 = .ok (.iload_n 2, 1) := by decide +kernel
theorem dX3_readName_48 : decode cX3_readName 48 = .ok (.aload_n 0, 1) := by decide +kernel
theorem dX3_readName_49 : decode cX3_readName 49 = .ok (.getfield 20, 3) := by decide +kernel
theorem dX3_readName_52 : decode cX3_readName 52 = .ok (.getfield 133, 3) := by decide +kernel
theorem dX3_readName_55 : decode cX3_readName 55 = .ok (.iastore, 1) := by decide +kernel
theorem dX3_readName_56 : decode cX3_readName 56 = .ok (.aload_n 0, 1) := by decide +kernel
theorem dX3_readName_57 : decode cX3_readName 57 = .ok (.getfield 20, 3) := by decide +kernel
theorem dX3_readName_60 : decode cX3_readName 60 = .ok (.invokevirtual 73, 3) := by decide +kernel
theorem dX3_readName_63 : decode cX3_readName 63 = .ok (.iconst 1, 1) := by decide +kernel
theorem dX3_readName_64 : decode cX3_readName 64 = .ok (.ireturn, 1) := by decide +kernel
theorem dX3_readNumber_0 : decode cX3_readNumber 0 = .ok (.aload_n 0, 1) := by decide +kernel
theorem dX3_readNumber_1 : decode cX3_readNumber 1 = .ok (.iload_n 3, 1) := by decide +kernel
theorem dX3_readNumber_2 : decode cX3_readNumber 2 = .ok (.iload 4, 2) := by decide +kernel
theorem dX3_readNumber_4 : decode cX3_readNumber 4 = .ok (.invokevirtual 140, 3) := by decide +kernel
theorem dX3_readNumber_7 : decode cX3_readNumber 7 = .ok (.ifCond .ne 5, 3) := by decide +kernel
theorem dX3_readNumber_10 : decode cX3_readNumber 10 = .ok (.iconst 0, 1) := by decide +kernel
theorem dX3_readNumber_11 : decode cX3_readNumber 11 = .ok (.ireturn, 1) := by decide +kernel
theorem dX3_readNumber_12 : decode cX3_readNumber 12 = .ok (.iload_n 2, 1) := by decide +kernel
theorem dX3_readNumber_13 : decode cX3_readNumber 13 = .ok (.aload_n 1, 1) := by decide +kernel
theorem dX3_readNumber_14 : decode cX3_readNumber 14 = .ok (.arraylength, 1) := by decide +kernel
theorem dX3_readNumber_15 : decode cX3_readNumber 15 = .ok (.if_icmp .ge 13, 3) := by decide +kernel
theorem dX3_readNumber_18 : decode cX3_readNumber 18 = .ok (.aload_n 1, 1) := by decide +kernel
theorem dX3_readNumber_19 : decode cX3_readNumber 19 = .ok (.iload_n 2, 1) := by decide +kernel
theorem dX3_readNumber_20 : decode cX3_readNumber 20 = .ok (.aload_n 0, 1) := by decide +kernel
theorem dX3_readNumber_21 : decode cX3_readNumber 21 = .ok (.getfield 20, 3) := by decide +kernel
theorem dX3_readNumber_24 : decode cX3_readNumber 24 = .ok (.getfield 133, 3) := by decide +kernel
theorem dX3_readNumber_27 : decode cX3_readNumber 27 = .ok (.iastore, 1) := by decide +kernel
theorem dX3_readNumber_28 : decode cX3_readNumber 28 = .ok (.aload_n 0, 1) := by decide +kernel
theorem dX3_readNumber_29 : decode cX3_readNumber 29 = .ok (.getfield 20, 3) := by decide +kernel
theorem dX3_readNumber_32 : decode cX3_readNumber 32 = .ok (.invokevirtual 73, 3) := by decide +kernel
theorem dX3_readNumber_35 : decode cX3_readNumber 35 = .ok (.iconst 1, 1) := by decide +kernel
theorem dX3_readNumber_36 : decode cX3_readNumber 36 = .ok (.ireturn, 1) := by decide +kernel
theorem dX3_isNumber_0 : decode cX3_isNumber 0 = .ok (.aload_n 0, 1) := by decide +kernel
theorem dX3_isNumber_1 : decode cX3_isNumber 1 = .ok (.getfield 20, 3) := by decide +kernel
theorem dX3_isNumber_4 : decode cX3_isNumber 4 = .ok (.getfield 59, 3) := by decide +kernel
theorem dX3_isNumber_7 : decode cX3_isNumber 7 = .ok (.bipush 20, 2) := by decide +kernel
theorem dX3_isNumber_9 : decode cX3_isNumber 9 = .ok (.if_icmp .eq 9, 3) := by decide +kernel
theorem dX3_isNumber_12 : decode cX3_isNumber 12 = .ok (.aload_n 0, 1) := by decide +kernel
theorem dX3_isNumber_13 : decode cX3_isNumber 13 = .ok (.iconst 1, 1) := by decide +kernel
theorem dX3_isNumber_14 : decode cX3_isNumber 14 = .ok (.invokevirtual 69, 3) := by decide +kernel
theorem dX3_isNumber_17 : decode cX3_isNumber 17 = .ok (.ireturn, 1) := by decide +kernel
theorem dX3_isNumber_18 : decode cX3_isNumber 18 = .ok (.aload_n 0, 1) := by decide +kernel
theorem dX3_isNumber_19 : decode cX3_isNumber 19 = .ok (.getfield 20, 3) := by decide +kernel
theorem dX3_isNumber_22 : decode cX3_isNumber 22 = .ok (.getfield 133, 3) := by decide +kernel
theorem dX3_isNumber_25 : decode cX3_isNumber 25 = .ok (.iload_n 1, 1) := by decide +kernel
theorem dX3_isNumber_26 : decode cX3_isNumber 26 = .ok (.iload_n 2, 1) := by decide +kernel
theorem dX3_isNumber_27 : decode cX3_isNumber 27 = .ok (.invokestatic 144, 3) := by decide +kernel
theorem dX3_isNumber_30 : decode cX3_isNumber 30 = .ok (.ifCond .ne 11, 3) := by decide +kernel
theorem dX3_isNumber_33 : decode cX3_isNumber 33 = .ok (.aload_n 0, 1) := by decide +kernel
theorem dX3_isNumber_34 : decode cX3_isNumber 34 = .ok (.iconst 2, 1) := by decide +kernel
theorem dX3_isNumber_35 : decode cX3_isNumber 35 = .ok (.invokevirtual 69, 3) := by decide +kernel
theorem dX3_isNumber_38 : decode cX3_isNumber 38 = .ok (.ifCond .eq 7, 3) := by decide +kernel
theorem dX3_isNumber_41 : decode cX3_isNumber 41 = .ok (.iconst 1, 1) := by decide +kernel
theorem dX3_isNumber_42 : decode cX3_isNumber 42 = .ok (.goto 4, 3) := by decide +kernel
theorem dX3_isNumber_45 : decode cX3_isNumber 45 = .ok (.iconst 0, 1) := by decide +kernel
theorem dX3_isNumber_46 : decode cX3_isNumber 46 = .ok (.ireturn, 1) := by decide +kernel
theorem dX3_readSetting_0 : decode cX3_readSetting 0 = .ok (.aload_n 0, 1) := by decide +kernel
theorem dX3_readSetting_1 : decode cX3_readSetting 1 = .ok (.getfield 49, 3) := by decide +kernel
theorem dX3_readSetting_4 : decode cX3_readSetting 4 = .ok (.iload_n 1, 1) := by decide +kernel
theorem dX3_readSetting_5 : decode cX3_readSetting 5 = .ok (.ishr, 1) := by decide +kernel
theorem dX3_readSetting_6 : decode cX3_readSetting 6 = .ok (.iconst 1, 1) := by decide +kernel
theorem dX3_readSetting_7 : decode cX3_readSetting 7 = .ok (.iand, 1) := by decide +kernel
theorem dX3_readSetting_8 : decode cX3_readSetting 8 = .ok (.iconst 1, 1) := by decide +kernel
theorem dX3_readSetting_9 : decode cX3_readSetting 9 = .ok (.if_icmp .ne 9, 3) := by decide +kernel
theorem dX3_readSetting_12 : decode cX3_readSetting 12 = .ok (.aload_n 0, 1) := by decide +kernel
theorem dX3_readSetting_13 : decode cX3_readSetting 13 = .ok (.iconst 3, 1) := by decide +kernel
theorem dX3_readSetting_14 : decode cX3_readSetting 14 = .ok (.invokevirtual 69, 3) := by decide +kernel
theorem dX3_readSetting_17 : decode cX3_readSetting 17 = .ok (.ireturn, 1) := by decide +kernel
theorem dX3_readSetting_18 : decode cX3_readSetting 18 = .ok (.aload_n 0, 1) := by decide +kernel
theorem dX3_readSetting_19 : decode cX3_readSetting 19 = .ok (.dup, 1) := by decide +kernel
theorem dX3_readSetting_20 : decode cX3_readSetting 20 = .ok (.getfield 49, 3) := by decide +kernel
theorem dX3_readSetting_23 : decode cX3_readSetting 23 = .ok (.iconst 1, 1) := by decide +kernel
theorem dX3_readSetting_24 : decode cX3_readSetting 24 = .ok (.iload_n 1, 1) := by decide +kernel
theorem dX3_readSetting_25 : decode cX3_readSetting 25 = .ok (.ishl, 1) := by decide +kernel
theorem dX3_readSetting_26 : decode cX3_readSetting 26 = .ok (.ior, 1) := by decide +kernel
theorem dX3_readSetting_27 : decode cX3_readSetting 27 = .ok (.putfield 49, 3) := by decide +kernel
theorem dX3_readSetting_30 : decode cX3_readSetting 30 = .ok (.aload_n 0, 1) := by decide +kernel
theorem dX3_readSetting_31 : decode cX3_readSetting 31 = .ok (.getfield 20, 3) := by decide +kernel
theorem dX3_readSetting_34 : decode cX3_readSetting 34 = .ok (.invokevirtual 73, 3) := by decide +kernel
theorem dX3_readSetting_37 : decode cX3_readSetting 37 = .ok (.aload_n 0, 1) := by decide +kernel
theorem dX3_readSetting_38 : decode cX3_readSetting 38 = .ok (.iload_n 1, 1) := by decide +kernel
theorem dX3_readSetting_39 : decode cX3_readSetting 39 = .ok (.iconst 2, 1) := by decide +kernel
theorem dX3_readSetting_40 : decode cX3_readSetting 40 = .ok (.if_icmp .ne 7, 3) := by decide +kernel
theorem dX3_readSetting_43 : decode cX3_readSetting 43 = .ok (.iconst 1, 1) := by decide +kernel
theorem dX3_readSetting_44 : decode cX3_readSetting 44 = .ok (.goto 4, 3) := by decide +kernel
theorem dX3_readSetting_47 : decode cX3_readSetting 47 = .ok (.iconst 0, 1) := by decide +kernel
theorem dX3_readSetting_48 : decode cX3_readSetting 48 = .ok (.iload_n 1, 1) := by decide +kernel
theorem dX3_readSetting_49 : decode cX3_readSetting 49 = .ok (.invokestatic 148, 3) := by decide +kernel
theorem dX3_readSetting_52 : decode cX3_readSetting 52 = .ok (.invokevirtual 140, 3) := by decide +kernel
theorem dX3_readSetting_55 : decode cX3_readSetting 55 = .ok (.ifCond .ne 5, 3) := by decide +kernel
theorem dX3_readSetting_58 : decode cX3_readSetting 58 = .ok (.iconst 0, 1) := by decide +kernel
theorem dX3_readSetting_59 : decode cX3_readSetting 59 = .ok (.ireturn, 1) := by decide +kernel
theorem dX3_readSetting_60 : decode cX3_readSetting 60 = .ok (.iload_n 1, 1) := by decide +kernel
theorem dX3_readSetting_61 : decode cX3_readSetting 61 = .ok (.iconst 2, 1) := by decide +kernel
theorem dX3_readSetting_62 : decode cX3_readSetting 62 = .ok (.if_icmp .ne 20, 3) := by decide +kernel
theorem dX3_readSetting_65 : decode cX3_readSetting 65 = .ok (.aload_n 0, 1) := by decide +kernel
theorem dX3_readSetting_66 : decode cX3_readSetting 66 = .ok (.getfield 9, 3) := by decide +kernel
theorem dX3_readSetting_69 : decode cX3_readSetting 69 = .ok (.aload_n 0, 1) := by decide +kernel
theorem dX3_readSetting_70 : decode cX3_readSetting 70 = .ok (.getfield 20, 3) := by decide +kernel
theorem dX3_readSetting_73 : decode cX3_readSetting 73 = .ok (.getfield 133, 3) := by decide +kernel
theorem dX3_readSetting_76 : decode cX3_readSetting 76 = .ok (.putfield 152, 3) := by decide +kernel
theorem dX3_readSetting_79 : decode cX3_readSetting 79 = .ok (.goto 39, 3) := by decide +kernel
theorem dX3_readSetting_82 : decode cX3_readSetting 82 = .ok (.iload_n 1, 1) := by decide +kernel
theorem dX3_readSetting_83 : decode cX3_readSetting 83 = .ok (.iconst 3, 1) := by decide +kernel
theorem dX3_readSetting_84 : decode cX3_readSetting 84 = .ok (.if_icmp .ne 20, 3) := by decide +kernel
theorem dX3_readSetting_87 : decode cX3_readSetting 87 = .ok (.aload_n 0, 1) := by decide +kernel
theorem dX3_readSetting_88 : decode cX3_readSetting 88 = .ok (.getfield 9, 3) := by decide +kernel
theorem dX3_readSetting_91 : decode cX3_readSetting 91 = .ok (.aload_n 0, 1) := by decide +kernel
theorem dX3_readSetting_92 : decode cX3_readSetting 92 = .ok (.getfield 20, 3) := by decide +kernel
theorem dX3_readSetting_95 : decode cX3_readSetting 95 = .ok (.getfield 133, 3) := by decide +kernel
theorem dX3_readSetting_98 : decode cX3_readSetting 98 = .ok (.putfield 155, 3) := by decide +kernel
theorem dX3_readSetting_101 : decode cX3_readSetting 101 = .ok (.goto 17, 3) := by decide +kernel
theorem dX3_readSetting_104 : decode cX3_readSetting 104 = .ok (.aload_n 0, 1) := by decide +kernel
theorem dX3_readSetting_105 : decode cX3_readSetting 105 = .ok (.getfield 9, 3) := by decide +kernel
theorem dX3_readSetting_108 : decode cX3_readSetting 108 = .ok (.aload_n 0, 1) := by decide +kernel
theorem dX3_readSetting_109 : decode cX3_readSetting 109 = .ok (.getfield 20, 3) := by decide +kernel
theorem dX3_readSetting_112 : decode cX3_readSetting 112 = .ok (.getfield 133, 3) := by decide +kernel
theorem dX3_readSetting_115 : decode cX3_readSetting 115 = .ok (.putfield 158, 3) := by decide +kernel
theorem dX3_readSetting_118 : decode cX3_readSetting 118 = .ok (.aload_n 0, 1) := by decide +kernel
theorem dX3_readSetting_119 : decode cX3_readSetting 119 = .ok (.getfield 20, 3) := by decide +kernel
theorem dX3_readSetting_122 : decode cX3_readSetting 122 = .ok (.invokevirtual 73, 3) := by decide +kernel
theorem dX3_readSetting_125 : decode cX3_readSetting 125 = .ok (.iconst 1, 1) := by decide +kernel
theorem dX3_readSetting_126 : decode cX3_readSetting 126 = .ok (.ireturn, 1) := by decide +kernel
theorem dX3_mostOfSetting_0 : decode cX3_mostOfSetting 0 = .ok (.iload_n 0, 1) := by decide +kernel
theorem dX3_mostOfSetting_1 : decode cX3_mostOfSetting 1 = .ok (.lookupswitch 34 #[(2, 27), (3, 30)], 27) := by decide +kernel
theorem dX3_mostOfSetting_28 : decode cX3_mostOfSetting 28 = .ok (.bipush 20, 2) := by decide +kernel
theorem dX3_mostOfSetting_30 : decode cX3_mostOfSetting 30 = .ok (.ireturn, 1) := by decide +kernel
theorem dX3_mostOfSetting_31 : decode cX3_mostOfSetting 31 = .ok (.sipush 999, 3) := by decide +kernel
theorem dX3_mostOfSetting_34 : decode cX3_mostOfSetting 34 = .ok (.ireturn, 1) := by decide +kernel
theorem dX3_mostOfSetting_35 : decode cX3_mostOfSetting 35 = .ok (.ldc 161, 2) := by decide +kernel
theorem dX3_mostOfSetting_37 : decode cX3_mostOfSetting 37 = .ok (.ireturn, 1) := by decide +kernel
theorem dX3_readLaw_0 : decode cX3_readLaw 0 = .ok (.aload_n 0, 1) := by decide +kernel
theorem dX3_readLaw_1 : decode cX3_readLaw 1 = .ok (.getfield 20, 3) := by decide +kernel
theorem dX3_readLaw_4 : decode cX3_readLaw 4 = .ok (.invokevirtual 73, 3) := by decide +kernel
theorem dX3_readLaw_7 : decode cX3_readLaw 7 = .ok (.aload_n 0, 1) := by decide +kernel
theorem dX3_readLaw_8 : decode cX3_readLaw 8 = .ok (.getfield 20, 3) := by decide +kernel
theorem dX3_readLaw_11 : decode cX3_readLaw 11 = .ok (.getfield 59, 3) := by decide +kernel
theorem dX3_readLaw_14 : decode cX3_readLaw 14 = .ok (.bipush 6, 2) := by decide +kernel
theorem dX3_readLaw_16 : decode cX3_readLaw 16 = .ok (.bipush 8, 2) := by decide +kernel
theorem dX3_readLaw_18 : decode cX3_readLaw 18 = .ok (.invokestatic 144, 3) := by decide +kernel
theorem dX3_readLaw_21 : decode cX3_readLaw 21 = .ok (.ifCond .ne 9, 3) := by decide +kernel
theorem dX3_readLaw_24 : decode cX3_readLaw 24 = .ok (.aload_n 0, 1) := by decide +kernel
theorem dX3_readLaw_25 : decode cX3_readLaw 25 = .ok (.iconst 1, 1) := by decide +kernel
theorem dX3_readLaw_26 : decode cX3_readLaw 26 = .ok (.invokevirtual 69, 3) := by decide +kernel
theorem dX3_readLaw_29 : decode cX3_readLaw 29 = .ok (.ireturn, 1) := by decide +kernel
theorem dX3_readLaw_30 : decode cX3_readLaw 30 = .ok (.aload_n 0, 1) := by decide +kernel
theorem dX3_readLaw_31 : decode cX3_readLaw 31 = .ok (.getfield 20, 3) := by decide +kernel
theorem dX3_readLaw_34 : decode cX3_readLaw 34 = .ok (.getfield 59, 3) := by decide +kernel
theorem dX3_readLaw_37 : decode cX3_readLaw 37 = .ok (.bipush 6, 2) := by decide +kernel
theorem dX3_readLaw_39 : decode cX3_readLaw 39 = .ok (.isub, 1) := by decide +kernel
theorem dX3_readLaw_40 : decode cX3_readLaw 40 = .ok (.istore_n 1, 1) := by decide +kernel
theorem dX3_readLaw_41 : decode cX3_readLaw 41 = .ok (.aload_n 0, 1) := by decide +kernel
theorem dX3_readLaw_42 : decode cX3_readLaw 42 = .ok (.getfield 9, 3) := by decide +kernel
theorem dX3_readLaw_45 : decode cX3_readLaw 45 = .ok (.getfield 26, 3) := by decide +kernel
theorem dX3_readLaw_48 : decode cX3_readLaw 48 = .ok (.iload_n 1, 1) := by decide +kernel
theorem dX3_readLaw_49 : decode cX3_readLaw 49 = .ok (.invokevirtual 162, 3) := by decide +kernel
theorem dX3_readLaw_52 : decode cX3_readLaw 52 = .ok (.ifCond .eq 9, 3) := by decide +kernel
theorem dX3_readLaw_55 : decode cX3_readLaw 55 = .ok (.aload_n 0, 1) := by decide +kernel
theorem dX3_readLaw_56 : decode cX3_readLaw 56 = .ok (.iconst 3, 1) := by decide +kernel
theorem dX3_readLaw_57 : decode cX3_readLaw 57 = .ok (.invokevirtual 69, 3) := by decide +kernel
theorem dX3_readLaw_60 : decode cX3_readLaw 60 = .ok (.ireturn, 1) := by decide +kernel
theorem dX3_readLaw_61 : decode cX3_readLaw 61 = .ok (.aload_n 0, 1) := by decide +kernel
theorem dX3_readLaw_62 : decode cX3_readLaw 62 = .ok (.getfield 20, 3) := by decide +kernel
theorem dX3_readLaw_65 : decode cX3_readLaw 65 = .ok (.invokevirtual 73, 3) := by decide +kernel
theorem dX3_readLaw_68 : decode cX3_readLaw 68 = .ok (.aload_n 0, 1) := by decide +kernel
theorem dX3_readLaw_69 : decode cX3_readLaw 69 = .ok (.getfield 35, 3) := by decide +kernel
theorem dX3_readLaw_72 : decode cX3_readLaw 72 = .ok (.aload_n 0, 1) := by decide +kernel
theorem dX3_readLaw_73 : decode cX3_readLaw 73 = .ok (.getfield 9, 3) := by decide +kernel
theorem dX3_readLaw_76 : decode cX3_readLaw 76 = .ok (.getfield 26, 3) := by decide +kernel
theorem dX3_readLaw_79 : decode cX3_readLaw 79 = .ok (.iload_n 1, 1) := by decide +kernel
theorem dX3_readLaw_80 : decode cX3_readLaw 80 = .ok (.invokevirtual 167, 3) := by decide +kernel
theorem dX3_readLaw_83 : decode cX3_readLaw 83 = .ok (.istore_n 2, 1) := by decide +kernel
theorem dX3_readLaw_84 : decode cX3_readLaw 84 = .ok (.iload_n 2, 1) := by decide +kernel
theorem dX3_readLaw_85 : decode cX3_readLaw 85 = .ok (.ifCond .eq 11, 3) := by decide +kernel
theorem dX3_readLaw_88 : decode cX3_readLaw 88 = .ok (.aload_n 0, 1) := by decide +kernel
theorem dX3_readLaw_89 : decode cX3_readLaw 89 = .ok (.iload_n 2, 1) := by decide +kernel
theorem dX3_readLaw_90 : decode cX3_readLaw 90 = .ok (.invokevirtual 69, 3) := by decide +kernel
theorem dX3_readLaw_93 : decode cX3_readLaw 93 = .ok (.ifCond .eq 7, 3) := by decide +kernel
theorem dX3_readLaw_96 : decode cX3_readLaw 96 = .ok (.iconst 1, 1) := by decide +kernel
theorem dX3_readLaw_97 : decode cX3_readLaw 97 = .ok (.goto 4, 3) := by decide +kernel
theorem dX3_readLaw_100 : decode cX3_readLaw 100 = .ok (.iconst 0, 1) := by decide +kernel
theorem dX3_readLaw_101 : decode cX3_readLaw 101 = .ok (.ireturn, 1) := by decide +kernel
