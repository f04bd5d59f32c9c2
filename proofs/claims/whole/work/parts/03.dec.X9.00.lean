theorem dX9_init_0 : decode cX9_init 0 = .ok (.aload_n 0, 1) := by decide +kernel
theorem dX9_init_1 : decode cX9_init 1 = .ok (.invokespecial 3, 3) := by decide +kernel
theorem dX9_init_4 : decode cX9_init 4 = .ok (.aload_n 0, 1) := by decide +kernel
theorem dX9_init_5 : decode cX9_init 5 = .ok (.sipush 700, 3) := by decide +kernel
theorem dX9_init_8 : decode cX9_init 8 = .ok (.newarray .byte, 2) := by decide +kernel
theorem dX9_init_10 : decode cX9_init 10 = .ok (.putfield 11, 3) := by decide +kernel
theorem dX9_init_13 : decode cX9_init 13 = .ok (.aload_n 0, 1) := by decide +kernel
theorem dX9_init_14 : decode cX9_init 14 = .ok (.iconst 0, 1) := by decide +kernel
theorem dX9_init_15 : decode cX9_init 15 = .ok (.putfield 15, 3) := by decide +kernel
theorem dX9_init_18 : decode cX9_init 18 = .ok (.aload_n 0, 1) := by decide +kernel
theorem dX9_init_19 : decode cX9_init 19 = .ok (.new 19, 3) := by decide +kernel
theorem dX9_init_22 : decode cX9_init 22 = .ok (.dup, 1) := by decide +kernel
theorem dX9_init_23 : decode cX9_init 23 = .ok (.invokespecial 21, 3) := by decide +kernel
theorem dX9_init_26 : decode cX9_init 26 = .ok (.putfield 22, 3) := by decide +kernel
theorem dX9_init_29 : decode cX9_init 29 = .ok (.aload_n 0, 1) := by decide +kernel
theorem dX9_init_30 : decode cX9_init 30 = .ok (.new 19, 3) := by decide +kernel
theorem dX9_init_33 : decode cX9_init 33 = .ok (.dup, 1) := by decide +kernel
theorem dX9_init_34 : decode cX9_init 34 = .ok (.invokespecial 21, 3) := by decide +kernel
theorem dX9_init_37 : decode cX9_init 37 = .ok (.putfield 26, 3) := by decide +kernel
theorem dX9_init_40 : decode cX9_init 40 = .ok (.aload_n 0, 1) := by decide +kernel
theorem dX9_init_41 : decode cX9_init 41 = .ok (.new 29, 3) := by decide +kernel
theorem dX9_init_44 : decode cX9_init 44 = .ok (.dup, 1) := by decide +kernel
theorem dX9_init_45 : decode cX9_init 45 = .ok (.aload_n 0, 1) := by decide +kernel
theorem dX9_init_46 : decode cX9_init 46 = .ok (.getfield 11, 3) := by decide +kernel
theorem dX9_init_49 : decode cX9_init 49 = .ok (.aload_n 0, 1) := by decide +kernel
theorem dX9_init_50 : decode cX9_init 50 = .ok (.getfield 26, 3) := by decide +kernel
theorem dX9_init_53 : decode cX9_init 53 = .ok (.invokespecial 31, 3) := by decide +kernel
theorem dX9_init_56 : decode cX9_init 56 = .ok (.putfield 34, 3) := by decide +kernel
theorem dX9_init_59 : decode cX9_init 59 = .ok (.aload_n 0, 1) := by decide +kernel
theorem dX9_init_60 : decode cX9_init 60 = .ok (.iconst 0, 1) := by decide +kernel
theorem dX9_init_61 : decode cX9_init 61 = .ok (.putfield 38, 3) := by decide +kernel
theorem dX9_init_64 : decode cX9_init 64 = .ok (.aload_n 0, 1) := by decide +kernel
theorem dX9_init_65 : decode cX9_init 65 = .ok (.iconst (-1), 1) := by decide +kernel
theorem dX9_init_66 : decode cX9_init 66 = .ok (.putfield 41, 3) := by decide +kernel
theorem dX9_init_69 : decode cX9_init 69 = .ok (.aload_n 0, 1) := by decide +kernel
theorem dX9_init_70 : decode cX9_init 70 = .ok (.new 44, 3) := by decide +kernel
theorem dX9_init_73 : decode cX9_init 73 = .ok (.dup, 1) := by decide +kernel
theorem dX9_init_74 : decode cX9_init 74 = .ok (.invokespecial 46, 3) := by decide +kernel
theorem dX9_init_77 : decode cX9_init 77 = .ok (.putfield 47, 3) := by decide +kernel
theorem dX9_init_80 : decode cX9_init 80 = .ok (.aload_n 0, 1) := by decide +kernel
theorem dX9_init_81 : decode cX9_init 81 = .ok (.new 44, 3) := by decide +kernel
theorem dX9_init_84 : decode cX9_init 84 = .ok (.dup, 1) := by decide +kernel
theorem dX9_init_85 : decode cX9_init 85 = .ok (.invokespecial 46, 3) := by decide +kernel
theorem dX9_init_88 : decode cX9_init 88 = .ok (.putfield 51, 3) := by decide +kernel
theorem dX9_init_91 : decode cX9_init 91 = .ok (.aload_n 0, 1) := by decide +kernel
theorem dX9_init_92 : decode cX9_init 92 = .ok (.new 44, 3) := by decide +kernel
theorem dX9_init_95 : decode cX9_init 95 = .ok (.dup, 1) := by decide +kernel
theorem dX9_init_96 : decode cX9_init 96 = .ok (.invokespecial 46, 3) := by decide +kernel
theorem dX9_init_99 : decode cX9_init 99 = .ok (.putfield 54, 3) := by decide +kernel
theorem dX9_init_102 : decode cX9_init 102 = .ok (.aload_n 0, 1) := by decide +kernel
theorem dX9_init_103 : decode cX9_init 103 = .ok (.new 44, 3) := by decide +kernel
theorem dX9_init_106 : decode cX9_init 106 = .ok (.dup, 1) := by decide +kernel
theorem dX9_init_107 : decode cX9_init 107 = .ok (.invokespecial 46, 3) := by decide +kernel
theorem dX9_init_110 : decode cX9_init 110 = .ok (.putfield 57, 3) := by decide +kernel
theorem dX9_init_113 : decode cX9_init 113 = .ok (.aload_n 0, 1) := by decide +kernel
theorem dX9_init_114 : decode cX9_init 114 = .ok (.iconst 0, 1) := by decide +kernel
theorem dX9_init_115 : decode cX9_init 115 = .ok (.putfield 60, 3) := by decide +kernel
theorem dX9_init_118 : decode cX9_init 118 = .ok (.aload_n 0, 1) := by decide +kernel
theorem dX9_init_119 : decode cX9_init 119 = .ok (.new 64, 3) := by decide +kernel
theorem dX9_init_122 : decode cX9_init 122 = .ok (.dup, 1) := by decide +kernel
theorem dX9_init_123 : decode cX9_init 123 = .ok (.invokespecial 66, 3) := by decide +kernel
theorem dX9_init_126 : decode cX9_init 126 = .ok (.putfield 67, 3) := by decide +kernel
theorem dX9_init_129 : decode cX9_init 129 = .ok (.aload_n 0, 1) := by decide +kernel
theorem dX9_init_130 : decode cX9_init 130 = .ok (.new 71, 3) := by decide +kernel
theorem dX9_init_133 : decode cX9_init 133 = .ok (.dup, 1) := by decide +kernel
theorem dX9_init_134 : decode cX9_init 134 = .ok (.invokespecial 73, 3) := by decide +kernel
theorem dX9_init_137 : decode cX9_init 137 = .ok (.putfield 74, 3) := by decide +kernel
theorem dX9_init_140 : decode cX9_init 140 = .ok (.aload_n 0, 1) := by decide +kernel
theorem dX9_init_141 : decode cX9_init 141 = .ok (.new 78, 3) := by decide +kernel
theorem dX9_init_144 : decode cX9_init 144 = .ok (.dup, 1) := by decide +kernel
theorem dX9_init_145 : decode cX9_init 145 = .ok (.aload_n 0, 1) := by decide +kernel
theorem dX9_init_146 : decode cX9_init 146 = .ok (.getfield 22, 3) := by decide +kernel
theorem dX9_init_149 : decode cX9_init 149 = .ok (.invokespecial 80, 3) := by decide +kernel
theorem dX9_init_152 : decode cX9_init 152 = .ok (.putfield 83, 3) := by decide +kernel
theorem dX9_init_155 : decode cX9_init 155 = .ok (.return_, 1) := by decide +kernel
theorem dX9_feed_0 : decode cX9_feed 0 = .ok (.aload_n 0, 1) := by decide +kernel
theorem dX9_feed_1 : decode cX9_feed 1 = .ok (.getfield 15, 3) := by decide +kernel
theorem dX9_feed_4 : decode cX9_feed 4 = .ok (.bipush 20, 2) := by decide +kernel
theorem dX9_feed_6 : decode cX9_feed 6 = .ok (.iadd, 1) := by decide +kernel
theorem dX9_feed_7 : decode cX9_feed 7 = .ok (.sipush 700, 3) := by decide +kernel
theorem dX9_feed_10 : decode cX9_feed 10 = .ok (.if_icmp .le 5, 3) := by decide +kernel
theorem dX9_feed_13 : decode cX9_feed 13 = .ok (.iconst (-1), 1) := by decide +kernel
theorem dX9_feed_14 : decode cX9_feed 14 = .ok (.ireturn, 1) := by decide +kernel
theorem dX9_feed_15 : decode cX9_feed 15 = .ok (.aload_n 0, 1) := by decide +kernel
theorem dX9_feed_16 : decode cX9_feed 16 = .ok (.iload_n 1, 1) := by decide +kernel
theorem dX9_feed_17 : decode cX9_feed 17 = .ok (.invokevirtual 87, 3) := by decide +kernel
theorem dX9_feed_20 : decode cX9_feed 20 = .ok (.aload_n 0, 1) := by decide +kernel
theorem dX9_feed_21 : decode cX9_feed 21 = .ok (.iload_n 2, 1) := by decide +kernel
theorem dX9_feed_22 : decode cX9_feed 22 = .ok (.invokevirtual 87, 3) := by decide +kernel
theorem dX9_feed_25 : decode cX9_feed 25 = .ok (.aload_n 0, 1) := by decide +kernel
theorem dX9_feed_26 : decode cX9_feed 26 = .ok (.iload_n 3, 1) := by decide +kernel
theorem dX9_feed_27 : decode cX9_feed 27 = .ok (.invokevirtual 87, 3) := by decide +kernel
theorem dX9_feed_30 : decode cX9_feed 30 = .ok (.aload_n 0, 1) := by decide +kernel
theorem dX9_feed_31 : decode cX9_feed 31 = .ok (.iload 4, 2) := by decide +kernel
theorem dX9_feed_33 : decode cX9_feed 33 = .ok (.invokevirtual 87, 3) := by decide +kernel
theorem dX9_feed_36 : decode cX9_feed 36 = .ok (.aload_n 0, 1) := by decide +kernel
theorem dX9_feed_37 : decode cX9_feed 37 = .ok (.iload 5, 2) := by decide +kernel
theorem dX9_feed_39 : decode cX9_feed 39 = .ok (.invokevirtual 87, 3) := by decide +kernel
theorem dX9_feed_42 : decode cX9_feed 42 = .ok (.aload_n 0, 1) := by decide +kernel
theorem dX9_feed_43 : decode cX9_feed 43 = .ok (.getfield 15, 3) := by decide +kernel
theorem dX9_feed_46 : decode cX9_feed 46 = .ok (.ireturn, 1) := by decide +kernel
theorem dX9_putFourBytes_0 : decode cX9_putFourBytes 0 = .ok (.bipush 24, 2) := by decide +kernel
theorem dX9_putFourBytes_2 : decode cX9_putFourBytes 2 = .ok (.istore_n 2, 1) := by decide +kernel
theorem dX9_putFourBytes_3 : decode cX9_putFourBytes 3 = .ok (.iload_n 2, 1) := by decide +kernel
theorem dX9_putFourBytes_4 : decode cX9_putFourBytes 4 = .ok (.ifCond .lt 42, 3) := by decide +kernel
theorem dX9_putFourBytes_7 : decode cX9_putFourBytes 7 = .ok (.aload_n 0, 1) := by decide +kernel
theorem dX9_putFourBytes_8 : decode cX9_putFourBytes 8 = .ok (.getfield 15, 3) := by decide +kernel
theorem dX9_putFourBytes_11 : decode cX9_putFourBytes 11 = .ok (.sipush 700, 3) := by decide +kernel
theorem dX9_putFourBytes_14 : decode cX9_putFourBytes 14 = .ok (.if_icmp .ge 26, 3) := by decide +kernel
theorem dX9_putFourBytes_17 : decode cX9_putFourBytes 17 = .ok (.aload_n 0, 1) := by decide +kernel
theorem dX9_putFourBytes_18 : decode cX9_putFourBytes 18 = .ok (.getfield 11, 3) := by decide +kernel
theorem dX9_putFourBytes_21 : decode cX9_putFourBytes 21 = .ok (.aload_n 0, 1) := by decide +kernel
theorem dX9_putFourBytes_22 : decode cX9_putFourBytes 22 = .ok (.getfield 15, 3) := by decide +kernel
theorem dX9_putFourBytes_25 : decode cX9_putFourBytes 25 = .ok (.iload_n 1, 1) := by decide +kernel
theorem dX9_putFourBytes_26 : decode cX9_putFourBytes 26 = .ok (.iload_n 2, 1) := by decide +kernel
theorem dX9_putFourBytes_27 : decode cX9_putFourBytes 27 = .ok (.ishr, 1) := by decide +kernel
theorem dX9_putFourBytes_28 : decode cX9_putFourBytes 28 = .ok (.i2b, 1) := by decide +kernel
theorem dX9_putFourBytes_29 : decode cX9_putFourBytes 29 = .ok (.bastore, 1) := by decide +kernel
theorem dX9_putFourBytes_30 : decode cX9_putFourBytes 30 = .ok (.aload_n 0, 1) := by decide +kernel
theorem dX9_putFourBytes_31 : decode cX9_putFourBytes 31 = .ok (.dup, 1) := by decide +kernel
theorem dX9_putFourBytes_32 : decode cX9_putFourBytes 32 = .ok (.getfield 15, 3) := by decide +kernel
theorem dX9_putFourBytes_35 : decode cX9_putFourBytes 35 = .ok (.iconst 1, 1) := by decide +kernel
theorem dX9_putFourBytes_36 : decode cX9_putFourBytes 36 = .ok (.iadd, 1) := by decide +kernel
theorem dX9_putFourBytes_37 : decode cX9_putFourBytes 37 = .ok (.putfield 15, 3) := by decide +kernel
theorem dX9_putFourBytes_40 : decode cX9_putFourBytes 40 = .ok (.iinc 2 (-8), 3) := by decide +kernel
theorem dX9_putFourBytes_43 : decode cX9_putFourBytes 43 = .ok (.goto (-40), 3) := by decide +kernel
theorem dX9_putFourBytes_46 : decode cX9_putFourBytes 46 = .ok (.return_, 1) := by decide +kernel
theorem dX9_text_0 : decode cX9_text 0 = .ok (.iload_n 1, 1) := by decide +kernel
theorem dX9_text_1 : decode cX9_text 1 = .ok (.ifCond .lt 11, 3) := by decide +kernel
theorem dX9_text_4 : decode cX9_text 4 = .ok (.iload_n 1, 1) := by decide +kernel
theorem dX9_text_5 : decode cX9_text 5 = .ok (.aload_n 0, 1) := by decide +kernel
theorem dX9_text_6 : decode cX9_text 6 = .ok (.getfield 15, 3) := by decide +kernel
theorem dX9_text_9 : decode cX9_text 9 = .ok (.if_icmp .le 6, 3) := by decide +kernel
theorem dX9_text_12 : decode cX9_text 12 = .ok (.bipush (-2), 2) := by decide +kernel
theorem dX9_text_14 : decode cX9_text 14 = .ok (.ireturn, 1) := by decide +kernel
theorem dX9_text_15 : decode cX9_text 15 = .ok (.aload_n 0, 1) := by decide +kernel
theorem dX9_text_16 : decode cX9_text 16 = .ok (.iconst 0, 1) := by decide +kernel
theorem dX9_text_17 : decode cX9_text 17 = .ok (.putfield 15, 3) := by decide +kernel
theorem dX9_text_20 : decode cX9_text 20 = .ok (.aload_n 0, 1) := by decide +kernel
theorem dX9_text_21 : decode cX9_text 21 = .ok (.getfield 34, 3) := by decide +kernel
theorem dX9_text_24 : decode cX9_text 24 = .ok (.aload_n 0, 1) := by decide +kernel
theorem dX9_text_25 : decode cX9_text 25 = .ok (.getfield 26, 3) := by decide +kernel
theorem dX9_text_28 : decode cX9_text 28 = .ok (.iload_n 1, 1) := by decide +kernel
theorem dX9_text_29 : decode cX9_text 29 = .ok (.invokevirtual 91, 3) := by decide +kernel
theorem dX9_text_32 : decode cX9_text 32 = .ok (.istore_n 2, 1) := by decide +kernel
theorem dX9_text_33 : decode cX9_text 33 = .ok (.aload_n 0, 1) := by decide +kernel
theorem dX9_text_34 : decode cX9_text 34 = .ok (.iload_n 2, 1) := by decide +kernel
theorem dX9_text_35 : decode cX9_text 35 = .ok (.ifCond .eq 7, 3) := by decide +kernel
theorem dX9_text_38 : decode cX9_text 38 = .ok (.iconst 0, 1) := by decide +kernel
theorem dX9_text_39 : decode cX9_text 39 = .ok (.goto 10, 3) := by decide +kernel
theorem dX9_text_42 : decode cX9_text 42 = .ok (.aload_n 0, 1) := by decide +kernel
theorem dX9_text_43 : decode cX9_text 43 = .ok (.getfield 34, 3) := by decide +kernel
theorem dX9_text_46 : decode cX9_text 46 = .ok (.invokevirtual 95, 3) := by decide +kernel
theorem dX9_text_49 : decode cX9_text 49 = .ok (.putfield 38, 3) := by decide +kernel
theorem dX9_text_52 : decode cX9_text 52 = .ok (.aload_n 0, 1) := by decide +kernel
theorem dX9_text_53 : decode cX9_text 53 = .ok (.iload_n 2, 1) := by decide +kernel
theorem dX9_text_54 : decode cX9_text 54 = .ok (.ifCond .eq 7, 3) := by decide +kernel
theorem dX9_text_57 : decode cX9_text 57 = .ok (.iconst (-1), 1) := by decide +kernel
theorem dX9_text_58 : decode cX9_text 58 = .ok (.goto 10, 3) := by decide +kernel
theorem dX9_text_61 : decode cX9_text 61 = .ok (.aload_n 0, 1) := by decide +kernel
theorem dX9_text_62 : decode cX9_text 62 = .ok (.getfield 34, 3) := by decide +kernel
theorem dX9_text_65 : decode cX9_text 65 = .ok (.invokevirtual 99, 3) := by decide +kernel
theorem dX9_text_68 : decode cX9_text 68 = .ok (.putfield 41, 3) := by decide +kernel
theorem dX9_text_71 : decode cX9_text 71 = .ok (.iload_n 2, 1) := by decide +kernel
theorem dX9_text_72 : decode cX9_text 72 = .ok (.ifCond .ne 5, 3) := by decide +kernel
theorem dX9_text_75 : decode cX9_text 75 = .ok (.iconst (-1), 1) := by decide +kernel
theorem dX9_text_76 : decode cX9_text 76 = .ok (.ireturn, 1) := by decide +kernel
theorem dX9_text_77 : decode cX9_text 77 = .ok (.aload_n 0, 1) := by decide +kernel
theorem dX9_text_78 : decode cX9_text 78 = .ok (.getfield 22, 3) := by decide +kernel
theorem dX9_text_81 : decode cX9_text 81 = .ok (.astore_n 3, 1) := by decide +kernel
theorem dX9_text_82 : decode cX9_text 82 = .ok (.aload_n 0, 1) := by decide +kernel
theorem dX9_text_83 : decode cX9_text 83 = .ok (.aload_n 0, 1) := by decide +kernel
theorem dX9_text_84 : decode cX9_text 84 = .ok (.getfield 26, 3) := by decide +kernel
theorem dX9_text_87 : decode cX9_text 87 = .ok (.putfield 22, 3) := by decide +kernel
theorem dX9_text_90 : decode cX9_text 90 = .ok (.aload_n 0, 1) := by decide +kernel
theorem dX9_text_91 : decode cX9_text 91 = .ok (.aload_n 3, 1) := by decide +kernel
theorem dX9_text_92 : decode cX9_text 92 = .ok (.putfield 26, 3) := by decide +kernel
theorem dX9_text_95 : decode cX9_text 95 = .ok (.aload_n 0, 1) := by decide +kernel
theorem dX9_text_96 : decode cX9_text 96 = .ok (.invokevirtual 102, 3) := by decide +kernel
theorem dX9_text_99 : decode cX9_text 99 = .ok (.aload_n 0, 1) := by decide +kernel
theorem dX9_text_100 : decode cX9_text 100 = .ok (.getfield 22, 3) := by decide +kernel
theorem dX9_text_103 : decode cX9_text 103 = .ok (.getfield 105, 3) := by decide +kernel
theorem dX9_text_106 : decode cX9_text 106 = .ok (.ireturn, 1) := by decide +kernel
theorem dX9_startAnew_0 : decode cX9_startAnew 0 = .ok (.aload_n 0, 1) := by decide +kernel
theorem dX9_startAnew_1 : decode cX9_startAnew 1 = .ok (.getfield 47, 3) := by decide +kernel
theorem dX9_startAnew_4 : decode cX9_startAnew 4 = .ok (.aload_n 0, 1) := by decide +kernel
theorem dX9_startAnew_5 : decode cX9_startAnew 5 = .ok (.getfield 22, 3) := by decide +kernel
theorem dX9_startAnew_8 : decode cX9_startAnew 8 = .ok (.invokevirtual 108, 3) := by decide +kernel
theorem dX9_startAnew_11 : decode cX9_startAnew 11 = .ok (.aload_n 0, 1) := by decide +kernel
theorem dX9_startAnew_12 : decode cX9_startAnew 12 = .ok (.iconst 0, 1) := by decide +kernel
theorem dX9_startAnew_13 : decode cX9_startAnew 13 = .ok (.putfield 60, 3) := by decide +kernel
theorem dX9_startAnew_16 : decode cX9_startAnew 16 = .ok (.aload_n 0, 1) := by decide +kernel
theorem dX9_startAnew_17 : decode cX9_startAnew 17 = .ok (.getfield 67, 3) := by decide +kernel
theorem dX9_startAnew_20 : decode cX9_startAnew 20 = .ok (.invokevirtual 111, 3) := by decide +kernel
theorem dX9_startAnew_23 : decode cX9_startAnew 23 = .ok (.aload_n 0, 1) := by decide +kernel
theorem dX9_startAnew_24 : decode cX9_startAnew 24 = .ok (.getfield 74, 3) := by decide +kernel
theorem dX9_startAnew_27 : decode cX9_startAnew 27 = .ok (.invokevirtual 114, 3) := by decide +kernel
theorem dX9_startAnew_30 : decode cX9_startAnew 30 = .ok (.return_, 1) := by decide +kernel
theorem dX9_fault_0 : decode cX9_fault 0 = .ok (.iload_n 1, 1) := by decide +kernel
theorem dX9_fault_1 : decode cX9_fault 1 = .ok (.lookupswitch 37 #[(0, 27), (1, 32)], 27) := by decide +kernel
theorem dX9_fault_28 : decode cX9_fault 28 = .ok (.aload_n 0, 1) := by decide +kernel
theorem dX9_fault_29 : decode cX9_fault 29 = .ok (.getfield 38, 3) := by decide +kernel
theorem dX9_fault_32 : decode cX9_fault 32 = .ok (.ireturn, 1) := by decide +kernel
theorem dX9_fault_33 : decode cX9_fault 33 = .ok (.aload_n 0, 1) := by decide +kernel
theorem dX9_fault_34 : decode cX9_fault 34 = .ok (.getfield 41, 3) := by decide +kernel
theorem dX9_fault_37 : decode cX9_fault 37 = .ok (.ireturn, 1) := by decide +kernel
theorem dX9_fault_38 : decode cX9_fault 38 = .ok (.iconst (-1), 1) := by decide +kernel
theorem dX9_fault_39 : decode cX9_fault 39 = .ok (.ireturn, 1) := by decide +kernel
theorem dX9_named_0 : decode cX9_named 0 = .ok (.iload_n 1, 1) := by decide +kernel
theorem dX9_named_1 : decode cX9_named 1 = .ok (.lookupswitch 65 #[(0, 27), (1, 46)], 27) := by decide +kernel
theorem dX9_named_28 : decode cX9_named 28 = .ok (.iload_n 2, 1) := by decide +kernel
theorem dX9_named_29 : decode cX9_named 29 = .ok (.aload_n 0, 1) := by decide +kernel
theorem dX9_named_30 : decode cX9_named 30 = .ok (.getfield 22, 3) := by decide +kernel
theorem dX9_named_33 : decode cX9_named 33 = .ok (.getfield 115, 3) := by decide +kernel
theorem dX9_named_36 : decode cX9_named 36 = .ok (.aload_n 0, 1) := by decide +kernel
theorem dX9_named_37 : decode cX9_named 37 = .ok (.getfield 22, 3) := by decide +kernel
theorem dX9_named_40 : decode cX9_named 40 = .ok (.getfield 119, 3) := by decide +kernel
theorem dX9_named_43 : decode cX9_named 43 = .ok (.invokestatic 122, 3) := by decide +kernel
theorem dX9_named_46 : decode cX9_named 46 = .ok (.ireturn, 1) := by decide +kernel
theorem dX9_named_47 : decode cX9_named 47 = .ok (.iload_n 2, 1) := by decide +kernel
theorem dX9_named_48 : decode cX9_named 48 = .ok (.aload_n 0, 1) := by decide +kernel
theorem dX9_named_49 : decode cX9_named 49 = .ok (.getfield 22, 3) := by decide +kernel
theorem dX9_named_52 : decode cX9_named 52 = .ok (.getfield 126, 3) := by decide +kernel
theorem dX9_named_55 : decode cX9_named 55 = .ok (.aload_n 0, 1) := by decide +kernel
theorem dX9_named_56 : decode cX9_named 56 = .ok (.getfield 22, 3) := by decide +kernel
theorem dX9_named_59 : decode cX9_named 59 = .ok (.getfield 129, 3) := by decide +kernel
theorem dX9_named_62 : decode cX9_named 62 = .ok (.invokestatic 122, 3) := by decide +kernel
theorem dX9_named_65 : decode cX9_named 65 = .ok (.ireturn, 1) := by decide +kernel
theorem dX9_named_66 : decode cX9_named 66 = .ok (.iconst (-1), 1) := by decide +kernel
theorem dX9_named_67 : decode cX9_named 67 = .ok (.ireturn, 1) := by decide +kernel
theorem dX9_placeOf_0 : decode cX9_placeOf 0 = .ok (.iconst 0, 1) := by decide +kernel
theorem dX9_placeOf_1 : decode cX9_placeOf 1 = .ok (.istore_n 3, 1) := by decide +kernel
theorem dX9_placeOf_2 : decode cX9_placeOf 2 = .ok (.iload_n 3, 1) := by decide +kernel
theorem dX9_placeOf_3 : decode cX9_placeOf 3 = .ok (.iload_n 2, 1) := by decide +kernel
theorem dX9_placeOf_4 : decode cX9_placeOf 4 = .ok (.if_icmp .ge 24, 3) := by decide +kernel
theorem dX9_placeOf_7 : decode cX9_placeOf 7 = .ok (.iload_n 3, 1) := by decide +kernel
theorem dX9_placeOf_8 : decode cX9_placeOf 8 = .ok (.aload_n 1, 1) := by decide +kernel
theorem dX9_placeOf_9 : decode cX9_placeOf 9 = .ok (.arraylength, 1) := by decide +kernel
theorem dX9_placeOf_10 : decode cX9_placeOf 10 = .ok (.if_icmp .ge 18, 3) := by decide +kernel
theorem dX9_placeOf_13 : decode cX9_placeOf 13 = .ok (.aload_n 1, 1) := by decide +kernel
theorem dX9_placeOf_14 : decode cX9_placeOf 14 = .ok (.iload_n 3, 1) := by decide +kernel
theorem dX9_placeOf_15 : decode cX9_placeOf 15 = .ok (.iaload, 1) := by decide +kernel
theorem dX9_placeOf_16 : decode cX9_placeOf 16 = .ok (.iload_n 0, 1) := by decide +kernel
theorem dX9_placeOf_17 : decode cX9_placeOf 17 = .ok (.if_icmp .ne 5, 3) := by decide +kernel
theorem dX9_placeOf_20 : decode cX9_placeOf 20 = .ok (.iload_n 3, 1) := by decide +kernel
theorem dX9_placeOf_21 : decode cX9_placeOf 21 = .ok (.ireturn, 1) := by decide +kernel
theorem dX9_placeOf_22 : decode cX9_placeOf 22 = .ok (.iinc 3 1, 3) := by decide +kernel
theorem dX9_placeOf_25 : decode cX9_placeOf 25 = .ok (.goto (-23), 3) := by decide +kernel
theorem dX9_placeOf_28 : decode cX9_placeOf 28 = .ok (.iconst (-1), 1) := by decide +kernel
theorem dX9_placeOf_29 : decode cX9_placeOf 29 = .ok (.ireturn, 1) := by decide +kernel
theorem dX9_isHouse_0 : decode cX9_isHouse 0 = .ok (.iload_n 1, 1) := by decide +kernel
theorem dX9_isHouse_1 : decode cX9_isHouse 1 = .ok (.ifCond .lt 24, 3) := by decide +kernel
theorem dX9_isHouse_4 : decode cX9_isHouse 4 = .ok (.iload_n 1, 1) := by decide +kernel
theorem dX9_isHouse_5 : decode cX9_isHouse 5 = .ok (.aload_n 0, 1) := by decide +kernel
theorem dX9_isHouse_6 : decode cX9_isHouse 6 = .ok (.getfield 22, 3) := by decide +kernel
theorem dX9_isHouse_9 : decode cX9_isHouse 9 = .ok (.getfield 119, 3) := by decide +kernel
theorem dX9_isHouse_12 : decode cX9_isHouse 12 = .ok (.if_icmp .ge 13, 3) := by decide +kernel
theorem dX9_isHouse_15 : decode cX9_isHouse 15 = .ok (.iload_n 1, 1) := by decide +kernel
theorem dX9_isHouse_16 : decode cX9_isHouse 16 = .ok (.bipush 6, 2) := by decide +kernel
theorem dX9_isHouse_18 : decode cX9_isHouse 18 = .ok (.if_icmp .ge 7, 3) := by decide +kernel
theorem dX9_isHouse_21 : decode cX9_isHouse 21 = .ok (.iconst 1, 1) := by decide +kernel
theorem dX9_isHouse_22 : decode cX9_isHouse 22 = .ok (.goto 4, 3) := by decide +kernel
theorem dX9_isHouse_25 : decode cX9_isHouse 25 = .ok (.iconst 0, 1) := by decide +kernel
theorem dX9_isHouse_26 : decode cX9_isHouse 26 = .ok (.ireturn, 1) := by decide +kernel
theorem dX9_isIn_0 : decode cX9_isIn 0 = .ok (.aload_n 0, 1) := by decide +kernel
theorem dX9_isIn_1 : decode cX9_isIn 1 = .ok (.iload_n 1, 1) := by decide +kernel
theorem dX9_isIn_2 : decode cX9_isIn 2 = .ok (.invokevirtual 132, 3) := by decide +kernel
theorem dX9_isIn_5 : decode cX9_isIn 5 = .ok (.ifCond .eq 18, 3) := by decide +kernel
theorem dX9_isIn_8 : decode cX9_isIn 8 = .ok (.aload_n 0, 1) := by decide +kernel
theorem dX9_isIn_9 : decode cX9_isIn 9 = .ok (.getfield 47, 3) := by decide +kernel
theorem dX9_isIn_12 : decode cX9_isIn 12 = .ok (.iload_n 1, 1) := by decide +kernel
theorem dX9_isIn_13 : decode cX9_isIn 13 = .ok (.invokevirtual 136, 3) := by decide +kernel
theorem dX9_isIn_16 : decode cX9_isIn 16 = .ok (.ifCond .eq 7, 3) := by decide +kernel
theorem dX9_isIn_19 : decode cX9_isIn 19 = .ok (.iconst 1, 1) := by decide +kernel
theorem dX9_isIn_20 : decode cX9_isIn 20 = .ok (.goto 4, 3) := by decide +kernel
theorem dX9_isIn_23 : decode cX9_isIn 23 = .ok (.iconst 0, 1) := by decide +kernel
theorem dX9_isIn_24 : decode cX9_isIn 24 = .ok (.ireturn, 1) := by decide +kernel
theorem dX9_areTwoIn_0 : decode cX9_areTwoIn 0 = .ok (.iload_n 1, 1) := by decide +kernel
theorem dX9_areTwoIn_1 : decode cX9_areTwoIn 1 = .ok (.iload_n 2, 1) := by decide +kernel
theorem dX9_areTwoIn_2 : decode cX9_areTwoIn 2 = .ok (.if_icmp .eq 23, 3) := by decide +kernel
theorem dX9_areTwoIn_5 : decode cX9_areTwoIn 5 = .ok (.aload_n 0, 1) := by decide +kernel
theorem dX9_areTwoIn_6 : decode cX9_areTwoIn 6 = .ok (.iload_n 1, 1) := by decide +kernel
theorem dX9_areTwoIn_7 : decode cX9_areTwoIn 7 = .ok (.invokevirtual 139, 3) := by decide +kernel
theorem dX9_areTwoIn_10 : decode cX9_areTwoIn 10 = .ok (.ifCond .eq 15, 3) := by decide +kernel
theorem dX9_areTwoIn_13 : decode cX9_areTwoIn 13 = .ok (.aload_n 0, 1) := by decide +kernel
theorem dX9_areTwoIn_14 : decode cX9_areTwoIn 14 = .ok (.iload_n 2, 1) := by decide +kernel
theorem dX9_areTwoIn_15 : decode cX9_areTwoIn 15 = .ok (.invokevirtual 139, 3) := by decide +kernel
theorem dX9_areTwoIn_18 : decode cX9_areTwoIn 18 = .ok (.ifCond .eq 7, 3) := by decide +kernel
theorem dX9_areTwoIn_21 : decode cX9_areTwoIn 21 = .ok (.iconst 1, 1) := by decide +kernel
theorem dX9_areTwoIn_22 : decode cX9_areTwoIn 22 = .ok (.goto 4, 3) := by decide +kernel
theorem dX9_areTwoIn_25 : decode cX9_areTwoIn 25 = .ok (.iconst 0, 1) := by decide +kernel
theorem dX9_areTwoIn_26 : decode cX9_areTwoIn 26 = .ok (.ireturn, 1) := by decide +kernel
theorem dX9_areThreeIn_0 : decode cX9_areThreeIn 0 = .ok (.aload_n 0, 1) := by decide +kernel
theorem dX9_areThreeIn_1 : decode cX9_areThreeIn 1 = .ok (.iload_n 1, 1) := by decide +kernel
theorem dX9_areThreeIn_2 : decode cX9_areThreeIn 2 = .ok (.iload_n 2, 1) := by decide +kernel
theorem dX9_areThreeIn_3 : decode cX9_areThreeIn 3 = .ok (.invokevirtual 142, 3) := by decide +kernel
theorem dX9_areThreeIn_6 : decode cX9_areThreeIn 6 = .ok (.ifCond .eq 25, 3) := by decide +kernel
theorem dX9_areThreeIn_9 : decode cX9_areThreeIn 9 = .ok (.aload_n 0, 1) := by decide +kernel
theorem dX9_areThreeIn_10 : decode cX9_areThreeIn 10 = .ok (.iload_n 1, 1) := by decide +kernel
theorem dX9_areThreeIn_11 : decode cX9_areThreeIn 11 = .ok (.iload_n 3, 1) := by decide +kernel
theorem dX9_areThreeIn_12 : decode cX9_areThreeIn 12 = .ok (.invokevirtual 142, 3) := by decide +kernel
theorem dX9_areThreeIn_15 : decode cX9_areThreeIn 15 = .ok (.ifCond .eq 16, 3) := by decide +kernel
theorem dX9_areThreeIn_18 : decode cX9_areThreeIn 18 = .ok (.aload_n 0, 1) := by decide +kernel
theorem dX9_areThreeIn_19 : decode cX9_areThreeIn 19 = .ok (.iload_n 2, 1) := by decide +kernel
theorem dX9_areThreeIn_20 : decode cX9_areThreeIn 20 = .ok (.iload_n 3, 1) := by decide +kernel
theorem dX9_areThreeIn_21 : decode cX9_areThreeIn 21 = .ok (.invokevirtual 142, 3) := by decide +kernel
theorem dX9_areThreeIn_24 : decode cX9_areThreeIn 24 = .ok (.ifCond .eq 7, 3) := by decide +kernel
theorem dX9_areThreeIn_27 : decode cX9_areThreeIn 27 = .ok (.iconst 1, 1) := by decide +kernel
theorem dX9_areThreeIn_28 : decode cX9_areThreeIn 28 = .ok (.goto 4, 3) := by decide +kernel
theorem dX9_areThreeIn_31 : decode cX9_areThreeIn 31 = .ok (.iconst 0, 1) := by decide +kernel
theorem dX9_areThreeIn_32 : decode cX9_areThreeIn 32 = .ok (.ireturn, 1) := by decide +kernel
theorem dX9_isWithin_0 : decode cX9_isWithin 0 = .ok (.iload_n 0, 1) := by decide +kernel
theorem dX9_isWithin_1 : decode cX9_isWithin 1 = .ok (.iload_n 1, 1) := by decide +kernel
theorem dX9_isWithin_2 : decode cX9_isWithin 2 = .ok (.if_icmp .lt 12, 3) := by decide +kernel
theorem dX9_isWithin_5 : decode cX9_isWithin 5 = .ok (.iload_n 0, 1) := by decide +kernel
theorem dX9_isWithin_6 : decode cX9_isWithin 6 = .ok (.iload_n 2, 1) := by decide +kernel
theorem dX9_isWithin_7 : decode cX9_isWithin 7 = .ok (.if_icmp .gt 7, 3) := by decide +kernel
theorem dX9_isWithin_10 : decode cX9_isWithin 10 = .ok (.iconst 1, 1) := by decide +kernel
theorem dX9_isWithin_11 : decode cX9_isWithin 11 = .ok (.goto 4, 3) := by decide +kernel
theorem dX9_isWithin_14 : decode cX9_isWithin 14 = .ok (.iconst 0, 1) := by decide +kernel
theorem dX9_isWithin_15 : decode cX9_isWithin 15 = .ok (.ireturn, 1) := by decide +kernel
theorem dX9_house_0 : decode cX9_house 0 = .ok (.aload_n 0, 1) := by decide +kernel
theorem dX9_house_1 : decode cX9_house 1 = .ok (.iload_n 1, 1) := by decide +kernel
theorem dX9_house_2 : decode cX9_house 2 = .ok (.invokevirtual 132, 3) := by decide +kernel
theorem dX9_house_5 : decode cX9_house 5 = .ok (.ifCond .ne 13, 3) := by decide +kernel
theorem dX9_house_8 : decode cX9_house 8 = .ok (.new 146, 3) := by decide +kernel
theorem dX9_house_11 : decode cX9_house 11 = .ok (.dup, 1) := by decide +kernel
theorem dX9_house_12 : decode cX9_house 12 = .ok (.ldc 148, 2) := by decide +kernel
theorem dX9_house_14 : decode cX9_house 14 = .ok (.invokespecial 150, 3) := by decide +kernel
theorem dX9_house_17 : decode cX9_house 17 = .ok (.athrow, 1) := by decide +kernel
theorem dX9_house_18 : decode cX9_house 18 = .ok (.iload_n 2, 1) := by decide +kernel
theorem dX9_house_19 : decode cX9_house 19 = .ok (.tableswitch 132 0 7 #[45, 55, 65, 75, 85, 95, 112, 122], 45) := by decide +kernel
theorem dX9_house_64 : decode cX9_house 64 = .ok (.aload_n 0, 1) := by decide +kernel
theorem dX9_house_65 : decode cX9_house 65 = .ok (.getfield 47, 3) := by decide +kernel
theorem dX9_house_68 : decode cX9_house 68 = .ok (.getfield 153, 3) := by decide +kernel
theorem dX9_house_71 : decode cX9_house 71 = .ok (.iload_n 1, 1) := by decide +kernel
theorem dX9_house_72 : decode cX9_house 72 = .ok (.iaload, 1) := by decide +kernel
theorem dX9_house_73 : decode cX9_house 73 = .ok (.ireturn, 1) := by decide +kernel
theorem dX9_house_74 : decode cX9_house 74 = .ok (.aload_n 0, 1) := by decide +kernel
theorem dX9_house_75 : decode cX9_house 75 = .ok (.getfield 22, 3) := by decide +kernel
theorem dX9_house_78 : decode cX9_house 78 = .ok (.getfield 156, 3) := by decide +kernel
theorem dX9_house_81 : decode cX9_house 81 = .ok (.iload_n 1, 1) := by decide +kernel
theorem dX9_house_82 : decode cX9_house 82 = .ok (.iaload, 1) := by decide +kernel
theorem dX9_house_83 : decode cX9_house 83 = .ok (.ireturn, 1) := by decide +kernel
theorem dX9_house_84 : decode cX9_house 84 = .ok (.aload_n 0, 1) := by decide +kernel
theorem dX9_house_85 : decode cX9_house 85 = .ok (.getfield 22, 3) := by decide +kernel
theorem dX9_house_88 : decode cX9_house 88 = .ok (.getfield 159, 3) := by decide +kernel
theorem dX9_house_91 : decode cX9_house 91 = .ok (.iload_n 1, 1) := by decide +kernel
theorem dX9_house_92 : decode cX9_house 92 = .ok (.iaload, 1) := by decide +kernel
theorem dX9_house_93 : decode cX9_house 93 = .ok (.ireturn, 1) := by decide +kernel
theorem dX9_house_94 : decode cX9_house 94 = .ok (.aload_n 0, 1) := by decide +kernel
theorem dX9_house_95 : decode cX9_house 95 = .ok (.getfield 47, 3) := by decide +kernel
theorem dX9_house_98 : decode cX9_house 98 = .ok (.getfield 162, 3) := by decide +kernel
theorem dX9_house_101 : decode cX9_house 101 = .ok (.iload_n 1, 1) := by decide +kernel
theorem dX9_house_102 : decode cX9_house 102 = .ok (.iaload, 1) := by decide +kernel
theorem dX9_house_103 : decode cX9_house 103 = .ok (.ireturn, 1) := by decide +kernel
theorem dX9_house_104 : decode cX9_house 104 = .ok (.aload_n 0, 1) := by decide +kernel
theorem dX9_house_105 : decode cX9_house 105 = .ok (.getfield 47, 3) := by decide +kernel
theorem dX9_house_108 : decode cX9_house 108 = .ok (.getfield 165, 3) := by decide +kernel
theorem dX9_house_111 : decode cX9_house 111 = .ok (.iload_n 1, 1) := by decide +kernel
theorem dX9_house_112 : decode cX9_house 112 = .ok (.iaload, 1) := by decide +kernel
theorem dX9_house_113 : decode cX9_house 113 = .ok (.ireturn, 1) := by decide +kernel
theorem dX9_house_114 : decode cX9_house 114 = .ok (.aload_n 0, 1) := by decide +kernel
theorem dX9_house_115 : decode cX9_house 115 = .ok (.getfield 47, 3) := by decide +kernel
theorem dX9_house_118 : decode cX9_house 118 = .ok (.iload_n 1, 1) := by decide +kernel
theorem dX9_house_119 : decode cX9_house 119 = .ok (.invokevirtual 136, 3) := by decide +kernel
theorem dX9_house_122 : decode cX9_house 122 = .ok (.ifCond .eq 7, 3) := by decide +kernel
theorem dX9_house_125 : decode cX9_house 125 = .ok (.iconst 1, 1) := by decide +kernel
theorem dX9_house_126 : decode cX9_house 126 = .ok (.goto 4, 3) := by decide +kernel
theorem dX9_house_129 : decode cX9_house 129 = .ok (.iconst 0, 1) := by decide +kernel
theorem dX9_house_130 : decode cX9_house 130 = .ok (.ireturn, 1) := by decide +kernel
theorem dX9_house_131 : decode cX9_house 131 = .ok (.aload_n 0, 1) := by decide +kernel
theorem dX9_house_132 : decode cX9_house 132 = .ok (.getfield 47, 3) := by decide +kernel
theorem dX9_house_135 : decode cX9_house 135 = .ok (.getfield 168, 3) := by decide +kernel
theorem dX9_house_138 : decode cX9_house 138 = .ok (.iload_n 1, 1) := by decide +kernel
theorem dX9_house_139 : decode cX9_house 139 = .ok (.iaload, 1) := by decide +kernel
theorem dX9_house_140 : decode cX9_house 140 = .ok (.ireturn, 1) := by decide +kernel
theorem dX9_house_141 : decode cX9_house 141 = .ok (.aload_n 0, 1) := by decide +kernel
theorem dX9_house_142 : decode cX9_house 142 = .ok (.getfield 47, 3) := by decide +kernel
theorem dX9_house_145 : decode cX9_house 145 = .ok (.getfield 171, 3) := by decide +kernel
theorem dX9_house_148 : decode cX9_house 148 = .ok (.iload_n 1, 1) := by decide +kernel
theorem dX9_house_149 : decode cX9_house 149 = .ok (.iaload, 1) := by decide +kernel
theorem dX9_house_150 : decode cX9_house 150 = .ok (.ireturn, 1) := by decide +kernel
theorem dX9_house_151 : decode cX9_house 151 = .ok (.new 174, 3) := by decide +kernel
theorem dX9_house_154 : decode cX9_house 154 = .ok (.dup, 1) := by decide +kernel
theorem dX9_house_155 : decode cX9_house 155 = .ok (.ldc 176, 2) := by decide +kernel
theorem dX9_house_157 : decode cX9_house 157 = .ok (.invokespecial 178, 3) := by decide +kernel
theorem dX9_house_160 : decode cX9_house 160 = .ok (.athrow, 1) := by decide +kernel
theorem dX9_part_0 : decode cX9_part 0 = .ok (.iload_n 1, 1) := by decide +kernel
theorem dX9_part_1 : decode cX9_part 1 = .ok (.ifCond .lt 20, 3) := by decide +kernel
theorem dX9_part_4 : decode cX9_part 4 = .ok (.iload_n 1, 1) := by decide +kernel
theorem dX9_part_5 : decode cX9_part 5 = .ok (.aload_n 0, 1) := by decide +kernel
theorem dX9_part_6 : decode cX9_part 6 = .ok (.getfield 22, 3) := by decide +kernel
theorem dX9_part_9 : decode cX9_part 9 = .ok (.getfield 129, 3) := by decide +kernel
theorem dX9_part_12 : decode cX9_part 12 = .ok (.if_icmp .ge 9, 3) := by decide +kernel
theorem dX9_part_15 : decode cX9_part 15 = .ok (.iload_n 1, 1) := by decide +kernel
theorem dX9_part_16 : decode cX9_part 16 = .ok (.bipush 6, 2) := by decide +kernel
theorem dX9_part_18 : decode cX9_part 18 = .ok (.if_icmp .lt 5, 3) := by decide +kernel
theorem dX9_part_21 : decode cX9_part 21 = .ok (.iconst (-1), 1) := by decide +kernel
theorem dX9_part_22 : decode cX9_part 22 = .ok (.ireturn, 1) := by decide +kernel
theorem dX9_part_23 : decode cX9_part 23 = .ok (.iload_n 2, 1) := by decide +kernel
theorem dX9_part_24 : decode cX9_part 24 = .ok (.tableswitch 65 0 2 #[28, 38, 48], 28) := by decide +kernel
theorem dX9_part_52 : decode cX9_part 52 = .ok (.aload_n 0, 1) := by decide +kernel
theorem dX9_part_53 : decode cX9_part 53 = .ok (.getfield 22, 3) := by decide +kernel
theorem dX9_part_56 : decode cX9_part 56 = .ok (.getfield 179, 3) := by decide +kernel
theorem dX9_part_59 : decode cX9_part 59 = .ok (.iload_n 1, 1) := by decide +kernel
theorem dX9_part_60 : decode cX9_part 60 = .ok (.iaload, 1) := by decide +kernel
theorem dX9_part_61 : decode cX9_part 61 = .ok (.ireturn, 1) := by decide +kernel
theorem dX9_part_62 : decode cX9_part 62 = .ok (.aload_n 0, 1) := by decide +kernel
theorem dX9_part_63 : decode cX9_part 63 = .ok (.getfield 47, 3) := by decide +kernel
theorem dX9_part_66 : decode cX9_part 66 = .ok (.getfield 182, 3) := by decide +kernel
theorem dX9_part_69 : decode cX9_part 69 = .ok (.iload_n 1, 1) := by decide +kernel
theorem dX9_part_70 : decode cX9_part 70 = .ok (.iaload, 1) := by decide +kernel
theorem dX9_part_71 : decode cX9_part 71 = .ok (.ireturn, 1) := by decide +kernel
theorem dX9_part_72 : decode cX9_part 72 = .ok (.aload_n 0, 1) := by decide +kernel
theorem dX9_part_73 : decode cX9_part 73 = .ok (.getfield 47, 3) := by decide +kernel
theorem dX9_part_76 : decode cX9_part 76 = .ok (.iload_n 1, 1) := by decide +kernel
theorem dX9_part_77 : decode cX9_part 77 = .ok (.invokevirtual 185, 3) := by decide +kernel
theorem dX9_part_80 : decode cX9_part 80 = .ok (.ifCond .eq 7, 3) := by decide +kernel
theorem dX9_part_83 : decode cX9_part 83 = .ok (.iconst 1, 1) := by decide +kernel
theorem dX9_part_84 : decode cX9_part 84 = .ok (.goto 4, 3) := by decide +kernel
theorem dX9_part_87 : decode cX9_part 87 = .ok (.iconst 0, 1) := by decide +kernel
theorem dX9_part_88 : decode cX9_part 88 = .ok (.ireturn, 1) := by decide +kernel
theorem dX9_part_89 : decode cX9_part 89 = .ok (.iconst (-1), 1) := by decide +kernel
theorem dX9_part_90 : decode cX9_part 90 = .ok (.ireturn, 1) := by decide +kernel
theorem dX9_law_0 : decode cX9_law 0 = .ok (.iload_n 1, 1) := by decide +kernel
theorem dX9_law_1 : decode cX9_law 1 = .ok (.iconst 0, 1) := by decide +kernel
theorem dX9_law_2 : decode cX9_law 2 = .ok (.iconst 2, 1) := by decide +kernel
theorem dX9_law_3 : decode cX9_law 3 = .ok (.invokestatic 188, 3) := by decide +kernel
theorem dX9_law_6 : decode cX9_law 6 = .ok (.ifCond .eq 11, 3) := by decide +kernel
theorem dX9_law_9 : decode cX9_law 9 = .ok (.aload_n 0, 1) := by decide +kernel
theorem dX9_law_10 : decode cX9_law 10 = .ok (.iload_n 2, 1) := by decide +kernel
theorem dX9_law_11 : decode cX9_law 11 = .ok (.invokevirtual 132, 3) := by decide +kernel
theorem dX9_law_14 : decode cX9_law 14 = .ok (.ifCond .ne 7, 3) := by decide +kernel
theorem dX9_law_17 : decode cX9_law 17 = .ok (.ldc2_w 192, 3) := by decide +kernel
theorem dX9_law_20 : decode cX9_law 20 = .ok (.lreturn, 1) := by decide +kernel
theorem dX9_law_21 : decode cX9_law 21 = .ok (.aload_n 0, 1) := by decide +kernel
theorem dX9_law_22 : decode cX9_law 22 = .ok (.getfield 83, 3) := by decide +kernel
theorem dX9_law_25 : decode cX9_law 25 = .ok (.aload_n 0, 1) := by decide +kernel
theorem dX9_law_26 : decode cX9_law 26 = .ok (.getfield 22, 3) := by decide +kernel
theorem dX9_law_29 : decode cX9_law 29 = .ok (.invokevirtual 194, 3) := by decide +kernel
theorem dX9_law_32 : decode cX9_law 32 = .ok (.aload_n 0, 1) := by decide +kernel
theorem dX9_law_33 : decode cX9_law 33 = .ok (.getfield 83, 3) := by decide +kernel
theorem dX9_law_36 : decode cX9_law 36 = .ok (.iload_n 1, 1) := by decide +kernel
theorem dX9_law_37 : decode cX9_law 37 = .ok (.aload_n 0, 1) := by decide +kernel
theorem dX9_law_38 : decode cX9_law 38 = .ok (.getfield 47, 3) := by decide +kernel
theorem dX9_law_41 : decode cX9_law 41 = .ok (.iload_n 2, 1) := by decide +kernel
theorem dX9_law_42 : decode cX9_law 42 = .ok (.invokevirtual 197, 3) := by decide +kernel
theorem dX9_law_45 : decode cX9_law 45 = .ok (.lreturn, 1) := by decide +kernel
theorem dX9_count_0 : decode cX9_count 0 = .ok (.iload_n 1, 1) := by decide +kernel
theorem dX9_count_1 : decode cX9_count 1 = .ok (.tableswitch 185 0 12 #[67, 75, 83, 94, 102, 110, 118, 126, 142, 153, 161, 169, 177], 67) := by decide +kernel
theorem dX9_count_68 : decode cX9_count 68 = .ok (.aload_n 0, 1) := by decide +kernel
theorem dX9_count_69 : decode cX9_count 69 = .ok (.getfield 22, 3) := by decide +kernel
theorem dX9_count_72 : decode cX9_count 72 = .ok (.getfield 119, 3) := by decide +kernel
theorem dX9_count_75 : decode cX9_count 75 = .ok (.ireturn, 1) := by decide +kernel
theorem dX9_count_76 : decode cX9_count 76 = .ok (.aload_n 0, 1) := by decide +kernel
theorem dX9_count_77 : decode cX9_count 77 = .ok (.getfield 22, 3) := by decide +kernel
theorem dX9_count_80 : decode cX9_count 80 = .ok (.getfield 129, 3) := by decide +kernel
theorem dX9_count_83 : decode cX9_count 83 = .ok (.ireturn, 1) := by decide +kernel
theorem dX9_count_84 : decode cX9_count 84 = .ok (.aload_n 0, 1) := by decide +kernel
theorem dX9_count_85 : decode cX9_count 85 = .ok (.getfield 22, 3) := by decide +kernel
theorem dX9_count_88 : decode cX9_count 88 = .ok (.getfield 201, 3) := by decide +kernel
theorem dX9_count_91 : decode cX9_count 91 = .ok (.getfield 205, 3) := by decide +kernel
theorem dX9_count_94 : decode cX9_count 94 = .ok (.ireturn, 1) := by decide +kernel
theorem dX9_count_95 : decode cX9_count 95 = .ok (.aload_n 0, 1) := by decide +kernel
theorem dX9_count_96 : decode cX9_count 96 = .ok (.getfield 47, 3) := by decide +kernel
theorem dX9_count_99 : decode cX9_count 99 = .ok (.getfield 210, 3) := by decide +kernel
theorem dX9_count_102 : decode cX9_count 102 = .ok (.ireturn, 1) := by decide +kernel
theorem dX9_count_103 : decode cX9_count 103 = .ok (.aload_n 0, 1) := by decide +kernel
theorem dX9_count_104 : decode cX9_count 104 = .ok (.getfield 47, 3) := by decide +kernel
theorem dX9_count_107 : decode cX9_count 107 = .ok (.getfield 213, 3) := by decide +kernel
theorem dX9_count_110 : decode cX9_count 110 = .ok (.ireturn, 1) := by decide +kernel
theorem dX9_count_111 : decode cX9_count 111 = .ok (.aload_n 0, 1) := by decide +kernel
theorem dX9_count_112 : decode cX9_count 112 = .ok (.getfield 47, 3) := by decide +kernel
theorem dX9_count_115 : decode cX9_count 115 = .ok (.getfield 216, 3) := by decide +kernel
theorem dX9_count_118 : decode cX9_count 118 = .ok (.ireturn, 1) := by decide +kernel
theorem dX9_count_119 : decode cX9_count 119 = .ok (.aload_n 0, 1) := by decide +kernel
theorem dX9_count_120 : decode cX9_count 120 = .ok (.getfield 47, 3) := by decide +kernel
theorem dX9_count_123 : decode cX9_count 123 = .ok (.getfield 219, 3) := by decide +kernel
theorem dX9_count_126 : decode cX9_count 126 = .ok (.ireturn, 1) := by decide +kernel
theorem dX9_count_127 : decode cX9_count 127 = .ok (.aload_n 0, 1) := by decide +kernel
theorem dX9_count_128 : decode cX9_count 128 = .ok (.getfield 47, 3) := by decide +kernel
theorem dX9_count_131 : decode cX9_count 131 = .ok (.getfield 222, 3) := by decide +kernel
theorem dX9_count_134 : decode cX9_count 134 = .ok (.ifCond .eq 7, 3) := by decide +kernel
theorem dX9_count_137 : decode cX9_count 137 = .ok (.iconst 1, 1) := by decide +kernel
theorem dX9_count_138 : decode cX9_count 138 = .ok (.goto 4, 3) := by decide +kernel
theorem dX9_count_141 : decode cX9_count 141 = .ok (.iconst 0, 1) := by decide +kernel
theorem dX9_count_142 : decode cX9_count 142 = .ok (.ireturn, 1) := by decide +kernel
theorem dX9_count_143 : decode cX9_count 143 = .ok (.aload_n 0, 1) := by decide +kernel
theorem dX9_count_144 : decode cX9_count 144 = .ok (.getfield 47, 3) := by decide +kernel
theorem dX9_count_147 : decode cX9_count 147 = .ok (.getfield 225, 3) := by decide +kernel
theorem dX9_count_150 : decode cX9_count 150 = .ok (.invokestatic 228, 3) := by decide +kernel
theorem dX9_count_153 : decode cX9_count 153 = .ok (.ireturn, 1) := by decide +kernel
theorem dX9_count_154 : decode cX9_count 154 = .ok (.aload_n 0, 1) := by decide +kernel
theorem dX9_count_155 : decode cX9_count 155 = .ok (.getfield 47, 3) := by decide +kernel
theorem dX9_count_158 : decode cX9_count 158 = .ok (.getfield 234, 3) := by decide +kernel
theorem dX9_count_161 : decode cX9_count 161 = .ok (.ireturn, 1) := by decide +kernel
theorem dX9_count_162 : decode cX9_count 162 = .ok (.aload_n 0, 1) := by decide +kernel
theorem dX9_count_163 : decode cX9_count 163 = .ok (.getfield 74, 3) := by decide +kernel
theorem dX9_count_166 : decode cX9_count 166 = .ok (.getfield 237, 3) := by decide +kernel
theorem dX9_count_169 : decode cX9_count 169 = .ok (.ireturn, 1) := by decide +kernel
theorem dX9_count_170 : decode cX9_count 170 = .ok (.aload_n 0, 1) := by decide +kernel
theorem dX9_count_171 : decode cX9_count 171 = .ok (.getfield 74, 3) := by decide +kernel
theorem dX9_count_174 : decode cX9_count 174 = .ok (.invokevirtual 240, 3) := by decide +kernel
theorem dX9_count_177 : decode cX9_count 177 = .ok (.ireturn, 1) := by decide +kernel
theorem dX9_count_178 : decode cX9_count 178 = .ok (.aload_n 0, 1) := by decide +kernel
theorem dX9_count_179 : decode cX9_count 179 = .ok (.getfield 67, 3) := by decide +kernel
theorem dX9_count_182 : decode cX9_count 182 = .ok (.getfield 243, 3) := by decide +kernel
theorem dX9_count_185 : decode cX9_count 185 = .ok (.ireturn, 1) := by decide +kernel
theorem dX9_count_186 : decode cX9_count 186 = .ok (.iconst (-1), 1) := by decide +kernel
theorem dX9_count_187 : decode cX9_count 187 = .ok (.ireturn, 1) := by decide +kernel
theorem dX9_turn_0 : decode cX9_turn 0 = .ok (.aload_n 0, 1) := by decide +kernel
theorem dX9_turn_1 : decode cX9_turn 1 = .ok (.getfield 83, 3) := by decide +kernel
theorem dX9_turn_4 : decode cX9_turn 4 = .ok (.aload_n 0, 1) := by decide +kernel
theorem dX9_turn_5 : decode cX9_turn 5 = .ok (.getfield 22, 3) := by decide +kernel
theorem dX9_turn_8 : decode cX9_turn 8 = .ok (.invokevirtual 194, 3) := by decide +kernel
theorem dX9_turn_11 : decode cX9_turn 11 = .ok (.aload_n 0, 1) := by decide +kernel
theorem dX9_turn_12 : decode cX9_turn 12 = .ok (.getfield 83, 3) := by decide +kernel
theorem dX9_turn_15 : decode cX9_turn 15 = .ok (.aload_n 0, 1) := by decide +kernel
theorem dX9_turn_16 : decode cX9_turn 16 = .ok (.getfield 47, 3) := by decide +kernel
theorem dX9_turn_19 : decode cX9_turn 19 = .ok (.invokevirtual 244, 3) := by decide +kernel
theorem dX9_turn_22 : decode cX9_turn 22 = .ok (.istore_n 1, 1) := by decide +kernel
theorem dX9_turn_23 : decode cX9_turn 23 = .ok (.iload_n 1, 1) := by decide +kernel
theorem dX9_turn_24 : decode cX9_turn 24 = .ok (.iconst (-1), 1) := by decide +kernel
theorem dX9_turn_25 : decode cX9_turn 25 = .ok (.if_icmp .ne 8, 3) := by decide +kernel
theorem dX9_turn_28 : decode cX9_turn 28 = .ok (.bipush (-2), 2) := by decide +kernel
theorem dX9_turn_30 : decode cX9_turn 30 = .ok (.goto 4, 3) := by decide +kernel
theorem dX9_turn_33 : decode cX9_turn 33 = .ok (.iload_n 1, 1) := by decide +kernel
theorem dX9_turn_34 : decode cX9_turn 34 = .ok (.ireturn, 1) := by decide +kernel
theorem dX9_nod_0 : decode cX9_nod 0 = .ok (.aload_n 0, 1) := by decide +kernel
theorem dX9_nod_1 : decode cX9_nod 1 = .ok (.iload_n 1, 1) := by decide +kernel
theorem dX9_nod_2 : decode cX9_nod 2 = .ok (.invokevirtual 132, 3) := by decide +kernel
theorem dX9_nod_5 : decode cX9_nod 5 = .ok (.ifCond .ne 5, 3) := by decide +kernel
theorem dX9_nod_8 : decode cX9_nod 8 = .ok (.iconst (-1), 1) := by decide +kernel
theorem dX9_nod_9 : decode cX9_nod 9 = .ok (.ireturn, 1) := by decide +kernel
theorem dX9_nod_10 : decode cX9_nod 10 = .ok (.aload_n 0, 1) := by decide +kernel
theorem dX9_nod_11 : decode cX9_nod 11 = .ok (.getfield 83, 3) := by decide +kernel
theorem dX9_nod_14 : decode cX9_nod 14 = .ok (.aload_n 0, 1) := by decide +kernel
theorem dX9_nod_15 : decode cX9_nod 15 = .ok (.getfield 22, 3) := by decide +kernel
theorem dX9_nod_18 : decode cX9_nod 18 = .ok (.invokevirtual 194, 3) := by decide +kernel
theorem dX9_nod_21 : decode cX9_nod 21 = .ok (.aload_n 0, 1) := by decide +kernel
theorem dX9_nod_22 : decode cX9_nod 22 = .ok (.getfield 83, 3) := by decide +kernel
theorem dX9_nod_25 : decode cX9_nod 25 = .ok (.aload_n 0, 1) := by decide +kernel
theorem dX9_nod_26 : decode cX9_nod 26 = .ok (.getfield 47, 3) := by decide +kernel
theorem dX9_nod_29 : decode cX9_nod 29 = .ok (.iload_n 1, 1) := by decide +kernel
theorem dX9_nod_30 : decode cX9_nod 30 = .ok (.invokevirtual 248, 3) := by decide +kernel
theorem dX9_nod_33 : decode cX9_nod 33 = .ok (.ifCond .ne 6, 3) := by decide +kernel
theorem dX9_nod_36 : decode cX9_nod 36 = .ok (.bipush (-2), 2) := by decide +kernel
theorem dX9_nod_38 : decode cX9_nod 38 = .ok (.ireturn, 1) := by decide +kernel
theorem dX9_nod_39 : decode cX9_nod 39 = .ok (.aload_n 0, 1) := by decide +kernel
theorem dX9_nod_40 : decode cX9_nod 40 = .ok (.getfield 67, 3) := by decide +kernel
theorem dX9_nod_43 : decode cX9_nod 43 = .ok (.aload_n 0, 1) := by decide +kernel
theorem dX9_nod_44 : decode cX9_nod 44 = .ok (.getfield 47, 3) := by decide +kernel
theorem dX9_nod_47 : decode cX9_nod 47 = .ok (.iload_n 1, 1) := by decide +kernel
theorem dX9_nod_48 : decode cX9_nod 48 = .ok (.invokevirtual 252, 3) := by decide +kernel
theorem dX9_nod_51 : decode cX9_nod 51 = .ok (.aload_n 0, 1) := by decide +kernel
theorem dX9_nod_52 : decode cX9_nod 52 = .ok (.getfield 83, 3) := by decide +kernel
theorem dX9_nod_55 : decode cX9_nod 55 = .ok (.aload_n 0, 1) := by decide +kernel
theorem dX9_nod_56 : decode cX9_nod 56 = .ok (.getfield 47, 3) := by decide +kernel
theorem dX9_nod_59 : decode cX9_nod 59 = .ok (.iload_n 1, 1) := by decide +kernel
theorem dX9_nod_60 : decode cX9_nod 60 = .ok (.invokevirtual 256, 3) := by decide +kernel
theorem dX9_nod_63 : decode cX9_nod 63 = .ok (.aload_n 0, 1) := by decide +kernel
theorem dX9_nod_64 : decode cX9_nod 64 = .ok (.getfield 47, 3) := by decide +kernel
theorem dX9_nod_67 : decode cX9_nod 67 = .ok (.getfield 213, 3) := by decide +kernel
theorem dX9_nod_70 : decode cX9_nod 70 = .ok (.ireturn, 1) := by decide +kernel
theorem dX9_marry_0 : decode cX9_marry 0 = .ok (.aload_n 0, 1) := by decide +kernel
theorem dX9_marry_1 : decode cX9_marry 1 = .ok (.iload_n 1, 1) := by decide +kernel
theorem dX9_marry_2 : decode cX9_marry 2 = .ok (.iload_n 2, 1) := by decide +kernel
theorem dX9_marry_3 : decode cX9_marry 3 = .ok (.invokevirtual 142, 3) := by decide +kernel
theorem dX9_marry_6 : decode cX9_marry 6 = .ok (.ifCond .ne 5, 3) := by decide +kernel
theorem dX9_marry_9 : decode cX9_marry 9 = .ok (.iconst 0, 1) := by decide +kernel
theorem dX9_marry_10 : decode cX9_marry 10 = .ok (.ireturn, 1) := by decide +kernel
theorem dX9_marry_11 : decode cX9_marry 11 = .ok (.aload_n 0, 1) := by decide +kernel
theorem dX9_marry_12 : decode cX9_marry 12 = .ok (.getfield 67, 3) := by decide +kernel
theorem dX9_marry_15 : decode cX9_marry 15 = .ok (.aload_n 0, 1) := by decide +kernel
theorem dX9_marry_16 : decode cX9_marry 16 = .ok (.getfield 47, 3) := by decide +kernel
theorem dX9_marry_19 : decode cX9_marry 19 = .ok (.iload_n 1, 1) := by decide +kernel
theorem dX9_marry_20 : decode cX9_marry 20 = .ok (.invokevirtual 252, 3) := by decide +kernel
theorem dX9_marry_23 : decode cX9_marry 23 = .ok (.aload_n 0, 1) := by decide +kernel
theorem dX9_marry_24 : decode cX9_marry 24 = .ok (.getfield 47, 3) := by decide +kernel
theorem dX9_marry_27 : decode cX9_marry 27 = .ok (.iload_n 1, 1) := by decide +kernel
theorem dX9_marry_28 : decode cX9_marry 28 = .ok (.iload_n 2, 1) := by decide +kernel
theorem dX9_marry_29 : decode cX9_marry 29 = .ok (.invokevirtual 259, 3) := by decide +kernel
theorem dX9_marry_32 : decode cX9_marry 32 = .ok (.iconst 1, 1) := by decide +kernel
theorem dX9_marry_33 : decode cX9_marry 33 = .ok (.ireturn, 1) := by decide +kernel
theorem dX9_will_0 : decode cX9_will 0 = .ok (.aload_n 0, 1) := by decide +kernel
theorem dX9_will_1 : decode cX9_will 1 = .ok (.iload_n 1, 1) := by decide +kernel
theorem dX9_will_2 : decode cX9_will 2 = .ok (.invokevirtual 139, 3) := by decide +kernel
theorem dX9_will_5 : decode cX9_will 5 = .ok (.ifCond .eq 27, 3) := by decide +kernel
theorem dX9_will_8 : decode cX9_will 8 = .ok (.iload_n 2, 1) := by decide +kernel
theorem dX9_will_9 : decode cX9_will 9 = .ok (.iconst 0, 1) := by decide +kernel
theorem dX9_will_10 : decode cX9_will 10 = .ok (.sipush 9999, 3) := by decide +kernel
theorem dX9_will_13 : decode cX9_will 13 = .ok (.invokestatic 188, 3) := by decide +kernel
theorem dX9_will_16 : decode cX9_will 16 = .ok (.ifCond .eq 16, 3) := by decide +kernel
theorem dX9_will_19 : decode cX9_will 19 = .ok (.aload_n 0, 1) := by decide +kernel
theorem dX9_will_20 : decode cX9_will 20 = .ok (.getfield 47, 3) := by decide +kernel
theorem dX9_will_23 : decode cX9_will 23 = .ok (.getfield 153, 3) := by decide +kernel
theorem dX9_will_26 : decode cX9_will 26 = .ok (.iload_n 1, 1) := by decide +kernel
theorem dX9_will_27 : decode cX9_will 27 = .ok (.iaload, 1) := by decide +kernel
theorem dX9_will_28 : decode cX9_will 28 = .ok (.iload_n 2, 1) := by decide +kernel
theorem dX9_will_29 : decode cX9_will 29 = .ok (.if_icmp .ne 5, 3) := by decide +kernel
theorem dX9_will_32 : decode cX9_will 32 = .ok (.iconst 0, 1) := by decide +kernel
theorem dX9_will_33 : decode cX9_will 33 = .ok (.ireturn, 1) := by decide +kernel
theorem dX9_will_34 : decode cX9_will 34 = .ok (.aload_n 0, 1) := by decide +kernel
theorem dX9_will_35 : decode cX9_will 35 = .ok (.getfield 67, 3) := by decide +kernel
theorem dX9_will_38 : decode cX9_will 38 = .ok (.aload_n 0, 1) := by decide +kernel
theorem dX9_will_39 : decode cX9_will 39 = .ok (.getfield 47, 3) := by decide +kernel
theorem dX9_will_42 : decode cX9_will 42 = .ok (.iload_n 1, 1) := by decide +kernel
theorem dX9_will_43 : decode cX9_will 43 = .ok (.invokevirtual 252, 3) := by decide +kernel
theorem dX9_will_46 : decode cX9_will 46 = .ok (.aload_n 0, 1) := by decide +kernel
theorem dX9_will_47 : decode cX9_will 47 = .ok (.getfield 47, 3) := by decide +kernel
theorem dX9_will_50 : decode cX9_will 50 = .ok (.getfield 153, 3) := by decide +kernel
theorem dX9_will_53 : decode cX9_will 53 = .ok (.iload_n 1, 1) := by decide +kernel
theorem dX9_will_54 : decode cX9_will 54 = .ok (.iload_n 2, 1) := by decide +kernel
theorem dX9_will_55 : decode cX9_will 55 = .ok (.iastore, 1) := by decide +kernel
theorem dX9_will_56 : decode cX9_will 56 = .ok (.iconst 1, 1) := by decide +kernel
theorem dX9_will_57 : decode cX9_will 57 = .ok (.ireturn, 1) := by decide +kernel
theorem dX9_child_0 : decode cX9_child 0 = .ok (.aload_n 0, 1) := by decide +kernel
theorem dX9_child_1 : decode cX9_child 1 = .ok (.iload_n 1, 1) := by decide +kernel
theorem dX9_child_2 : decode cX9_child 2 = .ok (.invokevirtual 139, 3) := by decide +kernel
theorem dX9_child_5 : decode cX9_child 5 = .ok (.ifCond .eq 17, 3) := by decide +kernel
theorem dX9_child_8 : decode cX9_child 8 = .ok (.aload_n 0, 1) := by decide +kernel
theorem dX9_child_9 : decode cX9_child 9 = .ok (.getfield 47, 3) := by decide +kernel
theorem dX9_child_12 : decode cX9_child 12 = .ok (.getfield 165, 3) := by decide +kernel
theorem dX9_child_15 : decode cX9_child 15 = .ok (.iload_n 1, 1) := by decide +kernel
theorem dX9_child_16 : decode cX9_child 16 = .ok (.iaload, 1) := by decide +kernel
theorem dX9_child_17 : decode cX9_child 17 = .ok (.bipush 9, 2) := by decide +kernel
theorem dX9_child_19 : decode cX9_child 19 = .ok (.if_icmp .lt 5, 3) := by decide +kernel
theorem dX9_child_22 : decode cX9_child 22 = .ok (.iconst (-1), 1) := by decide +kernel
theorem dX9_child_23 : decode cX9_child 23 = .ok (.ireturn, 1) := by decide +kernel
theorem dX9_child_24 : decode cX9_child 24 = .ok (.aload_n 0, 1) := by decide +kernel
theorem dX9_child_25 : decode cX9_child 25 = .ok (.getfield 67, 3) := by decide +kernel
theorem dX9_child_28 : decode cX9_child 28 = .ok (.aload_n 0, 1) := by decide +kernel
theorem dX9_child_29 : decode cX9_child 29 = .ok (.getfield 47, 3) := by decide +kernel
theorem dX9_child_32 : decode cX9_child 32 = .ok (.iload_n 1, 1) := by decide +kernel
theorem dX9_child_33 : decode cX9_child 33 = .ok (.invokevirtual 252, 3) := by decide +kernel
theorem dX9_child_36 : decode cX9_child 36 = .ok (.aload_n 0, 1) := by decide +kernel
theorem dX9_child_37 : decode cX9_child 37 = .ok (.getfield 47, 3) := by decide +kernel
theorem dX9_child_40 : decode cX9_child 40 = .ok (.getfield 165, 3) := by decide +kernel
theorem dX9_child_43 : decode cX9_child 43 = .ok (.iload_n 1, 1) := by decide +kernel
theorem dX9_child_44 : decode cX9_child 44 = .ok (.dup2, 1) := by decide +kernel
theorem dX9_child_45 : decode cX9_child 45 = .ok (.iaload, 1) := by decide +kernel
theorem dX9_child_46 : decode cX9_child 46 = .ok (.iconst 1, 1) := by decide +kernel
theorem dX9_child_47 : decode cX9_child 47 = .ok (.iadd, 1) := by decide +kernel
theorem dX9_child_48 : decode cX9_child 48 = .ok (.iastore, 1) := by decide +kernel
theorem dX9_child_49 : decode cX9_child 49 = .ok (.aload_n 0, 1) := by decide +kernel
theorem dX9_child_50 : decode cX9_child 50 = .ok (.getfield 47, 3) := by decide +kernel
theorem dX9_child_53 : decode cX9_child 53 = .ok (.getfield 165, 3) := by decide +kernel
theorem dX9_child_56 : decode cX9_child 56 = .ok (.iload_n 1, 1) := by decide +kernel
theorem dX9_child_57 : decode cX9_child 57 = .ok (.iaload, 1) := by decide +kernel
theorem dX9_child_58 : decode cX9_child 58 = .ok (.ireturn, 1) := by decide +kernel
theorem dX9_go_0 : decode cX9_go 0 = .ok (.iload_n 1, 1) := by decide +kernel
theorem dX9_go_1 : decode cX9_go 1 = .ok (.iconst 0, 1) := by decide +kernel
theorem dX9_go_2 : decode cX9_go 2 = .ok (.bipush 99, 2) := by decide +kernel
theorem dX9_go_4 : decode cX9_go 4 = .ok (.invokestatic 188, 3) := by decide +kernel
theorem dX9_go_7 : decode cX9_go 7 = .ok (.ifCond .eq 18, 3) := by decide +kernel
theorem dX9_go_10 : decode cX9_go 10 = .ok (.aload_n 0, 1) := by decide +kernel
theorem dX9_go_11 : decode cX9_go 11 = .ok (.getfield 47, 3) := by decide +kernel
theorem dX9_go_14 : decode cX9_go 14 = .ok (.getfield 210, 3) := by decide +kernel
theorem dX9_go_17 : decode cX9_go 17 = .ok (.iload_n 1, 1) := by decide +kernel
theorem dX9_go_18 : decode cX9_go 18 = .ok (.iadd, 1) := by decide +kernel
theorem dX9_go_19 : decode cX9_go 19 = .ok (.sipush 9000, 3) := by decide +kernel
theorem dX9_go_22 : decode cX9_go 22 = .ok (.if_icmp .le 5, 3) := by decide +kernel
theorem dX9_go_25 : decode cX9_go 25 = .ok (.iconst (-1), 1) := by decide +kernel
theorem dX9_go_26 : decode cX9_go 26 = .ok (.ireturn, 1) := by decide +kernel
theorem dX9_go_27 : decode cX9_go 27 = .ok (.aload_n 0, 1) := by decide +kernel
theorem dX9_go_28 : decode cX9_go 28 = .ok (.getfield 83, 3) := by decide +kernel
theorem dX9_go_31 : decode cX9_go 31 = .ok (.aload_n 0, 1) := by decide +kernel
theorem dX9_go_32 : decode cX9_go 32 = .ok (.getfield 22, 3) := by decide +kernel
theorem dX9_go_35 : decode cX9_go 35 = .ok (.invokevirtual 263, 3) := by decide +kernel
theorem dX9_go_38 : decode cX9_go 38 = .ok (.iconst 0, 1) := by decide +kernel
theorem dX9_go_39 : decode cX9_go 39 = .ok (.istore_n 2, 1) := by decide +kernel
theorem dX9_go_40 : decode cX9_go 40 = .ok (.iload_n 2, 1) := by decide +kernel
theorem dX9_go_41 : decode cX9_go 41 = .ok (.iload_n 1, 1) := by decide +kernel
theorem dX9_go_42 : decode cX9_go 42 = .ok (.if_icmp .ge 32, 3) := by decide +kernel
theorem dX9_go_45 : decode cX9_go 45 = .ok (.aload_n 0, 1) := by decide +kernel
theorem dX9_go_46 : decode cX9_go 46 = .ok (.getfield 83, 3) := by decide +kernel
theorem dX9_go_49 : decode cX9_go 49 = .ok (.aload_n 0, 1) := by decide +kernel
theorem dX9_go_50 : decode cX9_go 50 = .ok (.getfield 47, 3) := by decide +kernel
theorem dX9_go_53 : decode cX9_go 53 = .ok (.invokevirtual 266, 3) := by decide +kernel
theorem dX9_go_56 : decode cX9_go 56 = .ok (.pop, 1) := by decide +kernel
theorem dX9_go_57 : decode cX9_go 57 = .ok (.aload_n 0, 1) := by decide +kernel
theorem dX9_go_58 : decode cX9_go 58 = .ok (.getfield 47, 3) := by decide +kernel
theorem dX9_go_61 : decode cX9_go 61 = .ok (.aload_n 0, 1) := by decide +kernel
theorem dX9_go_62 : decode cX9_go 62 = .ok (.getfield 22, 3) := by decide +kernel
theorem dX9_go_65 : decode cX9_go 65 = .ok (.invokevirtual 269, 3) := by decide +kernel
theorem dX9_go_68 : decode cX9_go 68 = .ok (.iinc 2 1, 3) := by decide +kernel
theorem dX9_go_71 : decode cX9_go 71 = .ok (.goto (-31), 3) := by decide +kernel
theorem dX9_go_74 : decode cX9_go 74 = .ok (.iload_n 1, 1) := by decide +kernel
theorem dX9_go_75 : decode cX9_go 75 = .ok (.ifCond .le 10, 3) := by decide +kernel
theorem dX9_go_78 : decode cX9_go 78 = .ok (.aload_n 0, 1) := by decide +kernel
theorem dX9_go_79 : decode cX9_go 79 = .ok (.getfield 67, 3) := by decide +kernel
theorem dX9_go_82 : decode cX9_go 82 = .ok (.invokevirtual 111, 3) := by decide +kernel
theorem dX9_go_85 : decode cX9_go 85 = .ok (.aload_n 0, 1) := by decide +kernel
theorem dX9_go_86 : decode cX9_go 86 = .ok (.getfield 47, 3) := by decide +kernel
theorem dX9_go_89 : decode cX9_go 89 = .ok (.getfield 210, 3) := by decide +kernel
theorem dX9_go_92 : decode cX9_go 92 = .ok (.ireturn, 1) := by decide +kernel
theorem dX9_undo_0 : decode cX9_undo 0 = .ok (.aload_n 0, 1) := by decide +kernel
theorem dX9_undo_1 : decode cX9_undo 1 = .ok (.getfield 67, 3) := by decide +kernel
theorem dX9_undo_4 : decode cX9_undo 4 = .ok (.aload_n 0, 1) := by decide +kernel
