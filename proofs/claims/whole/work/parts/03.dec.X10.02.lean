theorem dX10_houseLine_94 : decode cX10_houseLine 94 = .ok (.bipush 99, 2) := by decide +kernel
theorem dX10_houseLine_96 : decode cX10_houseLine 96 = .ok (.invokevirtual 209, 3) := by decide +kernel
theorem dX10_houseLine_99 : decode cX10_houseLine 99 = .ok (.ifCond .ne 5, 3) := by decide +kernel
theorem dX10_houseLine_102 : decode cX10_houseLine 102 = .ok (.iconst 0, 1) := by decide +kernel
theorem dX10_houseLine_103 : decode cX10_houseLine 103 = .ok (.ireturn, 1) := by decide +kernel
theorem dX10_houseLine_104 : decode cX10_houseLine 104 = .ok (.aload_n 0, 1) := by decide +kernel
theorem dX10_houseLine_105 : decode cX10_houseLine 105 = .ok (.getfield 36, 3) := by decide +kernel
theorem dX10_houseLine_108 : decode cX10_houseLine 108 = .ok (.iload_n 1, 1) := by decide +kernel
theorem dX10_houseLine_109 : decode cX10_houseLine 109 = .ok (.aload_n 0, 1) := by decide +kernel
theorem dX10_houseLine_110 : decode cX10_houseLine 110 = .ok (.getfield 200, 3) := by decide +kernel
theorem dX10_houseLine_113 : decode cX10_houseLine 113 = .ok (.iastore, 1) := by decide +kernel
theorem dX10_houseLine_114 : decode cX10_houseLine 114 = .ok (.aload_n 0, 1) := by decide +kernel
theorem dX10_houseLine_115 : decode cX10_houseLine 115 = .ok (.iconst 0, 1) := by decide +kernel
theorem dX10_houseLine_116 : decode cX10_houseLine 116 = .ok (.bipush 99, 2) := by decide +kernel
theorem dX10_houseLine_118 : decode cX10_houseLine 118 = .ok (.invokevirtual 209, 3) := by decide +kernel
theorem dX10_houseLine_121 : decode cX10_houseLine 121 = .ok (.ifCond .ne 5, 3) := by decide +kernel
theorem dX10_houseLine_124 : decode cX10_houseLine 124 = .ok (.iconst 0, 1) := by decide +kernel
theorem dX10_houseLine_125 : decode cX10_houseLine 125 = .ok (.ireturn, 1) := by decide +kernel
theorem dX10_houseLine_126 : decode cX10_houseLine 126 = .ok (.aload_n 0, 1) := by decide +kernel
theorem dX10_houseLine_127 : decode cX10_houseLine 127 = .ok (.getfield 39, 3) := by decide +kernel
theorem dX10_houseLine_130 : decode cX10_houseLine 130 = .ok (.iload_n 1, 1) := by decide +kernel
theorem dX10_houseLine_131 : decode cX10_houseLine 131 = .ok (.aload_n 0, 1) := by decide +kernel
theorem dX10_houseLine_132 : decode cX10_houseLine 132 = .ok (.getfield 200, 3) := by decide +kernel
theorem dX10_houseLine_135 : decode cX10_houseLine 135 = .ok (.iastore, 1) := by decide +kernel
theorem dX10_houseLine_136 : decode cX10_houseLine 136 = .ok (.aload_n 0, 1) := by decide +kernel
theorem dX10_houseLine_137 : decode cX10_houseLine 137 = .ok (.iconst 0, 1) := by decide +kernel
theorem dX10_houseLine_138 : decode cX10_houseLine 138 = .ok (.bipush 9, 2) := by decide +kernel
theorem dX10_houseLine_140 : decode cX10_houseLine 140 = .ok (.invokevirtual 209, 3) := by decide +kernel
theorem dX10_houseLine_143 : decode cX10_houseLine 143 = .ok (.ifCond .ne 5, 3) := by decide +kernel
theorem dX10_houseLine_146 : decode cX10_houseLine 146 = .ok (.iconst 0, 1) := by decide +kernel
theorem dX10_houseLine_147 : decode cX10_houseLine 147 = .ok (.ireturn, 1) := by decide +kernel
theorem dX10_houseLine_148 : decode cX10_houseLine 148 = .ok (.aload_n 0, 1) := by decide +kernel
theorem dX10_houseLine_149 : decode cX10_houseLine 149 = .ok (.getfield 42, 3) := by decide +kernel
theorem dX10_houseLine_152 : decode cX10_houseLine 152 = .ok (.iload_n 1, 1) := by decide +kernel
theorem dX10_houseLine_153 : decode cX10_houseLine 153 = .ok (.aload_n 0, 1) := by decide +kernel
theorem dX10_houseLine_154 : decode cX10_houseLine 154 = .ok (.getfield 200, 3) := by decide +kernel
theorem dX10_houseLine_157 : decode cX10_houseLine 157 = .ok (.iastore, 1) := by decide +kernel
theorem dX10_houseLine_158 : decode cX10_houseLine 158 = .ok (.aload_n 0, 1) := by decide +kernel
theorem dX10_houseLine_159 : decode cX10_houseLine 159 = .ok (.dup, 1) := by decide +kernel
theorem dX10_houseLine_160 : decode cX10_houseLine 160 = .ok (.getfield 213, 3) := by decide +kernel
theorem dX10_houseLine_163 : decode cX10_houseLine 163 = .ok (.iconst 1, 1) := by decide +kernel
theorem dX10_houseLine_164 : decode cX10_houseLine 164 = .ok (.iadd, 1) := by decide +kernel
theorem dX10_houseLine_165 : decode cX10_houseLine 165 = .ok (.putfield 213, 3) := by decide +kernel
theorem dX10_houseLine_168 : decode cX10_houseLine 168 = .ok (.iconst 1, 1) := by decide +kernel
theorem dX10_houseLine_169 : decode cX10_houseLine 169 = .ok (.ireturn, 1) := by decide +kernel
theorem dX10_partLine_0 : decode cX10_partLine 0 = .ok (.aload_n 0, 1) := by decide +kernel
theorem dX10_partLine_1 : decode cX10_partLine 1 = .ok (.getfield 216, 3) := by decide +kernel
theorem dX10_partLine_4 : decode cX10_partLine 4 = .ok (.bipush 6, 2) := by decide +kernel
theorem dX10_partLine_6 : decode cX10_partLine 6 = .ok (.if_icmp .ne 9, 3) := by decide +kernel
theorem dX10_partLine_9 : decode cX10_partLine 9 = .ok (.aload_n 0, 1) := by decide +kernel
theorem dX10_partLine_10 : decode cX10_partLine 10 = .ok (.iconst 2, 1) := by decide +kernel
theorem dX10_partLine_11 : decode cX10_partLine 11 = .ok (.invokevirtual 193, 3) := by decide +kernel
theorem dX10_partLine_14 : decode cX10_partLine 14 = .ok (.ireturn, 1) := by decide +kernel
theorem dX10_partLine_15 : decode cX10_partLine 15 = .ok (.aload_n 0, 1) := by decide +kernel
theorem dX10_partLine_16 : decode cX10_partLine 16 = .ok (.invokevirtual 203, 3) := by decide +kernel
theorem dX10_partLine_19 : decode cX10_partLine 19 = .ok (.aload_n 0, 1) := by decide +kernel
theorem dX10_partLine_20 : decode cX10_partLine 20 = .ok (.aload_n 0, 1) := by decide +kernel
theorem dX10_partLine_21 : decode cX10_partLine 21 = .ok (.getfield 45, 3) := by decide +kernel
theorem dX10_partLine_24 : decode cX10_partLine 24 = .ok (.bipush 6, 2) := by decide +kernel
theorem dX10_partLine_26 : decode cX10_partLine 26 = .ok (.aload_n 0, 1) := by decide +kernel
theorem dX10_partLine_27 : decode cX10_partLine 27 = .ok (.getfield 216, 3) := by decide +kernel
theorem dX10_partLine_30 : decode cX10_partLine 30 = .ok (.invokevirtual 245, 3) := by decide +kernel
theorem dX10_partLine_33 : decode cX10_partLine 33 = .ok (.ifCond .ne 5, 3) := by decide +kernel
theorem dX10_partLine_36 : decode cX10_partLine 36 = .ok (.iconst 0, 1) := by decide +kernel
theorem dX10_partLine_37 : decode cX10_partLine 37 = .ok (.ireturn, 1) := by decide +kernel
theorem dX10_partLine_38 : decode cX10_partLine 38 = .ok (.aload_n 0, 1) := by decide +kernel
theorem dX10_partLine_39 : decode cX10_partLine 39 = .ok (.iconst 1, 1) := by decide +kernel
theorem dX10_partLine_40 : decode cX10_partLine 40 = .ok (.bipush 99, 2) := by decide +kernel
theorem dX10_partLine_42 : decode cX10_partLine 42 = .ok (.invokevirtual 209, 3) := by decide +kernel
theorem dX10_partLine_45 : decode cX10_partLine 45 = .ok (.ifCond .ne 5, 3) := by decide +kernel
theorem dX10_partLine_48 : decode cX10_partLine 48 = .ok (.iconst 0, 1) := by decide +kernel
theorem dX10_partLine_49 : decode cX10_partLine 49 = .ok (.ireturn, 1) := by decide +kernel
theorem dX10_partLine_50 : decode cX10_partLine 50 = .ok (.aload_n 0, 1) := by decide +kernel
theorem dX10_partLine_51 : decode cX10_partLine 51 = .ok (.getfield 48, 3) := by decide +kernel
theorem dX10_partLine_54 : decode cX10_partLine 54 = .ok (.bipush 6, 2) := by decide +kernel
theorem dX10_partLine_56 : decode cX10_partLine 56 = .ok (.aload_n 0, 1) := by decide +kernel
theorem dX10_partLine_57 : decode cX10_partLine 57 = .ok (.getfield 216, 3) := by decide +kernel
theorem dX10_partLine_60 : decode cX10_partLine 60 = .ok (.iadd, 1) := by decide +kernel
theorem dX10_partLine_61 : decode cX10_partLine 61 = .ok (.aload_n 0, 1) := by decide +kernel
theorem dX10_partLine_62 : decode cX10_partLine 62 = .ok (.getfield 200, 3) := by decide +kernel
theorem dX10_partLine_65 : decode cX10_partLine 65 = .ok (.iastore, 1) := by decide +kernel
theorem dX10_partLine_66 : decode cX10_partLine 66 = .ok (.aload_n 0, 1) := by decide +kernel
theorem dX10_partLine_67 : decode cX10_partLine 67 = .ok (.iconst 0, 1) := by decide +kernel
theorem dX10_partLine_68 : decode cX10_partLine 68 = .ok (.bipush 99, 2) := by decide +kernel
theorem dX10_partLine_70 : decode cX10_partLine 70 = .ok (.invokevirtual 209, 3) := by decide +kernel
theorem dX10_partLine_73 : decode cX10_partLine 73 = .ok (.ifCond .ne 5, 3) := by decide +kernel
theorem dX10_partLine_76 : decode cX10_partLine 76 = .ok (.iconst 0, 1) := by decide +kernel
theorem dX10_partLine_77 : decode cX10_partLine 77 = .ok (.ireturn, 1) := by decide +kernel
theorem dX10_partLine_78 : decode cX10_partLine 78 = .ok (.aload_n 0, 1) := by decide +kernel
theorem dX10_partLine_79 : decode cX10_partLine 79 = .ok (.getfield 51, 3) := by decide +kernel
theorem dX10_partLine_82 : decode cX10_partLine 82 = .ok (.bipush 6, 2) := by decide +kernel
theorem dX10_partLine_84 : decode cX10_partLine 84 = .ok (.aload_n 0, 1) := by decide +kernel
theorem dX10_partLine_85 : decode cX10_partLine 85 = .ok (.getfield 216, 3) := by decide +kernel
theorem dX10_partLine_88 : decode cX10_partLine 88 = .ok (.iadd, 1) := by decide +kernel
theorem dX10_partLine_89 : decode cX10_partLine 89 = .ok (.aload_n 0, 1) := by decide +kernel
theorem dX10_partLine_90 : decode cX10_partLine 90 = .ok (.getfield 200, 3) := by decide +kernel
theorem dX10_partLine_93 : decode cX10_partLine 93 = .ok (.iastore, 1) := by decide +kernel
theorem dX10_partLine_94 : decode cX10_partLine 94 = .ok (.aload_n 0, 1) := by decide +kernel
theorem dX10_partLine_95 : decode cX10_partLine 95 = .ok (.dup, 1) := by decide +kernel
theorem dX10_partLine_96 : decode cX10_partLine 96 = .ok (.getfield 216, 3) := by decide +kernel
theorem dX10_partLine_99 : decode cX10_partLine 99 = .ok (.iconst 1, 1) := by decide +kernel
theorem dX10_partLine_100 : decode cX10_partLine 100 = .ok (.iadd, 1) := by decide +kernel
theorem dX10_partLine_101 : decode cX10_partLine 101 = .ok (.putfield 216, 3) := by decide +kernel
theorem dX10_partLine_104 : decode cX10_partLine 104 = .ok (.iconst 1, 1) := by decide +kernel
theorem dX10_partLine_105 : decode cX10_partLine 105 = .ok (.ireturn, 1) := by decide +kernel
theorem dX10_onceLine_0 : decode cX10_onceLine 0 = .ok (.aload_n 0, 1) := by decide +kernel
theorem dX10_onceLine_1 : decode cX10_onceLine 1 = .ok (.getfield 20, 3) := by decide +kernel
theorem dX10_onceLine_4 : decode cX10_onceLine 4 = .ok (.iload_n 1, 1) := by decide +kernel
theorem dX10_onceLine_5 : decode cX10_onceLine 5 = .ok (.baload, 1) := by decide +kernel
theorem dX10_onceLine_6 : decode cX10_onceLine 6 = .ok (.ifCond .eq 9, 3) := by decide +kernel
theorem dX10_onceLine_9 : decode cX10_onceLine 9 = .ok (.aload_n 0, 1) := by decide +kernel
theorem dX10_onceLine_10 : decode cX10_onceLine 10 = .ok (.iconst 3, 1) := by decide +kernel
theorem dX10_onceLine_11 : decode cX10_onceLine 11 = .ok (.invokevirtual 193, 3) := by decide +kernel
theorem dX10_onceLine_14 : decode cX10_onceLine 14 = .ok (.ireturn, 1) := by decide +kernel
theorem dX10_onceLine_15 : decode cX10_onceLine 15 = .ok (.aload_n 0, 1) := by decide +kernel
theorem dX10_onceLine_16 : decode cX10_onceLine 16 = .ok (.getfield 20, 3) := by decide +kernel
theorem dX10_onceLine_19 : decode cX10_onceLine 19 = .ok (.iload_n 1, 1) := by decide +kernel
theorem dX10_onceLine_20 : decode cX10_onceLine 20 = .ok (.iconst 1, 1) := by decide +kernel
theorem dX10_onceLine_21 : decode cX10_onceLine 21 = .ok (.bastore, 1) := by decide +kernel
theorem dX10_onceLine_22 : decode cX10_onceLine 22 = .ok (.aload_n 0, 1) := by decide +kernel
theorem dX10_onceLine_23 : decode cX10_onceLine 23 = .ok (.invokevirtual 203, 3) := by decide +kernel
theorem dX10_onceLine_26 : decode cX10_onceLine 26 = .ok (.aload_n 0, 1) := by decide +kernel
theorem dX10_onceLine_27 : decode cX10_onceLine 27 = .ok (.iload_n 2, 1) := by decide +kernel
theorem dX10_onceLine_28 : decode cX10_onceLine 28 = .ok (.iload_n 3, 1) := by decide +kernel
theorem dX10_onceLine_29 : decode cX10_onceLine 29 = .ok (.invokevirtual 209, 3) := by decide +kernel
theorem dX10_onceLine_32 : decode cX10_onceLine 32 = .ok (.ifCond .ne 5, 3) := by decide +kernel
theorem dX10_onceLine_35 : decode cX10_onceLine 35 = .ok (.iconst 0, 1) := by decide +kernel
theorem dX10_onceLine_36 : decode cX10_onceLine 36 = .ok (.ireturn, 1) := by decide +kernel
theorem dX10_onceLine_37 : decode cX10_onceLine 37 = .ok (.aload_n 0, 1) := by decide +kernel
theorem dX10_onceLine_38 : decode cX10_onceLine 38 = .ok (.getfield 24, 3) := by decide +kernel
theorem dX10_onceLine_41 : decode cX10_onceLine 41 = .ok (.iconst 3, 1) := by decide +kernel
theorem dX10_onceLine_42 : decode cX10_onceLine 42 = .ok (.iload_n 1, 1) := by decide +kernel
theorem dX10_onceLine_43 : decode cX10_onceLine 43 = .ok (.iadd, 1) := by decide +kernel
theorem dX10_onceLine_44 : decode cX10_onceLine 44 = .ok (.aload_n 0, 1) := by decide +kernel
theorem dX10_onceLine_45 : decode cX10_onceLine 45 = .ok (.getfield 200, 3) := by decide +kernel
theorem dX10_onceLine_48 : decode cX10_onceLine 48 = .ok (.iastore, 1) := by decide +kernel
theorem dX10_onceLine_49 : decode cX10_onceLine 49 = .ok (.iconst 1, 1) := by decide +kernel
theorem dX10_onceLine_50 : decode cX10_onceLine 50 = .ok (.ireturn, 1) := by decide +kernel
theorem dX10_lineRead_0 : decode cX10_lineRead 0 = .ok (.aload_n 0, 1) := by decide +kernel
theorem dX10_lineRead_1 : decode cX10_lineRead 1 = .ok (.getfield 169, 3) := by decide +kernel
theorem dX10_lineRead_4 : decode cX10_lineRead 4 = .ok (.iconst 1, 1) := by decide +kernel
theorem dX10_lineRead_5 : decode cX10_lineRead 5 = .ok (.if_icmp .ne 11, 3) := by decide +kernel
theorem dX10_lineRead_8 : decode cX10_lineRead 8 = .ok (.aload_n 0, 1) := by decide +kernel
theorem dX10_lineRead_9 : decode cX10_lineRead 9 = .ok (.getfield 180, 3) := by decide +kernel
theorem dX10_lineRead_12 : decode cX10_lineRead 12 = .ok (.iconst 5, 1) := by decide +kernel
theorem dX10_lineRead_13 : decode cX10_lineRead 13 = .ok (.if_icmp .le 9, 3) := by decide +kernel
theorem dX10_lineRead_16 : decode cX10_lineRead 16 = .ok (.aload_n 0, 1) := by decide +kernel
theorem dX10_lineRead_17 : decode cX10_lineRead 17 = .ok (.iconst 1, 1) := by decide +kernel
theorem dX10_lineRead_18 : decode cX10_lineRead 18 = .ok (.invokevirtual 193, 3) := by decide +kernel
theorem dX10_lineRead_21 : decode cX10_lineRead 21 = .ok (.ireturn, 1) := by decide +kernel
theorem dX10_lineRead_22 : decode cX10_lineRead 22 = .ok (.aload_n 0, 1) := by decide +kernel
theorem dX10_lineRead_23 : decode cX10_lineRead 23 = .ok (.getfield 180, 3) := by decide +kernel
theorem dX10_lineRead_26 : decode cX10_lineRead 26 = .ok (.tableswitch 87 0 4 #[34, 42, 50, 62, 75], 34) := by decide +kernel
theorem dX10_lineRead_60 : decode cX10_lineRead 60 = .ok (.aload_n 0, 1) := by decide +kernel
theorem dX10_lineRead_61 : decode cX10_lineRead 61 = .ok (.invokevirtual 249, 3) := by decide +kernel
theorem dX10_lineRead_64 : decode cX10_lineRead 64 = .ok (.istore_n 1, 1) := by decide +kernel
theorem dX10_lineRead_65 : decode cX10_lineRead 65 = .ok (.goto 145, 3) := by decide +kernel
theorem dX10_lineRead_68 : decode cX10_lineRead 68 = .ok (.aload_n 0, 1) := by decide +kernel
theorem dX10_lineRead_69 : decode cX10_lineRead 69 = .ok (.invokevirtual 253, 3) := by decide +kernel
theorem dX10_lineRead_72 : decode cX10_lineRead 72 = .ok (.istore_n 1, 1) := by decide +kernel
theorem dX10_lineRead_73 : decode cX10_lineRead 73 = .ok (.goto 137, 3) := by decide +kernel
theorem dX10_lineRead_76 : decode cX10_lineRead 76 = .ok (.aload_n 0, 1) := by decide +kernel
theorem dX10_lineRead_77 : decode cX10_lineRead 77 = .ok (.iconst 0, 1) := by decide +kernel
theorem dX10_lineRead_78 : decode cX10_lineRead 78 = .ok (.iconst 1, 1) := by decide +kernel
theorem dX10_lineRead_79 : decode cX10_lineRead 79 = .ok (.bipush 20, 2) := by decide +kernel
theorem dX10_lineRead_81 : decode cX10_lineRead 81 = .ok (.invokevirtual 256, 3) := by decide +kernel
theorem dX10_lineRead_84 : decode cX10_lineRead 84 = .ok (.istore_n 1, 1) := by decide +kernel
theorem dX10_lineRead_85 : decode cX10_lineRead 85 = .ok (.goto 125, 3) := by decide +kernel
theorem dX10_lineRead_88 : decode cX10_lineRead 88 = .ok (.aload_n 0, 1) := by decide +kernel
theorem dX10_lineRead_89 : decode cX10_lineRead 89 = .ok (.iconst 1, 1) := by decide +kernel
theorem dX10_lineRead_90 : decode cX10_lineRead 90 = .ok (.iconst 0, 1) := by decide +kernel
theorem dX10_lineRead_91 : decode cX10_lineRead 91 = .ok (.sipush 999, 3) := by decide +kernel
theorem dX10_lineRead_94 : decode cX10_lineRead 94 = .ok (.invokevirtual 256, 3) := by decide +kernel
theorem dX10_lineRead_97 : decode cX10_lineRead 97 = .ok (.istore_n 1, 1) := by decide +kernel
theorem dX10_lineRead_98 : decode cX10_lineRead 98 = .ok (.goto 112, 3) := by decide +kernel
theorem dX10_lineRead_101 : decode cX10_lineRead 101 = .ok (.aload_n 0, 1) := by decide +kernel
theorem dX10_lineRead_102 : decode cX10_lineRead 102 = .ok (.iconst 2, 1) := by decide +kernel
theorem dX10_lineRead_103 : decode cX10_lineRead 103 = .ok (.iconst 0, 1) := by decide +kernel
theorem dX10_lineRead_104 : decode cX10_lineRead 104 = .ok (.ldc 189, 2) := by decide +kernel
theorem dX10_lineRead_106 : decode cX10_lineRead 106 = .ok (.invokevirtual 256, 3) := by decide +kernel
theorem dX10_lineRead_109 : decode cX10_lineRead 109 = .ok (.istore_n 1, 1) := by decide +kernel
theorem dX10_lineRead_110 : decode cX10_lineRead 110 = .ok (.goto 100, 3) := by decide +kernel
theorem dX10_lineRead_113 : decode cX10_lineRead 113 = .ok (.aload_n 0, 1) := by decide +kernel
theorem dX10_lineRead_114 : decode cX10_lineRead 114 = .ok (.invokevirtual 203, 3) := by decide +kernel
theorem dX10_lineRead_117 : decode cX10_lineRead 117 = .ok (.aload_n 0, 1) := by decide +kernel
theorem dX10_lineRead_118 : decode cX10_lineRead 118 = .ok (.getfield 169, 3) := by decide +kernel
theorem dX10_lineRead_121 : decode cX10_lineRead 121 = .ok (.iconst 1, 1) := by decide +kernel
theorem dX10_lineRead_122 : decode cX10_lineRead 122 = .ok (.if_icmp .ne 21, 3) := by decide +kernel
theorem dX10_lineRead_125 : decode cX10_lineRead 125 = .ok (.aload_n 0, 1) := by decide +kernel
theorem dX10_lineRead_126 : decode cX10_lineRead 126 = .ok (.getfield 180, 3) := by decide +kernel
theorem dX10_lineRead_129 : decode cX10_lineRead 129 = .ok (.bipush 6, 2) := by decide +kernel
theorem dX10_lineRead_131 : decode cX10_lineRead 131 = .ok (.if_icmp .lt 12, 3) := by decide +kernel
theorem dX10_lineRead_134 : decode cX10_lineRead 134 = .ok (.aload_n 0, 1) := by decide +kernel
theorem dX10_lineRead_135 : decode cX10_lineRead 135 = .ok (.getfield 180, 3) := by decide +kernel
theorem dX10_lineRead_138 : decode cX10_lineRead 138 = .ok (.bipush 8, 2) := by decide +kernel
theorem dX10_lineRead_140 : decode cX10_lineRead 140 = .ok (.if_icmp .le 9, 3) := by decide +kernel
theorem dX10_lineRead_143 : decode cX10_lineRead 143 = .ok (.aload_n 0, 1) := by decide +kernel
theorem dX10_lineRead_144 : decode cX10_lineRead 144 = .ok (.iconst 1, 1) := by decide +kernel
theorem dX10_lineRead_145 : decode cX10_lineRead 145 = .ok (.invokevirtual 193, 3) := by decide +kernel
theorem dX10_lineRead_148 : decode cX10_lineRead 148 = .ok (.ireturn, 1) := by decide +kernel
theorem dX10_lineRead_149 : decode cX10_lineRead 149 = .ok (.iconst 3, 1) := by decide +kernel
theorem dX10_lineRead_150 : decode cX10_lineRead 150 = .ok (.aload_n 0, 1) := by decide +kernel
theorem dX10_lineRead_151 : decode cX10_lineRead 151 = .ok (.getfield 180, 3) := by decide +kernel
theorem dX10_lineRead_154 : decode cX10_lineRead 154 = .ok (.iadd, 1) := by decide +kernel
theorem dX10_lineRead_155 : decode cX10_lineRead 155 = .ok (.bipush 6, 2) := by decide +kernel
theorem dX10_lineRead_157 : decode cX10_lineRead 157 = .ok (.isub, 1) := by decide +kernel
theorem dX10_lineRead_158 : decode cX10_lineRead 158 = .ok (.istore_n 2, 1) := by decide +kernel
theorem dX10_lineRead_159 : decode cX10_lineRead 159 = .ok (.aload_n 0, 1) := by decide +kernel
theorem dX10_lineRead_160 : decode cX10_lineRead 160 = .ok (.getfield 54, 3) := by decide +kernel
theorem dX10_lineRead_163 : decode cX10_lineRead 163 = .ok (.iload_n 2, 1) := by decide +kernel
theorem dX10_lineRead_164 : decode cX10_lineRead 164 = .ok (.baload, 1) := by decide +kernel
theorem dX10_lineRead_165 : decode cX10_lineRead 165 = .ok (.ifCond .eq 9, 3) := by decide +kernel
theorem dX10_lineRead_168 : decode cX10_lineRead 168 = .ok (.aload_n 0, 1) := by decide +kernel
theorem dX10_lineRead_169 : decode cX10_lineRead 169 = .ok (.iconst 3, 1) := by decide +kernel
theorem dX10_lineRead_170 : decode cX10_lineRead 170 = .ok (.invokevirtual 193, 3) := by decide +kernel
theorem dX10_lineRead_173 : decode cX10_lineRead 173 = .ok (.ireturn, 1) := by decide +kernel
theorem dX10_lineRead_174 : decode cX10_lineRead 174 = .ok (.aload_n 0, 1) := by decide +kernel
theorem dX10_lineRead_175 : decode cX10_lineRead 175 = .ok (.getfield 54, 3) := by decide +kernel
theorem dX10_lineRead_178 : decode cX10_lineRead 178 = .ok (.iload_n 2, 1) := by decide +kernel
theorem dX10_lineRead_179 : decode cX10_lineRead 179 = .ok (.iconst 1, 1) := by decide +kernel
theorem dX10_lineRead_180 : decode cX10_lineRead 180 = .ok (.bastore, 1) := by decide +kernel
theorem dX10_lineRead_181 : decode cX10_lineRead 181 = .ok (.aload_n 0, 1) := by decide +kernel
theorem dX10_lineRead_182 : decode cX10_lineRead 182 = .ok (.invokevirtual 203, 3) := by decide +kernel
theorem dX10_lineRead_185 : decode cX10_lineRead 185 = .ok (.aload_n 0, 1) := by decide +kernel
theorem dX10_lineRead_186 : decode cX10_lineRead 186 = .ok (.getfield 57, 3) := by decide +kernel
theorem dX10_lineRead_189 : decode cX10_lineRead 189 = .ok (.iload_n 2, 1) := by decide +kernel
theorem dX10_lineRead_190 : decode cX10_lineRead 190 = .ok (.aload_n 0, 1) := by decide +kernel
theorem dX10_lineRead_191 : decode cX10_lineRead 191 = .ok (.getfield 219, 3) := by decide +kernel
theorem dX10_lineRead_194 : decode cX10_lineRead 194 = .ok (.iastore, 1) := by decide +kernel
theorem dX10_lineRead_195 : decode cX10_lineRead 195 = .ok (.aload_n 0, 1) := by decide +kernel
theorem dX10_lineRead_196 : decode cX10_lineRead 196 = .ok (.invokevirtual 259, 3) := by decide +kernel
theorem dX10_lineRead_199 : decode cX10_lineRead 199 = .ok (.istore_n 1, 1) := by decide +kernel
theorem dX10_lineRead_200 : decode cX10_lineRead 200 = .ok (.aload_n 0, 1) := by decide +kernel
theorem dX10_lineRead_201 : decode cX10_lineRead 201 = .ok (.getfield 60, 3) := by decide +kernel
theorem dX10_lineRead_204 : decode cX10_lineRead 204 = .ok (.iload_n 2, 1) := by decide +kernel
theorem dX10_lineRead_205 : decode cX10_lineRead 205 = .ok (.aload_n 0, 1) := by decide +kernel
theorem dX10_lineRead_206 : decode cX10_lineRead 206 = .ok (.getfield 219, 3) := by decide +kernel
theorem dX10_lineRead_209 : decode cX10_lineRead 209 = .ok (.iastore, 1) := by decide +kernel
theorem dX10_lineRead_210 : decode cX10_lineRead 210 = .ok (.iload_n 1, 1) := by decide +kernel
theorem dX10_lineRead_211 : decode cX10_lineRead 211 = .ok (.ifCond .ne 5, 3) := by decide +kernel
theorem dX10_lineRead_214 : decode cX10_lineRead 214 = .ok (.iconst 0, 1) := by decide +kernel
theorem dX10_lineRead_215 : decode cX10_lineRead 215 = .ok (.ireturn, 1) := by decide +kernel
theorem dX10_lineRead_216 : decode cX10_lineRead 216 = .ok (.aload_n 0, 1) := by decide +kernel
theorem dX10_lineRead_217 : decode cX10_lineRead 217 = .ok (.bipush 59, 2) := by decide +kernel
theorem dX10_lineRead_219 : decode cX10_lineRead 219 = .ok (.invokevirtual 206, 3) := by decide +kernel
theorem dX10_lineRead_222 : decode cX10_lineRead 222 = .ok (.ifCond .ne 9, 3) := by decide +kernel
theorem dX10_lineRead_225 : decode cX10_lineRead 225 = .ok (.aload_n 0, 1) := by decide +kernel
theorem dX10_lineRead_226 : decode cX10_lineRead 226 = .ok (.iconst 1, 1) := by decide +kernel
theorem dX10_lineRead_227 : decode cX10_lineRead 227 = .ok (.invokevirtual 193, 3) := by decide +kernel
theorem dX10_lineRead_230 : decode cX10_lineRead 230 = .ok (.ireturn, 1) := by decide +kernel
theorem dX10_lineRead_231 : decode cX10_lineRead 231 = .ok (.aload_n 0, 1) := by decide +kernel
theorem dX10_lineRead_232 : decode cX10_lineRead 232 = .ok (.invokevirtual 203, 3) := by decide +kernel
theorem dX10_lineRead_235 : decode cX10_lineRead 235 = .ok (.iconst 1, 1) := by decide +kernel
theorem dX10_lineRead_236 : decode cX10_lineRead 236 = .ok (.ireturn, 1) := by decide +kernel
theorem dX10_text_0 : decode cX10_text 0 = .ok (.aload_n 0, 1) := by decide +kernel
theorem dX10_text_1 : decode cX10_text 1 = .ok (.iconst 0, 1) := by decide +kernel
theorem dX10_text_2 : decode cX10_text 2 = .ok (.putfield 151, 3) := by decide +kernel
theorem dX10_text_5 : decode cX10_text 5 = .ok (.iload_n 1, 1) := by decide +kernel
theorem dX10_text_6 : decode cX10_text 6 = .ok (.ifCond .lt 11, 3) := by decide +kernel
theorem dX10_text_9 : decode cX10_text 9 = .ok (.iload_n 1, 1) := by decide +kernel
theorem dX10_text_10 : decode cX10_text 10 = .ok (.aload_n 0, 1) := by decide +kernel
theorem dX10_text_11 : decode cX10_text 11 = .ok (.getfield 154, 3) := by decide +kernel
theorem dX10_text_14 : decode cX10_text 14 = .ok (.if_icmp .le 6, 3) := by decide +kernel
theorem dX10_text_17 : decode cX10_text 17 = .ok (.bipush (-2), 2) := by decide +kernel
theorem dX10_text_19 : decode cX10_text 19 = .ok (.ireturn, 1) := by decide +kernel
theorem dX10_text_20 : decode cX10_text 20 = .ok (.aload_n 0, 1) := by decide +kernel
theorem dX10_text_21 : decode cX10_text 21 = .ok (.iload_n 1, 1) := by decide +kernel
theorem dX10_text_22 : decode cX10_text 22 = .ok (.putfield 163, 3) := by decide +kernel
theorem dX10_text_25 : decode cX10_text 25 = .ok (.aload_n 0, 1) := by decide +kernel
theorem dX10_text_26 : decode cX10_text 26 = .ok (.iconst 0, 1) := by decide +kernel
theorem dX10_text_27 : decode cX10_text 27 = .ok (.putfield 154, 3) := by decide +kernel
theorem dX10_text_30 : decode cX10_text 30 = .ok (.aload_n 0, 1) := by decide +kernel
theorem dX10_text_31 : decode cX10_text 31 = .ok (.iconst 0, 1) := by decide +kernel
theorem dX10_text_32 : decode cX10_text 32 = .ok (.putfield 157, 3) := by decide +kernel
theorem dX10_text_35 : decode cX10_text 35 = .ok (.aload_n 0, 1) := by decide +kernel
theorem dX10_text_36 : decode cX10_text 36 = .ok (.iconst (-1), 1) := by decide +kernel
theorem dX10_text_37 : decode cX10_text 37 = .ok (.putfield 16, 3) := by decide +kernel
theorem dX10_text_40 : decode cX10_text 40 = .ok (.aload_n 0, 1) := by decide +kernel
theorem dX10_text_41 : decode cX10_text 41 = .ok (.iconst 0, 1) := by decide +kernel
theorem dX10_text_42 : decode cX10_text 42 = .ok (.putfield 166, 3) := by decide +kernel
theorem dX10_text_45 : decode cX10_text 45 = .ok (.aload_n 0, 1) := by decide +kernel
theorem dX10_text_46 : decode cX10_text 46 = .ok (.invokevirtual 145, 3) := by decide +kernel
theorem dX10_text_49 : decode cX10_text 49 = .ok (.aload_n 0, 1) := by decide +kernel
theorem dX10_text_50 : decode cX10_text 50 = .ok (.invokevirtual 203, 3) := by decide +kernel
theorem dX10_text_53 : decode cX10_text 53 = .ok (.iconst 0, 1) := by decide +kernel
theorem dX10_text_54 : decode cX10_text 54 = .ok (.istore_n 2, 1) := by decide +kernel
theorem dX10_text_55 : decode cX10_text 55 = .ok (.aload_n 0, 1) := by decide +kernel
theorem dX10_text_56 : decode cX10_text 56 = .ok (.getfield 169, 3) := by decide +kernel
theorem dX10_text_59 : decode cX10_text 59 = .ok (.ifCond .eq 18, 3) := by decide +kernel
theorem dX10_text_62 : decode cX10_text 62 = .ok (.aload_n 0, 1) := by decide +kernel
theorem dX10_text_63 : decode cX10_text 63 = .ok (.invokevirtual 262, 3) := by decide +kernel
theorem dX10_text_66 : decode cX10_text 66 = .ok (.ifCond .ne 5, 3) := by decide +kernel
theorem dX10_text_69 : decode cX10_text 69 = .ok (.iconst (-1), 1) := by decide +kernel
theorem dX10_text_70 : decode cX10_text 70 = .ok (.ireturn, 1) := by decide +kernel
theorem dX10_text_71 : decode cX10_text 71 = .ok (.iinc 2 1, 3) := by decide +kernel
theorem dX10_text_74 : decode cX10_text 74 = .ok (.goto (-19), 3) := by decide +kernel
theorem dX10_text_77 : decode cX10_text 77 = .ok (.aload_n 0, 1) := by decide +kernel
theorem dX10_text_78 : decode cX10_text 78 = .ok (.invokevirtual 148, 3) := by decide +kernel
theorem dX10_text_81 : decode cX10_text 81 = .ok (.iload_n 2, 1) := by decide +kernel
theorem dX10_text_82 : decode cX10_text 82 = .ok (.ireturn, 1) := by decide +kernel
theorem dX10_fault_0 : decode cX10_fault 0 = .ok (.aload_n 0, 1) := by decide +kernel
theorem dX10_fault_1 : decode cX10_fault 1 = .ok (.iconst 0, 1) := by decide +kernel
theorem dX10_fault_2 : decode cX10_fault 2 = .ok (.putfield 151, 3) := by decide +kernel
theorem dX10_fault_5 : decode cX10_fault 5 = .ok (.iload_n 1, 1) := by decide +kernel
theorem dX10_fault_6 : decode cX10_fault 6 = .ok (.ifCond .ne 10, 3) := by decide +kernel
theorem dX10_fault_9 : decode cX10_fault 9 = .ok (.aload_n 0, 1) := by decide +kernel
theorem dX10_fault_10 : decode cX10_fault 10 = .ok (.getfield 157, 3) := by decide +kernel
theorem dX10_fault_13 : decode cX10_fault 13 = .ok (.goto 16, 3) := by decide +kernel
theorem dX10_fault_16 : decode cX10_fault 16 = .ok (.iload_n 1, 1) := by decide +kernel
theorem dX10_fault_17 : decode cX10_fault 17 = .ok (.iconst 1, 1) := by decide +kernel
theorem dX10_fault_18 : decode cX10_fault 18 = .ok (.if_icmp .ne 10, 3) := by decide +kernel
theorem dX10_fault_21 : decode cX10_fault 21 = .ok (.aload_n 0, 1) := by decide +kernel
theorem dX10_fault_22 : decode cX10_fault 22 = .ok (.getfield 16, 3) := by decide +kernel
theorem dX10_fault_25 : decode cX10_fault 25 = .ok (.goto 4, 3) := by decide +kernel
theorem dX10_fault_28 : decode cX10_fault 28 = .ok (.iconst (-1), 1) := by decide +kernel
theorem dX10_fault_29 : decode cX10_fault 29 = .ok (.ireturn, 1) := by decide +kernel
theorem dX10_named_0 : decode cX10_named 0 = .ok (.aload_n 0, 1) := by decide +kernel
theorem dX10_named_1 : decode cX10_named 1 = .ok (.iconst 0, 1) := by decide +kernel
theorem dX10_named_2 : decode cX10_named 2 = .ok (.putfield 151, 3) := by decide +kernel
theorem dX10_named_5 : decode cX10_named 5 = .ok (.iload_n 1, 1) := by decide +kernel
theorem dX10_named_6 : decode cX10_named 6 = .ok (.ifCond .ne 19, 3) := by decide +kernel
theorem dX10_named_9 : decode cX10_named 9 = .ok (.aload_n 0, 1) := by decide +kernel
theorem dX10_named_10 : decode cX10_named 10 = .ok (.getfield 27, 3) := by decide +kernel
theorem dX10_named_13 : decode cX10_named 13 = .ok (.iconst 0, 1) := by decide +kernel
theorem dX10_named_14 : decode cX10_named 14 = .ok (.aload_n 0, 1) := by decide +kernel
theorem dX10_named_15 : decode cX10_named 15 = .ok (.getfield 225, 3) := by decide +kernel
theorem dX10_named_18 : decode cX10_named 18 = .ok (.iload_n 2, 1) := by decide +kernel
theorem dX10_named_19 : decode cX10_named 19 = .ok (.invokestatic 241, 3) := by decide +kernel
theorem dX10_named_22 : decode cX10_named 22 = .ok (.goto 25, 3) := by decide +kernel
theorem dX10_named_25 : decode cX10_named 25 = .ok (.iload_n 1, 1) := by decide +kernel
theorem dX10_named_26 : decode cX10_named 26 = .ok (.iconst 1, 1) := by decide +kernel
theorem dX10_named_27 : decode cX10_named 27 = .ok (.if_icmp .ne 19, 3) := by decide +kernel
theorem dX10_named_30 : decode cX10_named 30 = .ok (.aload_n 0, 1) := by decide +kernel
theorem dX10_named_31 : decode cX10_named 31 = .ok (.getfield 45, 3) := by decide +kernel
theorem dX10_named_34 : decode cX10_named 34 = .ok (.iconst 0, 1) := by decide +kernel
theorem dX10_named_35 : decode cX10_named 35 = .ok (.aload_n 0, 1) := by decide +kernel
theorem dX10_named_36 : decode cX10_named 36 = .ok (.getfield 228, 3) := by decide +kernel
theorem dX10_named_39 : decode cX10_named 39 = .ok (.iload_n 2, 1) := by decide +kernel
theorem dX10_named_40 : decode cX10_named 40 = .ok (.invokestatic 241, 3) := by decide +kernel
theorem dX10_named_43 : decode cX10_named 43 = .ok (.goto 4, 3) := by decide +kernel
theorem dX10_named_46 : decode cX10_named 46 = .ok (.iconst (-1), 1) := by decide +kernel
theorem dX10_named_47 : decode cX10_named 47 = .ok (.ireturn, 1) := by decide +kernel
theorem dX10_rank_0 : decode cX10_rank 0 = .ok (.iload_n 0, 1) := by decide +kernel
theorem dX10_rank_1 : decode cX10_rank 1 = .ok (.bipush 13, 2) := by decide +kernel
theorem dX10_rank_3 : decode cX10_rank 3 = .ok (.if_icmp .lt 8, 3) := by decide +kernel
theorem dX10_rank_6 : decode cX10_rank 6 = .ok (.bipush 6, 2) := by decide +kernel
theorem dX10_rank_8 : decode cX10_rank 8 = .ok (.goto 50, 3) := by decide +kernel
theorem dX10_rank_11 : decode cX10_rank 11 = .ok (.iload_n 0, 1) := by decide +kernel
theorem dX10_rank_12 : decode cX10_rank 12 = .ok (.bipush 11, 2) := by decide +kernel
theorem dX10_rank_14 : decode cX10_rank 14 = .ok (.if_icmp .lt 7, 3) := by decide +kernel
theorem dX10_rank_17 : decode cX10_rank 17 = .ok (.iconst 5, 1) := by decide +kernel
theorem dX10_rank_18 : decode cX10_rank 18 = .ok (.goto 40, 3) := by decide +kernel
theorem dX10_rank_21 : decode cX10_rank 21 = .ok (.iload_n 0, 1) := by decide +kernel
theorem dX10_rank_22 : decode cX10_rank 22 = .ok (.iconst 5, 1) := by decide +kernel
theorem dX10_rank_23 : decode cX10_rank 23 = .ok (.if_icmp .lt 7, 3) := by decide +kernel
theorem dX10_rank_26 : decode cX10_rank 26 = .ok (.iconst 4, 1) := by decide +kernel
theorem dX10_rank_27 : decode cX10_rank 27 = .ok (.goto 31, 3) := by decide +kernel
theorem dX10_rank_30 : decode cX10_rank 30 = .ok (.iload_n 0, 1) := by decide +kernel
theorem dX10_rank_31 : decode cX10_rank 31 = .ok (.iconst 2, 1) := by decide +kernel
theorem dX10_rank_32 : decode cX10_rank 32 = .ok (.if_icmp .ne 7, 3) := by decide +kernel
theorem dX10_rank_35 : decode cX10_rank 35 = .ok (.iconst 3, 1) := by decide +kernel
theorem dX10_rank_36 : decode cX10_rank 36 = .ok (.goto 22, 3) := by decide +kernel
theorem dX10_rank_39 : decode cX10_rank 39 = .ok (.iload_n 0, 1) := by decide +kernel
theorem dX10_rank_40 : decode cX10_rank 40 = .ok (.iconst 3, 1) := by decide +kernel
theorem dX10_rank_41 : decode cX10_rank 41 = .ok (.if_icmp .ne 7, 3) := by decide +kernel
theorem dX10_rank_44 : decode cX10_rank 44 = .ok (.iconst 2, 1) := by decide +kernel
theorem dX10_rank_45 : decode cX10_rank 45 = .ok (.goto 13, 3) := by decide +kernel
theorem dX10_rank_48 : decode cX10_rank 48 = .ok (.iload_n 0, 1) := by decide +kernel
theorem dX10_rank_49 : decode cX10_rank 49 = .ok (.iconst 4, 1) := by decide +kernel
theorem dX10_rank_50 : decode cX10_rank 50 = .ok (.if_icmp .ne 7, 3) := by decide +kernel
theorem dX10_rank_53 : decode cX10_rank 53 = .ok (.iconst 1, 1) := by decide +kernel
theorem dX10_rank_54 : decode cX10_rank 54 = .ok (.goto 4, 3) := by decide +kernel
theorem dX10_rank_57 : decode cX10_rank 57 = .ok (.iconst 0, 1) := by decide +kernel
theorem dX10_rank_58 : decode cX10_rank 58 = .ok (.ireturn, 1) := by decide +kernel
theorem dX10_grown_0 : decode cX10_grown 0 = .ok (.aload_n 0, 1) := by decide +kernel
theorem dX10_grown_1 : decode cX10_grown 1 = .ok (.getfield 63, 3) := by decide +kernel
theorem dX10_grown_4 : decode cX10_grown 4 = .ok (.bipush 64, 2) := by decide +kernel
theorem dX10_grown_6 : decode cX10_grown 6 = .ok (.aload_n 0, 1) := by decide +kernel
theorem dX10_grown_7 : decode cX10_grown 7 = .ok (.getfield 219, 3) := by decide +kernel
theorem dX10_grown_10 : decode cX10_grown 10 = .ok (.iadd, 1) := by decide +kernel
theorem dX10_grown_11 : decode cX10_grown 11 = .ok (.iload_n 1, 1) := by decide +kernel
theorem dX10_grown_12 : decode cX10_grown 12 = .ok (.iastore, 1) := by decide +kernel
theorem dX10_grown_13 : decode cX10_grown 13 = .ok (.aload_n 0, 1) := by decide +kernel
theorem dX10_grown_14 : decode cX10_grown 14 = .ok (.getfield 66, 3) := by decide +kernel
theorem dX10_grown_17 : decode cX10_grown 17 = .ok (.bipush 64, 2) := by decide +kernel
theorem dX10_grown_19 : decode cX10_grown 19 = .ok (.aload_n 0, 1) := by decide +kernel
theorem dX10_grown_20 : decode cX10_grown 20 = .ok (.getfield 219, 3) := by decide +kernel
theorem dX10_grown_23 : decode cX10_grown 23 = .ok (.iadd, 1) := by decide +kernel
theorem dX10_grown_24 : decode cX10_grown 24 = .ok (.iload_n 2, 1) := by decide +kernel
theorem dX10_grown_25 : decode cX10_grown 25 = .ok (.iastore, 1) := by decide +kernel
theorem dX10_grown_26 : decode cX10_grown 26 = .ok (.aload_n 0, 1) := by decide +kernel
theorem dX10_grown_27 : decode cX10_grown 27 = .ok (.getfield 69, 3) := by decide +kernel
theorem dX10_grown_30 : decode cX10_grown 30 = .ok (.bipush 64, 2) := by decide +kernel
theorem dX10_grown_32 : decode cX10_grown 32 = .ok (.aload_n 0, 1) := by decide +kernel
theorem dX10_grown_33 : decode cX10_grown 33 = .ok (.getfield 219, 3) := by decide +kernel
theorem dX10_grown_36 : decode cX10_grown 36 = .ok (.iadd, 1) := by decide +kernel
theorem dX10_grown_37 : decode cX10_grown 37 = .ok (.iload_n 3, 1) := by decide +kernel
theorem dX10_grown_38 : decode cX10_grown 38 = .ok (.iastore, 1) := by decide +kernel
theorem dX10_grown_39 : decode cX10_grown 39 = .ok (.aload_n 0, 1) := by decide +kernel
theorem dX10_grown_40 : decode cX10_grown 40 = .ok (.getfield 75, 3) := by decide +kernel
theorem dX10_grown_43 : decode cX10_grown 43 = .ok (.aload_n 0, 1) := by decide +kernel
theorem dX10_grown_44 : decode cX10_grown 44 = .ok (.getfield 265, 3) := by decide +kernel
theorem dX10_grown_47 : decode cX10_grown 47 = .ok (.aload_n 0, 1) := by decide +kernel
theorem dX10_grown_48 : decode cX10_grown 48 = .ok (.getfield 219, 3) := by decide +kernel
theorem dX10_grown_51 : decode cX10_grown 51 = .ok (.iastore, 1) := by decide +kernel
theorem dX10_grown_52 : decode cX10_grown 52 = .ok (.aload_n 0, 1) := by decide +kernel
theorem dX10_grown_53 : decode cX10_grown 53 = .ok (.dup, 1) := by decide +kernel
theorem dX10_grown_54 : decode cX10_grown 54 = .ok (.getfield 265, 3) := by decide +kernel
theorem dX10_grown_57 : decode cX10_grown 57 = .ok (.iconst 1, 1) := by decide +kernel
theorem dX10_grown_58 : decode cX10_grown 58 = .ok (.iadd, 1) := by decide +kernel
theorem dX10_grown_59 : decode cX10_grown 59 = .ok (.putfield 265, 3) := by decide +kernel
theorem dX10_grown_62 : decode cX10_grown 62 = .ok (.aload_n 0, 1) := by decide +kernel
theorem dX10_grown_63 : decode cX10_grown 63 = .ok (.dup, 1) := by decide +kernel
theorem dX10_grown_64 : decode cX10_grown 64 = .ok (.getfield 219, 3) := by decide +kernel
theorem dX10_grown_67 : decode cX10_grown 67 = .ok (.iconst 1, 1) := by decide +kernel
theorem dX10_grown_68 : decode cX10_grown 68 = .ok (.iadd, 1) := by decide +kernel
theorem dX10_grown_69 : decode cX10_grown 69 = .ok (.putfield 219, 3) := by decide +kernel
theorem dX10_grown_72 : decode cX10_grown 72 = .ok (.return_, 1) := by decide +kernel
theorem dX10_dropHeld_0 : decode cX10_dropHeld 0 = .ok (.aload_n 0, 1) := by decide +kernel
theorem dX10_dropHeld_1 : decode cX10_dropHeld 1 = .ok (.dup, 1) := by decide +kernel
theorem dX10_dropHeld_2 : decode cX10_dropHeld 2 = .ok (.getfield 265, 3) := by decide +kernel
theorem dX10_dropHeld_5 : decode cX10_dropHeld 5 = .ok (.iconst 1, 1) := by decide +kernel
theorem dX10_dropHeld_6 : decode cX10_dropHeld 6 = .ok (.isub, 1) := by decide +kernel
theorem dX10_dropHeld_7 : decode cX10_dropHeld 7 = .ok (.putfield 265, 3) := by decide +kernel
theorem dX10_dropHeld_10 : decode cX10_dropHeld 10 = .ok (.aload_n 0, 1) := by decide +kernel
theorem dX10_dropHeld_11 : decode cX10_dropHeld 11 = .ok (.getfield 75, 3) := by decide +kernel
theorem dX10_dropHeld_14 : decode cX10_dropHeld 14 = .ok (.aload_n 0, 1) := by decide +kernel
theorem dX10_dropHeld_15 : decode cX10_dropHeld 15 = .ok (.getfield 265, 3) := by decide +kernel
theorem dX10_dropHeld_18 : decode cX10_dropHeld 18 = .ok (.iaload, 1) := by decide +kernel
theorem dX10_dropHeld_19 : decode cX10_dropHeld 19 = .ok (.ireturn, 1) := by decide +kernel
theorem dX10_bind_0 : decode cX10_bind 0 = .ok (.aload_n 0, 1) := by decide +kernel
theorem dX10_bind_1 : decode cX10_bind 1 = .ok (.getfield 268, 3) := by decide +kernel
theorem dX10_bind_4 : decode cX10_bind 4 = .ok (.ifCond .le 72, 3) := by decide +kernel
theorem dX10_bind_7 : decode cX10_bind 7 = .ok (.aload_n 0, 1) := by decide +kernel
theorem dX10_bind_8 : decode cX10_bind 8 = .ok (.getfield 72, 3) := by decide +kernel
theorem dX10_bind_11 : decode cX10_bind 11 = .ok (.aload_n 0, 1) := by decide +kernel
theorem dX10_bind_12 : decode cX10_bind 12 = .ok (.getfield 268, 3) := by decide +kernel
theorem dX10_bind_15 : decode cX10_bind 15 = .ok (.iconst 1, 1) := by decide +kernel
theorem dX10_bind_16 : decode cX10_bind 16 = .ok (.isub, 1) := by decide +kernel
theorem dX10_bind_17 : decode cX10_bind 17 = .ok (.iaload, 1) := by decide +kernel
theorem dX10_bind_18 : decode cX10_bind 18 = .ok (.invokestatic 271, 3) := by decide +kernel
theorem dX10_bind_21 : decode cX10_bind 21 = .ok (.iload_n 1, 1) := by decide +kernel
theorem dX10_bind_22 : decode cX10_bind 22 = .ok (.if_icmp .lt 54, 3) := by decide +kernel
theorem dX10_bind_25 : decode cX10_bind 25 = .ok (.aload_n 0, 1) := by decide +kernel
theorem dX10_bind_26 : decode cX10_bind 26 = .ok (.dup, 1) := by decide +kernel
theorem dX10_bind_27 : decode cX10_bind 27 = .ok (.getfield 268, 3) := by decide +kernel
theorem dX10_bind_30 : decode cX10_bind 30 = .ok (.iconst 1, 1) := by decide +kernel
theorem dX10_bind_31 : decode cX10_bind 31 = .ok (.isub, 1) := by decide +kernel
theorem dX10_bind_32 : decode cX10_bind 32 = .ok (.putfield 268, 3) := by decide +kernel
theorem dX10_bind_35 : decode cX10_bind 35 = .ok (.aload_n 0, 1) := by decide +kernel
theorem dX10_bind_36 : decode cX10_bind 36 = .ok (.getfield 72, 3) := by decide +kernel
theorem dX10_bind_39 : decode cX10_bind 39 = .ok (.aload_n 0, 1) := by decide +kernel
theorem dX10_bind_40 : decode cX10_bind 40 = .ok (.getfield 268, 3) := by decide +kernel
theorem dX10_bind_43 : decode cX10_bind 43 = .ok (.iaload, 1) := by decide +kernel
theorem dX10_bind_44 : decode cX10_bind 44 = .ok (.istore_n 2, 1) := by decide +kernel
theorem dX10_bind_45 : decode cX10_bind 45 = .ok (.iload_n 2, 1) := by decide +kernel
theorem dX10_bind_46 : decode cX10_bind 46 = .ok (.iconst 2, 1) := by decide +kernel
theorem dX10_bind_47 : decode cX10_bind 47 = .ok (.if_icmp .ne 7, 3) := by decide +kernel
theorem dX10_bind_50 : decode cX10_bind 50 = .ok (.iconst (-1), 1) := by decide +kernel
theorem dX10_bind_51 : decode cX10_bind 51 = .ok (.goto 7, 3) := by decide +kernel
theorem dX10_bind_54 : decode cX10_bind 54 = .ok (.aload_n 0, 1) := by decide +kernel
theorem dX10_bind_55 : decode cX10_bind 55 = .ok (.invokevirtual 275, 3) := by decide +kernel
theorem dX10_bind_58 : decode cX10_bind 58 = .ok (.istore_n 3, 1) := by decide +kernel
theorem dX10_bind_59 : decode cX10_bind 59 = .ok (.aload_n 0, 1) := by decide +kernel
theorem dX10_bind_60 : decode cX10_bind 60 = .ok (.invokevirtual 275, 3) := by decide +kernel
theorem dX10_bind_63 : decode cX10_bind 63 = .ok (.istore 4, 2) := by decide +kernel
theorem dX10_bind_65 : decode cX10_bind 65 = .ok (.aload_n 0, 1) := by decide +kernel
theorem dX10_bind_66 : decode cX10_bind 66 = .ok (.iload_n 2, 1) := by decide +kernel
theorem dX10_bind_67 : decode cX10_bind 67 = .ok (.iload 4, 2) := by decide +kernel
theorem dX10_bind_69 : decode cX10_bind 69 = .ok (.iload_n 3, 1) := by decide +kernel
theorem dX10_bind_70 : decode cX10_bind 70 = .ok (.invokevirtual 279, 3) := by decide +kernel
theorem dX10_bind_73 : decode cX10_bind 73 = .ok (.goto (-73), 3) := by decide +kernel
theorem dX10_bind_76 : decode cX10_bind 76 = .ok (.return_, 1) := by decide +kernel
theorem dX10_isCounted_0 : decode cX10_isCounted 0 = .ok (.aload_n 0, 1) := by decide +kernel
theorem dX10_isCounted_1 : decode cX10_isCounted 1 = .ok (.getfield 222, 3) := by decide +kernel
theorem dX10_isCounted_4 : decode cX10_isCounted 4 = .ok (.bipush 64, 2) := by decide +kernel
theorem dX10_isCounted_6 : decode cX10_isCounted 6 = .ok (.if_icmp .ne 9, 3) := by decide +kernel
theorem dX10_isCounted_9 : decode cX10_isCounted 9 = .ok (.aload_n 0, 1) := by decide +kernel
theorem dX10_isCounted_10 : decode cX10_isCounted 10 = .ok (.iconst 2, 1) := by decide +kernel
theorem dX10_isCounted_11 : decode cX10_isCounted 11 = .ok (.invokevirtual 193, 3) := by decide +kernel
theorem dX10_isCounted_14 : decode cX10_isCounted 14 = .ok (.ireturn, 1) := by decide +kernel
theorem dX10_isCounted_15 : decode cX10_isCounted 15 = .ok (.aload_n 0, 1) := by decide +kernel
theorem dX10_isCounted_16 : decode cX10_isCounted 16 = .ok (.dup, 1) := by decide +kernel
theorem dX10_isCounted_17 : decode cX10_isCounted 17 = .ok (.getfield 222, 3) := by decide +kernel
theorem dX10_isCounted_20 : decode cX10_isCounted 20 = .ok (.iconst 1, 1) := by decide +kernel
theorem dX10_isCounted_21 : decode cX10_isCounted 21 = .ok (.iadd, 1) := by decide +kernel
theorem dX10_isCounted_22 : decode cX10_isCounted 22 = .ok (.putfield 222, 3) := by decide +kernel
theorem dX10_isCounted_25 : decode cX10_isCounted 25 = .ok (.iconst 1, 1) := by decide +kernel
theorem dX10_isCounted_26 : decode cX10_isCounted 26 = .ok (.ireturn, 1) := by decide +kernel
theorem dX10_waitsFor_0 : decode cX10_waitsFor 0 = .ok (.aload_n 0, 1) := by decide +kernel
theorem dX10_waitsFor_1 : decode cX10_waitsFor 1 = .ok (.getfield 72, 3) := by decide +kernel
theorem dX10_waitsFor_4 : decode cX10_waitsFor 4 = .ok (.aload_n 0, 1) := by decide +kernel
theorem dX10_waitsFor_5 : decode cX10_waitsFor 5 = .ok (.getfield 268, 3) := by decide +kernel
theorem dX10_waitsFor_8 : decode cX10_waitsFor 8 = .ok (.iload_n 1, 1) := by decide +kernel
theorem dX10_waitsFor_9 : decode cX10_waitsFor 9 = .ok (.iastore, 1) := by decide +kernel
theorem dX10_waitsFor_10 : decode cX10_waitsFor 10 = .ok (.aload_n 0, 1) := by decide +kernel
theorem dX10_waitsFor_11 : decode cX10_waitsFor 11 = .ok (.dup, 1) := by decide +kernel
theorem dX10_waitsFor_12 : decode cX10_waitsFor 12 = .ok (.getfield 268, 3) := by decide +kernel
theorem dX10_waitsFor_15 : decode cX10_waitsFor 15 = .ok (.iconst 1, 1) := by decide +kernel
theorem dX10_waitsFor_16 : decode cX10_waitsFor 16 = .ok (.iadd, 1) := by decide +kernel
theorem dX10_waitsFor_17 : decode cX10_waitsFor 17 = .ok (.putfield 268, 3) := by decide +kernel
theorem dX10_waitsFor_20 : decode cX10_waitsFor 20 = .ok (.return_, 1) := by decide +kernel
theorem dX10_nameMet_0 : decode cX10_nameMet 0 = .ok (.aload_n 0, 1) := by decide +kernel
theorem dX10_nameMet_1 : decode cX10_nameMet 1 = .ok (.getfield 169, 3) := by decide +kernel
theorem dX10_nameMet_4 : decode cX10_nameMet 4 = .ok (.iconst 1, 1) := by decide +kernel
theorem dX10_nameMet_5 : decode cX10_nameMet 5 = .ok (.if_icmp .ne 22, 3) := by decide +kernel
theorem dX10_nameMet_8 : decode cX10_nameMet 8 = .ok (.aload_n 0, 1) := by decide +kernel
theorem dX10_nameMet_9 : decode cX10_nameMet 9 = .ok (.getfield 180, 3) := by decide +kernel
theorem dX10_nameMet_12 : decode cX10_nameMet 12 = .ok (.bipush 12, 2) := by decide +kernel
theorem dX10_nameMet_14 : decode cX10_nameMet 14 = .ok (.if_icmp .lt 13, 3) := by decide +kernel
theorem dX10_nameMet_17 : decode cX10_nameMet 17 = .ok (.aload_n 0, 1) := by decide +kernel
theorem dX10_nameMet_18 : decode cX10_nameMet 18 = .ok (.getfield 180, 3) := by decide +kernel
theorem dX10_nameMet_21 : decode cX10_nameMet 21 = .ok (.bipush 12, 2) := by decide +kernel
theorem dX10_nameMet_23 : decode cX10_nameMet 23 = .ok (.isub, 1) := by decide +kernel
theorem dX10_nameMet_24 : decode cX10_nameMet 24 = .ok (.goto 4, 3) := by decide +kernel
theorem dX10_nameMet_27 : decode cX10_nameMet 27 = .ok (.iconst (-1), 1) := by decide +kernel
theorem dX10_nameMet_28 : decode cX10_nameMet 28 = .ok (.ireturn, 1) := by decide +kernel
theorem dX10_leafRead_0 : decode cX10_leafRead 0 = .ok (.aload_n 0, 1) := by decide +kernel
theorem dX10_leafRead_1 : decode cX10_leafRead 1 = .ok (.bipush 40, 2) := by decide +kernel
theorem dX10_leafRead_3 : decode cX10_leafRead 3 = .ok (.invokevirtual 206, 3) := by decide +kernel
theorem dX10_leafRead_6 : decode cX10_leafRead 6 = .ok (.ifCond .eq 44, 3) := by decide +kernel
theorem dX10_leafRead_9 : decode cX10_leafRead 9 = .ok (.aload_n 0, 1) := by decide +kernel
theorem dX10_leafRead_10 : decode cX10_leafRead 10 = .ok (.getfield 283, 3) := by decide +kernel
theorem dX10_leafRead_13 : decode cX10_leafRead 13 = .ok (.bipush 8, 2) := by decide +kernel
theorem dX10_leafRead_15 : decode cX10_leafRead 15 = .ok (.if_icmp .ne 9, 3) := by decide +kernel
theorem dX10_leafRead_18 : decode cX10_leafRead 18 = .ok (.aload_n 0, 1) := by decide +kernel
theorem dX10_leafRead_19 : decode cX10_leafRead 19 = .ok (.iconst 2, 1) := by decide +kernel
theorem dX10_leafRead_20 : decode cX10_leafRead 20 = .ok (.invokevirtual 193, 3) := by decide +kernel
theorem dX10_leafRead_23 : decode cX10_leafRead 23 = .ok (.ireturn, 1) := by decide +kernel
theorem dX10_leafRead_24 : decode cX10_leafRead 24 = .ok (.aload_n 0, 1) := by decide +kernel
theorem dX10_leafRead_25 : decode cX10_leafRead 25 = .ok (.dup, 1) := by decide +kernel
theorem dX10_leafRead_26 : decode cX10_leafRead 26 = .ok (.getfield 283, 3) := by decide +kernel
theorem dX10_leafRead_29 : decode cX10_leafRead 29 = .ok (.iconst 1, 1) := by decide +kernel
theorem dX10_leafRead_30 : decode cX10_leafRead 30 = .ok (.iadd, 1) := by decide +kernel
theorem dX10_leafRead_31 : decode cX10_leafRead 31 = .ok (.putfield 283, 3) := by decide +kernel
theorem dX10_leafRead_34 : decode cX10_leafRead 34 = .ok (.aload_n 0, 1) := by decide +kernel
theorem dX10_leafRead_35 : decode cX10_leafRead 35 = .ok (.iconst 0, 1) := by decide +kernel
theorem dX10_leafRead_36 : decode cX10_leafRead 36 = .ok (.invokevirtual 286, 3) := by decide +kernel
theorem dX10_leafRead_39 : decode cX10_leafRead 39 = .ok (.aload_n 0, 1) := by decide +kernel
theorem dX10_leafRead_40 : decode cX10_leafRead 40 = .ok (.iconst 1, 1) := by decide +kernel
theorem dX10_leafRead_41 : decode cX10_leafRead 41 = .ok (.putfield 290, 3) := by decide +kernel
theorem dX10_leafRead_44 : decode cX10_leafRead 44 = .ok (.aload_n 0, 1) := by decide +kernel
theorem dX10_leafRead_45 : decode cX10_leafRead 45 = .ok (.invokevirtual 203, 3) := by decide +kernel
theorem dX10_leafRead_48 : decode cX10_leafRead 48 = .ok (.iconst 1, 1) := by decide +kernel
theorem dX10_leafRead_49 : decode cX10_leafRead 49 = .ok (.ireturn, 1) := by decide +kernel
theorem dX10_leafRead_50 : decode cX10_leafRead 50 = .ok (.aload_n 0, 1) := by decide +kernel
theorem dX10_leafRead_51 : decode cX10_leafRead 51 = .ok (.bipush 11, 2) := by decide +kernel
theorem dX10_leafRead_53 : decode cX10_leafRead 53 = .ok (.invokevirtual 294, 3) := by decide +kernel
theorem dX10_leafRead_56 : decode cX10_leafRead 56 = .ok (.ifCond .eq 30, 3) := by decide +kernel
theorem dX10_leafRead_59 : decode cX10_leafRead 59 = .ok (.aload_n 0, 1) := by decide +kernel
theorem dX10_leafRead_60 : decode cX10_leafRead 60 = .ok (.getfield 290, 3) := by decide +kernel
theorem dX10_leafRead_63 : decode cX10_leafRead 63 = .ok (.ifCond .eq 23, 3) := by decide +kernel
theorem dX10_leafRead_66 : decode cX10_leafRead 66 = .ok (.aload_n 0, 1) := by decide +kernel
theorem dX10_leafRead_67 : decode cX10_leafRead 67 = .ok (.invokevirtual 297, 3) := by decide +kernel
theorem dX10_leafRead_70 : decode cX10_leafRead 70 = .ok (.ifCond .ne 5, 3) := by decide +kernel
theorem dX10_leafRead_73 : decode cX10_leafRead 73 = .ok (.iconst 0, 1) := by decide +kernel
theorem dX10_leafRead_74 : decode cX10_leafRead 74 = .ok (.ireturn, 1) := by decide +kernel
theorem dX10_leafRead_75 : decode cX10_leafRead 75 = .ok (.aload_n 0, 1) := by decide +kernel
theorem dX10_leafRead_76 : decode cX10_leafRead 76 = .ok (.iconst 2, 1) := by decide +kernel
theorem dX10_leafRead_77 : decode cX10_leafRead 77 = .ok (.invokevirtual 286, 3) := by decide +kernel
theorem dX10_leafRead_80 : decode cX10_leafRead 80 = .ok (.aload_n 0, 1) := by decide +kernel
theorem dX10_leafRead_81 : decode cX10_leafRead 81 = .ok (.invokevirtual 203, 3) := by decide +kernel
theorem dX10_leafRead_84 : decode cX10_leafRead 84 = .ok (.iconst 1, 1) := by decide +kernel
theorem dX10_leafRead_85 : decode cX10_leafRead 85 = .ok (.ireturn, 1) := by decide +kernel
theorem dX10_leafRead_86 : decode cX10_leafRead 86 = .ok (.aload_n 0, 1) := by decide +kernel
theorem dX10_leafRead_87 : decode cX10_leafRead 87 = .ok (.invokevirtual 300, 3) := by decide +kernel
theorem dX10_leafRead_90 : decode cX10_leafRead 90 = .ok (.istore_n 1, 1) := by decide +kernel
theorem dX10_leafRead_91 : decode cX10_leafRead 91 = .ok (.iload_n 1, 1) := by decide +kernel
theorem dX10_leafRead_92 : decode cX10_leafRead 92 = .ok (.ifCond .ge 17, 3) := by decide +kernel
theorem dX10_leafRead_95 : decode cX10_leafRead 95 = .ok (.aload_n 0, 1) := by decide +kernel
theorem dX10_leafRead_96 : decode cX10_leafRead 96 = .ok (.getfield 169, 3) := by decide +kernel
theorem dX10_leafRead_99 : decode cX10_leafRead 99 = .ok (.iconst 3, 1) := by decide +kernel
theorem dX10_leafRead_100 : decode cX10_leafRead 100 = .ok (.if_icmp .eq 9, 3) := by decide +kernel
theorem dX10_leafRead_103 : decode cX10_leafRead 103 = .ok (.aload_n 0, 1) := by decide +kernel
theorem dX10_leafRead_104 : decode cX10_leafRead 104 = .ok (.iconst 1, 1) := by decide +kernel
theorem dX10_leafRead_105 : decode cX10_leafRead 105 = .ok (.invokevirtual 193, 3) := by decide +kernel
theorem dX10_leafRead_108 : decode cX10_leafRead 108 = .ok (.ireturn, 1) := by decide +kernel
theorem dX10_leafRead_109 : decode cX10_leafRead 109 = .ok (.iload_n 1, 1) := by decide +kernel
theorem dX10_leafRead_110 : decode cX10_leafRead 110 = .ok (.ifCond .ge 19, 3) := by decide +kernel
theorem dX10_leafRead_113 : decode cX10_leafRead 113 = .ok (.aload_n 0, 1) := by decide +kernel
theorem dX10_leafRead_114 : decode cX10_leafRead 114 = .ok (.getfield 180, 3) := by decide +kernel
theorem dX10_leafRead_117 : decode cX10_leafRead 117 = .ok (.sipush 9999, 3) := by decide +kernel
theorem dX10_leafRead_120 : decode cX10_leafRead 120 = .ok (.if_icmp .le 9, 3) := by decide +kernel
theorem dX10_leafRead_123 : decode cX10_leafRead 123 = .ok (.aload_n 0, 1) := by decide +kernel
theorem dX10_leafRead_124 : decode cX10_leafRead 124 = .ok (.iconst 2, 1) := by decide +kernel
theorem dX10_leafRead_125 : decode cX10_leafRead 125 = .ok (.invokevirtual 193, 3) := by decide +kernel
theorem dX10_leafRead_128 : decode cX10_leafRead 128 = .ok (.ireturn, 1) := by decide +kernel
theorem dX10_leafRead_129 : decode cX10_leafRead 129 = .ok (.aload_n 0, 1) := by decide +kernel
theorem dX10_leafRead_130 : decode cX10_leafRead 130 = .ok (.invokevirtual 297, 3) := by decide +kernel
theorem dX10_leafRead_133 : decode cX10_leafRead 133 = .ok (.ifCond .ne 5, 3) := by decide +kernel
theorem dX10_leafRead_136 : decode cX10_leafRead 136 = .ok (.iconst 0, 1) := by decide +kernel
theorem dX10_leafRead_137 : decode cX10_leafRead 137 = .ok (.ireturn, 1) := by decide +kernel
theorem dX10_leafRead_138 : decode cX10_leafRead 138 = .ok (.aload_n 0, 1) := by decide +kernel
theorem dX10_leafRead_139 : decode cX10_leafRead 139 = .ok (.iload_n 1, 1) := by decide +kernel
theorem dX10_leafRead_140 : decode cX10_leafRead 140 = .ok (.ifCond .lt 7, 3) := by decide +kernel
theorem dX10_leafRead_143 : decode cX10_leafRead 143 = .ok (.iconst 1, 1) := by decide +kernel
theorem dX10_leafRead_144 : decode cX10_leafRead 144 = .ok (.goto 4, 3) := by decide +kernel
theorem dX10_leafRead_147 : decode cX10_leafRead 147 = .ok (.iconst 0, 1) := by decide +kernel
theorem dX10_leafRead_148 : decode cX10_leafRead 148 = .ok (.iload_n 1, 1) := by decide +kernel
theorem dX10_leafRead_149 : decode cX10_leafRead 149 = .ok (.ifCond .lt 7, 3) := by decide +kernel
theorem dX10_leafRead_152 : decode cX10_leafRead 152 = .ok (.iload_n 1, 1) := by decide +kernel
theorem dX10_leafRead_153 : decode cX10_leafRead 153 = .ok (.goto 7, 3) := by decide +kernel
theorem dX10_leafRead_156 : decode cX10_leafRead 156 = .ok (.aload_n 0, 1) := by decide +kernel
theorem dX10_leafRead_157 : decode cX10_leafRead 157 = .ok (.getfield 180, 3) := by decide +kernel
theorem dX10_leafRead_160 : decode cX10_leafRead 160 = .ok (.iconst 0, 1) := by decide +kernel
theorem dX10_leafRead_161 : decode cX10_leafRead 161 = .ok (.invokevirtual 279, 3) := by decide +kernel
theorem dX10_leafRead_164 : decode cX10_leafRead 164 = .ok (.aload_n 0, 1) := by decide +kernel
theorem dX10_leafRead_165 : decode cX10_leafRead 165 = .ok (.iconst 0, 1) := by decide +kernel
theorem dX10_leafRead_166 : decode cX10_leafRead 166 = .ok (.putfield 303, 3) := by decide +kernel
theorem dX10_leafRead_169 : decode cX10_leafRead 169 = .ok (.aload_n 0, 1) := by decide +kernel
theorem dX10_leafRead_170 : decode cX10_leafRead 170 = .ok (.invokevirtual 203, 3) := by decide +kernel
theorem dX10_leafRead_173 : decode cX10_leafRead 173 = .ok (.iconst 1, 1) := by decide +kernel
theorem dX10_leafRead_174 : decode cX10_leafRead 174 = .ok (.ireturn, 1) := by decide +kernel
theorem dX10_signs_0 : decode cX10_signs 0 = .ok (.aload_n 0, 1) := by decide +kernel
theorem dX10_signs_1 : decode cX10_signs 1 = .ok (.bipush 41, 2) := by decide +kernel
theorem dX10_signs_3 : decode cX10_signs 3 = .ok (.invokevirtual 206, 3) := by decide +kernel
theorem dX10_signs_6 : decode cX10_signs 6 = .ok (.ifCond .eq 41, 3) := by decide +kernel
theorem dX10_signs_9 : decode cX10_signs 9 = .ok (.aload_n 0, 1) := by decide +kernel
theorem dX10_signs_10 : decode cX10_signs 10 = .ok (.getfield 283, 3) := by decide +kernel
theorem dX10_signs_13 : decode cX10_signs 13 = .ok (.ifCond .le 34, 3) := by decide +kernel
theorem dX10_signs_16 : decode cX10_signs 16 = .ok (.aload_n 0, 1) := by decide +kernel
theorem dX10_signs_17 : decode cX10_signs 17 = .ok (.iconst 1, 1) := by decide +kernel
theorem dX10_signs_18 : decode cX10_signs 18 = .ok (.invokevirtual 306, 3) := by decide +kernel
theorem dX10_signs_21 : decode cX10_signs 21 = .ok (.aload_n 0, 1) := by decide +kernel
theorem dX10_signs_22 : decode cX10_signs 22 = .ok (.dup, 1) := by decide +kernel
theorem dX10_signs_23 : decode cX10_signs 23 = .ok (.getfield 268, 3) := by decide +kernel
theorem dX10_signs_26 : decode cX10_signs 26 = .ok (.iconst 1, 1) := by decide +kernel
theorem dX10_signs_27 : decode cX10_signs 27 = .ok (.isub, 1) := by decide +kernel
theorem dX10_signs_28 : decode cX10_signs 28 = .ok (.putfield 268, 3) := by decide +kernel
theorem dX10_signs_31 : decode cX10_signs 31 = .ok (.aload_n 0, 1) := by decide +kernel
theorem dX10_signs_32 : decode cX10_signs 32 = .ok (.dup, 1) := by decide +kernel
theorem dX10_signs_33 : decode cX10_signs 33 = .ok (.getfield 283, 3) := by decide +kernel
theorem dX10_signs_36 : decode cX10_signs 36 = .ok (.iconst 1, 1) := by decide +kernel
theorem dX10_signs_37 : decode cX10_signs 37 = .ok (.isub, 1) := by decide +kernel
theorem dX10_signs_38 : decode cX10_signs 38 = .ok (.putfield 283, 3) := by decide +kernel
theorem dX10_signs_41 : decode cX10_signs 41 = .ok (.aload_n 0, 1) := by decide +kernel
theorem dX10_signs_42 : decode cX10_signs 42 = .ok (.invokevirtual 203, 3) := by decide +kernel
theorem dX10_signs_45 : decode cX10_signs 45 = .ok (.iconst 1, 1) := by decide +kernel
theorem dX10_signs_46 : decode cX10_signs 46 = .ok (.ireturn, 1) := by decide +kernel
theorem dX10_signs_47 : decode cX10_signs 47 = .ok (.aload_n 0, 1) := by decide +kernel
theorem dX10_signs_48 : decode cX10_signs 48 = .ok (.bipush 9, 2) := by decide +kernel
theorem dX10_signs_50 : decode cX10_signs 50 = .ok (.invokevirtual 294, 3) := by decide +kernel
theorem dX10_signs_53 : decode cX10_signs 53 = .ok (.ifCond .eq 7, 3) := by decide +kernel
theorem dX10_signs_56 : decode cX10_signs 56 = .ok (.iconst 3, 1) := by decide +kernel
theorem dX10_signs_57 : decode cX10_signs 57 = .ok (.goto 90, 3) := by decide +kernel
theorem dX10_signs_60 : decode cX10_signs 60 = .ok (.aload_n 0, 1) := by decide +kernel
theorem dX10_signs_61 : decode cX10_signs 61 = .ok (.bipush 10, 2) := by decide +kernel
theorem dX10_signs_63 : decode cX10_signs 63 = .ok (.invokevirtual 294, 3) := by decide +kernel
theorem dX10_signs_66 : decode cX10_signs 66 = .ok (.ifCond .eq 7, 3) := by decide +kernel
theorem dX10_signs_69 : decode cX10_signs 69 = .ok (.iconst 4, 1) := by decide +kernel
theorem dX10_signs_70 : decode cX10_signs 70 = .ok (.goto 77, 3) := by decide +kernel
theorem dX10_signs_73 : decode cX10_signs 73 = .ok (.aload_n 0, 1) := by decide +kernel
theorem dX10_signs_74 : decode cX10_signs 74 = .ok (.getfield 169, 3) := by decide +kernel
theorem dX10_signs_77 : decode cX10_signs 77 = .ok (.iconst 5, 1) := by decide +kernel
theorem dX10_signs_78 : decode cX10_signs 78 = .ok (.if_icmp .ne 12, 3) := by decide +kernel
theorem dX10_signs_81 : decode cX10_signs 81 = .ok (.iconst 5, 1) := by decide +kernel
theorem dX10_signs_82 : decode cX10_signs 82 = .ok (.aload_n 0, 1) := by decide +kernel
theorem dX10_signs_83 : decode cX10_signs 83 = .ok (.getfield 180, 3) := by decide +kernel
theorem dX10_signs_86 : decode cX10_signs 86 = .ok (.iadd, 1) := by decide +kernel
theorem dX10_signs_87 : decode cX10_signs 87 = .ok (.goto 60, 3) := by decide +kernel
theorem dX10_signs_90 : decode cX10_signs 90 = .ok (.aload_n 0, 1) := by decide +kernel
theorem dX10_signs_91 : decode cX10_signs 91 = .ok (.bipush 43, 2) := by decide +kernel
theorem dX10_signs_93 : decode cX10_signs 93 = .ok (.invokevirtual 206, 3) := by decide +kernel
theorem dX10_signs_96 : decode cX10_signs 96 = .ok (.ifCond .eq 8, 3) := by decide +kernel
theorem dX10_signs_99 : decode cX10_signs 99 = .ok (.bipush 11, 2) := by decide +kernel
theorem dX10_signs_101 : decode cX10_signs 101 = .ok (.goto 46, 3) := by decide +kernel
theorem dX10_signs_104 : decode cX10_signs 104 = .ok (.aload_n 0, 1) := by decide +kernel
theorem dX10_signs_105 : decode cX10_signs 105 = .ok (.bipush 45, 2) := by decide +kernel
theorem dX10_signs_107 : decode cX10_signs 107 = .ok (.invokevirtual 206, 3) := by decide +kernel
theorem dX10_signs_110 : decode cX10_signs 110 = .ok (.ifCond .eq 8, 3) := by decide +kernel
theorem dX10_signs_113 : decode cX10_signs 113 = .ok (.bipush 12, 2) := by decide +kernel
theorem dX10_signs_115 : decode cX10_signs 115 = .ok (.goto 32, 3) := by decide +kernel
theorem dX10_signs_118 : decode cX10_signs 118 = .ok (.aload_n 0, 1) := by decide +kernel
theorem dX10_signs_119 : decode cX10_signs 119 = .ok (.bipush 42, 2) := by decide +kernel
theorem dX10_signs_121 : decode cX10_signs 121 = .ok (.invokevirtual 206, 3) := by decide +kernel
theorem dX10_signs_124 : decode cX10_signs 124 = .ok (.ifCond .eq 8, 3) := by decide +kernel
theorem dX10_signs_127 : decode cX10_signs 127 = .ok (.bipush 13, 2) := by decide +kernel
theorem dX10_signs_129 : decode cX10_signs 129 = .ok (.goto 18, 3) := by decide +kernel
theorem dX10_signs_132 : decode cX10_signs 132 = .ok (.aload_n 0, 1) := by decide +kernel
theorem dX10_signs_133 : decode cX10_signs 133 = .ok (.bipush 47, 2) := by decide +kernel
theorem dX10_signs_135 : decode cX10_signs 135 = .ok (.invokevirtual 206, 3) := by decide +kernel
theorem dX10_signs_138 : decode cX10_signs 138 = .ok (.ifCond .eq 8, 3) := by decide +kernel
theorem dX10_signs_141 : decode cX10_signs 141 = .ok (.bipush 14, 2) := by decide +kernel
theorem dX10_signs_143 : decode cX10_signs 143 = .ok (.goto 4, 3) := by decide +kernel
theorem dX10_signs_146 : decode cX10_signs 146 = .ok (.iconst 0, 1) := by decide +kernel
theorem dX10_signs_147 : decode cX10_signs 147 = .ok (.istore_n 1, 1) := by decide +kernel
theorem dX10_signs_148 : decode cX10_signs 148 = .ok (.iload_n 1, 1) := by decide +kernel
theorem dX10_signs_149 : decode cX10_signs 149 = .ok (.ifCond .ne 9, 3) := by decide +kernel
theorem dX10_signs_152 : decode cX10_signs 152 = .ok (.aload_n 0, 1) := by decide +kernel
theorem dX10_signs_153 : decode cX10_signs 153 = .ok (.iconst 1, 1) := by decide +kernel
theorem dX10_signs_154 : decode cX10_signs 154 = .ok (.invokevirtual 193, 3) := by decide +kernel
theorem dX10_signs_157 : decode cX10_signs 157 = .ok (.ireturn, 1) := by decide +kernel
theorem dX10_signs_158 : decode cX10_signs 158 = .ok (.aload_n 0, 1) := by decide +kernel
theorem dX10_signs_159 : decode cX10_signs 159 = .ok (.iload_n 1, 1) := by decide +kernel
theorem dX10_signs_160 : decode cX10_signs 160 = .ok (.invokestatic 271, 3) := by decide +kernel
theorem dX10_signs_163 : decode cX10_signs 163 = .ok (.iconst 4, 1) := by decide +kernel
theorem dX10_signs_164 : decode cX10_signs 164 = .ok (.if_icmp .ne 7, 3) := by decide +kernel
theorem dX10_signs_167 : decode cX10_signs 167 = .ok (.iconst 5, 1) := by decide +kernel
theorem dX10_signs_168 : decode cX10_signs 168 = .ok (.goto 7, 3) := by decide +kernel
theorem dX10_signs_171 : decode cX10_signs 171 = .ok (.iload_n 1, 1) := by decide +kernel
