theorem dX8_init_0 : decode cX8_init 0 = .ok (.aload_n 0, 1) := by decide +kernel
theorem dX8_init_1 : decode cX8_init 1 = .ok (.invokespecial 3, 3) := by decide +kernel
theorem dX8_init_4 : decode cX8_init 4 = .ok (.aload_n 0, 1) := by decide +kernel
theorem dX8_init_5 : decode cX8_init 5 = .ok (.sipush 180, 3) := by decide +kernel
theorem dX8_init_8 : decode cX8_init 8 = .ok (.newarray .int, 2) := by decide +kernel
theorem dX8_init_10 : decode cX8_init 10 = .ok (.putfield 11, 3) := by decide +kernel
theorem dX8_init_13 : decode cX8_init 13 = .ok (.return_, 1) := by decide +kernel
theorem dX8_forget_0 : decode cX8_forget 0 = .ok (.aload_n 0, 1) := by decide +kernel
theorem dX8_forget_1 : decode cX8_forget 1 = .ok (.iconst 0, 1) := by decide +kernel
theorem dX8_forget_2 : decode cX8_forget 2 = .ok (.putfield 15, 3) := by decide +kernel
theorem dX8_forget_5 : decode cX8_forget 5 = .ok (.return_, 1) := by decide +kernel
theorem dX8_note_0 : decode cX8_note 0 = .ok (.aload_n 0, 1) := by decide +kernel
theorem dX8_note_1 : decode cX8_note 1 = .ok (.getfield 15, 3) := by decide +kernel
theorem dX8_note_4 : decode cX8_note 4 = .ok (.bipush 20, 2) := by decide +kernel
theorem dX8_note_6 : decode cX8_note 6 = .ok (.if_icmp .lt 26, 3) := by decide +kernel
theorem dX8_note_9 : decode cX8_note 9 = .ok (.aload_n 0, 1) := by decide +kernel
theorem dX8_note_10 : decode cX8_note 10 = .ok (.getfield 11, 3) := by decide +kernel
theorem dX8_note_13 : decode cX8_note 13 = .ok (.bipush 9, 2) := by decide +kernel
theorem dX8_note_15 : decode cX8_note 15 = .ok (.aload_n 0, 1) := by decide +kernel
theorem dX8_note_16 : decode cX8_note 16 = .ok (.getfield 11, 3) := by decide +kernel
theorem dX8_note_19 : decode cX8_note 19 = .ok (.iconst 0, 1) := by decide +kernel
theorem dX8_note_20 : decode cX8_note 20 = .ok (.sipush 171, 3) := by decide +kernel
theorem dX8_note_23 : decode cX8_note 23 = .ok (.invokestatic 19, 3) := by decide +kernel
theorem dX8_note_26 : decode cX8_note 26 = .ok (.aload_n 0, 1) := by decide +kernel
theorem dX8_note_27 : decode cX8_note 27 = .ok (.bipush 19, 2) := by decide +kernel
theorem dX8_note_29 : decode cX8_note 29 = .ok (.putfield 15, 3) := by decide +kernel
theorem dX8_note_32 : decode cX8_note 32 = .ok (.aload_n 0, 1) := by decide +kernel
theorem dX8_note_33 : decode cX8_note 33 = .ok (.getfield 15, 3) := by decide +kernel
theorem dX8_note_36 : decode cX8_note 36 = .ok (.bipush 9, 2) := by decide +kernel
theorem dX8_note_38 : decode cX8_note 38 = .ok (.imul, 1) := by decide +kernel
theorem dX8_note_39 : decode cX8_note 39 = .ok (.istore_n 3, 1) := by decide +kernel
theorem dX8_note_40 : decode cX8_note 40 = .ok (.aload_n 0, 1) := by decide +kernel
theorem dX8_note_41 : decode cX8_note 41 = .ok (.getfield 11, 3) := by decide +kernel
theorem dX8_note_44 : decode cX8_note 44 = .ok (.iload_n 3, 1) := by decide +kernel
theorem dX8_note_45 : decode cX8_note 45 = .ok (.iload_n 2, 1) := by decide +kernel
theorem dX8_note_46 : decode cX8_note 46 = .ok (.iastore, 1) := by decide +kernel
theorem dX8_note_47 : decode cX8_note 47 = .ok (.aload_n 0, 1) := by decide +kernel
theorem dX8_note_48 : decode cX8_note 48 = .ok (.getfield 11, 3) := by decide +kernel
theorem dX8_note_51 : decode cX8_note 51 = .ok (.iload_n 3, 1) := by decide +kernel
theorem dX8_note_52 : decode cX8_note 52 = .ok (.iconst 1, 1) := by decide +kernel
theorem dX8_note_53 : decode cX8_note 53 = .ok (.iadd, 1) := by decide +kernel
theorem dX8_note_54 : decode cX8_note 54 = .ok (.aload_n 1, 1) := by decide +kernel
theorem dX8_note_55 : decode cX8_note 55 = .ok (.getfield 25, 3) := by decide +kernel
theorem dX8_note_58 : decode cX8_note 58 = .ok (.iload_n 2, 1) := by decide +kernel
theorem dX8_note_59 : decode cX8_note 59 = .ok (.iaload, 1) := by decide +kernel
theorem dX8_note_60 : decode cX8_note 60 = .ok (.iastore, 1) := by decide +kernel
theorem dX8_note_61 : decode cX8_note 61 = .ok (.aload_n 0, 1) := by decide +kernel
theorem dX8_note_62 : decode cX8_note 62 = .ok (.getfield 11, 3) := by decide +kernel
theorem dX8_note_65 : decode cX8_note 65 = .ok (.iload_n 3, 1) := by decide +kernel
theorem dX8_note_66 : decode cX8_note 66 = .ok (.iconst 2, 1) := by decide +kernel
theorem dX8_note_67 : decode cX8_note 67 = .ok (.iadd, 1) := by decide +kernel
theorem dX8_note_68 : decode cX8_note 68 = .ok (.aload_n 1, 1) := by decide +kernel
theorem dX8_note_69 : decode cX8_note 69 = .ok (.getfield 30, 3) := by decide +kernel
theorem dX8_note_72 : decode cX8_note 72 = .ok (.iload_n 2, 1) := by decide +kernel
theorem dX8_note_73 : decode cX8_note 73 = .ok (.iaload, 1) := by decide +kernel
theorem dX8_note_74 : decode cX8_note 74 = .ok (.iastore, 1) := by decide +kernel
theorem dX8_note_75 : decode cX8_note 75 = .ok (.aload_n 0, 1) := by decide +kernel
theorem dX8_note_76 : decode cX8_note 76 = .ok (.getfield 11, 3) := by decide +kernel
theorem dX8_note_79 : decode cX8_note 79 = .ok (.iload_n 3, 1) := by decide +kernel
theorem dX8_note_80 : decode cX8_note 80 = .ok (.iconst 3, 1) := by decide +kernel
theorem dX8_note_81 : decode cX8_note 81 = .ok (.iadd, 1) := by decide +kernel
theorem dX8_note_82 : decode cX8_note 82 = .ok (.aload_n 1, 1) := by decide +kernel
theorem dX8_note_83 : decode cX8_note 83 = .ok (.getfield 33, 3) := by decide +kernel
theorem dX8_note_86 : decode cX8_note 86 = .ok (.iload_n 2, 1) := by decide +kernel
theorem dX8_note_87 : decode cX8_note 87 = .ok (.iaload, 1) := by decide +kernel
theorem dX8_note_88 : decode cX8_note 88 = .ok (.iastore, 1) := by decide +kernel
theorem dX8_note_89 : decode cX8_note 89 = .ok (.aload_n 0, 1) := by decide +kernel
theorem dX8_note_90 : decode cX8_note 90 = .ok (.getfield 11, 3) := by decide +kernel
theorem dX8_note_93 : decode cX8_note 93 = .ok (.iload_n 3, 1) := by decide +kernel
theorem dX8_note_94 : decode cX8_note 94 = .ok (.iconst 4, 1) := by decide +kernel
theorem dX8_note_95 : decode cX8_note 95 = .ok (.iadd, 1) := by decide +kernel
theorem dX8_note_96 : decode cX8_note 96 = .ok (.aload_n 1, 1) := by decide +kernel
theorem dX8_note_97 : decode cX8_note 97 = .ok (.getfield 36, 3) := by decide +kernel
theorem dX8_note_100 : decode cX8_note 100 = .ok (.iload_n 2, 1) := by decide +kernel
theorem dX8_note_101 : decode cX8_note 101 = .ok (.iaload, 1) := by decide +kernel
theorem dX8_note_102 : decode cX8_note 102 = .ok (.iastore, 1) := by decide +kernel
theorem dX8_note_103 : decode cX8_note 103 = .ok (.aload_n 0, 1) := by decide +kernel
theorem dX8_note_104 : decode cX8_note 104 = .ok (.getfield 11, 3) := by decide +kernel
theorem dX8_note_107 : decode cX8_note 107 = .ok (.iload_n 3, 1) := by decide +kernel
theorem dX8_note_108 : decode cX8_note 108 = .ok (.iconst 5, 1) := by decide +kernel
theorem dX8_note_109 : decode cX8_note 109 = .ok (.iadd, 1) := by decide +kernel
theorem dX8_note_110 : decode cX8_note 110 = .ok (.aload_n 1, 1) := by decide +kernel
theorem dX8_note_111 : decode cX8_note 111 = .ok (.getfield 39, 3) := by decide +kernel
theorem dX8_note_114 : decode cX8_note 114 = .ok (.iastore, 1) := by decide +kernel
theorem dX8_note_115 : decode cX8_note 115 = .ok (.aload_n 0, 1) := by decide +kernel
theorem dX8_note_116 : decode cX8_note 116 = .ok (.getfield 11, 3) := by decide +kernel
theorem dX8_note_119 : decode cX8_note 119 = .ok (.iload_n 3, 1) := by decide +kernel
theorem dX8_note_120 : decode cX8_note 120 = .ok (.bipush 6, 2) := by decide +kernel
theorem dX8_note_122 : decode cX8_note 122 = .ok (.iadd, 1) := by decide +kernel
theorem dX8_note_123 : decode cX8_note 123 = .ok (.aload_n 1, 1) := by decide +kernel
theorem dX8_note_124 : decode cX8_note 124 = .ok (.getfield 42, 3) := by decide +kernel
theorem dX8_note_127 : decode cX8_note 127 = .ok (.iastore, 1) := by decide +kernel
theorem dX8_note_128 : decode cX8_note 128 = .ok (.aload_n 0, 1) := by decide +kernel
theorem dX8_note_129 : decode cX8_note 129 = .ok (.getfield 11, 3) := by decide +kernel
theorem dX8_note_132 : decode cX8_note 132 = .ok (.iload_n 3, 1) := by decide +kernel
theorem dX8_note_133 : decode cX8_note 133 = .ok (.bipush 7, 2) := by decide +kernel
theorem dX8_note_135 : decode cX8_note 135 = .ok (.iadd, 1) := by decide +kernel
theorem dX8_note_136 : decode cX8_note 136 = .ok (.aload_n 1, 1) := by decide +kernel
theorem dX8_note_137 : decode cX8_note 137 = .ok (.getfield 45, 3) := by decide +kernel
theorem dX8_note_140 : decode cX8_note 140 = .ok (.iastore, 1) := by decide +kernel
theorem dX8_note_141 : decode cX8_note 141 = .ok (.aload_n 0, 1) := by decide +kernel
theorem dX8_note_142 : decode cX8_note 142 = .ok (.getfield 11, 3) := by decide +kernel
theorem dX8_note_145 : decode cX8_note 145 = .ok (.iload_n 3, 1) := by decide +kernel
theorem dX8_note_146 : decode cX8_note 146 = .ok (.bipush 8, 2) := by decide +kernel
theorem dX8_note_148 : decode cX8_note 148 = .ok (.iadd, 1) := by decide +kernel
theorem dX8_note_149 : decode cX8_note 149 = .ok (.aload_n 1, 1) := by decide +kernel
theorem dX8_note_150 : decode cX8_note 150 = .ok (.getfield 48, 3) := by decide +kernel
theorem dX8_note_153 : decode cX8_note 153 = .ok (.iastore, 1) := by decide +kernel
theorem dX8_note_154 : decode cX8_note 154 = .ok (.aload_n 0, 1) := by decide +kernel
theorem dX8_note_155 : decode cX8_note 155 = .ok (.dup, 1) := by decide +kernel
theorem dX8_note_156 : decode cX8_note 156 = .ok (.getfield 15, 3) := by decide +kernel
theorem dX8_note_159 : decode cX8_note 159 = .ok (.iconst 1, 1) := by decide +kernel
theorem dX8_note_160 : decode cX8_note 160 = .ok (.iadd, 1) := by decide +kernel
theorem dX8_note_161 : decode cX8_note 161 = .ok (.putfield 15, 3) := by decide +kernel
theorem dX8_note_164 : decode cX8_note 164 = .ok (.return_, 1) := by decide +kernel
theorem dX8_takeBack_0 : decode cX8_takeBack 0 = .ok (.aload_n 0, 1) := by decide +kernel
theorem dX8_takeBack_1 : decode cX8_takeBack 1 = .ok (.getfield 15, 3) := by decide +kernel
theorem dX8_takeBack_4 : decode cX8_takeBack 4 = .ok (.ifCond .gt 5, 3) := by decide +kernel
theorem dX8_takeBack_7 : decode cX8_takeBack 7 = .ok (.iconst (-1), 1) := by decide +kernel
theorem dX8_takeBack_8 : decode cX8_takeBack 8 = .ok (.ireturn, 1) := by decide +kernel
theorem dX8_takeBack_9 : decode cX8_takeBack 9 = .ok (.aload_n 0, 1) := by decide +kernel
theorem dX8_takeBack_10 : decode cX8_takeBack 10 = .ok (.dup, 1) := by decide +kernel
theorem dX8_takeBack_11 : decode cX8_takeBack 11 = .ok (.getfield 15, 3) := by decide +kernel
theorem dX8_takeBack_14 : decode cX8_takeBack 14 = .ok (.iconst 1, 1) := by decide +kernel
theorem dX8_takeBack_15 : decode cX8_takeBack 15 = .ok (.isub, 1) := by decide +kernel
theorem dX8_takeBack_16 : decode cX8_takeBack 16 = .ok (.putfield 15, 3) := by decide +kernel
theorem dX8_takeBack_19 : decode cX8_takeBack 19 = .ok (.aload_n 0, 1) := by decide +kernel
theorem dX8_takeBack_20 : decode cX8_takeBack 20 = .ok (.getfield 15, 3) := by decide +kernel
theorem dX8_takeBack_23 : decode cX8_takeBack 23 = .ok (.bipush 9, 2) := by decide +kernel
theorem dX8_takeBack_25 : decode cX8_takeBack 25 = .ok (.imul, 1) := by decide +kernel
theorem dX8_takeBack_26 : decode cX8_takeBack 26 = .ok (.istore_n 2, 1) := by decide +kernel
theorem dX8_takeBack_27 : decode cX8_takeBack 27 = .ok (.aload_n 0, 1) := by decide +kernel
theorem dX8_takeBack_28 : decode cX8_takeBack 28 = .ok (.getfield 11, 3) := by decide +kernel
theorem dX8_takeBack_31 : decode cX8_takeBack 31 = .ok (.iload_n 2, 1) := by decide +kernel
theorem dX8_takeBack_32 : decode cX8_takeBack 32 = .ok (.iaload, 1) := by decide +kernel
theorem dX8_takeBack_33 : decode cX8_takeBack 33 = .ok (.istore_n 3, 1) := by decide +kernel
theorem dX8_takeBack_34 : decode cX8_takeBack 34 = .ok (.aload_n 1, 1) := by decide +kernel
theorem dX8_takeBack_35 : decode cX8_takeBack 35 = .ok (.getfield 25, 3) := by decide +kernel
theorem dX8_takeBack_38 : decode cX8_takeBack 38 = .ok (.iload_n 3, 1) := by decide +kernel
theorem dX8_takeBack_39 : decode cX8_takeBack 39 = .ok (.aload_n 0, 1) := by decide +kernel
theorem dX8_takeBack_40 : decode cX8_takeBack 40 = .ok (.getfield 11, 3) := by decide +kernel
theorem dX8_takeBack_43 : decode cX8_takeBack 43 = .ok (.iload_n 2, 1) := by decide +kernel
theorem dX8_takeBack_44 : decode cX8_takeBack 44 = .ok (.iconst 1, 1) := by decide +kernel
theorem dX8_takeBack_45 : decode cX8_takeBack 45 = .ok (.iadd, 1) := by decide +kernel
theorem dX8_takeBack_46 : decode cX8_takeBack 46 = .ok (.iaload, 1) := by decide +kernel
theorem dX8_takeBack_47 : decode cX8_takeBack 47 = .ok (.iastore, 1) := by decide +kernel
theorem dX8_takeBack_48 : decode cX8_takeBack 48 = .ok (.aload_n 1, 1) := by decide +kernel
theorem dX8_takeBack_49 : decode cX8_takeBack 49 = .ok (.getfield 30, 3) := by decide +kernel
theorem dX8_takeBack_52 : decode cX8_takeBack 52 = .ok (.iload_n 3, 1) := by decide +kernel
theorem dX8_takeBack_53 : decode cX8_takeBack 53 = .ok (.aload_n 0, 1) := by decide +kernel
theorem dX8_takeBack_54 : decode cX8_takeBack 54 = .ok (.getfield 11, 3) := by decide +kernel
theorem dX8_takeBack_57 : decode cX8_takeBack 57 = .ok (.iload_n 2, 1) := by decide +kernel
theorem dX8_takeBack_58 : decode cX8_takeBack 58 = .ok (.iconst 2, 1) := by decide +kernel
theorem dX8_takeBack_59 : decode cX8_takeBack 59 = .ok (.iadd, 1) := by decide +kernel
theorem dX8_takeBack_60 : decode cX8_takeBack 60 = .ok (.iaload, 1) := by decide +kernel
theorem dX8_takeBack_61 : decode cX8_takeBack 61 = .ok (.iastore, 1) := by decide +kernel
theorem dX8_takeBack_62 : decode cX8_takeBack 62 = .ok (.aload_n 1, 1) := by decide +kernel
theorem dX8_takeBack_63 : decode cX8_takeBack 63 = .ok (.getfield 33, 3) := by decide +kernel
theorem dX8_takeBack_66 : decode cX8_takeBack 66 = .ok (.iload_n 3, 1) := by decide +kernel
theorem dX8_takeBack_67 : decode cX8_takeBack 67 = .ok (.aload_n 0, 1) := by decide +kernel
theorem dX8_takeBack_68 : decode cX8_takeBack 68 = .ok (.getfield 11, 3) := by decide +kernel
theorem dX8_takeBack_71 : decode cX8_takeBack 71 = .ok (.iload_n 2, 1) := by decide +kernel
theorem dX8_takeBack_72 : decode cX8_takeBack 72 = .ok (.iconst 3, 1) := by decide +kernel
theorem dX8_takeBack_73 : decode cX8_takeBack 73 = .ok (.iadd, 1) := by decide +kernel
theorem dX8_takeBack_74 : decode cX8_takeBack 74 = .ok (.iaload, 1) := by decide +kernel
theorem dX8_takeBack_75 : decode cX8_takeBack 75 = .ok (.iastore, 1) := by decide +kernel
theorem dX8_takeBack_76 : decode cX8_takeBack 76 = .ok (.aload_n 1, 1) := by decide +kernel
theorem dX8_takeBack_77 : decode cX8_takeBack 77 = .ok (.getfield 36, 3) := by decide +kernel
theorem dX8_takeBack_80 : decode cX8_takeBack 80 = .ok (.iload_n 3, 1) := by decide +kernel
theorem dX8_takeBack_81 : decode cX8_takeBack 81 = .ok (.aload_n 0, 1) := by decide +kernel
theorem dX8_takeBack_82 : decode cX8_takeBack 82 = .ok (.getfield 11, 3) := by decide +kernel
theorem dX8_takeBack_85 : decode cX8_takeBack 85 = .ok (.iload_n 2, 1) := by decide +kernel
theorem dX8_takeBack_86 : decode cX8_takeBack 86 = .ok (.iconst 4, 1) := by decide +kernel
theorem dX8_takeBack_87 : decode cX8_takeBack 87 = .ok (.iadd, 1) := by decide +kernel
theorem dX8_takeBack_88 : decode cX8_takeBack 88 = .ok (.iaload, 1) := by decide +kernel
theorem dX8_takeBack_89 : decode cX8_takeBack 89 = .ok (.iastore, 1) := by decide +kernel
theorem dX8_takeBack_90 : decode cX8_takeBack 90 = .ok (.aload_n 1, 1) := by decide +kernel
theorem dX8_takeBack_91 : decode cX8_takeBack 91 = .ok (.aload_n 0, 1) := by decide +kernel
theorem dX8_takeBack_92 : decode cX8_takeBack 92 = .ok (.getfield 11, 3) := by decide +kernel
theorem dX8_takeBack_95 : decode cX8_takeBack 95 = .ok (.iload_n 2, 1) := by decide +kernel
theorem dX8_takeBack_96 : decode cX8_takeBack 96 = .ok (.iconst 5, 1) := by decide +kernel
theorem dX8_takeBack_97 : decode cX8_takeBack 97 = .ok (.iadd, 1) := by decide +kernel
theorem dX8_takeBack_98 : decode cX8_takeBack 98 = .ok (.iaload, 1) := by decide +kernel
theorem dX8_takeBack_99 : decode cX8_takeBack 99 = .ok (.putfield 39, 3) := by decide +kernel
theorem dX8_takeBack_102 : decode cX8_takeBack 102 = .ok (.aload_n 1, 1) := by decide +kernel
theorem dX8_takeBack_103 : decode cX8_takeBack 103 = .ok (.aload_n 0, 1) := by decide +kernel
theorem dX8_takeBack_104 : decode cX8_takeBack 104 = .ok (.getfield 11, 3) := by decide +kernel
theorem dX8_takeBack_107 : decode cX8_takeBack 107 = .ok (.iload_n 2, 1) := by decide +kernel
theorem dX8_takeBack_108 : decode cX8_takeBack 108 = .ok (.bipush 6, 2) := by decide +kernel
theorem dX8_takeBack_110 : decode cX8_takeBack 110 = .ok (.iadd, 1) := by decide +kernel
theorem dX8_takeBack_111 : decode cX8_takeBack 111 = .ok (.iaload, 1) := by decide +kernel
theorem dX8_takeBack_112 : decode cX8_takeBack 112 = .ok (.putfield 42, 3) := by decide +kernel
theorem dX8_takeBack_115 : decode cX8_takeBack 115 = .ok (.aload_n 1, 1) := by decide +kernel
theorem dX8_takeBack_116 : decode cX8_takeBack 116 = .ok (.aload_n 0, 1) := by decide +kernel
theorem dX8_takeBack_117 : decode cX8_takeBack 117 = .ok (.getfield 11, 3) := by decide +kernel
theorem dX8_takeBack_120 : decode cX8_takeBack 120 = .ok (.iload_n 2, 1) := by decide +kernel
theorem dX8_takeBack_121 : decode cX8_takeBack 121 = .ok (.bipush 7, 2) := by decide +kernel
theorem dX8_takeBack_123 : decode cX8_takeBack 123 = .ok (.iadd, 1) := by decide +kernel
theorem dX8_takeBack_124 : decode cX8_takeBack 124 = .ok (.iaload, 1) := by decide +kernel
theorem dX8_takeBack_125 : decode cX8_takeBack 125 = .ok (.putfield 45, 3) := by decide +kernel
theorem dX8_takeBack_128 : decode cX8_takeBack 128 = .ok (.aload_n 1, 1) := by decide +kernel
theorem dX8_takeBack_129 : decode cX8_takeBack 129 = .ok (.aload_n 0, 1) := by decide +kernel
theorem dX8_takeBack_130 : decode cX8_takeBack 130 = .ok (.getfield 11, 3) := by decide +kernel
theorem dX8_takeBack_133 : decode cX8_takeBack 133 = .ok (.iload_n 2, 1) := by decide +kernel
theorem dX8_takeBack_134 : decode cX8_takeBack 134 = .ok (.bipush 8, 2) := by decide +kernel
theorem dX8_takeBack_136 : decode cX8_takeBack 136 = .ok (.iadd, 1) := by decide +kernel
theorem dX8_takeBack_137 : decode cX8_takeBack 137 = .ok (.iaload, 1) := by decide +kernel
theorem dX8_takeBack_138 : decode cX8_takeBack 138 = .ok (.putfield 48, 3) := by decide +kernel
theorem dX8_takeBack_141 : decode cX8_takeBack 141 = .ok (.aload_n 0, 1) := by decide +kernel
theorem dX8_takeBack_142 : decode cX8_takeBack 142 = .ok (.getfield 15, 3) := by decide +kernel
theorem dX8_takeBack_145 : decode cX8_takeBack 145 = .ok (.ireturn, 1) := by decide +kernel
