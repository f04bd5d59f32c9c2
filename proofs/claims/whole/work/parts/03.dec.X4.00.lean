theorem dX4_init_0 : decode cX4_init 0 = .ok (.aload_n 0, 1) := by decide +kernel
theorem dX4_init_1 : decode cX4_init 1 = .ok (.invokespecial 3, 3) := by decide +kernel
theorem dX4_init_4 : decode cX4_init 4 = .ok (.aload_n 0, 1) := by decide +kernel
theorem dX4_init_5 : decode cX4_init 5 = .ok (.bipush 6, 2) := by decide +kernel
theorem dX4_init_7 : decode cX4_init 7 = .ok (.newarray .int, 2) := by decide +kernel
theorem dX4_init_9 : decode cX4_init 9 = .ok (.putfield 9, 3) := by decide +kernel
theorem dX4_init_12 : decode cX4_init 12 = .ok (.aload_n 0, 1) := by decide +kernel
theorem dX4_init_13 : decode cX4_init 13 = .ok (.bipush 6, 2) := by decide +kernel
theorem dX4_init_15 : decode cX4_init 15 = .ok (.newarray .int, 2) := by decide +kernel
theorem dX4_init_17 : decode cX4_init 17 = .ok (.putfield 15, 3) := by decide +kernel
theorem dX4_init_20 : decode cX4_init 20 = .ok (.aload_n 0, 1) := by decide +kernel
theorem dX4_init_21 : decode cX4_init 21 = .ok (.bipush 6, 2) := by decide +kernel
theorem dX4_init_23 : decode cX4_init 23 = .ok (.newarray .int, 2) := by decide +kernel
theorem dX4_init_25 : decode cX4_init 25 = .ok (.putfield 18, 3) := by decide +kernel
theorem dX4_init_28 : decode cX4_init 28 = .ok (.aload_n 0, 1) := by decide +kernel
theorem dX4_init_29 : decode cX4_init 29 = .ok (.bipush 6, 2) := by decide +kernel
theorem dX4_init_31 : decode cX4_init 31 = .ok (.newarray .int, 2) := by decide +kernel
theorem dX4_init_33 : decode cX4_init 33 = .ok (.putfield 21, 3) := by decide +kernel
theorem dX4_init_36 : decode cX4_init 36 = .ok (.aload_n 0, 1) := by decide +kernel
theorem dX4_init_37 : decode cX4_init 37 = .ok (.bipush 6, 2) := by decide +kernel
theorem dX4_init_39 : decode cX4_init 39 = .ok (.newarray .int, 2) := by decide +kernel
theorem dX4_init_41 : decode cX4_init 41 = .ok (.putfield 24, 3) := by decide +kernel
theorem dX4_init_44 : decode cX4_init 44 = .ok (.aload_n 0, 1) := by decide +kernel
theorem dX4_init_45 : decode cX4_init 45 = .ok (.bipush 6, 2) := by decide +kernel
theorem dX4_init_47 : decode cX4_init 47 = .ok (.newarray .int, 2) := by decide +kernel
theorem dX4_init_49 : decode cX4_init 49 = .ok (.putfield 27, 3) := by decide +kernel
theorem dX4_init_52 : decode cX4_init 52 = .ok (.aload_n 0, 1) := by decide +kernel
theorem dX4_init_53 : decode cX4_init 53 = .ok (.iconst (-1), 1) := by decide +kernel
theorem dX4_init_54 : decode cX4_init 54 = .ok (.putfield 30, 3) := by decide +kernel
theorem dX4_init_57 : decode cX4_init 57 = .ok (.return_, 1) := by decide +kernel
theorem dX4_begin_0 : decode cX4_begin 0 = .ok (.iconst 0, 1) := by decide +kernel
theorem dX4_begin_1 : decode cX4_begin 1 = .ok (.istore_n 2, 1) := by decide +kernel
theorem dX4_begin_2 : decode cX4_begin 2 = .ok (.iload_n 2, 1) := by decide +kernel
theorem dX4_begin_3 : decode cX4_begin 3 = .ok (.aload_n 1, 1) := by decide +kernel
theorem dX4_begin_4 : decode cX4_begin 4 = .ok (.getfield 34, 3) := by decide +kernel
theorem dX4_begin_7 : decode cX4_begin 7 = .ok (.if_icmp .ge 59, 3) := by decide +kernel
theorem dX4_begin_10 : decode cX4_begin 10 = .ok (.aload_n 0, 1) := by decide +kernel
theorem dX4_begin_11 : decode cX4_begin 11 = .ok (.getfield 9, 3) := by decide +kernel
theorem dX4_begin_14 : decode cX4_begin 14 = .ok (.iload_n 2, 1) := by decide +kernel
theorem dX4_begin_15 : decode cX4_begin 15 = .ok (.aload_n 1, 1) := by decide +kernel
theorem dX4_begin_16 : decode cX4_begin 16 = .ok (.getfield 39, 3) := by decide +kernel
theorem dX4_begin_19 : decode cX4_begin 19 = .ok (.iload_n 2, 1) := by decide +kernel
theorem dX4_begin_20 : decode cX4_begin 20 = .ok (.iaload, 1) := by decide +kernel
theorem dX4_begin_21 : decode cX4_begin 21 = .ok (.iastore, 1) := by decide +kernel
theorem dX4_begin_22 : decode cX4_begin 22 = .ok (.aload_n 0, 1) := by decide +kernel
theorem dX4_begin_23 : decode cX4_begin 23 = .ok (.getfield 15, 3) := by decide +kernel
theorem dX4_begin_26 : decode cX4_begin 26 = .ok (.iload_n 2, 1) := by decide +kernel
theorem dX4_begin_27 : decode cX4_begin 27 = .ok (.aload_n 1, 1) := by decide +kernel
theorem dX4_begin_28 : decode cX4_begin 28 = .ok (.getfield 40, 3) := by decide +kernel
theorem dX4_begin_31 : decode cX4_begin 31 = .ok (.iload_n 2, 1) := by decide +kernel
theorem dX4_begin_32 : decode cX4_begin 32 = .ok (.iaload, 1) := by decide +kernel
theorem dX4_begin_33 : decode cX4_begin 33 = .ok (.iastore, 1) := by decide +kernel
theorem dX4_begin_34 : decode cX4_begin 34 = .ok (.aload_n 0, 1) := by decide +kernel
theorem dX4_begin_35 : decode cX4_begin 35 = .ok (.getfield 18, 3) := by decide +kernel
theorem dX4_begin_38 : decode cX4_begin 38 = .ok (.iload_n 2, 1) := by decide +kernel
theorem dX4_begin_39 : decode cX4_begin 39 = .ok (.aload_n 1, 1) := by decide +kernel
theorem dX4_begin_40 : decode cX4_begin 40 = .ok (.getfield 41, 3) := by decide +kernel
theorem dX4_begin_43 : decode cX4_begin 43 = .ok (.iload_n 2, 1) := by decide +kernel
theorem dX4_begin_44 : decode cX4_begin 44 = .ok (.iaload, 1) := by decide +kernel
theorem dX4_begin_45 : decode cX4_begin 45 = .ok (.iastore, 1) := by decide +kernel
theorem dX4_begin_46 : decode cX4_begin 46 = .ok (.aload_n 0, 1) := by decide +kernel
theorem dX4_begin_47 : decode cX4_begin 47 = .ok (.getfield 21, 3) := by decide +kernel
theorem dX4_begin_50 : decode cX4_begin 50 = .ok (.iload_n 2, 1) := by decide +kernel
theorem dX4_begin_51 : decode cX4_begin 51 = .ok (.iconst 0, 1) := by decide +kernel
theorem dX4_begin_52 : decode cX4_begin 52 = .ok (.iastore, 1) := by decide +kernel
theorem dX4_begin_53 : decode cX4_begin 53 = .ok (.aload_n 0, 1) := by decide +kernel
theorem dX4_begin_54 : decode cX4_begin 54 = .ok (.getfield 24, 3) := by decide +kernel
theorem dX4_begin_57 : decode cX4_begin 57 = .ok (.iload_n 2, 1) := by decide +kernel
theorem dX4_begin_58 : decode cX4_begin 58 = .ok (.iconst (-1), 1) := by decide +kernel
theorem dX4_begin_59 : decode cX4_begin 59 = .ok (.iastore, 1) := by decide +kernel
theorem dX4_begin_60 : decode cX4_begin 60 = .ok (.iinc 2 1, 3) := by decide +kernel
theorem dX4_begin_63 : decode cX4_begin 63 = .ok (.goto (-61), 3) := by decide +kernel
theorem dX4_begin_66 : decode cX4_begin 66 = .ok (.iconst 0, 1) := by decide +kernel
theorem dX4_begin_67 : decode cX4_begin 67 = .ok (.istore_n 2, 1) := by decide +kernel
theorem dX4_begin_68 : decode cX4_begin 68 = .ok (.iload_n 2, 1) := by decide +kernel
theorem dX4_begin_69 : decode cX4_begin 69 = .ok (.aload_n 1, 1) := by decide +kernel
theorem dX4_begin_70 : decode cX4_begin 70 = .ok (.getfield 42, 3) := by decide +kernel
theorem dX4_begin_73 : decode cX4_begin 73 = .ok (.if_icmp .ge 21, 3) := by decide +kernel
theorem dX4_begin_76 : decode cX4_begin 76 = .ok (.aload_n 0, 1) := by decide +kernel
theorem dX4_begin_77 : decode cX4_begin 77 = .ok (.getfield 27, 3) := by decide +kernel
theorem dX4_begin_80 : decode cX4_begin 80 = .ok (.iload_n 2, 1) := by decide +kernel
theorem dX4_begin_81 : decode cX4_begin 81 = .ok (.aload_n 1, 1) := by decide +kernel
theorem dX4_begin_82 : decode cX4_begin 82 = .ok (.getfield 45, 3) := by decide +kernel
theorem dX4_begin_85 : decode cX4_begin 85 = .ok (.iload_n 2, 1) := by decide +kernel
theorem dX4_begin_86 : decode cX4_begin 86 = .ok (.iaload, 1) := by decide +kernel
theorem dX4_begin_87 : decode cX4_begin 87 = .ok (.iastore, 1) := by decide +kernel
theorem dX4_begin_88 : decode cX4_begin 88 = .ok (.iinc 2 1, 3) := by decide +kernel
theorem dX4_begin_91 : decode cX4_begin 91 = .ok (.goto (-23), 3) := by decide +kernel
theorem dX4_begin_94 : decode cX4_begin 94 = .ok (.aload_n 0, 1) := by decide +kernel
theorem dX4_begin_95 : decode cX4_begin 95 = .ok (.iconst 1, 1) := by decide +kernel
theorem dX4_begin_96 : decode cX4_begin 96 = .ok (.aload_n 1, 1) := by decide +kernel
theorem dX4_begin_97 : decode cX4_begin 97 = .ok (.getfield 34, 3) := by decide +kernel
theorem dX4_begin_100 : decode cX4_begin 100 = .ok (.ishl, 1) := by decide +kernel
theorem dX4_begin_101 : decode cX4_begin 101 = .ok (.iconst 1, 1) := by decide +kernel
theorem dX4_begin_102 : decode cX4_begin 102 = .ok (.isub, 1) := by decide +kernel
theorem dX4_begin_103 : decode cX4_begin 103 = .ok (.putfield 46, 3) := by decide +kernel
theorem dX4_begin_106 : decode cX4_begin 106 = .ok (.aload_n 0, 1) := by decide +kernel
theorem dX4_begin_107 : decode cX4_begin 107 = .ok (.iconst 1, 1) := by decide +kernel
theorem dX4_begin_108 : decode cX4_begin 108 = .ok (.aload_n 1, 1) := by decide +kernel
theorem dX4_begin_109 : decode cX4_begin 109 = .ok (.getfield 42, 3) := by decide +kernel
theorem dX4_begin_112 : decode cX4_begin 112 = .ok (.ishl, 1) := by decide +kernel
theorem dX4_begin_113 : decode cX4_begin 113 = .ok (.iconst 1, 1) := by decide +kernel
theorem dX4_begin_114 : decode cX4_begin 114 = .ok (.isub, 1) := by decide +kernel
theorem dX4_begin_115 : decode cX4_begin 115 = .ok (.putfield 49, 3) := by decide +kernel
theorem dX4_begin_118 : decode cX4_begin 118 = .ok (.aload_n 0, 1) := by decide +kernel
theorem dX4_begin_119 : decode cX4_begin 119 = .ok (.iconst 0, 1) := by decide +kernel
theorem dX4_begin_120 : decode cX4_begin 120 = .ok (.putfield 52, 3) := by decide +kernel
theorem dX4_begin_123 : decode cX4_begin 123 = .ok (.aload_n 0, 1) := by decide +kernel
theorem dX4_begin_124 : decode cX4_begin 124 = .ok (.aload_n 1, 1) := by decide +kernel
theorem dX4_begin_125 : decode cX4_begin 125 = .ok (.getfield 55, 3) := by decide +kernel
theorem dX4_begin_128 : decode cX4_begin 128 = .ok (.putfield 58, 3) := by decide +kernel
theorem dX4_begin_131 : decode cX4_begin 131 = .ok (.aload_n 0, 1) := by decide +kernel
theorem dX4_begin_132 : decode cX4_begin 132 = .ok (.iconst (-1), 1) := by decide +kernel
theorem dX4_begin_133 : decode cX4_begin 133 = .ok (.putfield 30, 3) := by decide +kernel
theorem dX4_begin_136 : decode cX4_begin 136 = .ok (.aload_n 0, 1) := by decide +kernel
theorem dX4_begin_137 : decode cX4_begin 137 = .ok (.iconst 0, 1) := by decide +kernel
theorem dX4_begin_138 : decode cX4_begin 138 = .ok (.putfield 61, 3) := by decide +kernel
theorem dX4_begin_141 : decode cX4_begin 141 = .ok (.aload_n 0, 1) := by decide +kernel
theorem dX4_begin_142 : decode cX4_begin 142 = .ok (.iconst 0, 1) := by decide +kernel
theorem dX4_begin_143 : decode cX4_begin 143 = .ok (.putfield 64, 3) := by decide +kernel
theorem dX4_begin_146 : decode cX4_begin 146 = .ok (.aload_n 0, 1) := by decide +kernel
theorem dX4_begin_147 : decode cX4_begin 147 = .ok (.aload_n 1, 1) := by decide +kernel
theorem dX4_begin_148 : decode cX4_begin 148 = .ok (.getfield 67, 3) := by decide +kernel
theorem dX4_begin_151 : decode cX4_begin 151 = .ok (.putfield 70, 3) := by decide +kernel
theorem dX4_begin_154 : decode cX4_begin 154 = .ok (.aload_n 0, 1) := by decide +kernel
theorem dX4_begin_155 : decode cX4_begin 155 = .ok (.iconst 0, 1) := by decide +kernel
theorem dX4_begin_156 : decode cX4_begin 156 = .ok (.putfield 73, 3) := by decide +kernel
theorem dX4_begin_159 : decode cX4_begin 159 = .ok (.return_, 1) := by decide +kernel
theorem dX4_become_0 : decode cX4_become 0 = .ok (.aload_n 1, 1) := by decide +kernel
theorem dX4_become_1 : decode cX4_become 1 = .ok (.getfield 9, 3) := by decide +kernel
theorem dX4_become_4 : decode cX4_become 4 = .ok (.iconst 0, 1) := by decide +kernel
theorem dX4_become_5 : decode cX4_become 5 = .ok (.aload_n 0, 1) := by decide +kernel
theorem dX4_become_6 : decode cX4_become 6 = .ok (.getfield 9, 3) := by decide +kernel
theorem dX4_become_9 : decode cX4_become 9 = .ok (.iconst 0, 1) := by decide +kernel
theorem dX4_become_10 : decode cX4_become 10 = .ok (.bipush 6, 2) := by decide +kernel
theorem dX4_become_12 : decode cX4_become 12 = .ok (.invokestatic 77, 3) := by decide +kernel
theorem dX4_become_15 : decode cX4_become 15 = .ok (.aload_n 1, 1) := by decide +kernel
theorem dX4_become_16 : decode cX4_become 16 = .ok (.getfield 15, 3) := by decide +kernel
theorem dX4_become_19 : decode cX4_become 19 = .ok (.iconst 0, 1) := by decide +kernel
theorem dX4_become_20 : decode cX4_become 20 = .ok (.aload_n 0, 1) := by decide +kernel
theorem dX4_become_21 : decode cX4_become 21 = .ok (.getfield 15, 3) := by decide +kernel
theorem dX4_become_24 : decode cX4_become 24 = .ok (.iconst 0, 1) := by decide +kernel
theorem dX4_become_25 : decode cX4_become 25 = .ok (.bipush 6, 2) := by decide +kernel
theorem dX4_become_27 : decode cX4_become 27 = .ok (.invokestatic 77, 3) := by decide +kernel
theorem dX4_become_30 : decode cX4_become 30 = .ok (.aload_n 1, 1) := by decide +kernel
theorem dX4_become_31 : decode cX4_become 31 = .ok (.getfield 18, 3) := by decide +kernel
theorem dX4_become_34 : decode cX4_become 34 = .ok (.iconst 0, 1) := by decide +kernel
theorem dX4_become_35 : decode cX4_become 35 = .ok (.aload_n 0, 1) := by decide +kernel
theorem dX4_become_36 : decode cX4_become 36 = .ok (.getfield 18, 3) := by decide +kernel
theorem dX4_become_39 : decode cX4_become 39 = .ok (.iconst 0, 1) := by decide +kernel
theorem dX4_become_40 : decode cX4_become 40 = .ok (.bipush 6, 2) := by decide +kernel
theorem dX4_become_42 : decode cX4_become 42 = .ok (.invokestatic 77, 3) := by decide +kernel
theorem dX4_become_45 : decode cX4_become 45 = .ok (.aload_n 1, 1) := by decide +kernel
theorem dX4_become_46 : decode cX4_become 46 = .ok (.getfield 21, 3) := by decide +kernel
theorem dX4_become_49 : decode cX4_become 49 = .ok (.iconst 0, 1) := by decide +kernel
theorem dX4_become_50 : decode cX4_become 50 = .ok (.aload_n 0, 1) := by decide +kernel
theorem dX4_become_51 : decode cX4_become 51 = .ok (.getfield 21, 3) := by decide +kernel
theorem dX4_become_54 : decode cX4_become 54 = .ok (.iconst 0, 1) := by decide +kernel
theorem dX4_become_55 : decode cX4_become 55 = .ok (.bipush 6, 2) := by decide +kernel
theorem dX4_become_57 : decode cX4_become 57 = .ok (.invokestatic 77, 3) := by decide +kernel
theorem dX4_become_60 : decode cX4_become 60 = .ok (.aload_n 1, 1) := by decide +kernel
theorem dX4_become_61 : decode cX4_become 61 = .ok (.getfield 24, 3) := by decide +kernel
theorem dX4_become_64 : decode cX4_become 64 = .ok (.iconst 0, 1) := by decide +kernel
theorem dX4_become_65 : decode cX4_become 65 = .ok (.aload_n 0, 1) := by decide +kernel
theorem dX4_become_66 : decode cX4_become 66 = .ok (.getfield 24, 3) := by decide +kernel
theorem dX4_become_69 : decode cX4_become 69 = .ok (.iconst 0, 1) := by decide +kernel
theorem dX4_become_70 : decode cX4_become 70 = .ok (.bipush 6, 2) := by decide +kernel
theorem dX4_become_72 : decode cX4_become 72 = .ok (.invokestatic 77, 3) := by decide +kernel
theorem dX4_become_75 : decode cX4_become 75 = .ok (.aload_n 1, 1) := by decide +kernel
theorem dX4_become_76 : decode cX4_become 76 = .ok (.getfield 27, 3) := by decide +kernel
theorem dX4_become_79 : decode cX4_become 79 = .ok (.iconst 0, 1) := by decide +kernel
theorem dX4_become_80 : decode cX4_become 80 = .ok (.aload_n 0, 1) := by decide +kernel
theorem dX4_become_81 : decode cX4_become 81 = .ok (.getfield 27, 3) := by decide +kernel
theorem dX4_become_84 : decode cX4_become 84 = .ok (.iconst 0, 1) := by decide +kernel
theorem dX4_become_85 : decode cX4_become 85 = .ok (.bipush 6, 2) := by decide +kernel
theorem dX4_become_87 : decode cX4_become 87 = .ok (.invokestatic 77, 3) := by decide +kernel
theorem dX4_become_90 : decode cX4_become 90 = .ok (.aload_n 0, 1) := by decide +kernel
theorem dX4_become_91 : decode cX4_become 91 = .ok (.aload_n 1, 1) := by decide +kernel
theorem dX4_become_92 : decode cX4_become 92 = .ok (.getfield 46, 3) := by decide +kernel
theorem dX4_become_95 : decode cX4_become 95 = .ok (.putfield 46, 3) := by decide +kernel
theorem dX4_become_98 : decode cX4_become 98 = .ok (.aload_n 0, 1) := by decide +kernel
theorem dX4_become_99 : decode cX4_become 99 = .ok (.aload_n 1, 1) := by decide +kernel
theorem dX4_become_100 : decode cX4_become 100 = .ok (.getfield 49, 3) := by decide +kernel
theorem dX4_become_103 : decode cX4_become 103 = .ok (.putfield 49, 3) := by decide +kernel
theorem dX4_become_106 : decode cX4_become 106 = .ok (.aload_n 0, 1) := by decide +kernel
theorem dX4_become_107 : decode cX4_become 107 = .ok (.aload_n 1, 1) := by decide +kernel
theorem dX4_become_108 : decode cX4_become 108 = .ok (.getfield 52, 3) := by decide +kernel
theorem dX4_become_111 : decode cX4_become 111 = .ok (.putfield 52, 3) := by decide +kernel
theorem dX4_become_114 : decode cX4_become 114 = .ok (.aload_n 0, 1) := by decide +kernel
theorem dX4_become_115 : decode cX4_become 115 = .ok (.aload_n 1, 1) := by decide +kernel
theorem dX4_become_116 : decode cX4_become 116 = .ok (.getfield 58, 3) := by decide +kernel
theorem dX4_become_119 : decode cX4_become 119 = .ok (.putfield 58, 3) := by decide +kernel
theorem dX4_become_122 : decode cX4_become 122 = .ok (.aload_n 0, 1) := by decide +kernel
theorem dX4_become_123 : decode cX4_become 123 = .ok (.aload_n 1, 1) := by decide +kernel
theorem dX4_become_124 : decode cX4_become 124 = .ok (.getfield 30, 3) := by decide +kernel
theorem dX4_become_127 : decode cX4_become 127 = .ok (.putfield 30, 3) := by decide +kernel
theorem dX4_become_130 : decode cX4_become 130 = .ok (.aload_n 0, 1) := by decide +kernel
theorem dX4_become_131 : decode cX4_become 131 = .ok (.aload_n 1, 1) := by decide +kernel
theorem dX4_become_132 : decode cX4_become 132 = .ok (.getfield 61, 3) := by decide +kernel
theorem dX4_become_135 : decode cX4_become 135 = .ok (.putfield 61, 3) := by decide +kernel
theorem dX4_become_138 : decode cX4_become 138 = .ok (.aload_n 0, 1) := by decide +kernel
theorem dX4_become_139 : decode cX4_become 139 = .ok (.aload_n 1, 1) := by decide +kernel
theorem dX4_become_140 : decode cX4_become 140 = .ok (.getfield 64, 3) := by decide +kernel
theorem dX4_become_143 : decode cX4_become 143 = .ok (.putfield 64, 3) := by decide +kernel
theorem dX4_become_146 : decode cX4_become 146 = .ok (.aload_n 0, 1) := by decide +kernel
theorem dX4_become_147 : decode cX4_become 147 = .ok (.aload_n 1, 1) := by decide +kernel
theorem dX4_become_148 : decode cX4_become 148 = .ok (.getfield 70, 3) := by decide +kernel
theorem dX4_become_151 : decode cX4_become 151 = .ok (.putfield 70, 3) := by decide +kernel
theorem dX4_become_154 : decode cX4_become 154 = .ok (.aload_n 0, 1) := by decide +kernel
theorem dX4_become_155 : decode cX4_become 155 = .ok (.aload_n 1, 1) := by decide +kernel
theorem dX4_become_156 : decode cX4_become 156 = .ok (.getfield 73, 3) := by decide +kernel
theorem dX4_become_159 : decode cX4_become 159 = .ok (.putfield 73, 3) := by decide +kernel
theorem dX4_become_162 : decode cX4_become 162 = .ok (.return_, 1) := by decide +kernel
theorem dX4_holds_0 : decode cX4_holds 0 = .ok (.aload_n 0, 1) := by decide +kernel
theorem dX4_holds_1 : decode cX4_holds 1 = .ok (.getfield 46, 3) := by decide +kernel
theorem dX4_holds_4 : decode cX4_holds 4 = .ok (.iload_n 1, 1) := by decide +kernel
theorem dX4_holds_5 : decode cX4_holds 5 = .ok (.ishr, 1) := by decide +kernel
theorem dX4_holds_6 : decode cX4_holds 6 = .ok (.iconst 1, 1) := by decide +kernel
theorem dX4_holds_7 : decode cX4_holds 7 = .ok (.iand, 1) := by decide +kernel
theorem dX4_holds_8 : decode cX4_holds 8 = .ok (.iconst 1, 1) := by decide +kernel
theorem dX4_holds_9 : decode cX4_holds 9 = .ok (.if_icmp .ne 7, 3) := by decide +kernel
theorem dX4_holds_12 : decode cX4_holds 12 = .ok (.iconst 1, 1) := by decide +kernel
theorem dX4_holds_13 : decode cX4_holds 13 = .ok (.goto 4, 3) := by decide +kernel
theorem dX4_holds_16 : decode cX4_holds 16 = .ok (.iconst 0, 1) := by decide +kernel
theorem dX4_holds_17 : decode cX4_holds 17 = .ok (.ireturn, 1) := by decide +kernel
theorem dX4_hasFallenTo_0 : decode cX4_hasFallenTo 0 = .ok (.aload_n 0, 1) := by decide +kernel
theorem dX4_hasFallenTo_1 : decode cX4_hasFallenTo 1 = .ok (.getfield 73, 3) := by decide +kernel
theorem dX4_hasFallenTo_4 : decode cX4_hasFallenTo 4 = .ok (.ifCond .eq 15, 3) := by decide +kernel
theorem dX4_hasFallenTo_7 : decode cX4_hasFallenTo 7 = .ok (.aload_n 0, 1) := by decide +kernel
theorem dX4_hasFallenTo_8 : decode cX4_hasFallenTo 8 = .ok (.getfield 30, 3) := by decide +kernel
theorem dX4_hasFallenTo_11 : decode cX4_hasFallenTo 11 = .ok (.iload_n 1, 1) := by decide +kernel
theorem dX4_hasFallenTo_12 : decode cX4_hasFallenTo 12 = .ok (.if_icmp .ne 7, 3) := by decide +kernel
theorem dX4_hasFallenTo_15 : decode cX4_hasFallenTo 15 = .ok (.iconst 1, 1) := by decide +kernel
theorem dX4_hasFallenTo_16 : decode cX4_hasFallenTo 16 = .ok (.goto 4, 3) := by decide +kernel
theorem dX4_hasFallenTo_19 : decode cX4_hasFallenTo 19 = .ok (.iconst 0, 1) := by decide +kernel
theorem dX4_hasFallenTo_20 : decode cX4_hasFallenTo 20 = .ok (.ireturn, 1) := by decide +kernel
theorem dX4_isFirst_0 : decode cX4_isFirst 0 = .ok (.aload_n 0, 1) := by decide +kernel
theorem dX4_isFirst_1 : decode cX4_isFirst 1 = .ok (.getfield 49, 3) := by decide +kernel
theorem dX4_isFirst_4 : decode cX4_isFirst 4 = .ok (.iload_n 1, 1) := by decide +kernel
theorem dX4_isFirst_5 : decode cX4_isFirst 5 = .ok (.ishr, 1) := by decide +kernel
theorem dX4_isFirst_6 : decode cX4_isFirst 6 = .ok (.iconst 1, 1) := by decide +kernel
theorem dX4_isFirst_7 : decode cX4_isFirst 7 = .ok (.iand, 1) := by decide +kernel
theorem dX4_isFirst_8 : decode cX4_isFirst 8 = .ok (.iconst 1, 1) := by decide +kernel
theorem dX4_isFirst_9 : decode cX4_isFirst 9 = .ok (.if_icmp .ne 7, 3) := by decide +kernel
theorem dX4_isFirst_12 : decode cX4_isFirst 12 = .ok (.iconst 1, 1) := by decide +kernel
theorem dX4_isFirst_13 : decode cX4_isFirst 13 = .ok (.goto 4, 3) := by decide +kernel
theorem dX4_isFirst_16 : decode cX4_isFirst 16 = .ok (.iconst 0, 1) := by decide +kernel
theorem dX4_isFirst_17 : decode cX4_isFirst 17 = .ok (.ireturn, 1) := by decide +kernel
theorem dX4_growOlder_0 : decode cX4_growOlder 0 = .ok (.aload_n 0, 1) := by decide +kernel
theorem dX4_growOlder_1 : decode cX4_growOlder 1 = .ok (.getfield 15, 3) := by decide +kernel
theorem dX4_growOlder_4 : decode cX4_growOlder 4 = .ok (.iload_n 1, 1) := by decide +kernel
theorem dX4_growOlder_5 : decode cX4_growOlder 5 = .ok (.bipush 99, 2) := by decide +kernel
theorem dX4_growOlder_7 : decode cX4_growOlder 7 = .ok (.aload_n 0, 1) := by decide +kernel
theorem dX4_growOlder_8 : decode cX4_growOlder 8 = .ok (.getfield 15, 3) := by decide +kernel
theorem dX4_growOlder_11 : decode cX4_growOlder 11 = .ok (.iload_n 1, 1) := by decide +kernel
theorem dX4_growOlder_12 : decode cX4_growOlder 12 = .ok (.iaload, 1) := by decide +kernel
theorem dX4_growOlder_13 : decode cX4_growOlder 13 = .ok (.iconst 1, 1) := by decide +kernel
theorem dX4_growOlder_14 : decode cX4_growOlder 14 = .ok (.iadd, 1) := by decide +kernel
theorem dX4_growOlder_15 : decode cX4_growOlder 15 = .ok (.invokestatic 83, 3) := by decide +kernel
theorem dX4_growOlder_18 : decode cX4_growOlder 18 = .ok (.iastore, 1) := by decide +kernel
theorem dX4_growOlder_19 : decode cX4_growOlder 19 = .ok (.return_, 1) := by decide +kernel
theorem dX4_end_0 : decode cX4_end 0 = .ok (.aload_n 0, 1) := by decide +kernel
theorem dX4_end_1 : decode cX4_end 1 = .ok (.dup, 1) := by decide +kernel
theorem dX4_end_2 : decode cX4_end 2 = .ok (.getfield 46, 3) := by decide +kernel
theorem dX4_end_5 : decode cX4_end 5 = .ok (.iconst 1, 1) := by decide +kernel
theorem dX4_end_6 : decode cX4_end 6 = .ok (.iload_n 1, 1) := by decide +kernel
theorem dX4_end_7 : decode cX4_end 7 = .ok (.ishl, 1) := by decide +kernel
theorem dX4_end_8 : decode cX4_end 8 = .ok (.iconst (-1), 1) := by decide +kernel
theorem dX4_end_9 : decode cX4_end 9 = .ok (.ixor, 1) := by decide +kernel
theorem dX4_end_10 : decode cX4_end 10 = .ok (.iand, 1) := by decide +kernel
theorem dX4_end_11 : decode cX4_end 11 = .ok (.putfield 46, 3) := by decide +kernel
theorem dX4_end_14 : decode cX4_end 14 = .ok (.return_, 1) := by decide +kernel
theorem dX4_wed_0 : decode cX4_wed 0 = .ok (.aload_n 0, 1) := by decide +kernel
theorem dX4_wed_1 : decode cX4_wed 1 = .ok (.getfield 9, 3) := by decide +kernel
theorem dX4_wed_4 : decode cX4_wed 4 = .ok (.iload_n 1, 1) := by decide +kernel
theorem dX4_wed_5 : decode cX4_wed 5 = .ok (.sipush 9999, 3) := by decide +kernel
theorem dX4_wed_8 : decode cX4_wed 8 = .ok (.aload_n 0, 1) := by decide +kernel
theorem dX4_wed_9 : decode cX4_wed 9 = .ok (.getfield 9, 3) := by decide +kernel
theorem dX4_wed_12 : decode cX4_wed 12 = .ok (.iload_n 1, 1) := by decide +kernel
theorem dX4_wed_13 : decode cX4_wed 13 = .ok (.iaload, 1) := by decide +kernel
theorem dX4_wed_14 : decode cX4_wed 14 = .ok (.aload_n 0, 1) := by decide +kernel
theorem dX4_wed_15 : decode cX4_wed 15 = .ok (.getfield 9, 3) := by decide +kernel
theorem dX4_wed_18 : decode cX4_wed 18 = .ok (.iload_n 2, 1) := by decide +kernel
theorem dX4_wed_19 : decode cX4_wed 19 = .ok (.iaload, 1) := by decide +kernel
theorem dX4_wed_20 : decode cX4_wed 20 = .ok (.iadd, 1) := by decide +kernel
theorem dX4_wed_21 : decode cX4_wed 21 = .ok (.invokestatic 83, 3) := by decide +kernel
theorem dX4_wed_24 : decode cX4_wed 24 = .ok (.iastore, 1) := by decide +kernel
theorem dX4_wed_25 : decode cX4_wed 25 = .ok (.aload_n 0, 1) := by decide +kernel
theorem dX4_wed_26 : decode cX4_wed 26 = .ok (.getfield 18, 3) := by decide +kernel
theorem dX4_wed_29 : decode cX4_wed 29 = .ok (.iload_n 1, 1) := by decide +kernel
theorem dX4_wed_30 : decode cX4_wed 30 = .ok (.bipush 9, 2) := by decide +kernel
theorem dX4_wed_32 : decode cX4_wed 32 = .ok (.aload_n 0, 1) := by decide +kernel
theorem dX4_wed_33 : decode cX4_wed 33 = .ok (.getfield 18, 3) := by decide +kernel
theorem dX4_wed_36 : decode cX4_wed 36 = .ok (.iload_n 1, 1) := by decide +kernel
theorem dX4_wed_37 : decode cX4_wed 37 = .ok (.iaload, 1) := by decide +kernel
theorem dX4_wed_38 : decode cX4_wed 38 = .ok (.aload_n 0, 1) := by decide +kernel
theorem dX4_wed_39 : decode cX4_wed 39 = .ok (.getfield 18, 3) := by decide +kernel
theorem dX4_wed_42 : decode cX4_wed 42 = .ok (.iload_n 2, 1) := by decide +kernel
theorem dX4_wed_43 : decode cX4_wed 43 = .ok (.iaload, 1) := by decide +kernel
theorem dX4_wed_44 : decode cX4_wed 44 = .ok (.iadd, 1) := by decide +kernel
theorem dX4_wed_45 : decode cX4_wed 45 = .ok (.invokestatic 83, 3) := by decide +kernel
theorem dX4_wed_48 : decode cX4_wed 48 = .ok (.iastore, 1) := by decide +kernel
theorem dX4_wed_49 : decode cX4_wed 49 = .ok (.aload_n 0, 1) := by decide +kernel
theorem dX4_wed_50 : decode cX4_wed 50 = .ok (.iload_n 2, 1) := by decide +kernel
theorem dX4_wed_51 : decode cX4_wed 51 = .ok (.invokevirtual 89, 3) := by decide +kernel
theorem dX4_wed_54 : decode cX4_wed 54 = .ok (.aload_n 0, 1) := by decide +kernel
theorem dX4_wed_55 : decode cX4_wed 55 = .ok (.getfield 30, 3) := by decide +kernel
theorem dX4_wed_58 : decode cX4_wed 58 = .ok (.iload_n 2, 1) := by decide +kernel
theorem dX4_wed_59 : decode cX4_wed 59 = .ok (.if_icmp .ne 8, 3) := by decide +kernel
theorem dX4_wed_62 : decode cX4_wed 62 = .ok (.aload_n 0, 1) := by decide +kernel
theorem dX4_wed_63 : decode cX4_wed 63 = .ok (.iload_n 1, 1) := by decide +kernel
theorem dX4_wed_64 : decode cX4_wed 64 = .ok (.putfield 30, 3) := by decide +kernel
theorem dX4_wed_67 : decode cX4_wed 67 = .ok (.return_, 1) := by decide +kernel
theorem dX4_setAllBounds_0 : decode cX4_setAllBounds 0 = .ok (.iconst 0, 1) := by decide +kernel
theorem dX4_setAllBounds_1 : decode cX4_setAllBounds 1 = .ok (.istore_n 2, 1) := by decide +kernel
theorem dX4_setAllBounds_2 : decode cX4_setAllBounds 2 = .ok (.iload_n 2, 1) := by decide +kernel
theorem dX4_setAllBounds_3 : decode cX4_setAllBounds 3 = .ok (.bipush 6, 2) := by decide +kernel
theorem dX4_setAllBounds_5 : decode cX4_setAllBounds 5 = .ok (.if_icmp .ge 16, 3) := by decide +kernel
theorem dX4_setAllBounds_8 : decode cX4_setAllBounds 8 = .ok (.aload_n 0, 1) := by decide +kernel
theorem dX4_setAllBounds_9 : decode cX4_setAllBounds 9 = .ok (.getfield 9, 3) := by decide +kernel
theorem dX4_setAllBounds_12 : decode cX4_setAllBounds 12 = .ok (.iload_n 2, 1) := by decide +kernel
theorem dX4_setAllBounds_13 : decode cX4_setAllBounds 13 = .ok (.iload_n 1, 1) := by decide +kernel
theorem dX4_setAllBounds_14 : decode cX4_setAllBounds 14 = .ok (.iastore, 1) := by decide +kernel
theorem dX4_setAllBounds_15 : decode cX4_setAllBounds 15 = .ok (.iinc 2 1, 3) := by decide +kernel
theorem dX4_setAllBounds_18 : decode cX4_setAllBounds 18 = .ok (.goto (-16), 3) := by decide +kernel
theorem dX4_setAllBounds_21 : decode cX4_setAllBounds 21 = .ok (.return_, 1) := by decide +kernel
theorem dX4_yearsToRenewal_0 : decode cX4_yearsToRenewal 0 = .ok (.iconst 1, 1) := by decide +kernel
theorem dX4_yearsToRenewal_1 : decode cX4_yearsToRenewal 1 = .ok (.aload_n 1, 1) := by decide +kernel
theorem dX4_yearsToRenewal_2 : decode cX4_yearsToRenewal 2 = .ok (.getfield 93, 3) := by decide +kernel
theorem dX4_yearsToRenewal_5 : decode cX4_yearsToRenewal 5 = .ok (.iload_n 2, 1) := by decide +kernel
theorem dX4_yearsToRenewal_6 : decode cX4_yearsToRenewal 6 = .ok (.iaload, 1) := by decide +kernel
theorem dX4_yearsToRenewal_7 : decode cX4_yearsToRenewal 7 = .ok (.aload_n 0, 1) := by decide +kernel
theorem dX4_yearsToRenewal_8 : decode cX4_yearsToRenewal 8 = .ok (.getfield 27, 3) := by decide +kernel
theorem dX4_yearsToRenewal_11 : decode cX4_yearsToRenewal 11 = .ok (.iload_n 2, 1) := by decide +kernel
theorem dX4_yearsToRenewal_12 : decode cX4_yearsToRenewal 12 = .ok (.iaload, 1) := by decide +kernel
theorem dX4_yearsToRenewal_13 : decode cX4_yearsToRenewal 13 = .ok (.isub, 1) := by decide +kernel
theorem dX4_yearsToRenewal_14 : decode cX4_yearsToRenewal 14 = .ok (.invokestatic 96, 3) := by decide +kernel
theorem dX4_yearsToRenewal_17 : decode cX4_yearsToRenewal 17 = .ok (.ireturn, 1) := by decide +kernel
theorem dX4_ageParts_0 : decode cX4_ageParts 0 = .ok (.iconst 0, 1) := by decide +kernel
theorem dX4_ageParts_1 : decode cX4_ageParts 1 = .ok (.istore_n 2, 1) := by decide +kernel
theorem dX4_ageParts_2 : decode cX4_ageParts 2 = .ok (.iload_n 2, 1) := by decide +kernel
theorem dX4_ageParts_3 : decode cX4_ageParts 3 = .ok (.aload_n 1, 1) := by decide +kernel
theorem dX4_ageParts_4 : decode cX4_ageParts 4 = .ok (.getfield 42, 3) := by decide +kernel
theorem dX4_ageParts_7 : decode cX4_ageParts 7 = .ok (.if_icmp .ge 55, 3) := by decide +kernel
theorem dX4_ageParts_10 : decode cX4_ageParts 10 = .ok (.aload_n 0, 1) := by decide +kernel
theorem dX4_ageParts_11 : decode cX4_ageParts 11 = .ok (.getfield 27, 3) := by decide +kernel
theorem dX4_ageParts_14 : decode cX4_ageParts 14 = .ok (.iload_n 2, 1) := by decide +kernel
theorem dX4_ageParts_15 : decode cX4_ageParts 15 = .ok (.dup2, 1) := by decide +kernel
theorem dX4_ageParts_16 : decode cX4_ageParts 16 = .ok (.iaload, 1) := by decide +kernel
theorem dX4_ageParts_17 : decode cX4_ageParts 17 = .ok (.iconst 1, 1) := by decide +kernel
theorem dX4_ageParts_18 : decode cX4_ageParts 18 = .ok (.iadd, 1) := by decide +kernel
theorem dX4_ageParts_19 : decode cX4_ageParts 19 = .ok (.iastore, 1) := by decide +kernel
theorem dX4_ageParts_20 : decode cX4_ageParts 20 = .ok (.aload_n 0, 1) := by decide +kernel
theorem dX4_ageParts_21 : decode cX4_ageParts 21 = .ok (.getfield 27, 3) := by decide +kernel
theorem dX4_ageParts_24 : decode cX4_ageParts 24 = .ok (.iload_n 2, 1) := by decide +kernel
theorem dX4_ageParts_25 : decode cX4_ageParts 25 = .ok (.iaload, 1) := by decide +kernel
theorem dX4_ageParts_26 : decode cX4_ageParts 26 = .ok (.aload_n 1, 1) := by decide +kernel
theorem dX4_ageParts_27 : decode cX4_ageParts 27 = .ok (.getfield 93, 3) := by decide +kernel
theorem dX4_ageParts_30 : decode cX4_ageParts 30 = .ok (.iload_n 2, 1) := by decide +kernel
theorem dX4_ageParts_31 : decode cX4_ageParts 31 = .ok (.iaload, 1) := by decide +kernel
theorem dX4_ageParts_32 : decode cX4_ageParts 32 = .ok (.if_icmp .lt 24, 3) := by decide +kernel
theorem dX4_ageParts_35 : decode cX4_ageParts 35 = .ok (.aload_n 0, 1) := by decide +kernel
theorem dX4_ageParts_36 : decode cX4_ageParts 36 = .ok (.getfield 27, 3) := by decide +kernel
theorem dX4_ageParts_39 : decode cX4_ageParts 39 = .ok (.iload_n 2, 1) := by decide +kernel
theorem dX4_ageParts_40 : decode cX4_ageParts 40 = .ok (.iconst 0, 1) := by decide +kernel
theorem dX4_ageParts_41 : decode cX4_ageParts 41 = .ok (.iastore, 1) := by decide +kernel
theorem dX4_ageParts_42 : decode cX4_ageParts 42 = .ok (.aload_n 0, 1) := by decide +kernel
theorem dX4_ageParts_43 : decode cX4_ageParts 43 = .ok (.dup, 1) := by decide +kernel
theorem dX4_ageParts_44 : decode cX4_ageParts 44 = .ok (.getfield 49, 3) := by decide +kernel
theorem dX4_ageParts_47 : decode cX4_ageParts 47 = .ok (.iconst 1, 1) := by decide +kernel
theorem dX4_ageParts_48 : decode cX4_ageParts 48 = .ok (.iload_n 2, 1) := by decide +kernel
theorem dX4_ageParts_49 : decode cX4_ageParts 49 = .ok (.ishl, 1) := by decide +kernel
theorem dX4_ageParts_50 : decode cX4_ageParts 50 = .ok (.iconst (-1), 1) := by decide +kernel
theorem dX4_ageParts_51 : decode cX4_ageParts 51 = .ok (.ixor, 1) := by decide +kernel
theorem dX4_ageParts_52 : decode cX4_ageParts 52 = .ok (.iand, 1) := by decide +kernel
theorem dX4_ageParts_53 : decode cX4_ageParts 53 = .ok (.putfield 49, 3) := by decide +kernel
theorem dX4_ageParts_56 : decode cX4_ageParts 56 = .ok (.iinc 2 1, 3) := by decide +kernel
theorem dX4_ageParts_59 : decode cX4_ageParts 59 = .ok (.goto (-57), 3) := by decide +kernel
theorem dX4_ageParts_62 : decode cX4_ageParts 62 = .ok (.return_, 1) := by decide +kernel
theorem dX4_nextNumber_0 : decode cX4_nextNumber 0 = .ok (.aload_n 0, 1) := by decide +kernel
theorem dX4_nextNumber_1 : decode cX4_nextNumber 1 = .ok (.aload_n 0, 1) := by decide +kernel
theorem dX4_nextNumber_2 : decode cX4_nextNumber 2 = .ok (.getfield 70, 3) := by decide +kernel
theorem dX4_nextNumber_5 : decode cX4_nextNumber 5 = .ok (.ldc 99, 2) := by decide +kernel
theorem dX4_nextNumber_7 : decode cX4_nextNumber 7 = .ok (.imul, 1) := by decide +kernel
theorem dX4_nextNumber_8 : decode cX4_nextNumber 8 = .ok (.sipush 12345, 3) := by decide +kernel
theorem dX4_nextNumber_11 : decode cX4_nextNumber 11 = .ok (.iadd, 1) := by decide +kernel
theorem dX4_nextNumber_12 : decode cX4_nextNumber 12 = .ok (.ldc 102, 2) := by decide +kernel
theorem dX4_nextNumber_14 : decode cX4_nextNumber 14 = .ok (.iand, 1) := by decide +kernel
theorem dX4_nextNumber_15 : decode cX4_nextNumber 15 = .ok (.putfield 70, 3) := by decide +kernel
theorem dX4_nextNumber_18 : decode cX4_nextNumber 18 = .ok (.aload_n 0, 1) := by decide +kernel
theorem dX4_nextNumber_19 : decode cX4_nextNumber 19 = .ok (.getfield 70, 3) := by decide +kernel
theorem dX4_nextNumber_22 : decode cX4_nextNumber 22 = .ok (.ldc 103, 2) := by decide +kernel
theorem dX4_nextNumber_24 : decode cX4_nextNumber 24 = .ok (.idiv, 1) := by decide +kernel
theorem dX4_nextNumber_25 : decode cX4_nextNumber 25 = .ok (.ireturn, 1) := by decide +kernel
