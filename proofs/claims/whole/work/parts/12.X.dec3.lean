theorem dX11_season_48 : decode cX11_season 48 = .ok (.if_icmp .ge 106, 3) := by decide +kernel
theorem dX11_season_51 : decode cX11_season 51 = .ok (.iload_n 3, 1) := by decide +kernel
theorem dX11_season_52 : decode cX11_season 52 = .ok (.invokestatic 412, 3) := by decide +kernel
theorem dX11_season_55 : decode cX11_season 55 = .ok (.istore_n 3, 1) := by decide +kernel
theorem dX11_season_56 : decode cX11_season 56 = .ok (.aload_n 0, 1) := by decide +kernel
theorem dX11_season_57 : decode cX11_season 57 = .ok (.getfield 46, 3) := by decide +kernel
theorem dX11_season_60 : decode cX11_season 60 = .ok (.iload_n 3, 1) := by decide +kernel
theorem dX11_season_61 : decode cX11_season 61 = .ok (.bipush 10, 2) := by decide +kernel
theorem dX11_season_63 : decode cX11_season 63 = .ok (.invokestatic 415, 3) := by decide +kernel
theorem dX11_season_66 : decode cX11_season 66 = .ok (.putfield 194, 3) := by decide +kernel
theorem dX11_season_69 : decode cX11_season 69 = .ok (.iload_n 3, 1) := by decide +kernel
theorem dX11_season_70 : decode cX11_season 70 = .ok (.invokestatic 412, 3) := by decide +kernel
theorem dX11_season_73 : decode cX11_season 73 = .ok (.istore_n 3, 1) := by decide +kernel
theorem dX11_season_74 : decode cX11_season 74 = .ok (.iload_n 3, 1) := by decide +kernel
theorem dX11_season_75 : decode cX11_season 75 = .ok (.aload_n 0, 1) := by decide +kernel
theorem dX11_season_76 : decode cX11_season 76 = .ok (.getfield 46, 3) := by decide +kernel
theorem dX11_season_79 : decode cX11_season 79 = .ok (.getfield 197, 3) := by decide +kernel
theorem dX11_season_82 : decode cX11_season 82 = .ok (.invokestatic 415, 3) := by decide +kernel
theorem dX11_season_85 : decode cX11_season 85 = .ok (.istore 7, 2) := by decide +kernel
theorem dX11_season_87 : decode cX11_season 87 = .ok (.aload_n 0, 1) := by decide +kernel
theorem dX11_season_88 : decode cX11_season 88 = .ok (.getfield 46, 3) := by decide +kernel
theorem dX11_season_91 : decode cX11_season 91 = .ok (.iload 7, 2) := by decide +kernel
theorem dX11_season_93 : decode cX11_season 93 = .ok (.invokestatic 214, 3) := by decide +kernel
theorem dX11_season_109 : decode cX11_season 109 = .ok (.aload_n 0, 1) := by decide +kernel
theorem dX11_season_110 : decode cX11_season 110 = .ok (.getfield 46, 3) := by decide +kernel
theorem dX11_season_113 : decode cX11_season 113 = .ok (.iconst 1, 1) := by decide +kernel
theorem dX11_season_114 : decode cX11_season 114 = .ok (.invokevirtual 233, 3) := by decide +kernel
theorem dX11_season_117 : decode cX11_season 117 = .ok (.pop, 1) := by decide +kernel
theorem dX11_season_118 : decode cX11_season 118 = .ok (.iload 4, 2) := by decide +kernel
theorem dX11_season_120 : decode cX11_season 120 = .ok (.aload_n 0, 1) := by decide +kernel
theorem dX11_season_121 : decode cX11_season 121 = .ok (.getfield 46, 3) := by decide +kernel
theorem dX11_season_124 : decode cX11_season 124 = .ok (.getfield 236, 3) := by decide +kernel
theorem dX11_season_127 : decode cX11_season 127 = .ok (.invokestatic 250, 3) := by decide +kernel
theorem dX11_season_130 : decode cX11_season 130 = .ok (.iadd, 1) := by decide +kernel
theorem dX11_season_131 : decode cX11_season 131 = .ok (.istore 4, 2) := by decide +kernel
theorem dX11_season_133 : decode cX11_season 133 = .ok (.iload 5, 2) := by decide +kernel
theorem dX11_season_135 : decode cX11_season 135 = .ok (.aload_n 0, 1) := by decide +kernel
theorem dX11_season_136 : decode cX11_season 136 = .ok (.getfield 46, 3) := by decide +kernel
theorem dX11_season_139 : decode cX11_season 139 = .ok (.getfield 239, 3) := by decide +kernel
theorem dX11_season_142 : decode cX11_season 142 = .ok (.invokestatic 250, 3) := by decide +kernel
theorem dX11_season_145 : decode cX11_season 145 = .ok (.iadd, 1) := by decide +kernel
theorem dX11_season_146 : decode cX11_season 146 = .ok (.istore 5, 2) := by decide +kernel
theorem dX11_season_148 : decode cX11_season 148 = .ok (.iinc 6 1, 3) := by decide +kernel
theorem dX11_season_151 : decode cX11_season 151 = .ok (.goto (-106), 3) := by decide +kernel
theorem dX11_season_96 : decode cX11_season 96 = .ok (.ifCond .ge 13, 3) := by decide +kernel
theorem dX11_season_99 : decode cX11_season 99 = .ok (.aload_n 0, 1) := by decide +kernel
theorem dX11_season_100 : decode cX11_season 100 = .ok (.getfield 46, 3) := by decide +kernel
theorem dX11_season_103 : decode cX11_season 103 = .ok (.iload 7, 2) := by decide +kernel
theorem dX11_season_105 : decode cX11_season 105 = .ok (.invokestatic 224, 3) := by decide +kernel
theorem dX11_season_108 : decode cX11_season 108 = .ok (.pop, 1) := by decide +kernel
theorem dX11_season_154 : decode cX11_season 154 = .ok (.aload_n 0, 1) := by decide +kernel
theorem dX11_season_155 : decode cX11_season 155 = .ok (.iload 4, 2) := by decide +kernel
theorem dX11_season_157 : decode cX11_season 157 = .ok (.i2l, 1) := by decide +kernel
theorem dX11_season_158 : decode cX11_season 158 = .ok (.aload_n 0, 1) := by decide +kernel
theorem dX11_season_159 : decode cX11_season 159 = .ok (.getfield 46, 3) := by decide +kernel
theorem dX11_season_162 : decode cX11_season 162 = .ok (.iconst 1, 1) := by decide +kernel
theorem dX11_season_163 : decode cX11_season 163 = .ok (.invokevirtual 247, 3) := by decide +kernel
theorem dX11_season_166 : decode cX11_season 166 = .ok (.invokestatic 250, 3) := by decide +kernel
theorem dX11_season_169 : decode cX11_season 169 = .ok (.i2l, 1) := by decide +kernel
theorem dX11_season_170 : decode cX11_season 170 = .ok (.invokevirtual 242, 3) := by decide +kernel
theorem dX11_season_173 : decode cX11_season 173 = .ok (.iload 5, 2) := by decide +kernel
theorem dX11_season_175 : decode cX11_season 175 = .ok (.ireturn, 1) := by decide +kernel
theorem dX11_keep_0 : decode cX11_keep 0 = .ok (.iload_n 1, 1) := by decide +kernel
theorem dX11_keep_1 : decode cX11_keep 1 = .ok (.ifCond .lt 8, 3) := by decide +kernel
theorem dX11_keep_9 : decode cX11_keep 9 = .ok (.iconst 0, 1) := by decide +kernel
theorem dX11_keep_10 : decode cX11_keep 10 = .ok (.ireturn, 1) := by decide +kernel
theorem dX11_keep_4 : decode cX11_keep 4 = .ok (.iload_n 1, 1) := by decide +kernel
theorem dX11_keep_5 : decode cX11_keep 5 = .ok (.iconst 3, 1) := by decide +kernel
theorem dX11_keep_6 : decode cX11_keep 6 = .ok (.if_icmp .lt 5, 3) := by decide +kernel
theorem dX11_keep_11 : decode cX11_keep 11 = .ok (.aload_n 0, 1) := by decide +kernel
theorem dX11_keep_12 : decode cX11_keep 12 = .ok (.getfield 52, 3) := by decide +kernel
theorem dX11_keep_15 : decode cX11_keep 15 = .ok (.aload_n 0, 1) := by decide +kernel
theorem dX11_keep_16 : decode cX11_keep 16 = .ok (.getfield 42, 3) := by decide +kernel
theorem dX11_keep_19 : decode cX11_keep 19 = .ok (.iload_n 1, 1) := by decide +kernel
theorem dX11_keep_20 : decode cX11_keep 20 = .ok (.invokevirtual 419, 3) := by decide +kernel
theorem dX11_keep_23 : decode cX11_keep 23 = .ok (.iconst 1, 1) := by decide +kernel
theorem dX11_keep_24 : decode cX11_keep 24 = .ok (.ireturn, 1) := by decide +kernel
theorem dX11_again_0 : decode cX11_again 0 = .ok (.iload_n 1, 1) := by decide +kernel
theorem dX11_again_1 : decode cX11_again 1 = .ok (.ifCond .lt 20, 3) := by decide +kernel
theorem dX11_again_21 : decode cX11_again 21 = .ok (.iconst 0, 1) := by decide +kernel
theorem dX11_again_22 : decode cX11_again 22 = .ok (.ireturn, 1) := by decide +kernel
theorem dX11_again_4 : decode cX11_again 4 = .ok (.iload_n 1, 1) := by decide +kernel
theorem dX11_again_5 : decode cX11_again 5 = .ok (.iconst 3, 1) := by decide +kernel
theorem dX11_again_6 : decode cX11_again 6 = .ok (.if_icmp .ge 15, 3) := by decide +kernel
theorem dX11_again_9 : decode cX11_again 9 = .ok (.aload_n 0, 1) := by decide +kernel
theorem dX11_again_10 : decode cX11_again 10 = .ok (.getfield 52, 3) := by decide +kernel
theorem dX11_again_13 : decode cX11_again 13 = .ok (.getfield 423, 3) := by decide +kernel
theorem dX11_again_16 : decode cX11_again 16 = .ok (.iload_n 1, 1) := by decide +kernel
theorem dX11_again_17 : decode cX11_again 17 = .ok (.baload, 1) := by decide +kernel
theorem dX11_again_18 : decode cX11_again 18 = .ok (.ifCond .ne 5, 3) := by decide +kernel
theorem dX11_again_23 : decode cX11_again 23 = .ok (.aload_n 0, 1) := by decide +kernel
theorem dX11_again_24 : decode cX11_again 24 = .ok (.getfield 52, 3) := by decide +kernel
theorem dX11_again_27 : decode cX11_again 27 = .ok (.aload_n 0, 1) := by decide +kernel
theorem dX11_again_28 : decode cX11_again 28 = .ok (.getfield 42, 3) := by decide +kernel
theorem dX11_again_31 : decode cX11_again 31 = .ok (.iload_n 1, 1) := by decide +kernel
theorem dX11_again_32 : decode cX11_again 32 = .ok (.invokevirtual 427, 3) := by decide +kernel
theorem dX11_again_35 : decode cX11_again 35 = .ok (.aload_n 0, 1) := by decide +kernel
theorem dX11_again_36 : decode cX11_again 36 = .ok (.getfield 52, 3) := by decide +kernel
theorem dX11_again_39 : decode cX11_again 39 = .ok (.invokevirtual 122, 3) := by decide +kernel
theorem dX11_again_42 : decode cX11_again 42 = .ok (.iconst 1, 1) := by decide +kernel
theorem dX11_again_43 : decode cX11_again 43 = .ok (.ireturn, 1) := by decide +kernel
theorem dX11_count_0 : decode cX11_count 0 = .ok (.iload_n 1, 1) := by decide +kernel
theorem dX11_count_1 : decode cX11_count 1 = .ok (.tableswitch 163 0 11 #[63, 71, 79, 87, 96, 105, 114, 123, 131, 139, 147, 155], 63) := by decide +kernel
theorem dX11_count_64 : decode cX11_count 64 = .ok (.aload_n 0, 1) := by decide +kernel
theorem dX11_count_65 : decode cX11_count 65 = .ok (.getfield 19, 3) := by decide +kernel
theorem dX11_count_68 : decode cX11_count 68 = .ok (.getfield 331, 3) := by decide +kernel
theorem dX11_count_71 : decode cX11_count 71 = .ok (.ireturn, 1) := by decide +kernel
theorem dX11_count_72 : decode cX11_count 72 = .ok (.aload_n 0, 1) := by decide +kernel
theorem dX11_count_73 : decode cX11_count 73 = .ok (.getfield 42, 3) := by decide +kernel
theorem dX11_count_76 : decode cX11_count 76 = .ok (.getfield 197, 3) := by decide +kernel
theorem dX11_count_79 : decode cX11_count 79 = .ok (.ireturn, 1) := by decide +kernel
theorem dX11_count_80 : decode cX11_count 80 = .ok (.aload_n 0, 1) := by decide +kernel
theorem dX11_count_81 : decode cX11_count 81 = .ok (.getfield 42, 3) := by decide +kernel
theorem dX11_count_84 : decode cX11_count 84 = .ok (.getfield 430, 3) := by decide +kernel
theorem dX11_count_87 : decode cX11_count 87 = .ok (.ireturn, 1) := by decide +kernel
theorem dX11_count_88 : decode cX11_count 88 = .ok (.aload_n 0, 1) := by decide +kernel
theorem dX11_count_89 : decode cX11_count 89 = .ok (.getfield 42, 3) := by decide +kernel
theorem dX11_count_92 : decode cX11_count 92 = .ok (.iconst 0, 1) := by decide +kernel
theorem dX11_count_93 : decode cX11_count 93 = .ok (.invokevirtual 247, 3) := by decide +kernel
theorem dX11_count_96 : decode cX11_count 96 = .ok (.ireturn, 1) := by decide +kernel
theorem dX11_count_97 : decode cX11_count 97 = .ok (.aload_n 0, 1) := by decide +kernel
theorem dX11_count_98 : decode cX11_count 98 = .ok (.getfield 42, 3) := by decide +kernel
theorem dX11_count_101 : decode cX11_count 101 = .ok (.iconst 1, 1) := by decide +kernel
theorem dX11_count_102 : decode cX11_count 102 = .ok (.invokevirtual 247, 3) := by decide +kernel
theorem dX11_count_105 : decode cX11_count 105 = .ok (.ireturn, 1) := by decide +kernel
theorem dX11_count_106 : decode cX11_count 106 = .ok (.aload_n 0, 1) := by decide +kernel
theorem dX11_count_107 : decode cX11_count 107 = .ok (.getfield 42, 3) := by decide +kernel
theorem dX11_count_110 : decode cX11_count 110 = .ok (.iconst 2, 1) := by decide +kernel
theorem dX11_count_111 : decode cX11_count 111 = .ok (.invokevirtual 247, 3) := by decide +kernel
theorem dX11_count_114 : decode cX11_count 114 = .ok (.ireturn, 1) := by decide +kernel
theorem dX11_count_115 : decode cX11_count 115 = .ok (.aload_n 0, 1) := by decide +kernel
theorem dX11_count_116 : decode cX11_count 116 = .ok (.getfield 42, 3) := by decide +kernel
theorem dX11_count_119 : decode cX11_count 119 = .ok (.iconst 3, 1) := by decide +kernel
theorem dX11_count_120 : decode cX11_count 120 = .ok (.invokevirtual 247, 3) := by decide +kernel
theorem dX11_count_123 : decode cX11_count 123 = .ok (.ireturn, 1) := by decide +kernel
theorem dX11_count_124 : decode cX11_count 124 = .ok (.aload_n 0, 1) := by decide +kernel
theorem dX11_count_125 : decode cX11_count 125 = .ok (.getfield 42, 3) := by decide +kernel
theorem dX11_count_128 : decode cX11_count 128 = .ok (.getfield 194, 3) := by decide +kernel
theorem dX11_count_131 : decode cX11_count 131 = .ok (.ireturn, 1) := by decide +kernel
theorem dX11_count_132 : decode cX11_count 132 = .ok (.aload_n 0, 1) := by decide +kernel
theorem dX11_count_133 : decode cX11_count 133 = .ok (.getfield 66, 3) := by decide +kernel
theorem dX11_count_136 : decode cX11_count 136 = .ok (.getfield 121, 3) := by decide +kernel
theorem dX11_count_139 : decode cX11_count 139 = .ok (.ireturn, 1) := by decide +kernel
theorem dX11_count_140 : decode cX11_count 140 = .ok (.aload_n 0, 1) := by decide +kernel
theorem dX11_count_141 : decode cX11_count 141 = .ok (.getfield 52, 3) := by decide +kernel
theorem dX11_count_144 : decode cX11_count 144 = .ok (.getfield 266, 3) := by decide +kernel
theorem dX11_count_147 : decode cX11_count 147 = .ok (.ireturn, 1) := by decide +kernel
theorem dX11_count_148 : decode cX11_count 148 = .ok (.aload_n 0, 1) := by decide +kernel
theorem dX11_count_149 : decode cX11_count 149 = .ok (.getfield 59, 3) := by decide +kernel
theorem dX11_count_152 : decode cX11_count 152 = .ok (.getfield 288, 3) := by decide +kernel
theorem dX11_count_155 : decode cX11_count 155 = .ok (.ireturn, 1) := by decide +kernel
theorem dX11_count_156 : decode cX11_count 156 = .ok (.aload_n 0, 1) := by decide +kernel
theorem dX11_count_157 : decode cX11_count 157 = .ok (.getfield 10, 3) := by decide +kernel
theorem dX11_count_160 : decode cX11_count 160 = .ok (.getfield 95, 3) := by decide +kernel
theorem dX11_count_163 : decode cX11_count 163 = .ok (.ireturn, 1) := by decide +kernel
theorem dX11_count_164 : decode cX11_count 164 = .ok (.bipush (-100), 2) := by decide +kernel
theorem dX11_count_166 : decode cX11_count 166 = .ok (.ireturn, 1) := by decide +kernel
theorem dX11_row_0 : decode cX11_row 0 = .ok (.iload_n 1, 1) := by decide +kernel
theorem dX11_row_15 : decode cX11_row 15 = .ok (.new 140, 3) := by decide +kernel
theorem dX11_row_18 : decode cX11_row 18 = .ok (.dup, 1) := by decide +kernel
theorem dX11_row_19 : decode cX11_row 19 = .ok (.invokespecial 142, 3) := by decide +kernel
theorem dX11_row_22 : decode cX11_row 22 = .ok (.athrow, 1) := by decide +kernel
theorem dX11_row_1 : decode cX11_row 1 = .ok (.ifCond .lt 14, 3) := by decide +kernel
theorem dX11_row_4 : decode cX11_row 4 = .ok (.iload_n 1, 1) := by decide +kernel
theorem dX11_row_5 : decode cX11_row 5 = .ok (.aload_n 0, 1) := by decide +kernel
theorem dX11_row_6 : decode cX11_row 6 = .ok (.getfield 59, 3) := by decide +kernel
theorem dX11_row_9 : decode cX11_row 9 = .ok (.getfield 288, 3) := by decide +kernel
theorem dX11_row_12 : decode cX11_row 12 = .ok (.if_icmp .lt 11, 3) := by decide +kernel
theorem dX11_row_23 : decode cX11_row 23 = .ok (.aload_n 0, 1) := by decide +kernel
theorem dX11_row_24 : decode cX11_row 24 = .ok (.getfield 59, 3) := by decide +kernel
theorem dX11_row_27 : decode cX11_row 27 = .ok (.getfield 433, 3) := by decide +kernel
theorem dX11_row_30 : decode cX11_row 30 = .ok (.iload_n 1, 1) := by decide +kernel
theorem dX11_row_31 : decode cX11_row 31 = .ok (.laload, 1) := by decide +kernel
theorem dX11_row_32 : decode cX11_row 32 = .ok (.lreturn, 1) := by decide +kernel
