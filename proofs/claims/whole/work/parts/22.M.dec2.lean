theorem dX12_readsAct_56 : decode cX12_readsAct 56 = .ok (.goto 4, 3) := by decide +kernel
theorem dX12_readsAct_37 : decode cX12_readsAct 37 = .ok (.iconst 0, 1) := by decide +kernel
theorem dX12_readsAct_38 : decode cX12_readsAct 38 = .ok (.ireturn, 1) := by decide +kernel
theorem dX12_does_0 : decode cX12_does 0 = .ok (.aload_n 0, 1) := by decide +kernel
theorem dX12_does_1 : decode cX12_does 1 = .ok (.getfield 62, 3) := by decide +kernel
theorem dX12_does_4 : decode cX12_does 4 = .ok (.iload_n 1, 1) := by decide +kernel
theorem dX12_does_5 : decode cX12_does 5 = .ok (.iaload, 1) := by decide +kernel
theorem dX12_does_6 : decode cX12_does 6 = .ok (.tableswitch 126 0 3 #[30, 53, 78, 101], 30) := by decide +kernel
theorem dX12_does_36 : decode cX12_does 36 = .ok (.aload_n 0, 1) := by decide +kernel
theorem dX12_does_37 : decode cX12_does 37 = .ok (.aload_n 0, 1) := by decide +kernel
theorem dX12_does_38 : decode cX12_does 38 = .ok (.getfield 32, 3) := by decide +kernel
theorem dX12_does_41 : decode cX12_does 41 = .ok (.aload_n 0, 1) := by decide +kernel
theorem dX12_does_42 : decode cX12_does 42 = .ok (.getfield 65, 3) := by decide +kernel
theorem dX12_does_45 : decode cX12_does 45 = .ok (.iload_n 1, 1) := by decide +kernel
theorem dX12_does_46 : decode cX12_does 46 = .ok (.iaload, 1) := by decide +kernel
theorem dX12_does_47 : decode cX12_does 47 = .ok (.invokevirtual 356, 3) := by decide +kernel
theorem dX12_does_50 : decode cX12_does 50 = .ok (.ifCond .lt 7, 3) := by decide +kernel
theorem dX12_does_57 : decode cX12_does 57 = .ok (.iconst 0, 1) := by decide +kernel
theorem dX12_does_58 : decode cX12_does 58 = .ok (.ireturn, 1) := by decide +kernel
theorem dX12_does_53 : decode cX12_does 53 = .ok (.iconst 1, 1) := by decide +kernel
theorem dX12_does_54 : decode cX12_does 54 = .ok (.goto 4, 3) := by decide +kernel
theorem dX12_does_59 : decode cX12_does 59 = .ok (.aload_n 0, 1) := by decide +kernel
theorem dX12_does_60 : decode cX12_does 60 = .ok (.aload_n 0, 1) := by decide +kernel
theorem dX12_does_61 : decode cX12_does 61 = .ok (.getfield 65, 3) := by decide +kernel
theorem dX12_does_64 : decode cX12_does 64 = .ok (.iload_n 1, 1) := by decide +kernel
theorem dX12_does_65 : decode cX12_does 65 = .ok (.iaload, 1) := by decide +kernel
theorem dX12_does_66 : decode cX12_does 66 = .ok (.aload_n 0, 1) := by decide +kernel
theorem dX12_does_67 : decode cX12_does 67 = .ok (.getfield 68, 3) := by decide +kernel
theorem dX12_does_70 : decode cX12_does 70 = .ok (.iload_n 1, 1) := by decide +kernel
theorem dX12_does_71 : decode cX12_does 71 = .ok (.iaload, 1) := by decide +kernel
theorem dX12_does_72 : decode cX12_does 72 = .ok (.invokevirtual 362, 3) := by decide +kernel
theorem dX12_does_75 : decode cX12_does 75 = .ok (.ifCond .lt 7, 3) := by decide +kernel
theorem dX12_does_82 : decode cX12_does 82 = .ok (.iconst 0, 1) := by decide +kernel
theorem dX12_does_83 : decode cX12_does 83 = .ok (.ireturn, 1) := by decide +kernel
theorem dX12_does_78 : decode cX12_does 78 = .ok (.iconst 1, 1) := by decide +kernel
theorem dX12_does_79 : decode cX12_does 79 = .ok (.goto 4, 3) := by decide +kernel
theorem dX12_does_84 : decode cX12_does 84 = .ok (.aload_n 0, 1) := by decide +kernel
theorem dX12_does_85 : decode cX12_does 85 = .ok (.aload_n 0, 1) := by decide +kernel
theorem dX12_does_86 : decode cX12_does 86 = .ok (.getfield 32, 3) := by decide +kernel
theorem dX12_does_89 : decode cX12_does 89 = .ok (.aload_n 0, 1) := by decide +kernel
theorem dX12_does_90 : decode cX12_does 90 = .ok (.getfield 65, 3) := by decide +kernel
theorem dX12_does_93 : decode cX12_does 93 = .ok (.iload_n 1, 1) := by decide +kernel
theorem dX12_does_94 : decode cX12_does 94 = .ok (.iaload, 1) := by decide +kernel
theorem dX12_does_95 : decode cX12_does 95 = .ok (.invokevirtual 365, 3) := by decide +kernel
theorem dX12_does_98 : decode cX12_does 98 = .ok (.ifCond .lt 7, 3) := by decide +kernel
theorem dX12_does_105 : decode cX12_does 105 = .ok (.iconst 0, 1) := by decide +kernel
theorem dX12_does_106 : decode cX12_does 106 = .ok (.ireturn, 1) := by decide +kernel
theorem dX12_does_101 : decode cX12_does 101 = .ok (.iconst 1, 1) := by decide +kernel
theorem dX12_does_102 : decode cX12_does 102 = .ok (.goto 4, 3) := by decide +kernel
theorem dX12_does_107 : decode cX12_does 107 = .ok (.aload_n 0, 1) := by decide +kernel
theorem dX12_does_108 : decode cX12_does 108 = .ok (.aload_n 0, 1) := by decide +kernel
theorem dX12_does_109 : decode cX12_does 109 = .ok (.getfield 65, 3) := by decide +kernel
theorem dX12_does_112 : decode cX12_does 112 = .ok (.iload_n 1, 1) := by decide +kernel
theorem dX12_does_113 : decode cX12_does 113 = .ok (.iaload, 1) := by decide +kernel
theorem dX12_does_114 : decode cX12_does 114 = .ok (.aload_n 0, 1) := by decide +kernel
theorem dX12_does_115 : decode cX12_does 115 = .ok (.getfield 68, 3) := by decide +kernel
theorem dX12_does_118 : decode cX12_does 118 = .ok (.iload_n 1, 1) := by decide +kernel
theorem dX12_does_119 : decode cX12_does 119 = .ok (.iaload, 1) := by decide +kernel
theorem dX12_does_120 : decode cX12_does 120 = .ok (.invokevirtual 368, 3) := by decide +kernel
theorem dX12_does_123 : decode cX12_does 123 = .ok (.ifCond .lt 7, 3) := by decide +kernel
theorem dX12_does_130 : decode cX12_does 130 = .ok (.iconst 0, 1) := by decide +kernel
theorem dX12_does_131 : decode cX12_does 131 = .ok (.ireturn, 1) := by decide +kernel
theorem dX12_does_126 : decode cX12_does 126 = .ok (.iconst 1, 1) := by decide +kernel
theorem dX12_does_127 : decode cX12_does 127 = .ok (.goto 4, 3) := by decide +kernel
theorem dX12_does_132 : decode cX12_does 132 = .ok (.iconst 0, 1) := by decide +kernel
theorem dX12_does_133 : decode cX12_does 133 = .ok (.istore_n 2, 1) := by decide +kernel
theorem dX12_does_134 : decode cX12_does 134 = .ok (.iload_n 2, 1) := by decide +kernel
theorem dX12_does_135 : decode cX12_does 135 = .ok (.aload_n 0, 1) := by decide +kernel
theorem dX12_does_136 : decode cX12_does 136 = .ok (.getfield 65, 3) := by decide +kernel
theorem dX12_does_139 : decode cX12_does 139 = .ok (.iload_n 1, 1) := by decide +kernel
theorem dX12_does_140 : decode cX12_does 140 = .ok (.iaload, 1) := by decide +kernel
theorem dX12_does_141 : decode cX12_does 141 = .ok (.if_icmp .ge 28, 3) := by decide +kernel
theorem dX12_does_144 : decode cX12_does 144 = .ok (.aload_n 0, 1) := by decide +kernel
theorem dX12_does_145 : decode cX12_does 145 = .ok (.getfield 65, 3) := by decide +kernel
theorem dX12_does_148 : decode cX12_does 148 = .ok (.iload_n 1, 1) := by decide +kernel
theorem dX12_does_149 : decode cX12_does 149 = .ok (.iaload, 1) := by decide +kernel
theorem dX12_does_150 : decode cX12_does 150 = .ok (.bipush 48, 2) := by decide +kernel
theorem dX12_does_152 : decode cX12_does 152 = .ok (.if_icmp .gt 17, 3) := by decide +kernel
theorem dX12_does_155 : decode cX12_does 155 = .ok (.aload_n 0, 1) := by decide +kernel
theorem dX12_does_156 : decode cX12_does 156 = .ok (.aload_n 0, 1) := by decide +kernel
theorem dX12_does_157 : decode cX12_does 157 = .ok (.getfield 32, 3) := by decide +kernel
theorem dX12_does_160 : decode cX12_does 160 = .ok (.invokevirtual 380, 3) := by decide +kernel
theorem dX12_does_163 : decode cX12_does 163 = .ok (.iinc 2 1, 3) := by decide +kernel
theorem dX12_does_166 : decode cX12_does 166 = .ok (.goto (-32), 3) := by decide +kernel
theorem dX12_does_169 : decode cX12_does 169 = .ok (.aload_n 0, 1) := by decide +kernel
theorem dX12_does_170 : decode cX12_does 170 = .ok (.getfield 65, 3) := by decide +kernel
theorem dX12_does_173 : decode cX12_does 173 = .ok (.iload_n 1, 1) := by decide +kernel
theorem dX12_does_174 : decode cX12_does 174 = .ok (.iaload, 1) := by decide +kernel
theorem dX12_does_175 : decode cX12_does 175 = .ok (.bipush 48, 2) := by decide +kernel
theorem dX12_does_177 : decode cX12_does 177 = .ok (.if_icmp .gt 7, 3) := by decide +kernel
theorem dX12_does_184 : decode cX12_does 184 = .ok (.iconst 0, 1) := by decide +kernel
theorem dX12_does_185 : decode cX12_does 185 = .ok (.ireturn, 1) := by decide +kernel
theorem dX12_does_180 : decode cX12_does 180 = .ok (.iconst 1, 1) := by decide +kernel
theorem dX12_does_181 : decode cX12_does 181 = .ok (.goto 4, 3) := by decide +kernel
theorem dX12_day_0 : decode cX12_day 0 = .ok (.aload_n 0, 1) := by decide +kernel
theorem dX12_day_1 : decode cX12_day 1 = .ok (.iconst 0, 1) := by decide +kernel
theorem dX12_day_2 : decode cX12_day 2 = .ok (.putfield 117, 3) := by decide +kernel
theorem dX12_day_5 : decode cX12_day 5 = .ok (.aload_n 0, 1) := by decide +kernel
theorem dX12_day_6 : decode cX12_day 6 = .ok (.bipush 60, 2) := by decide +kernel
theorem dX12_day_8 : decode cX12_day 8 = .ok (.invokevirtual 194, 3) := by decide +kernel
theorem dX12_day_11 : decode cX12_day 11 = .ok (.istore_n 1, 1) := by decide +kernel
theorem dX12_day_12 : decode cX12_day 12 = .ok (.aload_n 0, 1) := by decide +kernel
theorem dX12_day_13 : decode cX12_day 13 = .ok (.iconst 0, 1) := by decide +kernel
theorem dX12_day_14 : decode cX12_day 14 = .ok (.putfield 388, 3) := by decide +kernel
theorem dX12_day_17 : decode cX12_day 17 = .ok (.iconst 1, 1) := by decide +kernel
theorem dX12_day_18 : decode cX12_day 18 = .ok (.istore_n 2, 1) := by decide +kernel
theorem dX12_day_19 : decode cX12_day 19 = .ok (.iload_n 1, 1) := by decide +kernel
theorem dX12_day_28 : decode cX12_day 28 = .ok (.istore_n 3, 1) := by decide +kernel
theorem dX12_day_29 : decode cX12_day 29 = .ok (.iload_n 3, 1) := by decide +kernel
theorem dX12_day_30 : decode cX12_day 30 = .ok (.ifCond .eq 30, 3) := by decide +kernel
theorem dX12_day_33 : decode cX12_day 33 = .ok (.aload_n 0, 1) := by decide +kernel
theorem dX12_day_34 : decode cX12_day 34 = .ok (.invokevirtual 393, 3) := by decide +kernel
theorem dX12_day_37 : decode cX12_day 37 = .ok (.istore_n 2, 1) := by decide +kernel
theorem dX12_day_38 : decode cX12_day 38 = .ok (.iload_n 2, 1) := by decide +kernel
theorem dX12_day_56 : decode cX12_day 56 = .ok (.istore_n 3, 1) := by decide +kernel
theorem dX12_day_57 : decode cX12_day 57 = .ok (.goto (-28), 3) := by decide +kernel
theorem dX12_day_55 : decode cX12_day 55 = .ok (.iconst 0, 1) := by decide +kernel
theorem dX12_day_39 : decode cX12_day 39 = .ok (.ifCond .eq 16, 3) := by decide +kernel
theorem dX12_day_42 : decode cX12_day 42 = .ok (.aload_n 0, 1) := by decide +kernel
theorem dX12_day_43 : decode cX12_day 43 = .ok (.bipush 59, 2) := by decide +kernel
theorem dX12_day_45 : decode cX12_day 45 = .ok (.invokevirtual 200, 3) := by decide +kernel
theorem dX12_day_48 : decode cX12_day 48 = .ok (.ifCond .eq 7, 3) := by decide +kernel
theorem dX12_day_51 : decode cX12_day 51 = .ok (.iconst 1, 1) := by decide +kernel
theorem dX12_day_52 : decode cX12_day 52 = .ok (.goto 4, 3) := by decide +kernel
theorem dX12_day_60 : decode cX12_day 60 = .ok (.aload_n 0, 1) := by decide +kernel
theorem dX12_day_61 : decode cX12_day 61 = .ok (.iload_n 1, 1) := by decide +kernel
theorem dX12_day_62 : decode cX12_day 62 = .ok (.bipush 60, 2) := by decide +kernel
theorem dX12_day_64 : decode cX12_day 64 = .ok (.iload_n 2, 1) := by decide +kernel
theorem dX12_day_65 : decode cX12_day 65 = .ok (.invokevirtual 204, 3) := by decide +kernel
theorem dX12_day_68 : decode cX12_day 68 = .ok (.istore 4, 2) := by decide +kernel
theorem dX12_day_70 : decode cX12_day 70 = .ok (.iload 4, 2) := by decide +kernel
theorem dX12_day_72 : decode cX12_day 72 = .ok (.ifCond .ge 6, 3) := by decide +kernel
theorem dX12_day_78 : decode cX12_day 78 = .ok (.aload_n 0, 1) := by decide +kernel
theorem dX12_day_79 : decode cX12_day 79 = .ok (.invokevirtual 353, 3) := by decide +kernel
theorem dX12_day_82 : decode cX12_day 82 = .ok (.aload_n 0, 1) := by decide +kernel
theorem dX12_day_83 : decode cX12_day 83 = .ok (.invokevirtual 377, 3) := by decide +kernel
theorem dX12_day_86 : decode cX12_day 86 = .ok (.iconst 0, 1) := by decide +kernel
theorem dX12_day_87 : decode cX12_day 87 = .ok (.istore 5, 2) := by decide +kernel
theorem dX12_day_89 : decode cX12_day 89 = .ok (.iload 5, 2) := by decide +kernel
theorem dX12_day_91 : decode cX12_day 91 = .ok (.aload_n 0, 1) := by decide +kernel
theorem dX12_day_92 : decode cX12_day 92 = .ok (.getfield 388, 3) := by decide +kernel
theorem dX12_day_95 : decode cX12_day 95 = .ok (.if_icmp .ge 18, 3) := by decide +kernel
theorem dX12_day_98 : decode cX12_day 98 = .ok (.aload_n 0, 1) := by decide +kernel
theorem dX12_day_99 : decode cX12_day 99 = .ok (.iload 5, 2) := by decide +kernel
theorem dX12_day_101 : decode cX12_day 101 = .ok (.invokevirtual 396, 3) := by decide +kernel
theorem dX12_day_104 : decode cX12_day 104 = .ok (.ifCond .eq 9, 3) := by decide +kernel
theorem dX12_day_107 : decode cX12_day 107 = .ok (.iinc 5 1, 3) := by decide +kernel
theorem dX12_day_110 : decode cX12_day 110 = .ok (.goto (-21), 3) := by decide +kernel
theorem dX12_day_113 : decode cX12_day 113 = .ok (.aload_n 0, 1) := by decide +kernel
theorem dX12_day_114 : decode cX12_day 114 = .ok (.iconst 0, 1) := by decide +kernel
theorem dX12_day_115 : decode cX12_day 115 = .ok (.putfield 125, 3) := by decide +kernel
theorem dX12_day_118 : decode cX12_day 118 = .ok (.aload_n 0, 1) := by decide +kernel
theorem dX12_day_119 : decode cX12_day 119 = .ok (.iload 5, 2) := by decide +kernel
theorem dX12_day_121 : decode cX12_day 121 = .ok (.aload_n 0, 1) := by decide +kernel
theorem dX12_day_122 : decode cX12_day 122 = .ok (.getfield 388, 3) := by decide +kernel
theorem dX12_day_133 : decode cX12_day 133 = .ok (.invokestatic 156, 3) := by decide +kernel
theorem dX12_day_136 : decode cX12_day 136 = .ok (.i2l, 1) := by decide +kernel
theorem dX12_day_137 : decode cX12_day 137 = .ok (.invokevirtual 384, 3) := by decide +kernel
theorem dX12_day_140 : decode cX12_day 140 = .ok (.aload_n 0, 1) := by decide +kernel
theorem dX12_day_141 : decode cX12_day 141 = .ok (.aload_n 0, 1) := by decide +kernel
theorem dX12_day_142 : decode cX12_day 142 = .ok (.getfield 329, 3) := by decide +kernel
theorem dX12_day_145 : decode cX12_day 145 = .ok (.i2l, 1) := by decide +kernel
theorem dX12_day_146 : decode cX12_day 146 = .ok (.invokevirtual 384, 3) := by decide +kernel
theorem dX12_day_149 : decode cX12_day 149 = .ok (.iload 5, 2) := by decide +kernel
theorem dX12_day_151 : decode cX12_day 151 = .ok (.ifCond .le 12, 3) := by decide +kernel
theorem dX12_day_163 : decode cX12_day 163 = .ok (.iconst 0, 1) := by decide +kernel
theorem dX12_day_164 : decode cX12_day 164 = .ok (.ireturn, 1) := by decide +kernel
theorem dX12_day_154 : decode cX12_day 154 = .ok (.aload_n 0, 1) := by decide +kernel
theorem dX12_day_155 : decode cX12_day 155 = .ok (.iload 5, 2) := by decide +kernel
theorem dX12_day_157 : decode cX12_day 157 = .ok (.invokevirtual 301, 3) := by decide +kernel
theorem dX12_day_160 : decode cX12_day 160 = .ok (.goto 4, 3) := by decide +kernel
theorem dX12_day_125 : decode cX12_day 125 = .ok (.if_icmp .ge 7, 3) := by decide +kernel
theorem dX12_day_132 : decode cX12_day 132 = .ok (.iconst 0, 1) := by decide +kernel
theorem dX12_day_128 : decode cX12_day 128 = .ok (.iconst 1, 1) := by decide +kernel
theorem dX12_day_129 : decode cX12_day 129 = .ok (.goto 4, 3) := by decide +kernel
theorem dX12_day_75 : decode cX12_day 75 = .ok (.iload 4, 2) := by decide +kernel
theorem dX12_day_77 : decode cX12_day 77 = .ok (.ireturn, 1) := by decide +kernel
theorem dX12_day_20 : decode cX12_day 20 = .ok (.ifCond .le 7, 3) := by decide +kernel
theorem dX12_day_27 : decode cX12_day 27 = .ok (.iconst 0, 1) := by decide +kernel
theorem dX12_day_23 : decode cX12_day 23 = .ok (.iconst 1, 1) := by decide +kernel
theorem dX12_day_24 : decode cX12_day 24 = .ok (.goto 4, 3) := by decide +kernel
theorem dX12_touches_0 : decode cX12_touches 0 = .ok (.aload_n 0, 1) := by decide +kernel
theorem dX12_touches_1 : decode cX12_touches 1 = .ok (.iconst 0, 1) := by decide +kernel
theorem dX12_touches_2 : decode cX12_touches 2 = .ok (.putfield 117, 3) := by decide +kernel
theorem dX12_touches_5 : decode cX12_touches 5 = .ok (.aload_n 0, 1) := by decide +kernel
theorem dX12_touches_6 : decode cX12_touches 6 = .ok (.iconst 0, 1) := by decide +kernel
theorem dX12_touches_7 : decode cX12_touches 7 = .ok (.putfield 125, 3) := by decide +kernel
theorem dX12_touches_10 : decode cX12_touches 10 = .ok (.iconst 0, 1) := by decide +kernel
theorem dX12_touches_11 : decode cX12_touches 11 = .ok (.istore_n 1, 1) := by decide +kernel
theorem dX12_touches_12 : decode cX12_touches 12 = .ok (.iconst 0, 1) := by decide +kernel
theorem dX12_touches_13 : decode cX12_touches 13 = .ok (.istore_n 2, 1) := by decide +kernel
theorem dX12_touches_14 : decode cX12_touches 14 = .ok (.iload_n 2, 1) := by decide +kernel
theorem dX12_touches_15 : decode cX12_touches 15 = .ok (.aload_n 0, 1) := by decide +kernel
theorem dX12_touches_16 : decode cX12_touches 16 = .ok (.getfield 135, 3) := by decide +kernel
theorem dX12_touches_19 : decode cX12_touches 19 = .ok (.if_icmp .ge 87, 3) := by decide +kernel
theorem dX12_touches_22 : decode cX12_touches 22 = .ok (.iload_n 2, 1) := by decide +kernel
theorem dX12_touches_23 : decode cX12_touches 23 = .ok (.iconst 1, 1) := by decide +kernel
theorem dX12_touches_24 : decode cX12_touches 24 = .ok (.iadd, 1) := by decide +kernel
theorem dX12_touches_25 : decode cX12_touches 25 = .ok (.istore_n 3, 1) := by decide +kernel
theorem dX12_touches_26 : decode cX12_touches 26 = .ok (.iload_n 3, 1) := by decide +kernel
theorem dX12_touches_27 : decode cX12_touches 27 = .ok (.aload_n 0, 1) := by decide +kernel
theorem dX12_touches_28 : decode cX12_touches 28 = .ok (.getfield 135, 3) := by decide +kernel
theorem dX12_touches_31 : decode cX12_touches 31 = .ok (.if_icmp .ge 69, 3) := by decide +kernel
theorem dX12_touches_34 : decode cX12_touches 34 = .ok (.aload_n 0, 1) := by decide +kernel
theorem dX12_touches_35 : decode cX12_touches 35 = .ok (.iload_n 2, 1) := by decide +kernel
theorem dX12_touches_36 : decode cX12_touches 36 = .ok (.invokevirtual 268, 3) := by decide +kernel
theorem dX12_touches_39 : decode cX12_touches 39 = .ok (.iconst 2, 1) := by decide +kernel
theorem dX12_touches_94 : decode cX12_touches 94 = .ok (.iinc 3 1, 3) := by decide +kernel
theorem dX12_touches_97 : decode cX12_touches 97 = .ok (.goto (-71), 3) := by decide +kernel
theorem dX12_touches_40 : decode cX12_touches 40 = .ok (.if_icmp .ne 54, 3) := by decide +kernel
theorem dX12_touches_43 : decode cX12_touches 43 = .ok (.aload_n 0, 1) := by decide +kernel
theorem dX12_touches_44 : decode cX12_touches 44 = .ok (.iload_n 3, 1) := by decide +kernel
theorem dX12_touches_45 : decode cX12_touches 45 = .ok (.invokevirtual 268, 3) := by decide +kernel
theorem dX12_touches_48 : decode cX12_touches 48 = .ok (.iconst 2, 1) := by decide +kernel
theorem dX12_touches_49 : decode cX12_touches 49 = .ok (.if_icmp .ne 45, 3) := by decide +kernel
theorem dX12_touches_52 : decode cX12_touches 52 = .ok (.aload_n 0, 1) := by decide +kernel
theorem dX12_touches_53 : decode cX12_touches 53 = .ok (.aload_n 0, 1) := by decide +kernel
theorem dX12_touches_54 : decode cX12_touches 54 = .ok (.getfield 32, 3) := by decide +kernel
theorem dX12_touches_57 : decode cX12_touches 57 = .ok (.iload_n 2, 1) := by decide +kernel
theorem dX12_touches_58 : decode cX12_touches 58 = .ok (.invokestatic 293, 3) := by decide +kernel
theorem dX12_touches_61 : decode cX12_touches 61 = .ok (.aload_n 0, 1) := by decide +kernel
theorem dX12_touches_62 : decode cX12_touches 62 = .ok (.getfield 32, 3) := by decide +kernel
theorem dX12_touches_65 : decode cX12_touches 65 = .ok (.iload_n 3, 1) := by decide +kernel
theorem dX12_touches_66 : decode cX12_touches 66 = .ok (.invokestatic 293, 3) := by decide +kernel
theorem dX12_touches_69 : decode cX12_touches 69 = .ok (.invokevirtual 346, 3) := by decide +kernel
theorem dX12_touches_72 : decode cX12_touches 72 = .ok (.ifCond .eq 22, 3) := by decide +kernel
theorem dX12_touches_75 : decode cX12_touches 75 = .ok (.iload_n 1, 1) := by decide +kernel
theorem dX12_touches_91 : decode cX12_touches 91 = .ok (.iinc 1 1, 3) := by decide +kernel
theorem dX12_touches_76 : decode cX12_touches 76 = .ok (.ifCond .ne 15, 3) := by decide +kernel
theorem dX12_touches_79 : decode cX12_touches 79 = .ok (.aload_n 0, 1) := by decide +kernel
theorem dX12_touches_80 : decode cX12_touches 80 = .ok (.iload_n 2, 1) := by decide +kernel
theorem dX12_touches_81 : decode cX12_touches 81 = .ok (.i2l, 1) := by decide +kernel
theorem dX12_touches_82 : decode cX12_touches 82 = .ok (.invokevirtual 384, 3) := by decide +kernel
theorem dX12_touches_85 : decode cX12_touches 85 = .ok (.aload_n 0, 1) := by decide +kernel
theorem dX12_touches_86 : decode cX12_touches 86 = .ok (.iload_n 3, 1) := by decide +kernel
theorem dX12_touches_87 : decode cX12_touches 87 = .ok (.i2l, 1) := by decide +kernel
theorem dX12_touches_88 : decode cX12_touches 88 = .ok (.invokevirtual 384, 3) := by decide +kernel
theorem dX12_touches_100 : decode cX12_touches 100 = .ok (.iinc 2 1, 3) := by decide +kernel
theorem dX12_touches_103 : decode cX12_touches 103 = .ok (.goto (-89), 3) := by decide +kernel
theorem dX12_touches_106 : decode cX12_touches 106 = .ok (.iload_n 1, 1) := by decide +kernel
theorem dX12_touches_107 : decode cX12_touches 107 = .ok (.ireturn, 1) := by decide +kernel
theorem dX12_isBreach_0 : decode cX12_isBreach 0 = .ok (.aload_n 0, 1) := by decide +kernel
theorem dX12_isBreach_1 : decode cX12_isBreach 1 = .ok (.getfield 17, 3) := by decide +kernel
theorem dX12_isBreach_4 : decode cX12_isBreach 4 = .ok (.iload_n 2, 1) := by decide +kernel
theorem dX12_isBreach_5 : decode cX12_isBreach 5 = .ok (.iaload, 1) := by decide +kernel
theorem dX12_isBreach_6 : decode cX12_isBreach 6 = .ok (.aload_n 0, 1) := by decide +kernel
theorem dX12_isBreach_7 : decode cX12_isBreach 7 = .ok (.getfield 17, 3) := by decide +kernel
theorem dX12_isBreach_10 : decode cX12_isBreach 10 = .ok (.iload 4, 2) := by decide +kernel
theorem dX12_isBreach_12 : decode cX12_isBreach 12 = .ok (.iaload, 1) := by decide +kernel
theorem dX12_isBreach_13 : decode cX12_isBreach 13 = .ok (.if_icmp .ne 36, 3) := by decide +kernel
theorem dX12_isBreach_49 : decode cX12_isBreach 49 = .ok (.iconst 0, 1) := by decide +kernel
theorem dX12_isBreach_50 : decode cX12_isBreach 50 = .ok (.ireturn, 1) := by decide +kernel
theorem dX12_isBreach_16 : decode cX12_isBreach 16 = .ok (.aload_n 0, 1) := by decide +kernel
theorem dX12_isBreach_17 : decode cX12_isBreach 17 = .ok (.getfield 13, 3) := by decide +kernel
theorem dX12_isBreach_20 : decode cX12_isBreach 20 = .ok (.iload_n 2, 1) := by decide +kernel
theorem dX12_isBreach_21 : decode cX12_isBreach 21 = .ok (.iaload, 1) := by decide +kernel
theorem dX12_isBreach_22 : decode cX12_isBreach 22 = .ok (.aload_n 0, 1) := by decide +kernel
theorem dX12_isBreach_23 : decode cX12_isBreach 23 = .ok (.getfield 13, 3) := by decide +kernel
theorem dX12_isBreach_26 : decode cX12_isBreach 26 = .ok (.iload 4, 2) := by decide +kernel
theorem dX12_isBreach_28 : decode cX12_isBreach 28 = .ok (.iaload, 1) := by decide +kernel
theorem dX12_isBreach_29 : decode cX12_isBreach 29 = .ok (.if_icmp .le 20, 3) := by decide +kernel
theorem dX12_isBreach_32 : decode cX12_isBreach 32 = .ok (.aload_n 0, 1) := by decide +kernel
theorem dX12_isBreach_33 : decode cX12_isBreach 33 = .ok (.iload_n 1, 1) := by decide +kernel
theorem dX12_isBreach_34 : decode cX12_isBreach 34 = .ok (.invokevirtual 287, 3) := by decide +kernel
theorem dX12_isBreach_37 : decode cX12_isBreach 37 = .ok (.aload_n 0, 1) := by decide +kernel
theorem dX12_isBreach_38 : decode cX12_isBreach 38 = .ok (.iload_n 3, 1) := by decide +kernel
theorem dX12_isBreach_39 : decode cX12_isBreach 39 = .ok (.invokevirtual 287, 3) := by decide +kernel
theorem dX12_isBreach_42 : decode cX12_isBreach 42 = .ok (.if_icmp .le 7, 3) := by decide +kernel
theorem dX12_isBreach_45 : decode cX12_isBreach 45 = .ok (.iconst 1, 1) := by decide +kernel
theorem dX12_isBreach_46 : decode cX12_isBreach 46 = .ok (.goto 4, 3) := by decide +kernel
theorem dX12_breaches_0 : decode cX12_breaches 0 = .ok (.aload_n 0, 1) := by decide +kernel
theorem dX12_breaches_1 : decode cX12_breaches 1 = .ok (.iconst 0, 1) := by decide +kernel
theorem dX12_breaches_2 : decode cX12_breaches 2 = .ok (.putfield 117, 3) := by decide +kernel
theorem dX12_breaches_5 : decode cX12_breaches 5 = .ok (.aload_n 0, 1) := by decide +kernel
theorem dX12_breaches_6 : decode cX12_breaches 6 = .ok (.iconst 0, 1) := by decide +kernel
theorem dX12_breaches_7 : decode cX12_breaches 7 = .ok (.putfield 125, 3) := by decide +kernel
theorem dX12_breaches_10 : decode cX12_breaches 10 = .ok (.iconst 0, 1) := by decide +kernel
theorem dX12_breaches_11 : decode cX12_breaches 11 = .ok (.istore_n 1, 1) := by decide +kernel
theorem dX12_breaches_12 : decode cX12_breaches 12 = .ok (.iconst 0, 1) := by decide +kernel
theorem dX12_breaches_13 : decode cX12_breaches 13 = .ok (.istore_n 2, 1) := by decide +kernel
theorem dX12_breaches_14 : decode cX12_breaches 14 = .ok (.iload_n 2, 1) := by decide +kernel
theorem dX12_breaches_15 : decode cX12_breaches 15 = .ok (.aload_n 0, 1) := by decide +kernel
theorem dX12_breaches_16 : decode cX12_breaches 16 = .ok (.getfield 135, 3) := by decide +kernel
theorem dX12_breaches_19 : decode cX12_breaches 19 = .ok (.if_icmp .ge 87, 3) := by decide +kernel
theorem dX12_breaches_22 : decode cX12_breaches 22 = .ok (.iconst 0, 1) := by decide +kernel
theorem dX12_breaches_23 : decode cX12_breaches 23 = .ok (.istore_n 3, 1) := by decide +kernel
theorem dX12_breaches_24 : decode cX12_breaches 24 = .ok (.iload_n 3, 1) := by decide +kernel
theorem dX12_breaches_25 : decode cX12_breaches 25 = .ok (.aload_n 0, 1) := by decide +kernel
theorem dX12_breaches_26 : decode cX12_breaches 26 = .ok (.getfield 135, 3) := by decide +kernel
theorem dX12_breaches_29 : decode cX12_breaches 29 = .ok (.if_icmp .ge 71, 3) := by decide +kernel
theorem dX12_breaches_32 : decode cX12_breaches 32 = .ok (.aload_n 0, 1) := by decide +kernel
theorem dX12_breaches_33 : decode cX12_breaches 33 = .ok (.iload_n 2, 1) := by decide +kernel
theorem dX12_breaches_34 : decode cX12_breaches 34 = .ok (.invokevirtual 268, 3) := by decide +kernel
theorem dX12_breaches_37 : decode cX12_breaches 37 = .ok (.iconst 2, 1) := by decide +kernel
theorem dX12_breaches_94 : decode cX12_breaches 94 = .ok (.iinc 3 1, 3) := by decide +kernel
theorem dX12_breaches_97 : decode cX12_breaches 97 = .ok (.goto (-73), 3) := by decide +kernel
theorem dX12_breaches_38 : decode cX12_breaches 38 = .ok (.if_icmp .ne 56, 3) := by decide +kernel
theorem dX12_breaches_41 : decode cX12_breaches 41 = .ok (.aload_n 0, 1) := by decide +kernel
theorem dX12_breaches_42 : decode cX12_breaches 42 = .ok (.iload_n 3, 1) := by decide +kernel
theorem dX12_breaches_43 : decode cX12_breaches 43 = .ok (.invokevirtual 268, 3) := by decide +kernel
theorem dX12_breaches_46 : decode cX12_breaches 46 = .ok (.iconst 2, 1) := by decide +kernel
theorem dX12_breaches_47 : decode cX12_breaches 47 = .ok (.if_icmp .ne 47, 3) := by decide +kernel
theorem dX12_breaches_50 : decode cX12_breaches 50 = .ok (.aload_n 0, 1) := by decide +kernel
theorem dX12_breaches_51 : decode cX12_breaches 51 = .ok (.iload_n 2, 1) := by decide +kernel
theorem dX12_breaches_52 : decode cX12_breaches 52 = .ok (.aload_n 0, 1) := by decide +kernel
theorem dX12_breaches_53 : decode cX12_breaches 53 = .ok (.getfield 32, 3) := by decide +kernel
theorem dX12_breaches_56 : decode cX12_breaches 56 = .ok (.iload_n 2, 1) := by decide +kernel
theorem dX12_breaches_57 : decode cX12_breaches 57 = .ok (.invokestatic 293, 3) := by decide +kernel
theorem dX12_breaches_60 : decode cX12_breaches 60 = .ok (.iload_n 3, 1) := by decide +kernel
theorem dX12_breaches_61 : decode cX12_breaches 61 = .ok (.aload_n 0, 1) := by decide +kernel
theorem dX12_breaches_62 : decode cX12_breaches 62 = .ok (.getfield 32, 3) := by decide +kernel
theorem dX12_breaches_65 : decode cX12_breaches 65 = .ok (.iload_n 3, 1) := by decide +kernel
theorem dX12_breaches_66 : decode cX12_breaches 66 = .ok (.invokestatic 293, 3) := by decide +kernel
theorem dX12_breaches_69 : decode cX12_breaches 69 = .ok (.invokevirtual 399, 3) := by decide +kernel
theorem dX12_breaches_72 : decode cX12_breaches 72 = .ok (.ifCond .eq 22, 3) := by decide +kernel
theorem dX12_breaches_75 : decode cX12_breaches 75 = .ok (.iload_n 1, 1) := by decide +kernel
theorem dX12_breaches_91 : decode cX12_breaches 91 = .ok (.iinc 1 1, 3) := by decide +kernel
theorem dX12_breaches_76 : decode cX12_breaches 76 = .ok (.ifCond .ne 15, 3) := by decide +kernel
theorem dX12_breaches_79 : decode cX12_breaches 79 = .ok (.aload_n 0, 1) := by decide +kernel
theorem dX12_breaches_80 : decode cX12_breaches 80 = .ok (.iload_n 2, 1) := by decide +kernel
theorem dX12_breaches_81 : decode cX12_breaches 81 = .ok (.i2l, 1) := by decide +kernel
theorem dX12_breaches_82 : decode cX12_breaches 82 = .ok (.invokevirtual 384, 3) := by decide +kernel
theorem dX12_breaches_85 : decode cX12_breaches 85 = .ok (.aload_n 0, 1) := by decide +kernel
theorem dX12_breaches_86 : decode cX12_breaches 86 = .ok (.iload_n 3, 1) := by decide +kernel
theorem dX12_breaches_87 : decode cX12_breaches 87 = .ok (.i2l, 1) := by decide +kernel
theorem dX12_breaches_88 : decode cX12_breaches 88 = .ok (.invokevirtual 384, 3) := by decide +kernel
theorem dX12_breaches_100 : decode cX12_breaches 100 = .ok (.iinc 2 1, 3) := by decide +kernel
theorem dX12_breaches_103 : decode cX12_breaches 103 = .ok (.goto (-89), 3) := by decide +kernel
theorem dX12_breaches_106 : decode cX12_breaches 106 = .ok (.iload_n 1, 1) := by decide +kernel
theorem dX12_breaches_107 : decode cX12_breaches 107 = .ok (.ireturn, 1) := by decide +kernel
theorem dX12_puts_0 : decode cX12_puts 0 = .ok (.iconst 0, 1) := by decide +kernel
theorem dX12_puts_1 : decode cX12_puts 1 = .ok (.istore_n 1, 1) := by decide +kernel
theorem dX12_puts_2 : decode cX12_puts 2 = .ok (.iload_n 1, 1) := by decide +kernel
theorem dX12_puts_3 : decode cX12_puts 3 = .ok (.bipush 43, 2) := by decide +kernel
theorem dX12_puts_5 : decode cX12_puts 5 = .ok (.if_icmp .ge 21, 3) := by decide +kernel
theorem dX12_puts_8 : decode cX12_puts 8 = .ok (.aload_n 0, 1) := by decide +kernel
theorem dX12_puts_9 : decode cX12_puts 9 = .ok (.getfield 35, 3) := by decide +kernel
theorem dX12_puts_12 : decode cX12_puts 12 = .ok (.iload_n 1, 1) := by decide +kernel
theorem dX12_puts_13 : decode cX12_puts 13 = .ok (.aload_n 0, 1) := by decide +kernel
theorem dX12_puts_14 : decode cX12_puts 14 = .ok (.getfield 32, 3) := by decide +kernel
theorem dX12_puts_17 : decode cX12_puts 17 = .ok (.iload_n 1, 1) := by decide +kernel
theorem dX12_puts_18 : decode cX12_puts 18 = .ok (.iaload, 1) := by decide +kernel
theorem dX12_puts_19 : decode cX12_puts 19 = .ok (.iastore, 1) := by decide +kernel
theorem dX12_puts_20 : decode cX12_puts 20 = .ok (.iinc 1 1, 3) := by decide +kernel
theorem dX12_puts_23 : decode cX12_puts 23 = .ok (.goto (-21), 3) := by decide +kernel
theorem dX12_puts_26 : decode cX12_puts 26 = .ok (.return_, 1) := by decide +kernel
theorem dX12_drifts_0 : decode cX12_drifts 0 = .ok (.aload_n 0, 1) := by decide +kernel
theorem dX12_drifts_1 : decode cX12_drifts 1 = .ok (.iconst 0, 1) := by decide +kernel
theorem dX12_drifts_2 : decode cX12_drifts 2 = .ok (.putfield 117, 3) := by decide +kernel
theorem dX12_drifts_5 : decode cX12_drifts 5 = .ok (.aload_n 0, 1) := by decide +kernel
theorem dX12_drifts_6 : decode cX12_drifts 6 = .ok (.iload_n 1, 1) := by decide +kernel
theorem dX12_drifts_7 : decode cX12_drifts 7 = .ok (.invokevirtual 282, 3) := by decide +kernel
theorem dX12_drifts_10 : decode cX12_drifts 10 = .ok (.ifCond .eq 15, 3) := by decide +kernel
theorem dX12_drifts_25 : decode cX12_drifts 25 = .ok (.iconst (-1), 1) := by decide +kernel
theorem dX12_drifts_26 : decode cX12_drifts 26 = .ok (.ireturn, 1) := by decide +kernel
theorem dX12_drifts_13 : decode cX12_drifts 13 = .ok (.iload_n 2, 1) := by decide +kernel
theorem dX12_drifts_14 : decode cX12_drifts 14 = .ok (.i2l, 1) := by decide +kernel
theorem dX12_drifts_15 : decode cX12_drifts 15 = .ok (.lconst 0, 1) := by decide +kernel
theorem dX12_drifts_16 : decode cX12_drifts 16 = .ok (.ldc2_w 403, 3) := by decide +kernel
theorem dX12_drifts_19 : decode cX12_drifts 19 = .ok (.invokestatic 131, 3) := by decide +kernel
theorem dX12_drifts_22 : decode cX12_drifts 22 = .ok (.ifCond .ne 5, 3) := by decide +kernel
theorem dX12_drifts_27 : decode cX12_drifts 27 = .ok (.aload_n 0, 1) := by decide +kernel
theorem dX12_drifts_28 : decode cX12_drifts 28 = .ok (.invokevirtual 405, 3) := by decide +kernel
theorem dX12_drifts_31 : decode cX12_drifts 31 = .ok (.iconst 0, 1) := by decide +kernel
theorem dX12_drifts_32 : decode cX12_drifts 32 = .ok (.istore_n 3, 1) := by decide +kernel
theorem dX12_drifts_33 : decode cX12_drifts 33 = .ok (.iload_n 3, 1) := by decide +kernel
theorem dX12_drifts_34 : decode cX12_drifts 34 = .ok (.iload_n 2, 1) := by decide +kernel
theorem dX12_drifts_35 : decode cX12_drifts 35 = .ok (.if_icmp .ge 17, 3) := by decide +kernel
theorem dX12_drifts_38 : decode cX12_drifts 38 = .ok (.aload_n 0, 1) := by decide +kernel
theorem dX12_drifts_39 : decode cX12_drifts 39 = .ok (.aload_n 0, 1) := by decide +kernel
theorem dX12_drifts_40 : decode cX12_drifts 40 = .ok (.getfield 35, 3) := by decide +kernel
theorem dX12_drifts_43 : decode cX12_drifts 43 = .ok (.invokevirtual 380, 3) := by decide +kernel
theorem dX12_drifts_46 : decode cX12_drifts 46 = .ok (.iinc 3 1, 3) := by decide +kernel
theorem dX12_drifts_49 : decode cX12_drifts 49 = .ok (.goto (-16), 3) := by decide +kernel
theorem dX12_drifts_52 : decode cX12_drifts 52 = .ok (.aload_n 0, 1) := by decide +kernel
theorem dX12_drifts_53 : decode cX12_drifts 53 = .ok (.iconst 0, 1) := by decide +kernel
theorem dX12_drifts_54 : decode cX12_drifts 54 = .ok (.putfield 125, 3) := by decide +kernel
theorem dX12_drifts_57 : decode cX12_drifts 57 = .ok (.aload_n 0, 1) := by decide +kernel
theorem dX12_drifts_58 : decode cX12_drifts 58 = .ok (.aload_n 0, 1) := by decide +kernel
theorem dX12_drifts_59 : decode cX12_drifts 59 = .ok (.getfield 35, 3) := by decide +kernel
theorem dX12_drifts_62 : decode cX12_drifts 62 = .ok (.bipush 7, 2) := by decide +kernel
theorem dX12_drifts_64 : decode cX12_drifts 64 = .ok (.iload_n 1, 1) := by decide +kernel
theorem dX12_drifts_65 : decode cX12_drifts 65 = .ok (.imul, 1) := by decide +kernel
theorem dX12_drifts_66 : decode cX12_drifts 66 = .ok (.iconst 0, 1) := by decide +kernel
theorem dX12_drifts_67 : decode cX12_drifts 67 = .ok (.iadd, 1) := by decide +kernel
theorem dX12_drifts_68 : decode cX12_drifts 68 = .ok (.iaload, 1) := by decide +kernel
theorem dX12_drifts_69 : decode cX12_drifts 69 = .ok (.i2l, 1) := by decide +kernel
theorem dX12_drifts_70 : decode cX12_drifts 70 = .ok (.invokevirtual 384, 3) := by decide +kernel
theorem dX12_drifts_73 : decode cX12_drifts 73 = .ok (.aload_n 0, 1) := by decide +kernel
theorem dX12_drifts_74 : decode cX12_drifts 74 = .ok (.aload_n 0, 1) := by decide +kernel
theorem dX12_drifts_75 : decode cX12_drifts 75 = .ok (.getfield 35, 3) := by decide +kernel
theorem dX12_drifts_78 : decode cX12_drifts 78 = .ok (.iload_n 1, 1) := by decide +kernel
theorem dX12_drifts_79 : decode cX12_drifts 79 = .ok (.invokestatic 296, 3) := by decide +kernel
theorem dX12_drifts_82 : decode cX12_drifts 82 = .ok (.aload_n 0, 1) := by decide +kernel
theorem dX12_drifts_83 : decode cX12_drifts 83 = .ok (.getfield 35, 3) := by decide +kernel
theorem dX12_drifts_86 : decode cX12_drifts 86 = .ok (.iload_n 1, 1) := by decide +kernel
theorem dX12_drifts_87 : decode cX12_drifts 87 = .ok (.invokestatic 293, 3) := by decide +kernel
theorem dX12_drifts_90 : decode cX12_drifts 90 = .ok (.invokestatic 265, 3) := by decide +kernel
theorem dX12_drifts_93 : decode cX12_drifts 93 = .ok (.i2l, 1) := by decide +kernel
theorem dX12_drifts_94 : decode cX12_drifts 94 = .ok (.invokevirtual 384, 3) := by decide +kernel
theorem dX12_drifts_97 : decode cX12_drifts 97 = .ok (.aload_n 0, 1) := by decide +kernel
theorem dX12_drifts_98 : decode cX12_drifts 98 = .ok (.getfield 35, 3) := by decide +kernel
theorem dX12_drifts_101 : decode cX12_drifts 101 = .ok (.bipush 7, 2) := by decide +kernel
theorem dX12_drifts_103 : decode cX12_drifts 103 = .ok (.iload_n 1, 1) := by decide +kernel
theorem dX12_drifts_104 : decode cX12_drifts 104 = .ok (.imul, 1) := by decide +kernel
theorem dX12_drifts_105 : decode cX12_drifts 105 = .ok (.iconst 3, 1) := by decide +kernel
theorem dX12_drifts_106 : decode cX12_drifts 106 = .ok (.iadd, 1) := by decide +kernel
theorem dX12_drifts_107 : decode cX12_drifts 107 = .ok (.iaload, 1) := by decide +kernel
theorem dX12_drifts_108 : decode cX12_drifts 108 = .ok (.ireturn, 1) := by decide +kernel
theorem dX12_isUp_0 : decode cX12_isUp 0 = .ok (.aload_n 1, 1) := by decide +kernel
theorem dX12_isUp_1 : decode cX12_isUp 1 = .ok (.bipush 7, 2) := by decide +kernel
theorem dX12_isUp_3 : decode cX12_isUp 3 = .ok (.iload_n 2, 1) := by decide +kernel
theorem dX12_isUp_4 : decode cX12_isUp 4 = .ok (.imul, 1) := by decide +kernel
theorem dX12_isUp_5 : decode cX12_isUp 5 = .ok (.iconst 3, 1) := by decide +kernel
theorem dX12_isUp_6 : decode cX12_isUp 6 = .ok (.iadd, 1) := by decide +kernel
theorem dX12_isUp_7 : decode cX12_isUp 7 = .ok (.iaload, 1) := by decide +kernel
theorem dX12_isUp_8 : decode cX12_isUp 8 = .ok (.iconst 1, 1) := by decide +kernel
theorem dX12_isUp_24 : decode cX12_isUp 24 = .ok (.iconst 1, 1) := by decide +kernel
theorem dX12_isUp_25 : decode cX12_isUp 25 = .ok (.goto 4, 3) := by decide +kernel
theorem dX12_isUp_29 : decode cX12_isUp 29 = .ok (.ireturn, 1) := by decide +kernel
theorem dX12_isUp_9 : decode cX12_isUp 9 = .ok (.if_icmp .eq 15, 3) := by decide +kernel
theorem dX12_isUp_12 : decode cX12_isUp 12 = .ok (.aload_n 1, 1) := by decide +kernel
theorem dX12_isUp_13 : decode cX12_isUp 13 = .ok (.bipush 7, 2) := by decide +kernel
theorem dX12_isUp_15 : decode cX12_isUp 15 = .ok (.iload_n 2, 1) := by decide +kernel
theorem dX12_isUp_16 : decode cX12_isUp 16 = .ok (.imul, 1) := by decide +kernel
theorem dX12_isUp_17 : decode cX12_isUp 17 = .ok (.iconst 3, 1) := by decide +kernel
theorem dX12_isUp_18 : decode cX12_isUp 18 = .ok (.iadd, 1) := by decide +kernel
theorem dX12_isUp_19 : decode cX12_isUp 19 = .ok (.iaload, 1) := by decide +kernel
theorem dX12_isUp_20 : decode cX12_isUp 20 = .ok (.iconst 2, 1) := by decide +kernel
theorem dX12_isUp_21 : decode cX12_isUp 21 = .ok (.if_icmp .ne 7, 3) := by decide +kernel
theorem dX12_isUp_28 : decode cX12_isUp 28 = .ok (.iconst 0, 1) := by decide +kernel
theorem dX12_sinks_0 : decode cX12_sinks 0 = .ok (.aload_n 0, 1) := by decide +kernel
theorem dX12_sinks_1 : decode cX12_sinks 1 = .ok (.iconst 0, 1) := by decide +kernel
theorem dX12_sinks_2 : decode cX12_sinks 2 = .ok (.putfield 117, 3) := by decide +kernel
theorem dX12_sinks_5 : decode cX12_sinks 5 = .ok (.aload_n 0, 1) := by decide +kernel
theorem dX12_sinks_6 : decode cX12_sinks 6 = .ok (.iload_n 1, 1) := by decide +kernel
theorem dX12_sinks_7 : decode cX12_sinks 7 = .ok (.invokevirtual 282, 3) := by decide +kernel
theorem dX12_sinks_10 : decode cX12_sinks 10 = .ok (.ifCond .ne 5, 3) := by decide +kernel
theorem dX12_sinks_15 : decode cX12_sinks 15 = .ok (.aload_n 0, 1) := by decide +kernel
theorem dX12_sinks_16 : decode cX12_sinks 16 = .ok (.aload_n 0, 1) := by decide +kernel
theorem dX12_sinks_17 : decode cX12_sinks 17 = .ok (.getfield 32, 3) := by decide +kernel
theorem dX12_sinks_20 : decode cX12_sinks 20 = .ok (.iload_n 1, 1) := by decide +kernel
theorem dX12_sinks_21 : decode cX12_sinks 21 = .ok (.invokevirtual 408, 3) := by decide +kernel
theorem dX12_sinks_24 : decode cX12_sinks 24 = .ok (.ifCond .ne 6, 3) := by decide +kernel
theorem dX12_sinks_30 : decode cX12_sinks 30 = .ok (.aload_n 0, 1) := by decide +kernel
theorem dX12_sinks_31 : decode cX12_sinks 31 = .ok (.invokevirtual 405, 3) := by decide +kernel
theorem dX12_sinks_34 : decode cX12_sinks 34 = .ok (.iconst 1, 1) := by decide +kernel
theorem dX12_sinks_35 : decode cX12_sinks 35 = .ok (.istore_n 2, 1) := by decide +kernel
theorem dX12_sinks_36 : decode cX12_sinks 36 = .ok (.iload_n 2, 1) := by decide +kernel
theorem dX12_sinks_37 : decode cX12_sinks 37 = .ok (.bipush 99, 2) := by decide +kernel
theorem dX12_sinks_39 : decode cX12_sinks 39 = .ok (.if_icmp .gt 52, 3) := by decide +kernel
theorem dX12_sinks_91 : decode cX12_sinks 91 = .ok (.bipush (-2), 2) := by decide +kernel
theorem dX12_sinks_93 : decode cX12_sinks 93 = .ok (.ireturn, 1) := by decide +kernel
theorem dX12_sinks_42 : decode cX12_sinks 42 = .ok (.aload_n 0, 1) := by decide +kernel
theorem dX12_sinks_43 : decode cX12_sinks 43 = .ok (.aload_n 0, 1) := by decide +kernel
theorem dX12_sinks_44 : decode cX12_sinks 44 = .ok (.getfield 35, 3) := by decide +kernel
theorem dX12_sinks_47 : decode cX12_sinks 47 = .ok (.invokevirtual 380, 3) := by decide +kernel
theorem dX12_sinks_50 : decode cX12_sinks 50 = .ok (.aload_n 0, 1) := by decide +kernel
theorem dX12_sinks_51 : decode cX12_sinks 51 = .ok (.aload_n 0, 1) := by decide +kernel
theorem dX12_sinks_52 : decode cX12_sinks 52 = .ok (.getfield 35, 3) := by decide +kernel
theorem dX12_sinks_55 : decode cX12_sinks 55 = .ok (.iload_n 1, 1) := by decide +kernel
theorem dX12_sinks_56 : decode cX12_sinks 56 = .ok (.invokevirtual 408, 3) := by decide +kernel
theorem dX12_sinks_59 : decode cX12_sinks 59 = .ok (.ifCond .ne 26, 3) := by decide +kernel
theorem dX12_sinks_85 : decode cX12_sinks 85 = .ok (.iinc 2 1, 3) := by decide +kernel
theorem dX12_sinks_88 : decode cX12_sinks 88 = .ok (.goto (-52), 3) := by decide +kernel
theorem dX12_sinks_62 : decode cX12_sinks 62 = .ok (.aload_n 0, 1) := by decide +kernel
theorem dX12_sinks_63 : decode cX12_sinks 63 = .ok (.iconst 0, 1) := by decide +kernel
theorem dX12_sinks_64 : decode cX12_sinks 64 = .ok (.putfield 125, 3) := by decide +kernel
theorem dX12_sinks_67 : decode cX12_sinks 67 = .ok (.aload_n 0, 1) := by decide +kernel
theorem dX12_sinks_68 : decode cX12_sinks 68 = .ok (.aload_n 0, 1) := by decide +kernel
theorem dX12_sinks_69 : decode cX12_sinks 69 = .ok (.getfield 35, 3) := by decide +kernel
theorem dX12_sinks_72 : decode cX12_sinks 72 = .ok (.bipush 7, 2) := by decide +kernel
theorem dX12_sinks_74 : decode cX12_sinks 74 = .ok (.iload_n 1, 1) := by decide +kernel
theorem dX12_sinks_75 : decode cX12_sinks 75 = .ok (.imul, 1) := by decide +kernel
theorem dX12_sinks_76 : decode cX12_sinks 76 = .ok (.iconst 3, 1) := by decide +kernel
theorem dX12_sinks_77 : decode cX12_sinks 77 = .ok (.iadd, 1) := by decide +kernel
theorem dX12_sinks_78 : decode cX12_sinks 78 = .ok (.iaload, 1) := by decide +kernel
theorem dX12_sinks_79 : decode cX12_sinks 79 = .ok (.i2l, 1) := by decide +kernel
theorem dX12_sinks_80 : decode cX12_sinks 80 = .ok (.invokevirtual 384, 3) := by decide +kernel
theorem dX12_sinks_83 : decode cX12_sinks 83 = .ok (.iload_n 2, 1) := by decide +kernel
theorem dX12_sinks_84 : decode cX12_sinks 84 = .ok (.ireturn, 1) := by decide +kernel
theorem dX12_sinks_27 : decode cX12_sinks 27 = .ok (.bipush (-3), 2) := by decide +kernel
theorem dX12_sinks_29 : decode cX12_sinks 29 = .ok (.ireturn, 1) := by decide +kernel
theorem dX12_sinks_13 : decode cX12_sinks 13 = .ok (.iconst (-1), 1) := by decide +kernel
theorem dX12_sinks_14 : decode cX12_sinks 14 = .ok (.ireturn, 1) := by decide +kernel
theorem dX12_rises_0 : decode cX12_rises 0 = .ok (.aload_n 0, 1) := by decide +kernel
theorem dX12_rises_1 : decode cX12_rises 1 = .ok (.iconst 0, 1) := by decide +kernel
theorem dX12_rises_2 : decode cX12_rises 2 = .ok (.putfield 117, 3) := by decide +kernel
theorem dX12_rises_5 : decode cX12_rises 5 = .ok (.aload_n 0, 1) := by decide +kernel
theorem dX12_rises_6 : decode cX12_rises 6 = .ok (.iload_n 1, 1) := by decide +kernel
theorem dX12_rises_7 : decode cX12_rises 7 = .ok (.invokevirtual 282, 3) := by decide +kernel
theorem dX12_rises_10 : decode cX12_rises 10 = .ok (.ifCond .eq 15, 3) := by decide +kernel
theorem dX12_rises_25 : decode cX12_rises 25 = .ok (.iconst (-1), 1) := by decide +kernel
theorem dX12_rises_26 : decode cX12_rises 26 = .ok (.ireturn, 1) := by decide +kernel
theorem dX12_rises_13 : decode cX12_rises 13 = .ok (.iload_n 2, 1) := by decide +kernel
theorem dX12_rises_14 : decode cX12_rises 14 = .ok (.i2l, 1) := by decide +kernel
theorem dX12_rises_15 : decode cX12_rises 15 = .ok (.lconst 0, 1) := by decide +kernel
theorem dX12_rises_16 : decode cX12_rises 16 = .ok (.ldc2_w 285, 3) := by decide +kernel
theorem dX12_rises_19 : decode cX12_rises 19 = .ok (.invokestatic 131, 3) := by decide +kernel
theorem dX12_rises_22 : decode cX12_rises 22 = .ok (.ifCond .ne 5, 3) := by decide +kernel
theorem dX12_rises_27 : decode cX12_rises 27 = .ok (.aload_n 0, 1) := by decide +kernel
theorem dX12_rises_28 : decode cX12_rises 28 = .ok (.iload_n 1, 1) := by decide +kernel
theorem dX12_rises_29 : decode cX12_rises 29 = .ok (.invokevirtual 268, 3) := by decide +kernel
theorem dX12_rises_32 : decode cX12_rises 32 = .ok (.iconst 3, 1) := by decide +kernel
theorem dX12_rises_33 : decode cX12_rises 33 = .ok (.if_icmp .ne 6, 3) := by decide +kernel
theorem dX12_rises_39 : decode cX12_rises 39 = .ok (.aload_n 0, 1) := by decide +kernel
theorem dX12_rises_40 : decode cX12_rises 40 = .ok (.invokevirtual 405, 3) := by decide +kernel
theorem dX12_rises_43 : decode cX12_rises 43 = .ok (.iconst 0, 1) := by decide +kernel
theorem dX12_rises_44 : decode cX12_rises 44 = .ok (.istore_n 3, 1) := by decide +kernel
theorem dX12_rises_45 : decode cX12_rises 45 = .ok (.iload_n 3, 1) := by decide +kernel
theorem dX12_rises_46 : decode cX12_rises 46 = .ok (.aload_n 0, 1) := by decide +kernel
theorem dX12_rises_47 : decode cX12_rises 47 = .ok (.getfield 32, 3) := by decide +kernel
theorem dX12_rises_50 : decode cX12_rises 50 = .ok (.bipush 7, 2) := by decide +kernel
theorem dX12_rises_52 : decode cX12_rises 52 = .ok (.iload_n 1, 1) := by decide +kernel
theorem dX12_rises_53 : decode cX12_rises 53 = .ok (.imul, 1) := by decide +kernel
theorem dX12_rises_54 : decode cX12_rises 54 = .ok (.iconst 1, 1) := by decide +kernel
theorem dX12_rises_55 : decode cX12_rises 55 = .ok (.iadd, 1) := by decide +kernel
theorem dX12_rises_56 : decode cX12_rises 56 = .ok (.iaload, 1) := by decide +kernel
theorem dX12_rises_57 : decode cX12_rises 57 = .ok (.if_icmp .gt 67, 3) := by decide +kernel
theorem dX12_rises_124 : decode cX12_rises 124 = .ok (.bipush (-2), 2) := by decide +kernel
theorem dX12_rises_126 : decode cX12_rises 126 = .ok (.ireturn, 1) := by decide +kernel
theorem dX12_rises_60 : decode cX12_rises 60 = .ok (.aload_n 0, 1) := by decide +kernel
theorem dX12_rises_61 : decode cX12_rises 61 = .ok (.getfield 35, 3) := by decide +kernel
theorem dX12_rises_64 : decode cX12_rises 64 = .ok (.bipush 7, 2) := by decide +kernel
theorem dX12_rises_66 : decode cX12_rises 66 = .ok (.iload_n 1, 1) := by decide +kernel
theorem dX12_rises_67 : decode cX12_rises 67 = .ok (.imul, 1) := by decide +kernel
theorem dX12_rises_68 : decode cX12_rises 68 = .ok (.iconst 1, 1) := by decide +kernel
theorem dX12_rises_69 : decode cX12_rises 69 = .ok (.iadd, 1) := by decide +kernel
theorem dX12_rises_70 : decode cX12_rises 70 = .ok (.aload_n 0, 1) := by decide +kernel
theorem dX12_rises_71 : decode cX12_rises 71 = .ok (.getfield 32, 3) := by decide +kernel
theorem dX12_rises_74 : decode cX12_rises 74 = .ok (.bipush 7, 2) := by decide +kernel
theorem dX12_rises_76 : decode cX12_rises 76 = .ok (.iload_n 1, 1) := by decide +kernel
theorem dX12_rises_77 : decode cX12_rises 77 = .ok (.imul, 1) := by decide +kernel
theorem dX12_rises_78 : decode cX12_rises 78 = .ok (.iconst 1, 1) := by decide +kernel
theorem dX12_rises_79 : decode cX12_rises 79 = .ok (.iadd, 1) := by decide +kernel
theorem dX12_rises_80 : decode cX12_rises 80 = .ok (.iaload, 1) := by decide +kernel
theorem dX12_rises_81 : decode cX12_rises 81 = .ok (.iload_n 3, 1) := by decide +kernel
theorem dX12_rises_82 : decode cX12_rises 82 = .ok (.isub, 1) := by decide +kernel
theorem dX12_rises_83 : decode cX12_rises 83 = .ok (.iastore, 1) := by decide +kernel
theorem dX12_rises_84 : decode cX12_rises 84 = .ok (.aload_n 0, 1) := by decide +kernel
theorem dX12_rises_85 : decode cX12_rises 85 = .ok (.aload_n 0, 1) := by decide +kernel
theorem dX12_rises_86 : decode cX12_rises 86 = .ok (.getfield 35, 3) := by decide +kernel
theorem dX12_rises_89 : decode cX12_rises 89 = .ok (.iload_n 1, 1) := by decide +kernel
theorem dX12_rises_90 : decode cX12_rises 90 = .ok (.invokevirtual 290, 3) := by decide +kernel
theorem dX12_rises_93 : decode cX12_rises 93 = .ok (.iload_n 2, 1) := by decide +kernel
theorem dX12_rises_94 : decode cX12_rises 94 = .ok (.if_icmp .lt 24, 3) := by decide +kernel
theorem dX12_rises_118 : decode cX12_rises 118 = .ok (.iinc 3 1, 3) := by decide +kernel
theorem dX12_rises_121 : decode cX12_rises 121 = .ok (.goto (-76), 3) := by decide +kernel
theorem dX12_rises_97 : decode cX12_rises 97 = .ok (.aload_n 0, 1) := by decide +kernel
theorem dX12_rises_98 : decode cX12_rises 98 = .ok (.iconst 0, 1) := by decide +kernel
theorem dX12_rises_99 : decode cX12_rises 99 = .ok (.putfield 125, 3) := by decide +kernel
theorem dX12_rises_102 : decode cX12_rises 102 = .ok (.aload_n 0, 1) := by decide +kernel
theorem dX12_rises_103 : decode cX12_rises 103 = .ok (.aload_n 0, 1) := by decide +kernel
theorem dX12_rises_104 : decode cX12_rises 104 = .ok (.aload_n 0, 1) := by decide +kernel
theorem dX12_rises_105 : decode cX12_rises 105 = .ok (.getfield 35, 3) := by decide +kernel
theorem dX12_rises_108 : decode cX12_rises 108 = .ok (.iload_n 1, 1) := by decide +kernel
theorem dX12_rises_109 : decode cX12_rises 109 = .ok (.invokevirtual 290, 3) := by decide +kernel
theorem dX12_rises_112 : decode cX12_rises 112 = .ok (.i2l, 1) := by decide +kernel
theorem dX12_rises_113 : decode cX12_rises 113 = .ok (.invokevirtual 384, 3) := by decide +kernel
theorem dX12_rises_116 : decode cX12_rises 116 = .ok (.iload_n 3, 1) := by decide +kernel
theorem dX12_rises_117 : decode cX12_rises 117 = .ok (.ireturn, 1) := by decide +kernel
theorem dX12_rises_36 : decode cX12_rises 36 = .ok (.bipush (-3), 2) := by decide +kernel
theorem dX12_rises_38 : decode cX12_rises 38 = .ok (.ireturn, 1) := by decide +kernel
theorem dX12_canBeside_0 : decode cX12_canBeside 0 = .ok (.aload_n 0, 1) := by decide +kernel
theorem dX12_canBeside_1 : decode cX12_canBeside 1 = .ok (.iload_n 2, 1) := by decide +kernel
theorem dX12_canBeside_2 : decode cX12_canBeside 2 = .ok (.iload 4, 2) := by decide +kernel
theorem dX12_canBeside_4 : decode cX12_canBeside 4 = .ok (.invokevirtual 346, 3) := by decide +kernel
theorem dX12_canBeside_7 : decode cX12_canBeside 7 = .ok (.ifCond .ne 31, 3) := by decide +kernel
theorem dX12_canBeside_38 : decode cX12_canBeside 38 = .ok (.iconst 0, 1) := by decide +kernel
theorem dX12_canBeside_39 : decode cX12_canBeside 39 = .ok (.ireturn, 1) := by decide +kernel
theorem dX12_canBeside_10 : decode cX12_canBeside 10 = .ok (.aload_n 0, 1) := by decide +kernel
theorem dX12_canBeside_11 : decode cX12_canBeside 11 = .ok (.iload_n 1, 1) := by decide +kernel
theorem dX12_canBeside_12 : decode cX12_canBeside 12 = .ok (.iload_n 2, 1) := by decide +kernel
theorem dX12_canBeside_13 : decode cX12_canBeside 13 = .ok (.iload_n 3, 1) := by decide +kernel
theorem dX12_canBeside_14 : decode cX12_canBeside 14 = .ok (.iload 4, 2) := by decide +kernel
theorem dX12_canBeside_16 : decode cX12_canBeside 16 = .ok (.invokevirtual 399, 3) := by decide +kernel
theorem dX12_canBeside_19 : decode cX12_canBeside 19 = .ok (.ifCond .ne 19, 3) := by decide +kernel
theorem dX12_canBeside_22 : decode cX12_canBeside 22 = .ok (.aload_n 0, 1) := by decide +kernel
theorem dX12_canBeside_23 : decode cX12_canBeside 23 = .ok (.iload_n 3, 1) := by decide +kernel
theorem dX12_canBeside_24 : decode cX12_canBeside 24 = .ok (.iload 4, 2) := by decide +kernel
theorem dX12_canBeside_26 : decode cX12_canBeside 26 = .ok (.iload_n 1, 1) := by decide +kernel
theorem dX12_canBeside_27 : decode cX12_canBeside 27 = .ok (.iload_n 2, 1) := by decide +kernel
theorem dX12_canBeside_28 : decode cX12_canBeside 28 = .ok (.invokevirtual 399, 3) := by decide +kernel
theorem dX12_canBeside_31 : decode cX12_canBeside 31 = .ok (.ifCond .ne 7, 3) := by decide +kernel
theorem dX12_canBeside_34 : decode cX12_canBeside 34 = .ok (.iconst 1, 1) := by decide +kernel
theorem dX12_canBeside_35 : decode cX12_canBeside 35 = .ok (.goto 4, 3) := by decide +kernel
theorem dX12_berthsFrom_0 : decode cX12_berthsFrom 0 = .ok (.iload_n 2, 1) := by decide +kernel
theorem dX12_berthsFrom_1 : decode cX12_berthsFrom 1 = .ok (.aload_n 0, 1) := by decide +kernel
theorem dX12_berthsFrom_2 : decode cX12_berthsFrom 2 = .ok (.getfield 135, 3) := by decide +kernel
theorem dX12_berthsFrom_5 : decode cX12_berthsFrom 5 = .ok (.if_icmp .ne 53, 3) := by decide +kernel
theorem dX12_berthsFrom_58 : decode cX12_berthsFrom 58 = .ok (.iload_n 1, 1) := by decide +kernel
theorem dX12_berthsFrom_59 : decode cX12_berthsFrom 59 = .ok (.iload_n 2, 1) := by decide +kernel
theorem dX12_berthsFrom_60 : decode cX12_berthsFrom 60 = .ok (.invokestatic 415, 3) := by decide +kernel
theorem dX12_berthsFrom_63 : decode cX12_berthsFrom 63 = .ok (.ifCond .ne 15, 3) := by decide +kernel
theorem dX12_berthsFrom_78 : decode cX12_berthsFrom 78 = .ok (.iconst 0, 1) := by decide +kernel
theorem dX12_berthsFrom_79 : decode cX12_berthsFrom 79 = .ok (.istore 5, 2) := by decide +kernel
theorem dX12_berthsFrom_81 : decode cX12_berthsFrom 81 = .ok (.iload 5, 2) := by decide +kernel
theorem dX12_berthsFrom_83 : decode cX12_berthsFrom 83 = .ok (.aload_n 0, 1) := by decide +kernel
theorem dX12_berthsFrom_84 : decode cX12_berthsFrom 84 = .ok (.getfield 128, 3) := by decide +kernel
theorem dX12_berthsFrom_87 : decode cX12_berthsFrom 87 = .ok (.if_icmp .ge 121, 3) := by decide +kernel
theorem dX12_berthsFrom_90 : decode cX12_berthsFrom 90 = .ok (.iload_n 3, 1) := by decide +kernel
theorem dX12_berthsFrom_91 : decode cX12_berthsFrom 91 = .ok (.iload 5, 2) := by decide +kernel
theorem dX12_berthsFrom_93 : decode cX12_berthsFrom 93 = .ok (.invokestatic 415, 3) := by decide +kernel
theorem dX12_berthsFrom_116 : decode cX12_berthsFrom 116 = .ok (.istore 6, 2) := by decide +kernel
theorem dX12_berthsFrom_118 : decode cX12_berthsFrom 118 = .ok (.iconst 0, 1) := by decide +kernel
theorem dX12_berthsFrom_119 : decode cX12_berthsFrom 119 = .ok (.istore 7, 2) := by decide +kernel
theorem dX12_berthsFrom_121 : decode cX12_berthsFrom 121 = .ok (.iload 7, 2) := by decide +kernel
theorem dX12_berthsFrom_123 : decode cX12_berthsFrom 123 = .ok (.iload_n 2, 1) := by decide +kernel
theorem dX12_berthsFrom_124 : decode cX12_berthsFrom 124 = .ok (.if_icmp .ge 49, 3) := by decide +kernel
theorem dX12_berthsFrom_127 : decode cX12_berthsFrom 127 = .ok (.iload 6, 2) := by decide +kernel
theorem dX12_berthsFrom_129 : decode cX12_berthsFrom 129 = .ok (.ifCond .eq 44, 3) := by decide +kernel
theorem dX12_berthsFrom_132 : decode cX12_berthsFrom 132 = .ok (.iload_n 1, 1) := by decide +kernel
theorem dX12_berthsFrom_133 : decode cX12_berthsFrom 133 = .ok (.iload 7, 2) := by decide +kernel
theorem dX12_berthsFrom_135 : decode cX12_berthsFrom 135 = .ok (.invokestatic 415, 3) := by decide +kernel
theorem dX12_berthsFrom_165 : decode cX12_berthsFrom 165 = .ok (.istore 6, 2) := by decide +kernel
theorem dX12_berthsFrom_167 : decode cX12_berthsFrom 167 = .ok (.iinc 7 1, 3) := by decide +kernel
theorem dX12_berthsFrom_170 : decode cX12_berthsFrom 170 = .ok (.goto (-49), 3) := by decide +kernel
theorem dX12_berthsFrom_160 : decode cX12_berthsFrom 160 = .ok (.iconst 1, 1) := by decide +kernel
theorem dX12_berthsFrom_161 : decode cX12_berthsFrom 161 = .ok (.goto 4, 3) := by decide +kernel
theorem dX12_berthsFrom_138 : decode cX12_berthsFrom 138 = .ok (.ifCond .eq 22, 3) := by decide +kernel
theorem dX12_berthsFrom_141 : decode cX12_berthsFrom 141 = .ok (.aload_n 0, 1) := by decide +kernel
theorem dX12_berthsFrom_142 : decode cX12_berthsFrom 142 = .ok (.iload_n 2, 1) := by decide +kernel
theorem dX12_berthsFrom_143 : decode cX12_berthsFrom 143 = .ok (.iload 5, 2) := by decide +kernel
theorem dX12_berthsFrom_145 : decode cX12_berthsFrom 145 = .ok (.iload 7, 2) := by decide +kernel
theorem dX12_berthsFrom_147 : decode cX12_berthsFrom 147 = .ok (.aload_n 0, 1) := by decide +kernel
theorem dX12_berthsFrom_148 : decode cX12_berthsFrom 148 = .ok (.getfield 71, 3) := by decide +kernel
theorem dX12_berthsFrom_151 : decode cX12_berthsFrom 151 = .ok (.iload 7, 2) := by decide +kernel
theorem dX12_berthsFrom_153 : decode cX12_berthsFrom 153 = .ok (.iaload, 1) := by decide +kernel
theorem dX12_berthsFrom_154 : decode cX12_berthsFrom 154 = .ok (.invokevirtual 422, 3) := by decide +kernel
theorem dX12_berthsFrom_157 : decode cX12_berthsFrom 157 = .ok (.ifCond .eq 7, 3) := by decide +kernel
theorem dX12_berthsFrom_164 : decode cX12_berthsFrom 164 = .ok (.iconst 0, 1) := by decide +kernel
theorem dX12_berthsFrom_173 : decode cX12_berthsFrom 173 = .ok (.iload 6, 2) := by decide +kernel
theorem dX12_berthsFrom_202 : decode cX12_berthsFrom 202 = .ok (.iinc 5 1, 3) := by decide +kernel
theorem dX12_berthsFrom_205 : decode cX12_berthsFrom 205 = .ok (.goto (-124), 3) := by decide +kernel
theorem dX12_berthsFrom_175 : decode cX12_berthsFrom 175 = .ok (.ifCond .eq 27, 3) := by decide +kernel
theorem dX12_berthsFrom_178 : decode cX12_berthsFrom 178 = .ok (.aload_n 0, 1) := by decide +kernel
theorem dX12_berthsFrom_179 : decode cX12_berthsFrom 179 = .ok (.getfield 71, 3) := by decide +kernel
theorem dX12_berthsFrom_182 : decode cX12_berthsFrom 182 = .ok (.iload_n 2, 1) := by decide +kernel
theorem dX12_berthsFrom_183 : decode cX12_berthsFrom 183 = .ok (.iload 5, 2) := by decide +kernel
theorem dX12_berthsFrom_185 : decode cX12_berthsFrom 185 = .ok (.iastore, 1) := by decide +kernel
theorem dX12_berthsFrom_186 : decode cX12_berthsFrom 186 = .ok (.aload_n 0, 1) := by decide +kernel
theorem dX12_berthsFrom_187 : decode cX12_berthsFrom 187 = .ok (.iload_n 1, 1) := by decide +kernel
theorem dX12_berthsFrom_188 : decode cX12_berthsFrom 188 = .ok (.iload_n 2, 1) := by decide +kernel
theorem dX12_berthsFrom_189 : decode cX12_berthsFrom 189 = .ok (.iconst 1, 1) := by decide +kernel
theorem dX12_berthsFrom_190 : decode cX12_berthsFrom 190 = .ok (.iadd, 1) := by decide +kernel
theorem dX12_berthsFrom_191 : decode cX12_berthsFrom 191 = .ok (.iload_n 3, 1) := by decide +kernel
theorem dX12_berthsFrom_192 : decode cX12_berthsFrom 192 = .ok (.iconst 1, 1) := by decide +kernel
theorem dX12_berthsFrom_193 : decode cX12_berthsFrom 193 = .ok (.iload 5, 2) := by decide +kernel
theorem dX12_berthsFrom_195 : decode cX12_berthsFrom 195 = .ok (.ishl, 1) := by decide +kernel
theorem dX12_berthsFrom_196 : decode cX12_berthsFrom 196 = .ok (.ior, 1) := by decide +kernel
theorem dX12_berthsFrom_197 : decode cX12_berthsFrom 197 = .ok (.iload 4, 2) := by decide +kernel
theorem dX12_berthsFrom_199 : decode cX12_berthsFrom 199 = .ok (.invokevirtual 418, 3) := by decide +kernel
theorem dX12_berthsFrom_115 : decode cX12_berthsFrom 115 = .ok (.iconst 0, 1) := by decide +kernel
theorem dX12_berthsFrom_96 : decode cX12_berthsFrom 96 = .ok (.ifCond .ne 19, 3) := by decide +kernel
theorem dX12_berthsFrom_99 : decode cX12_berthsFrom 99 = .ok (.iload 4, 2) := by decide +kernel
theorem dX12_berthsFrom_111 : decode cX12_berthsFrom 111 = .ok (.iconst 1, 1) := by decide +kernel
theorem dX12_berthsFrom_112 : decode cX12_berthsFrom 112 = .ok (.goto 4, 3) := by decide +kernel
theorem dX12_berthsFrom_101 : decode cX12_berthsFrom 101 = .ok (.ifCond .eq 10, 3) := by decide +kernel
theorem dX12_berthsFrom_104 : decode cX12_berthsFrom 104 = .ok (.aload_n 0, 1) := by decide +kernel
theorem dX12_berthsFrom_105 : decode cX12_berthsFrom 105 = .ok (.getfield 412, 3) := by decide +kernel
theorem dX12_berthsFrom_108 : decode cX12_berthsFrom 108 = .ok (.ifCond .gt 7, 3) := by decide +kernel
theorem dX12_berthsFrom_208 : decode cX12_berthsFrom 208 = .ok (.return_, 1) := by decide +kernel
theorem dX12_berthsFrom_66 : decode cX12_berthsFrom 66 = .ok (.aload_n 0, 1) := by decide +kernel
theorem dX12_berthsFrom_67 : decode cX12_berthsFrom 67 = .ok (.iload_n 1, 1) := by decide +kernel
theorem dX12_berthsFrom_68 : decode cX12_berthsFrom 68 = .ok (.iload_n 2, 1) := by decide +kernel
theorem dX12_berthsFrom_69 : decode cX12_berthsFrom 69 = .ok (.iconst 1, 1) := by decide +kernel
theorem dX12_berthsFrom_70 : decode cX12_berthsFrom 70 = .ok (.iadd, 1) := by decide +kernel
theorem dX12_berthsFrom_71 : decode cX12_berthsFrom 71 = .ok (.iload_n 3, 1) := by decide +kernel
theorem dX12_berthsFrom_72 : decode cX12_berthsFrom 72 = .ok (.iload 4, 2) := by decide +kernel
theorem dX12_berthsFrom_74 : decode cX12_berthsFrom 74 = .ok (.invokevirtual 418, 3) := by decide +kernel
theorem dX12_berthsFrom_77 : decode cX12_berthsFrom 77 = .ok (.return_, 1) := by decide +kernel
theorem dX12_berthsFrom_8 : decode cX12_berthsFrom 8 = .ok (.iconst 0, 1) := by decide +kernel
theorem dX12_berthsFrom_9 : decode cX12_berthsFrom 9 = .ok (.istore 5, 2) := by decide +kernel
theorem dX12_berthsFrom_11 : decode cX12_berthsFrom 11 = .ok (.iload 5, 2) := by decide +kernel
theorem dX12_berthsFrom_13 : decode cX12_berthsFrom 13 = .ok (.aload_n 0, 1) := by decide +kernel
theorem dX12_berthsFrom_14 : decode cX12_berthsFrom 14 = .ok (.getfield 135, 3) := by decide +kernel
theorem dX12_berthsFrom_17 : decode cX12_berthsFrom 17 = .ok (.if_icmp .ge 30, 3) := by decide +kernel
theorem dX12_berthsFrom_20 : decode cX12_berthsFrom 20 = .ok (.aload_n 0, 1) := by decide +kernel
theorem dX12_berthsFrom_21 : decode cX12_berthsFrom 21 = .ok (.getfield 412, 3) := by decide +kernel
theorem dX12_berthsFrom_24 : decode cX12_berthsFrom 24 = .ok (.ifCond .ne 23, 3) := by decide +kernel
theorem dX12_berthsFrom_27 : decode cX12_berthsFrom 27 = .ok (.aload_n 0, 1) := by decide +kernel
theorem dX12_berthsFrom_28 : decode cX12_berthsFrom 28 = .ok (.getfield 74, 3) := by decide +kernel
theorem dX12_berthsFrom_31 : decode cX12_berthsFrom 31 = .ok (.iload 5, 2) := by decide +kernel
theorem dX12_berthsFrom_33 : decode cX12_berthsFrom 33 = .ok (.aload_n 0, 1) := by decide +kernel
theorem dX12_berthsFrom_34 : decode cX12_berthsFrom 34 = .ok (.getfield 71, 3) := by decide +kernel
theorem dX12_berthsFrom_37 : decode cX12_berthsFrom 37 = .ok (.iload 5, 2) := by decide +kernel
theorem dX12_berthsFrom_39 : decode cX12_berthsFrom 39 = .ok (.iaload, 1) := by decide +kernel
theorem dX12_berthsFrom_40 : decode cX12_berthsFrom 40 = .ok (.iastore, 1) := by decide +kernel
theorem dX12_berthsFrom_41 : decode cX12_berthsFrom 41 = .ok (.iinc 5 1, 3) := by decide +kernel
theorem dX12_berthsFrom_44 : decode cX12_berthsFrom 44 = .ok (.goto (-33), 3) := by decide +kernel
theorem dX12_berthsFrom_47 : decode cX12_berthsFrom 47 = .ok (.aload_n 0, 1) := by decide +kernel
theorem dX12_berthsFrom_48 : decode cX12_berthsFrom 48 = .ok (.dup, 1) := by decide +kernel
theorem dX12_berthsFrom_49 : decode cX12_berthsFrom 49 = .ok (.getfield 412, 3) := by decide +kernel
theorem dX12_berthsFrom_52 : decode cX12_berthsFrom 52 = .ok (.iconst 1, 1) := by decide +kernel
theorem dX12_berthsFrom_53 : decode cX12_berthsFrom 53 = .ok (.iadd, 1) := by decide +kernel
theorem dX12_berthsFrom_54 : decode cX12_berthsFrom 54 = .ok (.putfield 412, 3) := by decide +kernel
theorem dX12_berthsFrom_57 : decode cX12_berthsFrom 57 = .ok (.return_, 1) := by decide +kernel
theorem dX12_berths_0 : decode cX12_berths 0 = .ok (.aload_n 0, 1) := by decide +kernel
theorem dX12_berths_1 : decode cX12_berths 1 = .ok (.iconst 0, 1) := by decide +kernel
theorem dX12_berths_2 : decode cX12_berths 2 = .ok (.putfield 117, 3) := by decide +kernel
theorem dX12_berths_5 : decode cX12_berths 5 = .ok (.iload_n 1, 1) := by decide +kernel
theorem dX12_berths_6 : decode cX12_berths 6 = .ok (.i2l, 1) := by decide +kernel
theorem dX12_berths_7 : decode cX12_berths 7 = .ok (.lconst 0, 1) := by decide +kernel
theorem dX12_berths_8 : decode cX12_berths 8 = .ok (.iconst 1, 1) := by decide +kernel
theorem dX12_berths_9 : decode cX12_berths 9 = .ok (.aload_n 0, 1) := by decide +kernel
theorem dX12_berths_10 : decode cX12_berths 10 = .ok (.getfield 135, 3) := by decide +kernel
theorem dX12_berths_13 : decode cX12_berths 13 = .ok (.ishl, 1) := by decide +kernel
theorem dX12_berths_14 : decode cX12_berths 14 = .ok (.iconst 1, 1) := by decide +kernel
theorem dX12_berths_15 : decode cX12_berths 15 = .ok (.isub, 1) := by decide +kernel
theorem dX12_berths_16 : decode cX12_berths 16 = .ok (.i2l, 1) := by decide +kernel
theorem dX12_berths_17 : decode cX12_berths 17 = .ok (.invokestatic 131, 3) := by decide +kernel
theorem dX12_berths_20 : decode cX12_berths 20 = .ok (.ifCond .ne 5, 3) := by decide +kernel
theorem dX12_berths_25 : decode cX12_berths 25 = .ok (.aload_n 0, 1) := by decide +kernel
theorem dX12_berths_26 : decode cX12_berths 26 = .ok (.iconst 0, 1) := by decide +kernel
theorem dX12_berths_27 : decode cX12_berths 27 = .ok (.putfield 412, 3) := by decide +kernel
theorem dX12_berths_30 : decode cX12_berths 30 = .ok (.aload_n 0, 1) := by decide +kernel
theorem dX12_berths_31 : decode cX12_berths 31 = .ok (.iload_n 1, 1) := by decide +kernel
theorem dX12_berths_32 : decode cX12_berths 32 = .ok (.iconst 0, 1) := by decide +kernel
theorem dX12_berths_33 : decode cX12_berths 33 = .ok (.iconst 0, 1) := by decide +kernel
theorem dX12_berths_34 : decode cX12_berths 34 = .ok (.iconst 0, 1) := by decide +kernel
theorem dX12_berths_35 : decode cX12_berths 35 = .ok (.invokevirtual 418, 3) := by decide +kernel
theorem dX12_berths_38 : decode cX12_berths 38 = .ok (.aload_n 0, 1) := by decide +kernel
theorem dX12_berths_39 : decode cX12_berths 39 = .ok (.iconst 0, 1) := by decide +kernel
theorem dX12_berths_40 : decode cX12_berths 40 = .ok (.putfield 125, 3) := by decide +kernel
theorem dX12_berths_43 : decode cX12_berths 43 = .ok (.iconst 0, 1) := by decide +kernel
theorem dX12_berths_44 : decode cX12_berths 44 = .ok (.istore_n 2, 1) := by decide +kernel
theorem dX12_berths_45 : decode cX12_berths 45 = .ok (.iload_n 2, 1) := by decide +kernel
theorem dX12_berths_46 : decode cX12_berths 46 = .ok (.aload_n 0, 1) := by decide +kernel
theorem dX12_berths_47 : decode cX12_berths 47 = .ok (.getfield 135, 3) := by decide +kernel
theorem dX12_berths_50 : decode cX12_berths 50 = .ok (.if_icmp .ge 35, 3) := by decide +kernel
theorem dX12_berths_53 : decode cX12_berths 53 = .ok (.aload_n 0, 1) := by decide +kernel
theorem dX12_berths_54 : decode cX12_berths 54 = .ok (.getfield 412, 3) := by decide +kernel
theorem dX12_berths_57 : decode cX12_berths 57 = .ok (.ifCond .le 28, 3) := by decide +kernel
theorem dX12_berths_60 : decode cX12_berths 60 = .ok (.iload_n 1, 1) := by decide +kernel
theorem dX12_berths_61 : decode cX12_berths 61 = .ok (.iload_n 2, 1) := by decide +kernel
theorem dX12_berths_62 : decode cX12_berths 62 = .ok (.invokestatic 415, 3) := by decide +kernel
theorem dX12_berths_79 : decode cX12_berths 79 = .ok (.iinc 2 1, 3) := by decide +kernel
theorem dX12_berths_82 : decode cX12_berths 82 = .ok (.goto (-37), 3) := by decide +kernel
theorem dX12_berths_65 : decode cX12_berths 65 = .ok (.ifCond .eq 14, 3) := by decide +kernel
theorem dX12_berths_68 : decode cX12_berths 68 = .ok (.aload_n 0, 1) := by decide +kernel
theorem dX12_berths_69 : decode cX12_berths 69 = .ok (.aload_n 0, 1) := by decide +kernel
theorem dX12_berths_70 : decode cX12_berths 70 = .ok (.getfield 74, 3) := by decide +kernel
theorem dX12_berths_73 : decode cX12_berths 73 = .ok (.iload_n 2, 1) := by decide +kernel
theorem dX12_berths_74 : decode cX12_berths 74 = .ok (.iaload, 1) := by decide +kernel
theorem dX12_berths_75 : decode cX12_berths 75 = .ok (.i2l, 1) := by decide +kernel
theorem dX12_berths_76 : decode cX12_berths 76 = .ok (.invokevirtual 384, 3) := by decide +kernel
theorem dX12_berths_85 : decode cX12_berths 85 = .ok (.aload_n 0, 1) := by decide +kernel
theorem dX12_berths_86 : decode cX12_berths 86 = .ok (.getfield 412, 3) := by decide +kernel
theorem dX12_berths_89 : decode cX12_berths 89 = .ok (.ireturn, 1) := by decide +kernel
theorem dX12_berths_23 : decode cX12_berths 23 = .ok (.iconst (-1), 1) := by decide +kernel
theorem dX12_berths_24 : decode cX12_berths 24 = .ok (.ireturn, 1) := by decide +kernel
theorem dX12_served_0 : decode cX12_served 0 = .ok (.aload_n 0, 1) := by decide +kernel
theorem dX12_served_1 : decode cX12_served 1 = .ok (.iconst 0, 1) := by decide +kernel
theorem dX12_served_2 : decode cX12_served 2 = .ok (.putfield 117, 3) := by decide +kernel
theorem dX12_served_5 : decode cX12_served 5 = .ok (.iload_n 1, 1) := by decide +kernel
theorem dX12_served_6 : decode cX12_served 6 = .ok (.i2l, 1) := by decide +kernel
theorem dX12_served_7 : decode cX12_served 7 = .ok (.lconst 0, 1) := by decide +kernel
theorem dX12_served_8 : decode cX12_served 8 = .ok (.iconst 1, 1) := by decide +kernel
theorem dX12_served_9 : decode cX12_served 9 = .ok (.aload_n 0, 1) := by decide +kernel
theorem dX12_served_10 : decode cX12_served 10 = .ok (.getfield 135, 3) := by decide +kernel
theorem dX12_served_13 : decode cX12_served 13 = .ok (.ishl, 1) := by decide +kernel
theorem dX12_served_14 : decode cX12_served 14 = .ok (.iconst 1, 1) := by decide +kernel
theorem dX12_served_15 : decode cX12_served 15 = .ok (.isub, 1) := by decide +kernel
theorem dX12_served_16 : decode cX12_served 16 = .ok (.i2l, 1) := by decide +kernel
theorem dX12_served_17 : decode cX12_served 17 = .ok (.invokestatic 131, 3) := by decide +kernel
theorem dX12_served_20 : decode cX12_served 20 = .ok (.ifCond .ne 5, 3) := by decide +kernel
theorem dX12_served_25 : decode cX12_served 25 = .ok (.iconst 0, 1) := by decide +kernel
theorem dX12_served_26 : decode cX12_served 26 = .ok (.istore_n 2, 1) := by decide +kernel
theorem dX12_served_27 : decode cX12_served 27 = .ok (.iconst 1, 1) := by decide +kernel
theorem dX12_served_28 : decode cX12_served 28 = .ok (.istore_n 3, 1) := by decide +kernel
theorem dX12_served_29 : decode cX12_served 29 = .ok (.iload_n 3, 1) := by decide +kernel
theorem dX12_served_30 : decode cX12_served 30 = .ok (.iload_n 1, 1) := by decide +kernel
theorem dX12_served_31 : decode cX12_served 31 = .ok (.if_icmp .gt 54, 3) := by decide +kernel
theorem dX12_served_34 : decode cX12_served 34 = .ok (.iload_n 3, 1) := by decide +kernel
theorem dX12_served_35 : decode cX12_served 35 = .ok (.iload_n 1, 1) := by decide +kernel
theorem dX12_served_36 : decode cX12_served 36 = .ok (.iconst (-1), 1) := by decide +kernel
theorem dX12_served_37 : decode cX12_served 37 = .ok (.ixor, 1) := by decide +kernel
theorem dX12_served_38 : decode cX12_served 38 = .ok (.iand, 1) := by decide +kernel
theorem dX12_served_79 : decode cX12_served 79 = .ok (.iinc 3 1, 3) := by decide +kernel
theorem dX12_served_82 : decode cX12_served 82 = .ok (.goto (-53), 3) := by decide +kernel
theorem dX12_served_39 : decode cX12_served 39 = .ok (.ifCond .ne 40, 3) := by decide +kernel
theorem dX12_served_42 : decode cX12_served 42 = .ok (.iload_n 3, 1) := by decide +kernel
theorem dX12_served_43 : decode cX12_served 43 = .ok (.invokestatic 425, 3) := by decide +kernel
theorem dX12_served_46 : decode cX12_served 46 = .ok (.iload_n 2, 1) := by decide +kernel
theorem dX12_served_47 : decode cX12_served 47 = .ok (.invokestatic 425, 3) := by decide +kernel
theorem dX12_served_50 : decode cX12_served 50 = .ok (.if_icmp .le 29, 3) := by decide +kernel
theorem dX12_served_53 : decode cX12_served 53 = .ok (.aload_n 0, 1) := by decide +kernel
theorem dX12_served_54 : decode cX12_served 54 = .ok (.iconst 0, 1) := by decide +kernel
theorem dX12_served_55 : decode cX12_served 55 = .ok (.putfield 412, 3) := by decide +kernel
theorem dX12_served_58 : decode cX12_served 58 = .ok (.aload_n 0, 1) := by decide +kernel
theorem dX12_served_59 : decode cX12_served 59 = .ok (.iload_n 3, 1) := by decide +kernel
theorem dX12_served_60 : decode cX12_served 60 = .ok (.iconst 0, 1) := by decide +kernel
theorem dX12_served_61 : decode cX12_served 61 = .ok (.iconst 0, 1) := by decide +kernel
theorem dX12_served_62 : decode cX12_served 62 = .ok (.iconst 1, 1) := by decide +kernel
theorem dX12_served_63 : decode cX12_served 63 = .ok (.invokevirtual 418, 3) := by decide +kernel
theorem dX12_served_66 : decode cX12_served 66 = .ok (.aload_n 0, 1) := by decide +kernel
theorem dX12_served_67 : decode cX12_served 67 = .ok (.getfield 412, 3) := by decide +kernel
theorem dX12_served_78 : decode cX12_served 78 = .ok (.istore_n 2, 1) := by decide +kernel
theorem dX12_served_70 : decode cX12_served 70 = .ok (.ifCond .le 7, 3) := by decide +kernel
theorem dX12_served_77 : decode cX12_served 77 = .ok (.iload_n 2, 1) := by decide +kernel
theorem dX12_served_73 : decode cX12_served 73 = .ok (.iload_n 3, 1) := by decide +kernel
theorem dX12_served_74 : decode cX12_served 74 = .ok (.goto 4, 3) := by decide +kernel
theorem dX12_served_85 : decode cX12_served 85 = .ok (.aload_n 0, 1) := by decide +kernel
theorem dX12_served_86 : decode cX12_served 86 = .ok (.iconst 0, 1) := by decide +kernel
theorem dX12_served_87 : decode cX12_served 87 = .ok (.putfield 125, 3) := by decide +kernel
theorem dX12_served_90 : decode cX12_served 90 = .ok (.aload_n 0, 1) := by decide +kernel
theorem dX12_served_91 : decode cX12_served 91 = .ok (.iload_n 2, 1) := by decide +kernel
theorem dX12_served_92 : decode cX12_served 92 = .ok (.i2l, 1) := by decide +kernel
theorem dX12_served_93 : decode cX12_served 93 = .ok (.invokevirtual 384, 3) := by decide +kernel
theorem dX12_served_96 : decode cX12_served 96 = .ok (.iload_n 2, 1) := by decide +kernel
theorem dX12_served_97 : decode cX12_served 97 = .ok (.invokestatic 425, 3) := by decide +kernel
theorem dX12_served_100 : decode cX12_served 100 = .ok (.ireturn, 1) := by decide +kernel
theorem dX12_served_23 : decode cX12_served 23 = .ok (.iconst (-1), 1) := by decide +kernel
theorem dX12_served_24 : decode cX12_served 24 = .ok (.ireturn, 1) := by decide +kernel
theorem dX12_yields_0 : decode cX12_yields 0 = .ok (.aload_n 0, 1) := by decide +kernel
theorem dX12_yields_1 : decode cX12_yields 1 = .ok (.iconst 0, 1) := by decide +kernel
theorem dX12_yields_2 : decode cX12_yields 2 = .ok (.putfield 117, 3) := by decide +kernel
theorem dX12_yields_5 : decode cX12_yields 5 = .ok (.aload_n 0, 1) := by decide +kernel
theorem dX12_yields_6 : decode cX12_yields 6 = .ok (.iload_n 1, 1) := by decide +kernel
theorem dX12_yields_7 : decode cX12_yields 7 = .ok (.invokevirtual 282, 3) := by decide +kernel
theorem dX12_yields_10 : decode cX12_yields 10 = .ok (.ifCond .ne 5, 3) := by decide +kernel
theorem dX12_yields_15 : decode cX12_yields 15 = .ok (.iconst 0, 1) := by decide +kernel
theorem dX12_yields_16 : decode cX12_yields 16 = .ok (.istore_n 2, 1) := by decide +kernel
theorem dX12_yields_17 : decode cX12_yields 17 = .ok (.iconst 0, 1) := by decide +kernel
theorem dX12_yields_18 : decode cX12_yields 18 = .ok (.istore_n 3, 1) := by decide +kernel
theorem dX12_yields_19 : decode cX12_yields 19 = .ok (.iload_n 3, 1) := by decide +kernel
theorem dX12_yields_20 : decode cX12_yields 20 = .ok (.aload_n 0, 1) := by decide +kernel
theorem dX12_yields_21 : decode cX12_yields 21 = .ok (.getfield 128, 3) := by decide +kernel
theorem dX12_yields_24 : decode cX12_yields 24 = .ok (.if_icmp .ge 105, 3) := by decide +kernel
theorem dX12_yields_27 : decode cX12_yields 27 = .ok (.aload_n 0, 1) := by decide +kernel
theorem dX12_yields_28 : decode cX12_yields 28 = .ok (.iload_n 3, 1) := by decide +kernel
theorem dX12_yields_29 : decode cX12_yields 29 = .ok (.invokevirtual 279, 3) := by decide +kernel
theorem dX12_yields_40 : decode cX12_yields 40 = .ok (.istore 4, 2) := by decide +kernel
theorem dX12_yields_42 : decode cX12_yields 42 = .ok (.iconst 0, 1) := by decide +kernel
theorem dX12_yields_43 : decode cX12_yields 43 = .ok (.istore 5, 2) := by decide +kernel
theorem dX12_yields_45 : decode cX12_yields 45 = .ok (.iload 5, 2) := by decide +kernel
theorem dX12_yields_47 : decode cX12_yields 47 = .ok (.aload_n 0, 1) := by decide +kernel
theorem dX12_yields_48 : decode cX12_yields 48 = .ok (.getfield 135, 3) := by decide +kernel
theorem dX12_yields_51 : decode cX12_yields 51 = .ok (.if_icmp .ge 57, 3) := by decide +kernel
theorem dX12_yields_54 : decode cX12_yields 54 = .ok (.iload 4, 2) := by decide +kernel
theorem dX12_yields_56 : decode cX12_yields 56 = .ok (.ifCond .eq 52, 3) := by decide +kernel
theorem dX12_yields_59 : decode cX12_yields 59 = .ok (.iload 5, 2) := by decide +kernel
theorem dX12_yields_61 : decode cX12_yields 61 = .ok (.iload_n 1, 1) := by decide +kernel
theorem dX12_yields_100 : decode cX12_yields 100 = .ok (.istore 4, 2) := by decide +kernel
theorem dX12_yields_102 : decode cX12_yields 102 = .ok (.iinc 5 1, 3) := by decide +kernel
theorem dX12_yields_105 : decode cX12_yields 105 = .ok (.goto (-60), 3) := by decide +kernel
theorem dX12_yields_95 : decode cX12_yields 95 = .ok (.iconst 1, 1) := by decide +kernel
theorem dX12_yields_96 : decode cX12_yields 96 = .ok (.goto 4, 3) := by decide +kernel
theorem dX12_yields_62 : decode cX12_yields 62 = .ok (.if_icmp .eq 33, 3) := by decide +kernel
theorem dX12_yields_65 : decode cX12_yields 65 = .ok (.aload_n 0, 1) := by decide +kernel
theorem dX12_yields_66 : decode cX12_yields 66 = .ok (.iload 5, 2) := by decide +kernel
theorem dX12_yields_68 : decode cX12_yields 68 = .ok (.invokevirtual 268, 3) := by decide +kernel
theorem dX12_yields_71 : decode cX12_yields 71 = .ok (.iconst 2, 1) := by decide +kernel
theorem dX12_yields_72 : decode cX12_yields 72 = .ok (.if_icmp .ne 23, 3) := by decide +kernel
theorem dX12_yields_75 : decode cX12_yields 75 = .ok (.aload_n 0, 1) := by decide +kernel
theorem dX12_yields_76 : decode cX12_yields 76 = .ok (.iload_n 1, 1) := by decide +kernel
theorem dX12_yields_77 : decode cX12_yields 77 = .ok (.iload_n 3, 1) := by decide +kernel
theorem dX12_yields_78 : decode cX12_yields 78 = .ok (.iload 5, 2) := by decide +kernel
theorem dX12_yields_80 : decode cX12_yields 80 = .ok (.aload_n 0, 1) := by decide +kernel
theorem dX12_yields_81 : decode cX12_yields 81 = .ok (.getfield 32, 3) := by decide +kernel
theorem dX12_yields_84 : decode cX12_yields 84 = .ok (.iload 5, 2) := by decide +kernel
theorem dX12_yields_86 : decode cX12_yields 86 = .ok (.invokestatic 293, 3) := by decide +kernel
theorem dX12_yields_89 : decode cX12_yields 89 = .ok (.invokevirtual 422, 3) := by decide +kernel
theorem dX12_yields_92 : decode cX12_yields 92 = .ok (.ifCond .eq 7, 3) := by decide +kernel
theorem dX12_yields_99 : decode cX12_yields 99 = .ok (.iconst 0, 1) := by decide +kernel
theorem dX12_yields_108 : decode cX12_yields 108 = .ok (.iload_n 2, 1) := by decide +kernel
theorem dX12_yields_109 : decode cX12_yields 109 = .ok (.iload 4, 2) := by decide +kernel
theorem dX12_yields_121 : decode cX12_yields 121 = .ok (.ior, 1) := by decide +kernel
theorem dX12_yields_122 : decode cX12_yields 122 = .ok (.istore_n 2, 1) := by decide +kernel
theorem dX12_yields_123 : decode cX12_yields 123 = .ok (.iinc 3 1, 3) := by decide +kernel
theorem dX12_yields_126 : decode cX12_yields 126 = .ok (.goto (-107), 3) := by decide +kernel
theorem dX12_yields_111 : decode cX12_yields 111 = .ok (.ifCond .eq 9, 3) := by decide +kernel
theorem dX12_yields_120 : decode cX12_yields 120 = .ok (.iconst 0, 1) := by decide +kernel
theorem dX12_yields_114 : decode cX12_yields 114 = .ok (.iconst 1, 1) := by decide +kernel
theorem dX12_yields_115 : decode cX12_yields 115 = .ok (.iload_n 3, 1) := by decide +kernel
theorem dX12_yields_116 : decode cX12_yields 116 = .ok (.ishl, 1) := by decide +kernel
theorem dX12_yields_117 : decode cX12_yields 117 = .ok (.goto 4, 3) := by decide +kernel
theorem dX12_yields_32 : decode cX12_yields 32 = .ok (.ifCond .ge 7, 3) := by decide +kernel
theorem dX12_yields_39 : decode cX12_yields 39 = .ok (.iconst 0, 1) := by decide +kernel
theorem dX12_yields_35 : decode cX12_yields 35 = .ok (.iconst 1, 1) := by decide +kernel
theorem dX12_yields_36 : decode cX12_yields 36 = .ok (.goto 4, 3) := by decide +kernel
theorem dX12_yields_129 : decode cX12_yields 129 = .ok (.aload_n 0, 1) := by decide +kernel
theorem dX12_yields_130 : decode cX12_yields 130 = .ok (.iconst 0, 1) := by decide +kernel
theorem dX12_yields_131 : decode cX12_yields 131 = .ok (.putfield 125, 3) := by decide +kernel
theorem dX12_yields_134 : decode cX12_yields 134 = .ok (.aload_n 0, 1) := by decide +kernel
theorem dX12_yields_135 : decode cX12_yields 135 = .ok (.iload_n 2, 1) := by decide +kernel
theorem dX12_yields_136 : decode cX12_yields 136 = .ok (.invokestatic 425, 3) := by decide +kernel
theorem dX12_yields_139 : decode cX12_yields 139 = .ok (.i2l, 1) := by decide +kernel
theorem dX12_yields_140 : decode cX12_yields 140 = .ok (.invokevirtual 384, 3) := by decide +kernel
theorem dX12_yields_143 : decode cX12_yields 143 = .ok (.iload_n 2, 1) := by decide +kernel
theorem dX12_yields_144 : decode cX12_yields 144 = .ok (.ireturn, 1) := by decide +kernel
theorem dX12_yields_13 : decode cX12_yields 13 = .ok (.iconst (-1), 1) := by decide +kernel
theorem dX12_yields_14 : decode cX12_yields 14 = .ok (.ireturn, 1) := by decide +kernel
theorem dX12_setsStage_0 : decode cX12_setsStage 0 = .ok (.iconst 0, 1) := by decide +kernel
theorem dX12_setsStage_1 : decode cX12_setsStage 1 = .ok (.istore_n 3, 1) := by decide +kernel
theorem dX12_setsStage_2 : decode cX12_setsStage 2 = .ok (.iload_n 3, 1) := by decide +kernel
theorem dX12_setsStage_3 : decode cX12_setsStage 3 = .ok (.bipush 7, 2) := by decide +kernel
theorem dX12_setsStage_5 : decode cX12_setsStage 5 = .ok (.if_icmp .ge 31, 3) := by decide +kernel
theorem dX12_setsStage_8 : decode cX12_setsStage 8 = .ok (.aload_n 0, 1) := by decide +kernel
theorem dX12_setsStage_9 : decode cX12_setsStage 9 = .ok (.getfield 77, 3) := by decide +kernel
theorem dX12_setsStage_12 : decode cX12_setsStage 12 = .ok (.bipush 7, 2) := by decide +kernel
theorem dX12_setsStage_14 : decode cX12_setsStage 14 = .ok (.iload_n 1, 1) := by decide +kernel
theorem dX12_setsStage_15 : decode cX12_setsStage 15 = .ok (.imul, 1) := by decide +kernel
theorem dX12_setsStage_16 : decode cX12_setsStage 16 = .ok (.iload_n 3, 1) := by decide +kernel
theorem dX12_setsStage_17 : decode cX12_setsStage 17 = .ok (.iadd, 1) := by decide +kernel
theorem dX12_setsStage_18 : decode cX12_setsStage 18 = .ok (.aload_n 0, 1) := by decide +kernel
theorem dX12_setsStage_19 : decode cX12_setsStage 19 = .ok (.getfield 80, 3) := by decide +kernel
theorem dX12_setsStage_22 : decode cX12_setsStage 22 = .ok (.bipush 7, 2) := by decide +kernel
theorem dX12_setsStage_24 : decode cX12_setsStage 24 = .ok (.iload_n 2, 1) := by decide +kernel
theorem dX12_setsStage_25 : decode cX12_setsStage 25 = .ok (.imul, 1) := by decide +kernel
theorem dX12_setsStage_26 : decode cX12_setsStage 26 = .ok (.iload_n 3, 1) := by decide +kernel
theorem dX12_setsStage_27 : decode cX12_setsStage 27 = .ok (.iadd, 1) := by decide +kernel
theorem dX12_setsStage_28 : decode cX12_setsStage 28 = .ok (.iaload, 1) := by decide +kernel
theorem dX12_setsStage_29 : decode cX12_setsStage 29 = .ok (.iastore, 1) := by decide +kernel
theorem dX12_setsStage_30 : decode cX12_setsStage 30 = .ok (.iinc 3 1, 3) := by decide +kernel
theorem dX12_setsStage_33 : decode cX12_setsStage 33 = .ok (.goto (-31), 3) := by decide +kernel
theorem dX12_setsStage_36 : decode cX12_setsStage 36 = .ok (.return_, 1) := by decide +kernel
theorem dX12_takesStage_0 : decode cX12_takesStage 0 = .ok (.iconst 0, 1) := by decide +kernel
theorem dX12_takesStage_1 : decode cX12_takesStage 1 = .ok (.istore_n 3, 1) := by decide +kernel
theorem dX12_takesStage_2 : decode cX12_takesStage 2 = .ok (.iload_n 3, 1) := by decide +kernel
theorem dX12_takesStage_3 : decode cX12_takesStage 3 = .ok (.bipush 7, 2) := by decide +kernel
theorem dX12_takesStage_5 : decode cX12_takesStage 5 = .ok (.if_icmp .ge 31, 3) := by decide +kernel
theorem dX12_takesStage_8 : decode cX12_takesStage 8 = .ok (.aload_n 0, 1) := by decide +kernel
theorem dX12_takesStage_9 : decode cX12_takesStage 9 = .ok (.getfield 80, 3) := by decide +kernel
theorem dX12_takesStage_12 : decode cX12_takesStage 12 = .ok (.bipush 7, 2) := by decide +kernel
theorem dX12_takesStage_14 : decode cX12_takesStage 14 = .ok (.iload_n 2, 1) := by decide +kernel
theorem dX12_takesStage_15 : decode cX12_takesStage 15 = .ok (.imul, 1) := by decide +kernel
theorem dX12_takesStage_16 : decode cX12_takesStage 16 = .ok (.iload_n 3, 1) := by decide +kernel
theorem dX12_takesStage_17 : decode cX12_takesStage 17 = .ok (.iadd, 1) := by decide +kernel
theorem dX12_takesStage_18 : decode cX12_takesStage 18 = .ok (.aload_n 0, 1) := by decide +kernel
theorem dX12_takesStage_19 : decode cX12_takesStage 19 = .ok (.getfield 77, 3) := by decide +kernel
theorem dX12_takesStage_22 : decode cX12_takesStage 22 = .ok (.bipush 7, 2) := by decide +kernel
theorem dX12_takesStage_24 : decode cX12_takesStage 24 = .ok (.iload_n 1, 1) := by decide +kernel
theorem dX12_takesStage_25 : decode cX12_takesStage 25 = .ok (.imul, 1) := by decide +kernel
theorem dX12_takesStage_26 : decode cX12_takesStage 26 = .ok (.iload_n 3, 1) := by decide +kernel
theorem dX12_takesStage_27 : decode cX12_takesStage 27 = .ok (.iadd, 1) := by decide +kernel
theorem dX12_takesStage_28 : decode cX12_takesStage 28 = .ok (.iaload, 1) := by decide +kernel
theorem dX12_takesStage_29 : decode cX12_takesStage 29 = .ok (.iastore, 1) := by decide +kernel
theorem dX12_takesStage_30 : decode cX12_takesStage 30 = .ok (.iinc 3 1, 3) := by decide +kernel
theorem dX12_takesStage_33 : decode cX12_takesStage 33 = .ok (.goto (-31), 3) := by decide +kernel
theorem dX12_takesStage_36 : decode cX12_takesStage 36 = .ok (.aload_n 0, 1) := by decide +kernel
theorem dX12_takesStage_37 : decode cX12_takesStage 37 = .ok (.getfield 80, 3) := by decide +kernel
theorem dX12_takesStage_40 : decode cX12_takesStage 40 = .ok (.bipush 42, 2) := by decide +kernel
theorem dX12_takesStage_42 : decode cX12_takesStage 42 = .ok (.aload_n 0, 1) := by decide +kernel
theorem dX12_takesStage_43 : decode cX12_takesStage 43 = .ok (.getfield 32, 3) := by decide +kernel
theorem dX12_takesStage_46 : decode cX12_takesStage 46 = .ok (.bipush 42, 2) := by decide +kernel
theorem dX12_takesStage_48 : decode cX12_takesStage 48 = .ok (.iaload, 1) := by decide +kernel
theorem dX12_takesStage_49 : decode cX12_takesStage 49 = .ok (.iload_n 1, 1) := by decide +kernel
theorem dX12_takesStage_50 : decode cX12_takesStage 50 = .ok (.iadd, 1) := by decide +kernel
theorem dX12_takesStage_51 : decode cX12_takesStage 51 = .ok (.iastore, 1) := by decide +kernel
theorem dX12_takesStage_52 : decode cX12_takesStage 52 = .ok (.return_, 1) := by decide +kernel
theorem dX12_goesAlone_0 : decode cX12_goesAlone 0 = .ok (.bipush 7, 2) := by decide +kernel
theorem dX12_goesAlone_2 : decode cX12_goesAlone 2 = .ok (.iload_n 1, 1) := by decide +kernel
theorem dX12_goesAlone_3 : decode cX12_goesAlone 3 = .ok (.imul, 1) := by decide +kernel
theorem dX12_goesAlone_4 : decode cX12_goesAlone 4 = .ok (.istore_n 2, 1) := by decide +kernel
theorem dX12_goesAlone_5 : decode cX12_goesAlone 5 = .ok (.aload_n 0, 1) := by decide +kernel
theorem dX12_goesAlone_6 : decode cX12_goesAlone 6 = .ok (.aload_n 0, 1) := by decide +kernel
theorem dX12_goesAlone_7 : decode cX12_goesAlone 7 = .ok (.getfield 80, 3) := by decide +kernel
theorem dX12_goesAlone_10 : decode cX12_goesAlone 10 = .ok (.iload_n 1, 1) := by decide +kernel
theorem dX12_goesAlone_11 : decode cX12_goesAlone 11 = .ok (.aload_n 0, 1) := by decide +kernel
theorem dX12_goesAlone_12 : decode cX12_goesAlone 12 = .ok (.aload_n 0, 1) := by decide +kernel
theorem dX12_goesAlone_13 : decode cX12_goesAlone 13 = .ok (.getfield 80, 3) := by decide +kernel
theorem dX12_goesAlone_16 : decode cX12_goesAlone 16 = .ok (.iload_n 1, 1) := by decide +kernel
theorem dX12_goesAlone_17 : decode cX12_goesAlone 17 = .ok (.invokevirtual 290, 3) := by decide +kernel
theorem dX12_goesAlone_20 : decode cX12_goesAlone 20 = .ok (.invokevirtual 343, 3) := by decide +kernel
theorem dX12_goesAlone_23 : decode cX12_goesAlone 23 = .ok (.ifCond .ne 5, 3) := by decide +kernel
theorem dX12_goesAlone_28 : decode cX12_goesAlone 28 = .ok (.aload_n 0, 1) := by decide +kernel
theorem dX12_goesAlone_29 : decode cX12_goesAlone 29 = .ok (.getfield 80, 3) := by decide +kernel
theorem dX12_goesAlone_32 : decode cX12_goesAlone 32 = .ok (.iload_n 2, 1) := by decide +kernel
theorem dX12_goesAlone_33 : decode cX12_goesAlone 33 = .ok (.iconst 0, 1) := by decide +kernel
theorem dX12_goesAlone_34 : decode cX12_goesAlone 34 = .ok (.iadd, 1) := by decide +kernel
theorem dX12_goesAlone_35 : decode cX12_goesAlone 35 = .ok (.iconst 0, 1) := by decide +kernel
theorem dX12_goesAlone_36 : decode cX12_goesAlone 36 = .ok (.aload_n 0, 1) := by decide +kernel
theorem dX12_goesAlone_37 : decode cX12_goesAlone 37 = .ok (.getfield 80, 3) := by decide +kernel
theorem dX12_goesAlone_40 : decode cX12_goesAlone 40 = .ok (.iload_n 2, 1) := by decide +kernel
theorem dX12_goesAlone_41 : decode cX12_goesAlone 41 = .ok (.iconst 0, 1) := by decide +kernel
theorem dX12_goesAlone_42 : decode cX12_goesAlone 42 = .ok (.iadd, 1) := by decide +kernel
theorem dX12_goesAlone_43 : decode cX12_goesAlone 43 = .ok (.iaload, 1) := by decide +kernel
theorem dX12_goesAlone_44 : decode cX12_goesAlone 44 = .ok (.aload_n 0, 1) := by decide +kernel
theorem dX12_goesAlone_45 : decode cX12_goesAlone 45 = .ok (.getfield 23, 3) := by decide +kernel
theorem dX12_goesAlone_48 : decode cX12_goesAlone 48 = .ok (.iload_n 1, 1) := by decide +kernel
theorem dX12_goesAlone_49 : decode cX12_goesAlone 49 = .ok (.iaload, 1) := by decide +kernel
theorem dX12_goesAlone_50 : decode cX12_goesAlone 50 = .ok (.isub, 1) := by decide +kernel
theorem dX12_goesAlone_51 : decode cX12_goesAlone 51 = .ok (.invokestatic 265, 3) := by decide +kernel
theorem dX12_goesAlone_54 : decode cX12_goesAlone 54 = .ok (.iastore, 1) := by decide +kernel
theorem dX12_goesAlone_55 : decode cX12_goesAlone 55 = .ok (.aload_n 0, 1) := by decide +kernel
theorem dX12_goesAlone_56 : decode cX12_goesAlone 56 = .ok (.getfield 80, 3) := by decide +kernel
theorem dX12_goesAlone_59 : decode cX12_goesAlone 59 = .ok (.bipush 42, 2) := by decide +kernel
theorem dX12_goesAlone_61 : decode cX12_goesAlone 61 = .ok (.dup2, 1) := by decide +kernel
theorem dX12_goesAlone_62 : decode cX12_goesAlone 62 = .ok (.iaload, 1) := by decide +kernel
theorem dX12_goesAlone_63 : decode cX12_goesAlone 63 = .ok (.iconst 1, 1) := by decide +kernel
theorem dX12_goesAlone_64 : decode cX12_goesAlone 64 = .ok (.iadd, 1) := by decide +kernel
theorem dX12_goesAlone_65 : decode cX12_goesAlone 65 = .ok (.iastore, 1) := by decide +kernel
theorem dX12_goesAlone_66 : decode cX12_goesAlone 66 = .ok (.aload_n 0, 1) := by decide +kernel
theorem dX12_goesAlone_67 : decode cX12_goesAlone 67 = .ok (.aload_n 0, 1) := by decide +kernel
theorem dX12_goesAlone_68 : decode cX12_goesAlone 68 = .ok (.getfield 80, 3) := by decide +kernel
theorem dX12_goesAlone_71 : decode cX12_goesAlone 71 = .ok (.iload_n 1, 1) := by decide +kernel
theorem dX12_goesAlone_72 : decode cX12_goesAlone 72 = .ok (.invokevirtual 261, 3) := by decide +kernel
theorem dX12_goesAlone_75 : decode cX12_goesAlone 75 = .ok (.ifCond .lt 7, 3) := by decide +kernel
theorem dX12_goesAlone_82 : decode cX12_goesAlone 82 = .ok (.iconst 0, 1) := by decide +kernel
theorem dX12_goesAlone_83 : decode cX12_goesAlone 83 = .ok (.ireturn, 1) := by decide +kernel
theorem dX12_goesAlone_78 : decode cX12_goesAlone 78 = .ok (.iconst 1, 1) := by decide +kernel
theorem dX12_goesAlone_79 : decode cX12_goesAlone 79 = .ok (.goto 4, 3) := by decide +kernel
theorem dX12_goesAlone_26 : decode cX12_goesAlone 26 = .ok (.iconst 0, 1) := by decide +kernel
theorem dX12_goesAlone_27 : decode cX12_goesAlone 27 = .ok (.ireturn, 1) := by decide +kernel
theorem dX12_landsBy_0 : decode cX12_landsBy 0 = .ok (.iload_n 3, 1) := by decide +kernel
theorem dX12_landsBy_1 : decode cX12_landsBy 1 = .ok (.iload 4, 2) := by decide +kernel
theorem dX12_landsBy_3 : decode cX12_landsBy 3 = .ok (.if_icmp .ne 44, 3) := by decide +kernel
theorem dX12_landsBy_47 : decode cX12_landsBy 47 = .ok (.iconst 0, 1) := by decide +kernel
theorem dX12_landsBy_48 : decode cX12_landsBy 48 = .ok (.istore 6, 2) := by decide +kernel
theorem dX12_landsBy_50 : decode cX12_landsBy 50 = .ok (.iload 6, 2) := by decide +kernel
theorem dX12_landsBy_52 : decode cX12_landsBy 52 = .ok (.iload 5, 2) := by decide +kernel
theorem dX12_landsBy_54 : decode cX12_landsBy 54 = .ok (.if_icmp .gt 76, 3) := by decide +kernel
theorem dX12_landsBy_57 : decode cX12_landsBy 57 = .ok (.aload_n 0, 1) := by decide +kernel
theorem dX12_landsBy_58 : decode cX12_landsBy 58 = .ok (.iload_n 3, 1) := by decide +kernel
theorem dX12_landsBy_59 : decode cX12_landsBy 59 = .ok (.iload_n 1, 1) := by decide +kernel
theorem dX12_landsBy_60 : decode cX12_landsBy 60 = .ok (.invokevirtual 430, 3) := by decide +kernel
theorem dX12_landsBy_63 : decode cX12_landsBy 63 = .ok (.aload_n 0, 1) := by decide +kernel
theorem dX12_landsBy_64 : decode cX12_landsBy 64 = .ok (.getfield 80, 3) := by decide +kernel
theorem dX12_landsBy_67 : decode cX12_landsBy 67 = .ok (.bipush 7, 2) := by decide +kernel
theorem dX12_landsBy_69 : decode cX12_landsBy 69 = .ok (.iload_n 1, 1) := by decide +kernel
theorem dX12_landsBy_70 : decode cX12_landsBy 70 = .ok (.imul, 1) := by decide +kernel
theorem dX12_landsBy_71 : decode cX12_landsBy 71 = .ok (.iconst 1, 1) := by decide +kernel
theorem dX12_landsBy_72 : decode cX12_landsBy 72 = .ok (.iadd, 1) := by decide +kernel
theorem dX12_landsBy_73 : decode cX12_landsBy 73 = .ok (.dup2, 1) := by decide +kernel
theorem dX12_landsBy_74 : decode cX12_landsBy 74 = .ok (.iaload, 1) := by decide +kernel
theorem dX12_landsBy_75 : decode cX12_landsBy 75 = .ok (.iload 6, 2) := by decide +kernel
theorem dX12_landsBy_77 : decode cX12_landsBy 77 = .ok (.isub, 1) := by decide +kernel
theorem dX12_landsBy_78 : decode cX12_landsBy 78 = .ok (.iastore, 1) := by decide +kernel
theorem dX12_landsBy_79 : decode cX12_landsBy 79 = .ok (.aload_n 0, 1) := by decide +kernel
theorem dX12_landsBy_80 : decode cX12_landsBy 80 = .ok (.iload_n 1, 1) := by decide +kernel
theorem dX12_landsBy_81 : decode cX12_landsBy 81 = .ok (.invokevirtual 434, 3) := by decide +kernel
theorem dX12_landsBy_124 : decode cX12_landsBy 124 = .ok (.iinc 6 1, 3) := by decide +kernel
theorem dX12_landsBy_127 : decode cX12_landsBy 127 = .ok (.goto (-77), 3) := by decide +kernel
theorem dX12_landsBy_84 : decode cX12_landsBy 84 = .ok (.ifCond .eq 40, 3) := by decide +kernel
theorem dX12_landsBy_87 : decode cX12_landsBy 87 = .ok (.aload_n 0, 1) := by decide +kernel
theorem dX12_landsBy_88 : decode cX12_landsBy 88 = .ok (.iload_n 3, 1) := by decide +kernel
theorem dX12_landsBy_89 : decode cX12_landsBy 89 = .ok (.iconst 1, 1) := by decide +kernel
theorem dX12_landsBy_90 : decode cX12_landsBy 90 = .ok (.iadd, 1) := by decide +kernel
theorem dX12_landsBy_91 : decode cX12_landsBy 91 = .ok (.iload_n 1, 1) := by decide +kernel
theorem dX12_landsBy_92 : decode cX12_landsBy 92 = .ok (.invokevirtual 437, 3) := by decide +kernel
theorem dX12_landsBy_95 : decode cX12_landsBy 95 = .ok (.aload_n 0, 1) := by decide +kernel
theorem dX12_landsBy_96 : decode cX12_landsBy 96 = .ok (.getfield 83, 3) := by decide +kernel
theorem dX12_landsBy_99 : decode cX12_landsBy 99 = .ok (.iload_n 3, 1) := by decide +kernel
theorem dX12_landsBy_100 : decode cX12_landsBy 100 = .ok (.iload 6, 2) := by decide +kernel
theorem dX12_landsBy_102 : decode cX12_landsBy 102 = .ok (.iastore, 1) := by decide +kernel
theorem dX12_landsBy_103 : decode cX12_landsBy 103 = .ok (.aload_n 0, 1) := by decide +kernel
theorem dX12_landsBy_104 : decode cX12_landsBy 104 = .ok (.iload_n 1, 1) := by decide +kernel
theorem dX12_landsBy_105 : decode cX12_landsBy 105 = .ok (.iload_n 2, 1) := by decide +kernel
theorem dX12_landsBy_106 : decode cX12_landsBy 106 = .ok (.iload_n 3, 1) := by decide +kernel
theorem dX12_landsBy_107 : decode cX12_landsBy 107 = .ok (.iconst 1, 1) := by decide +kernel
theorem dX12_landsBy_108 : decode cX12_landsBy 108 = .ok (.iadd, 1) := by decide +kernel
theorem dX12_landsBy_109 : decode cX12_landsBy 109 = .ok (.iload 4, 2) := by decide +kernel
theorem dX12_landsBy_111 : decode cX12_landsBy 111 = .ok (.iload 5, 2) := by decide +kernel
theorem dX12_landsBy_113 : decode cX12_landsBy 113 = .ok (.iload 6, 2) := by decide +kernel
theorem dX12_landsBy_115 : decode cX12_landsBy 115 = .ok (.isub, 1) := by decide +kernel
theorem dX12_landsBy_116 : decode cX12_landsBy 116 = .ok (.invokevirtual 440, 3) := by decide +kernel
theorem dX12_landsBy_119 : decode cX12_landsBy 119 = .ok (.ifCond .eq 5, 3) := by decide +kernel
theorem dX12_landsBy_122 : decode cX12_landsBy 122 = .ok (.iconst 1, 1) := by decide +kernel
theorem dX12_landsBy_123 : decode cX12_landsBy 123 = .ok (.ireturn, 1) := by decide +kernel
theorem dX12_landsBy_130 : decode cX12_landsBy 130 = .ok (.iconst 0, 1) := by decide +kernel
theorem dX12_landsBy_131 : decode cX12_landsBy 131 = .ok (.ireturn, 1) := by decide +kernel
theorem dX12_landsBy_6 : decode cX12_landsBy 6 = .ok (.aload_n 0, 1) := by decide +kernel
theorem dX12_landsBy_7 : decode cX12_landsBy 7 = .ok (.iload_n 3, 1) := by decide +kernel
theorem dX12_landsBy_8 : decode cX12_landsBy 8 = .ok (.iload_n 1, 1) := by decide +kernel
theorem dX12_landsBy_9 : decode cX12_landsBy 9 = .ok (.invokevirtual 430, 3) := by decide +kernel
theorem dX12_landsBy_12 : decode cX12_landsBy 12 = .ok (.aload_n 0, 1) := by decide +kernel
theorem dX12_landsBy_13 : decode cX12_landsBy 13 = .ok (.getfield 80, 3) := by decide +kernel
theorem dX12_landsBy_16 : decode cX12_landsBy 16 = .ok (.bipush 7, 2) := by decide +kernel
theorem dX12_landsBy_18 : decode cX12_landsBy 18 = .ok (.iload_n 1, 1) := by decide +kernel
theorem dX12_landsBy_19 : decode cX12_landsBy 19 = .ok (.imul, 1) := by decide +kernel
theorem dX12_landsBy_20 : decode cX12_landsBy 20 = .ok (.iconst 1, 1) := by decide +kernel
theorem dX12_landsBy_21 : decode cX12_landsBy 21 = .ok (.iadd, 1) := by decide +kernel
theorem dX12_landsBy_22 : decode cX12_landsBy 22 = .ok (.dup2, 1) := by decide +kernel
theorem dX12_landsBy_23 : decode cX12_landsBy 23 = .ok (.iaload, 1) := by decide +kernel
theorem dX12_landsBy_24 : decode cX12_landsBy 24 = .ok (.iload 5, 2) := by decide +kernel
theorem dX12_landsBy_26 : decode cX12_landsBy 26 = .ok (.isub, 1) := by decide +kernel
theorem dX12_landsBy_27 : decode cX12_landsBy 27 = .ok (.iastore, 1) := by decide +kernel
theorem dX12_landsBy_28 : decode cX12_landsBy 28 = .ok (.aload_n 0, 1) := by decide +kernel
theorem dX12_landsBy_29 : decode cX12_landsBy 29 = .ok (.getfield 83, 3) := by decide +kernel
theorem dX12_landsBy_32 : decode cX12_landsBy 32 = .ok (.iload_n 3, 1) := by decide +kernel
theorem dX12_landsBy_33 : decode cX12_landsBy 33 = .ok (.iload 5, 2) := by decide +kernel
theorem dX12_landsBy_35 : decode cX12_landsBy 35 = .ok (.iastore, 1) := by decide +kernel
theorem dX12_landsBy_36 : decode cX12_landsBy 36 = .ok (.aload_n 0, 1) := by decide +kernel
theorem dX12_landsBy_37 : decode cX12_landsBy 37 = .ok (.aload_n 0, 1) := by decide +kernel
theorem dX12_landsBy_38 : decode cX12_landsBy 38 = .ok (.getfield 80, 3) := by decide +kernel
theorem dX12_landsBy_41 : decode cX12_landsBy 41 = .ok (.iload_n 1, 1) := by decide +kernel
theorem dX12_landsBy_42 : decode cX12_landsBy 42 = .ok (.iload_n 2, 1) := by decide +kernel
theorem dX12_landsBy_43 : decode cX12_landsBy 43 = .ok (.invokevirtual 314, 3) := by decide +kernel
theorem dX12_landsBy_46 : decode cX12_landsBy 46 = .ok (.ireturn, 1) := by decide +kernel
theorem dX12_takesNow_0 : decode cX12_takesNow 0 = .ok (.iconst 0, 1) := by decide +kernel
theorem dX12_takesNow_1 : decode cX12_takesNow 1 = .ok (.istore_n 2, 1) := by decide +kernel
theorem dX12_takesNow_2 : decode cX12_takesNow 2 = .ok (.iload_n 2, 1) := by decide +kernel
theorem dX12_takesNow_3 : decode cX12_takesNow 3 = .ok (.bipush 7, 2) := by decide +kernel
theorem dX12_takesNow_5 : decode cX12_takesNow 5 = .ok (.if_icmp .ge 31, 3) := by decide +kernel
theorem dX12_takesNow_8 : decode cX12_takesNow 8 = .ok (.aload_n 0, 1) := by decide +kernel
theorem dX12_takesNow_9 : decode cX12_takesNow 9 = .ok (.getfield 80, 3) := by decide +kernel
theorem dX12_takesNow_12 : decode cX12_takesNow 12 = .ok (.bipush 7, 2) := by decide +kernel
theorem dX12_takesNow_14 : decode cX12_takesNow 14 = .ok (.iload_n 1, 1) := by decide +kernel
theorem dX12_takesNow_15 : decode cX12_takesNow 15 = .ok (.imul, 1) := by decide +kernel
theorem dX12_takesNow_16 : decode cX12_takesNow 16 = .ok (.iload_n 2, 1) := by decide +kernel
theorem dX12_takesNow_17 : decode cX12_takesNow 17 = .ok (.iadd, 1) := by decide +kernel
theorem dX12_takesNow_18 : decode cX12_takesNow 18 = .ok (.aload_n 0, 1) := by decide +kernel
theorem dX12_takesNow_19 : decode cX12_takesNow 19 = .ok (.getfield 32, 3) := by decide +kernel
theorem dX12_takesNow_22 : decode cX12_takesNow 22 = .ok (.bipush 7, 2) := by decide +kernel
theorem dX12_takesNow_24 : decode cX12_takesNow 24 = .ok (.iload_n 1, 1) := by decide +kernel
theorem dX12_takesNow_25 : decode cX12_takesNow 25 = .ok (.imul, 1) := by decide +kernel
theorem dX12_takesNow_26 : decode cX12_takesNow 26 = .ok (.iload_n 2, 1) := by decide +kernel
theorem dX12_takesNow_27 : decode cX12_takesNow 27 = .ok (.iadd, 1) := by decide +kernel
theorem dX12_takesNow_28 : decode cX12_takesNow 28 = .ok (.iaload, 1) := by decide +kernel
theorem dX12_takesNow_29 : decode cX12_takesNow 29 = .ok (.iastore, 1) := by decide +kernel
theorem dX12_takesNow_30 : decode cX12_takesNow 30 = .ok (.iinc 2 1, 3) := by decide +kernel
theorem dX12_takesNow_33 : decode cX12_takesNow 33 = .ok (.goto (-31), 3) := by decide +kernel
theorem dX12_takesNow_36 : decode cX12_takesNow 36 = .ok (.aload_n 0, 1) := by decide +kernel
theorem dX12_takesNow_37 : decode cX12_takesNow 37 = .ok (.iconst 0, 1) := by decide +kernel
theorem dX12_takesNow_38 : decode cX12_takesNow 38 = .ok (.iload_n 1, 1) := by decide +kernel
theorem dX12_takesNow_39 : decode cX12_takesNow 39 = .ok (.invokevirtual 437, 3) := by decide +kernel
theorem dX12_takesNow_42 : decode cX12_takesNow 42 = .ok (.return_, 1) := by decide +kernel
theorem dX12_canLand_0 : decode cX12_canLand 0 = .ok (.iconst 0, 1) := by decide +kernel
theorem dX12_canLand_1 : decode cX12_canLand 1 = .ok (.istore 4, 2) := by decide +kernel
theorem dX12_canLand_3 : decode cX12_canLand 3 = .ok (.iload 4, 2) := by decide +kernel
theorem dX12_canLand_5 : decode cX12_canLand 5 = .ok (.bipush 43, 2) := by decide +kernel
theorem dX12_canLand_7 : decode cX12_canLand 7 = .ok (.if_icmp .ge 23, 3) := by decide +kernel
theorem dX12_canLand_10 : decode cX12_canLand 10 = .ok (.aload_n 0, 1) := by decide +kernel
theorem dX12_canLand_11 : decode cX12_canLand 11 = .ok (.getfield 80, 3) := by decide +kernel
theorem dX12_canLand_14 : decode cX12_canLand 14 = .ok (.iload 4, 2) := by decide +kernel
theorem dX12_canLand_16 : decode cX12_canLand 16 = .ok (.aload_n 0, 1) := by decide +kernel
theorem dX12_canLand_17 : decode cX12_canLand 17 = .ok (.getfield 32, 3) := by decide +kernel
theorem dX12_canLand_20 : decode cX12_canLand 20 = .ok (.iload 4, 2) := by decide +kernel
theorem dX12_canLand_22 : decode cX12_canLand 22 = .ok (.iaload, 1) := by decide +kernel
theorem dX12_canLand_23 : decode cX12_canLand 23 = .ok (.iastore, 1) := by decide +kernel
theorem dX12_canLand_24 : decode cX12_canLand 24 = .ok (.iinc 4 1, 3) := by decide +kernel
theorem dX12_canLand_27 : decode cX12_canLand 27 = .ok (.goto (-24), 3) := by decide +kernel
theorem dX12_canLand_30 : decode cX12_canLand 30 = .ok (.aload_n 0, 1) := by decide +kernel
theorem dX12_canLand_31 : decode cX12_canLand 31 = .ok (.iconst 0, 1) := by decide +kernel
theorem dX12_canLand_32 : decode cX12_canLand 32 = .ok (.putfield 444, 3) := by decide +kernel
theorem dX12_canLand_35 : decode cX12_canLand 35 = .ok (.aload_n 0, 1) := by decide +kernel
theorem dX12_canLand_36 : decode cX12_canLand 36 = .ok (.getfield 444, 3) := by decide +kernel
theorem dX12_canLand_39 : decode cX12_canLand 39 = .ok (.aload_n 0, 1) := by decide +kernel
theorem dX12_canLand_40 : decode cX12_canLand 40 = .ok (.getfield 32, 3) := by decide +kernel
theorem dX12_canLand_43 : decode cX12_canLand 43 = .ok (.bipush 7, 2) := by decide +kernel
theorem dX12_canLand_45 : decode cX12_canLand 45 = .ok (.iload_n 1, 1) := by decide +kernel
theorem dX12_canLand_46 : decode cX12_canLand 46 = .ok (.imul, 1) := by decide +kernel
theorem dX12_canLand_47 : decode cX12_canLand 47 = .ok (.iconst 1, 1) := by decide +kernel
theorem dX12_canLand_48 : decode cX12_canLand 48 = .ok (.iadd, 1) := by decide +kernel
theorem dX12_canLand_49 : decode cX12_canLand 49 = .ok (.iaload, 1) := by decide +kernel
theorem dX12_canLand_50 : decode cX12_canLand 50 = .ok (.if_icmp .gt 67, 3) := by decide +kernel
theorem dX12_canLand_53 : decode cX12_canLand 53 = .ok (.aload_n 0, 1) := by decide +kernel
theorem dX12_canLand_54 : decode cX12_canLand 54 = .ok (.iconst 0, 1) := by decide +kernel
theorem dX12_canLand_55 : decode cX12_canLand 55 = .ok (.putfield 447, 3) := by decide +kernel
theorem dX12_canLand_58 : decode cX12_canLand 58 = .ok (.aload_n 0, 1) := by decide +kernel
theorem dX12_canLand_59 : decode cX12_canLand 59 = .ok (.getfield 447, 3) := by decide +kernel
theorem dX12_canLand_62 : decode cX12_canLand 62 = .ok (.iload_n 3, 1) := by decide +kernel
theorem dX12_canLand_63 : decode cX12_canLand 63 = .ok (.if_icmp .gt 41, 3) := by decide +kernel
theorem dX12_canLand_66 : decode cX12_canLand 66 = .ok (.aload_n 0, 1) := by decide +kernel
theorem dX12_canLand_67 : decode cX12_canLand 67 = .ok (.iload_n 1, 1) := by decide +kernel
theorem dX12_canLand_68 : decode cX12_canLand 68 = .ok (.invokevirtual 450, 3) := by decide +kernel
theorem dX12_canLand_71 : decode cX12_canLand 71 = .ok (.aload_n 0, 1) := by decide +kernel
theorem dX12_canLand_72 : decode cX12_canLand 72 = .ok (.iload_n 1, 1) := by decide +kernel
theorem dX12_canLand_73 : decode cX12_canLand 73 = .ok (.iload_n 2, 1) := by decide +kernel
theorem dX12_canLand_74 : decode cX12_canLand 74 = .ok (.iconst 0, 1) := by decide +kernel
theorem dX12_canLand_75 : decode cX12_canLand 75 = .ok (.aload_n 0, 1) := by decide +kernel
theorem dX12_canLand_76 : decode cX12_canLand 76 = .ok (.getfield 447, 3) := by decide +kernel
theorem dX12_canLand_79 : decode cX12_canLand 79 = .ok (.aload_n 0, 1) := by decide +kernel
theorem dX12_canLand_80 : decode cX12_canLand 80 = .ok (.getfield 444, 3) := by decide +kernel
theorem dX12_canLand_83 : decode cX12_canLand 83 = .ok (.invokevirtual 440, 3) := by decide +kernel
theorem dX12_canLand_86 : decode cX12_canLand 86 = .ok (.ifCond .eq 5, 3) := by decide +kernel
theorem dX12_canLand_91 : decode cX12_canLand 91 = .ok (.aload_n 0, 1) := by decide +kernel
theorem dX12_canLand_92 : decode cX12_canLand 92 = .ok (.dup, 1) := by decide +kernel
theorem dX12_canLand_93 : decode cX12_canLand 93 = .ok (.getfield 447, 3) := by decide +kernel
theorem dX12_canLand_96 : decode cX12_canLand 96 = .ok (.iconst 1, 1) := by decide +kernel
theorem dX12_canLand_97 : decode cX12_canLand 97 = .ok (.iadd, 1) := by decide +kernel
theorem dX12_canLand_98 : decode cX12_canLand 98 = .ok (.putfield 447, 3) := by decide +kernel
theorem dX12_canLand_101 : decode cX12_canLand 101 = .ok (.goto (-43), 3) := by decide +kernel
theorem dX12_canLand_89 : decode cX12_canLand 89 = .ok (.iconst 1, 1) := by decide +kernel
theorem dX12_canLand_90 : decode cX12_canLand 90 = .ok (.ireturn, 1) := by decide +kernel
theorem dX12_canLand_104 : decode cX12_canLand 104 = .ok (.aload_n 0, 1) := by decide +kernel
theorem dX12_canLand_105 : decode cX12_canLand 105 = .ok (.dup, 1) := by decide +kernel
theorem dX12_canLand_106 : decode cX12_canLand 106 = .ok (.getfield 444, 3) := by decide +kernel
theorem dX12_canLand_109 : decode cX12_canLand 109 = .ok (.iconst 1, 1) := by decide +kernel
theorem dX12_canLand_110 : decode cX12_canLand 110 = .ok (.iadd, 1) := by decide +kernel
theorem dX12_canLand_111 : decode cX12_canLand 111 = .ok (.putfield 444, 3) := by decide +kernel
theorem dX12_canLand_114 : decode cX12_canLand 114 = .ok (.goto (-79), 3) := by decide +kernel
theorem dX12_canLand_117 : decode cX12_canLand 117 = .ok (.iconst 0, 1) := by decide +kernel
theorem dX12_canLand_118 : decode cX12_canLand 118 = .ok (.ireturn, 1) := by decide +kernel
theorem dX12_lands_0 : decode cX12_lands 0 = .ok (.aload_n 0, 1) := by decide +kernel
theorem dX12_lands_1 : decode cX12_lands 1 = .ok (.iconst 0, 1) := by decide +kernel
theorem dX12_lands_2 : decode cX12_lands 2 = .ok (.putfield 117, 3) := by decide +kernel
theorem dX12_lands_5 : decode cX12_lands 5 = .ok (.aload_n 0, 1) := by decide +kernel
theorem dX12_lands_6 : decode cX12_lands 6 = .ok (.iload_n 1, 1) := by decide +kernel
theorem dX12_lands_7 : decode cX12_lands 7 = .ok (.invokevirtual 282, 3) := by decide +kernel
theorem dX12_lands_10 : decode cX12_lands 10 = .ok (.ifCond .eq 23, 3) := by decide +kernel
theorem dX12_lands_33 : decode cX12_lands 33 = .ok (.iconst (-1), 1) := by decide +kernel
theorem dX12_lands_34 : decode cX12_lands 34 = .ok (.ireturn, 1) := by decide +kernel
theorem dX12_lands_13 : decode cX12_lands 13 = .ok (.aload_n 0, 1) := by decide +kernel
theorem dX12_lands_14 : decode cX12_lands 14 = .ok (.iload_n 2, 1) := by decide +kernel
theorem dX12_lands_15 : decode cX12_lands 15 = .ok (.invokevirtual 271, 3) := by decide +kernel
theorem dX12_lands_18 : decode cX12_lands 18 = .ok (.ifCond .eq 15, 3) := by decide +kernel
theorem dX12_lands_21 : decode cX12_lands 21 = .ok (.iload_n 3, 1) := by decide +kernel
theorem dX12_lands_22 : decode cX12_lands 22 = .ok (.i2l, 1) := by decide +kernel
theorem dX12_lands_23 : decode cX12_lands 23 = .ok (.lconst 0, 1) := by decide +kernel
theorem dX12_lands_24 : decode cX12_lands 24 = .ok (.ldc2_w 453, 3) := by decide +kernel
theorem dX12_lands_27 : decode cX12_lands 27 = .ok (.invokestatic 131, 3) := by decide +kernel
theorem dX12_lands_30 : decode cX12_lands 30 = .ok (.ifCond .ne 5, 3) := by decide +kernel
theorem dX12_lands_35 : decode cX12_lands 35 = .ok (.aload_n 0, 1) := by decide +kernel
theorem dX12_lands_36 : decode cX12_lands 36 = .ok (.iload_n 1, 1) := by decide +kernel
theorem dX12_lands_37 : decode cX12_lands 37 = .ok (.invokevirtual 268, 3) := by decide +kernel
theorem dX12_lands_40 : decode cX12_lands 40 = .ok (.iconst 1, 1) := by decide +kernel
theorem dX12_lands_41 : decode cX12_lands 41 = .ok (.if_icmp .eq 6, 3) := by decide +kernel
theorem dX12_lands_47 : decode cX12_lands 47 = .ok (.aload_n 0, 1) := by decide +kernel
theorem dX12_lands_48 : decode cX12_lands 48 = .ok (.iload_n 2, 1) := by decide +kernel
theorem dX12_lands_49 : decode cX12_lands 49 = .ok (.invokevirtual 279, 3) := by decide +kernel
theorem dX12_lands_52 : decode cX12_lands 52 = .ok (.ifCond .lt 6, 3) := by decide +kernel
theorem dX12_lands_58 : decode cX12_lands 58 = .ok (.aload_n 0, 1) := by decide +kernel
theorem dX12_lands_59 : decode cX12_lands 59 = .ok (.iload_n 1, 1) := by decide +kernel
theorem dX12_lands_60 : decode cX12_lands 60 = .ok (.iload_n 2, 1) := by decide +kernel
theorem dX12_lands_61 : decode cX12_lands 61 = .ok (.iload_n 3, 1) := by decide +kernel
theorem dX12_lands_62 : decode cX12_lands 62 = .ok (.invokevirtual 455, 3) := by decide +kernel
theorem dX12_lands_65 : decode cX12_lands 65 = .ok (.ifCond .ne 6, 3) := by decide +kernel
theorem dX12_lands_71 : decode cX12_lands 71 = .ok (.aload_n 0, 1) := by decide +kernel
theorem dX12_lands_72 : decode cX12_lands 72 = .ok (.iconst 0, 1) := by decide +kernel
theorem dX12_lands_73 : decode cX12_lands 73 = .ok (.putfield 125, 3) := by decide +kernel
theorem dX12_lands_76 : decode cX12_lands 76 = .ok (.aload_n 0, 1) := by decide +kernel
theorem dX12_lands_77 : decode cX12_lands 77 = .ok (.aload_n 0, 1) := by decide +kernel
theorem dX12_lands_78 : decode cX12_lands 78 = .ok (.getfield 447, 3) := by decide +kernel
theorem dX12_lands_81 : decode cX12_lands 81 = .ok (.i2l, 1) := by decide +kernel
theorem dX12_lands_82 : decode cX12_lands 82 = .ok (.invokevirtual 384, 3) := by decide +kernel
theorem dX12_lands_85 : decode cX12_lands 85 = .ok (.iconst 0, 1) := by decide +kernel
theorem dX12_lands_86 : decode cX12_lands 86 = .ok (.istore 4, 2) := by decide +kernel
theorem dX12_lands_88 : decode cX12_lands 88 = .ok (.iload 4, 2) := by decide +kernel
theorem dX12_lands_90 : decode cX12_lands 90 = .ok (.aload_n 0, 1) := by decide +kernel
theorem dX12_lands_91 : decode cX12_lands 91 = .ok (.getfield 447, 3) := by decide +kernel
theorem dX12_lands_94 : decode cX12_lands 94 = .ok (.if_icmp .gt 21, 3) := by decide +kernel
theorem dX12_lands_97 : decode cX12_lands 97 = .ok (.aload_n 0, 1) := by decide +kernel
theorem dX12_lands_98 : decode cX12_lands 98 = .ok (.aload_n 0, 1) := by decide +kernel
theorem dX12_lands_99 : decode cX12_lands 99 = .ok (.getfield 83, 3) := by decide +kernel
theorem dX12_lands_102 : decode cX12_lands 102 = .ok (.iload 4, 2) := by decide +kernel
theorem dX12_lands_104 : decode cX12_lands 104 = .ok (.iaload, 1) := by decide +kernel
theorem dX12_lands_105 : decode cX12_lands 105 = .ok (.i2l, 1) := by decide +kernel
theorem dX12_lands_106 : decode cX12_lands 106 = .ok (.invokevirtual 384, 3) := by decide +kernel
theorem dX12_lands_109 : decode cX12_lands 109 = .ok (.iinc 4 1, 3) := by decide +kernel
theorem dX12_lands_112 : decode cX12_lands 112 = .ok (.goto (-24), 3) := by decide +kernel
theorem dX12_lands_115 : decode cX12_lands 115 = .ok (.aload_n 0, 1) := by decide +kernel
theorem dX12_lands_116 : decode cX12_lands 116 = .ok (.getfield 444, 3) := by decide +kernel
theorem dX12_lands_119 : decode cX12_lands 119 = .ok (.ireturn, 1) := by decide +kernel
theorem dX12_lands_68 : decode cX12_lands 68 = .ok (.bipush (-2), 2) := by decide +kernel
theorem dX12_lands_70 : decode cX12_lands 70 = .ok (.ireturn, 1) := by decide +kernel
theorem dX12_lands_55 : decode cX12_lands 55 = .ok (.bipush (-4), 2) := by decide +kernel
theorem dX12_lands_57 : decode cX12_lands 57 = .ok (.ireturn, 1) := by decide +kernel
theorem dX12_lands_44 : decode cX12_lands 44 = .ok (.bipush (-3), 2) := by decide +kernel
theorem dX12_lands_46 : decode cX12_lands 46 = .ok (.ireturn, 1) := by decide +kernel
theorem dX12_nearest_0 : decode cX12_nearest 0 = .ok (.aload_n 0, 1) := by decide +kernel
theorem dX12_nearest_1 : decode cX12_nearest 1 = .ok (.iconst 0, 1) := by decide +kernel
theorem dX12_nearest_2 : decode cX12_nearest 2 = .ok (.putfield 117, 3) := by decide +kernel
theorem dX12_nearest_5 : decode cX12_nearest 5 = .ok (.aload_n 0, 1) := by decide +kernel
theorem dX12_nearest_6 : decode cX12_nearest 6 = .ok (.iload_n 1, 1) := by decide +kernel
theorem dX12_nearest_7 : decode cX12_nearest 7 = .ok (.invokevirtual 282, 3) := by decide +kernel
theorem dX12_nearest_10 : decode cX12_nearest 10 = .ok (.ifCond .eq 15, 3) := by decide +kernel
theorem dX12_nearest_25 : decode cX12_nearest 25 = .ok (.iconst (-1), 1) := by decide +kernel
theorem dX12_nearest_26 : decode cX12_nearest 26 = .ok (.ireturn, 1) := by decide +kernel
theorem dX12_nearest_13 : decode cX12_nearest 13 = .ok (.iload_n 2, 1) := by decide +kernel
theorem dX12_nearest_14 : decode cX12_nearest 14 = .ok (.i2l, 1) := by decide +kernel
theorem dX12_nearest_15 : decode cX12_nearest 15 = .ok (.lconst 0, 1) := by decide +kernel
theorem dX12_nearest_16 : decode cX12_nearest 16 = .ok (.ldc2_w 453, 3) := by decide +kernel
theorem dX12_nearest_19 : decode cX12_nearest 19 = .ok (.invokestatic 131, 3) := by decide +kernel
theorem dX12_nearest_22 : decode cX12_nearest 22 = .ok (.ifCond .ne 5, 3) := by decide +kernel
theorem dX12_nearest_27 : decode cX12_nearest 27 = .ok (.aload_n 0, 1) := by decide +kernel
theorem dX12_nearest_28 : decode cX12_nearest 28 = .ok (.iload_n 1, 1) := by decide +kernel
theorem dX12_nearest_29 : decode cX12_nearest 29 = .ok (.invokevirtual 268, 3) := by decide +kernel
theorem dX12_nearest_32 : decode cX12_nearest 32 = .ok (.iconst 1, 1) := by decide +kernel
theorem dX12_nearest_33 : decode cX12_nearest 33 = .ok (.if_icmp .eq 6, 3) := by decide +kernel
theorem dX12_nearest_39 : decode cX12_nearest 39 = .ok (.bipush (-2), 2) := by decide +kernel
theorem dX12_nearest_41 : decode cX12_nearest 41 = .ok (.istore_n 3, 1) := by decide +kernel
theorem dX12_nearest_42 : decode cX12_nearest 42 = .ok (.iconst 0, 1) := by decide +kernel
theorem dX12_nearest_43 : decode cX12_nearest 43 = .ok (.istore 4, 2) := by decide +kernel
theorem dX12_nearest_45 : decode cX12_nearest 45 = .ok (.iconst 0, 1) := by decide +kernel
theorem dX12_nearest_46 : decode cX12_nearest 46 = .ok (.istore 5, 2) := by decide +kernel
theorem dX12_nearest_48 : decode cX12_nearest 48 = .ok (.iconst 0, 1) := by decide +kernel
theorem dX12_nearest_49 : decode cX12_nearest 49 = .ok (.istore 6, 2) := by decide +kernel
theorem dX12_nearest_51 : decode cX12_nearest 51 = .ok (.iload 6, 2) := by decide +kernel
theorem dX12_nearest_53 : decode cX12_nearest 53 = .ok (.aload_n 0, 1) := by decide +kernel
theorem dX12_nearest_54 : decode cX12_nearest 54 = .ok (.getfield 128, 3) := by decide +kernel
theorem dX12_nearest_57 : decode cX12_nearest 57 = .ok (.if_icmp .ge 75, 3) := by decide +kernel
theorem dX12_nearest_60 : decode cX12_nearest 60 = .ok (.aload_n 0, 1) := by decide +kernel
theorem dX12_nearest_61 : decode cX12_nearest 61 = .ok (.iload 6, 2) := by decide +kernel
theorem dX12_nearest_63 : decode cX12_nearest 63 = .ok (.invokevirtual 279, 3) := by decide +kernel
theorem dX12_nearest_126 : decode cX12_nearest 126 = .ok (.iinc 6 1, 3) := by decide +kernel
theorem dX12_nearest_129 : decode cX12_nearest 129 = .ok (.goto (-78), 3) := by decide +kernel
theorem dX12_nearest_66 : decode cX12_nearest 66 = .ok (.ifCond .ge 60, 3) := by decide +kernel
theorem dX12_nearest_69 : decode cX12_nearest 69 = .ok (.aload_n 0, 1) := by decide +kernel
theorem dX12_nearest_70 : decode cX12_nearest 70 = .ok (.iload_n 1, 1) := by decide +kernel
theorem dX12_nearest_71 : decode cX12_nearest 71 = .ok (.iload 6, 2) := by decide +kernel
theorem dX12_nearest_73 : decode cX12_nearest 73 = .ok (.iload_n 2, 1) := by decide +kernel
theorem dX12_nearest_74 : decode cX12_nearest 74 = .ok (.invokevirtual 455, 3) := by decide +kernel
theorem dX12_nearest_77 : decode cX12_nearest 77 = .ok (.ifCond .eq 49, 3) := by decide +kernel
theorem dX12_nearest_80 : decode cX12_nearest 80 = .ok (.iload_n 3, 1) := by decide +kernel
theorem dX12_nearest_111 : decode cX12_nearest 111 = .ok (.iload 6, 2) := by decide +kernel
theorem dX12_nearest_113 : decode cX12_nearest 113 = .ok (.istore_n 3, 1) := by decide +kernel
theorem dX12_nearest_114 : decode cX12_nearest 114 = .ok (.aload_n 0, 1) := by decide +kernel
theorem dX12_nearest_115 : decode cX12_nearest 115 = .ok (.getfield 444, 3) := by decide +kernel
theorem dX12_nearest_118 : decode cX12_nearest 118 = .ok (.istore 4, 2) := by decide +kernel
theorem dX12_nearest_120 : decode cX12_nearest 120 = .ok (.aload_n 0, 1) := by decide +kernel
theorem dX12_nearest_121 : decode cX12_nearest 121 = .ok (.getfield 447, 3) := by decide +kernel
theorem dX12_nearest_124 : decode cX12_nearest 124 = .ok (.istore 5, 2) := by decide +kernel
theorem dX12_nearest_81 : decode cX12_nearest 81 = .ok (.ifCond .lt 30, 3) := by decide +kernel
theorem dX12_nearest_84 : decode cX12_nearest 84 = .ok (.aload_n 0, 1) := by decide +kernel
theorem dX12_nearest_85 : decode cX12_nearest 85 = .ok (.getfield 444, 3) := by decide +kernel
theorem dX12_nearest_88 : decode cX12_nearest 88 = .ok (.iload 4, 2) := by decide +kernel
theorem dX12_nearest_90 : decode cX12_nearest 90 = .ok (.if_icmp .lt 21, 3) := by decide +kernel
theorem dX12_nearest_93 : decode cX12_nearest 93 = .ok (.aload_n 0, 1) := by decide +kernel
theorem dX12_nearest_94 : decode cX12_nearest 94 = .ok (.getfield 444, 3) := by decide +kernel
theorem dX12_nearest_97 : decode cX12_nearest 97 = .ok (.iload 4, 2) := by decide +kernel
theorem dX12_nearest_99 : decode cX12_nearest 99 = .ok (.if_icmp .ne 27, 3) := by decide +kernel
theorem dX12_nearest_102 : decode cX12_nearest 102 = .ok (.aload_n 0, 1) := by decide +kernel
theorem dX12_nearest_103 : decode cX12_nearest 103 = .ok (.getfield 447, 3) := by decide +kernel
theorem dX12_nearest_106 : decode cX12_nearest 106 = .ok (.iload 5, 2) := by decide +kernel
theorem dX12_nearest_108 : decode cX12_nearest 108 = .ok (.if_icmp .ge 18, 3) := by decide +kernel
theorem dX12_nearest_132 : decode cX12_nearest 132 = .ok (.iload_n 3, 1) := by decide +kernel
theorem dX12_nearest_133 : decode cX12_nearest 133 = .ok (.ifCond .ge 6, 3) := by decide +kernel
theorem dX12_nearest_139 : decode cX12_nearest 139 = .ok (.aload_n 0, 1) := by decide +kernel
theorem dX12_nearest_140 : decode cX12_nearest 140 = .ok (.iconst 0, 1) := by decide +kernel
theorem dX12_nearest_141 : decode cX12_nearest 141 = .ok (.putfield 125, 3) := by decide +kernel
theorem dX12_nearest_144 : decode cX12_nearest 144 = .ok (.aload_n 0, 1) := by decide +kernel
theorem dX12_nearest_145 : decode cX12_nearest 145 = .ok (.iload 4, 2) := by decide +kernel
theorem dX12_nearest_147 : decode cX12_nearest 147 = .ok (.i2l, 1) := by decide +kernel
theorem dX12_nearest_148 : decode cX12_nearest 148 = .ok (.invokevirtual 384, 3) := by decide +kernel
theorem dX12_nearest_151 : decode cX12_nearest 151 = .ok (.aload_n 0, 1) := by decide +kernel
theorem dX12_nearest_152 : decode cX12_nearest 152 = .ok (.iload 5, 2) := by decide +kernel
theorem dX12_nearest_154 : decode cX12_nearest 154 = .ok (.i2l, 1) := by decide +kernel
theorem dX12_nearest_155 : decode cX12_nearest 155 = .ok (.invokevirtual 384, 3) := by decide +kernel
theorem dX12_nearest_158 : decode cX12_nearest 158 = .ok (.iload_n 3, 1) := by decide +kernel
theorem dX12_nearest_159 : decode cX12_nearest 159 = .ok (.ireturn, 1) := by decide +kernel
theorem dX12_nearest_136 : decode cX12_nearest 136 = .ok (.bipush (-2), 2) := by decide +kernel
theorem dX12_nearest_138 : decode cX12_nearest 138 = .ok (.ireturn, 1) := by decide +kernel
theorem dX12_nearest_36 : decode cX12_nearest 36 = .ok (.bipush (-3), 2) := by decide +kernel
theorem dX12_nearest_38 : decode cX12_nearest 38 = .ok (.ireturn, 1) := by decide +kernel
theorem dX12_letsDown_0 : decode cX12_letsDown 0 = .ok (.iload_n 2, 1) := by decide +kernel
theorem dX12_letsDown_1 : decode cX12_letsDown 1 = .ok (.aload_n 0, 1) := by decide +kernel
theorem dX12_letsDown_2 : decode cX12_letsDown 2 = .ok (.getfield 459, 3) := by decide +kernel
theorem dX12_letsDown_38 : decode cX12_letsDown 38 = .ok (.iconst 0, 1) := by decide +kernel
theorem dX12_letsDown_39 : decode cX12_letsDown 39 = .ok (.istore_n 3, 1) := by decide +kernel
theorem dX12_letsDown_40 : decode cX12_letsDown 40 = .ok (.iload_n 3, 1) := by decide +kernel
theorem dX12_letsDown_41 : decode cX12_letsDown 41 = .ok (.aload_n 0, 1) := by decide +kernel
theorem dX12_letsDown_42 : decode cX12_letsDown 42 = .ok (.getfield 135, 3) := by decide +kernel
theorem dX12_letsDown_45 : decode cX12_letsDown 45 = .ok (.if_icmp .ge 55, 3) := by decide +kernel
theorem dX12_letsDown_48 : decode cX12_letsDown 48 = .ok (.aload_n 0, 1) := by decide +kernel
theorem dX12_letsDown_49 : decode cX12_letsDown 49 = .ok (.iload_n 3, 1) := by decide +kernel
theorem dX12_letsDown_50 : decode cX12_letsDown 50 = .ok (.invokevirtual 268, 3) := by decide +kernel
theorem dX12_letsDown_53 : decode cX12_letsDown 53 = .ok (.iconst 2, 1) := by decide +kernel
theorem dX12_letsDown_94 : decode cX12_letsDown 94 = .ok (.iinc 3 1, 3) := by decide +kernel
theorem dX12_letsDown_97 : decode cX12_letsDown 97 = .ok (.goto (-57), 3) := by decide +kernel
theorem dX12_letsDown_54 : decode cX12_letsDown 54 = .ok (.if_icmp .ne 40, 3) := by decide +kernel
theorem dX12_letsDown_57 : decode cX12_letsDown 57 = .ok (.iload_n 1, 1) := by decide +kernel
theorem dX12_letsDown_58 : decode cX12_letsDown 58 = .ok (.iload_n 3, 1) := by decide +kernel
theorem dX12_letsDown_59 : decode cX12_letsDown 59 = .ok (.invokestatic 415, 3) := by decide +kernel
theorem dX12_letsDown_62 : decode cX12_letsDown 62 = .ok (.ifCond .ne 32, 3) := by decide +kernel
theorem dX12_letsDown_65 : decode cX12_letsDown 65 = .ok (.aload_n 0, 1) := by decide +kernel
theorem dX12_letsDown_66 : decode cX12_letsDown 66 = .ok (.getfield 20, 3) := by decide +kernel
theorem dX12_letsDown_69 : decode cX12_letsDown 69 = .ok (.iload_n 3, 1) := by decide +kernel
theorem dX12_letsDown_70 : decode cX12_letsDown 70 = .ok (.iaload, 1) := by decide +kernel
theorem dX12_letsDown_71 : decode cX12_letsDown 71 = .ok (.iload_n 2, 1) := by decide +kernel
theorem dX12_letsDown_72 : decode cX12_letsDown 72 = .ok (.if_icmp .le 22, 3) := by decide +kernel
theorem dX12_letsDown_75 : decode cX12_letsDown 75 = .ok (.aload_n 0, 1) := by decide +kernel
theorem dX12_letsDown_76 : decode cX12_letsDown 76 = .ok (.getfield 86, 3) := by decide +kernel
theorem dX12_letsDown_79 : decode cX12_letsDown 79 = .ok (.iload_n 2, 1) := by decide +kernel
theorem dX12_letsDown_80 : decode cX12_letsDown 80 = .ok (.iload_n 3, 1) := by decide +kernel
theorem dX12_letsDown_81 : decode cX12_letsDown 81 = .ok (.iastore, 1) := by decide +kernel
theorem dX12_letsDown_82 : decode cX12_letsDown 82 = .ok (.aload_n 0, 1) := by decide +kernel
theorem dX12_letsDown_83 : decode cX12_letsDown 83 = .ok (.iload_n 1, 1) := by decide +kernel
theorem dX12_letsDown_84 : decode cX12_letsDown 84 = .ok (.iconst 1, 1) := by decide +kernel
theorem dX12_letsDown_85 : decode cX12_letsDown 85 = .ok (.iload_n 3, 1) := by decide +kernel
theorem dX12_letsDown_86 : decode cX12_letsDown 86 = .ok (.ishl, 1) := by decide +kernel
theorem dX12_letsDown_87 : decode cX12_letsDown 87 = .ok (.ior, 1) := by decide +kernel
theorem dX12_letsDown_88 : decode cX12_letsDown 88 = .ok (.iload_n 2, 1) := by decide +kernel
theorem dX12_letsDown_89 : decode cX12_letsDown 89 = .ok (.iconst 1, 1) := by decide +kernel
theorem dX12_letsDown_90 : decode cX12_letsDown 90 = .ok (.iadd, 1) := by decide +kernel
theorem dX12_letsDown_91 : decode cX12_letsDown 91 = .ok (.invokevirtual 462, 3) := by decide +kernel
theorem dX12_letsDown_100 : decode cX12_letsDown 100 = .ok (.return_, 1) := by decide +kernel
theorem dX12_letsDown_5 : decode cX12_letsDown 5 = .ok (.if_icmp .le 33, 3) := by decide +kernel
theorem dX12_letsDown_8 : decode cX12_letsDown 8 = .ok (.aload_n 0, 1) := by decide +kernel
theorem dX12_letsDown_9 : decode cX12_letsDown 9 = .ok (.iload_n 2, 1) := by decide +kernel
theorem dX12_letsDown_10 : decode cX12_letsDown 10 = .ok (.putfield 459, 3) := by decide +kernel
theorem dX12_letsDown_13 : decode cX12_letsDown 13 = .ok (.iconst 0, 1) := by decide +kernel
theorem dX12_letsDown_14 : decode cX12_letsDown 14 = .ok (.istore_n 3, 1) := by decide +kernel
theorem dX12_letsDown_15 : decode cX12_letsDown 15 = .ok (.iload_n 3, 1) := by decide +kernel
theorem dX12_letsDown_16 : decode cX12_letsDown 16 = .ok (.iload_n 2, 1) := by decide +kernel
theorem dX12_letsDown_17 : decode cX12_letsDown 17 = .ok (.if_icmp .ge 21, 3) := by decide +kernel
theorem dX12_letsDown_20 : decode cX12_letsDown 20 = .ok (.aload_n 0, 1) := by decide +kernel
theorem dX12_letsDown_21 : decode cX12_letsDown 21 = .ok (.getfield 89, 3) := by decide +kernel
theorem dX12_letsDown_24 : decode cX12_letsDown 24 = .ok (.iload_n 3, 1) := by decide +kernel
theorem dX12_letsDown_25 : decode cX12_letsDown 25 = .ok (.aload_n 0, 1) := by decide +kernel
theorem dX12_letsDown_26 : decode cX12_letsDown 26 = .ok (.getfield 86, 3) := by decide +kernel
theorem dX12_letsDown_29 : decode cX12_letsDown 29 = .ok (.iload_n 3, 1) := by decide +kernel
theorem dX12_letsDown_30 : decode cX12_letsDown 30 = .ok (.iaload, 1) := by decide +kernel
theorem dX12_letsDown_31 : decode cX12_letsDown 31 = .ok (.iastore, 1) := by decide +kernel
theorem dX12_letsDown_32 : decode cX12_letsDown 32 = .ok (.iinc 3 1, 3) := by decide +kernel
theorem dX12_letsDown_35 : decode cX12_letsDown 35 = .ok (.goto (-20), 3) := by decide +kernel
theorem dX12_storm_0 : decode cX12_storm 0 = .ok (.aload_n 0, 1) := by decide +kernel
theorem dX12_storm_1 : decode cX12_storm 1 = .ok (.iconst 0, 1) := by decide +kernel
theorem dX12_storm_2 : decode cX12_storm 2 = .ok (.putfield 117, 3) := by decide +kernel
theorem dX12_storm_5 : decode cX12_storm 5 = .ok (.aload_n 0, 1) := by decide +kernel
theorem dX12_storm_6 : decode cX12_storm 6 = .ok (.iconst 0, 1) := by decide +kernel
theorem dX12_storm_7 : decode cX12_storm 7 = .ok (.putfield 459, 3) := by decide +kernel
theorem dX12_storm_10 : decode cX12_storm 10 = .ok (.aload_n 0, 1) := by decide +kernel
theorem dX12_storm_11 : decode cX12_storm 11 = .ok (.iconst 0, 1) := by decide +kernel
theorem dX12_storm_12 : decode cX12_storm 12 = .ok (.iconst 0, 1) := by decide +kernel
theorem dX12_storm_13 : decode cX12_storm 13 = .ok (.invokevirtual 462, 3) := by decide +kernel
theorem dX12_storm_16 : decode cX12_storm 16 = .ok (.aload_n 0, 1) := by decide +kernel
theorem dX12_storm_17 : decode cX12_storm 17 = .ok (.iconst 0, 1) := by decide +kernel
theorem dX12_storm_18 : decode cX12_storm 18 = .ok (.putfield 125, 3) := by decide +kernel
theorem dX12_storm_21 : decode cX12_storm 21 = .ok (.iconst 0, 1) := by decide +kernel
theorem dX12_storm_22 : decode cX12_storm 22 = .ok (.istore_n 1, 1) := by decide +kernel
theorem dX12_storm_23 : decode cX12_storm 23 = .ok (.iload_n 1, 1) := by decide +kernel
theorem dX12_storm_24 : decode cX12_storm 24 = .ok (.aload_n 0, 1) := by decide +kernel
theorem dX12_storm_25 : decode cX12_storm 25 = .ok (.getfield 459, 3) := by decide +kernel
theorem dX12_storm_28 : decode cX12_storm 28 = .ok (.if_icmp .ge 20, 3) := by decide +kernel
theorem dX12_storm_31 : decode cX12_storm 31 = .ok (.aload_n 0, 1) := by decide +kernel
theorem dX12_storm_32 : decode cX12_storm 32 = .ok (.aload_n 0, 1) := by decide +kernel
theorem dX12_storm_33 : decode cX12_storm 33 = .ok (.getfield 89, 3) := by decide +kernel
theorem dX12_storm_36 : decode cX12_storm 36 = .ok (.iload_n 1, 1) := by decide +kernel
theorem dX12_storm_37 : decode cX12_storm 37 = .ok (.iaload, 1) := by decide +kernel
theorem dX12_storm_38 : decode cX12_storm 38 = .ok (.i2l, 1) := by decide +kernel
theorem dX12_storm_39 : decode cX12_storm 39 = .ok (.invokevirtual 384, 3) := by decide +kernel
theorem dX12_storm_42 : decode cX12_storm 42 = .ok (.iinc 1 1, 3) := by decide +kernel
theorem dX12_storm_45 : decode cX12_storm 45 = .ok (.goto (-22), 3) := by decide +kernel
theorem dX12_storm_48 : decode cX12_storm 48 = .ok (.aload_n 0, 1) := by decide +kernel
theorem dX12_storm_49 : decode cX12_storm 49 = .ok (.getfield 459, 3) := by decide +kernel
theorem dX12_storm_52 : decode cX12_storm 52 = .ok (.ireturn, 1) := by decide +kernel
theorem dX12_earns_0 : decode cX12_earns 0 = .ok (.iload_n 0, 1) := by decide +kernel
theorem dX12_earns_1 : decode cX12_earns 1 = .ok (.iload_n 2, 1) := by decide +kernel
theorem dX12_earns_2 : decode cX12_earns 2 = .ok (.isub, 1) := by decide +kernel
theorem dX12_earns_3 : decode cX12_earns 3 = .ok (.iload_n 0, 1) := by decide +kernel
theorem dX12_earns_4 : decode cX12_earns 4 = .ok (.iload_n 1, 1) := by decide +kernel
theorem dX12_earns_5 : decode cX12_earns 5 = .ok (.if_icmp .ge 8, 3) := by decide +kernel
theorem dX12_earns_13 : decode cX12_earns 13 = .ok (.iload_n 0, 1) := by decide +kernel
theorem dX12_earns_14 : decode cX12_earns 14 = .ok (.iload_n 1, 1) := by decide +kernel
theorem dX12_earns_15 : decode cX12_earns 15 = .ok (.if_icmp .ne 7, 3) := by decide +kernel
theorem dX12_earns_22 : decode cX12_earns 22 = .ok (.iconst 0, 1) := by decide +kernel
theorem dX12_earns_23 : decode cX12_earns 23 = .ok (.imul, 1) := by decide +kernel
theorem dX12_earns_24 : decode cX12_earns 24 = .ok (.ireturn, 1) := by decide +kernel
theorem dX12_earns_18 : decode cX12_earns 18 = .ok (.iconst 3, 1) := by decide +kernel
theorem dX12_earns_19 : decode cX12_earns 19 = .ok (.goto 4, 3) := by decide +kernel
theorem dX12_earns_8 : decode cX12_earns 8 = .ok (.bipush 6, 2) := by decide +kernel
theorem dX12_earns_10 : decode cX12_earns 10 = .ok (.goto 13, 3) := by decide +kernel
theorem dX12_isRest_0 : decode cX12_isRest 0 = .ok (.iconst 1, 1) := by decide +kernel
theorem dX12_isRest_1 : decode cX12_isRest 1 = .ok (.istore_n 3, 1) := by decide +kernel
theorem dX12_isRest_2 : decode cX12_isRest 2 = .ok (.iconst 1, 1) := by decide +kernel
theorem dX12_isRest_3 : decode cX12_isRest 3 = .ok (.istore 4, 2) := by decide +kernel
theorem dX12_isRest_5 : decode cX12_isRest 5 = .ok (.iload 4, 2) := by decide +kernel
theorem dX12_isRest_7 : decode cX12_isRest 7 = .ok (.bipush 9, 2) := by decide +kernel
theorem dX12_isRest_9 : decode cX12_isRest 9 = .ok (.if_icmp .gt 35, 3) := by decide +kernel
theorem dX12_isRest_12 : decode cX12_isRest 12 = .ok (.iload_n 3, 1) := by decide +kernel
theorem dX12_isRest_37 : decode cX12_isRest 37 = .ok (.istore_n 3, 1) := by decide +kernel
theorem dX12_isRest_38 : decode cX12_isRest 38 = .ok (.iinc 4 1, 3) := by decide +kernel
theorem dX12_isRest_41 : decode cX12_isRest 41 = .ok (.goto (-36), 3) := by decide +kernel
theorem dX12_isRest_36 : decode cX12_isRest 36 = .ok (.iconst 0, 1) := by decide +kernel
theorem dX12_isRest_13 : decode cX12_isRest 13 = .ok (.ifCond .eq 23, 3) := by decide +kernel
theorem dX12_isRest_16 : decode cX12_isRest 16 = .ok (.iload 4, 2) := by decide +kernel
theorem dX12_isRest_18 : decode cX12_isRest 18 = .ok (.iload_n 1, 1) := by decide +kernel
theorem dX12_isRest_19 : decode cX12_isRest 19 = .ok (.iload_n 2, 1) := by decide +kernel
theorem dX12_isRest_20 : decode cX12_isRest 20 = .ok (.invokestatic 465, 3) := by decide +kernel
theorem dX12_isRest_23 : decode cX12_isRest 23 = .ok (.iload_n 0, 1) := by decide +kernel
theorem dX12_isRest_24 : decode cX12_isRest 24 = .ok (.iload_n 1, 1) := by decide +kernel
theorem dX12_isRest_25 : decode cX12_isRest 25 = .ok (.iload_n 2, 1) := by decide +kernel
theorem dX12_isRest_26 : decode cX12_isRest 26 = .ok (.invokestatic 465, 3) := by decide +kernel
theorem dX12_isRest_29 : decode cX12_isRest 29 = .ok (.if_icmp .gt 7, 3) := by decide +kernel
theorem dX12_isRest_32 : decode cX12_isRest 32 = .ok (.iconst 1, 1) := by decide +kernel
theorem dX12_isRest_33 : decode cX12_isRest 33 = .ok (.goto 4, 3) := by decide +kernel
theorem dX12_isRest_44 : decode cX12_isRest 44 = .ok (.iload_n 3, 1) := by decide +kernel
theorem dX12_isRest_45 : decode cX12_isRest 45 = .ok (.ireturn, 1) := by decide +kernel
theorem dX12_rests_0 : decode cX12_rests 0 = .ok (.aload_n 0, 1) := by decide +kernel
theorem dX12_rests_1 : decode cX12_rests 1 = .ok (.iconst 0, 1) := by decide +kernel
theorem dX12_rests_2 : decode cX12_rests 2 = .ok (.putfield 117, 3) := by decide +kernel
theorem dX12_rests_5 : decode cX12_rests 5 = .ok (.iload_n 1, 1) := by decide +kernel
theorem dX12_rests_6 : decode cX12_rests 6 = .ok (.i2l, 1) := by decide +kernel
theorem dX12_rests_7 : decode cX12_rests 7 = .ok (.lconst 0, 1) := by decide +kernel
theorem dX12_rests_8 : decode cX12_rests 8 = .ok (.ldc2_w 285, 3) := by decide +kernel
theorem dX12_rests_11 : decode cX12_rests 11 = .ok (.invokestatic 131, 3) := by decide +kernel
theorem dX12_rests_14 : decode cX12_rests 14 = .ok (.ifCond .ne 5, 3) := by decide +kernel
theorem dX12_rests_19 : decode cX12_rests 19 = .ok (.iconst 0, 1) := by decide +kernel
theorem dX12_rests_20 : decode cX12_rests 20 = .ok (.istore_n 2, 1) := by decide +kernel
theorem dX12_rests_21 : decode cX12_rests 21 = .ok (.aload_n 0, 1) := by decide +kernel
theorem dX12_rests_22 : decode cX12_rests 22 = .ok (.iconst 0, 1) := by decide +kernel
theorem dX12_rests_23 : decode cX12_rests 23 = .ok (.putfield 125, 3) := by decide +kernel
theorem dX12_rests_26 : decode cX12_rests 26 = .ok (.iconst 1, 1) := by decide +kernel
theorem dX12_rests_27 : decode cX12_rests 27 = .ok (.istore_n 3, 1) := by decide +kernel
theorem dX12_rests_28 : decode cX12_rests 28 = .ok (.iload_n 3, 1) := by decide +kernel
theorem dX12_rests_29 : decode cX12_rests 29 = .ok (.bipush 9, 2) := by decide +kernel
theorem dX12_rests_31 : decode cX12_rests 31 = .ok (.if_icmp .gt 65, 3) := by decide +kernel
theorem dX12_rests_34 : decode cX12_rests 34 = .ok (.iconst 1, 1) := by decide +kernel
theorem dX12_rests_35 : decode cX12_rests 35 = .ok (.istore 4, 2) := by decide +kernel
theorem dX12_rests_37 : decode cX12_rests 37 = .ok (.iload 4, 2) := by decide +kernel
theorem dX12_rests_39 : decode cX12_rests 39 = .ok (.bipush 9, 2) := by decide +kernel
theorem dX12_rests_41 : decode cX12_rests 41 = .ok (.if_icmp .gt 49, 3) := by decide +kernel
theorem dX12_rests_44 : decode cX12_rests 44 = .ok (.iload_n 3, 1) := by decide +kernel
theorem dX12_rests_45 : decode cX12_rests 45 = .ok (.iload 4, 2) := by decide +kernel
theorem dX12_rests_47 : decode cX12_rests 47 = .ok (.iload_n 1, 1) := by decide +kernel
theorem dX12_rests_48 : decode cX12_rests 48 = .ok (.invokestatic 468, 3) := by decide +kernel
theorem dX12_rests_84 : decode cX12_rests 84 = .ok (.iinc 4 1, 3) := by decide +kernel
theorem dX12_rests_87 : decode cX12_rests 87 = .ok (.goto (-50), 3) := by decide +kernel
theorem dX12_rests_51 : decode cX12_rests 51 = .ok (.ifCond .eq 33, 3) := by decide +kernel
theorem dX12_rests_54 : decode cX12_rests 54 = .ok (.iload 4, 2) := by decide +kernel
theorem dX12_rests_56 : decode cX12_rests 56 = .ok (.iload_n 3, 1) := by decide +kernel
theorem dX12_rests_57 : decode cX12_rests 57 = .ok (.iload_n 1, 1) := by decide +kernel
theorem dX12_rests_58 : decode cX12_rests 58 = .ok (.invokestatic 468, 3) := by decide +kernel
theorem dX12_rests_61 : decode cX12_rests 61 = .ok (.ifCond .eq 23, 3) := by decide +kernel
theorem dX12_rests_64 : decode cX12_rests 64 = .ok (.iload_n 2, 1) := by decide +kernel
theorem dX12_rests_81 : decode cX12_rests 81 = .ok (.iinc 2 1, 3) := by decide +kernel
theorem dX12_rests_65 : decode cX12_rests 65 = .ok (.ifCond .ne 16, 3) := by decide +kernel
theorem dX12_rests_68 : decode cX12_rests 68 = .ok (.aload_n 0, 1) := by decide +kernel
theorem dX12_rests_69 : decode cX12_rests 69 = .ok (.iload_n 3, 1) := by decide +kernel
theorem dX12_rests_70 : decode cX12_rests 70 = .ok (.i2l, 1) := by decide +kernel
theorem dX12_rests_71 : decode cX12_rests 71 = .ok (.invokevirtual 384, 3) := by decide +kernel
theorem dX12_rests_74 : decode cX12_rests 74 = .ok (.aload_n 0, 1) := by decide +kernel
theorem dX12_rests_75 : decode cX12_rests 75 = .ok (.iload 4, 2) := by decide +kernel
theorem dX12_rests_77 : decode cX12_rests 77 = .ok (.i2l, 1) := by decide +kernel
theorem dX12_rests_78 : decode cX12_rests 78 = .ok (.invokevirtual 384, 3) := by decide +kernel
theorem dX12_rests_90 : decode cX12_rests 90 = .ok (.iinc 3 1, 3) := by decide +kernel
theorem dX12_rests_93 : decode cX12_rests 93 = .ok (.goto (-65), 3) := by decide +kernel
theorem dX12_rests_96 : decode cX12_rests 96 = .ok (.iload_n 2, 1) := by decide +kernel
theorem dX12_rests_97 : decode cX12_rests 97 = .ok (.ireturn, 1) := by decide +kernel
theorem dX12_rests_17 : decode cX12_rests 17 = .ok (.iconst (-1), 1) := by decide +kernel
theorem dX12_rests_18 : decode cX12_rests 18 = .ok (.ireturn, 1) := by decide +kernel
theorem dX12_mark_0 : decode cX12_mark 0 = .ok (.aload_n 0, 1) := by decide +kernel
theorem dX12_mark_1 : decode cX12_mark 1 = .ok (.iconst 0, 1) := by decide +kernel
theorem dX12_mark_2 : decode cX12_mark 2 = .ok (.putfield 117, 3) := by decide +kernel
theorem dX12_mark_5 : decode cX12_mark 5 = .ok (.aload_n 0, 1) := by decide +kernel
theorem dX12_mark_6 : decode cX12_mark 6 = .ok (.iload_n 1, 1) := by decide +kernel
theorem dX12_mark_7 : decode cX12_mark 7 = .ok (.invokevirtual 271, 3) := by decide +kernel
theorem dX12_mark_10 : decode cX12_mark 10 = .ok (.ifCond .eq 36, 3) := by decide +kernel
theorem dX12_mark_46 : decode cX12_mark 46 = .ok (.iconst (-1), 1) := by decide +kernel
theorem dX12_mark_47 : decode cX12_mark 47 = .ok (.ireturn, 1) := by decide +kernel
theorem dX12_mark_13 : decode cX12_mark 13 = .ok (.iload_n 2, 1) := by decide +kernel
theorem dX12_mark_14 : decode cX12_mark 14 = .ok (.i2l, 1) := by decide +kernel
theorem dX12_mark_15 : decode cX12_mark 15 = .ok (.lconst 0, 1) := by decide +kernel
theorem dX12_mark_16 : decode cX12_mark 16 = .ok (.ldc2_w 471, 3) := by decide +kernel
theorem dX12_mark_19 : decode cX12_mark 19 = .ok (.invokestatic 131, 3) := by decide +kernel
theorem dX12_mark_22 : decode cX12_mark 22 = .ok (.ifCond .eq 24, 3) := by decide +kernel
theorem dX12_mark_25 : decode cX12_mark 25 = .ok (.iload_n 3, 1) := by decide +kernel
theorem dX12_mark_26 : decode cX12_mark 26 = .ok (.i2l, 1) := by decide +kernel
theorem dX12_mark_27 : decode cX12_mark 27 = .ok (.lconst 0, 1) := by decide +kernel
theorem dX12_mark_28 : decode cX12_mark 28 = .ok (.ldc2_w 318, 3) := by decide +kernel
theorem dX12_mark_31 : decode cX12_mark 31 = .ok (.invokestatic 131, 3) := by decide +kernel
theorem dX12_mark_34 : decode cX12_mark 34 = .ok (.ifCond .eq 12, 3) := by decide +kernel
theorem dX12_mark_37 : decode cX12_mark 37 = .ok (.aload_n 0, 1) := by decide +kernel
theorem dX12_mark_38 : decode cX12_mark 38 = .ok (.getfield 208, 3) := by decide +kernel
theorem dX12_mark_41 : decode cX12_mark 41 = .ok (.bipush 12, 2) := by decide +kernel
theorem dX12_mark_43 : decode cX12_mark 43 = .ok (.if_icmp .ne 5, 3) := by decide +kernel
theorem dX12_mark_48 : decode cX12_mark 48 = .ok (.aload_n 0, 1) := by decide +kernel
theorem dX12_mark_49 : decode cX12_mark 49 = .ok (.getfield 92, 3) := by decide +kernel
theorem dX12_mark_52 : decode cX12_mark 52 = .ok (.aload_n 0, 1) := by decide +kernel
theorem dX12_mark_53 : decode cX12_mark 53 = .ok (.getfield 208, 3) := by decide +kernel
theorem dX12_mark_56 : decode cX12_mark 56 = .ok (.iload_n 1, 1) := by decide +kernel
theorem dX12_mark_57 : decode cX12_mark 57 = .ok (.iastore, 1) := by decide +kernel
theorem dX12_mark_58 : decode cX12_mark 58 = .ok (.aload_n 0, 1) := by decide +kernel
theorem dX12_mark_59 : decode cX12_mark 59 = .ok (.getfield 95, 3) := by decide +kernel
theorem dX12_mark_62 : decode cX12_mark 62 = .ok (.aload_n 0, 1) := by decide +kernel
theorem dX12_mark_63 : decode cX12_mark 63 = .ok (.getfield 208, 3) := by decide +kernel
theorem dX12_mark_66 : decode cX12_mark 66 = .ok (.iload_n 2, 1) := by decide +kernel
theorem dX12_mark_67 : decode cX12_mark 67 = .ok (.iastore, 1) := by decide +kernel
theorem dX12_mark_68 : decode cX12_mark 68 = .ok (.aload_n 0, 1) := by decide +kernel
theorem dX12_mark_69 : decode cX12_mark 69 = .ok (.getfield 98, 3) := by decide +kernel
theorem dX12_mark_72 : decode cX12_mark 72 = .ok (.aload_n 0, 1) := by decide +kernel
theorem dX12_mark_73 : decode cX12_mark 73 = .ok (.getfield 208, 3) := by decide +kernel
theorem dX12_mark_76 : decode cX12_mark 76 = .ok (.iload_n 3, 1) := by decide +kernel
theorem dX12_mark_77 : decode cX12_mark 77 = .ok (.iastore, 1) := by decide +kernel
theorem dX12_mark_78 : decode cX12_mark 78 = .ok (.aload_n 0, 1) := by decide +kernel
theorem dX12_mark_79 : decode cX12_mark 79 = .ok (.dup, 1) := by decide +kernel
theorem dX12_mark_80 : decode cX12_mark 80 = .ok (.getfield 208, 3) := by decide +kernel
theorem dX12_mark_83 : decode cX12_mark 83 = .ok (.iconst 1, 1) := by decide +kernel
theorem dX12_mark_84 : decode cX12_mark 84 = .ok (.iadd, 1) := by decide +kernel
theorem dX12_mark_85 : decode cX12_mark 85 = .ok (.putfield 208, 3) := by decide +kernel
theorem dX12_mark_88 : decode cX12_mark 88 = .ok (.aload_n 0, 1) := by decide +kernel
theorem dX12_mark_89 : decode cX12_mark 89 = .ok (.getfield 208, 3) := by decide +kernel
theorem dX12_mark_92 : decode cX12_mark 92 = .ok (.ireturn, 1) := by decide +kernel
theorem dX12_wipe_0 : decode cX12_wipe 0 = .ok (.aload_n 0, 1) := by decide +kernel
theorem dX12_wipe_1 : decode cX12_wipe 1 = .ok (.iconst 0, 1) := by decide +kernel
theorem dX12_wipe_2 : decode cX12_wipe 2 = .ok (.putfield 117, 3) := by decide +kernel
theorem dX12_wipe_5 : decode cX12_wipe 5 = .ok (.aload_n 0, 1) := by decide +kernel
theorem dX12_wipe_6 : decode cX12_wipe 6 = .ok (.getfield 208, 3) := by decide +kernel
theorem dX12_wipe_9 : decode cX12_wipe 9 = .ok (.istore_n 1, 1) := by decide +kernel
theorem dX12_wipe_10 : decode cX12_wipe 10 = .ok (.aload_n 0, 1) := by decide +kernel
theorem dX12_wipe_11 : decode cX12_wipe 11 = .ok (.iconst 0, 1) := by decide +kernel
theorem dX12_wipe_12 : decode cX12_wipe 12 = .ok (.putfield 208, 3) := by decide +kernel
theorem dX12_wipe_15 : decode cX12_wipe 15 = .ok (.iload_n 1, 1) := by decide +kernel
theorem dX12_wipe_16 : decode cX12_wipe 16 = .ok (.ireturn, 1) := by decide +kernel
theorem dX12_fits_0 : decode cX12_fits 0 = .ok (.iconst 1, 1) := by decide +kernel
theorem dX12_fits_1 : decode cX12_fits 1 = .ok (.istore_n 3, 1) := by decide +kernel
theorem dX12_fits_2 : decode cX12_fits 2 = .ok (.iconst 0, 1) := by decide +kernel
theorem dX12_fits_3 : decode cX12_fits 3 = .ok (.istore 4, 2) := by decide +kernel
theorem dX12_fits_5 : decode cX12_fits 5 = .ok (.iload 4, 2) := by decide +kernel
theorem dX12_fits_7 : decode cX12_fits 7 = .ok (.aload_n 0, 1) := by decide +kernel
theorem dX12_fits_8 : decode cX12_fits 8 = .ok (.getfield 208, 3) := by decide +kernel
theorem dX12_fits_11 : decode cX12_fits 11 = .ok (.if_icmp .ge 93, 3) := by decide +kernel
theorem dX12_fits_14 : decode cX12_fits 14 = .ok (.aload_n 0, 1) := by decide +kernel
theorem dX12_fits_15 : decode cX12_fits 15 = .ok (.getfield 92, 3) := by decide +kernel
theorem dX12_fits_18 : decode cX12_fits 18 = .ok (.iload 4, 2) := by decide +kernel
theorem dX12_fits_20 : decode cX12_fits 20 = .ok (.iaload, 1) := by decide +kernel
theorem dX12_fits_21 : decode cX12_fits 21 = .ok (.iload_n 1, 1) := by decide +kernel
theorem dX12_fits_98 : decode cX12_fits 98 = .ok (.iinc 4 1, 3) := by decide +kernel
theorem dX12_fits_101 : decode cX12_fits 101 = .ok (.goto (-96), 3) := by decide +kernel
theorem dX12_fits_22 : decode cX12_fits 22 = .ok (.if_icmp .ne 76, 3) := by decide +kernel
theorem dX12_fits_25 : decode cX12_fits 25 = .ok (.aload_n 0, 1) := by decide +kernel
theorem dX12_fits_26 : decode cX12_fits 26 = .ok (.getfield 98, 3) := by decide +kernel
theorem dX12_fits_29 : decode cX12_fits 29 = .ok (.iload 4, 2) := by decide +kernel
theorem dX12_fits_31 : decode cX12_fits 31 = .ok (.iaload, 1) := by decide +kernel
theorem dX12_fits_32 : decode cX12_fits 32 = .ok (.istore 5, 2) := by decide +kernel
theorem dX12_fits_34 : decode cX12_fits 34 = .ok (.iload_n 3, 1) := by decide +kernel
theorem dX12_fits_97 : decode cX12_fits 97 = .ok (.istore_n 3, 1) := by decide +kernel
theorem dX12_fits_96 : decode cX12_fits 96 = .ok (.iconst 0, 1) := by decide +kernel
theorem dX12_fits_35 : decode cX12_fits 35 = .ok (.ifCond .eq 61, 3) := by decide +kernel
theorem dX12_fits_38 : decode cX12_fits 38 = .ok (.aload_n 0, 1) := by decide +kernel
theorem dX12_fits_39 : decode cX12_fits 39 = .ok (.getfield 95, 3) := by decide +kernel
theorem dX12_fits_42 : decode cX12_fits 42 = .ok (.iload 4, 2) := by decide +kernel
theorem dX12_fits_44 : decode cX12_fits 44 = .ok (.iaload, 1) := by decide +kernel
theorem dX12_fits_92 : decode cX12_fits 92 = .ok (.iconst 1, 1) := by decide +kernel
theorem dX12_fits_93 : decode cX12_fits 93 = .ok (.goto 4, 3) := by decide +kernel
theorem dX12_fits_45 : decode cX12_fits 45 = .ok (.ifCond .ne 17, 3) := by decide +kernel
theorem dX12_fits_62 : decode cX12_fits 62 = .ok (.aload_n 0, 1) := by decide +kernel
theorem dX12_fits_63 : decode cX12_fits 63 = .ok (.getfield 95, 3) := by decide +kernel
theorem dX12_fits_66 : decode cX12_fits 66 = .ok (.iload 4, 2) := by decide +kernel
theorem dX12_fits_68 : decode cX12_fits 68 = .ok (.iaload, 1) := by decide +kernel
theorem dX12_fits_69 : decode cX12_fits 69 = .ok (.iconst 1, 1) := by decide +kernel
theorem dX12_fits_70 : decode cX12_fits 70 = .ok (.if_icmp .ne 16, 3) := by decide +kernel
theorem dX12_fits_86 : decode cX12_fits 86 = .ok (.iload_n 2, 1) := by decide +kernel
theorem dX12_fits_87 : decode cX12_fits 87 = .ok (.iload 5, 2) := by decide +kernel
theorem dX12_fits_89 : decode cX12_fits 89 = .ok (.if_icmp .eq 7, 3) := by decide +kernel
theorem dX12_fits_73 : decode cX12_fits 73 = .ok (.aload_n 0, 1) := by decide +kernel
theorem dX12_fits_74 : decode cX12_fits 74 = .ok (.iload_n 2, 1) := by decide +kernel
theorem dX12_fits_75 : decode cX12_fits 75 = .ok (.invokevirtual 287, 3) := by decide +kernel
theorem dX12_fits_78 : decode cX12_fits 78 = .ok (.iload 5, 2) := by decide +kernel
theorem dX12_fits_80 : decode cX12_fits 80 = .ok (.if_icmp .gt 16, 3) := by decide +kernel
theorem dX12_fits_83 : decode cX12_fits 83 = .ok (.goto 9, 3) := by decide +kernel
theorem dX12_fits_48 : decode cX12_fits 48 = .ok (.aload_n 0, 1) := by decide +kernel
theorem dX12_fits_49 : decode cX12_fits 49 = .ok (.getfield 20, 3) := by decide +kernel
theorem dX12_fits_52 : decode cX12_fits 52 = .ok (.iload_n 2, 1) := by decide +kernel
theorem dX12_fits_53 : decode cX12_fits 53 = .ok (.iaload, 1) := by decide +kernel
theorem dX12_fits_54 : decode cX12_fits 54 = .ok (.iload 5, 2) := by decide +kernel
theorem dX12_fits_56 : decode cX12_fits 56 = .ok (.if_icmp .lt 40, 3) := by decide +kernel
theorem dX12_fits_59 : decode cX12_fits 59 = .ok (.goto 33, 3) := by decide +kernel
theorem dX12_fits_104 : decode cX12_fits 104 = .ok (.iload_n 3, 1) := by decide +kernel
theorem dX12_fits_105 : decode cX12_fits 105 = .ok (.ireturn, 1) := by decide +kernel
theorem dX12_lay_0 : decode cX12_lay 0 = .ok (.aload_n 0, 1) := by decide +kernel
theorem dX12_lay_1 : decode cX12_lay 1 = .ok (.iconst 0, 1) := by decide +kernel
theorem dX12_lay_2 : decode cX12_lay 2 = .ok (.putfield 117, 3) := by decide +kernel
theorem dX12_lay_5 : decode cX12_lay 5 = .ok (.aload_n 0, 1) := by decide +kernel
theorem dX12_lay_6 : decode cX12_lay 6 = .ok (.iload_n 1, 1) := by decide +kernel
theorem dX12_lay_7 : decode cX12_lay 7 = .ok (.invokevirtual 271, 3) := by decide +kernel
theorem dX12_lay_10 : decode cX12_lay 10 = .ok (.ifCond .ne 5, 3) := by decide +kernel
theorem dX12_lay_15 : decode cX12_lay 15 = .ok (.iconst 0, 1) := by decide +kernel
theorem dX12_lay_16 : decode cX12_lay 16 = .ok (.istore_n 2, 1) := by decide +kernel
theorem dX12_lay_17 : decode cX12_lay 17 = .ok (.iconst 0, 1) := by decide +kernel
theorem dX12_lay_18 : decode cX12_lay 18 = .ok (.istore_n 3, 1) := by decide +kernel
theorem dX12_lay_19 : decode cX12_lay 19 = .ok (.iload_n 3, 1) := by decide +kernel
theorem dX12_lay_20 : decode cX12_lay 20 = .ok (.aload_n 0, 1) := by decide +kernel
theorem dX12_lay_21 : decode cX12_lay 21 = .ok (.getfield 135, 3) := by decide +kernel
theorem dX12_lay_24 : decode cX12_lay 24 = .ok (.if_icmp .ge 28, 3) := by decide +kernel
theorem dX12_lay_27 : decode cX12_lay 27 = .ok (.iload_n 2, 1) := by decide +kernel
theorem dX12_lay_28 : decode cX12_lay 28 = .ok (.aload_n 0, 1) := by decide +kernel
theorem dX12_lay_29 : decode cX12_lay 29 = .ok (.iload_n 1, 1) := by decide +kernel
theorem dX12_lay_30 : decode cX12_lay 30 = .ok (.iload_n 3, 1) := by decide +kernel
theorem dX12_lay_31 : decode cX12_lay 31 = .ok (.invokevirtual 473, 3) := by decide +kernel
theorem dX12_lay_44 : decode cX12_lay 44 = .ok (.ior, 1) := by decide +kernel
theorem dX12_lay_45 : decode cX12_lay 45 = .ok (.istore_n 2, 1) := by decide +kernel
theorem dX12_lay_46 : decode cX12_lay 46 = .ok (.iinc 3 1, 3) := by decide +kernel
theorem dX12_lay_49 : decode cX12_lay 49 = .ok (.goto (-30), 3) := by decide +kernel
theorem dX12_lay_34 : decode cX12_lay 34 = .ok (.ifCond .eq 9, 3) := by decide +kernel
theorem dX12_lay_43 : decode cX12_lay 43 = .ok (.iconst 0, 1) := by decide +kernel
theorem dX12_lay_37 : decode cX12_lay 37 = .ok (.iconst 1, 1) := by decide +kernel
theorem dX12_lay_38 : decode cX12_lay 38 = .ok (.iload_n 3, 1) := by decide +kernel
theorem dX12_lay_39 : decode cX12_lay 39 = .ok (.ishl, 1) := by decide +kernel
theorem dX12_lay_40 : decode cX12_lay 40 = .ok (.goto 4, 3) := by decide +kernel
theorem dX12_lay_52 : decode cX12_lay 52 = .ok (.aload_n 0, 1) := by decide +kernel
theorem dX12_lay_53 : decode cX12_lay 53 = .ok (.iconst 0, 1) := by decide +kernel
theorem dX12_lay_54 : decode cX12_lay 54 = .ok (.putfield 125, 3) := by decide +kernel
theorem dX12_lay_57 : decode cX12_lay 57 = .ok (.aload_n 0, 1) := by decide +kernel
theorem dX12_lay_58 : decode cX12_lay 58 = .ok (.iload_n 2, 1) := by decide +kernel
theorem dX12_lay_59 : decode cX12_lay 59 = .ok (.invokestatic 425, 3) := by decide +kernel
theorem dX12_lay_62 : decode cX12_lay 62 = .ok (.i2l, 1) := by decide +kernel
theorem dX12_lay_63 : decode cX12_lay 63 = .ok (.invokevirtual 384, 3) := by decide +kernel
theorem dX12_lay_66 : decode cX12_lay 66 = .ok (.iload_n 2, 1) := by decide +kernel
theorem dX12_lay_67 : decode cX12_lay 67 = .ok (.ireturn, 1) := by decide +kernel
theorem dX12_lay_13 : decode cX12_lay 13 = .ok (.iconst (-1), 1) := by decide +kernel
theorem dX12_lay_14 : decode cX12_lay 14 = .ok (.ireturn, 1) := by decide +kernel
theorem dX12_markedRings_0 : decode cX12_markedRings 0 = .ok (.iconst 0, 1) := by decide +kernel
theorem dX12_markedRings_1 : decode cX12_markedRings 1 = .ok (.istore_n 1, 1) := by decide +kernel
theorem dX12_markedRings_2 : decode cX12_markedRings 2 = .ok (.iconst 0, 1) := by decide +kernel
theorem dX12_markedRings_3 : decode cX12_markedRings 3 = .ok (.istore_n 2, 1) := by decide +kernel
theorem dX12_markedRings_4 : decode cX12_markedRings 4 = .ok (.iload_n 2, 1) := by decide +kernel
theorem dX12_markedRings_5 : decode cX12_markedRings 5 = .ok (.aload_n 0, 1) := by decide +kernel
theorem dX12_markedRings_6 : decode cX12_markedRings 6 = .ok (.getfield 208, 3) := by decide +kernel
theorem dX12_markedRings_9 : decode cX12_markedRings 9 = .ok (.if_icmp .ge 20, 3) := by decide +kernel
theorem dX12_markedRings_12 : decode cX12_markedRings 12 = .ok (.iload_n 1, 1) := by decide +kernel
theorem dX12_markedRings_13 : decode cX12_markedRings 13 = .ok (.iconst 1, 1) := by decide +kernel
theorem dX12_markedRings_14 : decode cX12_markedRings 14 = .ok (.aload_n 0, 1) := by decide +kernel
theorem dX12_markedRings_15 : decode cX12_markedRings 15 = .ok (.getfield 92, 3) := by decide +kernel
theorem dX12_markedRings_18 : decode cX12_markedRings 18 = .ok (.iload_n 2, 1) := by decide +kernel
theorem dX12_markedRings_19 : decode cX12_markedRings 19 = .ok (.iaload, 1) := by decide +kernel
theorem dX12_markedRings_20 : decode cX12_markedRings 20 = .ok (.ishl, 1) := by decide +kernel
theorem dX12_markedRings_21 : decode cX12_markedRings 21 = .ok (.ior, 1) := by decide +kernel
theorem dX12_markedRings_22 : decode cX12_markedRings 22 = .ok (.istore_n 1, 1) := by decide +kernel
theorem dX12_markedRings_23 : decode cX12_markedRings 23 = .ok (.iinc 2 1, 3) := by decide +kernel
theorem dX12_markedRings_26 : decode cX12_markedRings 26 = .ok (.goto (-22), 3) := by decide +kernel
theorem dX12_markedRings_29 : decode cX12_markedRings 29 = .ok (.iload_n 1, 1) := by decide +kernel
theorem dX12_markedRings_30 : decode cX12_markedRings 30 = .ok (.ireturn, 1) := by decide +kernel
theorem dX12_laysFrom_0 : decode cX12_laysFrom 0 = .ok (.iload_n 2, 1) := by decide +kernel
theorem dX12_laysFrom_1 : decode cX12_laysFrom 1 = .ok (.aload_n 0, 1) := by decide +kernel
theorem dX12_laysFrom_2 : decode cX12_laysFrom 2 = .ok (.getfield 128, 3) := by decide +kernel
theorem dX12_laysFrom_5 : decode cX12_laysFrom 5 = .ok (.if_icmp .ne 99, 3) := by decide +kernel
theorem dX12_laysFrom_104 : decode cX12_laysFrom 104 = .ok (.iload_n 1, 1) := by decide +kernel
theorem dX12_laysFrom_105 : decode cX12_laysFrom 105 = .ok (.iload_n 2, 1) := by decide +kernel
theorem dX12_laysFrom_106 : decode cX12_laysFrom 106 = .ok (.invokestatic 415, 3) := by decide +kernel
theorem dX12_laysFrom_109 : decode cX12_laysFrom 109 = .ok (.ifCond .ne 13, 3) := by decide +kernel
theorem dX12_laysFrom_122 : decode cX12_laysFrom 122 = .ok (.iconst 0, 1) := by decide +kernel
theorem dX12_laysFrom_123 : decode cX12_laysFrom 123 = .ok (.istore 4, 2) := by decide +kernel
theorem dX12_laysFrom_125 : decode cX12_laysFrom 125 = .ok (.iload 4, 2) := by decide +kernel
theorem dX12_laysFrom_127 : decode cX12_laysFrom 127 = .ok (.aload_n 0, 1) := by decide +kernel
theorem dX12_laysFrom_128 : decode cX12_laysFrom 128 = .ok (.getfield 135, 3) := by decide +kernel
theorem dX12_laysFrom_131 : decode cX12_laysFrom 131 = .ok (.if_icmp .ge 50, 3) := by decide +kernel
theorem dX12_laysFrom_134 : decode cX12_laysFrom 134 = .ok (.iload_n 3, 1) := by decide +kernel
theorem dX12_laysFrom_135 : decode cX12_laysFrom 135 = .ok (.iload 4, 2) := by decide +kernel
theorem dX12_laysFrom_137 : decode cX12_laysFrom 137 = .ok (.invokestatic 415, 3) := by decide +kernel
theorem dX12_laysFrom_175 : decode cX12_laysFrom 175 = .ok (.iinc 4 1, 3) := by decide +kernel
theorem dX12_laysFrom_178 : decode cX12_laysFrom 178 = .ok (.goto (-53), 3) := by decide +kernel
theorem dX12_laysFrom_140 : decode cX12_laysFrom 140 = .ok (.ifCond .ne 35, 3) := by decide +kernel
theorem dX12_laysFrom_143 : decode cX12_laysFrom 143 = .ok (.aload_n 0, 1) := by decide +kernel
theorem dX12_laysFrom_144 : decode cX12_laysFrom 144 = .ok (.iload_n 2, 1) := by decide +kernel
theorem dX12_laysFrom_145 : decode cX12_laysFrom 145 = .ok (.iload 4, 2) := by decide +kernel
theorem dX12_laysFrom_147 : decode cX12_laysFrom 147 = .ok (.invokevirtual 473, 3) := by decide +kernel
theorem dX12_laysFrom_150 : decode cX12_laysFrom 150 = .ok (.ifCond .eq 25, 3) := by decide +kernel
theorem dX12_laysFrom_153 : decode cX12_laysFrom 153 = .ok (.aload_n 0, 1) := by decide +kernel
theorem dX12_laysFrom_154 : decode cX12_laysFrom 154 = .ok (.getfield 101, 3) := by decide +kernel
theorem dX12_laysFrom_157 : decode cX12_laysFrom 157 = .ok (.iload_n 2, 1) := by decide +kernel
theorem dX12_laysFrom_158 : decode cX12_laysFrom 158 = .ok (.iload 4, 2) := by decide +kernel
theorem dX12_laysFrom_160 : decode cX12_laysFrom 160 = .ok (.iastore, 1) := by decide +kernel
theorem dX12_laysFrom_161 : decode cX12_laysFrom 161 = .ok (.aload_n 0, 1) := by decide +kernel
theorem dX12_laysFrom_162 : decode cX12_laysFrom 162 = .ok (.iload_n 1, 1) := by decide +kernel
theorem dX12_laysFrom_163 : decode cX12_laysFrom 163 = .ok (.iload_n 2, 1) := by decide +kernel
theorem dX12_laysFrom_164 : decode cX12_laysFrom 164 = .ok (.iconst 1, 1) := by decide +kernel
theorem dX12_laysFrom_165 : decode cX12_laysFrom 165 = .ok (.iadd, 1) := by decide +kernel
theorem dX12_laysFrom_166 : decode cX12_laysFrom 166 = .ok (.iload_n 3, 1) := by decide +kernel
theorem dX12_laysFrom_167 : decode cX12_laysFrom 167 = .ok (.iconst 1, 1) := by decide +kernel
theorem dX12_laysFrom_168 : decode cX12_laysFrom 168 = .ok (.iload 4, 2) := by decide +kernel
theorem dX12_laysFrom_170 : decode cX12_laysFrom 170 = .ok (.ishl, 1) := by decide +kernel
theorem dX12_laysFrom_171 : decode cX12_laysFrom 171 = .ok (.ior, 1) := by decide +kernel
theorem dX12_laysFrom_172 : decode cX12_laysFrom 172 = .ok (.invokevirtual 482, 3) := by decide +kernel
theorem dX12_laysFrom_181 : decode cX12_laysFrom 181 = .ok (.return_, 1) := by decide +kernel
theorem dX12_laysFrom_112 : decode cX12_laysFrom 112 = .ok (.aload_n 0, 1) := by decide +kernel
theorem dX12_laysFrom_113 : decode cX12_laysFrom 113 = .ok (.iload_n 1, 1) := by decide +kernel
theorem dX12_laysFrom_114 : decode cX12_laysFrom 114 = .ok (.iload_n 2, 1) := by decide +kernel
theorem dX12_laysFrom_115 : decode cX12_laysFrom 115 = .ok (.iconst 1, 1) := by decide +kernel
theorem dX12_laysFrom_116 : decode cX12_laysFrom 116 = .ok (.iadd, 1) := by decide +kernel
theorem dX12_laysFrom_117 : decode cX12_laysFrom 117 = .ok (.iload_n 3, 1) := by decide +kernel
theorem dX12_laysFrom_118 : decode cX12_laysFrom 118 = .ok (.invokevirtual 482, 3) := by decide +kernel
theorem dX12_laysFrom_121 : decode cX12_laysFrom 121 = .ok (.return_, 1) := by decide +kernel
theorem dX12_laysFrom_8 : decode cX12_laysFrom 8 = .ok (.iconst 0, 1) := by decide +kernel
theorem dX12_laysFrom_9 : decode cX12_laysFrom 9 = .ok (.istore 4, 2) := by decide +kernel
theorem dX12_laysFrom_11 : decode cX12_laysFrom 11 = .ok (.iload 4, 2) := by decide +kernel
theorem dX12_laysFrom_13 : decode cX12_laysFrom 13 = .ok (.aload_n 0, 1) := by decide +kernel
theorem dX12_laysFrom_14 : decode cX12_laysFrom 14 = .ok (.getfield 128, 3) := by decide +kernel
theorem dX12_laysFrom_17 : decode cX12_laysFrom 17 = .ok (.if_icmp .ge 76, 3) := by decide +kernel
theorem dX12_laysFrom_20 : decode cX12_laysFrom 20 = .ok (.aload_n 0, 1) := by decide +kernel
theorem dX12_laysFrom_21 : decode cX12_laysFrom 21 = .ok (.getfield 104, 3) := by decide +kernel
theorem dX12_laysFrom_24 : decode cX12_laysFrom 24 = .ok (.iload 4, 2) := by decide +kernel
theorem dX12_laysFrom_26 : decode cX12_laysFrom 26 = .ok (.aload_n 0, 1) := by decide +kernel
theorem dX12_laysFrom_27 : decode cX12_laysFrom 27 = .ok (.getfield 476, 3) := by decide +kernel
theorem dX12_laysFrom_50 : decode cX12_laysFrom 50 = .ok (.iastore, 1) := by decide +kernel
theorem dX12_laysFrom_51 : decode cX12_laysFrom 51 = .ok (.aload_n 0, 1) := by decide +kernel
theorem dX12_laysFrom_52 : decode cX12_laysFrom 52 = .ok (.dup, 1) := by decide +kernel
theorem dX12_laysFrom_53 : decode cX12_laysFrom 53 = .ok (.getfield 479, 3) := by decide +kernel
theorem dX12_laysFrom_56 : decode cX12_laysFrom 56 = .ok (.aload_n 0, 1) := by decide +kernel
theorem dX12_laysFrom_57 : decode cX12_laysFrom 57 = .ok (.getfield 104, 3) := by decide +kernel
theorem dX12_laysFrom_60 : decode cX12_laysFrom 60 = .ok (.iload 4, 2) := by decide +kernel
theorem dX12_laysFrom_62 : decode cX12_laysFrom 62 = .ok (.iaload, 1) := by decide +kernel
theorem dX12_laysFrom_63 : decode cX12_laysFrom 63 = .ok (.aload_n 0, 1) := by decide +kernel
theorem dX12_laysFrom_64 : decode cX12_laysFrom 64 = .ok (.getfield 101, 3) := by decide +kernel
theorem dX12_laysFrom_67 : decode cX12_laysFrom 67 = .ok (.iload 4, 2) := by decide +kernel
theorem dX12_laysFrom_69 : decode cX12_laysFrom 69 = .ok (.iaload, 1) := by decide +kernel
theorem dX12_laysFrom_83 : decode cX12_laysFrom 83 = .ok (.iand, 1) := by decide +kernel
theorem dX12_laysFrom_84 : decode cX12_laysFrom 84 = .ok (.putfield 479, 3) := by decide +kernel
theorem dX12_laysFrom_87 : decode cX12_laysFrom 87 = .ok (.iinc 4 1, 3) := by decide +kernel
theorem dX12_laysFrom_90 : decode cX12_laysFrom 90 = .ok (.goto (-79), 3) := by decide +kernel
theorem dX12_laysFrom_70 : decode cX12_laysFrom 70 = .ok (.if_icmp .ne 7, 3) := by decide +kernel
theorem dX12_laysFrom_77 : decode cX12_laysFrom 77 = .ok (.iconst 1, 1) := by decide +kernel
theorem dX12_laysFrom_78 : decode cX12_laysFrom 78 = .ok (.iload 4, 2) := by decide +kernel
theorem dX12_laysFrom_80 : decode cX12_laysFrom 80 = .ok (.ishl, 1) := by decide +kernel
theorem dX12_laysFrom_81 : decode cX12_laysFrom 81 = .ok (.iconst (-1), 1) := by decide +kernel
theorem dX12_laysFrom_82 : decode cX12_laysFrom 82 = .ok (.ixor, 1) := by decide +kernel
theorem dX12_laysFrom_73 : decode cX12_laysFrom 73 = .ok (.iconst (-1), 1) := by decide +kernel
theorem dX12_laysFrom_74 : decode cX12_laysFrom 74 = .ok (.goto 9, 3) := by decide +kernel
theorem dX12_laysFrom_30 : decode cX12_laysFrom 30 = .ok (.ifCond .ne 13, 3) := by decide +kernel
theorem dX12_laysFrom_43 : decode cX12_laysFrom 43 = .ok (.aload_n 0, 1) := by decide +kernel
theorem dX12_laysFrom_44 : decode cX12_laysFrom 44 = .ok (.getfield 104, 3) := by decide +kernel
theorem dX12_laysFrom_47 : decode cX12_laysFrom 47 = .ok (.iload 4, 2) := by decide +kernel
theorem dX12_laysFrom_49 : decode cX12_laysFrom 49 = .ok (.iaload, 1) := by decide +kernel
theorem dX12_laysFrom_33 : decode cX12_laysFrom 33 = .ok (.aload_n 0, 1) := by decide +kernel
theorem dX12_laysFrom_34 : decode cX12_laysFrom 34 = .ok (.getfield 101, 3) := by decide +kernel
theorem dX12_laysFrom_37 : decode cX12_laysFrom 37 = .ok (.iload 4, 2) := by decide +kernel
theorem dX12_laysFrom_39 : decode cX12_laysFrom 39 = .ok (.iaload, 1) := by decide +kernel
theorem dX12_laysFrom_40 : decode cX12_laysFrom 40 = .ok (.goto 10, 3) := by decide +kernel
theorem dX12_laysFrom_93 : decode cX12_laysFrom 93 = .ok (.aload_n 0, 1) := by decide +kernel
theorem dX12_laysFrom_94 : decode cX12_laysFrom 94 = .ok (.dup, 1) := by decide +kernel
theorem dX12_laysFrom_95 : decode cX12_laysFrom 95 = .ok (.getfield 476, 3) := by decide +kernel
theorem dX12_laysFrom_98 : decode cX12_laysFrom 98 = .ok (.iconst 1, 1) := by decide +kernel
theorem dX12_laysFrom_99 : decode cX12_laysFrom 99 = .ok (.iadd, 1) := by decide +kernel
theorem dX12_laysFrom_100 : decode cX12_laysFrom 100 = .ok (.putfield 476, 3) := by decide +kernel
theorem dX12_laysFrom_103 : decode cX12_laysFrom 103 = .ok (.return_, 1) := by decide +kernel
theorem dX12_laysWays_0 : decode cX12_laysWays 0 = .ok (.aload_n 0, 1) := by decide +kernel
theorem dX12_laysWays_1 : decode cX12_laysWays 1 = .ok (.iconst 0, 1) := by decide +kernel
theorem dX12_laysWays_2 : decode cX12_laysWays 2 = .ok (.putfield 476, 3) := by decide +kernel
theorem dX12_laysWays_5 : decode cX12_laysWays 5 = .ok (.aload_n 0, 1) := by decide +kernel
theorem dX12_laysWays_6 : decode cX12_laysWays 6 = .ok (.aload_n 0, 1) := by decide +kernel
theorem dX12_laysWays_7 : decode cX12_laysWays 7 = .ok (.invokevirtual 486, 3) := by decide +kernel
theorem dX12_laysWays_10 : decode cX12_laysWays 10 = .ok (.putfield 479, 3) := by decide +kernel
theorem dX12_laysWays_13 : decode cX12_laysWays 13 = .ok (.aload_n 0, 1) := by decide +kernel
theorem dX12_laysWays_14 : decode cX12_laysWays 14 = .ok (.aload_n 0, 1) := by decide +kernel
theorem dX12_laysWays_15 : decode cX12_laysWays 15 = .ok (.getfield 479, 3) := by decide +kernel
theorem dX12_laysWays_18 : decode cX12_laysWays 18 = .ok (.iconst 0, 1) := by decide +kernel
theorem dX12_laysWays_19 : decode cX12_laysWays 19 = .ok (.iconst 0, 1) := by decide +kernel
theorem dX12_laysWays_20 : decode cX12_laysWays 20 = .ok (.invokevirtual 482, 3) := by decide +kernel
theorem dX12_laysWays_23 : decode cX12_laysWays 23 = .ok (.return_, 1) := by decide +kernel
theorem dX12_tellsLain_0 : decode cX12_tellsLain 0 = .ok (.aload_n 0, 1) := by decide +kernel
theorem dX12_tellsLain_1 : decode cX12_tellsLain 1 = .ok (.iconst 0, 1) := by decide +kernel
theorem dX12_tellsLain_2 : decode cX12_tellsLain 2 = .ok (.putfield 125, 3) := by decide +kernel
theorem dX12_tellsLain_5 : decode cX12_tellsLain 5 = .ok (.iconst 0, 1) := by decide +kernel
theorem dX12_tellsLain_6 : decode cX12_tellsLain 6 = .ok (.istore_n 2, 1) := by decide +kernel
theorem dX12_tellsLain_7 : decode cX12_tellsLain 7 = .ok (.iload_n 2, 1) := by decide +kernel
theorem dX12_tellsLain_8 : decode cX12_tellsLain 8 = .ok (.aload_n 0, 1) := by decide +kernel
theorem dX12_tellsLain_9 : decode cX12_tellsLain 9 = .ok (.getfield 128, 3) := by decide +kernel
theorem dX12_tellsLain_12 : decode cX12_tellsLain 12 = .ok (.if_icmp .ge 35, 3) := by decide +kernel
theorem dX12_tellsLain_15 : decode cX12_tellsLain 15 = .ok (.iload_n 1, 1) := by decide +kernel
theorem dX12_tellsLain_16 : decode cX12_tellsLain 16 = .ok (.iload_n 2, 1) := by decide +kernel
theorem dX12_tellsLain_17 : decode cX12_tellsLain 17 = .ok (.invokestatic 415, 3) := by decide +kernel
theorem dX12_tellsLain_41 : decode cX12_tellsLain 41 = .ok (.iinc 2 1, 3) := by decide +kernel
theorem dX12_tellsLain_44 : decode cX12_tellsLain 44 = .ok (.goto (-37), 3) := by decide +kernel
theorem dX12_tellsLain_20 : decode cX12_tellsLain 20 = .ok (.ifCond .eq 21, 3) := by decide +kernel
theorem dX12_tellsLain_23 : decode cX12_tellsLain 23 = .ok (.aload_n 0, 1) := by decide +kernel
theorem dX12_tellsLain_24 : decode cX12_tellsLain 24 = .ok (.getfield 476, 3) := by decide +kernel
theorem dX12_tellsLain_27 : decode cX12_tellsLain 27 = .ok (.ifCond .le 14, 3) := by decide +kernel
theorem dX12_tellsLain_30 : decode cX12_tellsLain 30 = .ok (.aload_n 0, 1) := by decide +kernel
theorem dX12_tellsLain_31 : decode cX12_tellsLain 31 = .ok (.aload_n 0, 1) := by decide +kernel
theorem dX12_tellsLain_32 : decode cX12_tellsLain 32 = .ok (.getfield 104, 3) := by decide +kernel
theorem dX12_tellsLain_35 : decode cX12_tellsLain 35 = .ok (.iload_n 2, 1) := by decide +kernel
theorem dX12_tellsLain_36 : decode cX12_tellsLain 36 = .ok (.iaload, 1) := by decide +kernel
theorem dX12_tellsLain_37 : decode cX12_tellsLain 37 = .ok (.i2l, 1) := by decide +kernel
theorem dX12_tellsLain_38 : decode cX12_tellsLain 38 = .ok (.invokevirtual 384, 3) := by decide +kernel
theorem dX12_tellsLain_47 : decode cX12_tellsLain 47 = .ok (.return_, 1) := by decide +kernel
theorem dX12_ways_0 : decode cX12_ways 0 = .ok (.aload_n 0, 1) := by decide +kernel
theorem dX12_ways_1 : decode cX12_ways 1 = .ok (.iconst 0, 1) := by decide +kernel
theorem dX12_ways_2 : decode cX12_ways 2 = .ok (.putfield 117, 3) := by decide +kernel
theorem dX12_ways_5 : decode cX12_ways 5 = .ok (.aload_n 0, 1) := by decide +kernel
theorem dX12_ways_6 : decode cX12_ways 6 = .ok (.invokevirtual 489, 3) := by decide +kernel
theorem dX12_ways_9 : decode cX12_ways 9 = .ok (.aload_n 0, 1) := by decide +kernel
theorem dX12_ways_10 : decode cX12_ways 10 = .ok (.aload_n 0, 1) := by decide +kernel
theorem dX12_ways_11 : decode cX12_ways 11 = .ok (.invokevirtual 486, 3) := by decide +kernel
theorem dX12_ways_14 : decode cX12_ways 14 = .ok (.invokevirtual 492, 3) := by decide +kernel
theorem dX12_ways_17 : decode cX12_ways 17 = .ok (.aload_n 0, 1) := by decide +kernel
theorem dX12_ways_18 : decode cX12_ways 18 = .ok (.getfield 476, 3) := by decide +kernel
theorem dX12_ways_21 : decode cX12_ways 21 = .ok (.ireturn, 1) := by decide +kernel
theorem dX12_sure_0 : decode cX12_sure 0 = .ok (.aload_n 0, 1) := by decide +kernel
theorem dX12_sure_1 : decode cX12_sure 1 = .ok (.iconst 0, 1) := by decide +kernel
theorem dX12_sure_2 : decode cX12_sure 2 = .ok (.putfield 117, 3) := by decide +kernel
theorem dX12_sure_5 : decode cX12_sure 5 = .ok (.aload_n 0, 1) := by decide +kernel
theorem dX12_sure_6 : decode cX12_sure 6 = .ok (.invokevirtual 489, 3) := by decide +kernel
theorem dX12_sure_9 : decode cX12_sure 9 = .ok (.aload_n 0, 1) := by decide +kernel
theorem dX12_sure_10 : decode cX12_sure 10 = .ok (.aload_n 0, 1) := by decide +kernel
theorem dX12_sure_11 : decode cX12_sure 11 = .ok (.getfield 479, 3) := by decide +kernel
theorem dX12_sure_14 : decode cX12_sure 14 = .ok (.invokevirtual 492, 3) := by decide +kernel
theorem dX12_sure_17 : decode cX12_sure 17 = .ok (.aload_n 0, 1) := by decide +kernel
theorem dX12_sure_18 : decode cX12_sure 18 = .ok (.getfield 476, 3) := by decide +kernel
theorem dX12_sure_21 : decode cX12_sure 21 = .ok (.ifCond .le 10, 3) := by decide +kernel
theorem dX12_sure_31 : decode cX12_sure 31 = .ok (.iconst 0, 1) := by decide +kernel
theorem dX12_sure_32 : decode cX12_sure 32 = .ok (.ireturn, 1) := by decide +kernel
theorem dX12_sure_24 : decode cX12_sure 24 = .ok (.aload_n 0, 1) := by decide +kernel
theorem dX12_sure_25 : decode cX12_sure 25 = .ok (.getfield 479, 3) := by decide +kernel
theorem dX12_sure_28 : decode cX12_sure 28 = .ok (.goto 4, 3) := by decide +kernel
theorem dX12_bets_0 : decode cX12_bets 0 = .ok (.aload_n 0, 1) := by decide +kernel
theorem dX12_bets_1 : decode cX12_bets 1 = .ok (.lconst 0, 1) := by decide +kernel
theorem dX12_bets_2 : decode cX12_bets 2 = .ok (.putfield 495, 3) := by decide +kernel
theorem dX12_bets_5 : decode cX12_bets 5 = .ok (.aload_n 0, 1) := by decide +kernel
theorem dX12_bets_6 : decode cX12_bets 6 = .ok (.lconst 1, 1) := by decide +kernel
theorem dX12_bets_7 : decode cX12_bets 7 = .ok (.putfield 499, 3) := by decide +kernel
theorem dX12_bets_10 : decode cX12_bets 10 = .ok (.iconst 0, 1) := by decide +kernel
theorem dX12_bets_11 : decode cX12_bets 11 = .ok (.istore 5, 2) := by decide +kernel
theorem dX12_bets_13 : decode cX12_bets 13 = .ok (.iload 5, 2) := by decide +kernel
theorem dX12_bets_15 : decode cX12_bets 15 = .ok (.iload_n 2, 1) := by decide +kernel
theorem dX12_bets_16 : decode cX12_bets 16 = .ok (.if_icmp .ge 21, 3) := by decide +kernel
theorem dX12_bets_19 : decode cX12_bets 19 = .ok (.aload_n 0, 1) := by decide +kernel
theorem dX12_bets_20 : decode cX12_bets 20 = .ok (.dup, 1) := by decide +kernel
theorem dX12_bets_21 : decode cX12_bets 21 = .ok (.getfield 499, 3) := by decide +kernel
theorem dX12_bets_24 : decode cX12_bets 24 = .ok (.ldc2_w 502, 3) := by decide +kernel
theorem dX12_bets_27 : decode cX12_bets 27 = .ok (.lmul, 1) := by decide +kernel
theorem dX12_bets_28 : decode cX12_bets 28 = .ok (.putfield 499, 3) := by decide +kernel
theorem dX12_bets_31 : decode cX12_bets 31 = .ok (.iinc 5 1, 3) := by decide +kernel
theorem dX12_bets_34 : decode cX12_bets 34 = .ok (.goto (-21), 3) := by decide +kernel
theorem dX12_bets_37 : decode cX12_bets 37 = .ok (.iconst 0, 1) := by decide +kernel
theorem dX12_bets_38 : decode cX12_bets 38 = .ok (.istore 5, 2) := by decide +kernel
theorem dX12_bets_40 : decode cX12_bets 40 = .ok (.iload 5, 2) := by decide +kernel
theorem dX12_bets_42 : decode cX12_bets 42 = .ok (.iconst 1, 1) := by decide +kernel
theorem dX12_bets_43 : decode cX12_bets 43 = .ok (.iload_n 2, 1) := by decide +kernel
theorem dX12_bets_44 : decode cX12_bets 44 = .ok (.ishl, 1) := by decide +kernel
theorem dX12_bets_45 : decode cX12_bets 45 = .ok (.if_icmp .ge 171, 3) := by decide +kernel
theorem dX12_bets_48 : decode cX12_bets 48 = .ok (.iconst 0, 1) := by decide +kernel
theorem dX12_bets_49 : decode cX12_bets 49 = .ok (.istore 6, 2) := by decide +kernel
theorem dX12_bets_51 : decode cX12_bets 51 = .ok (.iload 6, 2) := by decide +kernel
theorem dX12_bets_53 : decode cX12_bets 53 = .ok (.bipush 43, 2) := by decide +kernel
theorem dX12_bets_55 : decode cX12_bets 55 = .ok (.if_icmp .ge 23, 3) := by decide +kernel
theorem dX12_bets_58 : decode cX12_bets 58 = .ok (.aload_n 0, 1) := by decide +kernel
theorem dX12_bets_59 : decode cX12_bets 59 = .ok (.getfield 80, 3) := by decide +kernel
theorem dX12_bets_62 : decode cX12_bets 62 = .ok (.iload 6, 2) := by decide +kernel
theorem dX12_bets_64 : decode cX12_bets 64 = .ok (.aload_n 0, 1) := by decide +kernel
theorem dX12_bets_65 : decode cX12_bets 65 = .ok (.getfield 32, 3) := by decide +kernel
theorem dX12_bets_68 : decode cX12_bets 68 = .ok (.iload 6, 2) := by decide +kernel
theorem dX12_bets_70 : decode cX12_bets 70 = .ok (.iaload, 1) := by decide +kernel
theorem dX12_bets_71 : decode cX12_bets 71 = .ok (.iastore, 1) := by decide +kernel
theorem dX12_bets_72 : decode cX12_bets 72 = .ok (.iinc 6 1, 3) := by decide +kernel
theorem dX12_bets_75 : decode cX12_bets 75 = .ok (.goto (-24), 3) := by decide +kernel
theorem dX12_bets_78 : decode cX12_bets 78 = .ok (.lconst 1, 1) := by decide +kernel
theorem dX12_bets_79 : decode cX12_bets 79 = .ok (.lstore 6, 2) := by decide +kernel
theorem dX12_bets_81 : decode cX12_bets 81 = .ok (.iconst 0, 1) := by decide +kernel
theorem dX12_bets_82 : decode cX12_bets 82 = .ok (.istore 8, 2) := by decide +kernel
theorem dX12_bets_84 : decode cX12_bets 84 = .ok (.iload 8, 2) := by decide +kernel
theorem dX12_bets_86 : decode cX12_bets 86 = .ok (.iload_n 2, 1) := by decide +kernel
theorem dX12_bets_87 : decode cX12_bets 87 = .ok (.if_icmp .ge 95, 3) := by decide +kernel
theorem dX12_bets_90 : decode cX12_bets 90 = .ok (.iload 5, 2) := by decide +kernel
theorem dX12_bets_92 : decode cX12_bets 92 = .ok (.iload 8, 2) := by decide +kernel
theorem dX12_bets_94 : decode cX12_bets 94 = .ok (.invokestatic 415, 3) := by decide +kernel
theorem dX12_bets_97 : decode cX12_bets 97 = .ok (.istore 9, 2) := by decide +kernel
theorem dX12_bets_99 : decode cX12_bets 99 = .ok (.lload 6, 2) := by decide +kernel
theorem dX12_bets_101 : decode cX12_bets 101 = .ok (.iload 9, 2) := by decide +kernel
theorem dX12_bets_116 : decode cX12_bets 116 = .ok (.lmul, 1) := by decide +kernel
theorem dX12_bets_117 : decode cX12_bets 117 = .ok (.lstore 6, 2) := by decide +kernel
theorem dX12_bets_119 : decode cX12_bets 119 = .ok (.iload 9, 2) := by decide +kernel
theorem dX12_bets_150 : decode cX12_bets 150 = .ok (.istore 10, 2) := by decide +kernel
theorem dX12_bets_152 : decode cX12_bets 152 = .ok (.iload 10, 2) := by decide +kernel
theorem dX12_bets_163 : decode cX12_bets 163 = .ok (.lstore 6, 2) := by decide +kernel
theorem dX12_bets_165 : decode cX12_bets 165 = .ok (.aload_n 0, 1) := by decide +kernel
theorem dX12_bets_166 : decode cX12_bets 166 = .ok (.getfield 80, 3) := by decide +kernel
theorem dX12_bets_169 : decode cX12_bets 169 = .ok (.bipush 42, 2) := by decide +kernel
theorem dX12_bets_171 : decode cX12_bets 171 = .ok (.dup2, 1) := by decide +kernel
theorem dX12_bets_172 : decode cX12_bets 172 = .ok (.iaload, 1) := by decide +kernel
theorem dX12_bets_173 : decode cX12_bets 173 = .ok (.iconst 1, 1) := by decide +kernel
theorem dX12_bets_174 : decode cX12_bets 174 = .ok (.iadd, 1) := by decide +kernel
theorem dX12_bets_175 : decode cX12_bets 175 = .ok (.iastore, 1) := by decide +kernel
theorem dX12_bets_176 : decode cX12_bets 176 = .ok (.iinc 8 1, 3) := by decide +kernel
theorem dX12_bets_179 : decode cX12_bets 179 = .ok (.goto (-95), 3) := by decide +kernel
theorem dX12_bets_154 : decode cX12_bets 154 = .ok (.ifCond .eq 8, 3) := by decide +kernel
theorem dX12_bets_162 : decode cX12_bets 162 = .ok (.lconst 0, 1) := by decide +kernel
theorem dX12_bets_157 : decode cX12_bets 157 = .ok (.lload 6, 2) := by decide +kernel
theorem dX12_bets_159 : decode cX12_bets 159 = .ok (.goto 4, 3) := by decide +kernel
theorem dX12_bets_145 : decode cX12_bets 145 = .ok (.iconst 1, 1) := by decide +kernel
theorem dX12_bets_146 : decode cX12_bets 146 = .ok (.goto 4, 3) := by decide +kernel
theorem dX12_bets_121 : decode cX12_bets 121 = .ok (.ifCond .eq 24, 3) := by decide +kernel
theorem dX12_bets_124 : decode cX12_bets 124 = .ok (.aload_n 0, 1) := by decide +kernel
theorem dX12_bets_125 : decode cX12_bets 125 = .ok (.aload_n 0, 1) := by decide +kernel
theorem dX12_bets_126 : decode cX12_bets 126 = .ok (.getfield 80, 3) := by decide +kernel
theorem dX12_bets_129 : decode cX12_bets 129 = .ok (.iload_n 1, 1) := by decide +kernel
theorem dX12_bets_130 : decode cX12_bets 130 = .ok (.aload_n 0, 1) := by decide +kernel
theorem dX12_bets_131 : decode cX12_bets 131 = .ok (.aload_n 0, 1) := by decide +kernel
theorem dX12_bets_132 : decode cX12_bets 132 = .ok (.getfield 80, 3) := by decide +kernel
theorem dX12_bets_135 : decode cX12_bets 135 = .ok (.iload_n 1, 1) := by decide +kernel
theorem dX12_bets_136 : decode cX12_bets 136 = .ok (.invokevirtual 290, 3) := by decide +kernel
theorem dX12_bets_139 : decode cX12_bets 139 = .ok (.invokevirtual 343, 3) := by decide +kernel
theorem dX12_bets_142 : decode cX12_bets 142 = .ok (.ifCond .eq 7, 3) := by decide +kernel
theorem dX12_bets_149 : decode cX12_bets 149 = .ok (.iconst 0, 1) := by decide +kernel
theorem dX12_bets_103 : decode cX12_bets 103 = .ok (.ifCond .eq 8, 3) := by decide +kernel
theorem dX12_bets_111 : decode cX12_bets 111 = .ok (.bipush 10, 2) := by decide +kernel
theorem dX12_bets_113 : decode cX12_bets 113 = .ok (.iload_n 3, 1) := by decide +kernel
theorem dX12_bets_114 : decode cX12_bets 114 = .ok (.isub, 1) := by decide +kernel
theorem dX12_bets_115 : decode cX12_bets 115 = .ok (.i2l, 1) := by decide +kernel
theorem dX12_bets_106 : decode cX12_bets 106 = .ok (.iload_n 3, 1) := by decide +kernel
theorem dX12_bets_107 : decode cX12_bets 107 = .ok (.i2l, 1) := by decide +kernel
theorem dX12_bets_108 : decode cX12_bets 108 = .ok (.goto 8, 3) := by decide +kernel
theorem dX12_bets_182 : decode cX12_bets 182 = .ok (.aload_n 0, 1) := by decide +kernel
theorem dX12_bets_183 : decode cX12_bets 183 = .ok (.dup, 1) := by decide +kernel
theorem dX12_bets_184 : decode cX12_bets 184 = .ok (.getfield 495, 3) := by decide +kernel
theorem dX12_bets_187 : decode cX12_bets 187 = .ok (.aload_n 0, 1) := by decide +kernel
theorem dX12_bets_188 : decode cX12_bets 188 = .ok (.getfield 80, 3) := by decide +kernel
theorem dX12_bets_191 : decode cX12_bets 191 = .ok (.iload_n 1, 1) := by decide +kernel
theorem dX12_bets_192 : decode cX12_bets 192 = .ok (.invokestatic 311, 3) := by decide +kernel
theorem dX12_bets_195 : decode cX12_bets 195 = .ok (.iload 4, 2) := by decide +kernel
theorem dX12_bets_206 : decode cX12_bets 206 = .ok (.ladd, 1) := by decide +kernel
theorem dX12_bets_207 : decode cX12_bets 207 = .ok (.putfield 495, 3) := by decide +kernel
theorem dX12_bets_210 : decode cX12_bets 210 = .ok (.iinc 5 1, 3) := by decide +kernel
theorem dX12_bets_213 : decode cX12_bets 213 = .ok (.goto (-173), 3) := by decide +kernel
theorem dX12_bets_197 : decode cX12_bets 197 = .ok (.if_icmp .gt 8, 3) := by decide +kernel
theorem dX12_bets_205 : decode cX12_bets 205 = .ok (.lconst 0, 1) := by decide +kernel
theorem dX12_bets_200 : decode cX12_bets 200 = .ok (.lload 6, 2) := by decide +kernel
theorem dX12_bets_202 : decode cX12_bets 202 = .ok (.goto 4, 3) := by decide +kernel
theorem dX12_bets_216 : decode cX12_bets 216 = .ok (.return_, 1) := by decide +kernel
theorem dX12_tellsChance_0 : decode cX12_tellsChance 0 = .ok (.aload_n 0, 1) := by decide +kernel
theorem dX12_tellsChance_1 : decode cX12_tellsChance 1 = .ok (.getfield 495, 3) := by decide +kernel
theorem dX12_tellsChance_4 : decode cX12_tellsChance 4 = .ok (.aload_n 0, 1) := by decide +kernel
theorem dX12_tellsChance_5 : decode cX12_tellsChance 5 = .ok (.getfield 499, 3) := by decide +kernel
theorem dX12_tellsChance_8 : decode cX12_tellsChance 8 = .ok (.invokestatic 121, 3) := by decide +kernel
theorem dX12_tellsChance_11 : decode cX12_tellsChance 11 = .ok (.lstore_n 1, 1) := by decide +kernel
theorem dX12_tellsChance_12 : decode cX12_tellsChance 12 = .ok (.aload_n 0, 1) := by decide +kernel
theorem dX12_tellsChance_13 : decode cX12_tellsChance 13 = .ok (.iconst 0, 1) := by decide +kernel
theorem dX12_tellsChance_14 : decode cX12_tellsChance 14 = .ok (.putfield 125, 3) := by decide +kernel
theorem dX12_tellsChance_17 : decode cX12_tellsChance 17 = .ok (.aload_n 0, 1) := by decide +kernel
theorem dX12_tellsChance_18 : decode cX12_tellsChance 18 = .ok (.aload_n 0, 1) := by decide +kernel
theorem dX12_tellsChance_19 : decode cX12_tellsChance 19 = .ok (.getfield 495, 3) := by decide +kernel
theorem dX12_tellsChance_22 : decode cX12_tellsChance 22 = .ok (.lload_n 1, 1) := by decide +kernel
theorem dX12_tellsChance_23 : decode cX12_tellsChance 23 = .ok (.ldiv, 1) := by decide +kernel
theorem dX12_tellsChance_24 : decode cX12_tellsChance 24 = .ok (.invokevirtual 384, 3) := by decide +kernel
theorem dX12_tellsChance_27 : decode cX12_tellsChance 27 = .ok (.aload_n 0, 1) := by decide +kernel
theorem dX12_tellsChance_28 : decode cX12_tellsChance 28 = .ok (.aload_n 0, 1) := by decide +kernel
theorem dX12_tellsChance_29 : decode cX12_tellsChance 29 = .ok (.getfield 499, 3) := by decide +kernel
theorem dX12_tellsChance_32 : decode cX12_tellsChance 32 = .ok (.lload_n 1, 1) := by decide +kernel
theorem dX12_tellsChance_33 : decode cX12_tellsChance 33 = .ok (.ldiv, 1) := by decide +kernel
theorem dX12_tellsChance_34 : decode cX12_tellsChance 34 = .ok (.invokevirtual 384, 3) := by decide +kernel
theorem dX12_tellsChance_37 : decode cX12_tellsChance 37 = .ok (.return_, 1) := by decide +kernel
theorem dX12_chance_0 : decode cX12_chance 0 = .ok (.aload_n 0, 1) := by decide +kernel
theorem dX12_chance_1 : decode cX12_chance 1 = .ok (.iconst 0, 1) := by decide +kernel
theorem dX12_chance_2 : decode cX12_chance 2 = .ok (.putfield 117, 3) := by decide +kernel
theorem dX12_chance_5 : decode cX12_chance 5 = .ok (.aload_n 0, 1) := by decide +kernel
theorem dX12_chance_6 : decode cX12_chance 6 = .ok (.iload_n 1, 1) := by decide +kernel
theorem dX12_chance_7 : decode cX12_chance 7 = .ok (.invokevirtual 282, 3) := by decide +kernel
theorem dX12_chance_10 : decode cX12_chance 10 = .ok (.ifCond .eq 40, 3) := by decide +kernel
theorem dX12_chance_50 : decode cX12_chance 50 = .ok (.iconst (-1), 1) := by decide +kernel
theorem dX12_chance_51 : decode cX12_chance 51 = .ok (.ireturn, 1) := by decide +kernel
theorem dX12_chance_13 : decode cX12_chance 13 = .ok (.iload_n 2, 1) := by decide +kernel
theorem dX12_chance_14 : decode cX12_chance 14 = .ok (.i2l, 1) := by decide +kernel
theorem dX12_chance_15 : decode cX12_chance 15 = .ok (.lconst 1, 1) := by decide +kernel
theorem dX12_chance_16 : decode cX12_chance 16 = .ok (.ldc2_w 504, 3) := by decide +kernel
theorem dX12_chance_19 : decode cX12_chance 19 = .ok (.invokestatic 131, 3) := by decide +kernel
theorem dX12_chance_22 : decode cX12_chance 22 = .ok (.ifCond .eq 28, 3) := by decide +kernel
theorem dX12_chance_25 : decode cX12_chance 25 = .ok (.iload_n 3, 1) := by decide +kernel
theorem dX12_chance_26 : decode cX12_chance 26 = .ok (.i2l, 1) := by decide +kernel
theorem dX12_chance_27 : decode cX12_chance 27 = .ok (.lconst 0, 1) := by decide +kernel
theorem dX12_chance_28 : decode cX12_chance 28 = .ok (.ldc2_w 502, 3) := by decide +kernel
theorem dX12_chance_31 : decode cX12_chance 31 = .ok (.invokestatic 131, 3) := by decide +kernel
theorem dX12_chance_34 : decode cX12_chance 34 = .ok (.ifCond .eq 16, 3) := by decide +kernel
theorem dX12_chance_37 : decode cX12_chance 37 = .ok (.iload 4, 2) := by decide +kernel
theorem dX12_chance_39 : decode cX12_chance 39 = .ok (.i2l, 1) := by decide +kernel
theorem dX12_chance_40 : decode cX12_chance 40 = .ok (.lconst 0, 1) := by decide +kernel
theorem dX12_chance_41 : decode cX12_chance 41 = .ok (.ldc2_w 506, 3) := by decide +kernel
theorem dX12_chance_44 : decode cX12_chance 44 = .ok (.invokestatic 131, 3) := by decide +kernel
theorem dX12_chance_47 : decode cX12_chance 47 = .ok (.ifCond .ne 5, 3) := by decide +kernel
theorem dX12_chance_52 : decode cX12_chance 52 = .ok (.aload_n 0, 1) := by decide +kernel
theorem dX12_chance_53 : decode cX12_chance 53 = .ok (.iload_n 1, 1) := by decide +kernel
theorem dX12_chance_54 : decode cX12_chance 54 = .ok (.invokevirtual 268, 3) := by decide +kernel
theorem dX12_chance_57 : decode cX12_chance 57 = .ok (.iconst 1, 1) := by decide +kernel
theorem dX12_chance_58 : decode cX12_chance 58 = .ok (.if_icmp .eq 6, 3) := by decide +kernel
theorem dX12_chance_64 : decode cX12_chance 64 = .ok (.aload_n 0, 1) := by decide +kernel
theorem dX12_chance_65 : decode cX12_chance 65 = .ok (.iload_n 1, 1) := by decide +kernel
theorem dX12_chance_66 : decode cX12_chance 66 = .ok (.iload_n 2, 1) := by decide +kernel
theorem dX12_chance_67 : decode cX12_chance 67 = .ok (.iload_n 3, 1) := by decide +kernel
theorem dX12_chance_68 : decode cX12_chance 68 = .ok (.iload 4, 2) := by decide +kernel
theorem dX12_chance_70 : decode cX12_chance 70 = .ok (.invokevirtual 508, 3) := by decide +kernel
theorem dX12_chance_73 : decode cX12_chance 73 = .ok (.aload_n 0, 1) := by decide +kernel
theorem dX12_chance_74 : decode cX12_chance 74 = .ok (.invokevirtual 512, 3) := by decide +kernel
theorem dX12_chance_77 : decode cX12_chance 77 = .ok (.iconst 0, 1) := by decide +kernel
theorem dX12_chance_78 : decode cX12_chance 78 = .ok (.ireturn, 1) := by decide +kernel
theorem dX12_chance_61 : decode cX12_chance 61 = .ok (.bipush (-2), 2) := by decide +kernel
theorem dX12_chance_63 : decode cX12_chance 63 = .ok (.ireturn, 1) := by decide +kernel
theorem dX12_when_0 : decode cX12_when 0 = .ok (.aload_n 0, 1) := by decide +kernel
theorem dX12_when_1 : decode cX12_when 1 = .ok (.iconst 0, 1) := by decide +kernel
theorem dX12_when_2 : decode cX12_when 2 = .ok (.putfield 117, 3) := by decide +kernel
theorem dX12_when_5 : decode cX12_when 5 = .ok (.aload_n 0, 1) := by decide +kernel
theorem dX12_when_6 : decode cX12_when 6 = .ok (.iload_n 1, 1) := by decide +kernel
theorem dX12_when_7 : decode cX12_when 7 = .ok (.invokevirtual 282, 3) := by decide +kernel
theorem dX12_when_10 : decode cX12_when 10 = .ok (.ifCond .eq 15, 3) := by decide +kernel
theorem dX12_when_25 : decode cX12_when 25 = .ok (.iconst (-1), 1) := by decide +kernel
theorem dX12_when_26 : decode cX12_when 26 = .ok (.ireturn, 1) := by decide +kernel
theorem dX12_when_13 : decode cX12_when 13 = .ok (.iload_n 2, 1) := by decide +kernel
theorem dX12_when_14 : decode cX12_when 14 = .ok (.i2l, 1) := by decide +kernel
theorem dX12_when_15 : decode cX12_when 15 = .ok (.lconst 0, 1) := by decide +kernel
theorem dX12_when_16 : decode cX12_when 16 = .ok (.ldc2_w 502, 3) := by decide +kernel
theorem dX12_when_19 : decode cX12_when 19 = .ok (.invokestatic 131, 3) := by decide +kernel
theorem dX12_when_22 : decode cX12_when 22 = .ok (.ifCond .ne 5, 3) := by decide +kernel
theorem dX12_when_27 : decode cX12_when 27 = .ok (.aload_n 0, 1) := by decide +kernel
theorem dX12_when_28 : decode cX12_when 28 = .ok (.iload_n 1, 1) := by decide +kernel
theorem dX12_when_29 : decode cX12_when 29 = .ok (.invokevirtual 268, 3) := by decide +kernel
theorem dX12_when_32 : decode cX12_when 32 = .ok (.iconst 1, 1) := by decide +kernel
theorem dX12_when_33 : decode cX12_when 33 = .ok (.if_icmp .eq 6, 3) := by decide +kernel
theorem dX12_when_39 : decode cX12_when 39 = .ok (.iconst (-1), 1) := by decide +kernel
theorem dX12_when_40 : decode cX12_when 40 = .ok (.istore_n 3, 1) := by decide +kernel
theorem dX12_when_41 : decode cX12_when 41 = .ok (.lconst 0, 1) := by decide +kernel
theorem dX12_when_42 : decode cX12_when 42 = .ok (.lstore 4, 2) := by decide +kernel
theorem dX12_when_44 : decode cX12_when 44 = .ok (.lconst 1, 1) := by decide +kernel
theorem dX12_when_45 : decode cX12_when 45 = .ok (.lstore 6, 2) := by decide +kernel
theorem dX12_when_47 : decode cX12_when 47 = .ok (.iconst 1, 1) := by decide +kernel
theorem dX12_when_48 : decode cX12_when 48 = .ok (.istore 8, 2) := by decide +kernel
theorem dX12_when_50 : decode cX12_when 50 = .ok (.iload 8, 2) := by decide +kernel
theorem dX12_when_52 : decode cX12_when 52 = .ok (.bipush 8, 2) := by decide +kernel
theorem dX12_when_54 : decode cX12_when 54 = .ok (.if_icmp .gt 60, 3) := by decide +kernel
theorem dX12_when_57 : decode cX12_when 57 = .ok (.aload_n 0, 1) := by decide +kernel
theorem dX12_when_58 : decode cX12_when 58 = .ok (.iload_n 1, 1) := by decide +kernel
theorem dX12_when_59 : decode cX12_when 59 = .ok (.iload 8, 2) := by decide +kernel
theorem dX12_when_61 : decode cX12_when 61 = .ok (.iload_n 2, 1) := by decide +kernel
theorem dX12_when_62 : decode cX12_when 62 = .ok (.aload_n 0, 1) := by decide +kernel
theorem dX12_when_63 : decode cX12_when 63 = .ok (.getfield 20, 3) := by decide +kernel
theorem dX12_when_66 : decode cX12_when 66 = .ok (.iload_n 1, 1) := by decide +kernel
theorem dX12_when_67 : decode cX12_when 67 = .ok (.iaload, 1) := by decide +kernel
theorem dX12_when_68 : decode cX12_when 68 = .ok (.invokevirtual 508, 3) := by decide +kernel
theorem dX12_when_71 : decode cX12_when 71 = .ok (.iload_n 3, 1) := by decide +kernel
theorem dX12_when_108 : decode cX12_when 108 = .ok (.iinc 8 1, 3) := by decide +kernel
theorem dX12_when_111 : decode cX12_when 111 = .ok (.goto (-61), 3) := by decide +kernel
theorem dX12_when_93 : decode cX12_when 93 = .ok (.iload 8, 2) := by decide +kernel
theorem dX12_when_95 : decode cX12_when 95 = .ok (.istore_n 3, 1) := by decide +kernel
theorem dX12_when_96 : decode cX12_when 96 = .ok (.aload_n 0, 1) := by decide +kernel
theorem dX12_when_97 : decode cX12_when 97 = .ok (.getfield 495, 3) := by decide +kernel
theorem dX12_when_100 : decode cX12_when 100 = .ok (.lstore 4, 2) := by decide +kernel
theorem dX12_when_102 : decode cX12_when 102 = .ok (.aload_n 0, 1) := by decide +kernel
theorem dX12_when_103 : decode cX12_when 103 = .ok (.getfield 499, 3) := by decide +kernel
theorem dX12_when_106 : decode cX12_when 106 = .ok (.lstore 6, 2) := by decide +kernel
theorem dX12_when_72 : decode cX12_when 72 = .ok (.ifCond .lt 21, 3) := by decide +kernel
theorem dX12_when_75 : decode cX12_when 75 = .ok (.aload_n 0, 1) := by decide +kernel
theorem dX12_when_76 : decode cX12_when 76 = .ok (.getfield 495, 3) := by decide +kernel
theorem dX12_when_79 : decode cX12_when 79 = .ok (.lload 6, 2) := by decide +kernel
theorem dX12_when_81 : decode cX12_when 81 = .ok (.lmul, 1) := by decide +kernel
theorem dX12_when_82 : decode cX12_when 82 = .ok (.lload 4, 2) := by decide +kernel
theorem dX12_when_84 : decode cX12_when 84 = .ok (.aload_n 0, 1) := by decide +kernel
theorem dX12_when_85 : decode cX12_when 85 = .ok (.getfield 499, 3) := by decide +kernel
theorem dX12_when_88 : decode cX12_when 88 = .ok (.lmul, 1) := by decide +kernel
theorem dX12_when_89 : decode cX12_when 89 = .ok (.lcmp, 1) := by decide +kernel
theorem dX12_when_90 : decode cX12_when 90 = .ok (.ifCond .le 18, 3) := by decide +kernel
theorem dX12_when_114 : decode cX12_when 114 = .ok (.aload_n 0, 1) := by decide +kernel
theorem dX12_when_115 : decode cX12_when 115 = .ok (.lload 4, 2) := by decide +kernel
theorem dX12_when_117 : decode cX12_when 117 = .ok (.putfield 495, 3) := by decide +kernel
theorem dX12_when_120 : decode cX12_when 120 = .ok (.aload_n 0, 1) := by decide +kernel
theorem dX12_when_121 : decode cX12_when 121 = .ok (.lload 6, 2) := by decide +kernel
theorem dX12_when_123 : decode cX12_when 123 = .ok (.putfield 499, 3) := by decide +kernel
theorem dX12_when_126 : decode cX12_when 126 = .ok (.aload_n 0, 1) := by decide +kernel
theorem dX12_when_127 : decode cX12_when 127 = .ok (.invokevirtual 512, 3) := by decide +kernel
theorem dX12_when_130 : decode cX12_when 130 = .ok (.iload_n 3, 1) := by decide +kernel
theorem dX12_when_131 : decode cX12_when 131 = .ok (.ireturn, 1) := by decide +kernel
theorem dX12_when_36 : decode cX12_when 36 = .ok (.bipush (-2), 2) := by decide +kernel
theorem dX12_when_38 : decode cX12_when 38 = .ok (.ireturn, 1) := by decide +kernel
theorem dX12_season_0 : decode cX12_season 0 = .ok (.aload_n 0, 1) := by decide +kernel
theorem dX12_season_1 : decode cX12_season 1 = .ok (.iconst 0, 1) := by decide +kernel
theorem dX12_season_2 : decode cX12_season 2 = .ok (.putfield 117, 3) := by decide +kernel
theorem dX12_season_5 : decode cX12_season 5 = .ok (.iload_n 2, 1) := by decide +kernel
theorem dX12_season_6 : decode cX12_season 6 = .ok (.i2l, 1) := by decide +kernel
theorem dX12_season_7 : decode cX12_season 7 = .ok (.lconst 1, 1) := by decide +kernel
theorem dX12_season_8 : decode cX12_season 8 = .ok (.ldc2_w 403, 3) := by decide +kernel
theorem dX12_season_11 : decode cX12_season 11 = .ok (.invokestatic 131, 3) := by decide +kernel
theorem dX12_season_14 : decode cX12_season 14 = .ok (.ifCond .eq 10, 3) := by decide +kernel
theorem dX12_season_24 : decode cX12_season 24 = .ok (.iconst (-1), 1) := by decide +kernel
theorem dX12_season_25 : decode cX12_season 25 = .ok (.ireturn, 1) := by decide +kernel
theorem dX12_season_17 : decode cX12_season 17 = .ok (.aload_n 0, 1) := by decide +kernel
theorem dX12_season_18 : decode cX12_season 18 = .ok (.getfield 135, 3) := by decide +kernel
theorem dX12_season_21 : decode cX12_season 21 = .ok (.ifCond .ne 5, 3) := by decide +kernel
theorem dX12_season_26 : decode cX12_season 26 = .ok (.aload_n 0, 1) := by decide +kernel
theorem dX12_season_27 : decode cX12_season 27 = .ok (.getfield 255, 3) := by decide +kernel
theorem dX12_season_30 : decode cX12_season 30 = .ok (.istore_n 3, 1) := by decide +kernel
theorem dX12_season_31 : decode cX12_season 31 = .ok (.iload_n 1, 1) := by decide +kernel
theorem dX12_season_32 : decode cX12_season 32 = .ok (.istore 4, 2) := by decide +kernel
theorem dX12_season_34 : decode cX12_season 34 = .ok (.aload_n 0, 1) := by decide +kernel
theorem dX12_season_35 : decode cX12_season 35 = .ok (.invokevirtual 405, 3) := by decide +kernel
theorem dX12_season_38 : decode cX12_season 38 = .ok (.aload_n 0, 1) := by decide +kernel
theorem dX12_season_39 : decode cX12_season 39 = .ok (.invokevirtual 377, 3) := by decide +kernel
theorem dX12_season_42 : decode cX12_season 42 = .ok (.iconst 0, 1) := by decide +kernel
theorem dX12_season_43 : decode cX12_season 43 = .ok (.istore 5, 2) := by decide +kernel
theorem dX12_season_45 : decode cX12_season 45 = .ok (.iload 5, 2) := by decide +kernel
theorem dX12_season_47 : decode cX12_season 47 = .ok (.iload_n 2, 1) := by decide +kernel
theorem dX12_season_48 : decode cX12_season 48 = .ok (.if_icmp .ge 89, 3) := by decide +kernel
theorem dX12_season_51 : decode cX12_season 51 = .ok (.iload 4, 2) := by decide +kernel
theorem dX12_season_53 : decode cX12_season 53 = .ok (.ldc_w 515, 3) := by decide +kernel
theorem dX12_season_56 : decode cX12_season 56 = .ok (.imul, 1) := by decide +kernel
theorem dX12_season_57 : decode cX12_season 57 = .ok (.sipush 12345, 3) := by decide +kernel
theorem dX12_season_60 : decode cX12_season 60 = .ok (.iadd, 1) := by decide +kernel
theorem dX12_season_61 : decode cX12_season 61 = .ok (.istore 4, 2) := by decide +kernel
theorem dX12_season_63 : decode cX12_season 63 = .ok (.aload_n 0, 1) := by decide +kernel
theorem dX12_season_64 : decode cX12_season 64 = .ok (.iload 4, 2) := by decide +kernel
theorem dX12_season_66 : decode cX12_season 66 = .ok (.bipush 16, 2) := by decide +kernel
theorem dX12_season_68 : decode cX12_season 68 = .ok (.iushr, 1) := by decide +kernel
theorem dX12_season_69 : decode cX12_season 69 = .ok (.bipush 10, 2) := by decide +kernel
theorem dX12_season_71 : decode cX12_season 71 = .ok (.irem, 1) := by decide +kernel
theorem dX12_season_72 : decode cX12_season 72 = .ok (.putfield 255, 3) := by decide +kernel
theorem dX12_season_75 : decode cX12_season 75 = .ok (.iload 4, 2) := by decide +kernel
theorem dX12_season_77 : decode cX12_season 77 = .ok (.ldc_w 515, 3) := by decide +kernel
theorem dX12_season_80 : decode cX12_season 80 = .ok (.imul, 1) := by decide +kernel
theorem dX12_season_81 : decode cX12_season 81 = .ok (.sipush 12345, 3) := by decide +kernel
theorem dX12_season_84 : decode cX12_season 84 = .ok (.iadd, 1) := by decide +kernel
theorem dX12_season_85 : decode cX12_season 85 = .ok (.istore 4, 2) := by decide +kernel
theorem dX12_season_87 : decode cX12_season 87 = .ok (.iload 4, 2) := by decide +kernel
theorem dX12_season_89 : decode cX12_season 89 = .ok (.bipush 16, 2) := by decide +kernel
theorem dX12_season_91 : decode cX12_season 91 = .ok (.iushr, 1) := by decide +kernel
theorem dX12_season_92 : decode cX12_season 92 = .ok (.aload_n 0, 1) := by decide +kernel
theorem dX12_season_93 : decode cX12_season 93 = .ok (.getfield 135, 3) := by decide +kernel
theorem dX12_season_96 : decode cX12_season 96 = .ok (.irem, 1) := by decide +kernel
theorem dX12_season_97 : decode cX12_season 97 = .ok (.istore 6, 2) := by decide +kernel
theorem dX12_season_99 : decode cX12_season 99 = .ok (.aload_n 0, 1) := by decide +kernel
theorem dX12_season_100 : decode cX12_season 100 = .ok (.aload_n 0, 1) := by decide +kernel
theorem dX12_season_101 : decode cX12_season 101 = .ok (.getfield 35, 3) := by decide +kernel
theorem dX12_season_104 : decode cX12_season 104 = .ok (.iload 6, 2) := by decide +kernel
theorem dX12_season_106 : decode cX12_season 106 = .ok (.invokevirtual 356, 3) := by decide +kernel
theorem dX12_season_123 : decode cX12_season 123 = .ok (.aload_n 0, 1) := by decide +kernel
theorem dX12_season_124 : decode cX12_season 124 = .ok (.aload_n 0, 1) := by decide +kernel
theorem dX12_season_125 : decode cX12_season 125 = .ok (.getfield 35, 3) := by decide +kernel
theorem dX12_season_128 : decode cX12_season 128 = .ok (.invokevirtual 380, 3) := by decide +kernel
theorem dX12_season_131 : decode cX12_season 131 = .ok (.iinc 5 1, 3) := by decide +kernel
theorem dX12_season_134 : decode cX12_season 134 = .ok (.goto (-89), 3) := by decide +kernel
theorem dX12_season_109 : decode cX12_season 109 = .ok (.ifCond .ge 14, 3) := by decide +kernel
theorem dX12_season_112 : decode cX12_season 112 = .ok (.aload_n 0, 1) := by decide +kernel
theorem dX12_season_113 : decode cX12_season 113 = .ok (.aload_n 0, 1) := by decide +kernel
theorem dX12_season_114 : decode cX12_season 114 = .ok (.getfield 35, 3) := by decide +kernel
theorem dX12_season_117 : decode cX12_season 117 = .ok (.iload 6, 2) := by decide +kernel
theorem dX12_season_119 : decode cX12_season 119 = .ok (.invokevirtual 365, 3) := by decide +kernel
theorem dX12_season_122 : decode cX12_season 122 = .ok (.pop, 1) := by decide +kernel
theorem dX12_season_137 : decode cX12_season 137 = .ok (.aload_n 0, 1) := by decide +kernel
theorem dX12_season_138 : decode cX12_season 138 = .ok (.iload_n 3, 1) := by decide +kernel
theorem dX12_season_139 : decode cX12_season 139 = .ok (.putfield 255, 3) := by decide +kernel
theorem dX12_season_142 : decode cX12_season 142 = .ok (.iconst 0, 1) := by decide +kernel
theorem dX12_season_143 : decode cX12_season 143 = .ok (.istore 5, 2) := by decide +kernel
theorem dX12_season_145 : decode cX12_season 145 = .ok (.iconst 0, 1) := by decide +kernel
theorem dX12_season_146 : decode cX12_season 146 = .ok (.istore 6, 2) := by decide +kernel
theorem dX12_season_148 : decode cX12_season 148 = .ok (.iload 6, 2) := by decide +kernel
theorem dX12_season_150 : decode cX12_season 150 = .ok (.aload_n 0, 1) := by decide +kernel
theorem dX12_season_151 : decode cX12_season 151 = .ok (.getfield 135, 3) := by decide +kernel
theorem dX12_season_154 : decode cX12_season 154 = .ok (.if_icmp .ge 38, 3) := by decide +kernel
theorem dX12_season_157 : decode cX12_season 157 = .ok (.iload 5, 2) := by decide +kernel
theorem dX12_season_159 : decode cX12_season 159 = .ok (.aload_n 0, 1) := by decide +kernel
theorem dX12_season_160 : decode cX12_season 160 = .ok (.getfield 35, 3) := by decide +kernel
theorem dX12_season_163 : decode cX12_season 163 = .ok (.bipush 7, 2) := by decide +kernel
theorem dX12_season_165 : decode cX12_season 165 = .ok (.iload 6, 2) := by decide +kernel
theorem dX12_season_167 : decode cX12_season 167 = .ok (.imul, 1) := by decide +kernel
theorem dX12_season_168 : decode cX12_season 168 = .ok (.iconst 3, 1) := by decide +kernel
theorem dX12_season_169 : decode cX12_season 169 = .ok (.iadd, 1) := by decide +kernel
theorem dX12_season_170 : decode cX12_season 170 = .ok (.iaload, 1) := by decide +kernel
theorem dX12_season_171 : decode cX12_season 171 = .ok (.iconst 1, 1) := by decide +kernel
theorem dX12_season_180 : decode cX12_season 180 = .ok (.invokestatic 156, 3) := by decide +kernel
theorem dX12_season_183 : decode cX12_season 183 = .ok (.iadd, 1) := by decide +kernel
theorem dX12_season_184 : decode cX12_season 184 = .ok (.istore 5, 2) := by decide +kernel
theorem dX12_season_186 : decode cX12_season 186 = .ok (.iinc 6 1, 3) := by decide +kernel
theorem dX12_season_189 : decode cX12_season 189 = .ok (.goto (-41), 3) := by decide +kernel
theorem dX12_season_172 : decode cX12_season 172 = .ok (.if_icmp .ne 7, 3) := by decide +kernel
theorem dX12_season_179 : decode cX12_season 179 = .ok (.iconst 0, 1) := by decide +kernel
theorem dX12_season_175 : decode cX12_season 175 = .ok (.iconst 1, 1) := by decide +kernel
theorem dX12_season_176 : decode cX12_season 176 = .ok (.goto 4, 3) := by decide +kernel
theorem dX12_season_192 : decode cX12_season 192 = .ok (.aload_n 0, 1) := by decide +kernel
theorem dX12_season_193 : decode cX12_season 193 = .ok (.iconst 0, 1) := by decide +kernel
theorem dX12_season_194 : decode cX12_season 194 = .ok (.putfield 125, 3) := by decide +kernel
theorem dX12_season_197 : decode cX12_season 197 = .ok (.aload_n 0, 1) := by decide +kernel
theorem dX12_season_198 : decode cX12_season 198 = .ok (.aload_n 0, 1) := by decide +kernel
theorem dX12_season_199 : decode cX12_season 199 = .ok (.getfield 326, 3) := by decide +kernel
theorem dX12_season_202 : decode cX12_season 202 = .ok (.i2l, 1) := by decide +kernel
theorem dX12_season_203 : decode cX12_season 203 = .ok (.invokevirtual 384, 3) := by decide +kernel
theorem dX12_season_206 : decode cX12_season 206 = .ok (.aload_n 0, 1) := by decide +kernel
theorem dX12_season_207 : decode cX12_season 207 = .ok (.iload 5, 2) := by decide +kernel
theorem dX12_season_209 : decode cX12_season 209 = .ok (.i2l, 1) := by decide +kernel
theorem dX12_season_210 : decode cX12_season 210 = .ok (.invokevirtual 384, 3) := by decide +kernel
theorem dX12_season_213 : decode cX12_season 213 = .ok (.aload_n 0, 1) := by decide +kernel
theorem dX12_season_214 : decode cX12_season 214 = .ok (.getfield 329, 3) := by decide +kernel
theorem dX12_season_217 : decode cX12_season 217 = .ok (.ireturn, 1) := by decide +kernel
theorem dX12_keep_0 : decode cX12_keep 0 = .ok (.aload_n 0, 1) := by decide +kernel
theorem dX12_keep_1 : decode cX12_keep 1 = .ok (.iconst 0, 1) := by decide +kernel
theorem dX12_keep_2 : decode cX12_keep 2 = .ok (.putfield 117, 3) := by decide +kernel
theorem dX12_keep_5 : decode cX12_keep 5 = .ok (.iload_n 1, 1) := by decide +kernel
theorem dX12_keep_6 : decode cX12_keep 6 = .ok (.i2l, 1) := by decide +kernel
theorem dX12_keep_7 : decode cX12_keep 7 = .ok (.lconst 0, 1) := by decide +kernel
theorem dX12_keep_8 : decode cX12_keep 8 = .ok (.ldc2_w 471, 3) := by decide +kernel
theorem dX12_keep_11 : decode cX12_keep 11 = .ok (.invokestatic 131, 3) := by decide +kernel
theorem dX12_keep_14 : decode cX12_keep 14 = .ok (.ifCond .ne 5, 3) := by decide +kernel
theorem dX12_keep_19 : decode cX12_keep 19 = .ok (.aload_n 0, 1) := by decide +kernel
theorem dX12_keep_20 : decode cX12_keep 20 = .ok (.getfield 107, 3) := by decide +kernel
theorem dX12_keep_23 : decode cX12_keep 23 = .ok (.iload_n 1, 1) := by decide +kernel
theorem dX12_keep_24 : decode cX12_keep 24 = .ok (.iconst 1, 1) := by decide +kernel
theorem dX12_keep_25 : decode cX12_keep 25 = .ok (.bastore, 1) := by decide +kernel
theorem dX12_keep_26 : decode cX12_keep 26 = .ok (.aload_n 0, 1) := by decide +kernel
theorem dX12_keep_27 : decode cX12_keep 27 = .ok (.getfield 111, 3) := by decide +kernel
theorem dX12_keep_30 : decode cX12_keep 30 = .ok (.iload_n 1, 1) := by decide +kernel
theorem dX12_keep_31 : decode cX12_keep 31 = .ok (.aload_n 0, 1) := by decide +kernel
theorem dX12_keep_32 : decode cX12_keep 32 = .ok (.getfield 214, 3) := by decide +kernel
theorem dX12_keep_35 : decode cX12_keep 35 = .ok (.iastore, 1) := by decide +kernel
theorem dX12_keep_36 : decode cX12_keep 36 = .ok (.iconst 0, 1) := by decide +kernel
theorem dX12_keep_37 : decode cX12_keep 37 = .ok (.istore_n 2, 1) := by decide +kernel
theorem dX12_keep_38 : decode cX12_keep 38 = .ok (.iload_n 2, 1) := by decide +kernel
theorem dX12_keep_39 : decode cX12_keep 39 = .ok (.bipush 43, 2) := by decide +kernel
theorem dX12_keep_41 : decode cX12_keep 41 = .ok (.if_icmp .ge 26, 3) := by decide +kernel
theorem dX12_keep_44 : decode cX12_keep 44 = .ok (.aload_n 0, 1) := by decide +kernel
theorem dX12_keep_45 : decode cX12_keep 45 = .ok (.getfield 114, 3) := by decide +kernel
theorem dX12_keep_48 : decode cX12_keep 48 = .ok (.bipush 43, 2) := by decide +kernel
theorem dX12_keep_50 : decode cX12_keep 50 = .ok (.iload_n 1, 1) := by decide +kernel
theorem dX12_keep_51 : decode cX12_keep 51 = .ok (.imul, 1) := by decide +kernel
theorem dX12_keep_52 : decode cX12_keep 52 = .ok (.iload_n 2, 1) := by decide +kernel
theorem dX12_keep_53 : decode cX12_keep 53 = .ok (.iadd, 1) := by decide +kernel
theorem dX12_keep_54 : decode cX12_keep 54 = .ok (.aload_n 0, 1) := by decide +kernel
theorem dX12_keep_55 : decode cX12_keep 55 = .ok (.getfield 32, 3) := by decide +kernel
theorem dX12_keep_58 : decode cX12_keep 58 = .ok (.iload_n 2, 1) := by decide +kernel
theorem dX12_keep_59 : decode cX12_keep 59 = .ok (.iaload, 1) := by decide +kernel
theorem dX12_keep_60 : decode cX12_keep 60 = .ok (.iastore, 1) := by decide +kernel
theorem dX12_keep_61 : decode cX12_keep 61 = .ok (.iinc 2 1, 3) := by decide +kernel
theorem dX12_keep_64 : decode cX12_keep 64 = .ok (.goto (-26), 3) := by decide +kernel
theorem dX12_keep_67 : decode cX12_keep 67 = .ok (.iconst 1, 1) := by decide +kernel
theorem dX12_keep_68 : decode cX12_keep 68 = .ok (.ireturn, 1) := by decide +kernel
theorem dX12_keep_17 : decode cX12_keep 17 = .ok (.iconst 0, 1) := by decide +kernel
theorem dX12_keep_18 : decode cX12_keep 18 = .ok (.ireturn, 1) := by decide +kernel
theorem dX12_again_0 : decode cX12_again 0 = .ok (.aload_n 0, 1) := by decide +kernel
theorem dX12_again_1 : decode cX12_again 1 = .ok (.iconst 0, 1) := by decide +kernel
theorem dX12_again_2 : decode cX12_again 2 = .ok (.putfield 117, 3) := by decide +kernel
theorem dX12_again_5 : decode cX12_again 5 = .ok (.iload_n 1, 1) := by decide +kernel
theorem dX12_again_6 : decode cX12_again 6 = .ok (.i2l, 1) := by decide +kernel
theorem dX12_again_7 : decode cX12_again 7 = .ok (.lconst 0, 1) := by decide +kernel
theorem dX12_again_8 : decode cX12_again 8 = .ok (.ldc2_w 471, 3) := by decide +kernel
theorem dX12_again_11 : decode cX12_again 11 = .ok (.invokestatic 131, 3) := by decide +kernel
theorem dX12_again_14 : decode cX12_again 14 = .ok (.ifCond .eq 25, 3) := by decide +kernel
theorem dX12_again_39 : decode cX12_again 39 = .ok (.iconst 0, 1) := by decide +kernel
theorem dX12_again_40 : decode cX12_again 40 = .ok (.ireturn, 1) := by decide +kernel
theorem dX12_again_17 : decode cX12_again 17 = .ok (.aload_n 0, 1) := by decide +kernel
theorem dX12_again_18 : decode cX12_again 18 = .ok (.getfield 107, 3) := by decide +kernel
theorem dX12_again_21 : decode cX12_again 21 = .ok (.iload_n 1, 1) := by decide +kernel
theorem dX12_again_22 : decode cX12_again 22 = .ok (.baload, 1) := by decide +kernel
theorem dX12_again_23 : decode cX12_again 23 = .ok (.ifCond .eq 16, 3) := by decide +kernel
theorem dX12_again_26 : decode cX12_again 26 = .ok (.aload_n 0, 1) := by decide +kernel
theorem dX12_again_27 : decode cX12_again 27 = .ok (.getfield 111, 3) := by decide +kernel
theorem dX12_again_30 : decode cX12_again 30 = .ok (.iload_n 1, 1) := by decide +kernel
theorem dX12_again_31 : decode cX12_again 31 = .ok (.iaload, 1) := by decide +kernel
theorem dX12_again_32 : decode cX12_again 32 = .ok (.aload_n 0, 1) := by decide +kernel
theorem dX12_again_33 : decode cX12_again 33 = .ok (.getfield 214, 3) := by decide +kernel
theorem dX12_again_36 : decode cX12_again 36 = .ok (.if_icmp .eq 5, 3) := by decide +kernel
theorem dX12_again_41 : decode cX12_again 41 = .ok (.iconst 0, 1) := by decide +kernel
theorem dX12_again_42 : decode cX12_again 42 = .ok (.istore_n 2, 1) := by decide +kernel
theorem dX12_again_43 : decode cX12_again 43 = .ok (.iload_n 2, 1) := by decide +kernel
theorem dX12_again_44 : decode cX12_again 44 = .ok (.bipush 43, 2) := by decide +kernel
theorem dX12_again_46 : decode cX12_again 46 = .ok (.if_icmp .ge 26, 3) := by decide +kernel
theorem dX12_again_49 : decode cX12_again 49 = .ok (.aload_n 0, 1) := by decide +kernel
theorem dX12_again_50 : decode cX12_again 50 = .ok (.getfield 32, 3) := by decide +kernel
theorem dX12_again_53 : decode cX12_again 53 = .ok (.iload_n 2, 1) := by decide +kernel
theorem dX12_again_54 : decode cX12_again 54 = .ok (.aload_n 0, 1) := by decide +kernel
theorem dX12_again_55 : decode cX12_again 55 = .ok (.getfield 114, 3) := by decide +kernel
theorem dX12_again_58 : decode cX12_again 58 = .ok (.bipush 43, 2) := by decide +kernel
theorem dX12_again_60 : decode cX12_again 60 = .ok (.iload_n 1, 1) := by decide +kernel
theorem dX12_again_61 : decode cX12_again 61 = .ok (.imul, 1) := by decide +kernel
theorem dX12_again_62 : decode cX12_again 62 = .ok (.iload_n 2, 1) := by decide +kernel
theorem dX12_again_63 : decode cX12_again 63 = .ok (.iadd, 1) := by decide +kernel
theorem dX12_again_64 : decode cX12_again 64 = .ok (.iaload, 1) := by decide +kernel
theorem dX12_again_65 : decode cX12_again 65 = .ok (.iastore, 1) := by decide +kernel
theorem dX12_again_66 : decode cX12_again 66 = .ok (.iinc 2 1, 3) := by decide +kernel
theorem dX12_again_69 : decode cX12_again 69 = .ok (.goto (-26), 3) := by decide +kernel
theorem dX12_again_72 : decode cX12_again 72 = .ok (.aload_n 0, 1) := by decide +kernel
theorem dX12_again_73 : decode cX12_again 73 = .ok (.iconst 0, 1) := by decide +kernel
theorem dX12_again_74 : decode cX12_again 74 = .ok (.putfield 211, 3) := by decide +kernel
theorem dX12_again_77 : decode cX12_again 77 = .ok (.iconst 1, 1) := by decide +kernel
theorem dX12_again_78 : decode cX12_again 78 = .ok (.ireturn, 1) := by decide +kernel
theorem dX12_allBy_0 : decode cX12_allBy 0 = .ok (.iconst 0, 1) := by decide +kernel
theorem dX12_allBy_1 : decode cX12_allBy 1 = .ok (.istore_n 2, 1) := by decide +kernel
theorem dX12_allBy_2 : decode cX12_allBy 2 = .ok (.iconst 0, 1) := by decide +kernel
theorem dX12_allBy_3 : decode cX12_allBy 3 = .ok (.istore_n 3, 1) := by decide +kernel
theorem dX12_allBy_4 : decode cX12_allBy 4 = .ok (.iload_n 3, 1) := by decide +kernel
theorem dX12_allBy_5 : decode cX12_allBy 5 = .ok (.aload_n 0, 1) := by decide +kernel
theorem dX12_allBy_6 : decode cX12_allBy 6 = .ok (.getfield 135, 3) := by decide +kernel
theorem dX12_allBy_9 : decode cX12_allBy 9 = .ok (.if_icmp .ge 28, 3) := by decide +kernel
theorem dX12_allBy_12 : decode cX12_allBy 12 = .ok (.iload_n 2, 1) := by decide +kernel
theorem dX12_allBy_13 : decode cX12_allBy 13 = .ok (.aload_n 0, 1) := by decide +kernel
theorem dX12_allBy_14 : decode cX12_allBy 14 = .ok (.iload_n 3, 1) := by decide +kernel
theorem dX12_allBy_15 : decode cX12_allBy 15 = .ok (.invokevirtual 268, 3) := by decide +kernel
theorem dX12_allBy_18 : decode cX12_allBy 18 = .ok (.iload_n 1, 1) := by decide +kernel
theorem dX12_allBy_29 : decode cX12_allBy 29 = .ok (.ior, 1) := by decide +kernel
theorem dX12_allBy_30 : decode cX12_allBy 30 = .ok (.istore_n 2, 1) := by decide +kernel
theorem dX12_allBy_31 : decode cX12_allBy 31 = .ok (.iinc 3 1, 3) := by decide +kernel
theorem dX12_allBy_34 : decode cX12_allBy 34 = .ok (.goto (-30), 3) := by decide +kernel
theorem dX12_allBy_19 : decode cX12_allBy 19 = .ok (.if_icmp .ne 9, 3) := by decide +kernel
theorem dX12_allBy_28 : decode cX12_allBy 28 = .ok (.iconst 0, 1) := by decide +kernel
theorem dX12_allBy_22 : decode cX12_allBy 22 = .ok (.iconst 1, 1) := by decide +kernel
theorem dX12_allBy_23 : decode cX12_allBy 23 = .ok (.iload_n 3, 1) := by decide +kernel
theorem dX12_allBy_24 : decode cX12_allBy 24 = .ok (.ishl, 1) := by decide +kernel
theorem dX12_allBy_25 : decode cX12_allBy 25 = .ok (.goto 4, 3) := by decide +kernel
theorem dX12_allBy_37 : decode cX12_allBy 37 = .ok (.iload_n 2, 1) := by decide +kernel
theorem dX12_allBy_38 : decode cX12_allBy 38 = .ok (.ireturn, 1) := by decide +kernel
theorem dX12_count_0 : decode cX12_count 0 = .ok (.aload_n 0, 1) := by decide +kernel
theorem dX12_count_1 : decode cX12_count 1 = .ok (.iconst 0, 1) := by decide +kernel
theorem dX12_count_2 : decode cX12_count 2 = .ok (.putfield 117, 3) := by decide +kernel
theorem dX12_count_5 : decode cX12_count 5 = .ok (.iload_n 1, 1) := by decide +kernel
theorem dX12_count_6 : decode cX12_count 6 = .ok (.tableswitch 113 0 11 #[62, 67, 72, 80, 80, 80, 80, 88, 93, 98, 103, 108], 62) := by decide +kernel
theorem dX12_count_68 : decode cX12_count 68 = .ok (.aload_n 0, 1) := by decide +kernel
theorem dX12_count_69 : decode cX12_count 69 = .ok (.getfield 128, 3) := by decide +kernel
theorem dX12_count_72 : decode cX12_count 72 = .ok (.ireturn, 1) := by decide +kernel
theorem dX12_count_73 : decode cX12_count 73 = .ok (.aload_n 0, 1) := by decide +kernel
theorem dX12_count_74 : decode cX12_count 74 = .ok (.getfield 135, 3) := by decide +kernel
theorem dX12_count_77 : decode cX12_count 77 = .ok (.ireturn, 1) := by decide +kernel
theorem dX12_count_78 : decode cX12_count 78 = .ok (.aload_n 0, 1) := by decide +kernel
theorem dX12_count_79 : decode cX12_count 79 = .ok (.getfield 32, 3) := by decide +kernel
theorem dX12_count_82 : decode cX12_count 82 = .ok (.bipush 42, 2) := by decide +kernel
theorem dX12_count_84 : decode cX12_count 84 = .ok (.iaload, 1) := by decide +kernel
theorem dX12_count_85 : decode cX12_count 85 = .ok (.ireturn, 1) := by decide +kernel
theorem dX12_count_86 : decode cX12_count 86 = .ok (.aload_n 0, 1) := by decide +kernel
theorem dX12_count_87 : decode cX12_count 87 = .ok (.iload_n 1, 1) := by decide +kernel
theorem dX12_count_88 : decode cX12_count 88 = .ok (.iconst 3, 1) := by decide +kernel
theorem dX12_count_89 : decode cX12_count 89 = .ok (.isub, 1) := by decide +kernel
theorem dX12_count_90 : decode cX12_count 90 = .ok (.invokevirtual 516, 3) := by decide +kernel
theorem dX12_count_93 : decode cX12_count 93 = .ok (.ireturn, 1) := by decide +kernel
theorem dX12_count_94 : decode cX12_count 94 = .ok (.aload_n 0, 1) := by decide +kernel
theorem dX12_count_95 : decode cX12_count 95 = .ok (.getfield 255, 3) := by decide +kernel
theorem dX12_count_98 : decode cX12_count 98 = .ok (.ireturn, 1) := by decide +kernel
theorem dX12_count_99 : decode cX12_count 99 = .ok (.aload_n 0, 1) := by decide +kernel
theorem dX12_count_100 : decode cX12_count 100 = .ok (.getfield 208, 3) := by decide +kernel
theorem dX12_count_103 : decode cX12_count 103 = .ok (.ireturn, 1) := by decide +kernel
theorem dX12_count_104 : decode cX12_count 104 = .ok (.aload_n 0, 1) := by decide +kernel
theorem dX12_count_105 : decode cX12_count 105 = .ok (.getfield 211, 3) := by decide +kernel
theorem dX12_count_108 : decode cX12_count 108 = .ok (.ireturn, 1) := by decide +kernel
theorem dX12_count_109 : decode cX12_count 109 = .ok (.aload_n 0, 1) := by decide +kernel
theorem dX12_count_110 : decode cX12_count 110 = .ok (.getfield 125, 3) := by decide +kernel
theorem dX12_count_113 : decode cX12_count 113 = .ok (.ireturn, 1) := by decide +kernel
theorem dX12_count_114 : decode cX12_count 114 = .ok (.aload_n 0, 1) := by decide +kernel
theorem dX12_count_115 : decode cX12_count 115 = .ok (.getfield 138, 3) := by decide +kernel
theorem dX12_count_118 : decode cX12_count 118 = .ok (.ireturn, 1) := by decide +kernel
theorem dX12_count_119 : decode cX12_count 119 = .ok (.bipush (-100), 2) := by decide +kernel
theorem dX12_count_121 : decode cX12_count 121 = .ok (.ireturn, 1) := by decide +kernel
theorem dX12_row_0 : decode cX12_row 0 = .ok (.aload_n 0, 1) := by decide +kernel
theorem dX12_row_1 : decode cX12_row 1 = .ok (.iconst 0, 1) := by decide +kernel
theorem dX12_row_2 : decode cX12_row 2 = .ok (.putfield 117, 3) := by decide +kernel
theorem dX12_row_5 : decode cX12_row 5 = .ok (.iload_n 1, 1) := by decide +kernel
theorem dX12_row_6 : decode cX12_row 6 = .ok (.i2l, 1) := by decide +kernel
theorem dX12_row_7 : decode cX12_row 7 = .ok (.lconst 0, 1) := by decide +kernel
theorem dX12_row_8 : decode cX12_row 8 = .ok (.aload_n 0, 1) := by decide +kernel
theorem dX12_row_9 : decode cX12_row 9 = .ok (.getfield 125, 3) := by decide +kernel
theorem dX12_row_12 : decode cX12_row 12 = .ok (.iconst 1, 1) := by decide +kernel
theorem dX12_row_13 : decode cX12_row 13 = .ok (.isub, 1) := by decide +kernel
theorem dX12_row_14 : decode cX12_row 14 = .ok (.i2l, 1) := by decide +kernel
theorem dX12_row_15 : decode cX12_row 15 = .ok (.invokestatic 131, 3) := by decide +kernel
theorem dX12_row_18 : decode cX12_row 18 = .ok (.ifCond .ne 10, 3) := by decide +kernel
theorem dX12_row_28 : decode cX12_row 28 = .ok (.aload_n 0, 1) := by decide +kernel
theorem dX12_row_29 : decode cX12_row 29 = .ok (.getfield 9, 3) := by decide +kernel
theorem dX12_row_32 : decode cX12_row 32 = .ok (.iload_n 1, 1) := by decide +kernel
theorem dX12_row_33 : decode cX12_row 33 = .ok (.laload, 1) := by decide +kernel
theorem dX12_row_34 : decode cX12_row 34 = .ok (.lreturn, 1) := by decide +kernel
theorem dX12_row_21 : decode cX12_row 21 = .ok (.aload_n 0, 1) := by decide +kernel
theorem dX12_row_22 : decode cX12_row 22 = .ok (.iconst 1, 1) := by decide +kernel
theorem dX12_row_23 : decode cX12_row 23 = .ok (.putfield 117, 3) := by decide +kernel
theorem dX12_row_26 : decode cX12_row 26 = .ok (.lconst 0, 1) := by decide +kernel
theorem dX12_row_27 : decode cX12_row 27 = .ok (.lreturn, 1) := by decide +kernel
