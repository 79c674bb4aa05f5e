theorem dX12_findNight_103 : decode cX12_findNight 103 = .ok (.iload_n 3, 1) := by decide +kernel
theorem dX12_findNight_104 : decode cX12_findNight 104 = .ok (.if_icmp .eq 6, 3) := by decide +kernel
theorem dX12_findNight_107 : decode cX12_findNight 107 = .ok (.goto 36, 3) := by decide +kernel
theorem dX12_findNight_110 : decode cX12_findNight 110 = .ok (.aload_n 0, 1) := by decide +kernel
theorem dX12_findNight_111 : decode cX12_findNight 111 = .ok (.getfield 60, 3) := by decide +kernel
theorem dX12_findNight_114 : decode cX12_findNight 114 = .ok (.iconst 0, 1) := by decide +kernel
theorem dX12_findNight_115 : decode cX12_findNight 115 = .ok (.iload 4, 2) := by decide +kernel
theorem dX12_findNight_117 : decode cX12_findNight 117 = .ok (.iastore, 1) := by decide +kernel
theorem dX12_findNight_118 : decode cX12_findNight 118 = .ok (.aload_n 0, 1) := by decide +kernel
theorem dX12_findNight_119 : decode cX12_findNight 119 = .ok (.getfield 60, 3) := by decide +kernel
theorem dX12_findNight_122 : decode cX12_findNight 122 = .ok (.iconst 1, 1) := by decide +kernel
theorem dX12_findNight_123 : decode cX12_findNight 123 = .ok (.iload 5, 2) := by decide +kernel
theorem dX12_findNight_125 : decode cX12_findNight 125 = .ok (.iastore, 1) := by decide +kernel
theorem dX12_findNight_126 : decode cX12_findNight 126 = .ok (.aload_n 0, 1) := by decide +kernel
theorem dX12_findNight_127 : decode cX12_findNight 127 = .ok (.getfield 60, 3) := by decide +kernel
theorem dX12_findNight_130 : decode cX12_findNight 130 = .ok (.iconst 2, 1) := by decide +kernel
theorem dX12_findNight_131 : decode cX12_findNight 131 = .ok (.iload 6, 2) := by decide +kernel
theorem dX12_findNight_133 : decode cX12_findNight 133 = .ok (.iastore, 1) := by decide +kernel
theorem dX12_findNight_134 : decode cX12_findNight 134 = .ok (.aload_n 0, 1) := by decide +kernel
theorem dX12_findNight_135 : decode cX12_findNight 135 = .ok (.getfield 60, 3) := by decide +kernel
theorem dX12_findNight_138 : decode cX12_findNight 138 = .ok (.iconst 3, 1) := by decide +kernel
theorem dX12_findNight_139 : decode cX12_findNight 139 = .ok (.iload 7, 2) := by decide +kernel
theorem dX12_findNight_141 : decode cX12_findNight 141 = .ok (.iastore, 1) := by decide +kernel
theorem dX12_findNight_142 : decode cX12_findNight 142 = .ok (.return_, 1) := by decide +kernel
theorem dX12_findNight_143 : decode cX12_findNight 143 = .ok (.iinc 6 1, 3) := by decide +kernel
theorem dX12_findNight_146 : decode cX12_findNight 146 = .ok (.goto (-98), 3) := by decide +kernel
theorem dX12_findNight_149 : decode cX12_findNight 149 = .ok (.iinc 5 1, 3) := by decide +kernel
theorem dX12_findNight_152 : decode cX12_findNight 152 = .ok (.goto (-128), 3) := by decide +kernel
theorem dX12_findNight_155 : decode cX12_findNight 155 = .ok (.iinc 4 1, 3) := by decide +kernel
theorem dX12_findNight_158 : decode cX12_findNight 158 = .ok (.goto (-148), 3) := by decide +kernel
theorem dX12_findNight_161 : decode cX12_findNight 161 = .ok (.return_, 1) := by decide +kernel
theorem dX12_days_0 : decode cX12_days 0 = .ok (.aload_n 0, 1) := by decide +kernel
theorem dX12_days_1 : decode cX12_days 1 = .ok (.iconst 0, 1) := by decide +kernel
theorem dX12_days_2 : decode cX12_days 2 = .ok (.putfield 87, 3) := by decide +kernel
theorem dX12_days_5 : decode cX12_days 5 = .ok (.aload_n 0, 1) := by decide +kernel
theorem dX12_days_6 : decode cX12_days 6 = .ok (.iconst 0, 1) := by decide +kernel
theorem dX12_days_7 : decode cX12_days 7 = .ok (.putfield 90, 3) := by decide +kernel
theorem dX12_days_10 : decode cX12_days 10 = .ok (.aload_n 0, 1) := by decide +kernel
theorem dX12_days_11 : decode cX12_days 11 = .ok (.iload_n 1, 1) := by decide +kernel
theorem dX12_days_12 : decode cX12_days 12 = .ok (.invokevirtual 386, 3) := by decide +kernel
theorem dX12_days_15 : decode cX12_days 15 = .ok (.ifCond .ne 9, 3) := by decide +kernel
theorem dX12_days_18 : decode cX12_days 18 = .ok (.aload_n 0, 1) := by decide +kernel
theorem dX12_days_19 : decode cX12_days 19 = .ok (.iconst 2, 1) := by decide +kernel
theorem dX12_days_20 : decode cX12_days 20 = .ok (.invokevirtual 351, 3) := by decide +kernel
theorem dX12_days_23 : decode cX12_days 23 = .ok (.ireturn, 1) := by decide +kernel
theorem dX12_days_24 : decode cX12_days 24 = .ok (.iload_n 2, 1) := by decide +kernel
theorem dX12_days_25 : decode cX12_days 25 = .ok (.i2l, 1) := by decide +kernel
theorem dX12_days_26 : decode cX12_days 26 = .ok (.lconst 1, 1) := by decide +kernel
theorem dX12_days_27 : decode cX12_days 27 = .ok (.ldc2_w 460, 3) := by decide +kernel
theorem dX12_days_30 : decode cX12_days 30 = .ok (.invokestatic 122, 3) := by decide +kernel
theorem dX12_days_33 : decode cX12_days 33 = .ok (.ifCond .eq 15, 3) := by decide +kernel
theorem dX12_days_36 : decode cX12_days 36 = .ok (.iload_n 3, 1) := by decide +kernel
theorem dX12_days_37 : decode cX12_days 37 = .ok (.i2l, 1) := by decide +kernel
theorem dX12_days_38 : decode cX12_days 38 = .ok (.lconst 0, 1) := by decide +kernel
theorem dX12_days_39 : decode cX12_days 39 = .ok (.ldc2_w 392, 3) := by decide +kernel
theorem dX12_days_42 : decode cX12_days 42 = .ok (.invokestatic 122, 3) := by decide +kernel
theorem dX12_days_45 : decode cX12_days 45 = .ok (.ifCond .ne 9, 3) := by decide +kernel
theorem dX12_days_48 : decode cX12_days 48 = .ok (.aload_n 0, 1) := by decide +kernel
theorem dX12_days_49 : decode cX12_days 49 = .ok (.iconst 5, 1) := by decide +kernel
theorem dX12_days_50 : decode cX12_days 50 = .ok (.invokevirtual 351, 3) := by decide +kernel
theorem dX12_days_53 : decode cX12_days 53 = .ok (.ireturn, 1) := by decide +kernel
theorem dX12_days_54 : decode cX12_days 54 = .ok (.aload_n 0, 1) := by decide +kernel
theorem dX12_days_55 : decode cX12_days 55 = .ok (.iconst 0, 1) := by decide +kernel
theorem dX12_days_56 : decode cX12_days 56 = .ok (.putfield 375, 3) := by decide +kernel
theorem dX12_days_59 : decode cX12_days 59 = .ok (.iload_n 2, 1) := by decide +kernel
theorem dX12_days_60 : decode cX12_days 60 = .ok (.iconst 1, 1) := by decide +kernel
theorem dX12_days_61 : decode cX12_days 61 = .ok (.if_icmp .le 87, 3) := by decide +kernel
theorem dX12_days_64 : decode cX12_days 64 = .ok (.aload_n 0, 1) := by decide +kernel
theorem dX12_days_65 : decode cX12_days 65 = .ok (.iload_n 2, 1) := by decide +kernel
theorem dX12_days_66 : decode cX12_days 66 = .ok (.iconst 1, 1) := by decide +kernel
theorem dX12_days_67 : decode cX12_days 67 = .ok (.isub, 1) := by decide +kernel
theorem dX12_days_68 : decode cX12_days 68 = .ok (.iload_n 3, 1) := by decide +kernel
theorem dX12_days_69 : decode cX12_days 69 = .ok (.iconst 1, 1) := by decide +kernel
theorem dX12_days_70 : decode cX12_days 70 = .ok (.iadd, 1) := by decide +kernel
theorem dX12_days_71 : decode cX12_days 71 = .ok (.invokevirtual 462, 3) := by decide +kernel
theorem dX12_days_74 : decode cX12_days 74 = .ok (.iconst 0, 1) := by decide +kernel
theorem dX12_days_75 : decode cX12_days 75 = .ok (.istore 4, 2) := by decide +kernel
theorem dX12_days_77 : decode cX12_days 77 = .ok (.iload 4, 2) := by decide +kernel
theorem dX12_days_79 : decode cX12_days 79 = .ok (.sipush 256, 3) := by decide +kernel
theorem dX12_days_82 : decode cX12_days 82 = .ok (.if_icmp .ge 23, 3) := by decide +kernel
theorem dX12_days_85 : decode cX12_days 85 = .ok (.aload_n 0, 1) := by decide +kernel
theorem dX12_days_86 : decode cX12_days 86 = .ok (.getfield 75, 3) := by decide +kernel
theorem dX12_days_89 : decode cX12_days 89 = .ok (.iload 4, 2) := by decide +kernel
theorem dX12_days_91 : decode cX12_days 91 = .ok (.aload_n 0, 1) := by decide +kernel
theorem dX12_days_92 : decode cX12_days 92 = .ok (.getfield 48, 3) := by decide +kernel
theorem dX12_days_95 : decode cX12_days 95 = .ok (.iload 4, 2) := by decide +kernel
theorem dX12_days_97 : decode cX12_days 97 = .ok (.iaload, 1) := by decide +kernel
theorem dX12_days_98 : decode cX12_days 98 = .ok (.iastore, 1) := by decide +kernel
theorem dX12_days_99 : decode cX12_days 99 = .ok (.iinc 4 1, 3) := by decide +kernel
theorem dX12_days_102 : decode cX12_days 102 = .ok (.goto (-25), 3) := by decide +kernel
theorem dX12_days_105 : decode cX12_days 105 = .ok (.iconst 0, 1) := by decide +kernel
theorem dX12_days_106 : decode cX12_days 106 = .ok (.istore 4, 2) := by decide +kernel
theorem dX12_days_108 : decode cX12_days 108 = .ok (.iload 4, 2) := by decide +kernel
theorem dX12_days_110 : decode cX12_days 110 = .ok (.iconst 1, 1) := by decide +kernel
theorem dX12_days_111 : decode cX12_days 111 = .ok (.aload_n 0, 1) := by decide +kernel
theorem dX12_days_112 : decode cX12_days 112 = .ok (.getfield 35, 3) := by decide +kernel
theorem dX12_days_115 : decode cX12_days 115 = .ok (.iconst 0, 1) := by decide +kernel
theorem dX12_days_116 : decode cX12_days 116 = .ok (.iaload, 1) := by decide +kernel
theorem dX12_days_117 : decode cX12_days 117 = .ok (.ishl, 1) := by decide +kernel
theorem dX12_days_118 : decode cX12_days 118 = .ok (.if_icmp .ge 23, 3) := by decide +kernel
theorem dX12_days_121 : decode cX12_days 121 = .ok (.aload_n 0, 1) := by decide +kernel
theorem dX12_days_122 : decode cX12_days 122 = .ok (.getfield 51, 3) := by decide +kernel
theorem dX12_days_125 : decode cX12_days 125 = .ok (.iload 4, 2) := by decide +kernel
theorem dX12_days_127 : decode cX12_days 127 = .ok (.aload_n 0, 1) := by decide +kernel
theorem dX12_days_128 : decode cX12_days 128 = .ok (.iload 4, 2) := by decide +kernel
theorem dX12_days_130 : decode cX12_days 130 = .ok (.iload_n 3, 1) := by decide +kernel
theorem dX12_days_131 : decode cX12_days 131 = .ok (.invokevirtual 457, 3) := by decide +kernel
theorem dX12_days_134 : decode cX12_days 134 = .ok (.iastore, 1) := by decide +kernel
theorem dX12_days_135 : decode cX12_days 135 = .ok (.iinc 4 1, 3) := by decide +kernel
theorem dX12_days_138 : decode cX12_days 138 = .ok (.goto (-30), 3) := by decide +kernel
theorem dX12_days_141 : decode cX12_days 141 = .ok (.aload_n 0, 1) := by decide +kernel
theorem dX12_days_142 : decode cX12_days 142 = .ok (.invokevirtual 451, 3) := by decide +kernel
theorem dX12_days_145 : decode cX12_days 145 = .ok (.goto 9, 3) := by decide +kernel
theorem dX12_days_148 : decode cX12_days 148 = .ok (.aload_n 0, 1) := by decide +kernel
theorem dX12_days_149 : decode cX12_days 149 = .ok (.iconst 1, 1) := by decide +kernel
theorem dX12_days_150 : decode cX12_days 150 = .ok (.iload_n 3, 1) := by decide +kernel
theorem dX12_days_151 : decode cX12_days 151 = .ok (.invokevirtual 462, 3) := by decide +kernel
theorem dX12_days_154 : decode cX12_days 154 = .ok (.aload_n 0, 1) := by decide +kernel
theorem dX12_days_155 : decode cX12_days 155 = .ok (.iload_n 1, 1) := by decide +kernel
theorem dX12_days_156 : decode cX12_days 156 = .ok (.iconst 0, 1) := by decide +kernel
theorem dX12_days_157 : decode cX12_days 157 = .ok (.invokevirtual 454, 3) := by decide +kernel
theorem dX12_days_160 : decode cX12_days 160 = .ok (.istore 4, 2) := by decide +kernel
theorem dX12_days_162 : decode cX12_days 162 = .ok (.aload_n 0, 1) := by decide +kernel
theorem dX12_days_163 : decode cX12_days 163 = .ok (.iload_n 2, 1) := by decide +kernel
theorem dX12_days_164 : decode cX12_days 164 = .ok (.iconst 1, 1) := by decide +kernel
theorem dX12_days_165 : decode cX12_days 165 = .ok (.if_icmp .le 7, 3) := by decide +kernel
theorem dX12_days_168 : decode cX12_days 168 = .ok (.iconst 1, 1) := by decide +kernel
theorem dX12_days_169 : decode cX12_days 169 = .ok (.goto 4, 3) := by decide +kernel
theorem dX12_days_172 : decode cX12_days 172 = .ok (.iconst 0, 1) := by decide +kernel
theorem dX12_days_173 : decode cX12_days 173 = .ok (.putfield 465, 3) := by decide +kernel
theorem dX12_days_176 : decode cX12_days 176 = .ok (.iload_n 2, 1) := by decide +kernel
theorem dX12_days_177 : decode cX12_days 177 = .ok (.iconst 1, 1) := by decide +kernel
theorem dX12_days_178 : decode cX12_days 178 = .ok (.if_icmp .le 10, 3) := by decide +kernel
theorem dX12_days_181 : decode cX12_days 181 = .ok (.aload_n 0, 1) := by decide +kernel
theorem dX12_days_182 : decode cX12_days 182 = .ok (.iload 4, 2) := by decide +kernel
theorem dX12_days_184 : decode cX12_days 184 = .ok (.iload_n 3, 1) := by decide +kernel
theorem dX12_days_185 : decode cX12_days 185 = .ok (.invokevirtual 469, 3) := by decide +kernel
theorem dX12_days_188 : decode cX12_days 188 = .ok (.aload_n 0, 1) := by decide +kernel
theorem dX12_days_189 : decode cX12_days 189 = .ok (.getfield 45, 3) := by decide +kernel
theorem dX12_days_192 : decode cX12_days 192 = .ok (.iload_n 1, 1) := by decide +kernel
theorem dX12_days_193 : decode cX12_days 193 = .ok (.iaload, 1) := by decide +kernel
theorem dX12_days_194 : decode cX12_days 194 = .ok (.ireturn, 1) := by decide +kernel
theorem dX12_step_0 : decode cX12_step 0 = .ok (.aload_n 0, 1) := by decide +kernel
theorem dX12_step_1 : decode cX12_step 1 = .ok (.iconst 0, 1) := by decide +kernel
theorem dX12_step_2 : decode cX12_step 2 = .ok (.putfield 87, 3) := by decide +kernel
theorem dX12_step_5 : decode cX12_step 5 = .ok (.aload_n 0, 1) := by decide +kernel
theorem dX12_step_6 : decode cX12_step 6 = .ok (.iconst 0, 1) := by decide +kernel
theorem dX12_step_7 : decode cX12_step 7 = .ok (.putfield 90, 3) := by decide +kernel
theorem dX12_step_10 : decode cX12_step 10 = .ok (.iload_n 1, 1) := by decide +kernel
theorem dX12_step_11 : decode cX12_step 11 = .ok (.i2l, 1) := by decide +kernel
theorem dX12_step_12 : decode cX12_step 12 = .ok (.lconst 0, 1) := by decide +kernel
theorem dX12_step_13 : decode cX12_step 13 = .ok (.aload_n 0, 1) := by decide +kernel
theorem dX12_step_14 : decode cX12_step 14 = .ok (.getfield 445, 3) := by decide +kernel
theorem dX12_step_17 : decode cX12_step 17 = .ok (.iconst 1, 1) := by decide +kernel
theorem dX12_step_18 : decode cX12_step 18 = .ok (.isub, 1) := by decide +kernel
theorem dX12_step_19 : decode cX12_step 19 = .ok (.i2l, 1) := by decide +kernel
theorem dX12_step_20 : decode cX12_step 20 = .ok (.invokestatic 122, 3) := by decide +kernel
theorem dX12_step_23 : decode cX12_step 23 = .ok (.ifCond .eq 12, 3) := by decide +kernel
theorem dX12_step_26 : decode cX12_step 26 = .ok (.aload_n 0, 1) := by decide +kernel
theorem dX12_step_27 : decode cX12_step 27 = .ok (.getfield 54, 3) := by decide +kernel
theorem dX12_step_30 : decode cX12_step 30 = .ok (.iload_n 1, 1) := by decide +kernel
theorem dX12_step_31 : decode cX12_step 31 = .ok (.iaload, 1) := by decide +kernel
theorem dX12_step_32 : decode cX12_step 32 = .ok (.goto 9, 3) := by decide +kernel
theorem dX12_step_35 : decode cX12_step 35 = .ok (.aload_n 0, 1) := by decide +kernel
theorem dX12_step_36 : decode cX12_step 36 = .ok (.bipush 8, 2) := by decide +kernel
theorem dX12_step_38 : decode cX12_step 38 = .ok (.invokevirtual 351, 3) := by decide +kernel
theorem dX12_step_41 : decode cX12_step 41 = .ok (.ireturn, 1) := by decide +kernel
theorem dX12_stepTime_0 : decode cX12_stepTime 0 = .ok (.aload_n 0, 1) := by decide +kernel
theorem dX12_stepTime_1 : decode cX12_stepTime 1 = .ok (.iconst 0, 1) := by decide +kernel
theorem dX12_stepTime_2 : decode cX12_stepTime 2 = .ok (.putfield 87, 3) := by decide +kernel
theorem dX12_stepTime_5 : decode cX12_stepTime 5 = .ok (.aload_n 0, 1) := by decide +kernel
theorem dX12_stepTime_6 : decode cX12_stepTime 6 = .ok (.iconst 0, 1) := by decide +kernel
theorem dX12_stepTime_7 : decode cX12_stepTime 7 = .ok (.putfield 90, 3) := by decide +kernel
theorem dX12_stepTime_10 : decode cX12_stepTime 10 = .ok (.iload_n 1, 1) := by decide +kernel
theorem dX12_stepTime_11 : decode cX12_stepTime 11 = .ok (.i2l, 1) := by decide +kernel
theorem dX12_stepTime_12 : decode cX12_stepTime 12 = .ok (.lconst 0, 1) := by decide +kernel
theorem dX12_stepTime_13 : decode cX12_stepTime 13 = .ok (.aload_n 0, 1) := by decide +kernel
theorem dX12_stepTime_14 : decode cX12_stepTime 14 = .ok (.getfield 445, 3) := by decide +kernel
theorem dX12_stepTime_17 : decode cX12_stepTime 17 = .ok (.iconst 1, 1) := by decide +kernel
theorem dX12_stepTime_18 : decode cX12_stepTime 18 = .ok (.isub, 1) := by decide +kernel
theorem dX12_stepTime_19 : decode cX12_stepTime 19 = .ok (.i2l, 1) := by decide +kernel
theorem dX12_stepTime_20 : decode cX12_stepTime 20 = .ok (.invokestatic 122, 3) := by decide +kernel
theorem dX12_stepTime_23 : decode cX12_stepTime 23 = .ok (.ifCond .eq 12, 3) := by decide +kernel
theorem dX12_stepTime_26 : decode cX12_stepTime 26 = .ok (.aload_n 0, 1) := by decide +kernel
theorem dX12_stepTime_27 : decode cX12_stepTime 27 = .ok (.getfield 57, 3) := by decide +kernel
theorem dX12_stepTime_30 : decode cX12_stepTime 30 = .ok (.iload_n 1, 1) := by decide +kernel
theorem dX12_stepTime_31 : decode cX12_stepTime 31 = .ok (.iaload, 1) := by decide +kernel
theorem dX12_stepTime_32 : decode cX12_stepTime 32 = .ok (.goto 9, 3) := by decide +kernel
theorem dX12_stepTime_35 : decode cX12_stepTime 35 = .ok (.aload_n 0, 1) := by decide +kernel
theorem dX12_stepTime_36 : decode cX12_stepTime 36 = .ok (.bipush 8, 2) := by decide +kernel
theorem dX12_stepTime_38 : decode cX12_stepTime 38 = .ok (.invokevirtual 351, 3) := by decide +kernel
theorem dX12_stepTime_41 : decode cX12_stepTime 41 = .ok (.ireturn, 1) := by decide +kernel
theorem dX12_firstNight_0 : decode cX12_firstNight 0 = .ok (.aload_n 0, 1) := by decide +kernel
theorem dX12_firstNight_1 : decode cX12_firstNight 1 = .ok (.iconst 0, 1) := by decide +kernel
theorem dX12_firstNight_2 : decode cX12_firstNight 2 = .ok (.putfield 87, 3) := by decide +kernel
theorem dX12_firstNight_5 : decode cX12_firstNight 5 = .ok (.aload_n 0, 1) := by decide +kernel
theorem dX12_firstNight_6 : decode cX12_firstNight 6 = .ok (.iconst 0, 1) := by decide +kernel
theorem dX12_firstNight_7 : decode cX12_firstNight 7 = .ok (.putfield 90, 3) := by decide +kernel
theorem dX12_firstNight_10 : decode cX12_firstNight 10 = .ok (.iload_n 1, 1) := by decide +kernel
theorem dX12_firstNight_11 : decode cX12_firstNight 11 = .ok (.i2l, 1) := by decide +kernel
theorem dX12_firstNight_12 : decode cX12_firstNight 12 = .ok (.lconst 0, 1) := by decide +kernel
theorem dX12_firstNight_13 : decode cX12_firstNight 13 = .ok (.ldc2_w 120, 3) := by decide +kernel
theorem dX12_firstNight_16 : decode cX12_firstNight 16 = .ok (.invokestatic 122, 3) := by decide +kernel
theorem dX12_firstNight_19 : decode cX12_firstNight 19 = .ok (.ifCond .ne 9, 3) := by decide +kernel
theorem dX12_firstNight_22 : decode cX12_firstNight 22 = .ok (.aload_n 0, 1) := by decide +kernel
theorem dX12_firstNight_23 : decode cX12_firstNight 23 = .ok (.iconst 5, 1) := by decide +kernel
theorem dX12_firstNight_24 : decode cX12_firstNight 24 = .ok (.invokevirtual 351, 3) := by decide +kernel
theorem dX12_firstNight_27 : decode cX12_firstNight 27 = .ok (.ireturn, 1) := by decide +kernel
theorem dX12_firstNight_28 : decode cX12_firstNight 28 = .ok (.aload_n 0, 1) := by decide +kernel
theorem dX12_firstNight_29 : decode cX12_firstNight 29 = .ok (.getfield 465, 3) := by decide +kernel
theorem dX12_firstNight_32 : decode cX12_firstNight 32 = .ok (.ifCond .eq 12, 3) := by decide +kernel
theorem dX12_firstNight_35 : decode cX12_firstNight 35 = .ok (.aload_n 0, 1) := by decide +kernel
theorem dX12_firstNight_36 : decode cX12_firstNight 36 = .ok (.getfield 60, 3) := by decide +kernel
theorem dX12_firstNight_39 : decode cX12_firstNight 39 = .ok (.iload_n 1, 1) := by decide +kernel
theorem dX12_firstNight_40 : decode cX12_firstNight 40 = .ok (.iaload, 1) := by decide +kernel
theorem dX12_firstNight_41 : decode cX12_firstNight 41 = .ok (.goto 9, 3) := by decide +kernel
theorem dX12_firstNight_44 : decode cX12_firstNight 44 = .ok (.aload_n 0, 1) := by decide +kernel
theorem dX12_firstNight_45 : decode cX12_firstNight 45 = .ok (.bipush 8, 2) := by decide +kernel
theorem dX12_firstNight_47 : decode cX12_firstNight 47 = .ok (.invokevirtual 351, 3) := by decide +kernel
theorem dX12_firstNight_50 : decode cX12_firstNight 50 = .ok (.ireturn, 1) := by decide +kernel
theorem dX12_price_0 : decode cX12_price 0 = .ok (.aload_n 0, 1) := by decide +kernel
theorem dX12_price_1 : decode cX12_price 1 = .ok (.iconst 0, 1) := by decide +kernel
theorem dX12_price_2 : decode cX12_price 2 = .ok (.putfield 87, 3) := by decide +kernel
theorem dX12_price_5 : decode cX12_price 5 = .ok (.aload_n 0, 1) := by decide +kernel
theorem dX12_price_6 : decode cX12_price 6 = .ok (.iconst 0, 1) := by decide +kernel
theorem dX12_price_7 : decode cX12_price 7 = .ok (.putfield 90, 3) := by decide +kernel
theorem dX12_price_10 : decode cX12_price 10 = .ok (.aload_n 0, 1) := by decide +kernel
theorem dX12_price_11 : decode cX12_price 11 = .ok (.iload_n 1, 1) := by decide +kernel
theorem dX12_price_12 : decode cX12_price 12 = .ok (.invokevirtual 357, 3) := by decide +kernel
theorem dX12_price_15 : decode cX12_price 15 = .ok (.ifCond .eq 11, 3) := by decide +kernel
theorem dX12_price_18 : decode cX12_price 18 = .ok (.aload_n 0, 1) := by decide +kernel
theorem dX12_price_19 : decode cX12_price 19 = .ok (.iload_n 3, 1) := by decide +kernel
theorem dX12_price_20 : decode cX12_price 20 = .ok (.invokevirtual 386, 3) := by decide +kernel
theorem dX12_price_23 : decode cX12_price 23 = .ok (.ifCond .ne 9, 3) := by decide +kernel
theorem dX12_price_26 : decode cX12_price 26 = .ok (.aload_n 0, 1) := by decide +kernel
theorem dX12_price_27 : decode cX12_price 27 = .ok (.iconst 2, 1) := by decide +kernel
theorem dX12_price_28 : decode cX12_price 28 = .ok (.invokevirtual 351, 3) := by decide +kernel
theorem dX12_price_31 : decode cX12_price 31 = .ok (.ireturn, 1) := by decide +kernel
theorem dX12_price_32 : decode cX12_price 32 = .ok (.iload_n 2, 1) := by decide +kernel
theorem dX12_price_33 : decode cX12_price 33 = .ok (.i2l, 1) := by decide +kernel
theorem dX12_price_34 : decode cX12_price 34 = .ok (.lconst 0, 1) := by decide +kernel
theorem dX12_price_35 : decode cX12_price 35 = .ok (.ldc2_w 419, 3) := by decide +kernel
theorem dX12_price_38 : decode cX12_price 38 = .ok (.invokestatic 122, 3) := by decide +kernel
theorem dX12_price_41 : decode cX12_price 41 = .ok (.ifCond .ne 9, 3) := by decide +kernel
theorem dX12_price_44 : decode cX12_price 44 = .ok (.aload_n 0, 1) := by decide +kernel
theorem dX12_price_45 : decode cX12_price 45 = .ok (.iconst 5, 1) := by decide +kernel
theorem dX12_price_46 : decode cX12_price 46 = .ok (.invokevirtual 351, 3) := by decide +kernel
theorem dX12_price_49 : decode cX12_price 49 = .ok (.ireturn, 1) := by decide +kernel
theorem dX12_price_50 : decode cX12_price 50 = .ok (.aload_n 0, 1) := by decide +kernel
theorem dX12_price_51 : decode cX12_price 51 = .ok (.invokevirtual 448, 3) := by decide +kernel
theorem dX12_price_54 : decode cX12_price 54 = .ok (.aload_n 0, 1) := by decide +kernel
theorem dX12_price_55 : decode cX12_price 55 = .ok (.invokevirtual 451, 3) := by decide +kernel
theorem dX12_price_58 : decode cX12_price 58 = .ok (.aload_n 0, 1) := by decide +kernel
theorem dX12_price_59 : decode cX12_price 59 = .ok (.getfield 45, 3) := by decide +kernel
theorem dX12_price_62 : decode cX12_price 62 = .ok (.sipush 256, 3) := by decide +kernel
theorem dX12_price_65 : decode cX12_price 65 = .ok (.iload_n 2, 1) := by decide +kernel
theorem dX12_price_66 : decode cX12_price 66 = .ok (.imul, 1) := by decide +kernel
theorem dX12_price_67 : decode cX12_price 67 = .ok (.iload_n 3, 1) := by decide +kernel
theorem dX12_price_68 : decode cX12_price 68 = .ok (.iconst 1, 1) := by decide +kernel
theorem dX12_price_69 : decode cX12_price 69 = .ok (.iload_n 1, 1) := by decide +kernel
theorem dX12_price_70 : decode cX12_price 70 = .ok (.ishl, 1) := by decide +kernel
theorem dX12_price_71 : decode cX12_price 71 = .ok (.ior, 1) := by decide +kernel
theorem dX12_price_72 : decode cX12_price 72 = .ok (.iadd, 1) := by decide +kernel
theorem dX12_price_73 : decode cX12_price 73 = .ok (.iaload, 1) := by decide +kernel
theorem dX12_price_74 : decode cX12_price 74 = .ok (.aload_n 0, 1) := by decide +kernel
theorem dX12_price_75 : decode cX12_price 75 = .ok (.getfield 45, 3) := by decide +kernel
theorem dX12_price_78 : decode cX12_price 78 = .ok (.sipush 256, 3) := by decide +kernel
theorem dX12_price_81 : decode cX12_price 81 = .ok (.iload_n 2, 1) := by decide +kernel
theorem dX12_price_82 : decode cX12_price 82 = .ok (.imul, 1) := by decide +kernel
theorem dX12_price_83 : decode cX12_price 83 = .ok (.iload_n 3, 1) := by decide +kernel
theorem dX12_price_84 : decode cX12_price 84 = .ok (.iconst 1, 1) := by decide +kernel
theorem dX12_price_85 : decode cX12_price 85 = .ok (.iload_n 1, 1) := by decide +kernel
theorem dX12_price_86 : decode cX12_price 86 = .ok (.ishl, 1) := by decide +kernel
theorem dX12_price_87 : decode cX12_price 87 = .ok (.iconst (-1), 1) := by decide +kernel
theorem dX12_price_88 : decode cX12_price 88 = .ok (.ixor, 1) := by decide +kernel
theorem dX12_price_89 : decode cX12_price 89 = .ok (.iand, 1) := by decide +kernel
theorem dX12_price_90 : decode cX12_price 90 = .ok (.iadd, 1) := by decide +kernel
theorem dX12_price_91 : decode cX12_price 91 = .ok (.iaload, 1) := by decide +kernel
theorem dX12_price_92 : decode cX12_price 92 = .ok (.isub, 1) := by decide +kernel
theorem dX12_price_93 : decode cX12_price 93 = .ok (.ireturn, 1) := by decide +kernel
theorem dX12_keptOf_0 : decode cX12_keptOf 0 = .ok (.aload_n 0, 1) := by decide +kernel
theorem dX12_keptOf_1 : decode cX12_keptOf 1 = .ok (.iconst 0, 1) := by decide +kernel
theorem dX12_keptOf_2 : decode cX12_keptOf 2 = .ok (.putfield 375, 3) := by decide +kernel
theorem dX12_keptOf_5 : decode cX12_keptOf 5 = .ok (.aload_n 0, 1) := by decide +kernel
theorem dX12_keptOf_6 : decode cX12_keptOf 6 = .ok (.iload_n 2, 1) := by decide +kernel
theorem dX12_keptOf_7 : decode cX12_keptOf 7 = .ok (.iconst 0, 1) := by decide +kernel
theorem dX12_keptOf_8 : decode cX12_keptOf 8 = .ok (.invokevirtual 462, 3) := by decide +kernel
theorem dX12_keptOf_11 : decode cX12_keptOf 11 = .ok (.aload_n 0, 1) := by decide +kernel
theorem dX12_keptOf_12 : decode cX12_keptOf 12 = .ok (.getfield 45, 3) := by decide +kernel
theorem dX12_keptOf_15 : decode cX12_keptOf 15 = .ok (.iconst 1, 1) := by decide +kernel
theorem dX12_keptOf_16 : decode cX12_keptOf 16 = .ok (.iload_n 1, 1) := by decide +kernel
theorem dX12_keptOf_17 : decode cX12_keptOf 17 = .ok (.ishl, 1) := by decide +kernel
theorem dX12_keptOf_18 : decode cX12_keptOf 18 = .ok (.iaload, 1) := by decide +kernel
theorem dX12_keptOf_19 : decode cX12_keptOf 19 = .ok (.aload_n 0, 1) := by decide +kernel
theorem dX12_keptOf_20 : decode cX12_keptOf 20 = .ok (.getfield 45, 3) := by decide +kernel
theorem dX12_keptOf_23 : decode cX12_keptOf 23 = .ok (.iconst 0, 1) := by decide +kernel
theorem dX12_keptOf_24 : decode cX12_keptOf 24 = .ok (.iaload, 1) := by decide +kernel
theorem dX12_keptOf_25 : decode cX12_keptOf 25 = .ok (.isub, 1) := by decide +kernel
theorem dX12_keptOf_26 : decode cX12_keptOf 26 = .ok (.ireturn, 1) := by decide +kernel
theorem dX12_kept_0 : decode cX12_kept 0 = .ok (.aload_n 0, 1) := by decide +kernel
theorem dX12_kept_1 : decode cX12_kept 1 = .ok (.iconst 0, 1) := by decide +kernel
theorem dX12_kept_2 : decode cX12_kept 2 = .ok (.putfield 87, 3) := by decide +kernel
theorem dX12_kept_5 : decode cX12_kept 5 = .ok (.aload_n 0, 1) := by decide +kernel
theorem dX12_kept_6 : decode cX12_kept 6 = .ok (.iconst 0, 1) := by decide +kernel
theorem dX12_kept_7 : decode cX12_kept 7 = .ok (.putfield 90, 3) := by decide +kernel
theorem dX12_kept_10 : decode cX12_kept 10 = .ok (.aload_n 0, 1) := by decide +kernel
theorem dX12_kept_11 : decode cX12_kept 11 = .ok (.iload_n 1, 1) := by decide +kernel
theorem dX12_kept_12 : decode cX12_kept 12 = .ok (.invokevirtual 357, 3) := by decide +kernel
theorem dX12_kept_15 : decode cX12_kept 15 = .ok (.ifCond .ne 9, 3) := by decide +kernel
theorem dX12_kept_18 : decode cX12_kept 18 = .ok (.aload_n 0, 1) := by decide +kernel
theorem dX12_kept_19 : decode cX12_kept 19 = .ok (.iconst 2, 1) := by decide +kernel
theorem dX12_kept_20 : decode cX12_kept 20 = .ok (.invokevirtual 351, 3) := by decide +kernel
theorem dX12_kept_23 : decode cX12_kept 23 = .ok (.ireturn, 1) := by decide +kernel
theorem dX12_kept_24 : decode cX12_kept 24 = .ok (.iload_n 2, 1) := by decide +kernel
theorem dX12_kept_25 : decode cX12_kept 25 = .ok (.i2l, 1) := by decide +kernel
theorem dX12_kept_26 : decode cX12_kept 26 = .ok (.lconst 1, 1) := by decide +kernel
theorem dX12_kept_27 : decode cX12_kept 27 = .ok (.ldc2_w 460, 3) := by decide +kernel
theorem dX12_kept_30 : decode cX12_kept 30 = .ok (.invokestatic 122, 3) := by decide +kernel
theorem dX12_kept_33 : decode cX12_kept 33 = .ok (.ifCond .eq 12, 3) := by decide +kernel
theorem dX12_kept_36 : decode cX12_kept 36 = .ok (.aload_n 0, 1) := by decide +kernel
theorem dX12_kept_37 : decode cX12_kept 37 = .ok (.iload_n 1, 1) := by decide +kernel
theorem dX12_kept_38 : decode cX12_kept 38 = .ok (.iload_n 2, 1) := by decide +kernel
theorem dX12_kept_39 : decode cX12_kept 39 = .ok (.invokevirtual 472, 3) := by decide +kernel
theorem dX12_kept_42 : decode cX12_kept 42 = .ok (.goto 8, 3) := by decide +kernel
theorem dX12_kept_45 : decode cX12_kept 45 = .ok (.aload_n 0, 1) := by decide +kernel
theorem dX12_kept_46 : decode cX12_kept 46 = .ok (.iconst 5, 1) := by decide +kernel
theorem dX12_kept_47 : decode cX12_kept 47 = .ok (.invokevirtual 351, 3) := by decide +kernel
theorem dX12_kept_50 : decode cX12_kept 50 = .ok (.ireturn, 1) := by decide +kernel
theorem dX12_bestKept_0 : decode cX12_bestKept 0 = .ok (.aload_n 0, 1) := by decide +kernel
theorem dX12_bestKept_1 : decode cX12_bestKept 1 = .ok (.iconst 0, 1) := by decide +kernel
theorem dX12_bestKept_2 : decode cX12_bestKept 2 = .ok (.putfield 87, 3) := by decide +kernel
theorem dX12_bestKept_5 : decode cX12_bestKept 5 = .ok (.aload_n 0, 1) := by decide +kernel
theorem dX12_bestKept_6 : decode cX12_bestKept 6 = .ok (.iconst 0, 1) := by decide +kernel
theorem dX12_bestKept_7 : decode cX12_bestKept 7 = .ok (.putfield 90, 3) := by decide +kernel
theorem dX12_bestKept_10 : decode cX12_bestKept 10 = .ok (.iload_n 1, 1) := by decide +kernel
theorem dX12_bestKept_11 : decode cX12_bestKept 11 = .ok (.i2l, 1) := by decide +kernel
theorem dX12_bestKept_12 : decode cX12_bestKept 12 = .ok (.lconst 1, 1) := by decide +kernel
theorem dX12_bestKept_13 : decode cX12_bestKept 13 = .ok (.ldc2_w 460, 3) := by decide +kernel
theorem dX12_bestKept_16 : decode cX12_bestKept 16 = .ok (.invokestatic 122, 3) := by decide +kernel
theorem dX12_bestKept_19 : decode cX12_bestKept 19 = .ok (.ifCond .ne 9, 3) := by decide +kernel
theorem dX12_bestKept_22 : decode cX12_bestKept 22 = .ok (.aload_n 0, 1) := by decide +kernel
theorem dX12_bestKept_23 : decode cX12_bestKept 23 = .ok (.iconst 5, 1) := by decide +kernel
theorem dX12_bestKept_24 : decode cX12_bestKept 24 = .ok (.invokevirtual 351, 3) := by decide +kernel
theorem dX12_bestKept_27 : decode cX12_bestKept 27 = .ok (.ireturn, 1) := by decide +kernel
theorem dX12_bestKept_28 : decode cX12_bestKept 28 = .ok (.aload_n 0, 1) := by decide +kernel
theorem dX12_bestKept_29 : decode cX12_bestKept 29 = .ok (.getfield 35, 3) := by decide +kernel
theorem dX12_bestKept_32 : decode cX12_bestKept 32 = .ok (.iconst 0, 1) := by decide +kernel
theorem dX12_bestKept_33 : decode cX12_bestKept 33 = .ok (.iaload, 1) := by decide +kernel
theorem dX12_bestKept_34 : decode cX12_bestKept 34 = .ok (.ifCond .ne 10, 3) := by decide +kernel
theorem dX12_bestKept_37 : decode cX12_bestKept 37 = .ok (.aload_n 0, 1) := by decide +kernel
theorem dX12_bestKept_38 : decode cX12_bestKept 38 = .ok (.bipush 8, 2) := by decide +kernel
theorem dX12_bestKept_40 : decode cX12_bestKept 40 = .ok (.invokevirtual 351, 3) := by decide +kernel
theorem dX12_bestKept_43 : decode cX12_bestKept 43 = .ok (.ireturn, 1) := by decide +kernel
theorem dX12_bestKept_44 : decode cX12_bestKept 44 = .ok (.aload_n 0, 1) := by decide +kernel
theorem dX12_bestKept_45 : decode cX12_bestKept 45 = .ok (.iconst 0, 1) := by decide +kernel
theorem dX12_bestKept_46 : decode cX12_bestKept 46 = .ok (.putfield 375, 3) := by decide +kernel
theorem dX12_bestKept_49 : decode cX12_bestKept 49 = .ok (.aload_n 0, 1) := by decide +kernel
theorem dX12_bestKept_50 : decode cX12_bestKept 50 = .ok (.iload_n 1, 1) := by decide +kernel
theorem dX12_bestKept_51 : decode cX12_bestKept 51 = .ok (.iconst 0, 1) := by decide +kernel
theorem dX12_bestKept_52 : decode cX12_bestKept 52 = .ok (.invokevirtual 462, 3) := by decide +kernel
theorem dX12_bestKept_55 : decode cX12_bestKept 55 = .ok (.iconst 0, 1) := by decide +kernel
theorem dX12_bestKept_56 : decode cX12_bestKept 56 = .ok (.istore_n 2, 1) := by decide +kernel
theorem dX12_bestKept_57 : decode cX12_bestKept 57 = .ok (.iconst 1, 1) := by decide +kernel
theorem dX12_bestKept_58 : decode cX12_bestKept 58 = .ok (.istore_n 3, 1) := by decide +kernel
theorem dX12_bestKept_59 : decode cX12_bestKept 59 = .ok (.iload_n 3, 1) := by decide +kernel
theorem dX12_bestKept_60 : decode cX12_bestKept 60 = .ok (.aload_n 0, 1) := by decide +kernel
theorem dX12_bestKept_61 : decode cX12_bestKept 61 = .ok (.getfield 35, 3) := by decide +kernel
theorem dX12_bestKept_64 : decode cX12_bestKept 64 = .ok (.iconst 0, 1) := by decide +kernel
theorem dX12_bestKept_65 : decode cX12_bestKept 65 = .ok (.iaload, 1) := by decide +kernel
theorem dX12_bestKept_66 : decode cX12_bestKept 66 = .ok (.if_icmp .ge 30, 3) := by decide +kernel
theorem dX12_bestKept_69 : decode cX12_bestKept 69 = .ok (.aload_n 0, 1) := by decide +kernel
theorem dX12_bestKept_70 : decode cX12_bestKept 70 = .ok (.getfield 45, 3) := by decide +kernel
theorem dX12_bestKept_73 : decode cX12_bestKept 73 = .ok (.iconst 1, 1) := by decide +kernel
theorem dX12_bestKept_74 : decode cX12_bestKept 74 = .ok (.iload_n 3, 1) := by decide +kernel
theorem dX12_bestKept_75 : decode cX12_bestKept 75 = .ok (.ishl, 1) := by decide +kernel
theorem dX12_bestKept_76 : decode cX12_bestKept 76 = .ok (.iaload, 1) := by decide +kernel
theorem dX12_bestKept_77 : decode cX12_bestKept 77 = .ok (.aload_n 0, 1) := by decide +kernel
theorem dX12_bestKept_78 : decode cX12_bestKept 78 = .ok (.getfield 45, 3) := by decide +kernel
theorem dX12_bestKept_81 : decode cX12_bestKept 81 = .ok (.iconst 1, 1) := by decide +kernel
theorem dX12_bestKept_82 : decode cX12_bestKept 82 = .ok (.iload_n 2, 1) := by decide +kernel
theorem dX12_bestKept_83 : decode cX12_bestKept 83 = .ok (.ishl, 1) := by decide +kernel
theorem dX12_bestKept_84 : decode cX12_bestKept 84 = .ok (.iaload, 1) := by decide +kernel
theorem dX12_bestKept_85 : decode cX12_bestKept 85 = .ok (.if_icmp .le 5, 3) := by decide +kernel
theorem dX12_bestKept_88 : decode cX12_bestKept 88 = .ok (.iload_n 3, 1) := by decide +kernel
theorem dX12_bestKept_89 : decode cX12_bestKept 89 = .ok (.istore_n 2, 1) := by decide +kernel
theorem dX12_bestKept_90 : decode cX12_bestKept 90 = .ok (.iinc 3 1, 3) := by decide +kernel
theorem dX12_bestKept_93 : decode cX12_bestKept 93 = .ok (.goto (-34), 3) := by decide +kernel
theorem dX12_bestKept_96 : decode cX12_bestKept 96 = .ok (.iload_n 2, 1) := by decide +kernel
theorem dX12_bestKept_97 : decode cX12_bestKept 97 = .ok (.ireturn, 1) := by decide +kernel
theorem dX12_withStays_0 : decode cX12_withStays 0 = .ok (.aload_n 0, 1) := by decide +kernel
theorem dX12_withStays_1 : decode cX12_withStays 1 = .ok (.iload_n 1, 1) := by decide +kernel
theorem dX12_withStays_2 : decode cX12_withStays 2 = .ok (.putfield 375, 3) := by decide +kernel
theorem dX12_withStays_5 : decode cX12_withStays 5 = .ok (.aload_n 0, 1) := by decide +kernel
theorem dX12_withStays_6 : decode cX12_withStays 6 = .ok (.iload_n 2, 1) := by decide +kernel
theorem dX12_withStays_7 : decode cX12_withStays 7 = .ok (.iconst 0, 1) := by decide +kernel
theorem dX12_withStays_8 : decode cX12_withStays 8 = .ok (.invokevirtual 462, 3) := by decide +kernel
theorem dX12_withStays_11 : decode cX12_withStays 11 = .ok (.aload_n 0, 1) := by decide +kernel
theorem dX12_withStays_12 : decode cX12_withStays 12 = .ok (.iconst 0, 1) := by decide +kernel
theorem dX12_withStays_13 : decode cX12_withStays 13 = .ok (.putfield 375, 3) := by decide +kernel
theorem dX12_withStays_16 : decode cX12_withStays 16 = .ok (.aload_n 0, 1) := by decide +kernel
theorem dX12_withStays_17 : decode cX12_withStays 17 = .ok (.getfield 45, 3) := by decide +kernel
theorem dX12_withStays_20 : decode cX12_withStays 20 = .ok (.iconst 0, 1) := by decide +kernel
theorem dX12_withStays_21 : decode cX12_withStays 21 = .ok (.iaload, 1) := by decide +kernel
theorem dX12_withStays_22 : decode cX12_withStays 22 = .ok (.ireturn, 1) := by decide +kernel
theorem dX12_more_0 : decode cX12_more 0 = .ok (.aload_n 0, 1) := by decide +kernel
theorem dX12_more_1 : decode cX12_more 1 = .ok (.iconst 0, 1) := by decide +kernel
theorem dX12_more_2 : decode cX12_more 2 = .ok (.putfield 87, 3) := by decide +kernel
theorem dX12_more_5 : decode cX12_more 5 = .ok (.aload_n 0, 1) := by decide +kernel
theorem dX12_more_6 : decode cX12_more 6 = .ok (.iconst 0, 1) := by decide +kernel
theorem dX12_more_7 : decode cX12_more 7 = .ok (.putfield 90, 3) := by decide +kernel
theorem dX12_more_10 : decode cX12_more 10 = .ok (.aload_n 0, 1) := by decide +kernel
theorem dX12_more_11 : decode cX12_more 11 = .ok (.iload_n 1, 1) := by decide +kernel
theorem dX12_more_12 : decode cX12_more 12 = .ok (.invokevirtual 357, 3) := by decide +kernel
theorem dX12_more_15 : decode cX12_more 15 = .ok (.ifCond .ne 9, 3) := by decide +kernel
theorem dX12_more_18 : decode cX12_more 18 = .ok (.aload_n 0, 1) := by decide +kernel
theorem dX12_more_19 : decode cX12_more 19 = .ok (.iconst 2, 1) := by decide +kernel
theorem dX12_more_20 : decode cX12_more 20 = .ok (.invokevirtual 351, 3) := by decide +kernel
theorem dX12_more_23 : decode cX12_more 23 = .ok (.ireturn, 1) := by decide +kernel
theorem dX12_more_24 : decode cX12_more 24 = .ok (.iload_n 2, 1) := by decide +kernel
theorem dX12_more_25 : decode cX12_more 25 = .ok (.i2l, 1) := by decide +kernel
theorem dX12_more_26 : decode cX12_more 26 = .ok (.lconst 1, 1) := by decide +kernel
theorem dX12_more_27 : decode cX12_more 27 = .ok (.ldc2_w 460, 3) := by decide +kernel
theorem dX12_more_30 : decode cX12_more 30 = .ok (.invokestatic 122, 3) := by decide +kernel
theorem dX12_more_33 : decode cX12_more 33 = .ok (.ifCond .eq 21, 3) := by decide +kernel
theorem dX12_more_36 : decode cX12_more 36 = .ok (.aload_n 0, 1) := by decide +kernel
theorem dX12_more_37 : decode cX12_more 37 = .ok (.iconst 1, 1) := by decide +kernel
theorem dX12_more_38 : decode cX12_more 38 = .ok (.iload_n 1, 1) := by decide +kernel
theorem dX12_more_39 : decode cX12_more 39 = .ok (.ishl, 1) := by decide +kernel
theorem dX12_more_40 : decode cX12_more 40 = .ok (.iload_n 2, 1) := by decide +kernel
theorem dX12_more_41 : decode cX12_more 41 = .ok (.invokevirtual 475, 3) := by decide +kernel
theorem dX12_more_44 : decode cX12_more 44 = .ok (.aload_n 0, 1) := by decide +kernel
theorem dX12_more_45 : decode cX12_more 45 = .ok (.iconst 0, 1) := by decide +kernel
theorem dX12_more_46 : decode cX12_more 46 = .ok (.iload_n 2, 1) := by decide +kernel
theorem dX12_more_47 : decode cX12_more 47 = .ok (.invokevirtual 475, 3) := by decide +kernel
theorem dX12_more_50 : decode cX12_more 50 = .ok (.isub, 1) := by decide +kernel
theorem dX12_more_51 : decode cX12_more 51 = .ok (.goto 8, 3) := by decide +kernel
theorem dX12_more_54 : decode cX12_more 54 = .ok (.aload_n 0, 1) := by decide +kernel
theorem dX12_more_55 : decode cX12_more 55 = .ok (.iconst 5, 1) := by decide +kernel
theorem dX12_more_56 : decode cX12_more 56 = .ok (.invokevirtual 351, 3) := by decide +kernel
theorem dX12_more_59 : decode cX12_more 59 = .ok (.ireturn, 1) := by decide +kernel
theorem dX12_bestMore_0 : decode cX12_bestMore 0 = .ok (.aload_n 0, 1) := by decide +kernel
theorem dX12_bestMore_1 : decode cX12_bestMore 1 = .ok (.iconst 0, 1) := by decide +kernel
theorem dX12_bestMore_2 : decode cX12_bestMore 2 = .ok (.putfield 87, 3) := by decide +kernel
theorem dX12_bestMore_5 : decode cX12_bestMore 5 = .ok (.aload_n 0, 1) := by decide +kernel
theorem dX12_bestMore_6 : decode cX12_bestMore 6 = .ok (.iconst 0, 1) := by decide +kernel
theorem dX12_bestMore_7 : decode cX12_bestMore 7 = .ok (.putfield 90, 3) := by decide +kernel
theorem dX12_bestMore_10 : decode cX12_bestMore 10 = .ok (.iload_n 1, 1) := by decide +kernel
theorem dX12_bestMore_11 : decode cX12_bestMore 11 = .ok (.i2l, 1) := by decide +kernel
theorem dX12_bestMore_12 : decode cX12_bestMore 12 = .ok (.lconst 1, 1) := by decide +kernel
theorem dX12_bestMore_13 : decode cX12_bestMore 13 = .ok (.ldc2_w 460, 3) := by decide +kernel
theorem dX12_bestMore_16 : decode cX12_bestMore 16 = .ok (.invokestatic 122, 3) := by decide +kernel
theorem dX12_bestMore_19 : decode cX12_bestMore 19 = .ok (.ifCond .ne 9, 3) := by decide +kernel
theorem dX12_bestMore_22 : decode cX12_bestMore 22 = .ok (.aload_n 0, 1) := by decide +kernel
theorem dX12_bestMore_23 : decode cX12_bestMore 23 = .ok (.iconst 5, 1) := by decide +kernel
theorem dX12_bestMore_24 : decode cX12_bestMore 24 = .ok (.invokevirtual 351, 3) := by decide +kernel
theorem dX12_bestMore_27 : decode cX12_bestMore 27 = .ok (.ireturn, 1) := by decide +kernel
theorem dX12_bestMore_28 : decode cX12_bestMore 28 = .ok (.aload_n 0, 1) := by decide +kernel
theorem dX12_bestMore_29 : decode cX12_bestMore 29 = .ok (.getfield 35, 3) := by decide +kernel
theorem dX12_bestMore_32 : decode cX12_bestMore 32 = .ok (.iconst 0, 1) := by decide +kernel
theorem dX12_bestMore_33 : decode cX12_bestMore 33 = .ok (.iaload, 1) := by decide +kernel
theorem dX12_bestMore_34 : decode cX12_bestMore 34 = .ok (.ifCond .ne 10, 3) := by decide +kernel
theorem dX12_bestMore_37 : decode cX12_bestMore 37 = .ok (.aload_n 0, 1) := by decide +kernel
theorem dX12_bestMore_38 : decode cX12_bestMore 38 = .ok (.bipush 8, 2) := by decide +kernel
theorem dX12_bestMore_40 : decode cX12_bestMore 40 = .ok (.invokevirtual 351, 3) := by decide +kernel
theorem dX12_bestMore_43 : decode cX12_bestMore 43 = .ok (.ireturn, 1) := by decide +kernel
theorem dX12_bestMore_44 : decode cX12_bestMore 44 = .ok (.iconst 0, 1) := by decide +kernel
theorem dX12_bestMore_45 : decode cX12_bestMore 45 = .ok (.istore_n 2, 1) := by decide +kernel
theorem dX12_bestMore_46 : decode cX12_bestMore 46 = .ok (.aload_n 0, 1) := by decide +kernel
theorem dX12_bestMore_47 : decode cX12_bestMore 47 = .ok (.iconst 1, 1) := by decide +kernel
theorem dX12_bestMore_48 : decode cX12_bestMore 48 = .ok (.iload_n 1, 1) := by decide +kernel
theorem dX12_bestMore_49 : decode cX12_bestMore 49 = .ok (.invokevirtual 475, 3) := by decide +kernel
theorem dX12_bestMore_52 : decode cX12_bestMore 52 = .ok (.istore_n 3, 1) := by decide +kernel
theorem dX12_bestMore_53 : decode cX12_bestMore 53 = .ok (.iconst 1, 1) := by decide +kernel
theorem dX12_bestMore_54 : decode cX12_bestMore 54 = .ok (.istore 4, 2) := by decide +kernel
theorem dX12_bestMore_56 : decode cX12_bestMore 56 = .ok (.iload 4, 2) := by decide +kernel
theorem dX12_bestMore_58 : decode cX12_bestMore 58 = .ok (.aload_n 0, 1) := by decide +kernel
theorem dX12_bestMore_59 : decode cX12_bestMore 59 = .ok (.getfield 35, 3) := by decide +kernel
theorem dX12_bestMore_62 : decode cX12_bestMore 62 = .ok (.iconst 0, 1) := by decide +kernel
theorem dX12_bestMore_63 : decode cX12_bestMore 63 = .ok (.iaload, 1) := by decide +kernel
theorem dX12_bestMore_64 : decode cX12_bestMore 64 = .ok (.if_icmp .ge 35, 3) := by decide +kernel
theorem dX12_bestMore_67 : decode cX12_bestMore 67 = .ok (.aload_n 0, 1) := by decide +kernel
theorem dX12_bestMore_68 : decode cX12_bestMore 68 = .ok (.iconst 1, 1) := by decide +kernel
theorem dX12_bestMore_69 : decode cX12_bestMore 69 = .ok (.iload 4, 2) := by decide +kernel
theorem dX12_bestMore_71 : decode cX12_bestMore 71 = .ok (.ishl, 1) := by decide +kernel
theorem dX12_bestMore_72 : decode cX12_bestMore 72 = .ok (.iload_n 1, 1) := by decide +kernel
theorem dX12_bestMore_73 : decode cX12_bestMore 73 = .ok (.invokevirtual 475, 3) := by decide +kernel
theorem dX12_bestMore_76 : decode cX12_bestMore 76 = .ok (.istore 5, 2) := by decide +kernel
theorem dX12_bestMore_78 : decode cX12_bestMore 78 = .ok (.iload 5, 2) := by decide +kernel
theorem dX12_bestMore_80 : decode cX12_bestMore 80 = .ok (.iload_n 3, 1) := by decide +kernel
theorem dX12_bestMore_81 : decode cX12_bestMore 81 = .ok (.if_icmp .gt 6, 3) := by decide +kernel
theorem dX12_bestMore_84 : decode cX12_bestMore 84 = .ok (.goto 9, 3) := by decide +kernel
theorem dX12_bestMore_87 : decode cX12_bestMore 87 = .ok (.iload 5, 2) := by decide +kernel
theorem dX12_bestMore_89 : decode cX12_bestMore 89 = .ok (.istore_n 3, 1) := by decide +kernel
theorem dX12_bestMore_90 : decode cX12_bestMore 90 = .ok (.iload 4, 2) := by decide +kernel
theorem dX12_bestMore_92 : decode cX12_bestMore 92 = .ok (.istore_n 2, 1) := by decide +kernel
theorem dX12_bestMore_93 : decode cX12_bestMore 93 = .ok (.iinc 4 1, 3) := by decide +kernel
theorem dX12_bestMore_96 : decode cX12_bestMore 96 = .ok (.goto (-40), 3) := by decide +kernel
theorem dX12_bestMore_99 : decode cX12_bestMore 99 = .ok (.iload_n 2, 1) := by decide +kernel
theorem dX12_bestMore_100 : decode cX12_bestMore 100 = .ok (.ireturn, 1) := by decide +kernel
theorem dX12_bits_0 : decode cX12_bits 0 = .ok (.iconst 0, 1) := by decide +kernel
theorem dX12_bits_1 : decode cX12_bits 1 = .ok (.istore_n 1, 1) := by decide +kernel
theorem dX12_bits_2 : decode cX12_bits 2 = .ok (.iconst 0, 1) := by decide +kernel
theorem dX12_bits_3 : decode cX12_bits 3 = .ok (.istore_n 2, 1) := by decide +kernel
theorem dX12_bits_4 : decode cX12_bits 4 = .ok (.iload_n 2, 1) := by decide +kernel
theorem dX12_bits_5 : decode cX12_bits 5 = .ok (.bipush 6, 2) := by decide +kernel
theorem dX12_bits_7 : decode cX12_bits 7 = .ok (.if_icmp .ge 17, 3) := by decide +kernel
theorem dX12_bits_10 : decode cX12_bits 10 = .ok (.iload_n 1, 1) := by decide +kernel
theorem dX12_bits_11 : decode cX12_bits 11 = .ok (.iload_n 0, 1) := by decide +kernel
theorem dX12_bits_12 : decode cX12_bits 12 = .ok (.iload_n 2, 1) := by decide +kernel
theorem dX12_bits_13 : decode cX12_bits 13 = .ok (.ishr, 1) := by decide +kernel
theorem dX12_bits_14 : decode cX12_bits 14 = .ok (.iconst 1, 1) := by decide +kernel
theorem dX12_bits_15 : decode cX12_bits 15 = .ok (.iand, 1) := by decide +kernel
theorem dX12_bits_16 : decode cX12_bits 16 = .ok (.iadd, 1) := by decide +kernel
theorem dX12_bits_17 : decode cX12_bits 17 = .ok (.istore_n 1, 1) := by decide +kernel
theorem dX12_bits_18 : decode cX12_bits 18 = .ok (.iinc 2 1, 3) := by decide +kernel
theorem dX12_bits_21 : decode cX12_bits 21 = .ok (.goto (-17), 3) := by decide +kernel
theorem dX12_bits_24 : decode cX12_bits 24 = .ok (.iload_n 1, 1) := by decide +kernel
theorem dX12_bits_25 : decode cX12_bits 25 = .ok (.ireturn, 1) := by decide +kernel
theorem dX12_isWatched_0 : decode cX12_isWatched 0 = .ok (.iconst 0, 1) := by decide +kernel
theorem dX12_isWatched_1 : decode cX12_isWatched 1 = .ok (.istore_n 3, 1) := by decide +kernel
theorem dX12_isWatched_2 : decode cX12_isWatched 2 = .ok (.iload_n 3, 1) := by decide +kernel
theorem dX12_isWatched_3 : decode cX12_isWatched 3 = .ok (.bipush 24, 2) := by decide +kernel
theorem dX12_isWatched_5 : decode cX12_isWatched 5 = .ok (.if_icmp .ge 82, 3) := by decide +kernel
theorem dX12_isWatched_8 : decode cX12_isWatched 8 = .ok (.iload_n 1, 1) := by decide +kernel
theorem dX12_isWatched_9 : decode cX12_isWatched 9 = .ok (.iload_n 3, 1) := by decide +kernel
theorem dX12_isWatched_10 : decode cX12_isWatched 10 = .ok (.ishr, 1) := by decide +kernel
theorem dX12_isWatched_11 : decode cX12_isWatched 11 = .ok (.iconst 1, 1) := by decide +kernel
theorem dX12_isWatched_12 : decode cX12_isWatched 12 = .ok (.iand, 1) := by decide +kernel
theorem dX12_isWatched_13 : decode cX12_isWatched 13 = .ok (.ifCond .ne 7, 3) := by decide +kernel
theorem dX12_isWatched_16 : decode cX12_isWatched 16 = .ok (.iconst 1, 1) := by decide +kernel
theorem dX12_isWatched_17 : decode cX12_isWatched 17 = .ok (.goto 4, 3) := by decide +kernel
theorem dX12_isWatched_20 : decode cX12_isWatched 20 = .ok (.iconst 0, 1) := by decide +kernel
theorem dX12_isWatched_21 : decode cX12_isWatched 21 = .ok (.istore 4, 2) := by decide +kernel
theorem dX12_isWatched_23 : decode cX12_isWatched 23 = .ok (.iconst 0, 1) := by decide +kernel
theorem dX12_isWatched_24 : decode cX12_isWatched 24 = .ok (.istore 5, 2) := by decide +kernel
theorem dX12_isWatched_26 : decode cX12_isWatched 26 = .ok (.iload 5, 2) := by decide +kernel
theorem dX12_isWatched_28 : decode cX12_isWatched 28 = .ok (.aload_n 0, 1) := by decide +kernel
theorem dX12_isWatched_29 : decode cX12_isWatched 29 = .ok (.getfield 35, 3) := by decide +kernel
theorem dX12_isWatched_32 : decode cX12_isWatched 32 = .ok (.iconst 2, 1) := by decide +kernel
theorem dX12_isWatched_33 : decode cX12_isWatched 33 = .ok (.iaload, 1) := by decide +kernel
theorem dX12_isWatched_34 : decode cX12_isWatched 34 = .ok (.if_icmp .ge 40, 3) := by decide +kernel
theorem dX12_isWatched_37 : decode cX12_isWatched 37 = .ok (.iload 4, 2) := by decide +kernel
theorem dX12_isWatched_39 : decode cX12_isWatched 39 = .ok (.ifCond .ne 22, 3) := by decide +kernel
theorem dX12_isWatched_42 : decode cX12_isWatched 42 = .ok (.iload_n 2, 1) := by decide +kernel
theorem dX12_isWatched_43 : decode cX12_isWatched 43 = .ok (.iload 5, 2) := by decide +kernel
theorem dX12_isWatched_45 : decode cX12_isWatched 45 = .ok (.invokestatic 372, 3) := by decide +kernel
theorem dX12_isWatched_48 : decode cX12_isWatched 48 = .ok (.ifCond .eq 17, 3) := by decide +kernel
theorem dX12_isWatched_51 : decode cX12_isWatched 51 = .ok (.aload_n 0, 1) := by decide +kernel
theorem dX12_isWatched_52 : decode cX12_isWatched 52 = .ok (.iload 5, 2) := by decide +kernel
theorem dX12_isWatched_54 : decode cX12_isWatched 54 = .ok (.iload_n 3, 1) := by decide +kernel
theorem dX12_isWatched_55 : decode cX12_isWatched 55 = .ok (.invokevirtual 346, 3) := by decide +kernel
theorem dX12_isWatched_58 : decode cX12_isWatched 58 = .ok (.ifCond .eq 7, 3) := by decide +kernel
theorem dX12_isWatched_61 : decode cX12_isWatched 61 = .ok (.iconst 1, 1) := by decide +kernel
theorem dX12_isWatched_62 : decode cX12_isWatched 62 = .ok (.goto 4, 3) := by decide +kernel
theorem dX12_isWatched_65 : decode cX12_isWatched 65 = .ok (.iconst 0, 1) := by decide +kernel
theorem dX12_isWatched_66 : decode cX12_isWatched 66 = .ok (.istore 4, 2) := by decide +kernel
theorem dX12_isWatched_68 : decode cX12_isWatched 68 = .ok (.iinc 5 1, 3) := by decide +kernel
theorem dX12_isWatched_71 : decode cX12_isWatched 71 = .ok (.goto (-45), 3) := by decide +kernel
theorem dX12_isWatched_74 : decode cX12_isWatched 74 = .ok (.iload 4, 2) := by decide +kernel
theorem dX12_isWatched_76 : decode cX12_isWatched 76 = .ok (.ifCond .ne 5, 3) := by decide +kernel
theorem dX12_isWatched_79 : decode cX12_isWatched 79 = .ok (.iconst 0, 1) := by decide +kernel
theorem dX12_isWatched_80 : decode cX12_isWatched 80 = .ok (.ireturn, 1) := by decide +kernel
theorem dX12_isWatched_81 : decode cX12_isWatched 81 = .ok (.iinc 3 1, 3) := by decide +kernel
theorem dX12_isWatched_84 : decode cX12_isWatched 84 = .ok (.goto (-82), 3) := by decide +kernel
theorem dX12_isWatched_87 : decode cX12_isWatched 87 = .ok (.iconst 1, 1) := by decide +kernel
theorem dX12_isWatched_88 : decode cX12_isWatched 88 = .ok (.ireturn, 1) := by decide +kernel
theorem dX12_shift_0 : decode cX12_shift 0 = .ok (.aload_n 0, 1) := by decide +kernel
theorem dX12_shift_1 : decode cX12_shift 1 = .ok (.iconst 0, 1) := by decide +kernel
theorem dX12_shift_2 : decode cX12_shift 2 = .ok (.putfield 87, 3) := by decide +kernel
theorem dX12_shift_5 : decode cX12_shift 5 = .ok (.aload_n 0, 1) := by decide +kernel
theorem dX12_shift_6 : decode cX12_shift 6 = .ok (.iconst 0, 1) := by decide +kernel
theorem dX12_shift_7 : decode cX12_shift 7 = .ok (.putfield 90, 3) := by decide +kernel
theorem dX12_shift_10 : decode cX12_shift 10 = .ok (.iload_n 1, 1) := by decide +kernel
theorem dX12_shift_11 : decode cX12_shift 11 = .ok (.i2l, 1) := by decide +kernel
theorem dX12_shift_12 : decode cX12_shift 12 = .ok (.lconst 0, 1) := by decide +kernel
theorem dX12_shift_13 : decode cX12_shift 13 = .ok (.ldc2_w 478, 3) := by decide +kernel
theorem dX12_shift_16 : decode cX12_shift 16 = .ok (.invokestatic 122, 3) := by decide +kernel
theorem dX12_shift_19 : decode cX12_shift 19 = .ok (.ifCond .ne 9, 3) := by decide +kernel
theorem dX12_shift_22 : decode cX12_shift 22 = .ok (.aload_n 0, 1) := by decide +kernel
theorem dX12_shift_23 : decode cX12_shift 23 = .ok (.iconst 5, 1) := by decide +kernel
theorem dX12_shift_24 : decode cX12_shift 24 = .ok (.invokevirtual 351, 3) := by decide +kernel
theorem dX12_shift_27 : decode cX12_shift 27 = .ok (.ireturn, 1) := by decide +kernel
theorem dX12_shift_28 : decode cX12_shift 28 = .ok (.iconst (-1), 1) := by decide +kernel
theorem dX12_shift_29 : decode cX12_shift 29 = .ok (.istore_n 2, 1) := by decide +kernel
theorem dX12_shift_30 : decode cX12_shift 30 = .ok (.iconst 0, 1) := by decide +kernel
theorem dX12_shift_31 : decode cX12_shift 31 = .ok (.istore_n 3, 1) := by decide +kernel
theorem dX12_shift_32 : decode cX12_shift 32 = .ok (.iload_n 3, 1) := by decide +kernel
theorem dX12_shift_33 : decode cX12_shift 33 = .ok (.iconst 1, 1) := by decide +kernel
theorem dX12_shift_34 : decode cX12_shift 34 = .ok (.aload_n 0, 1) := by decide +kernel
theorem dX12_shift_35 : decode cX12_shift 35 = .ok (.getfield 35, 3) := by decide +kernel
theorem dX12_shift_38 : decode cX12_shift 38 = .ok (.iconst 2, 1) := by decide +kernel
theorem dX12_shift_39 : decode cX12_shift 39 = .ok (.iaload, 1) := by decide +kernel
theorem dX12_shift_40 : decode cX12_shift 40 = .ok (.ishl, 1) := by decide +kernel
theorem dX12_shift_41 : decode cX12_shift 41 = .ok (.if_icmp .ge 35, 3) := by decide +kernel
theorem dX12_shift_44 : decode cX12_shift 44 = .ok (.iload_n 2, 1) := by decide +kernel
theorem dX12_shift_45 : decode cX12_shift 45 = .ok (.ifCond .lt 14, 3) := by decide +kernel
theorem dX12_shift_48 : decode cX12_shift 48 = .ok (.iload_n 3, 1) := by decide +kernel
theorem dX12_shift_49 : decode cX12_shift 49 = .ok (.invokestatic 480, 3) := by decide +kernel
theorem dX12_shift_52 : decode cX12_shift 52 = .ok (.iload_n 2, 1) := by decide +kernel
theorem dX12_shift_53 : decode cX12_shift 53 = .ok (.invokestatic 480, 3) := by decide +kernel
theorem dX12_shift_56 : decode cX12_shift 56 = .ok (.if_icmp .ge 14, 3) := by decide +kernel
theorem dX12_shift_59 : decode cX12_shift 59 = .ok (.aload_n 0, 1) := by decide +kernel
theorem dX12_shift_60 : decode cX12_shift 60 = .ok (.iload_n 1, 1) := by decide +kernel
theorem dX12_shift_61 : decode cX12_shift 61 = .ok (.iload_n 3, 1) := by decide +kernel
theorem dX12_shift_62 : decode cX12_shift 62 = .ok (.invokevirtual 483, 3) := by decide +kernel
theorem dX12_shift_65 : decode cX12_shift 65 = .ok (.ifCond .eq 5, 3) := by decide +kernel
theorem dX12_shift_68 : decode cX12_shift 68 = .ok (.iload_n 3, 1) := by decide +kernel
theorem dX12_shift_69 : decode cX12_shift 69 = .ok (.istore_n 2, 1) := by decide +kernel
theorem dX12_shift_70 : decode cX12_shift 70 = .ok (.iinc 3 1, 3) := by decide +kernel
theorem dX12_shift_73 : decode cX12_shift 73 = .ok (.goto (-41), 3) := by decide +kernel
theorem dX12_shift_76 : decode cX12_shift 76 = .ok (.iload_n 2, 1) := by decide +kernel
theorem dX12_shift_77 : decode cX12_shift 77 = .ok (.ifCond .ge 12, 3) := by decide +kernel
theorem dX12_shift_80 : decode cX12_shift 80 = .ok (.aload_n 0, 1) := by decide +kernel
theorem dX12_shift_81 : decode cX12_shift 81 = .ok (.bipush 9, 2) := by decide +kernel
theorem dX12_shift_83 : decode cX12_shift 83 = .ok (.invokevirtual 351, 3) := by decide +kernel
theorem dX12_shift_86 : decode cX12_shift 86 = .ok (.goto 4, 3) := by decide +kernel
theorem dX12_shift_89 : decode cX12_shift 89 = .ok (.iload_n 2, 1) := by decide +kernel
theorem dX12_shift_90 : decode cX12_shift 90 = .ok (.ireturn, 1) := by decide +kernel
theorem dX12_west_0 : decode cX12_west 0 = .ok (.aload_n 0, 1) := by decide +kernel
theorem dX12_west_1 : decode cX12_west 1 = .ok (.iconst 0, 1) := by decide +kernel
theorem dX12_west_2 : decode cX12_west 2 = .ok (.putfield 87, 3) := by decide +kernel
theorem dX12_west_5 : decode cX12_west 5 = .ok (.aload_n 0, 1) := by decide +kernel
theorem dX12_west_6 : decode cX12_west 6 = .ok (.iconst 0, 1) := by decide +kernel
theorem dX12_west_7 : decode cX12_west 7 = .ok (.putfield 90, 3) := by decide +kernel
theorem dX12_west_10 : decode cX12_west 10 = .ok (.iload_n 1, 1) := by decide +kernel
theorem dX12_west_11 : decode cX12_west 11 = .ok (.i2l, 1) := by decide +kernel
theorem dX12_west_12 : decode cX12_west 12 = .ok (.lconst 1, 1) := by decide +kernel
theorem dX12_west_13 : decode cX12_west 13 = .ok (.ldc2_w 419, 3) := by decide +kernel
theorem dX12_west_16 : decode cX12_west 16 = .ok (.invokestatic 122, 3) := by decide +kernel
theorem dX12_west_19 : decode cX12_west 19 = .ok (.ifCond .eq 32, 3) := by decide +kernel
theorem dX12_west_22 : decode cX12_west 22 = .ok (.iload_n 2, 1) := by decide +kernel
theorem dX12_west_23 : decode cX12_west 23 = .ok (.i2l, 1) := by decide +kernel
theorem dX12_west_24 : decode cX12_west 24 = .ok (.lconst 0, 1) := by decide +kernel
theorem dX12_west_25 : decode cX12_west 25 = .ok (.ldc2_w 486, 3) := by decide +kernel
theorem dX12_west_28 : decode cX12_west 28 = .ok (.invokestatic 122, 3) := by decide +kernel
theorem dX12_west_31 : decode cX12_west 31 = .ok (.ifCond .eq 20, 3) := by decide +kernel
theorem dX12_west_34 : decode cX12_west 34 = .ok (.iload_n 3, 1) := by decide +kernel
theorem dX12_west_35 : decode cX12_west 35 = .ok (.i2l, 1) := by decide +kernel
theorem dX12_west_36 : decode cX12_west 36 = .ok (.lconst 1, 1) := by decide +kernel
theorem dX12_west_37 : decode cX12_west 37 = .ok (.ldc2_w 486, 3) := by decide +kernel
theorem dX12_west_40 : decode cX12_west 40 = .ok (.invokestatic 122, 3) := by decide +kernel
theorem dX12_west_43 : decode cX12_west 43 = .ok (.ifCond .eq 8, 3) := by decide +kernel
theorem dX12_west_46 : decode cX12_west 46 = .ok (.iload_n 2, 1) := by decide +kernel
theorem dX12_west_47 : decode cX12_west 47 = .ok (.iload_n 3, 1) := by decide +kernel
theorem dX12_west_48 : decode cX12_west 48 = .ok (.if_icmp .lt 9, 3) := by decide +kernel
theorem dX12_west_51 : decode cX12_west 51 = .ok (.aload_n 0, 1) := by decide +kernel
theorem dX12_west_52 : decode cX12_west 52 = .ok (.iconst 5, 1) := by decide +kernel
theorem dX12_west_53 : decode cX12_west 53 = .ok (.invokevirtual 102, 3) := by decide +kernel
theorem dX12_west_56 : decode cX12_west 56 = .ok (.ireturn, 1) := by decide +kernel
theorem dX12_west_57 : decode cX12_west 57 = .ok (.aload_n 0, 1) := by decide +kernel
theorem dX12_west_58 : decode cX12_west 58 = .ok (.iload_n 1, 1) := by decide +kernel
theorem dX12_west_59 : decode cX12_west 59 = .ok (.i2l, 1) := by decide +kernel
theorem dX12_west_60 : decode cX12_west 60 = .ok (.iload_n 3, 1) := by decide +kernel
theorem dX12_west_61 : decode cX12_west 61 = .ok (.i2l, 1) := by decide +kernel
theorem dX12_west_62 : decode cX12_west 62 = .ok (.lmul, 1) := by decide +kernel
theorem dX12_west_63 : decode cX12_west 63 = .ok (.iload_n 3, 1) := by decide +kernel
theorem dX12_west_64 : decode cX12_west 64 = .ok (.iload_n 2, 1) := by decide +kernel
theorem dX12_west_65 : decode cX12_west 65 = .ok (.isub, 1) := by decide +kernel
theorem dX12_west_66 : decode cX12_west 66 = .ok (.i2l, 1) := by decide +kernel
theorem dX12_west_67 : decode cX12_west 67 = .ok (.invokevirtual 488, 3) := by decide +kernel
theorem dX12_west_70 : decode cX12_west 70 = .ok (.ireturn, 1) := by decide +kernel
theorem dX12_speed_0 : decode cX12_speed 0 = .ok (.aload_n 0, 1) := by decide +kernel
theorem dX12_speed_1 : decode cX12_speed 1 = .ok (.iconst 0, 1) := by decide +kernel
theorem dX12_speed_2 : decode cX12_speed 2 = .ok (.putfield 87, 3) := by decide +kernel
theorem dX12_speed_5 : decode cX12_speed 5 = .ok (.aload_n 0, 1) := by decide +kernel
theorem dX12_speed_6 : decode cX12_speed 6 = .ok (.iconst 0, 1) := by decide +kernel
theorem dX12_speed_7 : decode cX12_speed 7 = .ok (.putfield 90, 3) := by decide +kernel
theorem dX12_speed_10 : decode cX12_speed 10 = .ok (.iload_n 1, 1) := by decide +kernel
theorem dX12_speed_11 : decode cX12_speed 11 = .ok (.i2l, 1) := by decide +kernel
theorem dX12_speed_12 : decode cX12_speed 12 = .ok (.lconst 1, 1) := by decide +kernel
theorem dX12_speed_13 : decode cX12_speed 13 = .ok (.ldc2_w 419, 3) := by decide +kernel
theorem dX12_speed_16 : decode cX12_speed 16 = .ok (.invokestatic 122, 3) := by decide +kernel
theorem dX12_speed_19 : decode cX12_speed 19 = .ok (.ifCond .eq 15, 3) := by decide +kernel
theorem dX12_speed_22 : decode cX12_speed 22 = .ok (.iload_n 2, 1) := by decide +kernel
theorem dX12_speed_23 : decode cX12_speed 23 = .ok (.i2l, 1) := by decide +kernel
theorem dX12_speed_24 : decode cX12_speed 24 = .ok (.lconst 1, 1) := by decide +kernel
theorem dX12_speed_25 : decode cX12_speed 25 = .ok (.ldc2_w 492, 3) := by decide +kernel
theorem dX12_speed_28 : decode cX12_speed 28 = .ok (.invokestatic 122, 3) := by decide +kernel
theorem dX12_speed_31 : decode cX12_speed 31 = .ok (.ifCond .ne 9, 3) := by decide +kernel
theorem dX12_speed_34 : decode cX12_speed 34 = .ok (.aload_n 0, 1) := by decide +kernel
theorem dX12_speed_35 : decode cX12_speed 35 = .ok (.iconst 5, 1) := by decide +kernel
theorem dX12_speed_36 : decode cX12_speed 36 = .ok (.invokevirtual 102, 3) := by decide +kernel
theorem dX12_speed_39 : decode cX12_speed 39 = .ok (.ireturn, 1) := by decide +kernel
theorem dX12_speed_40 : decode cX12_speed 40 = .ok (.aload_n 0, 1) := by decide +kernel
theorem dX12_speed_41 : decode cX12_speed 41 = .ok (.iconst 0, 1) := by decide +kernel
theorem dX12_speed_42 : decode cX12_speed 42 = .ok (.iload_n 2, 1) := by decide +kernel
theorem dX12_speed_43 : decode cX12_speed 43 = .ok (.iload_n 1, 1) := by decide +kernel
theorem dX12_speed_44 : decode cX12_speed 44 = .ok (.isub, 1) := by decide +kernel
theorem dX12_speed_45 : decode cX12_speed 45 = .ok (.invokestatic 410, 3) := by decide +kernel
theorem dX12_speed_48 : decode cX12_speed 48 = .ok (.i2l, 1) := by decide +kernel
theorem dX12_speed_49 : decode cX12_speed 49 = .ok (.iload_n 2, 1) := by decide +kernel
theorem dX12_speed_50 : decode cX12_speed 50 = .ok (.i2l, 1) := by decide +kernel
theorem dX12_speed_51 : decode cX12_speed 51 = .ok (.invokevirtual 488, 3) := by decide +kernel
theorem dX12_speed_54 : decode cX12_speed 54 = .ok (.ireturn, 1) := by decide +kernel
theorem dX12_way_0 : decode cX12_way 0 = .ok (.aload_n 0, 1) := by decide +kernel
theorem dX12_way_1 : decode cX12_way 1 = .ok (.iconst 0, 1) := by decide +kernel
theorem dX12_way_2 : decode cX12_way 2 = .ok (.putfield 87, 3) := by decide +kernel
theorem dX12_way_5 : decode cX12_way 5 = .ok (.aload_n 0, 1) := by decide +kernel
theorem dX12_way_6 : decode cX12_way 6 = .ok (.iconst 0, 1) := by decide +kernel
theorem dX12_way_7 : decode cX12_way 7 = .ok (.putfield 90, 3) := by decide +kernel
theorem dX12_way_10 : decode cX12_way 10 = .ok (.aload_n 0, 1) := by decide +kernel
theorem dX12_way_11 : decode cX12_way 11 = .ok (.iload_n 1, 1) := by decide +kernel
theorem dX12_way_12 : decode cX12_way 12 = .ok (.invokevirtual 494, 3) := by decide +kernel
theorem dX12_way_15 : decode cX12_way 15 = .ok (.ifCond .ne 9, 3) := by decide +kernel
theorem dX12_way_18 : decode cX12_way 18 = .ok (.aload_n 0, 1) := by decide +kernel
theorem dX12_way_19 : decode cX12_way 19 = .ok (.iconst 1, 1) := by decide +kernel
theorem dX12_way_20 : decode cX12_way 20 = .ok (.invokevirtual 351, 3) := by decide +kernel
theorem dX12_way_23 : decode cX12_way 23 = .ok (.ireturn, 1) := by decide +kernel
theorem dX12_way_24 : decode cX12_way 24 = .ok (.aload_n 0, 1) := by decide +kernel
theorem dX12_way_25 : decode cX12_way 25 = .ok (.getfield 17, 3) := by decide +kernel
theorem dX12_way_28 : decode cX12_way 28 = .ok (.iload_n 1, 1) := by decide +kernel
theorem dX12_way_29 : decode cX12_way 29 = .ok (.iaload, 1) := by decide +kernel
theorem dX12_way_30 : decode cX12_way 30 = .ok (.ifCond .ge 9, 3) := by decide +kernel
theorem dX12_way_33 : decode cX12_way 33 = .ok (.aload_n 0, 1) := by decide +kernel
theorem dX12_way_34 : decode cX12_way 34 = .ok (.iconst 3, 1) := by decide +kernel
theorem dX12_way_35 : decode cX12_way 35 = .ok (.invokevirtual 351, 3) := by decide +kernel
theorem dX12_way_38 : decode cX12_way 38 = .ok (.ireturn, 1) := by decide +kernel
theorem dX12_way_39 : decode cX12_way 39 = .ok (.iload_n 2, 1) := by decide +kernel
theorem dX12_way_40 : decode cX12_way 40 = .ok (.i2l, 1) := by decide +kernel
theorem dX12_way_41 : decode cX12_way 41 = .ok (.lconst 1, 1) := by decide +kernel
theorem dX12_way_42 : decode cX12_way 42 = .ok (.ldc2_w 497, 3) := by decide +kernel
theorem dX12_way_45 : decode cX12_way 45 = .ok (.invokestatic 122, 3) := by decide +kernel
theorem dX12_way_48 : decode cX12_way 48 = .ok (.ifCond .eq 15, 3) := by decide +kernel
theorem dX12_way_51 : decode cX12_way 51 = .ok (.iload_n 3, 1) := by decide +kernel
theorem dX12_way_52 : decode cX12_way 52 = .ok (.i2l, 1) := by decide +kernel
theorem dX12_way_53 : decode cX12_way 53 = .ok (.lconst 1, 1) := by decide +kernel
theorem dX12_way_54 : decode cX12_way 54 = .ok (.ldc2_w 419, 3) := by decide +kernel
theorem dX12_way_57 : decode cX12_way 57 = .ok (.invokestatic 122, 3) := by decide +kernel
theorem dX12_way_60 : decode cX12_way 60 = .ok (.ifCond .ne 9, 3) := by decide +kernel
theorem dX12_way_63 : decode cX12_way 63 = .ok (.aload_n 0, 1) := by decide +kernel
theorem dX12_way_64 : decode cX12_way 64 = .ok (.iconst 5, 1) := by decide +kernel
theorem dX12_way_65 : decode cX12_way 65 = .ok (.invokevirtual 351, 3) := by decide +kernel
theorem dX12_way_68 : decode cX12_way 68 = .ok (.ireturn, 1) := by decide +kernel
theorem dX12_way_69 : decode cX12_way 69 = .ok (.aload_n 0, 1) := by decide +kernel
theorem dX12_way_70 : decode cX12_way 70 = .ok (.getfield 17, 3) := by decide +kernel
theorem dX12_way_73 : decode cX12_way 73 = .ok (.iload_n 1, 1) := by decide +kernel
theorem dX12_way_74 : decode cX12_way 74 = .ok (.iaload, 1) := by decide +kernel
theorem dX12_way_75 : decode cX12_way 75 = .ok (.iconst 2, 1) := by decide +kernel
theorem dX12_way_76 : decode cX12_way 76 = .ok (.iload_n 2, 1) := by decide +kernel
theorem dX12_way_77 : decode cX12_way 77 = .ok (.imul, 1) := by decide +kernel
theorem dX12_way_78 : decode cX12_way 78 = .ok (.if_icmp .ge 9, 3) := by decide +kernel
theorem dX12_way_81 : decode cX12_way 81 = .ok (.aload_n 0, 1) := by decide +kernel
theorem dX12_way_82 : decode cX12_way 82 = .ok (.iconst 4, 1) := by decide +kernel
theorem dX12_way_83 : decode cX12_way 83 = .ok (.invokevirtual 351, 3) := by decide +kernel
theorem dX12_way_86 : decode cX12_way 86 = .ok (.ireturn, 1) := by decide +kernel
theorem dX12_way_87 : decode cX12_way 87 = .ok (.iconst 0, 1) := by decide +kernel
theorem dX12_way_88 : decode cX12_way 88 = .ok (.istore 4, 2) := by decide +kernel
theorem dX12_way_90 : decode cX12_way 90 = .ok (.iload 4, 2) := by decide +kernel
theorem dX12_way_92 : decode cX12_way 92 = .ok (.iconst 2, 1) := by decide +kernel
theorem dX12_way_93 : decode cX12_way 93 = .ok (.iload_n 2, 1) := by decide +kernel
theorem dX12_way_94 : decode cX12_way 94 = .ok (.imul, 1) := by decide +kernel
theorem dX12_way_95 : decode cX12_way 95 = .ok (.if_icmp .ge 32, 3) := by decide +kernel
theorem dX12_way_98 : decode cX12_way 98 = .ok (.aload_n 0, 1) := by decide +kernel
theorem dX12_way_99 : decode cX12_way 99 = .ok (.iload_n 1, 1) := by decide +kernel
theorem dX12_way_100 : decode cX12_way 100 = .ok (.iload 4, 2) := by decide +kernel
theorem dX12_way_102 : decode cX12_way 102 = .ok (.invokevirtual 499, 3) := by decide +kernel
theorem dX12_way_105 : decode cX12_way 105 = .ok (.lconst 0, 1) := by decide +kernel
theorem dX12_way_106 : decode cX12_way 106 = .ok (.ldc2_w 392, 3) := by decide +kernel
theorem dX12_way_109 : decode cX12_way 109 = .ok (.invokestatic 122, 3) := by decide +kernel
theorem dX12_way_112 : decode cX12_way 112 = .ok (.ifCond .ne 9, 3) := by decide +kernel
theorem dX12_way_115 : decode cX12_way 115 = .ok (.aload_n 0, 1) := by decide +kernel
theorem dX12_way_116 : decode cX12_way 116 = .ok (.iconst 5, 1) := by decide +kernel
theorem dX12_way_117 : decode cX12_way 117 = .ok (.invokevirtual 351, 3) := by decide +kernel
theorem dX12_way_120 : decode cX12_way 120 = .ok (.ireturn, 1) := by decide +kernel
theorem dX12_way_121 : decode cX12_way 121 = .ok (.iinc 4 1, 3) := by decide +kernel
theorem dX12_way_124 : decode cX12_way 124 = .ok (.goto (-34), 3) := by decide +kernel
theorem dX12_way_127 : decode cX12_way 127 = .ok (.lconst 0, 1) := by decide +kernel
theorem dX12_way_128 : decode cX12_way 128 = .ok (.lstore 4, 2) := by decide +kernel
theorem dX12_way_130 : decode cX12_way 130 = .ok (.iload_n 3, 1) := by decide +kernel
theorem dX12_way_131 : decode cX12_way 131 = .ok (.i2l, 1) := by decide +kernel
theorem dX12_way_132 : decode cX12_way 132 = .ok (.lstore 6, 2) := by decide +kernel
theorem dX12_way_134 : decode cX12_way 134 = .ok (.iconst 0, 1) := by decide +kernel
theorem dX12_way_135 : decode cX12_way 135 = .ok (.istore 8, 2) := by decide +kernel
theorem dX12_way_137 : decode cX12_way 137 = .ok (.iload 8, 2) := by decide +kernel
theorem dX12_way_139 : decode cX12_way 139 = .ok (.iload_n 2, 1) := by decide +kernel
theorem dX12_way_140 : decode cX12_way 140 = .ok (.if_icmp .ge 50, 3) := by decide +kernel
theorem dX12_way_143 : decode cX12_way 143 = .ok (.lload 4, 2) := by decide +kernel
theorem dX12_way_145 : decode cX12_way 145 = .ok (.aload_n 0, 1) := by decide +kernel
theorem dX12_way_146 : decode cX12_way 146 = .ok (.iload_n 1, 1) := by decide +kernel
theorem dX12_way_147 : decode cX12_way 147 = .ok (.iconst 2, 1) := by decide +kernel
theorem dX12_way_148 : decode cX12_way 148 = .ok (.iload 8, 2) := by decide +kernel
theorem dX12_way_150 : decode cX12_way 150 = .ok (.imul, 1) := by decide +kernel
theorem dX12_way_151 : decode cX12_way 151 = .ok (.invokevirtual 499, 3) := by decide +kernel
theorem dX12_way_154 : decode cX12_way 154 = .ok (.ladd, 1) := by decide +kernel
theorem dX12_way_155 : decode cX12_way 155 = .ok (.lstore 4, 2) := by decide +kernel
theorem dX12_way_157 : decode cX12_way 157 = .ok (.lload 6, 2) := by decide +kernel
theorem dX12_way_159 : decode cX12_way 159 = .ok (.aload_n 0, 1) := by decide +kernel
theorem dX12_way_160 : decode cX12_way 160 = .ok (.iload_n 1, 1) := by decide +kernel
theorem dX12_way_161 : decode cX12_way 161 = .ok (.iconst 2, 1) := by decide +kernel
theorem dX12_way_162 : decode cX12_way 162 = .ok (.iload 8, 2) := by decide +kernel
theorem dX12_way_164 : decode cX12_way 164 = .ok (.imul, 1) := by decide +kernel
theorem dX12_way_165 : decode cX12_way 165 = .ok (.iconst 1, 1) := by decide +kernel
theorem dX12_way_166 : decode cX12_way 166 = .ok (.iadd, 1) := by decide +kernel
theorem dX12_way_167 : decode cX12_way 167 = .ok (.invokevirtual 499, 3) := by decide +kernel
theorem dX12_way_170 : decode cX12_way 170 = .ok (.ladd, 1) := by decide +kernel
theorem dX12_way_171 : decode cX12_way 171 = .ok (.lstore 6, 2) := by decide +kernel
theorem dX12_way_173 : decode cX12_way 173 = .ok (.lload 4, 2) := by decide +kernel
theorem dX12_way_175 : decode cX12_way 175 = .ok (.lload 6, 2) := by decide +kernel
theorem dX12_way_177 : decode cX12_way 177 = .ok (.lcmp, 1) := by decide +kernel
theorem dX12_way_178 : decode cX12_way 178 = .ok (.ifCond .lt 6, 3) := by decide +kernel
theorem dX12_way_181 : decode cX12_way 181 = .ok (.iload 8, 2) := by decide +kernel
theorem dX12_way_183 : decode cX12_way 183 = .ok (.ireturn, 1) := by decide +kernel
theorem dX12_way_184 : decode cX12_way 184 = .ok (.iinc 8 1, 3) := by decide +kernel
theorem dX12_way_187 : decode cX12_way 187 = .ok (.goto (-50), 3) := by decide +kernel
theorem dX12_way_190 : decode cX12_way 190 = .ok (.iconst (-1), 1) := by decide +kernel
theorem dX12_way_191 : decode cX12_way 191 = .ok (.ireturn, 1) := by decide +kernel
theorem dX12_readMake_0 : decode cX12_readMake 0 = .ok (.aload_n 0, 1) := by decide +kernel
theorem dX12_readMake_1 : decode cX12_readMake 1 = .ok (.invokevirtual 261, 3) := by decide +kernel
theorem dX12_readMake_4 : decode cX12_readMake 4 = .ok (.aload_n 0, 1) := by decide +kernel
theorem dX12_readMake_5 : decode cX12_readMake 5 = .ok (.getfield 35, 3) := by decide +kernel
theorem dX12_readMake_8 : decode cX12_readMake 8 = .ok (.iload_n 1, 1) := by decide +kernel
theorem dX12_readMake_9 : decode cX12_readMake 9 = .ok (.iconst 0, 1) := by decide +kernel
theorem dX12_readMake_10 : decode cX12_readMake 10 = .ok (.iastore, 1) := by decide +kernel
theorem dX12_readMake_11 : decode cX12_readMake 11 = .ok (.aload_n 0, 1) := by decide +kernel
theorem dX12_readMake_12 : decode cX12_readMake 12 = .ok (.getfield 35, 3) := by decide +kernel
theorem dX12_readMake_15 : decode cX12_readMake 15 = .ok (.iload_n 1, 1) := by decide +kernel
theorem dX12_readMake_16 : decode cX12_readMake 16 = .ok (.iconst 1, 1) := by decide +kernel
theorem dX12_readMake_17 : decode cX12_readMake 17 = .ok (.iadd, 1) := by decide +kernel
theorem dX12_readMake_18 : decode cX12_readMake 18 = .ok (.aload_n 0, 1) := by decide +kernel
theorem dX12_readMake_19 : decode cX12_readMake 19 = .ok (.iconst 0, 1) := by decide +kernel
theorem dX12_readMake_20 : decode cX12_readMake 20 = .ok (.bipush 23, 2) := by decide +kernel
theorem dX12_readMake_22 : decode cX12_readMake 22 = .ok (.invokevirtual 294, 3) := by decide +kernel
theorem dX12_readMake_25 : decode cX12_readMake 25 = .ok (.iastore, 1) := by decide +kernel
theorem dX12_readMake_26 : decode cX12_readMake 26 = .ok (.aload_n 0, 1) := by decide +kernel
theorem dX12_readMake_27 : decode cX12_readMake 27 = .ok (.getfield 35, 3) := by decide +kernel
theorem dX12_readMake_30 : decode cX12_readMake 30 = .ok (.iload_n 1, 1) := by decide +kernel
theorem dX12_readMake_31 : decode cX12_readMake 31 = .ok (.iconst 2, 1) := by decide +kernel
theorem dX12_readMake_32 : decode cX12_readMake 32 = .ok (.iadd, 1) := by decide +kernel
theorem dX12_readMake_33 : decode cX12_readMake 33 = .ok (.aload_n 0, 1) := by decide +kernel
theorem dX12_readMake_34 : decode cX12_readMake 34 = .ok (.iconst 0, 1) := by decide +kernel
theorem dX12_readMake_35 : decode cX12_readMake 35 = .ok (.iconst 1, 1) := by decide +kernel
theorem dX12_readMake_36 : decode cX12_readMake 36 = .ok (.bipush 8, 2) := by decide +kernel
theorem dX12_readMake_38 : decode cX12_readMake 38 = .ok (.invokevirtual 287, 3) := by decide +kernel
theorem dX12_readMake_41 : decode cX12_readMake 41 = .ok (.iastore, 1) := by decide +kernel
theorem dX12_readMake_42 : decode cX12_readMake 42 = .ok (.aload_n 0, 1) := by decide +kernel
theorem dX12_readMake_43 : decode cX12_readMake 43 = .ok (.iconst 1, 1) := by decide +kernel
theorem dX12_readMake_44 : decode cX12_readMake 44 = .ok (.invokevirtual 290, 3) := by decide +kernel
theorem dX12_readMake_47 : decode cX12_readMake 47 = .ok (.aload_n 0, 1) := by decide +kernel
theorem dX12_readMake_48 : decode cX12_readMake 48 = .ok (.aload_n 0, 1) := by decide +kernel
theorem dX12_readMake_49 : decode cX12_readMake 49 = .ok (.invokevirtual 245, 3) := by decide +kernel
theorem dX12_readMake_52 : decode cX12_readMake 52 = .ok (.invokevirtual 290, 3) := by decide +kernel
theorem dX12_readMake_55 : decode cX12_readMake 55 = .ok (.iconst 0, 1) := by decide +kernel
theorem dX12_readMake_56 : decode cX12_readMake 56 = .ok (.istore_n 2, 1) := by decide +kernel
theorem dX12_readMake_57 : decode cX12_readMake 57 = .ok (.iconst 1, 1) := by decide +kernel
theorem dX12_readMake_58 : decode cX12_readMake 58 = .ok (.istore_n 3, 1) := by decide +kernel
theorem dX12_readMake_59 : decode cX12_readMake 59 = .ok (.iload_n 3, 1) := by decide +kernel
theorem dX12_readMake_60 : decode cX12_readMake 60 = .ok (.ifCond .eq 74, 3) := by decide +kernel
theorem dX12_readMake_63 : decode cX12_readMake 63 = .ok (.aload_n 0, 1) := by decide +kernel
theorem dX12_readMake_64 : decode cX12_readMake 64 = .ok (.getfield 251, 3) := by decide +kernel
theorem dX12_readMake_67 : decode cX12_readMake 67 = .ok (.ifCond .ne 67, 3) := by decide +kernel
theorem dX12_readMake_70 : decode cX12_readMake 70 = .ok (.aload_n 0, 1) := by decide +kernel
theorem dX12_readMake_71 : decode cX12_readMake 71 = .ok (.iconst 0, 1) := by decide +kernel
theorem dX12_readMake_72 : decode cX12_readMake 72 = .ok (.iconst 2, 1) := by decide +kernel
theorem dX12_readMake_73 : decode cX12_readMake 73 = .ok (.bipush 20, 2) := by decide +kernel
theorem dX12_readMake_75 : decode cX12_readMake 75 = .ok (.invokevirtual 287, 3) := by decide +kernel
theorem dX12_readMake_78 : decode cX12_readMake 78 = .ok (.istore 4, 2) := by decide +kernel
theorem dX12_readMake_80 : decode cX12_readMake 80 = .ok (.aload_n 0, 1) := by decide +kernel
theorem dX12_readMake_81 : decode cX12_readMake 81 = .ok (.getfield 251, 3) := by decide +kernel
theorem dX12_readMake_84 : decode cX12_readMake 84 = .ok (.ifCond .ne 21, 3) := by decide +kernel
theorem dX12_readMake_87 : decode cX12_readMake 87 = .ok (.iload_n 2, 1) := by decide +kernel
theorem dX12_readMake_88 : decode cX12_readMake 88 = .ok (.iload 4, 2) := by decide +kernel
theorem dX12_readMake_90 : decode cX12_readMake 90 = .ok (.invokestatic 372, 3) := by decide +kernel
theorem dX12_readMake_93 : decode cX12_readMake 93 = .ok (.ifCond .eq 12, 3) := by decide +kernel
theorem dX12_readMake_96 : decode cX12_readMake 96 = .ok (.aload_n 0, 1) := by decide +kernel
theorem dX12_readMake_97 : decode cX12_readMake 97 = .ok (.iconst 5, 1) := by decide +kernel
theorem dX12_readMake_98 : decode cX12_readMake 98 = .ok (.aload_n 0, 1) := by decide +kernel
theorem dX12_readMake_99 : decode cX12_readMake 99 = .ok (.getfield 132, 3) := by decide +kernel
theorem dX12_readMake_102 : decode cX12_readMake 102 = .ok (.invokevirtual 257, 3) := by decide +kernel
theorem dX12_readMake_105 : decode cX12_readMake 105 = .ok (.aload_n 0, 1) := by decide +kernel
theorem dX12_readMake_106 : decode cX12_readMake 106 = .ok (.iconst 1, 1) := by decide +kernel
theorem dX12_readMake_107 : decode cX12_readMake 107 = .ok (.invokevirtual 290, 3) := by decide +kernel
theorem dX12_readMake_110 : decode cX12_readMake 110 = .ok (.iload_n 2, 1) := by decide +kernel
theorem dX12_readMake_111 : decode cX12_readMake 111 = .ok (.iconst 1, 1) := by decide +kernel
theorem dX12_readMake_112 : decode cX12_readMake 112 = .ok (.iload 4, 2) := by decide +kernel
theorem dX12_readMake_114 : decode cX12_readMake 114 = .ok (.ishl, 1) := by decide +kernel
theorem dX12_readMake_115 : decode cX12_readMake 115 = .ok (.ior, 1) := by decide +kernel
theorem dX12_readMake_116 : decode cX12_readMake 116 = .ok (.istore_n 2, 1) := by decide +kernel
theorem dX12_readMake_117 : decode cX12_readMake 117 = .ok (.aload_n 0, 1) := by decide +kernel
theorem dX12_readMake_118 : decode cX12_readMake 118 = .ok (.getfield 138, 3) := by decide +kernel
theorem dX12_readMake_121 : decode cX12_readMake 121 = .ok (.iconst 1, 1) := by decide +kernel
theorem dX12_readMake_122 : decode cX12_readMake 122 = .ok (.if_icmp .ne 7, 3) := by decide +kernel
theorem dX12_readMake_125 : decode cX12_readMake 125 = .ok (.iconst 1, 1) := by decide +kernel
theorem dX12_readMake_126 : decode cX12_readMake 126 = .ok (.goto 4, 3) := by decide +kernel
theorem dX12_readMake_129 : decode cX12_readMake 129 = .ok (.iconst 0, 1) := by decide +kernel
theorem dX12_readMake_130 : decode cX12_readMake 130 = .ok (.istore_n 3, 1) := by decide +kernel
theorem dX12_readMake_131 : decode cX12_readMake 131 = .ok (.goto (-72), 3) := by decide +kernel
theorem dX12_readMake_134 : decode cX12_readMake 134 = .ok (.aload_n 0, 1) := by decide +kernel
theorem dX12_readMake_135 : decode cX12_readMake 135 = .ok (.getfield 35, 3) := by decide +kernel
theorem dX12_readMake_138 : decode cX12_readMake 138 = .ok (.iload_n 1, 1) := by decide +kernel
theorem dX12_readMake_139 : decode cX12_readMake 139 = .ok (.iconst 3, 1) := by decide +kernel
theorem dX12_readMake_140 : decode cX12_readMake 140 = .ok (.iadd, 1) := by decide +kernel
theorem dX12_readMake_141 : decode cX12_readMake 141 = .ok (.iload_n 2, 1) := by decide +kernel
theorem dX12_readMake_142 : decode cX12_readMake 142 = .ok (.iastore, 1) := by decide +kernel
theorem dX12_readMake_143 : decode cX12_readMake 143 = .ok (.return_, 1) := by decide +kernel
theorem dX12_readJob_0 : decode cX12_readJob 0 = .ok (.aload_n 0, 1) := by decide +kernel
theorem dX12_readJob_1 : decode cX12_readJob 1 = .ok (.invokevirtual 209, 3) := by decide +kernel
theorem dX12_readJob_4 : decode cX12_readJob 4 = .ok (.ifCond .eq 7, 3) := by decide +kernel
theorem dX12_readJob_7 : decode cX12_readJob 7 = .ok (.iconst 0, 1) := by decide +kernel
theorem dX12_readJob_8 : decode cX12_readJob 8 = .ok (.goto 37, 3) := by decide +kernel
theorem dX12_readJob_11 : decode cX12_readJob 11 = .ok (.aload_n 0, 1) := by decide +kernel
theorem dX12_readJob_12 : decode cX12_readJob 12 = .ok (.invokevirtual 175, 3) := by decide +kernel
theorem dX12_readJob_15 : decode cX12_readJob 15 = .ok (.ifCond .eq 7, 3) := by decide +kernel
theorem dX12_readJob_18 : decode cX12_readJob 18 = .ok (.iconst 1, 1) := by decide +kernel
theorem dX12_readJob_19 : decode cX12_readJob 19 = .ok (.goto 26, 3) := by decide +kernel
theorem dX12_readJob_22 : decode cX12_readJob 22 = .ok (.aload_n 0, 1) := by decide +kernel
theorem dX12_readJob_23 : decode cX12_readJob 23 = .ok (.invokevirtual 182, 3) := by decide +kernel
theorem dX12_readJob_26 : decode cX12_readJob 26 = .ok (.ifCond .eq 7, 3) := by decide +kernel
theorem dX12_readJob_29 : decode cX12_readJob 29 = .ok (.iconst 2, 1) := by decide +kernel
theorem dX12_readJob_30 : decode cX12_readJob 30 = .ok (.goto 15, 3) := by decide +kernel
theorem dX12_readJob_33 : decode cX12_readJob 33 = .ok (.aload_n 0, 1) := by decide +kernel
theorem dX12_readJob_34 : decode cX12_readJob 34 = .ok (.invokevirtual 179, 3) := by decide +kernel
theorem dX12_readJob_37 : decode cX12_readJob 37 = .ok (.ifCond .eq 7, 3) := by decide +kernel
theorem dX12_readJob_40 : decode cX12_readJob 40 = .ok (.iconst 3, 1) := by decide +kernel
theorem dX12_readJob_41 : decode cX12_readJob 41 = .ok (.goto 4, 3) := by decide +kernel
theorem dX12_readJob_44 : decode cX12_readJob 44 = .ok (.iconst (-1), 1) := by decide +kernel
theorem dX12_readJob_45 : decode cX12_readJob 45 = .ok (.istore_n 1, 1) := by decide +kernel
theorem dX12_readJob_46 : decode cX12_readJob 46 = .ok (.iload_n 1, 1) := by decide +kernel
theorem dX12_readJob_47 : decode cX12_readJob 47 = .ok (.ifCond .ge 7, 3) := by decide +kernel
theorem dX12_readJob_50 : decode cX12_readJob 50 = .ok (.aload_n 0, 1) := by decide +kernel
theorem dX12_readJob_51 : decode cX12_readJob 51 = .ok (.invokevirtual 264, 3) := by decide +kernel
theorem dX12_readJob_54 : decode cX12_readJob 54 = .ok (.aload_n 0, 1) := by decide +kernel
theorem dX12_readJob_55 : decode cX12_readJob 55 = .ok (.getfield 251, 3) := by decide +kernel
theorem dX12_readJob_58 : decode cX12_readJob 58 = .ok (.ifCond .ne 25, 3) := by decide +kernel
theorem dX12_readJob_61 : decode cX12_readJob 61 = .ok (.iload_n 1, 1) := by decide +kernel
theorem dX12_readJob_62 : decode cX12_readJob 62 = .ok (.ifCond .le 21, 3) := by decide +kernel
theorem dX12_readJob_65 : decode cX12_readJob 65 = .ok (.aload_n 0, 1) := by decide +kernel
theorem dX12_readJob_66 : decode cX12_readJob 66 = .ok (.getfield 78, 3) := by decide +kernel
theorem dX12_readJob_69 : decode cX12_readJob 69 = .ok (.iload_n 1, 1) := by decide +kernel
theorem dX12_readJob_70 : decode cX12_readJob 70 = .ok (.baload, 1) := by decide +kernel
theorem dX12_readJob_71 : decode cX12_readJob 71 = .ok (.ifCond .eq 12, 3) := by decide +kernel
theorem dX12_readJob_74 : decode cX12_readJob 74 = .ok (.aload_n 0, 1) := by decide +kernel
theorem dX12_readJob_75 : decode cX12_readJob 75 = .ok (.iconst 5, 1) := by decide +kernel
theorem dX12_readJob_76 : decode cX12_readJob 76 = .ok (.aload_n 0, 1) := by decide +kernel
theorem dX12_readJob_77 : decode cX12_readJob 77 = .ok (.getfield 132, 3) := by decide +kernel
theorem dX12_readJob_80 : decode cX12_readJob 80 = .ok (.invokevirtual 257, 3) := by decide +kernel
theorem dX12_readJob_83 : decode cX12_readJob 83 = .ok (.aload_n 0, 1) := by decide +kernel
theorem dX12_readJob_84 : decode cX12_readJob 84 = .ok (.getfield 251, 3) := by decide +kernel
theorem dX12_readJob_87 : decode cX12_readJob 87 = .ok (.ifCond .ne 22, 3) := by decide +kernel
theorem dX12_readJob_90 : decode cX12_readJob 90 = .ok (.aload_n 0, 1) := by decide +kernel
theorem dX12_readJob_91 : decode cX12_readJob 91 = .ok (.getfield 503, 3) := by decide +kernel
theorem dX12_readJob_94 : decode cX12_readJob 94 = .ok (.bipush 24, 2) := by decide +kernel
theorem dX12_readJob_96 : decode cX12_readJob 96 = .ok (.if_icmp .ne 13, 3) := by decide +kernel
theorem dX12_readJob_99 : decode cX12_readJob 99 = .ok (.aload_n 0, 1) := by decide +kernel
theorem dX12_readJob_100 : decode cX12_readJob 100 = .ok (.bipush 6, 2) := by decide +kernel
theorem dX12_readJob_102 : decode cX12_readJob 102 = .ok (.aload_n 0, 1) := by decide +kernel
theorem dX12_readJob_103 : decode cX12_readJob 103 = .ok (.getfield 132, 3) := by decide +kernel
theorem dX12_readJob_106 : decode cX12_readJob 106 = .ok (.invokevirtual 257, 3) := by decide +kernel
theorem dX12_readJob_109 : decode cX12_readJob 109 = .ok (.aload_n 0, 1) := by decide +kernel
theorem dX12_readJob_110 : decode cX12_readJob 110 = .ok (.getfield 251, 3) := by decide +kernel
theorem dX12_readJob_113 : decode cX12_readJob 113 = .ok (.ifCond .le 4, 3) := by decide +kernel
theorem dX12_readJob_116 : decode cX12_readJob 116 = .ok (.return_, 1) := by decide +kernel
theorem dX12_readJob_117 : decode cX12_readJob 117 = .ok (.sipush 3121, 3) := by decide +kernel
theorem dX12_readJob_120 : decode cX12_readJob 120 = .ok (.iconst 5, 1) := by decide +kernel
theorem dX12_readJob_121 : decode cX12_readJob 121 = .ok (.aload_n 0, 1) := by decide +kernel
theorem dX12_readJob_122 : decode cX12_readJob 122 = .ok (.getfield 503, 3) := by decide +kernel
theorem dX12_readJob_125 : decode cX12_readJob 125 = .ok (.imul, 1) := by decide +kernel
theorem dX12_readJob_126 : decode cX12_readJob 126 = .ok (.iadd, 1) := by decide +kernel
theorem dX12_readJob_127 : decode cX12_readJob 127 = .ok (.istore_n 2, 1) := by decide +kernel
theorem dX12_readJob_128 : decode cX12_readJob 128 = .ok (.aload_n 0, 1) := by decide +kernel
theorem dX12_readJob_129 : decode cX12_readJob 129 = .ok (.dup, 1) := by decide +kernel
theorem dX12_readJob_130 : decode cX12_readJob 130 = .ok (.getfield 503, 3) := by decide +kernel
theorem dX12_readJob_133 : decode cX12_readJob 133 = .ok (.iconst 1, 1) := by decide +kernel
theorem dX12_readJob_134 : decode cX12_readJob 134 = .ok (.iadd, 1) := by decide +kernel
theorem dX12_readJob_135 : decode cX12_readJob 135 = .ok (.putfield 503, 3) := by decide +kernel
theorem dX12_readJob_138 : decode cX12_readJob 138 = .ok (.iload_n 1, 1) := by decide +kernel
theorem dX12_readJob_139 : decode cX12_readJob 139 = .ok (.ifCond .ne 11, 3) := by decide +kernel
theorem dX12_readJob_142 : decode cX12_readJob 142 = .ok (.aload_n 0, 1) := by decide +kernel
theorem dX12_readJob_143 : decode cX12_readJob 143 = .ok (.iload_n 2, 1) := by decide +kernel
theorem dX12_readJob_144 : decode cX12_readJob 144 = .ok (.invokevirtual 506, 3) := by decide +kernel
theorem dX12_readJob_147 : decode cX12_readJob 147 = .ok (.goto 50, 3) := by decide +kernel
theorem dX12_readJob_150 : decode cX12_readJob 150 = .ok (.aload_n 0, 1) := by decide +kernel
theorem dX12_readJob_151 : decode cX12_readJob 151 = .ok (.getfield 78, 3) := by decide +kernel
theorem dX12_readJob_154 : decode cX12_readJob 154 = .ok (.iload_n 1, 1) := by decide +kernel
theorem dX12_readJob_155 : decode cX12_readJob 155 = .ok (.iconst 1, 1) := by decide +kernel
theorem dX12_readJob_156 : decode cX12_readJob 156 = .ok (.bastore, 1) := by decide +kernel
theorem dX12_readJob_157 : decode cX12_readJob 157 = .ok (.aload_n 0, 1) := by decide +kernel
theorem dX12_readJob_158 : decode cX12_readJob 158 = .ok (.invokevirtual 261, 3) := by decide +kernel
theorem dX12_readJob_161 : decode cX12_readJob 161 = .ok (.aload_n 0, 1) := by decide +kernel
theorem dX12_readJob_162 : decode cX12_readJob 162 = .ok (.getfield 35, 3) := by decide +kernel
theorem dX12_readJob_165 : decode cX12_readJob 165 = .ok (.iload_n 2, 1) := by decide +kernel
theorem dX12_readJob_166 : decode cX12_readJob 166 = .ok (.iload_n 1, 1) := by decide +kernel
theorem dX12_readJob_167 : decode cX12_readJob 167 = .ok (.iastore, 1) := by decide +kernel
theorem dX12_readJob_168 : decode cX12_readJob 168 = .ok (.aload_n 0, 1) := by decide +kernel
theorem dX12_readJob_169 : decode cX12_readJob 169 = .ok (.getfield 35, 3) := by decide +kernel
theorem dX12_readJob_172 : decode cX12_readJob 172 = .ok (.iload_n 2, 1) := by decide +kernel
theorem dX12_readJob_173 : decode cX12_readJob 173 = .ok (.iconst 2, 1) := by decide +kernel
theorem dX12_readJob_174 : decode cX12_readJob 174 = .ok (.iadd, 1) := by decide +kernel
theorem dX12_readJob_175 : decode cX12_readJob 175 = .ok (.aload_n 0, 1) := by decide +kernel
theorem dX12_readJob_176 : decode cX12_readJob 176 = .ok (.iconst 0, 1) := by decide +kernel
theorem dX12_readJob_177 : decode cX12_readJob 177 = .ok (.iconst 0, 1) := by decide +kernel
theorem dX12_readJob_178 : decode cX12_readJob 178 = .ok (.iconst 0, 1) := by decide +kernel
theorem dX12_readJob_179 : decode cX12_readJob 179 = .ok (.invokevirtual 287, 3) := by decide +kernel
theorem dX12_readJob_182 : decode cX12_readJob 182 = .ok (.iastore, 1) := by decide +kernel
theorem dX12_readJob_183 : decode cX12_readJob 183 = .ok (.aload_n 0, 1) := by decide +kernel
theorem dX12_readJob_184 : decode cX12_readJob 184 = .ok (.getfield 35, 3) := by decide +kernel
theorem dX12_readJob_187 : decode cX12_readJob 187 = .ok (.iload_n 2, 1) := by decide +kernel
theorem dX12_readJob_188 : decode cX12_readJob 188 = .ok (.iconst 3, 1) := by decide +kernel
theorem dX12_readJob_189 : decode cX12_readJob 189 = .ok (.iadd, 1) := by decide +kernel
theorem dX12_readJob_190 : decode cX12_readJob 190 = .ok (.iconst 0, 1) := by decide +kernel
theorem dX12_readJob_191 : decode cX12_readJob 191 = .ok (.iastore, 1) := by decide +kernel
theorem dX12_readJob_192 : decode cX12_readJob 192 = .ok (.aload_n 0, 1) := by decide +kernel
theorem dX12_readJob_193 : decode cX12_readJob 193 = .ok (.iconst 1, 1) := by decide +kernel
theorem dX12_readJob_194 : decode cX12_readJob 194 = .ok (.invokevirtual 290, 3) := by decide +kernel
theorem dX12_readJob_197 : decode cX12_readJob 197 = .ok (.aload_n 0, 1) := by decide +kernel
theorem dX12_readJob_198 : decode cX12_readJob 198 = .ok (.aload_n 0, 1) := by decide +kernel
theorem dX12_readJob_199 : decode cX12_readJob 199 = .ok (.bipush 59, 2) := by decide +kernel
theorem dX12_readJob_201 : decode cX12_readJob 201 = .ok (.invokevirtual 316, 3) := by decide +kernel
theorem dX12_readJob_204 : decode cX12_readJob 204 = .ok (.invokevirtual 290, 3) := by decide +kernel
theorem dX12_readJob_207 : decode cX12_readJob 207 = .ok (.return_, 1) := by decide +kernel
theorem dX12_plan_0 : decode cX12_plan 0 = .ok (.aload_n 0, 1) := by decide +kernel
theorem dX12_plan_1 : decode cX12_plan 1 = .ok (.iconst 0, 1) := by decide +kernel
theorem dX12_plan_2 : decode cX12_plan 2 = .ok (.putfield 87, 3) := by decide +kernel
theorem dX12_plan_5 : decode cX12_plan 5 = .ok (.aload_n 0, 1) := by decide +kernel
theorem dX12_plan_6 : decode cX12_plan 6 = .ok (.iconst 0, 1) := by decide +kernel
theorem dX12_plan_7 : decode cX12_plan 7 = .ok (.putfield 90, 3) := by decide +kernel
theorem dX12_plan_10 : decode cX12_plan 10 = .ok (.aload_n 0, 1) := by decide +kernel
theorem dX12_plan_11 : decode cX12_plan 11 = .ok (.iload_n 1, 1) := by decide +kernel
theorem dX12_plan_12 : decode cX12_plan 12 = .ok (.sipush 300, 3) := by decide +kernel
theorem dX12_plan_15 : decode cX12_plan 15 = .ok (.invokevirtual 300, 3) := by decide +kernel
theorem dX12_plan_18 : decode cX12_plan 18 = .ok (.ifCond .ne 5, 3) := by decide +kernel
theorem dX12_plan_21 : decode cX12_plan 21 = .ok (.iconst (-1), 1) := by decide +kernel
theorem dX12_plan_22 : decode cX12_plan 22 = .ok (.ireturn, 1) := by decide +kernel
theorem dX12_plan_23 : decode cX12_plan 23 = .ok (.aload_n 0, 1) := by decide +kernel
theorem dX12_plan_24 : decode cX12_plan 24 = .ok (.iconst 0, 1) := by decide +kernel
theorem dX12_plan_25 : decode cX12_plan 25 = .ok (.putfield 503, 3) := by decide +kernel
theorem dX12_plan_28 : decode cX12_plan 28 = .ok (.iconst 0, 1) := by decide +kernel
theorem dX12_plan_29 : decode cX12_plan 29 = .ok (.istore_n 2, 1) := by decide +kernel
theorem dX12_plan_30 : decode cX12_plan 30 = .ok (.iload_n 2, 1) := by decide +kernel
theorem dX12_plan_31 : decode cX12_plan 31 = .ok (.iconst 4, 1) := by decide +kernel
theorem dX12_plan_32 : decode cX12_plan 32 = .ok (.if_icmp .ge 16, 3) := by decide +kernel
theorem dX12_plan_35 : decode cX12_plan 35 = .ok (.aload_n 0, 1) := by decide +kernel
theorem dX12_plan_36 : decode cX12_plan 36 = .ok (.getfield 78, 3) := by decide +kernel
theorem dX12_plan_39 : decode cX12_plan 39 = .ok (.iload_n 2, 1) := by decide +kernel
theorem dX12_plan_40 : decode cX12_plan 40 = .ok (.iconst 0, 1) := by decide +kernel
theorem dX12_plan_41 : decode cX12_plan 41 = .ok (.bastore, 1) := by decide +kernel
theorem dX12_plan_42 : decode cX12_plan 42 = .ok (.iinc 2 1, 3) := by decide +kernel
theorem dX12_plan_45 : decode cX12_plan 45 = .ok (.goto (-15), 3) := by decide +kernel
theorem dX12_plan_48 : decode cX12_plan 48 = .ok (.aload_n 0, 1) := by decide +kernel
theorem dX12_plan_49 : decode cX12_plan 49 = .ok (.getfield 251, 3) := by decide +kernel
theorem dX12_plan_52 : decode cX12_plan 52 = .ok (.ifCond .ne 17, 3) := by decide +kernel
theorem dX12_plan_55 : decode cX12_plan 55 = .ok (.aload_n 0, 1) := by decide +kernel
theorem dX12_plan_56 : decode cX12_plan 56 = .ok (.getfield 138, 3) := by decide +kernel
theorem dX12_plan_59 : decode cX12_plan 59 = .ok (.ifCond .eq 10, 3) := by decide +kernel
theorem dX12_plan_62 : decode cX12_plan 62 = .ok (.aload_n 0, 1) := by decide +kernel
theorem dX12_plan_63 : decode cX12_plan 63 = .ok (.invokevirtual 509, 3) := by decide +kernel
theorem dX12_plan_66 : decode cX12_plan 66 = .ok (.goto (-18), 3) := by decide +kernel
theorem dX12_plan_69 : decode cX12_plan 69 = .ok (.aload_n 0, 1) := by decide +kernel
theorem dX12_plan_70 : decode cX12_plan 70 = .ok (.invokevirtual 319, 3) := by decide +kernel
theorem dX12_plan_73 : decode cX12_plan 73 = .ok (.ifCond .ne 5, 3) := by decide +kernel
theorem dX12_plan_76 : decode cX12_plan 76 = .ok (.iconst (-1), 1) := by decide +kernel
theorem dX12_plan_77 : decode cX12_plan 77 = .ok (.ireturn, 1) := by decide +kernel
theorem dX12_plan_78 : decode cX12_plan 78 = .ok (.aload_n 0, 1) := by decide +kernel
theorem dX12_plan_79 : decode cX12_plan 79 = .ok (.getfield 35, 3) := by decide +kernel
theorem dX12_plan_82 : decode cX12_plan 82 = .ok (.iconst 4, 1) := by decide +kernel
theorem dX12_plan_83 : decode cX12_plan 83 = .ok (.aload_n 0, 1) := by decide +kernel
theorem dX12_plan_84 : decode cX12_plan 84 = .ok (.getfield 503, 3) := by decide +kernel
theorem dX12_plan_87 : decode cX12_plan 87 = .ok (.iastore, 1) := by decide +kernel
theorem dX12_plan_88 : decode cX12_plan 88 = .ok (.aload_n 0, 1) := by decide +kernel
theorem dX12_plan_89 : decode cX12_plan 89 = .ok (.getfield 35, 3) := by decide +kernel
theorem dX12_plan_92 : decode cX12_plan 92 = .ok (.sipush 520, 3) := by decide +kernel
theorem dX12_plan_95 : decode cX12_plan 95 = .ok (.iconst 1, 1) := by decide +kernel
theorem dX12_plan_96 : decode cX12_plan 96 = .ok (.iastore, 1) := by decide +kernel
theorem dX12_plan_97 : decode cX12_plan 97 = .ok (.iconst 0, 1) := by decide +kernel
theorem dX12_plan_98 : decode cX12_plan 98 = .ok (.istore_n 2, 1) := by decide +kernel
theorem dX12_plan_99 : decode cX12_plan 99 = .ok (.iload_n 2, 1) := by decide +kernel
theorem dX12_plan_100 : decode cX12_plan 100 = .ok (.iconst 5, 1) := by decide +kernel
theorem dX12_plan_101 : decode cX12_plan 101 = .ok (.aload_n 0, 1) := by decide +kernel
theorem dX12_plan_102 : decode cX12_plan 102 = .ok (.getfield 503, 3) := by decide +kernel
theorem dX12_plan_105 : decode cX12_plan 105 = .ok (.imul, 1) := by decide +kernel
theorem dX12_plan_106 : decode cX12_plan 106 = .ok (.if_icmp .ge 29, 3) := by decide +kernel
theorem dX12_plan_109 : decode cX12_plan 109 = .ok (.aload_n 0, 1) := by decide +kernel
theorem dX12_plan_110 : decode cX12_plan 110 = .ok (.getfield 35, 3) := by decide +kernel
theorem dX12_plan_113 : decode cX12_plan 113 = .ok (.sipush 521, 3) := by decide +kernel
theorem dX12_plan_116 : decode cX12_plan 116 = .ok (.iload_n 2, 1) := by decide +kernel
theorem dX12_plan_117 : decode cX12_plan 117 = .ok (.iadd, 1) := by decide +kernel
theorem dX12_plan_118 : decode cX12_plan 118 = .ok (.aload_n 0, 1) := by decide +kernel
theorem dX12_plan_119 : decode cX12_plan 119 = .ok (.getfield 35, 3) := by decide +kernel
theorem dX12_plan_122 : decode cX12_plan 122 = .ok (.sipush 3121, 3) := by decide +kernel
theorem dX12_plan_125 : decode cX12_plan 125 = .ok (.iload_n 2, 1) := by decide +kernel
theorem dX12_plan_126 : decode cX12_plan 126 = .ok (.iadd, 1) := by decide +kernel
theorem dX12_plan_127 : decode cX12_plan 127 = .ok (.iaload, 1) := by decide +kernel
theorem dX12_plan_128 : decode cX12_plan 128 = .ok (.iastore, 1) := by decide +kernel
theorem dX12_plan_129 : decode cX12_plan 129 = .ok (.iinc 2 1, 3) := by decide +kernel
theorem dX12_plan_132 : decode cX12_plan 132 = .ok (.goto (-33), 3) := by decide +kernel
theorem dX12_plan_135 : decode cX12_plan 135 = .ok (.aload_n 0, 1) := by decide +kernel
theorem dX12_plan_136 : decode cX12_plan 136 = .ok (.getfield 503, 3) := by decide +kernel
theorem dX12_plan_139 : decode cX12_plan 139 = .ok (.ireturn, 1) := by decide +kernel
theorem dX12_jobCell_0 : decode cX12_jobCell 0 = .ok (.aload_n 0, 1) := by decide +kernel
theorem dX12_jobCell_1 : decode cX12_jobCell 1 = .ok (.getfield 35, 3) := by decide +kernel
theorem dX12_jobCell_4 : decode cX12_jobCell 4 = .ok (.sipush 521, 3) := by decide +kernel
theorem dX12_jobCell_7 : decode cX12_jobCell 7 = .ok (.iconst 5, 1) := by decide +kernel
theorem dX12_jobCell_8 : decode cX12_jobCell 8 = .ok (.iload_n 1, 1) := by decide +kernel
theorem dX12_jobCell_9 : decode cX12_jobCell 9 = .ok (.imul, 1) := by decide +kernel
theorem dX12_jobCell_10 : decode cX12_jobCell 10 = .ok (.iadd, 1) := by decide +kernel
theorem dX12_jobCell_11 : decode cX12_jobCell 11 = .ok (.iload_n 2, 1) := by decide +kernel
theorem dX12_jobCell_12 : decode cX12_jobCell 12 = .ok (.iadd, 1) := by decide +kernel
theorem dX12_jobCell_13 : decode cX12_jobCell 13 = .ok (.iaload, 1) := by decide +kernel
theorem dX12_jobCell_14 : decode cX12_jobCell 14 = .ok (.ireturn, 1) := by decide +kernel
theorem dX12_isBusyAhead_0 : decode cX12_isBusyAhead 0 = .ok (.aload_n 0, 1) := by decide +kernel
theorem dX12_isBusyAhead_1 : decode cX12_isBusyAhead 1 = .ok (.iload_n 1, 1) := by decide +kernel
theorem dX12_isBusyAhead_2 : decode cX12_isBusyAhead 2 = .ok (.iconst 1, 1) := by decide +kernel
theorem dX12_isBusyAhead_3 : decode cX12_isBusyAhead 3 = .ok (.invokevirtual 512, 3) := by decide +kernel
theorem dX12_isBusyAhead_6 : decode cX12_isBusyAhead 6 = .ok (.istore_n 2, 1) := by decide +kernel
theorem dX12_isBusyAhead_7 : decode cX12_isBusyAhead 7 = .ok (.iload_n 2, 1) := by decide +kernel
theorem dX12_isBusyAhead_8 : decode cX12_isBusyAhead 8 = .ok (.aload_n 0, 1) := by decide +kernel
theorem dX12_isBusyAhead_9 : decode cX12_isBusyAhead 9 = .ok (.getfield 35, 3) := by decide +kernel
theorem dX12_isBusyAhead_12 : decode cX12_isBusyAhead 12 = .ok (.bipush 41, 2) := by decide +kernel
theorem dX12_isBusyAhead_14 : decode cX12_isBusyAhead 14 = .ok (.aload_n 0, 1) := by decide +kernel
theorem dX12_isBusyAhead_15 : decode cX12_isBusyAhead 15 = .ok (.iload_n 1, 1) := by decide +kernel
theorem dX12_isBusyAhead_16 : decode cX12_isBusyAhead 16 = .ok (.iconst 2, 1) := by decide +kernel
theorem dX12_isBusyAhead_17 : decode cX12_isBusyAhead 17 = .ok (.invokevirtual 512, 3) := by decide +kernel
theorem dX12_isBusyAhead_20 : decode cX12_isBusyAhead 20 = .ok (.iadd, 1) := by decide +kernel
theorem dX12_isBusyAhead_21 : decode cX12_isBusyAhead 21 = .ok (.iaload, 1) := by decide +kernel
theorem dX12_isBusyAhead_22 : decode cX12_isBusyAhead 22 = .ok (.iadd, 1) := by decide +kernel
theorem dX12_isBusyAhead_23 : decode cX12_isBusyAhead 23 = .ok (.istore_n 3, 1) := by decide +kernel
theorem dX12_isBusyAhead_24 : decode cX12_isBusyAhead 24 = .ok (.iconst 0, 1) := by decide +kernel
theorem dX12_isBusyAhead_25 : decode cX12_isBusyAhead 25 = .ok (.istore 4, 2) := by decide +kernel
theorem dX12_isBusyAhead_27 : decode cX12_isBusyAhead 27 = .ok (.iload 4, 2) := by decide +kernel
theorem dX12_isBusyAhead_29 : decode cX12_isBusyAhead 29 = .ok (.iload_n 1, 1) := by decide +kernel
theorem dX12_isBusyAhead_30 : decode cX12_isBusyAhead 30 = .ok (.if_icmp .ge 78, 3) := by decide +kernel
theorem dX12_isBusyAhead_33 : decode cX12_isBusyAhead 33 = .ok (.aload_n 0, 1) := by decide +kernel
theorem dX12_isBusyAhead_34 : decode cX12_isBusyAhead 34 = .ok (.iload 4, 2) := by decide +kernel
theorem dX12_isBusyAhead_36 : decode cX12_isBusyAhead 36 = .ok (.iconst 0, 1) := by decide +kernel
theorem dX12_isBusyAhead_37 : decode cX12_isBusyAhead 37 = .ok (.invokevirtual 512, 3) := by decide +kernel
theorem dX12_isBusyAhead_40 : decode cX12_isBusyAhead 40 = .ok (.ifCond .ne 62, 3) := by decide +kernel
theorem dX12_isBusyAhead_43 : decode cX12_isBusyAhead 43 = .ok (.aload_n 0, 1) := by decide +kernel
theorem dX12_isBusyAhead_44 : decode cX12_isBusyAhead 44 = .ok (.iload 4, 2) := by decide +kernel
theorem dX12_isBusyAhead_46 : decode cX12_isBusyAhead 46 = .ok (.iconst 3, 1) := by decide +kernel
theorem dX12_isBusyAhead_47 : decode cX12_isBusyAhead 47 = .ok (.invokevirtual 512, 3) := by decide +kernel
theorem dX12_isBusyAhead_50 : decode cX12_isBusyAhead 50 = .ok (.aload_n 0, 1) := by decide +kernel
theorem dX12_isBusyAhead_51 : decode cX12_isBusyAhead 51 = .ok (.iload_n 1, 1) := by decide +kernel
theorem dX12_isBusyAhead_52 : decode cX12_isBusyAhead 52 = .ok (.iconst 3, 1) := by decide +kernel
theorem dX12_isBusyAhead_53 : decode cX12_isBusyAhead 53 = .ok (.invokevirtual 512, 3) := by decide +kernel
theorem dX12_isBusyAhead_56 : decode cX12_isBusyAhead 56 = .ok (.iand, 1) := by decide +kernel
theorem dX12_isBusyAhead_57 : decode cX12_isBusyAhead 57 = .ok (.ifCond .ne 6, 3) := by decide +kernel
theorem dX12_isBusyAhead_60 : decode cX12_isBusyAhead 60 = .ok (.goto 42, 3) := by decide +kernel
theorem dX12_isBusyAhead_63 : decode cX12_isBusyAhead 63 = .ok (.aload_n 0, 1) := by decide +kernel
theorem dX12_isBusyAhead_64 : decode cX12_isBusyAhead 64 = .ok (.iload 4, 2) := by decide +kernel
theorem dX12_isBusyAhead_66 : decode cX12_isBusyAhead 66 = .ok (.iconst 1, 1) := by decide +kernel
theorem dX12_isBusyAhead_67 : decode cX12_isBusyAhead 67 = .ok (.invokevirtual 512, 3) := by decide +kernel
theorem dX12_isBusyAhead_70 : decode cX12_isBusyAhead 70 = .ok (.istore 5, 2) := by decide +kernel
theorem dX12_isBusyAhead_72 : decode cX12_isBusyAhead 72 = .ok (.iload 5, 2) := by decide +kernel
theorem dX12_isBusyAhead_74 : decode cX12_isBusyAhead 74 = .ok (.iload_n 3, 1) := by decide +kernel
theorem dX12_isBusyAhead_75 : decode cX12_isBusyAhead 75 = .ok (.if_icmp .ge 27, 3) := by decide +kernel
theorem dX12_isBusyAhead_78 : decode cX12_isBusyAhead 78 = .ok (.iload_n 2, 1) := by decide +kernel
theorem dX12_isBusyAhead_79 : decode cX12_isBusyAhead 79 = .ok (.iload 5, 2) := by decide +kernel
theorem dX12_isBusyAhead_81 : decode cX12_isBusyAhead 81 = .ok (.aload_n 0, 1) := by decide +kernel
theorem dX12_isBusyAhead_82 : decode cX12_isBusyAhead 82 = .ok (.getfield 35, 3) := by decide +kernel
theorem dX12_isBusyAhead_85 : decode cX12_isBusyAhead 85 = .ok (.bipush 41, 2) := by decide +kernel
theorem dX12_isBusyAhead_87 : decode cX12_isBusyAhead 87 = .ok (.aload_n 0, 1) := by decide +kernel
theorem dX12_isBusyAhead_88 : decode cX12_isBusyAhead 88 = .ok (.iload 4, 2) := by decide +kernel
theorem dX12_isBusyAhead_90 : decode cX12_isBusyAhead 90 = .ok (.iconst 2, 1) := by decide +kernel
theorem dX12_isBusyAhead_91 : decode cX12_isBusyAhead 91 = .ok (.invokevirtual 512, 3) := by decide +kernel
theorem dX12_isBusyAhead_94 : decode cX12_isBusyAhead 94 = .ok (.iadd, 1) := by decide +kernel
theorem dX12_isBusyAhead_95 : decode cX12_isBusyAhead 95 = .ok (.iaload, 1) := by decide +kernel
theorem dX12_isBusyAhead_96 : decode cX12_isBusyAhead 96 = .ok (.iadd, 1) := by decide +kernel
theorem dX12_isBusyAhead_97 : decode cX12_isBusyAhead 97 = .ok (.if_icmp .ge 5, 3) := by decide +kernel
theorem dX12_isBusyAhead_100 : decode cX12_isBusyAhead 100 = .ok (.iconst 1, 1) := by decide +kernel
theorem dX12_isBusyAhead_101 : decode cX12_isBusyAhead 101 = .ok (.ireturn, 1) := by decide +kernel
theorem dX12_isBusyAhead_102 : decode cX12_isBusyAhead 102 = .ok (.iinc 4 1, 3) := by decide +kernel
theorem dX12_isBusyAhead_105 : decode cX12_isBusyAhead 105 = .ok (.goto (-78), 3) := by decide +kernel
theorem dX12_isBusyAhead_108 : decode cX12_isBusyAhead 108 = .ok (.iconst 0, 1) := by decide +kernel
theorem dX12_isBusyAhead_109 : decode cX12_isBusyAhead 109 = .ok (.ireturn, 1) := by decide +kernel
theorem dX12_areAwake_0 : decode cX12_areAwake 0 = .ok (.bipush 24, 2) := by decide +kernel
theorem dX12_areAwake_2 : decode cX12_areAwake 2 = .ok (.aload_n 0, 1) := by decide +kernel
theorem dX12_areAwake_3 : decode cX12_areAwake 3 = .ok (.iload_n 1, 1) := by decide +kernel
theorem dX12_areAwake_4 : decode cX12_areAwake 4 = .ok (.iconst 1, 1) := by decide +kernel
theorem dX12_areAwake_5 : decode cX12_areAwake 5 = .ok (.invokevirtual 512, 3) := by decide +kernel
theorem dX12_areAwake_8 : decode cX12_areAwake 8 = .ok (.aload_n 0, 1) := by decide +kernel
theorem dX12_areAwake_9 : decode cX12_areAwake 9 = .ok (.getfield 35, 3) := by decide +kernel
theorem dX12_areAwake_12 : decode cX12_areAwake 12 = .ok (.bipush 41, 2) := by decide +kernel
theorem dX12_areAwake_14 : decode cX12_areAwake 14 = .ok (.aload_n 0, 1) := by decide +kernel
theorem dX12_areAwake_15 : decode cX12_areAwake 15 = .ok (.iload_n 1, 1) := by decide +kernel
theorem dX12_areAwake_16 : decode cX12_areAwake 16 = .ok (.iconst 2, 1) := by decide +kernel
theorem dX12_areAwake_17 : decode cX12_areAwake 17 = .ok (.invokevirtual 512, 3) := by decide +kernel
theorem dX12_areAwake_20 : decode cX12_areAwake 20 = .ok (.iadd, 1) := by decide +kernel
theorem dX12_areAwake_21 : decode cX12_areAwake 21 = .ok (.iaload, 1) := by decide +kernel
theorem dX12_areAwake_22 : decode cX12_areAwake 22 = .ok (.iadd, 1) := by decide +kernel
theorem dX12_areAwake_23 : decode cX12_areAwake 23 = .ok (.invokestatic 515, 3) := by decide +kernel
theorem dX12_areAwake_26 : decode cX12_areAwake 26 = .ok (.istore_n 2, 1) := by decide +kernel
theorem dX12_areAwake_27 : decode cX12_areAwake 27 = .ok (.iconst 0, 1) := by decide +kernel
theorem dX12_areAwake_28 : decode cX12_areAwake 28 = .ok (.istore_n 3, 1) := by decide +kernel
theorem dX12_areAwake_29 : decode cX12_areAwake 29 = .ok (.iload_n 3, 1) := by decide +kernel
theorem dX12_areAwake_30 : decode cX12_areAwake 30 = .ok (.aload_n 0, 1) := by decide +kernel
theorem dX12_areAwake_31 : decode cX12_areAwake 31 = .ok (.getfield 35, 3) := by decide +kernel
theorem dX12_areAwake_34 : decode cX12_areAwake 34 = .ok (.iconst 2, 1) := by decide +kernel
theorem dX12_areAwake_35 : decode cX12_areAwake 35 = .ok (.iaload, 1) := by decide +kernel
theorem dX12_areAwake_36 : decode cX12_areAwake 36 = .ok (.if_icmp .ge 54, 3) := by decide +kernel
theorem dX12_areAwake_39 : decode cX12_areAwake 39 = .ok (.aload_n 0, 1) := by decide +kernel
theorem dX12_areAwake_40 : decode cX12_areAwake 40 = .ok (.iload_n 1, 1) := by decide +kernel
theorem dX12_areAwake_41 : decode cX12_areAwake 41 = .ok (.iconst 1, 1) := by decide +kernel
theorem dX12_areAwake_42 : decode cX12_areAwake 42 = .ok (.invokevirtual 512, 3) := by decide +kernel
theorem dX12_areAwake_45 : decode cX12_areAwake 45 = .ok (.istore 4, 2) := by decide +kernel
theorem dX12_areAwake_47 : decode cX12_areAwake 47 = .ok (.iload 4, 2) := by decide +kernel
theorem dX12_areAwake_49 : decode cX12_areAwake 49 = .ok (.iload_n 2, 1) := by decide +kernel
theorem dX12_areAwake_50 : decode cX12_areAwake 50 = .ok (.if_icmp .ge 34, 3) := by decide +kernel
theorem dX12_areAwake_53 : decode cX12_areAwake 53 = .ok (.aload_n 0, 1) := by decide +kernel
theorem dX12_areAwake_54 : decode cX12_areAwake 54 = .ok (.iload_n 1, 1) := by decide +kernel
theorem dX12_areAwake_55 : decode cX12_areAwake 55 = .ok (.iconst 3, 1) := by decide +kernel
theorem dX12_areAwake_56 : decode cX12_areAwake 56 = .ok (.invokevirtual 512, 3) := by decide +kernel
theorem dX12_areAwake_59 : decode cX12_areAwake 59 = .ok (.iload_n 3, 1) := by decide +kernel
theorem dX12_areAwake_60 : decode cX12_areAwake 60 = .ok (.invokestatic 372, 3) := by decide +kernel
theorem dX12_areAwake_63 : decode cX12_areAwake 63 = .ok (.ifCond .eq 15, 3) := by decide +kernel
theorem dX12_areAwake_66 : decode cX12_areAwake 66 = .ok (.aload_n 0, 1) := by decide +kernel
theorem dX12_areAwake_67 : decode cX12_areAwake 67 = .ok (.iload_n 3, 1) := by decide +kernel
theorem dX12_areAwake_68 : decode cX12_areAwake 68 = .ok (.iload 4, 2) := by decide +kernel
theorem dX12_areAwake_70 : decode cX12_areAwake 70 = .ok (.invokevirtual 346, 3) := by decide +kernel
theorem dX12_areAwake_73 : decode cX12_areAwake 73 = .ok (.ifCond .ne 5, 3) := by decide +kernel
theorem dX12_areAwake_76 : decode cX12_areAwake 76 = .ok (.iconst 0, 1) := by decide +kernel
theorem dX12_areAwake_77 : decode cX12_areAwake 77 = .ok (.ireturn, 1) := by decide +kernel
theorem dX12_areAwake_78 : decode cX12_areAwake 78 = .ok (.iinc 4 1, 3) := by decide +kernel
theorem dX12_areAwake_81 : decode cX12_areAwake 81 = .ok (.goto (-34), 3) := by decide +kernel
theorem dX12_areAwake_84 : decode cX12_areAwake 84 = .ok (.iinc 3 1, 3) := by decide +kernel
theorem dX12_areAwake_87 : decode cX12_areAwake 87 = .ok (.goto (-58), 3) := by decide +kernel
theorem dX12_areAwake_90 : decode cX12_areAwake 90 = .ok (.iconst 1, 1) := by decide +kernel
theorem dX12_areAwake_91 : decode cX12_areAwake 91 = .ok (.ireturn, 1) := by decide +kernel
theorem dX12_wrongOf_0 : decode cX12_wrongOf 0 = .ok (.aload_n 0, 1) := by decide +kernel
theorem dX12_wrongOf_1 : decode cX12_wrongOf 1 = .ok (.iload_n 1, 1) := by decide +kernel
theorem dX12_wrongOf_2 : decode cX12_wrongOf 2 = .ok (.iconst 0, 1) := by decide +kernel
theorem dX12_wrongOf_3 : decode cX12_wrongOf 3 = .ok (.invokevirtual 512, 3) := by decide +kernel
theorem dX12_wrongOf_6 : decode cX12_wrongOf 6 = .ok (.istore_n 2, 1) := by decide +kernel
theorem dX12_wrongOf_7 : decode cX12_wrongOf 7 = .ok (.aload_n 0, 1) := by decide +kernel
theorem dX12_wrongOf_8 : decode cX12_wrongOf 8 = .ok (.iload_n 1, 1) := by decide +kernel
theorem dX12_wrongOf_9 : decode cX12_wrongOf 9 = .ok (.iconst 2, 1) := by decide +kernel
theorem dX12_wrongOf_10 : decode cX12_wrongOf 10 = .ok (.invokevirtual 512, 3) := by decide +kernel
theorem dX12_wrongOf_13 : decode cX12_wrongOf 13 = .ok (.istore_n 3, 1) := by decide +kernel
theorem dX12_wrongOf_14 : decode cX12_wrongOf 14 = .ok (.iload_n 2, 1) := by decide +kernel
theorem dX12_wrongOf_15 : decode cX12_wrongOf 15 = .ok (.iconst 1, 1) := by decide +kernel
theorem dX12_wrongOf_16 : decode cX12_wrongOf 16 = .ok (.if_icmp .ne 21, 3) := by decide +kernel
theorem dX12_wrongOf_19 : decode cX12_wrongOf 19 = .ok (.aload_n 0, 1) := by decide +kernel
theorem dX12_wrongOf_20 : decode cX12_wrongOf 20 = .ok (.getfield 35, 3) := by decide +kernel
theorem dX12_wrongOf_23 : decode cX12_wrongOf 23 = .ok (.iconst 5, 1) := by decide +kernel
theorem dX12_wrongOf_24 : decode cX12_wrongOf 24 = .ok (.iload_n 3, 1) := by decide +kernel
theorem dX12_wrongOf_25 : decode cX12_wrongOf 25 = .ok (.iadd, 1) := by decide +kernel
theorem dX12_wrongOf_26 : decode cX12_wrongOf 26 = .ok (.iaload, 1) := by decide +kernel
theorem dX12_wrongOf_27 : decode cX12_wrongOf 27 = .ok (.iconst 1, 1) := by decide +kernel
theorem dX12_wrongOf_28 : decode cX12_wrongOf 28 = .ok (.if_icmp .ne 7, 3) := by decide +kernel
theorem dX12_wrongOf_31 : decode cX12_wrongOf 31 = .ok (.iconst 0, 1) := by decide +kernel
theorem dX12_wrongOf_32 : decode cX12_wrongOf 32 = .ok (.goto 4, 3) := by decide +kernel
theorem dX12_wrongOf_35 : decode cX12_wrongOf 35 = .ok (.iconst 5, 1) := by decide +kernel
theorem dX12_wrongOf_36 : decode cX12_wrongOf 36 = .ok (.ireturn, 1) := by decide +kernel
theorem dX12_wrongOf_37 : decode cX12_wrongOf 37 = .ok (.iload_n 2, 1) := by decide +kernel
theorem dX12_wrongOf_38 : decode cX12_wrongOf 38 = .ok (.iconst 2, 1) := by decide +kernel
theorem dX12_wrongOf_39 : decode cX12_wrongOf 39 = .ok (.if_icmp .ne 16, 3) := by decide +kernel
theorem dX12_wrongOf_42 : decode cX12_wrongOf 42 = .ok (.aload_n 0, 1) := by decide +kernel
theorem dX12_wrongOf_43 : decode cX12_wrongOf 43 = .ok (.invokevirtual 354, 3) := by decide +kernel
theorem dX12_wrongOf_46 : decode cX12_wrongOf 46 = .ok (.ifCond .eq 7, 3) := by decide +kernel
theorem dX12_wrongOf_49 : decode cX12_wrongOf 49 = .ok (.iconst 0, 1) := by decide +kernel
theorem dX12_wrongOf_50 : decode cX12_wrongOf 50 = .ok (.goto 4, 3) := by decide +kernel
theorem dX12_wrongOf_53 : decode cX12_wrongOf 53 = .ok (.iconst 5, 1) := by decide +kernel
theorem dX12_wrongOf_54 : decode cX12_wrongOf 54 = .ok (.ireturn, 1) := by decide +kernel
theorem dX12_wrongOf_55 : decode cX12_wrongOf 55 = .ok (.iload_n 2, 1) := by decide +kernel
theorem dX12_wrongOf_56 : decode cX12_wrongOf 56 = .ok (.iconst 3, 1) := by decide +kernel
theorem dX12_wrongOf_57 : decode cX12_wrongOf 57 = .ok (.if_icmp .ne 22, 3) := by decide +kernel
theorem dX12_wrongOf_60 : decode cX12_wrongOf 60 = .ok (.aload_n 0, 1) := by decide +kernel
theorem dX12_wrongOf_61 : decode cX12_wrongOf 61 = .ok (.getfield 35, 3) := by decide +kernel
theorem dX12_wrongOf_64 : decode cX12_wrongOf 64 = .ok (.bipush 13, 2) := by decide +kernel
theorem dX12_wrongOf_66 : decode cX12_wrongOf 66 = .ok (.iload_n 3, 1) := by decide +kernel
theorem dX12_wrongOf_67 : decode cX12_wrongOf 67 = .ok (.iadd, 1) := by decide +kernel
theorem dX12_wrongOf_68 : decode cX12_wrongOf 68 = .ok (.iaload, 1) := by decide +kernel
theorem dX12_wrongOf_69 : decode cX12_wrongOf 69 = .ok (.iconst 1, 1) := by decide +kernel
theorem dX12_wrongOf_70 : decode cX12_wrongOf 70 = .ok (.if_icmp .ne 7, 3) := by decide +kernel
theorem dX12_wrongOf_73 : decode cX12_wrongOf 73 = .ok (.iconst 0, 1) := by decide +kernel
theorem dX12_wrongOf_74 : decode cX12_wrongOf 74 = .ok (.goto 4, 3) := by decide +kernel
theorem dX12_wrongOf_77 : decode cX12_wrongOf 77 = .ok (.iconst 5, 1) := by decide +kernel
theorem dX12_wrongOf_78 : decode cX12_wrongOf 78 = .ok (.ireturn, 1) := by decide +kernel
theorem dX12_wrongOf_79 : decode cX12_wrongOf 79 = .ok (.aload_n 0, 1) := by decide +kernel
theorem dX12_wrongOf_80 : decode cX12_wrongOf 80 = .ok (.iload_n 1, 1) := by decide +kernel
theorem dX12_wrongOf_81 : decode cX12_wrongOf 81 = .ok (.iconst 3, 1) := by decide +kernel
theorem dX12_wrongOf_82 : decode cX12_wrongOf 82 = .ok (.invokevirtual 512, 3) := by decide +kernel
theorem dX12_wrongOf_85 : decode cX12_wrongOf 85 = .ok (.invokestatic 480, 3) := by decide +kernel
theorem dX12_wrongOf_88 : decode cX12_wrongOf 88 = .ok (.aload_n 0, 1) := by decide +kernel
theorem dX12_wrongOf_89 : decode cX12_wrongOf 89 = .ok (.getfield 35, 3) := by decide +kernel
theorem dX12_wrongOf_92 : decode cX12_wrongOf 92 = .ok (.bipush 53, 2) := by decide +kernel
theorem dX12_wrongOf_94 : decode cX12_wrongOf 94 = .ok (.iload_n 3, 1) := by decide +kernel
theorem dX12_wrongOf_95 : decode cX12_wrongOf 95 = .ok (.iadd, 1) := by decide +kernel
theorem dX12_wrongOf_96 : decode cX12_wrongOf 96 = .ok (.iaload, 1) := by decide +kernel
theorem dX12_wrongOf_97 : decode cX12_wrongOf 97 = .ok (.if_icmp .eq 5, 3) := by decide +kernel
theorem dX12_wrongOf_100 : decode cX12_wrongOf 100 = .ok (.iconst 1, 1) := by decide +kernel
theorem dX12_wrongOf_101 : decode cX12_wrongOf 101 = .ok (.ireturn, 1) := by decide +kernel
theorem dX12_wrongOf_102 : decode cX12_wrongOf 102 = .ok (.aload_n 0, 1) := by decide +kernel
theorem dX12_wrongOf_103 : decode cX12_wrongOf 103 = .ok (.iload_n 1, 1) := by decide +kernel
theorem dX12_wrongOf_104 : decode cX12_wrongOf 104 = .ok (.invokevirtual 518, 3) := by decide +kernel
theorem dX12_wrongOf_107 : decode cX12_wrongOf 107 = .ok (.ifCond .ne 5, 3) := by decide +kernel
theorem dX12_wrongOf_110 : decode cX12_wrongOf 110 = .ok (.iconst 2, 1) := by decide +kernel
theorem dX12_wrongOf_111 : decode cX12_wrongOf 111 = .ok (.ireturn, 1) := by decide +kernel
theorem dX12_wrongOf_112 : decode cX12_wrongOf 112 = .ok (.aload_n 0, 1) := by decide +kernel
theorem dX12_wrongOf_113 : decode cX12_wrongOf 113 = .ok (.iload_n 1, 1) := by decide +kernel
theorem dX12_wrongOf_114 : decode cX12_wrongOf 114 = .ok (.invokevirtual 521, 3) := by decide +kernel
theorem dX12_wrongOf_117 : decode cX12_wrongOf 117 = .ok (.ifCond .eq 5, 3) := by decide +kernel
theorem dX12_wrongOf_120 : decode cX12_wrongOf 120 = .ok (.iconst 3, 1) := by decide +kernel
theorem dX12_wrongOf_121 : decode cX12_wrongOf 121 = .ok (.ireturn, 1) := by decide +kernel
theorem dX12_wrongOf_122 : decode cX12_wrongOf 122 = .ok (.aload_n 0, 1) := by decide +kernel
theorem dX12_wrongOf_123 : decode cX12_wrongOf 123 = .ok (.iload_n 1, 1) := by decide +kernel
theorem dX12_wrongOf_124 : decode cX12_wrongOf 124 = .ok (.iconst 1, 1) := by decide +kernel
theorem dX12_wrongOf_125 : decode cX12_wrongOf 125 = .ok (.invokevirtual 512, 3) := by decide +kernel
theorem dX12_wrongOf_128 : decode cX12_wrongOf 128 = .ok (.aload_n 0, 1) := by decide +kernel
theorem dX12_wrongOf_129 : decode cX12_wrongOf 129 = .ok (.getfield 35, 3) := by decide +kernel
theorem dX12_wrongOf_132 : decode cX12_wrongOf 132 = .ok (.bipush 41, 2) := by decide +kernel
theorem dX12_wrongOf_134 : decode cX12_wrongOf 134 = .ok (.iload_n 3, 1) := by decide +kernel
theorem dX12_wrongOf_135 : decode cX12_wrongOf 135 = .ok (.iadd, 1) := by decide +kernel
theorem dX12_wrongOf_136 : decode cX12_wrongOf 136 = .ok (.iaload, 1) := by decide +kernel
theorem dX12_wrongOf_137 : decode cX12_wrongOf 137 = .ok (.iadd, 1) := by decide +kernel
theorem dX12_wrongOf_138 : decode cX12_wrongOf 138 = .ok (.bipush 24, 2) := by decide +kernel
theorem dX12_wrongOf_140 : decode cX12_wrongOf 140 = .ok (.if_icmp .le 7, 3) := by decide +kernel
theorem dX12_wrongOf_143 : decode cX12_wrongOf 143 = .ok (.iconst 4, 1) := by decide +kernel
theorem dX12_wrongOf_144 : decode cX12_wrongOf 144 = .ok (.goto 4, 3) := by decide +kernel
theorem dX12_wrongOf_147 : decode cX12_wrongOf 147 = .ok (.iconst 0, 1) := by decide +kernel
theorem dX12_wrongOf_148 : decode cX12_wrongOf 148 = .ok (.ireturn, 1) := by decide +kernel
theorem dX12_lack_0 : decode cX12_lack 0 = .ok (.aload_n 0, 1) := by decide +kernel
theorem dX12_lack_1 : decode cX12_lack 1 = .ok (.getfield 81, 3) := by decide +kernel
theorem dX12_lack_4 : decode cX12_lack 4 = .ok (.iload_n 1, 1) := by decide +kernel
theorem dX12_lack_5 : decode cX12_lack 5 = .ok (.iconst 1, 1) := by decide +kernel
theorem dX12_lack_6 : decode cX12_lack 6 = .ok (.bastore, 1) := by decide +kernel
theorem dX12_lack_7 : decode cX12_lack 7 = .ok (.aload_n 0, 1) := by decide +kernel
theorem dX12_lack_8 : decode cX12_lack 8 = .ok (.getfield 524, 3) := by decide +kernel
theorem dX12_lack_11 : decode cX12_lack 11 = .ok (.ifCond .lt 4, 3) := by decide +kernel
theorem dX12_lack_14 : decode cX12_lack 14 = .ok (.return_, 1) := by decide +kernel
theorem dX12_lack_15 : decode cX12_lack 15 = .ok (.aload_n 0, 1) := by decide +kernel
theorem dX12_lack_16 : decode cX12_lack 16 = .ok (.iload_n 1, 1) := by decide +kernel
theorem dX12_lack_17 : decode cX12_lack 17 = .ok (.putfield 524, 3) := by decide +kernel
theorem dX12_lack_20 : decode cX12_lack 20 = .ok (.bipush 7, 2) := by decide +kernel
theorem dX12_lack_22 : decode cX12_lack 22 = .ok (.istore 4, 2) := by decide +kernel
theorem dX12_lack_24 : decode cX12_lack 24 = .ok (.iload 4, 2) := by decide +kernel
theorem dX12_lack_26 : decode cX12_lack 26 = .ok (.ifCond .lt 28, 3) := by decide +kernel
theorem dX12_lack_29 : decode cX12_lack 29 = .ok (.iload_n 3, 1) := by decide +kernel
theorem dX12_lack_30 : decode cX12_lack 30 = .ok (.iload_n 2, 1) := by decide +kernel
theorem dX12_lack_31 : decode cX12_lack 31 = .ok (.iconst (-1), 1) := by decide +kernel
theorem dX12_lack_32 : decode cX12_lack 32 = .ok (.ixor, 1) := by decide +kernel
theorem dX12_lack_33 : decode cX12_lack 33 = .ok (.iand, 1) := by decide +kernel
theorem dX12_lack_34 : decode cX12_lack 34 = .ok (.iload 4, 2) := by decide +kernel
theorem dX12_lack_36 : decode cX12_lack 36 = .ok (.invokestatic 372, 3) := by decide +kernel
theorem dX12_lack_39 : decode cX12_lack 39 = .ok (.ifCond .eq 9, 3) := by decide +kernel
theorem dX12_lack_42 : decode cX12_lack 42 = .ok (.aload_n 0, 1) := by decide +kernel
theorem dX12_lack_43 : decode cX12_lack 43 = .ok (.iload 4, 2) := by decide +kernel
theorem dX12_lack_45 : decode cX12_lack 45 = .ok (.putfield 527, 3) := by decide +kernel
theorem dX12_lack_48 : decode cX12_lack 48 = .ok (.iinc 4 (-1), 3) := by decide +kernel
theorem dX12_lack_51 : decode cX12_lack 51 = .ok (.goto (-27), 3) := by decide +kernel
theorem dX12_lack_54 : decode cX12_lack 54 = .ok (.return_, 1) := by decide +kernel
theorem dX12_begin_0 : decode cX12_begin 0 = .ok (.iload_n 2, 1) := by decide +kernel
theorem dX12_begin_1 : decode cX12_begin 1 = .ok (.istore_n 3, 1) := by decide +kernel
theorem dX12_begin_2 : decode cX12_begin 2 = .ok (.iconst 0, 1) := by decide +kernel
theorem dX12_begin_3 : decode cX12_begin 3 = .ok (.istore 4, 2) := by decide +kernel
theorem dX12_begin_5 : decode cX12_begin 5 = .ok (.iload 4, 2) := by decide +kernel
theorem dX12_begin_7 : decode cX12_begin 7 = .ok (.aload_n 0, 1) := by decide +kernel
theorem dX12_begin_8 : decode cX12_begin 8 = .ok (.getfield 35, 3) := by decide +kernel
theorem dX12_begin_11 : decode cX12_begin 11 = .ok (.iconst 4, 1) := by decide +kernel
theorem dX12_begin_12 : decode cX12_begin 12 = .ok (.iaload, 1) := by decide +kernel
theorem dX12_begin_13 : decode cX12_begin 13 = .ok (.if_icmp .ge 96, 3) := by decide +kernel
theorem dX12_begin_16 : decode cX12_begin 16 = .ok (.aload_n 0, 1) := by decide +kernel
theorem dX12_begin_17 : decode cX12_begin 17 = .ok (.iload 4, 2) := by decide +kernel
theorem dX12_begin_19 : decode cX12_begin 19 = .ok (.iconst 0, 1) := by decide +kernel
theorem dX12_begin_20 : decode cX12_begin 20 = .ok (.invokevirtual 512, 3) := by decide +kernel
theorem dX12_begin_23 : decode cX12_begin 23 = .ok (.ifCond .ne 80, 3) := by decide +kernel
theorem dX12_begin_26 : decode cX12_begin 26 = .ok (.aload_n 0, 1) := by decide +kernel
theorem dX12_begin_27 : decode cX12_begin 27 = .ok (.getfield 81, 3) := by decide +kernel
theorem dX12_begin_30 : decode cX12_begin 30 = .ok (.iload 4, 2) := by decide +kernel
theorem dX12_begin_32 : decode cX12_begin 32 = .ok (.baload, 1) := by decide +kernel
theorem dX12_begin_33 : decode cX12_begin 33 = .ok (.ifCond .ne 70, 3) := by decide +kernel
theorem dX12_begin_36 : decode cX12_begin 36 = .ok (.aload_n 0, 1) := by decide +kernel
theorem dX12_begin_37 : decode cX12_begin 37 = .ok (.iload 4, 2) := by decide +kernel
theorem dX12_begin_39 : decode cX12_begin 39 = .ok (.iconst 1, 1) := by decide +kernel
theorem dX12_begin_40 : decode cX12_begin 40 = .ok (.invokevirtual 512, 3) := by decide +kernel
theorem dX12_begin_43 : decode cX12_begin 43 = .ok (.iload_n 1, 1) := by decide +kernel
theorem dX12_begin_44 : decode cX12_begin 44 = .ok (.if_icmp .eq 6, 3) := by decide +kernel
theorem dX12_begin_47 : decode cX12_begin 47 = .ok (.goto 56, 3) := by decide +kernel
theorem dX12_begin_50 : decode cX12_begin 50 = .ok (.aload_n 0, 1) := by decide +kernel
theorem dX12_begin_51 : decode cX12_begin 51 = .ok (.iload 4, 2) := by decide +kernel
theorem dX12_begin_53 : decode cX12_begin 53 = .ok (.iconst 2, 1) := by decide +kernel
theorem dX12_begin_54 : decode cX12_begin 54 = .ok (.invokevirtual 512, 3) := by decide +kernel
theorem dX12_begin_57 : decode cX12_begin 57 = .ok (.istore 5, 2) := by decide +kernel
theorem dX12_begin_59 : decode cX12_begin 59 = .ok (.aload_n 0, 1) := by decide +kernel
theorem dX12_begin_60 : decode cX12_begin 60 = .ok (.iload 5, 2) := by decide +kernel
theorem dX12_begin_62 : decode cX12_begin 62 = .ok (.invokevirtual 407, 3) := by decide +kernel
theorem dX12_begin_65 : decode cX12_begin 65 = .ok (.iload_n 3, 1) := by decide +kernel
theorem dX12_begin_66 : decode cX12_begin 66 = .ok (.iconst (-1), 1) := by decide +kernel
theorem dX12_begin_67 : decode cX12_begin 67 = .ok (.ixor, 1) := by decide +kernel
theorem dX12_begin_68 : decode cX12_begin 68 = .ok (.iand, 1) := by decide +kernel
theorem dX12_begin_69 : decode cX12_begin 69 = .ok (.ifCond .eq 19, 3) := by decide +kernel
theorem dX12_begin_72 : decode cX12_begin 72 = .ok (.aload_n 0, 1) := by decide +kernel
theorem dX12_begin_73 : decode cX12_begin 73 = .ok (.iload 4, 2) := by decide +kernel
theorem dX12_begin_75 : decode cX12_begin 75 = .ok (.iload_n 3, 1) := by decide +kernel
theorem dX12_begin_76 : decode cX12_begin 76 = .ok (.aload_n 0, 1) := by decide +kernel
theorem dX12_begin_77 : decode cX12_begin 77 = .ok (.iload 5, 2) := by decide +kernel
theorem dX12_begin_79 : decode cX12_begin 79 = .ok (.invokevirtual 407, 3) := by decide +kernel
theorem dX12_begin_82 : decode cX12_begin 82 = .ok (.invokevirtual 530, 3) := by decide +kernel
theorem dX12_begin_85 : decode cX12_begin 85 = .ok (.goto 18, 3) := by decide +kernel
theorem dX12_begin_88 : decode cX12_begin 88 = .ok (.iload_n 3, 1) := by decide +kernel
theorem dX12_begin_89 : decode cX12_begin 89 = .ok (.aload_n 0, 1) := by decide +kernel
theorem dX12_begin_90 : decode cX12_begin 90 = .ok (.getfield 35, 3) := by decide +kernel
theorem dX12_begin_93 : decode cX12_begin 93 = .ok (.bipush 65, 2) := by decide +kernel
theorem dX12_begin_95 : decode cX12_begin 95 = .ok (.iload 5, 2) := by decide +kernel
theorem dX12_begin_97 : decode cX12_begin 97 = .ok (.iadd, 1) := by decide +kernel
theorem dX12_begin_98 : decode cX12_begin 98 = .ok (.iaload, 1) := by decide +kernel
theorem dX12_begin_99 : decode cX12_begin 99 = .ok (.iconst (-1), 1) := by decide +kernel
theorem dX12_begin_100 : decode cX12_begin 100 = .ok (.ixor, 1) := by decide +kernel
theorem dX12_begin_101 : decode cX12_begin 101 = .ok (.iand, 1) := by decide +kernel
theorem dX12_begin_102 : decode cX12_begin 102 = .ok (.istore_n 3, 1) := by decide +kernel
theorem dX12_begin_103 : decode cX12_begin 103 = .ok (.iinc 4 1, 3) := by decide +kernel
theorem dX12_begin_106 : decode cX12_begin 106 = .ok (.goto (-101), 3) := by decide +kernel
theorem dX12_begin_109 : decode cX12_begin 109 = .ok (.iload_n 3, 1) := by decide +kernel
theorem dX12_begin_110 : decode cX12_begin 110 = .ok (.ireturn, 1) := by decide +kernel
theorem dX12_end_0 : decode cX12_end 0 = .ok (.iload_n 2, 1) := by decide +kernel
theorem dX12_end_1 : decode cX12_end 1 = .ok (.istore_n 3, 1) := by decide +kernel
theorem dX12_end_2 : decode cX12_end 2 = .ok (.iconst 0, 1) := by decide +kernel
theorem dX12_end_3 : decode cX12_end 3 = .ok (.istore 4, 2) := by decide +kernel
theorem dX12_end_5 : decode cX12_end 5 = .ok (.iload 4, 2) := by decide +kernel
theorem dX12_end_7 : decode cX12_end 7 = .ok (.aload_n 0, 1) := by decide +kernel
theorem dX12_end_8 : decode cX12_end 8 = .ok (.getfield 35, 3) := by decide +kernel
theorem dX12_end_11 : decode cX12_end 11 = .ok (.iconst 4, 1) := by decide +kernel
theorem dX12_end_12 : decode cX12_end 12 = .ok (.iaload, 1) := by decide +kernel
theorem dX12_end_13 : decode cX12_end 13 = .ok (.if_icmp .ge 76, 3) := by decide +kernel
theorem dX12_end_16 : decode cX12_end 16 = .ok (.aload_n 0, 1) := by decide +kernel
theorem dX12_end_17 : decode cX12_end 17 = .ok (.iload 4, 2) := by decide +kernel
theorem dX12_end_19 : decode cX12_end 19 = .ok (.iconst 0, 1) := by decide +kernel
theorem dX12_end_20 : decode cX12_end 20 = .ok (.invokevirtual 512, 3) := by decide +kernel
theorem dX12_end_23 : decode cX12_end 23 = .ok (.ifCond .ne 60, 3) := by decide +kernel
theorem dX12_end_26 : decode cX12_end 26 = .ok (.aload_n 0, 1) := by decide +kernel
theorem dX12_end_27 : decode cX12_end 27 = .ok (.getfield 81, 3) := by decide +kernel
theorem dX12_end_30 : decode cX12_end 30 = .ok (.iload 4, 2) := by decide +kernel
theorem dX12_end_32 : decode cX12_end 32 = .ok (.baload, 1) := by decide +kernel
theorem dX12_end_33 : decode cX12_end 33 = .ok (.ifCond .ne 50, 3) := by decide +kernel
theorem dX12_end_36 : decode cX12_end 36 = .ok (.aload_n 0, 1) := by decide +kernel
theorem dX12_end_37 : decode cX12_end 37 = .ok (.iload 4, 2) := by decide +kernel
theorem dX12_end_39 : decode cX12_end 39 = .ok (.iconst 1, 1) := by decide +kernel
theorem dX12_end_40 : decode cX12_end 40 = .ok (.invokevirtual 512, 3) := by decide +kernel
theorem dX12_end_43 : decode cX12_end 43 = .ok (.aload_n 0, 1) := by decide +kernel
theorem dX12_end_44 : decode cX12_end 44 = .ok (.getfield 35, 3) := by decide +kernel
theorem dX12_end_47 : decode cX12_end 47 = .ok (.bipush 41, 2) := by decide +kernel
theorem dX12_end_49 : decode cX12_end 49 = .ok (.aload_n 0, 1) := by decide +kernel
theorem dX12_end_50 : decode cX12_end 50 = .ok (.iload 4, 2) := by decide +kernel
theorem dX12_end_52 : decode cX12_end 52 = .ok (.iconst 2, 1) := by decide +kernel
theorem dX12_end_53 : decode cX12_end 53 = .ok (.invokevirtual 512, 3) := by decide +kernel
theorem dX12_end_56 : decode cX12_end 56 = .ok (.iadd, 1) := by decide +kernel
theorem dX12_end_57 : decode cX12_end 57 = .ok (.iaload, 1) := by decide +kernel
theorem dX12_end_58 : decode cX12_end 58 = .ok (.iadd, 1) := by decide +kernel
theorem dX12_end_59 : decode cX12_end 59 = .ok (.iload_n 1, 1) := by decide +kernel
theorem dX12_end_60 : decode cX12_end 60 = .ok (.if_icmp .ne 23, 3) := by decide +kernel
theorem dX12_end_63 : decode cX12_end 63 = .ok (.iload_n 3, 1) := by decide +kernel
theorem dX12_end_64 : decode cX12_end 64 = .ok (.iconst 1, 1) := by decide +kernel
theorem dX12_end_65 : decode cX12_end 65 = .ok (.aload_n 0, 1) := by decide +kernel
theorem dX12_end_66 : decode cX12_end 66 = .ok (.getfield 35, 3) := by decide +kernel
theorem dX12_end_69 : decode cX12_end 69 = .ok (.bipush 29, 2) := by decide +kernel
theorem dX12_end_71 : decode cX12_end 71 = .ok (.aload_n 0, 1) := by decide +kernel
theorem dX12_end_72 : decode cX12_end 72 = .ok (.iload 4, 2) := by decide +kernel
theorem dX12_end_74 : decode cX12_end 74 = .ok (.iconst 2, 1) := by decide +kernel
theorem dX12_end_75 : decode cX12_end 75 = .ok (.invokevirtual 512, 3) := by decide +kernel
theorem dX12_end_78 : decode cX12_end 78 = .ok (.iadd, 1) := by decide +kernel
theorem dX12_end_79 : decode cX12_end 79 = .ok (.iaload, 1) := by decide +kernel
theorem dX12_end_80 : decode cX12_end 80 = .ok (.ishl, 1) := by decide +kernel
theorem dX12_end_81 : decode cX12_end 81 = .ok (.ior, 1) := by decide +kernel
theorem dX12_end_82 : decode cX12_end 82 = .ok (.istore_n 3, 1) := by decide +kernel
theorem dX12_end_83 : decode cX12_end 83 = .ok (.iinc 4 1, 3) := by decide +kernel
theorem dX12_end_86 : decode cX12_end 86 = .ok (.goto (-81), 3) := by decide +kernel
theorem dX12_end_89 : decode cX12_end 89 = .ok (.iload_n 3, 1) := by decide +kernel
theorem dX12_end_90 : decode cX12_end 90 = .ok (.ireturn, 1) := by decide +kernel
theorem dX12_toldNight_0 : decode cX12_toldNight 0 = .ok (.iconst 0, 1) := by decide +kernel
theorem dX12_toldNight_1 : decode cX12_toldNight 1 = .ok (.istore_n 3, 1) := by decide +kernel
theorem dX12_toldNight_2 : decode cX12_toldNight 2 = .ok (.iload_n 3, 1) := by decide +kernel
theorem dX12_toldNight_3 : decode cX12_toldNight 3 = .ok (.aload_n 0, 1) := by decide +kernel
theorem dX12_toldNight_4 : decode cX12_toldNight 4 = .ok (.getfield 35, 3) := by decide +kernel
theorem dX12_toldNight_7 : decode cX12_toldNight 7 = .ok (.iconst 4, 1) := by decide +kernel
theorem dX12_toldNight_8 : decode cX12_toldNight 8 = .ok (.iaload, 1) := by decide +kernel
theorem dX12_toldNight_9 : decode cX12_toldNight 9 = .ok (.if_icmp .ge 51, 3) := by decide +kernel
theorem dX12_toldNight_12 : decode cX12_toldNight 12 = .ok (.aload_n 0, 1) := by decide +kernel
theorem dX12_toldNight_13 : decode cX12_toldNight 13 = .ok (.iload_n 3, 1) := by decide +kernel
theorem dX12_toldNight_14 : decode cX12_toldNight 14 = .ok (.iconst 0, 1) := by decide +kernel
theorem dX12_toldNight_15 : decode cX12_toldNight 15 = .ok (.invokevirtual 512, 3) := by decide +kernel
theorem dX12_toldNight_18 : decode cX12_toldNight 18 = .ok (.iload_n 1, 1) := by decide +kernel
theorem dX12_toldNight_19 : decode cX12_toldNight 19 = .ok (.if_icmp .ne 35, 3) := by decide +kernel
theorem dX12_toldNight_22 : decode cX12_toldNight 22 = .ok (.aload_n 0, 1) := by decide +kernel
theorem dX12_toldNight_23 : decode cX12_toldNight 23 = .ok (.getfield 81, 3) := by decide +kernel
theorem dX12_toldNight_26 : decode cX12_toldNight 26 = .ok (.iload_n 3, 1) := by decide +kernel
theorem dX12_toldNight_27 : decode cX12_toldNight 27 = .ok (.baload, 1) := by decide +kernel
theorem dX12_toldNight_28 : decode cX12_toldNight 28 = .ok (.ifCond .eq 6, 3) := by decide +kernel
theorem dX12_toldNight_31 : decode cX12_toldNight 31 = .ok (.goto 23, 3) := by decide +kernel
theorem dX12_toldNight_34 : decode cX12_toldNight 34 = .ok (.iload_n 2, 1) := by decide +kernel
theorem dX12_toldNight_35 : decode cX12_toldNight 35 = .ok (.aload_n 0, 1) := by decide +kernel
theorem dX12_toldNight_36 : decode cX12_toldNight 36 = .ok (.iload_n 3, 1) := by decide +kernel
theorem dX12_toldNight_37 : decode cX12_toldNight 37 = .ok (.iconst 2, 1) := by decide +kernel
theorem dX12_toldNight_38 : decode cX12_toldNight 38 = .ok (.invokevirtual 512, 3) := by decide +kernel
theorem dX12_toldNight_41 : decode cX12_toldNight 41 = .ok (.invokestatic 372, 3) := by decide +kernel
theorem dX12_toldNight_44 : decode cX12_toldNight 44 = .ok (.ifCond .eq 10, 3) := by decide +kernel
theorem dX12_toldNight_47 : decode cX12_toldNight 47 = .ok (.aload_n 0, 1) := by decide +kernel
theorem dX12_toldNight_48 : decode cX12_toldNight 48 = .ok (.iload_n 3, 1) := by decide +kernel
theorem dX12_toldNight_49 : decode cX12_toldNight 49 = .ok (.iconst 2, 1) := by decide +kernel
theorem dX12_toldNight_50 : decode cX12_toldNight 50 = .ok (.invokevirtual 512, 3) := by decide +kernel
theorem dX12_toldNight_53 : decode cX12_toldNight 53 = .ok (.ireturn, 1) := by decide +kernel
theorem dX12_toldNight_54 : decode cX12_toldNight 54 = .ok (.iinc 3 1, 3) := by decide +kernel
theorem dX12_toldNight_57 : decode cX12_toldNight 57 = .ok (.goto (-55), 3) := by decide +kernel
theorem dX12_toldNight_60 : decode cX12_toldNight 60 = .ok (.iconst (-1), 1) := by decide +kernel
theorem dX12_toldNight_61 : decode cX12_toldNight 61 = .ok (.ireturn, 1) := by decide +kernel
theorem dX12_doDay_0 : decode cX12_doDay 0 = .ok (.aload_n 0, 1) := by decide +kernel
theorem dX12_doDay_1 : decode cX12_doDay 1 = .ok (.iconst 0, 1) := by decide +kernel
theorem dX12_doDay_2 : decode cX12_doDay 2 = .ok (.putfield 534, 3) := by decide +kernel
theorem dX12_doDay_5 : decode cX12_doDay 5 = .ok (.aload_n 0, 1) := by decide +kernel
theorem dX12_doDay_6 : decode cX12_doDay 6 = .ok (.iconst 0, 1) := by decide +kernel
theorem dX12_doDay_7 : decode cX12_doDay 7 = .ok (.putfield 537, 3) := by decide +kernel
theorem dX12_doDay_10 : decode cX12_doDay 10 = .ok (.aload_n 0, 1) := by decide +kernel
theorem dX12_doDay_11 : decode cX12_doDay 11 = .ok (.iconst (-1), 1) := by decide +kernel
theorem dX12_doDay_12 : decode cX12_doDay 12 = .ok (.putfield 524, 3) := by decide +kernel
theorem dX12_doDay_15 : decode cX12_doDay 15 = .ok (.aload_n 0, 1) := by decide +kernel
theorem dX12_doDay_16 : decode cX12_doDay 16 = .ok (.iconst (-1), 1) := by decide +kernel
theorem dX12_doDay_17 : decode cX12_doDay 17 = .ok (.putfield 527, 3) := by decide +kernel
theorem dX12_doDay_20 : decode cX12_doDay 20 = .ok (.iconst 0, 1) := by decide +kernel
theorem dX12_doDay_21 : decode cX12_doDay 21 = .ok (.istore 4, 2) := by decide +kernel
theorem dX12_doDay_23 : decode cX12_doDay 23 = .ok (.iload 4, 2) := by decide +kernel
theorem dX12_doDay_25 : decode cX12_doDay 25 = .ok (.aload_n 0, 1) := by decide +kernel
theorem dX12_doDay_26 : decode cX12_doDay 26 = .ok (.getfield 35, 3) := by decide +kernel
theorem dX12_doDay_29 : decode cX12_doDay 29 = .ok (.iconst 4, 1) := by decide +kernel
theorem dX12_doDay_30 : decode cX12_doDay 30 = .ok (.iaload, 1) := by decide +kernel
theorem dX12_doDay_31 : decode cX12_doDay 31 = .ok (.if_icmp .ge 52, 3) := by decide +kernel
theorem dX12_doDay_34 : decode cX12_doDay 34 = .ok (.aload_n 0, 1) := by decide +kernel
theorem dX12_doDay_35 : decode cX12_doDay 35 = .ok (.getfield 81, 3) := by decide +kernel
theorem dX12_doDay_38 : decode cX12_doDay 38 = .ok (.iload 4, 2) := by decide +kernel
theorem dX12_doDay_40 : decode cX12_doDay 40 = .ok (.aload_n 0, 1) := by decide +kernel
theorem dX12_doDay_41 : decode cX12_doDay 41 = .ok (.iload 4, 2) := by decide +kernel
theorem dX12_doDay_43 : decode cX12_doDay 43 = .ok (.invokevirtual 540, 3) := by decide +kernel
theorem dX12_doDay_46 : decode cX12_doDay 46 = .ok (.ifCond .gt 25, 3) := by decide +kernel
theorem dX12_doDay_49 : decode cX12_doDay 49 = .ok (.aload_n 0, 1) := by decide +kernel
theorem dX12_doDay_50 : decode cX12_doDay 50 = .ok (.iload 4, 2) := by decide +kernel
theorem dX12_doDay_52 : decode cX12_doDay 52 = .ok (.iconst 0, 1) := by decide +kernel
theorem dX12_doDay_53 : decode cX12_doDay 53 = .ok (.invokevirtual 512, 3) := by decide +kernel
theorem dX12_doDay_56 : decode cX12_doDay 56 = .ok (.ifCond .ne 19, 3) := by decide +kernel
theorem dX12_doDay_59 : decode cX12_doDay 59 = .ok (.aload_n 0, 1) := by decide +kernel
theorem dX12_doDay_60 : decode cX12_doDay 60 = .ok (.iload 4, 2) := by decide +kernel
theorem dX12_doDay_62 : decode cX12_doDay 62 = .ok (.iconst 3, 1) := by decide +kernel
theorem dX12_doDay_63 : decode cX12_doDay 63 = .ok (.invokevirtual 512, 3) := by decide +kernel
theorem dX12_doDay_66 : decode cX12_doDay 66 = .ok (.iload_n 3, 1) := by decide +kernel
theorem dX12_doDay_67 : decode cX12_doDay 67 = .ok (.iand, 1) := by decide +kernel
theorem dX12_doDay_68 : decode cX12_doDay 68 = .ok (.ifCond .eq 7, 3) := by decide +kernel
theorem dX12_doDay_71 : decode cX12_doDay 71 = .ok (.iconst 1, 1) := by decide +kernel
theorem dX12_doDay_72 : decode cX12_doDay 72 = .ok (.goto 4, 3) := by decide +kernel
theorem dX12_doDay_75 : decode cX12_doDay 75 = .ok (.iconst 0, 1) := by decide +kernel
theorem dX12_doDay_76 : decode cX12_doDay 76 = .ok (.bastore, 1) := by decide +kernel
theorem dX12_doDay_77 : decode cX12_doDay 77 = .ok (.iinc 4 1, 3) := by decide +kernel
theorem dX12_doDay_80 : decode cX12_doDay 80 = .ok (.goto (-57), 3) := by decide +kernel
theorem dX12_doDay_83 : decode cX12_doDay 83 = .ok (.iload_n 1, 1) := by decide +kernel
theorem dX12_doDay_84 : decode cX12_doDay 84 = .ok (.istore 4, 2) := by decide +kernel
theorem dX12_doDay_86 : decode cX12_doDay 86 = .ok (.iconst 0, 1) := by decide +kernel
theorem dX12_doDay_87 : decode cX12_doDay 87 = .ok (.istore 5, 2) := by decide +kernel
theorem dX12_doDay_89 : decode cX12_doDay 89 = .ok (.iload 5, 2) := by decide +kernel
theorem dX12_doDay_91 : decode cX12_doDay 91 = .ok (.bipush 25, 2) := by decide +kernel
theorem dX12_doDay_93 : decode cX12_doDay 93 = .ok (.if_icmp .ge 74, 3) := by decide +kernel
theorem dX12_doDay_96 : decode cX12_doDay 96 = .ok (.aload_n 0, 1) := by decide +kernel
theorem dX12_doDay_97 : decode cX12_doDay 97 = .ok (.iload 5, 2) := by decide +kernel
theorem dX12_doDay_99 : decode cX12_doDay 99 = .ok (.iload 4, 2) := by decide +kernel
theorem dX12_doDay_101 : decode cX12_doDay 101 = .ok (.invokevirtual 543, 3) := by decide +kernel
theorem dX12_doDay_104 : decode cX12_doDay 104 = .ok (.istore 4, 2) := by decide +kernel
theorem dX12_doDay_106 : decode cX12_doDay 106 = .ok (.aload_n 0, 1) := by decide +kernel
theorem dX12_doDay_107 : decode cX12_doDay 107 = .ok (.iload 5, 2) := by decide +kernel
theorem dX12_doDay_109 : decode cX12_doDay 109 = .ok (.iload 4, 2) := by decide +kernel
theorem dX12_doDay_111 : decode cX12_doDay 111 = .ok (.invokevirtual 436, 3) := by decide +kernel
theorem dX12_doDay_114 : decode cX12_doDay 114 = .ok (.aload_n 0, 1) := by decide +kernel
theorem dX12_doDay_115 : decode cX12_doDay 115 = .ok (.dup, 1) := by decide +kernel
theorem dX12_doDay_116 : decode cX12_doDay 116 = .ok (.getfield 534, 3) := by decide +kernel
theorem dX12_doDay_119 : decode cX12_doDay 119 = .ok (.aload_n 0, 1) := by decide +kernel
theorem dX12_doDay_120 : decode cX12_doDay 120 = .ok (.getfield 427, 3) := by decide +kernel
theorem dX12_doDay_123 : decode cX12_doDay 123 = .ok (.iadd, 1) := by decide +kernel
theorem dX12_doDay_124 : decode cX12_doDay 124 = .ok (.putfield 534, 3) := by decide +kernel
theorem dX12_doDay_127 : decode cX12_doDay 127 = .ok (.aload_n 0, 1) := by decide +kernel
theorem dX12_doDay_128 : decode cX12_doDay 128 = .ok (.dup, 1) := by decide +kernel
theorem dX12_doDay_129 : decode cX12_doDay 129 = .ok (.getfield 537, 3) := by decide +kernel
theorem dX12_doDay_132 : decode cX12_doDay 132 = .ok (.aload_n 0, 1) := by decide +kernel
theorem dX12_doDay_133 : decode cX12_doDay 133 = .ok (.getfield 433, 3) := by decide +kernel
theorem dX12_doDay_136 : decode cX12_doDay 136 = .ok (.iadd, 1) := by decide +kernel
theorem dX12_doDay_137 : decode cX12_doDay 137 = .ok (.putfield 537, 3) := by decide +kernel
theorem dX12_doDay_140 : decode cX12_doDay 140 = .ok (.aload_n 0, 1) := by decide +kernel
theorem dX12_doDay_141 : decode cX12_doDay 141 = .ok (.iload 5, 2) := by decide +kernel
theorem dX12_doDay_143 : decode cX12_doDay 143 = .ok (.aload_n 0, 1) := by decide +kernel
theorem dX12_doDay_144 : decode cX12_doDay 144 = .ok (.getfield 430, 3) := by decide +kernel
theorem dX12_doDay_147 : decode cX12_doDay 147 = .ok (.invokevirtual 546, 3) := by decide +kernel
theorem dX12_doDay_150 : decode cX12_doDay 150 = .ok (.istore 4, 2) := by decide +kernel
theorem dX12_doDay_152 : decode cX12_doDay 152 = .ok (.aload_n 0, 1) := by decide +kernel
theorem dX12_doDay_153 : decode cX12_doDay 153 = .ok (.getfield 84, 3) := by decide +kernel
theorem dX12_doDay_156 : decode cX12_doDay 156 = .ok (.iload 5, 2) := by decide +kernel
theorem dX12_doDay_158 : decode cX12_doDay 158 = .ok (.iload 4, 2) := by decide +kernel
theorem dX12_doDay_160 : decode cX12_doDay 160 = .ok (.iastore, 1) := by decide +kernel
theorem dX12_doDay_161 : decode cX12_doDay 161 = .ok (.iinc 5 1, 3) := by decide +kernel
theorem dX12_doDay_164 : decode cX12_doDay 164 = .ok (.goto (-75), 3) := by decide +kernel
theorem dX12_doDay_167 : decode cX12_doDay 167 = .ok (.iconst 0, 1) := by decide +kernel
theorem dX12_doDay_168 : decode cX12_doDay 168 = .ok (.istore 5, 2) := by decide +kernel
theorem dX12_doDay_170 : decode cX12_doDay 170 = .ok (.iload 5, 2) := by decide +kernel
theorem dX12_doDay_172 : decode cX12_doDay 172 = .ok (.aload_n 0, 1) := by decide +kernel
theorem dX12_doDay_173 : decode cX12_doDay 173 = .ok (.getfield 35, 3) := by decide +kernel
theorem dX12_doDay_176 : decode cX12_doDay 176 = .ok (.iconst 4, 1) := by decide +kernel
theorem dX12_doDay_177 : decode cX12_doDay 177 = .ok (.iaload, 1) := by decide +kernel
theorem dX12_doDay_178 : decode cX12_doDay 178 = .ok (.if_icmp .ge 61, 3) := by decide +kernel
theorem dX12_doDay_181 : decode cX12_doDay 181 = .ok (.aload_n 0, 1) := by decide +kernel
theorem dX12_doDay_182 : decode cX12_doDay 182 = .ok (.iload 5, 2) := by decide +kernel
theorem dX12_doDay_184 : decode cX12_doDay 184 = .ok (.iconst 0, 1) := by decide +kernel
theorem dX12_doDay_185 : decode cX12_doDay 185 = .ok (.invokevirtual 512, 3) := by decide +kernel
theorem dX12_doDay_188 : decode cX12_doDay 188 = .ok (.ifCond .eq 45, 3) := by decide +kernel
theorem dX12_doDay_191 : decode cX12_doDay 191 = .ok (.aload_n 0, 1) := by decide +kernel
theorem dX12_doDay_192 : decode cX12_doDay 192 = .ok (.getfield 81, 3) := by decide +kernel
theorem dX12_doDay_195 : decode cX12_doDay 195 = .ok (.iload 5, 2) := by decide +kernel
theorem dX12_doDay_197 : decode cX12_doDay 197 = .ok (.baload, 1) := by decide +kernel
theorem dX12_doDay_198 : decode cX12_doDay 198 = .ok (.ifCond .ne 35, 3) := by decide +kernel
theorem dX12_doDay_201 : decode cX12_doDay 201 = .ok (.iload 4, 2) := by decide +kernel
theorem dX12_doDay_203 : decode cX12_doDay 203 = .ok (.aload_n 0, 1) := by decide +kernel
theorem dX12_doDay_204 : decode cX12_doDay 204 = .ok (.iload 5, 2) := by decide +kernel
theorem dX12_doDay_206 : decode cX12_doDay 206 = .ok (.iconst 2, 1) := by decide +kernel
theorem dX12_doDay_207 : decode cX12_doDay 207 = .ok (.invokevirtual 512, 3) := by decide +kernel
theorem dX12_doDay_210 : decode cX12_doDay 210 = .ok (.invokestatic 372, 3) := by decide +kernel
theorem dX12_doDay_213 : decode cX12_doDay 213 = .ok (.ifCond .ne 20, 3) := by decide +kernel
theorem dX12_doDay_216 : decode cX12_doDay 216 = .ok (.aload_n 0, 1) := by decide +kernel
theorem dX12_doDay_217 : decode cX12_doDay 217 = .ok (.iload 5, 2) := by decide +kernel
theorem dX12_doDay_219 : decode cX12_doDay 219 = .ok (.iload 4, 2) := by decide +kernel
theorem dX12_doDay_221 : decode cX12_doDay 221 = .ok (.iconst 1, 1) := by decide +kernel
theorem dX12_doDay_222 : decode cX12_doDay 222 = .ok (.aload_n 0, 1) := by decide +kernel
theorem dX12_doDay_223 : decode cX12_doDay 223 = .ok (.iload 5, 2) := by decide +kernel
theorem dX12_doDay_225 : decode cX12_doDay 225 = .ok (.iconst 2, 1) := by decide +kernel
theorem dX12_doDay_226 : decode cX12_doDay 226 = .ok (.invokevirtual 512, 3) := by decide +kernel
theorem dX12_doDay_229 : decode cX12_doDay 229 = .ok (.ishl, 1) := by decide +kernel
theorem dX12_doDay_230 : decode cX12_doDay 230 = .ok (.invokevirtual 530, 3) := by decide +kernel
theorem dX12_doDay_233 : decode cX12_doDay 233 = .ok (.iinc 5 1, 3) := by decide +kernel
theorem dX12_doDay_236 : decode cX12_doDay 236 = .ok (.goto (-66), 3) := by decide +kernel
theorem dX12_doDay_239 : decode cX12_doDay 239 = .ok (.aload_n 0, 1) := by decide +kernel
theorem dX12_doDay_240 : decode cX12_doDay 240 = .ok (.aload_n 0, 1) := by decide +kernel
theorem dX12_doDay_241 : decode cX12_doDay 241 = .ok (.iload 4, 2) := by decide +kernel
theorem dX12_doDay_243 : decode cX12_doDay 243 = .ok (.aload_n 0, 1) := by decide +kernel
theorem dX12_doDay_244 : decode cX12_doDay 244 = .ok (.iconst 1, 1) := by decide +kernel
theorem dX12_doDay_245 : decode cX12_doDay 245 = .ok (.iload 4, 2) := by decide +kernel
theorem dX12_doDay_247 : decode cX12_doDay 247 = .ok (.invokevirtual 549, 3) := by decide +kernel
theorem dX12_doDay_250 : decode cX12_doDay 250 = .ok (.aload_n 0, 1) := by decide +kernel
theorem dX12_doDay_251 : decode cX12_doDay 251 = .ok (.iconst 2, 1) := by decide +kernel
theorem dX12_doDay_252 : decode cX12_doDay 252 = .ok (.iload 4, 2) := by decide +kernel
theorem dX12_doDay_254 : decode cX12_doDay 254 = .ok (.invokevirtual 549, 3) := by decide +kernel
theorem dX12_doDay_257 : decode cX12_doDay 257 = .ok (.aload_n 0, 1) := by decide +kernel
theorem dX12_doDay_258 : decode cX12_doDay 258 = .ok (.iconst 3, 1) := by decide +kernel
theorem dX12_doDay_259 : decode cX12_doDay 259 = .ok (.iload 4, 2) := by decide +kernel
theorem dX12_doDay_261 : decode cX12_doDay 261 = .ok (.invokevirtual 549, 3) := by decide +kernel
theorem dX12_doDay_264 : decode cX12_doDay 264 = .ok (.iload_n 2, 1) := by decide +kernel
theorem dX12_doDay_265 : decode cX12_doDay 265 = .ok (.invokevirtual 403, 3) := by decide +kernel
theorem dX12_doDay_268 : decode cX12_doDay 268 = .ok (.putfield 552, 3) := by decide +kernel
theorem dX12_doDay_271 : decode cX12_doDay 271 = .ok (.aload_n 0, 1) := by decide +kernel
theorem dX12_doDay_272 : decode cX12_doDay 272 = .ok (.iconst 0, 1) := by decide +kernel
theorem dX12_doDay_273 : decode cX12_doDay 273 = .ok (.putfield 555, 3) := by decide +kernel
theorem dX12_doDay_276 : decode cX12_doDay 276 = .ok (.iconst 0, 1) := by decide +kernel
theorem dX12_doDay_277 : decode cX12_doDay 277 = .ok (.istore 5, 2) := by decide +kernel
theorem dX12_doDay_279 : decode cX12_doDay 279 = .ok (.iload 5, 2) := by decide +kernel
theorem dX12_doDay_281 : decode cX12_doDay 281 = .ok (.aload_n 0, 1) := by decide +kernel
theorem dX12_doDay_282 : decode cX12_doDay 282 = .ok (.getfield 35, 3) := by decide +kernel
theorem dX12_doDay_285 : decode cX12_doDay 285 = .ok (.iconst 4, 1) := by decide +kernel
theorem dX12_doDay_286 : decode cX12_doDay 286 = .ok (.iaload, 1) := by decide +kernel
theorem dX12_doDay_287 : decode cX12_doDay 287 = .ok (.if_icmp .ge 33, 3) := by decide +kernel
theorem dX12_doDay_290 : decode cX12_doDay 290 = .ok (.aload_n 0, 1) := by decide +kernel
theorem dX12_doDay_291 : decode cX12_doDay 291 = .ok (.dup, 1) := by decide +kernel
theorem dX12_doDay_292 : decode cX12_doDay 292 = .ok (.getfield 555, 3) := by decide +kernel
theorem dX12_doDay_295 : decode cX12_doDay 295 = .ok (.aload_n 0, 1) := by decide +kernel
theorem dX12_doDay_296 : decode cX12_doDay 296 = .ok (.getfield 81, 3) := by decide +kernel
theorem dX12_doDay_299 : decode cX12_doDay 299 = .ok (.iload 5, 2) := by decide +kernel
theorem dX12_doDay_301 : decode cX12_doDay 301 = .ok (.baload, 1) := by decide +kernel
theorem dX12_doDay_302 : decode cX12_doDay 302 = .ok (.ifCond .eq 7, 3) := by decide +kernel
theorem dX12_doDay_305 : decode cX12_doDay 305 = .ok (.iconst 1, 1) := by decide +kernel
theorem dX12_doDay_306 : decode cX12_doDay 306 = .ok (.goto 4, 3) := by decide +kernel
theorem dX12_doDay_309 : decode cX12_doDay 309 = .ok (.iconst 0, 1) := by decide +kernel
theorem dX12_doDay_310 : decode cX12_doDay 310 = .ok (.iadd, 1) := by decide +kernel
theorem dX12_doDay_311 : decode cX12_doDay 311 = .ok (.putfield 555, 3) := by decide +kernel
theorem dX12_doDay_314 : decode cX12_doDay 314 = .ok (.iinc 5 1, 3) := by decide +kernel
theorem dX12_doDay_317 : decode cX12_doDay 317 = .ok (.goto (-38), 3) := by decide +kernel
theorem dX12_doDay_320 : decode cX12_doDay 320 = .ok (.aload_n 0, 1) := by decide +kernel
theorem dX12_doDay_321 : decode cX12_doDay 321 = .ok (.getfield 552, 3) := by decide +kernel
theorem dX12_doDay_324 : decode cX12_doDay 324 = .ok (.ireturn, 1) := by decide +kernel
theorem dX12_judged_0 : decode cX12_judged 0 = .ok (.aload_n 0, 1) := by decide +kernel
theorem dX12_judged_1 : decode cX12_judged 1 = .ok (.iconst 0, 1) := by decide +kernel
theorem dX12_judged_2 : decode cX12_judged 2 = .ok (.putfield 87, 3) := by decide +kernel
theorem dX12_judged_5 : decode cX12_judged 5 = .ok (.aload_n 0, 1) := by decide +kernel
theorem dX12_judged_6 : decode cX12_judged 6 = .ok (.iconst 0, 1) := by decide +kernel
theorem dX12_judged_7 : decode cX12_judged 7 = .ok (.putfield 90, 3) := by decide +kernel
theorem dX12_judged_10 : decode cX12_judged 10 = .ok (.iload_n 1, 1) := by decide +kernel
theorem dX12_judged_11 : decode cX12_judged 11 = .ok (.i2l, 1) := by decide +kernel
theorem dX12_judged_12 : decode cX12_judged 12 = .ok (.lconst 0, 1) := by decide +kernel
theorem dX12_judged_13 : decode cX12_judged 13 = .ok (.ldc2_w 360, 3) := by decide +kernel
theorem dX12_judged_16 : decode cX12_judged 16 = .ok (.invokestatic 122, 3) := by decide +kernel
theorem dX12_judged_19 : decode cX12_judged 19 = .ok (.ifCond .ne 9, 3) := by decide +kernel
theorem dX12_judged_22 : decode cX12_judged 22 = .ok (.aload_n 0, 1) := by decide +kernel
theorem dX12_judged_23 : decode cX12_judged 23 = .ok (.iconst 5, 1) := by decide +kernel
theorem dX12_judged_24 : decode cX12_judged 24 = .ok (.invokevirtual 351, 3) := by decide +kernel
theorem dX12_judged_27 : decode cX12_judged 27 = .ok (.ireturn, 1) := by decide +kernel
theorem dX12_judged_28 : decode cX12_judged 28 = .ok (.iconst 0, 1) := by decide +kernel
theorem dX12_judged_29 : decode cX12_judged 29 = .ok (.istore_n 2, 1) := by decide +kernel
theorem dX12_judged_30 : decode cX12_judged 30 = .ok (.iload_n 2, 1) := by decide +kernel
theorem dX12_judged_31 : decode cX12_judged 31 = .ok (.aload_n 0, 1) := by decide +kernel
theorem dX12_judged_32 : decode cX12_judged 32 = .ok (.getfield 35, 3) := by decide +kernel
theorem dX12_judged_35 : decode cX12_judged 35 = .ok (.iconst 4, 1) := by decide +kernel
theorem dX12_judged_36 : decode cX12_judged 36 = .ok (.iaload, 1) := by decide +kernel
theorem dX12_judged_37 : decode cX12_judged 37 = .ok (.if_icmp .ge 43, 3) := by decide +kernel
theorem dX12_judged_40 : decode cX12_judged 40 = .ok (.aload_n 0, 1) := by decide +kernel
theorem dX12_judged_41 : decode cX12_judged 41 = .ok (.iload_n 2, 1) := by decide +kernel
theorem dX12_judged_42 : decode cX12_judged 42 = .ok (.invokevirtual 540, 3) := by decide +kernel
theorem dX12_judged_45 : decode cX12_judged 45 = .ok (.istore_n 3, 1) := by decide +kernel
theorem dX12_judged_46 : decode cX12_judged 46 = .ok (.iload_n 3, 1) := by decide +kernel
theorem dX12_judged_47 : decode cX12_judged 47 = .ok (.ifCond .le 27, 3) := by decide +kernel
theorem dX12_judged_50 : decode cX12_judged 50 = .ok (.iload_n 1, 1) := by decide +kernel
theorem dX12_judged_51 : decode cX12_judged 51 = .ok (.ifCond .ne 7, 3) := by decide +kernel
theorem dX12_judged_54 : decode cX12_judged 54 = .ok (.iload_n 3, 1) := by decide +kernel
theorem dX12_judged_55 : decode cX12_judged 55 = .ok (.goto 18, 3) := by decide +kernel
theorem dX12_judged_58 : decode cX12_judged 58 = .ok (.iload_n 1, 1) := by decide +kernel
theorem dX12_judged_59 : decode cX12_judged 59 = .ok (.iconst 1, 1) := by decide +kernel
theorem dX12_judged_60 : decode cX12_judged 60 = .ok (.if_icmp .ne 7, 3) := by decide +kernel
theorem dX12_judged_63 : decode cX12_judged 63 = .ok (.iload_n 2, 1) := by decide +kernel
theorem dX12_judged_64 : decode cX12_judged 64 = .ok (.goto 9, 3) := by decide +kernel
theorem dX12_judged_67 : decode cX12_judged 67 = .ok (.aload_n 0, 1) := by decide +kernel
theorem dX12_judged_68 : decode cX12_judged 68 = .ok (.bipush 8, 2) := by decide +kernel
theorem dX12_judged_70 : decode cX12_judged 70 = .ok (.invokevirtual 351, 3) := by decide +kernel
theorem dX12_judged_73 : decode cX12_judged 73 = .ok (.ireturn, 1) := by decide +kernel
theorem dX12_judged_74 : decode cX12_judged 74 = .ok (.iinc 2 1, 3) := by decide +kernel
theorem dX12_judged_77 : decode cX12_judged 77 = .ok (.goto (-47), 3) := by decide +kernel
theorem dX12_judged_80 : decode cX12_judged 80 = .ok (.aload_n 0, 1) := by decide +kernel
theorem dX12_judged_81 : decode cX12_judged 81 = .ok (.iconst 0, 1) := by decide +kernel
theorem dX12_judged_82 : decode cX12_judged 82 = .ok (.putfield 375, 3) := by decide +kernel
theorem dX12_judged_85 : decode cX12_judged 85 = .ok (.aload_n 0, 1) := by decide +kernel
theorem dX12_judged_86 : decode cX12_judged 86 = .ok (.iconst 0, 1) := by decide +kernel
theorem dX12_judged_87 : decode cX12_judged 87 = .ok (.iconst 0, 1) := by decide +kernel
theorem dX12_judged_88 : decode cX12_judged 88 = .ok (.iconst 0, 1) := by decide +kernel
theorem dX12_judged_89 : decode cX12_judged 89 = .ok (.invokevirtual 558, 3) := by decide +kernel
theorem dX12_judged_92 : decode cX12_judged 92 = .ok (.pop, 1) := by decide +kernel
theorem dX12_judged_93 : decode cX12_judged 93 = .ok (.aload_n 0, 1) := by decide +kernel
theorem dX12_judged_94 : decode cX12_judged 94 = .ok (.getfield 524, 3) := by decide +kernel
theorem dX12_judged_97 : decode cX12_judged 97 = .ok (.ifCond .ge 18, 3) := by decide +kernel
theorem dX12_judged_100 : decode cX12_judged 100 = .ok (.iload_n 1, 1) := by decide +kernel
theorem dX12_judged_101 : decode cX12_judged 101 = .ok (.ifCond .ne 7, 3) := by decide +kernel
theorem dX12_judged_104 : decode cX12_judged 104 = .ok (.iconst 0, 1) := by decide +kernel
theorem dX12_judged_105 : decode cX12_judged 105 = .ok (.goto 9, 3) := by decide +kernel
theorem dX12_judged_108 : decode cX12_judged 108 = .ok (.aload_n 0, 1) := by decide +kernel
theorem dX12_judged_109 : decode cX12_judged 109 = .ok (.bipush 8, 2) := by decide +kernel
theorem dX12_judged_111 : decode cX12_judged 111 = .ok (.invokevirtual 351, 3) := by decide +kernel
theorem dX12_judged_114 : decode cX12_judged 114 = .ok (.ireturn, 1) := by decide +kernel
theorem dX12_judged_115 : decode cX12_judged 115 = .ok (.iload_n 1, 1) := by decide +kernel
theorem dX12_judged_116 : decode cX12_judged 116 = .ok (.ifCond .ne 8, 3) := by decide +kernel
theorem dX12_judged_119 : decode cX12_judged 119 = .ok (.bipush 6, 2) := by decide +kernel
theorem dX12_judged_121 : decode cX12_judged 121 = .ok (.goto 19, 3) := by decide +kernel
theorem dX12_judged_124 : decode cX12_judged 124 = .ok (.iload_n 1, 1) := by decide +kernel
theorem dX12_judged_125 : decode cX12_judged 125 = .ok (.iconst 1, 1) := by decide +kernel
theorem dX12_judged_126 : decode cX12_judged 126 = .ok (.if_icmp .ne 10, 3) := by decide +kernel
theorem dX12_judged_129 : decode cX12_judged 129 = .ok (.aload_n 0, 1) := by decide +kernel
theorem dX12_judged_130 : decode cX12_judged 130 = .ok (.getfield 524, 3) := by decide +kernel
theorem dX12_judged_133 : decode cX12_judged 133 = .ok (.goto 7, 3) := by decide +kernel
theorem dX12_judged_136 : decode cX12_judged 136 = .ok (.aload_n 0, 1) := by decide +kernel
theorem dX12_judged_137 : decode cX12_judged 137 = .ok (.getfield 527, 3) := by decide +kernel
theorem dX12_judged_140 : decode cX12_judged 140 = .ok (.ireturn, 1) := by decide +kernel
theorem dX12_done_0 : decode cX12_done 0 = .ok (.aload_n 0, 1) := by decide +kernel
theorem dX12_done_1 : decode cX12_done 1 = .ok (.iconst 0, 1) := by decide +kernel
theorem dX12_done_2 : decode cX12_done 2 = .ok (.putfield 87, 3) := by decide +kernel
theorem dX12_done_5 : decode cX12_done 5 = .ok (.aload_n 0, 1) := by decide +kernel
theorem dX12_done_6 : decode cX12_done 6 = .ok (.iconst 0, 1) := by decide +kernel
theorem dX12_done_7 : decode cX12_done 7 = .ok (.putfield 90, 3) := by decide +kernel
theorem dX12_done_10 : decode cX12_done 10 = .ok (.aload_n 0, 1) := by decide +kernel
theorem dX12_done_11 : decode cX12_done 11 = .ok (.iload_n 1, 1) := by decide +kernel
theorem dX12_done_12 : decode cX12_done 12 = .ok (.invokevirtual 386, 3) := by decide +kernel
theorem dX12_done_15 : decode cX12_done 15 = .ok (.ifCond .ne 9, 3) := by decide +kernel
theorem dX12_done_18 : decode cX12_done 18 = .ok (.aload_n 0, 1) := by decide +kernel
theorem dX12_done_19 : decode cX12_done 19 = .ok (.iconst 2, 1) := by decide +kernel
theorem dX12_done_20 : decode cX12_done 20 = .ok (.invokevirtual 351, 3) := by decide +kernel
theorem dX12_done_23 : decode cX12_done 23 = .ok (.ireturn, 1) := by decide +kernel
theorem dX12_done_24 : decode cX12_done 24 = .ok (.iload_n 2, 1) := by decide +kernel
theorem dX12_done_25 : decode cX12_done 25 = .ok (.i2l, 1) := by decide +kernel
theorem dX12_done_26 : decode cX12_done 26 = .ok (.lconst 0, 1) := by decide +kernel
theorem dX12_done_27 : decode cX12_done 27 = .ok (.ldc2_w 392, 3) := by decide +kernel
theorem dX12_done_30 : decode cX12_done 30 = .ok (.invokestatic 122, 3) := by decide +kernel
theorem dX12_done_33 : decode cX12_done 33 = .ok (.ifCond .ne 9, 3) := by decide +kernel
theorem dX12_done_36 : decode cX12_done 36 = .ok (.aload_n 0, 1) := by decide +kernel
theorem dX12_done_37 : decode cX12_done 37 = .ok (.iconst 5, 1) := by decide +kernel
theorem dX12_done_38 : decode cX12_done 38 = .ok (.invokevirtual 351, 3) := by decide +kernel
theorem dX12_done_41 : decode cX12_done 41 = .ok (.ireturn, 1) := by decide +kernel
theorem dX12_done_42 : decode cX12_done 42 = .ok (.aload_n 0, 1) := by decide +kernel
theorem dX12_done_43 : decode cX12_done 43 = .ok (.getfield 35, 3) := by decide +kernel
theorem dX12_done_46 : decode cX12_done 46 = .ok (.sipush 520, 3) := by decide +kernel
theorem dX12_done_49 : decode cX12_done 49 = .ok (.iaload, 1) := by decide +kernel
theorem dX12_done_50 : decode cX12_done 50 = .ok (.ifCond .ne 10, 3) := by decide +kernel
theorem dX12_done_53 : decode cX12_done 53 = .ok (.aload_n 0, 1) := by decide +kernel
theorem dX12_done_54 : decode cX12_done 54 = .ok (.bipush 8, 2) := by decide +kernel
theorem dX12_done_56 : decode cX12_done 56 = .ok (.invokevirtual 351, 3) := by decide +kernel
theorem dX12_done_59 : decode cX12_done 59 = .ok (.ireturn, 1) := by decide +kernel
theorem dX12_done_60 : decode cX12_done 60 = .ok (.aload_n 0, 1) := by decide +kernel
theorem dX12_done_61 : decode cX12_done 61 = .ok (.iconst 0, 1) := by decide +kernel
theorem dX12_done_62 : decode cX12_done 62 = .ok (.putfield 375, 3) := by decide +kernel
theorem dX12_done_65 : decode cX12_done 65 = .ok (.aload_n 0, 1) := by decide +kernel
theorem dX12_done_66 : decode cX12_done 66 = .ok (.iload_n 1, 1) := by decide +kernel
theorem dX12_done_67 : decode cX12_done 67 = .ok (.iload_n 2, 1) := by decide +kernel
theorem dX12_done_68 : decode cX12_done 68 = .ok (.iconst 0, 1) := by decide +kernel
theorem dX12_done_69 : decode cX12_done 69 = .ok (.invokevirtual 558, 3) := by decide +kernel
theorem dX12_done_72 : decode cX12_done 72 = .ok (.istore_n 3, 1) := by decide +kernel
theorem dX12_done_73 : decode cX12_done 73 = .ok (.iconst 0, 1) := by decide +kernel
theorem dX12_done_74 : decode cX12_done 74 = .ok (.istore 4, 2) := by decide +kernel
theorem dX12_done_76 : decode cX12_done 76 = .ok (.iload 4, 2) := by decide +kernel
theorem dX12_done_78 : decode cX12_done 78 = .ok (.bipush 25, 2) := by decide +kernel
theorem dX12_done_80 : decode cX12_done 80 = .ok (.if_icmp .ge 23, 3) := by decide +kernel
theorem dX12_done_83 : decode cX12_done 83 = .ok (.aload_n 0, 1) := by decide +kernel
theorem dX12_done_84 : decode cX12_done 84 = .ok (.getfield 69, 3) := by decide +kernel
theorem dX12_done_87 : decode cX12_done 87 = .ok (.iload 4, 2) := by decide +kernel
theorem dX12_done_89 : decode cX12_done 89 = .ok (.aload_n 0, 1) := by decide +kernel
theorem dX12_done_90 : decode cX12_done 90 = .ok (.getfield 84, 3) := by decide +kernel
theorem dX12_done_93 : decode cX12_done 93 = .ok (.iload 4, 2) := by decide +kernel
theorem dX12_done_95 : decode cX12_done 95 = .ok (.iaload, 1) := by decide +kernel
theorem dX12_done_96 : decode cX12_done 96 = .ok (.iastore, 1) := by decide +kernel
theorem dX12_done_97 : decode cX12_done 97 = .ok (.iinc 4 1, 3) := by decide +kernel
theorem dX12_done_100 : decode cX12_done 100 = .ok (.goto (-24), 3) := by decide +kernel
theorem dX12_done_103 : decode cX12_done 103 = .ok (.aload_n 0, 1) := by decide +kernel
theorem dX12_done_104 : decode cX12_done 104 = .ok (.getfield 69, 3) := by decide +kernel
theorem dX12_done_107 : decode cX12_done 107 = .ok (.bipush 25, 2) := by decide +kernel
theorem dX12_done_109 : decode cX12_done 109 = .ok (.iload_n 3, 1) := by decide +kernel
theorem dX12_done_110 : decode cX12_done 110 = .ok (.iastore, 1) := by decide +kernel
theorem dX12_done_111 : decode cX12_done 111 = .ok (.aload_n 0, 1) := by decide +kernel
theorem dX12_done_112 : decode cX12_done 112 = .ok (.iconst 1, 1) := by decide +kernel
theorem dX12_done_113 : decode cX12_done 113 = .ok (.putfield 561, 3) := by decide +kernel
theorem dX12_done_116 : decode cX12_done 116 = .ok (.aload_n 0, 1) := by decide +kernel
theorem dX12_done_117 : decode cX12_done 117 = .ok (.getfield 534, 3) := by decide +kernel
theorem dX12_done_120 : decode cX12_done 120 = .ok (.ireturn, 1) := by decide +kernel
theorem dX12_there_0 : decode cX12_there 0 = .ok (.aload_n 0, 1) := by decide +kernel
theorem dX12_there_1 : decode cX12_there 1 = .ok (.iconst 0, 1) := by decide +kernel
theorem dX12_there_2 : decode cX12_there 2 = .ok (.putfield 87, 3) := by decide +kernel
theorem dX12_there_5 : decode cX12_there 5 = .ok (.aload_n 0, 1) := by decide +kernel
theorem dX12_there_6 : decode cX12_there 6 = .ok (.iconst 0, 1) := by decide +kernel
theorem dX12_there_7 : decode cX12_there 7 = .ok (.putfield 90, 3) := by decide +kernel
theorem dX12_there_10 : decode cX12_there 10 = .ok (.iload_n 1, 1) := by decide +kernel
theorem dX12_there_11 : decode cX12_there 11 = .ok (.i2l, 1) := by decide +kernel
theorem dX12_there_12 : decode cX12_there 12 = .ok (.lconst 0, 1) := by decide +kernel
theorem dX12_there_13 : decode cX12_there 13 = .ok (.ldc2_w 564, 3) := by decide +kernel
theorem dX12_there_16 : decode cX12_there 16 = .ok (.invokestatic 122, 3) := by decide +kernel
theorem dX12_there_19 : decode cX12_there 19 = .ok (.ifCond .ne 9, 3) := by decide +kernel
theorem dX12_there_22 : decode cX12_there 22 = .ok (.aload_n 0, 1) := by decide +kernel
theorem dX12_there_23 : decode cX12_there 23 = .ok (.iconst 5, 1) := by decide +kernel
theorem dX12_there_24 : decode cX12_there 24 = .ok (.invokevirtual 351, 3) := by decide +kernel
theorem dX12_there_27 : decode cX12_there 27 = .ok (.ireturn, 1) := by decide +kernel
theorem dX12_there_28 : decode cX12_there 28 = .ok (.aload_n 0, 1) := by decide +kernel
theorem dX12_there_29 : decode cX12_there 29 = .ok (.getfield 561, 3) := by decide +kernel
theorem dX12_there_32 : decode cX12_there 32 = .ok (.ifCond .eq 12, 3) := by decide +kernel
theorem dX12_there_35 : decode cX12_there 35 = .ok (.aload_n 0, 1) := by decide +kernel
theorem dX12_there_36 : decode cX12_there 36 = .ok (.getfield 69, 3) := by decide +kernel
theorem dX12_there_39 : decode cX12_there 39 = .ok (.iload_n 1, 1) := by decide +kernel
theorem dX12_there_40 : decode cX12_there 40 = .ok (.iaload, 1) := by decide +kernel
theorem dX12_there_41 : decode cX12_there 41 = .ok (.goto 9, 3) := by decide +kernel
theorem dX12_there_44 : decode cX12_there 44 = .ok (.aload_n 0, 1) := by decide +kernel
theorem dX12_there_45 : decode cX12_there 45 = .ok (.bipush 8, 2) := by decide +kernel
theorem dX12_there_47 : decode cX12_there 47 = .ok (.invokevirtual 351, 3) := by decide +kernel
theorem dX12_there_50 : decode cX12_there 50 = .ok (.ireturn, 1) := by decide +kernel
theorem dX12_draw_0 : decode cX12_draw 0 = .ok (.aload_n 0, 1) := by decide +kernel
theorem dX12_draw_1 : decode cX12_draw 1 = .ok (.aload_n 0, 1) := by decide +kernel
theorem dX12_draw_2 : decode cX12_draw 2 = .ok (.getfield 566, 3) := by decide +kernel
theorem dX12_draw_5 : decode cX12_draw 5 = .ok (.sipush 2333, 3) := by decide +kernel
theorem dX12_draw_8 : decode cX12_draw 8 = .ok (.imul, 1) := by decide +kernel
theorem dX12_draw_9 : decode cX12_draw 9 = .ok (.sipush 10007, 3) := by decide +kernel
theorem dX12_draw_12 : decode cX12_draw 12 = .ok (.iadd, 1) := by decide +kernel
theorem dX12_draw_13 : decode cX12_draw 13 = .ok (.ldc_w 569, 3) := by decide +kernel
theorem dX12_draw_16 : decode cX12_draw 16 = .ok (.irem, 1) := by decide +kernel
theorem dX12_draw_17 : decode cX12_draw 17 = .ok (.putfield 566, 3) := by decide +kernel
theorem dX12_draw_20 : decode cX12_draw 20 = .ok (.aload_n 0, 1) := by decide +kernel
theorem dX12_draw_21 : decode cX12_draw 21 = .ok (.getfield 566, 3) := by decide +kernel
theorem dX12_draw_24 : decode cX12_draw 24 = .ok (.bipush 8, 2) := by decide +kernel
theorem dX12_draw_26 : decode cX12_draw 26 = .ok (.idiv, 1) := by decide +kernel
theorem dX12_draw_27 : decode cX12_draw 27 = .ok (.bipush 16, 2) := by decide +kernel
theorem dX12_draw_29 : decode cX12_draw 29 = .ok (.irem, 1) := by decide +kernel
theorem dX12_draw_30 : decode cX12_draw 30 = .ok (.ireturn, 1) := by decide +kernel
theorem dX12_liveDays_0 : decode cX12_liveDays 0 = .ok (.aload_n 0, 1) := by decide +kernel
theorem dX12_liveDays_1 : decode cX12_liveDays 1 = .ok (.iconst 0, 1) := by decide +kernel
theorem dX12_liveDays_2 : decode cX12_liveDays 2 = .ok (.putfield 570, 3) := by decide +kernel
theorem dX12_liveDays_5 : decode cX12_liveDays 5 = .ok (.aload_n 0, 1) := by decide +kernel
theorem dX12_liveDays_6 : decode cX12_liveDays 6 = .ok (.iconst 0, 1) := by decide +kernel
theorem dX12_liveDays_7 : decode cX12_liveDays 7 = .ok (.putfield 573, 3) := by decide +kernel
theorem dX12_liveDays_10 : decode cX12_liveDays 10 = .ok (.aload_n 0, 1) := by decide +kernel
theorem dX12_liveDays_11 : decode cX12_liveDays 11 = .ok (.iconst 0, 1) := by decide +kernel
theorem dX12_liveDays_12 : decode cX12_liveDays 12 = .ok (.putfield 576, 3) := by decide +kernel
theorem dX12_liveDays_15 : decode cX12_liveDays 15 = .ok (.aload_n 0, 1) := by decide +kernel
theorem dX12_liveDays_16 : decode cX12_liveDays 16 = .ok (.iconst 0, 1) := by decide +kernel
theorem dX12_liveDays_17 : decode cX12_liveDays 17 = .ok (.putfield 579, 3) := by decide +kernel
theorem dX12_liveDays_20 : decode cX12_liveDays 20 = .ok (.aload_n 0, 1) := by decide +kernel
theorem dX12_liveDays_21 : decode cX12_liveDays 21 = .ok (.iconst 0, 1) := by decide +kernel
theorem dX12_liveDays_22 : decode cX12_liveDays 22 = .ok (.putfield 375, 3) := by decide +kernel
theorem dX12_liveDays_25 : decode cX12_liveDays 25 = .ok (.iconst 0, 1) := by decide +kernel
theorem dX12_liveDays_26 : decode cX12_liveDays 26 = .ok (.istore_n 3, 1) := by decide +kernel
theorem dX12_liveDays_27 : decode cX12_liveDays 27 = .ok (.iconst 0, 1) := by decide +kernel
theorem dX12_liveDays_28 : decode cX12_liveDays 28 = .ok (.istore 4, 2) := by decide +kernel
theorem dX12_liveDays_30 : decode cX12_liveDays 30 = .ok (.iload 4, 2) := by decide +kernel
theorem dX12_liveDays_32 : decode cX12_liveDays 32 = .ok (.iload_n 1, 1) := by decide +kernel
theorem dX12_liveDays_33 : decode cX12_liveDays 33 = .ok (.if_icmp .ge 146, 3) := by decide +kernel
theorem dX12_liveDays_36 : decode cX12_liveDays 36 = .ok (.iconst 0, 1) := by decide +kernel
theorem dX12_liveDays_37 : decode cX12_liveDays 37 = .ok (.istore 5, 2) := by decide +kernel
theorem dX12_liveDays_39 : decode cX12_liveDays 39 = .ok (.iconst 0, 1) := by decide +kernel
theorem dX12_liveDays_40 : decode cX12_liveDays 40 = .ok (.istore 6, 2) := by decide +kernel
theorem dX12_liveDays_42 : decode cX12_liveDays 42 = .ok (.iload 6, 2) := by decide +kernel
theorem dX12_liveDays_44 : decode cX12_liveDays 44 = .ok (.aload_n 0, 1) := by decide +kernel
theorem dX12_liveDays_45 : decode cX12_liveDays 45 = .ok (.getfield 35, 3) := by decide +kernel
theorem dX12_liveDays_48 : decode cX12_liveDays 48 = .ok (.iconst 2, 1) := by decide +kernel
theorem dX12_liveDays_49 : decode cX12_liveDays 49 = .ok (.iaload, 1) := by decide +kernel
theorem dX12_liveDays_50 : decode cX12_liveDays 50 = .ok (.if_icmp .ge 39, 3) := by decide +kernel
theorem dX12_liveDays_53 : decode cX12_liveDays 53 = .ok (.iload_n 2, 1) := by decide +kernel
theorem dX12_liveDays_54 : decode cX12_liveDays 54 = .ok (.ifCond .eq 35, 3) := by decide +kernel
theorem dX12_liveDays_57 : decode cX12_liveDays 57 = .ok (.aload_n 0, 1) := by decide +kernel
theorem dX12_liveDays_58 : decode cX12_liveDays 58 = .ok (.invokevirtual 582, 3) := by decide +kernel
theorem dX12_liveDays_61 : decode cX12_liveDays 61 = .ok (.aload_n 0, 1) := by decide +kernel
theorem dX12_liveDays_62 : decode cX12_liveDays 62 = .ok (.getfield 35, 3) := by decide +kernel
theorem dX12_liveDays_65 : decode cX12_liveDays 65 = .ok (.bipush 101, 2) := by decide +kernel
theorem dX12_liveDays_67 : decode cX12_liveDays 67 = .ok (.iload 6, 2) := by decide +kernel
theorem dX12_liveDays_69 : decode cX12_liveDays 69 = .ok (.iadd, 1) := by decide +kernel
theorem dX12_liveDays_70 : decode cX12_liveDays 70 = .ok (.iaload, 1) := by decide +kernel
theorem dX12_liveDays_71 : decode cX12_liveDays 71 = .ok (.if_icmp .ge 12, 3) := by decide +kernel
theorem dX12_liveDays_74 : decode cX12_liveDays 74 = .ok (.iload 5, 2) := by decide +kernel
theorem dX12_liveDays_76 : decode cX12_liveDays 76 = .ok (.iconst 1, 1) := by decide +kernel
theorem dX12_liveDays_77 : decode cX12_liveDays 77 = .ok (.iload 6, 2) := by decide +kernel
theorem dX12_liveDays_79 : decode cX12_liveDays 79 = .ok (.ishl, 1) := by decide +kernel
theorem dX12_liveDays_80 : decode cX12_liveDays 80 = .ok (.ior, 1) := by decide +kernel
theorem dX12_liveDays_81 : decode cX12_liveDays 81 = .ok (.istore 5, 2) := by decide +kernel
theorem dX12_liveDays_83 : decode cX12_liveDays 83 = .ok (.iinc 6 1, 3) := by decide +kernel
theorem dX12_liveDays_86 : decode cX12_liveDays 86 = .ok (.goto (-44), 3) := by decide +kernel
theorem dX12_liveDays_89 : decode cX12_liveDays 89 = .ok (.aload_n 0, 1) := by decide +kernel
theorem dX12_liveDays_90 : decode cX12_liveDays 90 = .ok (.aload_n 0, 1) := by decide +kernel
theorem dX12_liveDays_91 : decode cX12_liveDays 91 = .ok (.aload_n 0, 1) := by decide +kernel
theorem dX12_liveDays_92 : decode cX12_liveDays 92 = .ok (.getfield 573, 3) := by decide +kernel
theorem dX12_liveDays_95 : decode cX12_liveDays 95 = .ok (.iload 4, 2) := by decide +kernel
theorem dX12_liveDays_97 : decode cX12_liveDays 97 = .ok (.iload 5, 2) := by decide +kernel
theorem dX12_liveDays_99 : decode cX12_liveDays 99 = .ok (.invokevirtual 558, 3) := by decide +kernel
theorem dX12_liveDays_102 : decode cX12_liveDays 102 = .ok (.putfield 573, 3) := by decide +kernel
theorem dX12_liveDays_105 : decode cX12_liveDays 105 = .ok (.iload_n 3, 1) := by decide +kernel
theorem dX12_liveDays_106 : decode cX12_liveDays 106 = .ok (.aload_n 0, 1) := by decide +kernel
theorem dX12_liveDays_107 : decode cX12_liveDays 107 = .ok (.getfield 534, 3) := by decide +kernel
theorem dX12_liveDays_110 : decode cX12_liveDays 110 = .ok (.iadd, 1) := by decide +kernel
theorem dX12_liveDays_111 : decode cX12_liveDays 111 = .ok (.istore_n 3, 1) := by decide +kernel
theorem dX12_liveDays_112 : decode cX12_liveDays 112 = .ok (.aload_n 0, 1) := by decide +kernel
theorem dX12_liveDays_113 : decode cX12_liveDays 113 = .ok (.dup, 1) := by decide +kernel
theorem dX12_liveDays_114 : decode cX12_liveDays 114 = .ok (.getfield 570, 3) := by decide +kernel
theorem dX12_liveDays_117 : decode cX12_liveDays 117 = .ok (.aload_n 0, 1) := by decide +kernel
theorem dX12_liveDays_118 : decode cX12_liveDays 118 = .ok (.getfield 555, 3) := by decide +kernel
theorem dX12_liveDays_121 : decode cX12_liveDays 121 = .ok (.iadd, 1) := by decide +kernel
theorem dX12_liveDays_122 : decode cX12_liveDays 122 = .ok (.putfield 570, 3) := by decide +kernel
theorem dX12_liveDays_125 : decode cX12_liveDays 125 = .ok (.aload_n 0, 1) := by decide +kernel
theorem dX12_liveDays_126 : decode cX12_liveDays 126 = .ok (.dup, 1) := by decide +kernel
theorem dX12_liveDays_127 : decode cX12_liveDays 127 = .ok (.getfield 576, 3) := by decide +kernel
theorem dX12_liveDays_130 : decode cX12_liveDays 130 = .ok (.aload_n 0, 1) := by decide +kernel
theorem dX12_liveDays_131 : decode cX12_liveDays 131 = .ok (.getfield 537, 3) := by decide +kernel
theorem dX12_liveDays_134 : decode cX12_liveDays 134 = .ok (.aload_n 0, 1) := by decide +kernel
theorem dX12_liveDays_135 : decode cX12_liveDays 135 = .ok (.getfield 35, 3) := by decide +kernel
theorem dX12_liveDays_138 : decode cX12_liveDays 138 = .ok (.iconst 3, 1) := by decide +kernel
theorem dX12_liveDays_139 : decode cX12_liveDays 139 = .ok (.iaload, 1) := by decide +kernel
theorem dX12_liveDays_140 : decode cX12_liveDays 140 = .ok (.if_icmp .ne 7, 3) := by decide +kernel
theorem dX12_liveDays_143 : decode cX12_liveDays 143 = .ok (.iconst 1, 1) := by decide +kernel
theorem dX12_liveDays_144 : decode cX12_liveDays 144 = .ok (.goto 4, 3) := by decide +kernel
theorem dX12_liveDays_147 : decode cX12_liveDays 147 = .ok (.iconst 0, 1) := by decide +kernel
theorem dX12_liveDays_148 : decode cX12_liveDays 148 = .ok (.iadd, 1) := by decide +kernel
theorem dX12_liveDays_149 : decode cX12_liveDays 149 = .ok (.putfield 576, 3) := by decide +kernel
theorem dX12_liveDays_152 : decode cX12_liveDays 152 = .ok (.aload_n 0, 1) := by decide +kernel
theorem dX12_liveDays_153 : decode cX12_liveDays 153 = .ok (.dup, 1) := by decide +kernel
theorem dX12_liveDays_154 : decode cX12_liveDays 154 = .ok (.getfield 579, 3) := by decide +kernel
theorem dX12_liveDays_157 : decode cX12_liveDays 157 = .ok (.aload_n 0, 1) := by decide +kernel
theorem dX12_liveDays_158 : decode cX12_liveDays 158 = .ok (.getfield 534, 3) := by decide +kernel
theorem dX12_liveDays_161 : decode cX12_liveDays 161 = .ok (.ifCond .ne 7, 3) := by decide +kernel
theorem dX12_liveDays_164 : decode cX12_liveDays 164 = .ok (.iconst 1, 1) := by decide +kernel
theorem dX12_liveDays_165 : decode cX12_liveDays 165 = .ok (.goto 4, 3) := by decide +kernel
theorem dX12_liveDays_168 : decode cX12_liveDays 168 = .ok (.iconst 0, 1) := by decide +kernel
theorem dX12_liveDays_169 : decode cX12_liveDays 169 = .ok (.iadd, 1) := by decide +kernel
theorem dX12_liveDays_170 : decode cX12_liveDays 170 = .ok (.putfield 579, 3) := by decide +kernel
theorem dX12_liveDays_173 : decode cX12_liveDays 173 = .ok (.iinc 4 1, 3) := by decide +kernel
theorem dX12_liveDays_176 : decode cX12_liveDays 176 = .ok (.goto (-146), 3) := by decide +kernel
theorem dX12_liveDays_179 : decode cX12_liveDays 179 = .ok (.aload_n 0, 1) := by decide +kernel
theorem dX12_liveDays_180 : decode cX12_liveDays 180 = .ok (.iconst 1, 1) := by decide +kernel
theorem dX12_liveDays_181 : decode cX12_liveDays 181 = .ok (.putfield 585, 3) := by decide +kernel
theorem dX12_liveDays_184 : decode cX12_liveDays 184 = .ok (.iload_n 3, 1) := by decide +kernel
theorem dX12_liveDays_185 : decode cX12_liveDays 185 = .ok (.ireturn, 1) := by decide +kernel
theorem dX12_lives_0 : decode cX12_lives 0 = .ok (.aload_n 0, 1) := by decide +kernel
theorem dX12_lives_1 : decode cX12_lives 1 = .ok (.iconst 0, 1) := by decide +kernel
theorem dX12_lives_2 : decode cX12_lives 2 = .ok (.putfield 87, 3) := by decide +kernel
theorem dX12_lives_5 : decode cX12_lives 5 = .ok (.aload_n 0, 1) := by decide +kernel
theorem dX12_lives_6 : decode cX12_lives 6 = .ok (.iconst 0, 1) := by decide +kernel
theorem dX12_lives_7 : decode cX12_lives 7 = .ok (.putfield 90, 3) := by decide +kernel
theorem dX12_lives_10 : decode cX12_lives 10 = .ok (.iload_n 1, 1) := by decide +kernel
theorem dX12_lives_11 : decode cX12_lives 11 = .ok (.i2l, 1) := by decide +kernel
theorem dX12_lives_12 : decode cX12_lives 12 = .ok (.lconst 1, 1) := by decide +kernel
theorem dX12_lives_13 : decode cX12_lives 13 = .ok (.ldc2_w 486, 3) := by decide +kernel
theorem dX12_lives_16 : decode cX12_lives 16 = .ok (.invokestatic 122, 3) := by decide +kernel
theorem dX12_lives_19 : decode cX12_lives 19 = .ok (.ifCond .ne 9, 3) := by decide +kernel
theorem dX12_lives_22 : decode cX12_lives 22 = .ok (.aload_n 0, 1) := by decide +kernel
theorem dX12_lives_23 : decode cX12_lives 23 = .ok (.iconst 5, 1) := by decide +kernel
theorem dX12_lives_24 : decode cX12_lives 24 = .ok (.invokevirtual 351, 3) := by decide +kernel
theorem dX12_lives_27 : decode cX12_lives 27 = .ok (.ireturn, 1) := by decide +kernel
theorem dX12_lives_28 : decode cX12_lives 28 = .ok (.aload_n 0, 1) := by decide +kernel
theorem dX12_lives_29 : decode cX12_lives 29 = .ok (.getfield 35, 3) := by decide +kernel
theorem dX12_lives_32 : decode cX12_lives 32 = .ok (.sipush 520, 3) := by decide +kernel
theorem dX12_lives_35 : decode cX12_lives 35 = .ok (.iaload, 1) := by decide +kernel
theorem dX12_lives_36 : decode cX12_lives 36 = .ok (.ifCond .ne 12, 3) := by decide +kernel
theorem dX12_lives_39 : decode cX12_lives 39 = .ok (.aload_n 0, 1) := by decide +kernel
theorem dX12_lives_40 : decode cX12_lives 40 = .ok (.bipush 8, 2) := by decide +kernel
theorem dX12_lives_42 : decode cX12_lives 42 = .ok (.invokevirtual 351, 3) := by decide +kernel
theorem dX12_lives_45 : decode cX12_lives 45 = .ok (.goto 9, 3) := by decide +kernel
theorem dX12_lives_48 : decode cX12_lives 48 = .ok (.aload_n 0, 1) := by decide +kernel
theorem dX12_lives_49 : decode cX12_lives 49 = .ok (.iload_n 1, 1) := by decide +kernel
theorem dX12_lives_50 : decode cX12_lives 50 = .ok (.iconst 0, 1) := by decide +kernel
theorem dX12_lives_51 : decode cX12_lives 51 = .ok (.invokevirtual 588, 3) := by decide +kernel
theorem dX12_lives_54 : decode cX12_lives 54 = .ok (.ireturn, 1) := by decide +kernel
theorem dX12_ill_0 : decode cX12_ill 0 = .ok (.aload_n 0, 1) := by decide +kernel
theorem dX12_ill_1 : decode cX12_ill 1 = .ok (.iconst 0, 1) := by decide +kernel
theorem dX12_ill_2 : decode cX12_ill 2 = .ok (.putfield 87, 3) := by decide +kernel
theorem dX12_ill_5 : decode cX12_ill 5 = .ok (.aload_n 0, 1) := by decide +kernel
theorem dX12_ill_6 : decode cX12_ill 6 = .ok (.iconst 0, 1) := by decide +kernel
theorem dX12_ill_7 : decode cX12_ill 7 = .ok (.putfield 90, 3) := by decide +kernel
theorem dX12_ill_10 : decode cX12_ill 10 = .ok (.iload_n 1, 1) := by decide +kernel
theorem dX12_ill_11 : decode cX12_ill 11 = .ok (.i2l, 1) := by decide +kernel
theorem dX12_ill_12 : decode cX12_ill 12 = .ok (.lconst 0, 1) := by decide +kernel
theorem dX12_ill_13 : decode cX12_ill 13 = .ok (.ldc2_w 492, 3) := by decide +kernel
theorem dX12_ill_16 : decode cX12_ill 16 = .ok (.invokestatic 122, 3) := by decide +kernel
theorem dX12_ill_19 : decode cX12_ill 19 = .ok (.ifCond .eq 15, 3) := by decide +kernel
theorem dX12_ill_22 : decode cX12_ill 22 = .ok (.iload_n 2, 1) := by decide +kernel
theorem dX12_ill_23 : decode cX12_ill 23 = .ok (.i2l, 1) := by decide +kernel
theorem dX12_ill_24 : decode cX12_ill 24 = .ok (.lconst 1, 1) := by decide +kernel
theorem dX12_ill_25 : decode cX12_ill 25 = .ok (.ldc2_w 486, 3) := by decide +kernel
theorem dX12_ill_28 : decode cX12_ill 28 = .ok (.invokestatic 122, 3) := by decide +kernel
theorem dX12_ill_31 : decode cX12_ill 31 = .ok (.ifCond .ne 9, 3) := by decide +kernel
theorem dX12_ill_34 : decode cX12_ill 34 = .ok (.aload_n 0, 1) := by decide +kernel
theorem dX12_ill_35 : decode cX12_ill 35 = .ok (.iconst 5, 1) := by decide +kernel
theorem dX12_ill_36 : decode cX12_ill 36 = .ok (.invokevirtual 351, 3) := by decide +kernel
theorem dX12_ill_39 : decode cX12_ill 39 = .ok (.ireturn, 1) := by decide +kernel
theorem dX12_ill_40 : decode cX12_ill 40 = .ok (.aload_n 0, 1) := by decide +kernel
theorem dX12_ill_41 : decode cX12_ill 41 = .ok (.getfield 35, 3) := by decide +kernel
theorem dX12_ill_44 : decode cX12_ill 44 = .ok (.sipush 520, 3) := by decide +kernel
theorem dX12_ill_47 : decode cX12_ill 47 = .ok (.iaload, 1) := by decide +kernel
theorem dX12_ill_48 : decode cX12_ill 48 = .ok (.ifCond .ne 10, 3) := by decide +kernel
theorem dX12_ill_51 : decode cX12_ill 51 = .ok (.aload_n 0, 1) := by decide +kernel
theorem dX12_ill_52 : decode cX12_ill 52 = .ok (.bipush 8, 2) := by decide +kernel
theorem dX12_ill_54 : decode cX12_ill 54 = .ok (.invokevirtual 351, 3) := by decide +kernel
theorem dX12_ill_57 : decode cX12_ill 57 = .ok (.ireturn, 1) := by decide +kernel
theorem dX12_ill_58 : decode cX12_ill 58 = .ok (.aload_n 0, 1) := by decide +kernel
theorem dX12_ill_59 : decode cX12_ill 59 = .ok (.iload_n 1, 1) := by decide +kernel
theorem dX12_ill_60 : decode cX12_ill 60 = .ok (.putfield 566, 3) := by decide +kernel
theorem dX12_ill_63 : decode cX12_ill 63 = .ok (.aload_n 0, 1) := by decide +kernel
theorem dX12_ill_64 : decode cX12_ill 64 = .ok (.iload_n 2, 1) := by decide +kernel
theorem dX12_ill_65 : decode cX12_ill 65 = .ok (.iconst 1, 1) := by decide +kernel
theorem dX12_ill_66 : decode cX12_ill 66 = .ok (.invokevirtual 588, 3) := by decide +kernel
theorem dX12_ill_69 : decode cX12_ill 69 = .ok (.ireturn, 1) := by decide +kernel
theorem dX12_lived_0 : decode cX12_lived 0 = .ok (.aload_n 0, 1) := by decide +kernel
theorem dX12_lived_1 : decode cX12_lived 1 = .ok (.iconst 0, 1) := by decide +kernel
theorem dX12_lived_2 : decode cX12_lived 2 = .ok (.putfield 87, 3) := by decide +kernel
theorem dX12_lived_5 : decode cX12_lived 5 = .ok (.aload_n 0, 1) := by decide +kernel
theorem dX12_lived_6 : decode cX12_lived 6 = .ok (.iconst 0, 1) := by decide +kernel
theorem dX12_lived_7 : decode cX12_lived 7 = .ok (.putfield 90, 3) := by decide +kernel
theorem dX12_lived_10 : decode cX12_lived 10 = .ok (.iload_n 1, 1) := by decide +kernel
theorem dX12_lived_11 : decode cX12_lived 11 = .ok (.i2l, 1) := by decide +kernel
theorem dX12_lived_12 : decode cX12_lived 12 = .ok (.lconst 0, 1) := by decide +kernel
theorem dX12_lived_13 : decode cX12_lived 13 = .ok (.ldc2_w 120, 3) := by decide +kernel
theorem dX12_lived_16 : decode cX12_lived 16 = .ok (.invokestatic 122, 3) := by decide +kernel
theorem dX12_lived_19 : decode cX12_lived 19 = .ok (.ifCond .ne 9, 3) := by decide +kernel
theorem dX12_lived_22 : decode cX12_lived 22 = .ok (.aload_n 0, 1) := by decide +kernel
theorem dX12_lived_23 : decode cX12_lived 23 = .ok (.iconst 5, 1) := by decide +kernel
theorem dX12_lived_24 : decode cX12_lived 24 = .ok (.invokevirtual 351, 3) := by decide +kernel
theorem dX12_lived_27 : decode cX12_lived 27 = .ok (.ireturn, 1) := by decide +kernel
theorem dX12_lived_28 : decode cX12_lived 28 = .ok (.aload_n 0, 1) := by decide +kernel
theorem dX12_lived_29 : decode cX12_lived 29 = .ok (.getfield 585, 3) := by decide +kernel
theorem dX12_lived_32 : decode cX12_lived 32 = .ok (.ifCond .ne 10, 3) := by decide +kernel
theorem dX12_lived_35 : decode cX12_lived 35 = .ok (.aload_n 0, 1) := by decide +kernel
theorem dX12_lived_36 : decode cX12_lived 36 = .ok (.bipush 8, 2) := by decide +kernel
theorem dX12_lived_38 : decode cX12_lived 38 = .ok (.invokevirtual 351, 3) := by decide +kernel
theorem dX12_lived_41 : decode cX12_lived 41 = .ok (.ireturn, 1) := by decide +kernel
theorem dX12_lived_42 : decode cX12_lived 42 = .ok (.iload_n 1, 1) := by decide +kernel
theorem dX12_lived_43 : decode cX12_lived 43 = .ok (.ifCond .ne 10, 3) := by decide +kernel
theorem dX12_lived_46 : decode cX12_lived 46 = .ok (.aload_n 0, 1) := by decide +kernel
theorem dX12_lived_47 : decode cX12_lived 47 = .ok (.getfield 570, 3) := by decide +kernel
theorem dX12_lived_50 : decode cX12_lived 50 = .ok (.goto 31, 3) := by decide +kernel
theorem dX12_lived_53 : decode cX12_lived 53 = .ok (.iload_n 1, 1) := by decide +kernel
theorem dX12_lived_54 : decode cX12_lived 54 = .ok (.iconst 1, 1) := by decide +kernel
theorem dX12_lived_55 : decode cX12_lived 55 = .ok (.if_icmp .ne 10, 3) := by decide +kernel
theorem dX12_lived_58 : decode cX12_lived 58 = .ok (.aload_n 0, 1) := by decide +kernel
theorem dX12_lived_59 : decode cX12_lived 59 = .ok (.getfield 573, 3) := by decide +kernel
theorem dX12_lived_62 : decode cX12_lived 62 = .ok (.goto 19, 3) := by decide +kernel
theorem dX12_lived_65 : decode cX12_lived 65 = .ok (.iload_n 1, 1) := by decide +kernel
theorem dX12_lived_66 : decode cX12_lived 66 = .ok (.iconst 2, 1) := by decide +kernel
theorem dX12_lived_67 : decode cX12_lived 67 = .ok (.if_icmp .ne 10, 3) := by decide +kernel
theorem dX12_lived_70 : decode cX12_lived 70 = .ok (.aload_n 0, 1) := by decide +kernel
theorem dX12_lived_71 : decode cX12_lived 71 = .ok (.getfield 576, 3) := by decide +kernel
theorem dX12_lived_74 : decode cX12_lived 74 = .ok (.goto 7, 3) := by decide +kernel
theorem dX12_lived_77 : decode cX12_lived 77 = .ok (.aload_n 0, 1) := by decide +kernel
theorem dX12_lived_78 : decode cX12_lived 78 = .ok (.getfield 579, 3) := by decide +kernel
theorem dX12_lived_81 : decode cX12_lived 81 = .ok (.ireturn, 1) := by decide +kernel
theorem dX12_copy_0 : decode cX12_copy 0 = .ok (.iconst 0, 1) := by decide +kernel
theorem dX12_copy_1 : decode cX12_copy 1 = .ok (.istore_n 3, 1) := by decide +kernel
theorem dX12_copy_2 : decode cX12_copy 2 = .ok (.iload_n 3, 1) := by decide +kernel
theorem dX12_copy_3 : decode cX12_copy 3 = .ok (.sipush 650, 3) := by decide +kernel
theorem dX12_copy_6 : decode cX12_copy 6 = .ok (.if_icmp .ge 33, 3) := by decide +kernel
theorem dX12_copy_9 : decode cX12_copy 9 = .ok (.aload_n 0, 1) := by decide +kernel
theorem dX12_copy_10 : decode cX12_copy 10 = .ok (.getfield 35, 3) := by decide +kernel
theorem dX12_copy_13 : decode cX12_copy 13 = .ok (.sipush 650, 3) := by decide +kernel
theorem dX12_copy_16 : decode cX12_copy 16 = .ok (.iload_n 2, 1) := by decide +kernel
theorem dX12_copy_17 : decode cX12_copy 17 = .ok (.imul, 1) := by decide +kernel
theorem dX12_copy_18 : decode cX12_copy 18 = .ok (.iload_n 3, 1) := by decide +kernel
theorem dX12_copy_19 : decode cX12_copy 19 = .ok (.iadd, 1) := by decide +kernel
theorem dX12_copy_20 : decode cX12_copy 20 = .ok (.aload_n 0, 1) := by decide +kernel
theorem dX12_copy_21 : decode cX12_copy 21 = .ok (.getfield 35, 3) := by decide +kernel
theorem dX12_copy_24 : decode cX12_copy 24 = .ok (.sipush 650, 3) := by decide +kernel
theorem dX12_copy_27 : decode cX12_copy 27 = .ok (.iload_n 1, 1) := by decide +kernel
theorem dX12_copy_28 : decode cX12_copy 28 = .ok (.imul, 1) := by decide +kernel
theorem dX12_copy_29 : decode cX12_copy 29 = .ok (.iload_n 3, 1) := by decide +kernel
theorem dX12_copy_30 : decode cX12_copy 30 = .ok (.iadd, 1) := by decide +kernel
theorem dX12_copy_31 : decode cX12_copy 31 = .ok (.iaload, 1) := by decide +kernel
theorem dX12_copy_32 : decode cX12_copy 32 = .ok (.iastore, 1) := by decide +kernel
theorem dX12_copy_33 : decode cX12_copy 33 = .ok (.iinc 3 1, 3) := by decide +kernel
theorem dX12_copy_36 : decode cX12_copy 36 = .ok (.goto (-34), 3) := by decide +kernel
theorem dX12_copy_39 : decode cX12_copy 39 = .ok (.iconst 0, 1) := by decide +kernel
theorem dX12_copy_40 : decode cX12_copy 40 = .ok (.istore_n 3, 1) := by decide +kernel
theorem dX12_copy_41 : decode cX12_copy 41 = .ok (.iload_n 3, 1) := by decide +kernel
theorem dX12_copy_42 : decode cX12_copy 42 = .ok (.bipush 26, 2) := by decide +kernel
theorem dX12_copy_44 : decode cX12_copy 44 = .ok (.if_icmp .ge 31, 3) := by decide +kernel
theorem dX12_copy_47 : decode cX12_copy 47 = .ok (.aload_n 0, 1) := by decide +kernel
theorem dX12_copy_48 : decode cX12_copy 48 = .ok (.getfield 38, 3) := by decide +kernel
theorem dX12_copy_51 : decode cX12_copy 51 = .ok (.bipush 26, 2) := by decide +kernel
theorem dX12_copy_53 : decode cX12_copy 53 = .ok (.iload_n 2, 1) := by decide +kernel
theorem dX12_copy_54 : decode cX12_copy 54 = .ok (.imul, 1) := by decide +kernel
theorem dX12_copy_55 : decode cX12_copy 55 = .ok (.iload_n 3, 1) := by decide +kernel
theorem dX12_copy_56 : decode cX12_copy 56 = .ok (.iadd, 1) := by decide +kernel
theorem dX12_copy_57 : decode cX12_copy 57 = .ok (.aload_n 0, 1) := by decide +kernel
theorem dX12_copy_58 : decode cX12_copy 58 = .ok (.getfield 38, 3) := by decide +kernel
theorem dX12_copy_61 : decode cX12_copy 61 = .ok (.bipush 26, 2) := by decide +kernel
theorem dX12_copy_63 : decode cX12_copy 63 = .ok (.iload_n 1, 1) := by decide +kernel
theorem dX12_copy_64 : decode cX12_copy 64 = .ok (.imul, 1) := by decide +kernel
theorem dX12_copy_65 : decode cX12_copy 65 = .ok (.iload_n 3, 1) := by decide +kernel
theorem dX12_copy_66 : decode cX12_copy 66 = .ok (.iadd, 1) := by decide +kernel
theorem dX12_copy_67 : decode cX12_copy 67 = .ok (.laload, 1) := by decide +kernel
theorem dX12_copy_68 : decode cX12_copy 68 = .ok (.lastore, 1) := by decide +kernel
theorem dX12_copy_69 : decode cX12_copy 69 = .ok (.iinc 3 1, 3) := by decide +kernel
theorem dX12_copy_72 : decode cX12_copy 72 = .ok (.goto (-31), 3) := by decide +kernel
theorem dX12_copy_75 : decode cX12_copy 75 = .ok (.return_, 1) := by decide +kernel
theorem dX12_mark_0 : decode cX12_mark 0 = .ok (.aload_n 0, 1) := by decide +kernel
theorem dX12_mark_1 : decode cX12_mark 1 = .ok (.iconst 0, 1) := by decide +kernel
theorem dX12_mark_2 : decode cX12_mark 2 = .ok (.putfield 87, 3) := by decide +kernel
theorem dX12_mark_5 : decode cX12_mark 5 = .ok (.aload_n 0, 1) := by decide +kernel
theorem dX12_mark_6 : decode cX12_mark 6 = .ok (.iconst 0, 1) := by decide +kernel
theorem dX12_mark_7 : decode cX12_mark 7 = .ok (.putfield 90, 3) := by decide +kernel
theorem dX12_mark_10 : decode cX12_mark 10 = .ok (.aload_n 0, 1) := by decide +kernel
theorem dX12_mark_11 : decode cX12_mark 11 = .ok (.getfield 592, 3) := by decide +kernel
theorem dX12_mark_14 : decode cX12_mark 14 = .ok (.iconst 3, 1) := by decide +kernel
theorem dX12_mark_15 : decode cX12_mark 15 = .ok (.if_icmp .ne 10, 3) := by decide +kernel
theorem dX12_mark_18 : decode cX12_mark 18 = .ok (.aload_n 0, 1) := by decide +kernel
theorem dX12_mark_19 : decode cX12_mark 19 = .ok (.bipush 7, 2) := by decide +kernel
theorem dX12_mark_21 : decode cX12_mark 21 = .ok (.invokevirtual 351, 3) := by decide +kernel
theorem dX12_mark_24 : decode cX12_mark 24 = .ok (.ireturn, 1) := by decide +kernel
theorem dX12_mark_25 : decode cX12_mark 25 = .ok (.aload_n 0, 1) := by decide +kernel
theorem dX12_mark_26 : decode cX12_mark 26 = .ok (.dup, 1) := by decide +kernel
theorem dX12_mark_27 : decode cX12_mark 27 = .ok (.getfield 592, 3) := by decide +kernel
theorem dX12_mark_30 : decode cX12_mark 30 = .ok (.iconst 1, 1) := by decide +kernel
theorem dX12_mark_31 : decode cX12_mark 31 = .ok (.iadd, 1) := by decide +kernel
theorem dX12_mark_32 : decode cX12_mark 32 = .ok (.putfield 592, 3) := by decide +kernel
theorem dX12_mark_35 : decode cX12_mark 35 = .ok (.aload_n 0, 1) := by decide +kernel
theorem dX12_mark_36 : decode cX12_mark 36 = .ok (.iconst 0, 1) := by decide +kernel
theorem dX12_mark_37 : decode cX12_mark 37 = .ok (.aload_n 0, 1) := by decide +kernel
theorem dX12_mark_38 : decode cX12_mark 38 = .ok (.getfield 592, 3) := by decide +kernel
theorem dX12_mark_41 : decode cX12_mark 41 = .ok (.invokevirtual 595, 3) := by decide +kernel
theorem dX12_mark_44 : decode cX12_mark 44 = .ok (.aload_n 0, 1) := by decide +kernel
theorem dX12_mark_45 : decode cX12_mark 45 = .ok (.getfield 592, 3) := by decide +kernel
theorem dX12_mark_48 : decode cX12_mark 48 = .ok (.ireturn, 1) := by decide +kernel
theorem dX12_back_0 : decode cX12_back 0 = .ok (.aload_n 0, 1) := by decide +kernel
theorem dX12_back_1 : decode cX12_back 1 = .ok (.iconst 0, 1) := by decide +kernel
theorem dX12_back_2 : decode cX12_back 2 = .ok (.putfield 87, 3) := by decide +kernel
theorem dX12_back_5 : decode cX12_back 5 = .ok (.aload_n 0, 1) := by decide +kernel
theorem dX12_back_6 : decode cX12_back 6 = .ok (.iconst 0, 1) := by decide +kernel
theorem dX12_back_7 : decode cX12_back 7 = .ok (.putfield 90, 3) := by decide +kernel
theorem dX12_back_10 : decode cX12_back 10 = .ok (.aload_n 0, 1) := by decide +kernel
theorem dX12_back_11 : decode cX12_back 11 = .ok (.getfield 592, 3) := by decide +kernel
theorem dX12_back_14 : decode cX12_back 14 = .ok (.ifCond .ne 10, 3) := by decide +kernel
theorem dX12_back_17 : decode cX12_back 17 = .ok (.aload_n 0, 1) := by decide +kernel
theorem dX12_back_18 : decode cX12_back 18 = .ok (.bipush 8, 2) := by decide +kernel
theorem dX12_back_20 : decode cX12_back 20 = .ok (.invokevirtual 351, 3) := by decide +kernel
theorem dX12_back_23 : decode cX12_back 23 = .ok (.ireturn, 1) := by decide +kernel
theorem dX12_back_24 : decode cX12_back 24 = .ok (.aload_n 0, 1) := by decide +kernel
theorem dX12_back_25 : decode cX12_back 25 = .ok (.aload_n 0, 1) := by decide +kernel
theorem dX12_back_26 : decode cX12_back 26 = .ok (.getfield 592, 3) := by decide +kernel
theorem dX12_back_29 : decode cX12_back 29 = .ok (.iconst 0, 1) := by decide +kernel
theorem dX12_back_30 : decode cX12_back 30 = .ok (.invokevirtual 595, 3) := by decide +kernel
theorem dX12_back_33 : decode cX12_back 33 = .ok (.aload_n 0, 1) := by decide +kernel
theorem dX12_back_34 : decode cX12_back 34 = .ok (.dup, 1) := by decide +kernel
theorem dX12_back_35 : decode cX12_back 35 = .ok (.getfield 592, 3) := by decide +kernel
theorem dX12_back_38 : decode cX12_back 38 = .ok (.iconst 1, 1) := by decide +kernel
theorem dX12_back_39 : decode cX12_back 39 = .ok (.isub, 1) := by decide +kernel
theorem dX12_back_40 : decode cX12_back 40 = .ok (.putfield 592, 3) := by decide +kernel
theorem dX12_back_43 : decode cX12_back 43 = .ok (.aload_n 0, 1) := by decide +kernel
theorem dX12_back_44 : decode cX12_back 44 = .ok (.getfield 592, 3) := by decide +kernel
theorem dX12_back_47 : decode cX12_back 47 = .ok (.ireturn, 1) := by decide +kernel
theorem dJ11_isValidCodePoint_9a6ad_0 : decode cJ11_isValidCodePoint_9a6ad 0 = .ok (.iload_n 0, 1) := by decide +kernel
theorem dJ11_isValidCodePoint_9a6ad_1 : decode cJ11_isValidCodePoint_9a6ad 1 = .ok (.bipush 16, 2) := by decide +kernel
theorem dJ11_isValidCodePoint_9a6ad_3 : decode cJ11_isValidCodePoint_9a6ad 3 = .ok (.iushr, 1) := by decide +kernel
theorem dJ11_isValidCodePoint_9a6ad_4 : decode cJ11_isValidCodePoint_9a6ad 4 = .ok (.istore_n 1, 1) := by decide +kernel
theorem dJ11_isValidCodePoint_9a6ad_5 : decode cJ11_isValidCodePoint_9a6ad 5 = .ok (.iload_n 1, 1) := by decide +kernel
theorem dJ11_isValidCodePoint_9a6ad_6 : decode cJ11_isValidCodePoint_9a6ad 6 = .ok (.bipush 17, 2) := by decide +kernel
theorem dJ11_isValidCodePoint_9a6ad_8 : decode cJ11_isValidCodePoint_9a6ad 8 = .ok (.if_icmp .ge 7, 3) := by decide +kernel
theorem dJ11_isValidCodePoint_9a6ad_11 : decode cJ11_isValidCodePoint_9a6ad 11 = .ok (.iconst 1, 1) := by decide +kernel
theorem dJ11_isValidCodePoint_9a6ad_12 : decode cJ11_isValidCodePoint_9a6ad 12 = .ok (.goto 4, 3) := by decide +kernel
theorem dJ11_isValidCodePoint_9a6ad_15 : decode cJ11_isValidCodePoint_9a6ad 15 = .ok (.iconst 0, 1) := by decide +kernel
theorem dJ11_isValidCodePoint_9a6ad_16 : decode cJ11_isValidCodePoint_9a6ad 16 = .ok (.ireturn, 1) := by decide +kernel
theorem dJ11_highSurrogate_5068e_0 : decode cJ11_highSurrogate_5068e 0 = .ok (.iload_n 0, 1) := by decide +kernel
theorem dJ11_highSurrogate_5068e_1 : decode cJ11_highSurrogate_5068e 1 = .ok (.bipush 10, 2) := by decide +kernel
theorem dJ11_highSurrogate_5068e_3 : decode cJ11_highSurrogate_5068e 3 = .ok (.iushr, 1) := by decide +kernel
theorem dJ11_highSurrogate_5068e_4 : decode cJ11_highSurrogate_5068e 4 = .ok (.ldc 110, 2) := by decide +kernel
theorem dJ11_highSurrogate_5068e_6 : decode cJ11_highSurrogate_5068e 6 = .ok (.iadd, 1) := by decide +kernel
theorem dJ11_highSurrogate_5068e_7 : decode cJ11_highSurrogate_5068e 7 = .ok (.i2c, 1) := by decide +kernel
theorem dJ11_highSurrogate_5068e_8 : decode cJ11_highSurrogate_5068e 8 = .ok (.ireturn, 1) := by decide +kernel
theorem dJ11_lowSurrogate_5068e_0 : decode cJ11_lowSurrogate_5068e 0 = .ok (.iload_n 0, 1) := by decide +kernel
theorem dJ11_lowSurrogate_5068e_1 : decode cJ11_lowSurrogate_5068e 1 = .ok (.sipush 1023, 3) := by decide +kernel
theorem dJ11_lowSurrogate_5068e_4 : decode cJ11_lowSurrogate_5068e 4 = .ok (.iand, 1) := by decide +kernel
theorem dJ11_lowSurrogate_5068e_5 : decode cJ11_lowSurrogate_5068e 5 = .ok (.ldc 76, 2) := by decide +kernel
theorem dJ11_lowSurrogate_5068e_7 : decode cJ11_lowSurrogate_5068e 7 = .ok (.iadd, 1) := by decide +kernel
theorem dJ11_lowSurrogate_5068e_8 : decode cJ11_lowSurrogate_5068e 8 = .ok (.i2c, 1) := by decide +kernel
theorem dJ11_lowSurrogate_5068e_9 : decode cJ11_lowSurrogate_5068e 9 = .ok (.ireturn, 1) := by decide +kernel
theorem dJ6_numberOfTrailingZeros_0f7a4_0 : decode cJ6_numberOfTrailingZeros_0f7a4 0 = .ok (.iload_n 0, 1) := by decide +kernel
theorem dJ6_numberOfTrailingZeros_0f7a4_1 : decode cJ6_numberOfTrailingZeros_0f7a4 1 = .ok (.iconst (-1), 1) := by decide +kernel
theorem dJ6_numberOfTrailingZeros_0f7a4_2 : decode cJ6_numberOfTrailingZeros_0f7a4 2 = .ok (.ixor, 1) := by decide +kernel
theorem dJ6_numberOfTrailingZeros_0f7a4_3 : decode cJ6_numberOfTrailingZeros_0f7a4 3 = .ok (.iload_n 0, 1) := by decide +kernel
theorem dJ6_numberOfTrailingZeros_0f7a4_4 : decode cJ6_numberOfTrailingZeros_0f7a4 4 = .ok (.iconst 1, 1) := by decide +kernel
theorem dJ6_numberOfTrailingZeros_0f7a4_5 : decode cJ6_numberOfTrailingZeros_0f7a4 5 = .ok (.isub, 1) := by decide +kernel
theorem dJ6_numberOfTrailingZeros_0f7a4_6 : decode cJ6_numberOfTrailingZeros_0f7a4 6 = .ok (.iand, 1) := by decide +kernel
theorem dJ6_numberOfTrailingZeros_0f7a4_7 : decode cJ6_numberOfTrailingZeros_0f7a4 7 = .ok (.istore_n 0, 1) := by decide +kernel
theorem dJ6_numberOfTrailingZeros_0f7a4_8 : decode cJ6_numberOfTrailingZeros_0f7a4 8 = .ok (.iload_n 0, 1) := by decide +kernel
theorem dJ6_numberOfTrailingZeros_0f7a4_9 : decode cJ6_numberOfTrailingZeros_0f7a4 9 = .ok (.ifCond .gt 8, 3) := by decide +kernel
theorem dJ6_numberOfTrailingZeros_0f7a4_12 : decode cJ6_numberOfTrailingZeros_0f7a4 12 = .ok (.iload_n 0, 1) := by decide +kernel
theorem dJ6_numberOfTrailingZeros_0f7a4_13 : decode cJ6_numberOfTrailingZeros_0f7a4 13 = .ok (.bipush 32, 2) := by decide +kernel
theorem dJ6_numberOfTrailingZeros_0f7a4_15 : decode cJ6_numberOfTrailingZeros_0f7a4 15 = .ok (.iand, 1) := by decide +kernel
theorem dJ6_numberOfTrailingZeros_0f7a4_16 : decode cJ6_numberOfTrailingZeros_0f7a4 16 = .ok (.ireturn, 1) := by decide +kernel
theorem dJ6_numberOfTrailingZeros_0f7a4_17 : decode cJ6_numberOfTrailingZeros_0f7a4 17 = .ok (.iconst 1, 1) := by decide +kernel
theorem dJ6_numberOfTrailingZeros_0f7a4_18 : decode cJ6_numberOfTrailingZeros_0f7a4 18 = .ok (.istore_n 1, 1) := by decide +kernel
theorem dJ6_numberOfTrailingZeros_0f7a4_19 : decode cJ6_numberOfTrailingZeros_0f7a4 19 = .ok (.iload_n 0, 1) := by decide +kernel
theorem dJ6_numberOfTrailingZeros_0f7a4_20 : decode cJ6_numberOfTrailingZeros_0f7a4 20 = .ok (.ldc_w 264, 3) := by decide +kernel
theorem dJ6_numberOfTrailingZeros_0f7a4_23 : decode cJ6_numberOfTrailingZeros_0f7a4 23 = .ok (.if_icmp .le 11, 3) := by decide +kernel
theorem dJ6_numberOfTrailingZeros_0f7a4_26 : decode cJ6_numberOfTrailingZeros_0f7a4 26 = .ok (.iinc 1 16, 3) := by decide +kernel
theorem dJ6_numberOfTrailingZeros_0f7a4_29 : decode cJ6_numberOfTrailingZeros_0f7a4 29 = .ok (.iload_n 0, 1) := by decide +kernel
theorem dJ6_numberOfTrailingZeros_0f7a4_30 : decode cJ6_numberOfTrailingZeros_0f7a4 30 = .ok (.bipush 16, 2) := by decide +kernel
theorem dJ6_numberOfTrailingZeros_0f7a4_32 : decode cJ6_numberOfTrailingZeros_0f7a4 32 = .ok (.iushr, 1) := by decide +kernel
theorem dJ6_numberOfTrailingZeros_0f7a4_33 : decode cJ6_numberOfTrailingZeros_0f7a4 33 = .ok (.istore_n 0, 1) := by decide +kernel
theorem dJ6_numberOfTrailingZeros_0f7a4_34 : decode cJ6_numberOfTrailingZeros_0f7a4 34 = .ok (.iload_n 0, 1) := by decide +kernel
theorem dJ6_numberOfTrailingZeros_0f7a4_35 : decode cJ6_numberOfTrailingZeros_0f7a4 35 = .ok (.sipush 256, 3) := by decide +kernel
theorem dJ6_numberOfTrailingZeros_0f7a4_38 : decode cJ6_numberOfTrailingZeros_0f7a4 38 = .ok (.if_icmp .le 11, 3) := by decide +kernel
theorem dJ6_numberOfTrailingZeros_0f7a4_41 : decode cJ6_numberOfTrailingZeros_0f7a4 41 = .ok (.iinc 1 8, 3) := by decide +kernel
theorem dJ6_numberOfTrailingZeros_0f7a4_44 : decode cJ6_numberOfTrailingZeros_0f7a4 44 = .ok (.iload_n 0, 1) := by decide +kernel
theorem dJ6_numberOfTrailingZeros_0f7a4_45 : decode cJ6_numberOfTrailingZeros_0f7a4 45 = .ok (.bipush 8, 2) := by decide +kernel
theorem dJ6_numberOfTrailingZeros_0f7a4_47 : decode cJ6_numberOfTrailingZeros_0f7a4 47 = .ok (.iushr, 1) := by decide +kernel
theorem dJ6_numberOfTrailingZeros_0f7a4_48 : decode cJ6_numberOfTrailingZeros_0f7a4 48 = .ok (.istore_n 0, 1) := by decide +kernel
theorem dJ6_numberOfTrailingZeros_0f7a4_49 : decode cJ6_numberOfTrailingZeros_0f7a4 49 = .ok (.iload_n 0, 1) := by decide +kernel
theorem dJ6_numberOfTrailingZeros_0f7a4_50 : decode cJ6_numberOfTrailingZeros_0f7a4 50 = .ok (.bipush 16, 2) := by decide +kernel
theorem dJ6_numberOfTrailingZeros_0f7a4_52 : decode cJ6_numberOfTrailingZeros_0f7a4 52 = .ok (.if_icmp .le 10, 3) := by decide +kernel
theorem dJ6_numberOfTrailingZeros_0f7a4_55 : decode cJ6_numberOfTrailingZeros_0f7a4 55 = .ok (.iinc 1 4, 3) := by decide +kernel
theorem dJ6_numberOfTrailingZeros_0f7a4_58 : decode cJ6_numberOfTrailingZeros_0f7a4 58 = .ok (.iload_n 0, 1) := by decide +kernel
theorem dJ6_numberOfTrailingZeros_0f7a4_59 : decode cJ6_numberOfTrailingZeros_0f7a4 59 = .ok (.iconst 4, 1) := by decide +kernel
theorem dJ6_numberOfTrailingZeros_0f7a4_60 : decode cJ6_numberOfTrailingZeros_0f7a4 60 = .ok (.iushr, 1) := by decide +kernel
theorem dJ6_numberOfTrailingZeros_0f7a4_61 : decode cJ6_numberOfTrailingZeros_0f7a4 61 = .ok (.istore_n 0, 1) := by decide +kernel
theorem dJ6_numberOfTrailingZeros_0f7a4_62 : decode cJ6_numberOfTrailingZeros_0f7a4 62 = .ok (.iload_n 0, 1) := by decide +kernel
theorem dJ6_numberOfTrailingZeros_0f7a4_63 : decode cJ6_numberOfTrailingZeros_0f7a4 63 = .ok (.iconst 4, 1) := by decide +kernel
theorem dJ6_numberOfTrailingZeros_0f7a4_64 : decode cJ6_numberOfTrailingZeros_0f7a4 64 = .ok (.if_icmp .le 10, 3) := by decide +kernel
theorem dJ6_numberOfTrailingZeros_0f7a4_67 : decode cJ6_numberOfTrailingZeros_0f7a4 67 = .ok (.iinc 1 2, 3) := by decide +kernel
theorem dJ6_numberOfTrailingZeros_0f7a4_70 : decode cJ6_numberOfTrailingZeros_0f7a4 70 = .ok (.iload_n 0, 1) := by decide +kernel
theorem dJ6_numberOfTrailingZeros_0f7a4_71 : decode cJ6_numberOfTrailingZeros_0f7a4 71 = .ok (.iconst 2, 1) := by decide +kernel
theorem dJ6_numberOfTrailingZeros_0f7a4_72 : decode cJ6_numberOfTrailingZeros_0f7a4 72 = .ok (.iushr, 1) := by decide +kernel
theorem dJ6_numberOfTrailingZeros_0f7a4_73 : decode cJ6_numberOfTrailingZeros_0f7a4 73 = .ok (.istore_n 0, 1) := by decide +kernel
theorem dJ6_numberOfTrailingZeros_0f7a4_74 : decode cJ6_numberOfTrailingZeros_0f7a4 74 = .ok (.iload_n 1, 1) := by decide +kernel
theorem dJ6_numberOfTrailingZeros_0f7a4_75 : decode cJ6_numberOfTrailingZeros_0f7a4 75 = .ok (.iload_n 0, 1) := by decide +kernel
theorem dJ6_numberOfTrailingZeros_0f7a4_76 : decode cJ6_numberOfTrailingZeros_0f7a4 76 = .ok (.iconst 1, 1) := by decide +kernel
theorem dJ6_numberOfTrailingZeros_0f7a4_77 : decode cJ6_numberOfTrailingZeros_0f7a4 77 = .ok (.iushr, 1) := by decide +kernel
theorem dJ6_numberOfTrailingZeros_0f7a4_78 : decode cJ6_numberOfTrailingZeros_0f7a4 78 = .ok (.iadd, 1) := by decide +kernel
theorem dJ6_numberOfTrailingZeros_0f7a4_79 : decode cJ6_numberOfTrailingZeros_0f7a4 79 = .ok (.ireturn, 1) := by decide +kernel
theorem dJ6_bitCount_0f7a4_0 : decode cJ6_bitCount_0f7a4 0 = .ok (.iload_n 0, 1) := by decide +kernel
theorem dJ6_bitCount_0f7a4_1 : decode cJ6_bitCount_0f7a4 1 = .ok (.iload_n 0, 1) := by decide +kernel
theorem dJ6_bitCount_0f7a4_2 : decode cJ6_bitCount_0f7a4 2 = .ok (.iconst 1, 1) := by decide +kernel
theorem dJ6_bitCount_0f7a4_3 : decode cJ6_bitCount_0f7a4 3 = .ok (.iushr, 1) := by decide +kernel
theorem dJ6_bitCount_0f7a4_4 : decode cJ6_bitCount_0f7a4 4 = .ok (.ldc_w 265, 3) := by decide +kernel
theorem dJ6_bitCount_0f7a4_7 : decode cJ6_bitCount_0f7a4 7 = .ok (.iand, 1) := by decide +kernel
theorem dJ6_bitCount_0f7a4_8 : decode cJ6_bitCount_0f7a4 8 = .ok (.isub, 1) := by decide +kernel
theorem dJ6_bitCount_0f7a4_9 : decode cJ6_bitCount_0f7a4 9 = .ok (.istore_n 0, 1) := by decide +kernel
theorem dJ6_bitCount_0f7a4_10 : decode cJ6_bitCount_0f7a4 10 = .ok (.iload_n 0, 1) := by decide +kernel
theorem dJ6_bitCount_0f7a4_11 : decode cJ6_bitCount_0f7a4 11 = .ok (.ldc_w 266, 3) := by decide +kernel
theorem dJ6_bitCount_0f7a4_14 : decode cJ6_bitCount_0f7a4 14 = .ok (.iand, 1) := by decide +kernel
theorem dJ6_bitCount_0f7a4_15 : decode cJ6_bitCount_0f7a4 15 = .ok (.iload_n 0, 1) := by decide +kernel
theorem dJ6_bitCount_0f7a4_16 : decode cJ6_bitCount_0f7a4 16 = .ok (.iconst 2, 1) := by decide +kernel
theorem dJ6_bitCount_0f7a4_17 : decode cJ6_bitCount_0f7a4 17 = .ok (.iushr, 1) := by decide +kernel
theorem dJ6_bitCount_0f7a4_18 : decode cJ6_bitCount_0f7a4 18 = .ok (.ldc_w 266, 3) := by decide +kernel
theorem dJ6_bitCount_0f7a4_21 : decode cJ6_bitCount_0f7a4 21 = .ok (.iand, 1) := by decide +kernel
theorem dJ6_bitCount_0f7a4_22 : decode cJ6_bitCount_0f7a4 22 = .ok (.iadd, 1) := by decide +kernel
theorem dJ6_bitCount_0f7a4_23 : decode cJ6_bitCount_0f7a4 23 = .ok (.istore_n 0, 1) := by decide +kernel
theorem dJ6_bitCount_0f7a4_24 : decode cJ6_bitCount_0f7a4 24 = .ok (.iload_n 0, 1) := by decide +kernel
theorem dJ6_bitCount_0f7a4_25 : decode cJ6_bitCount_0f7a4 25 = .ok (.iload_n 0, 1) := by decide +kernel
theorem dJ6_bitCount_0f7a4_26 : decode cJ6_bitCount_0f7a4 26 = .ok (.iconst 4, 1) := by decide +kernel
theorem dJ6_bitCount_0f7a4_27 : decode cJ6_bitCount_0f7a4 27 = .ok (.iushr, 1) := by decide +kernel
theorem dJ6_bitCount_0f7a4_28 : decode cJ6_bitCount_0f7a4 28 = .ok (.iadd, 1) := by decide +kernel
theorem dJ6_bitCount_0f7a4_29 : decode cJ6_bitCount_0f7a4 29 = .ok (.ldc_w 267, 3) := by decide +kernel
theorem dJ6_bitCount_0f7a4_32 : decode cJ6_bitCount_0f7a4 32 = .ok (.iand, 1) := by decide +kernel
theorem dJ6_bitCount_0f7a4_33 : decode cJ6_bitCount_0f7a4 33 = .ok (.istore_n 0, 1) := by decide +kernel
theorem dJ6_bitCount_0f7a4_34 : decode cJ6_bitCount_0f7a4 34 = .ok (.iload_n 0, 1) := by decide +kernel
theorem dJ6_bitCount_0f7a4_35 : decode cJ6_bitCount_0f7a4 35 = .ok (.iload_n 0, 1) := by decide +kernel
theorem dJ6_bitCount_0f7a4_36 : decode cJ6_bitCount_0f7a4 36 = .ok (.bipush 8, 2) := by decide +kernel
theorem dJ6_bitCount_0f7a4_38 : decode cJ6_bitCount_0f7a4 38 = .ok (.iushr, 1) := by decide +kernel
theorem dJ6_bitCount_0f7a4_39 : decode cJ6_bitCount_0f7a4 39 = .ok (.iadd, 1) := by decide +kernel
theorem dJ6_bitCount_0f7a4_40 : decode cJ6_bitCount_0f7a4 40 = .ok (.istore_n 0, 1) := by decide +kernel
theorem dJ6_bitCount_0f7a4_41 : decode cJ6_bitCount_0f7a4 41 = .ok (.iload_n 0, 1) := by decide +kernel
theorem dJ6_bitCount_0f7a4_42 : decode cJ6_bitCount_0f7a4 42 = .ok (.iload_n 0, 1) := by decide +kernel
theorem dJ6_bitCount_0f7a4_43 : decode cJ6_bitCount_0f7a4 43 = .ok (.bipush 16, 2) := by decide +kernel
theorem dJ6_bitCount_0f7a4_45 : decode cJ6_bitCount_0f7a4 45 = .ok (.iushr, 1) := by decide +kernel
theorem dJ6_bitCount_0f7a4_46 : decode cJ6_bitCount_0f7a4 46 = .ok (.iadd, 1) := by decide +kernel
theorem dJ6_bitCount_0f7a4_47 : decode cJ6_bitCount_0f7a4 47 = .ok (.istore_n 0, 1) := by decide +kernel
theorem dJ6_bitCount_0f7a4_48 : decode cJ6_bitCount_0f7a4 48 = .ok (.iload_n 0, 1) := by decide +kernel
theorem dJ6_bitCount_0f7a4_49 : decode cJ6_bitCount_0f7a4 49 = .ok (.bipush 63, 2) := by decide +kernel
theorem dJ6_bitCount_0f7a4_51 : decode cJ6_bitCount_0f7a4 51 = .ok (.iand, 1) := by decide +kernel
theorem dJ6_bitCount_0f7a4_52 : decode cJ6_bitCount_0f7a4 52 = .ok (.ireturn, 1) := by decide +kernel
theorem dJ9_abs_067f4_0 : decode cJ9_abs_067f4 0 = .ok (.lload_n 0, 1) := by decide +kernel
theorem dJ9_abs_067f4_1 : decode cJ9_abs_067f4 1 = .ok (.lconst 0, 1) := by decide +kernel
theorem dJ9_abs_067f4_2 : decode cJ9_abs_067f4 2 = .ok (.lcmp, 1) := by decide +kernel
theorem dJ9_abs_067f4_3 : decode cJ9_abs_067f4 3 = .ok (.ifCond .ge 8, 3) := by decide +kernel
theorem dJ9_abs_067f4_6 : decode cJ9_abs_067f4 6 = .ok (.lload_n 0, 1) := by decide +kernel
theorem dJ9_abs_067f4_7 : decode cJ9_abs_067f4 7 = .ok (.lneg, 1) := by decide +kernel
theorem dJ9_abs_067f4_8 : decode cJ9_abs_067f4 8 = .ok (.goto 4, 3) := by decide +kernel
theorem dJ9_abs_067f4_11 : decode cJ9_abs_067f4 11 = .ok (.lload_n 0, 1) := by decide +kernel
theorem dJ9_abs_067f4_12 : decode cJ9_abs_067f4 12 = .ok (.lreturn, 1) := by decide +kernel
theorem dJ9_max_7cf53_0 : decode cJ9_max_7cf53 0 = .ok (.iload_n 0, 1) := by decide +kernel
theorem dJ9_max_7cf53_1 : decode cJ9_max_7cf53 1 = .ok (.iload_n 1, 1) := by decide +kernel
theorem dJ9_max_7cf53_2 : decode cJ9_max_7cf53 2 = .ok (.if_icmp .lt 7, 3) := by decide +kernel
theorem dJ9_max_7cf53_5 : decode cJ9_max_7cf53 5 = .ok (.iload_n 0, 1) := by decide +kernel
theorem dJ9_max_7cf53_6 : decode cJ9_max_7cf53 6 = .ok (.goto 4, 3) := by decide +kernel
theorem dJ9_max_7cf53_9 : decode cJ9_max_7cf53 9 = .ok (.iload_n 1, 1) := by decide +kernel
theorem dJ9_max_7cf53_10 : decode cJ9_max_7cf53 10 = .ok (.ireturn, 1) := by decide +kernel
theorem dJ9_min_7cf53_0 : decode cJ9_min_7cf53 0 = .ok (.iload_n 0, 1) := by decide +kernel
theorem dJ9_min_7cf53_1 : decode cJ9_min_7cf53 1 = .ok (.iload_n 1, 1) := by decide +kernel
theorem dJ9_min_7cf53_2 : decode cJ9_min_7cf53 2 = .ok (.if_icmp .gt 7, 3) := by decide +kernel
theorem dJ9_min_7cf53_5 : decode cJ9_min_7cf53 5 = .ok (.iload_n 0, 1) := by decide +kernel
theorem dJ9_min_7cf53_6 : decode cJ9_min_7cf53 6 = .ok (.goto 4, 3) := by decide +kernel
theorem dJ9_min_7cf53_9 : decode cJ9_min_7cf53 9 = .ok (.iload_n 1, 1) := by decide +kernel
theorem dJ9_min_7cf53_10 : decode cJ9_min_7cf53 10 = .ok (.ireturn, 1) := by decide +kernel
theorem dJ0_length_8abf5_0 : decode cJ0_length_8abf5 0 = .ok (.aload_n 0, 1) := by decide +kernel
theorem dJ0_length_8abf5_1 : decode cJ0_length_8abf5 1 = .ok (.getfield 9, 3) := by decide +kernel
theorem dJ0_length_8abf5_4 : decode cJ0_length_8abf5 4 = .ok (.arraylength, 1) := by decide +kernel
theorem dJ0_length_8abf5_5 : decode cJ0_length_8abf5 5 = .ok (.aload_n 0, 1) := by decide +kernel
theorem dJ0_length_8abf5_6 : decode cJ0_length_8abf5 6 = .ok (.invokevirtual 335, 3) := by decide +kernel
theorem dJ0_length_8abf5_9 : decode cJ0_length_8abf5 9 = .ok (.ishr, 1) := by decide +kernel
theorem dJ0_length_8abf5_10 : decode cJ0_length_8abf5 10 = .ok (.ireturn, 1) := by decide +kernel
theorem dJ0_charAt_5068e_0 : decode cJ0_charAt_5068e 0 = .ok (.aload_n 0, 1) := by decide +kernel
theorem dJ0_charAt_5068e_1 : decode cJ0_charAt_5068e 1 = .ok (.invokevirtual 492, 3) := by decide +kernel
theorem dJ0_charAt_5068e_4 : decode cJ0_charAt_5068e 4 = .ok (.ifCond .eq 12, 3) := by decide +kernel
theorem dJ0_charAt_5068e_7 : decode cJ0_charAt_5068e 7 = .ok (.aload_n 0, 1) := by decide +kernel
theorem dJ0_charAt_5068e_8 : decode cJ0_charAt_5068e 8 = .ok (.getfield 9, 3) := by decide +kernel
theorem dJ0_charAt_5068e_11 : decode cJ0_charAt_5068e 11 = .ok (.iload_n 1, 1) := by decide +kernel
theorem dJ0_charAt_5068e_12 : decode cJ0_charAt_5068e 12 = .ok (.invokestatic 495, 3) := by decide +kernel
theorem dJ0_charAt_5068e_15 : decode cJ0_charAt_5068e 15 = .ok (.ireturn, 1) := by decide +kernel
theorem dJ0_charAt_5068e_16 : decode cJ0_charAt_5068e 16 = .ok (.aload_n 0, 1) := by decide +kernel
theorem dJ0_charAt_5068e_17 : decode cJ0_charAt_5068e 17 = .ok (.getfield 9, 3) := by decide +kernel
theorem dJ0_charAt_5068e_20 : decode cJ0_charAt_5068e 20 = .ok (.iload_n 1, 1) := by decide +kernel
theorem dJ0_charAt_5068e_21 : decode cJ0_charAt_5068e 21 = .ok (.invokestatic 498, 3) := by decide +kernel
theorem dJ0_charAt_5068e_24 : decode cJ0_charAt_5068e 24 = .ok (.ireturn, 1) := by decide +kernel
theorem dJ0_indexOf_0f7a4_0 : decode cJ0_indexOf_0f7a4 0 = .ok (.aload_n 0, 1) := by decide +kernel
theorem dJ0_indexOf_0f7a4_1 : decode cJ0_indexOf_0f7a4 1 = .ok (.iload_n 1, 1) := by decide +kernel
theorem dJ0_indexOf_0f7a4_2 : decode cJ0_indexOf_0f7a4 2 = .ok (.iconst 0, 1) := by decide +kernel
theorem dJ0_indexOf_0f7a4_3 : decode cJ0_indexOf_0f7a4 3 = .ok (.invokevirtual 633, 3) := by decide +kernel
theorem dJ0_indexOf_0f7a4_6 : decode cJ0_indexOf_0f7a4 6 = .ok (.ireturn, 1) := by decide +kernel
theorem dJ0_indexOf_7cf53_0 : decode cJ0_indexOf_7cf53 0 = .ok (.aload_n 0, 1) := by decide +kernel
theorem dJ0_indexOf_7cf53_1 : decode cJ0_indexOf_7cf53 1 = .ok (.invokevirtual 492, 3) := by decide +kernel
theorem dJ0_indexOf_7cf53_4 : decode cJ0_indexOf_7cf53 4 = .ok (.ifCond .eq 19, 3) := by decide +kernel
theorem dJ0_indexOf_7cf53_7 : decode cJ0_indexOf_7cf53 7 = .ok (.aload_n 0, 1) := by decide +kernel
theorem dJ0_indexOf_7cf53_8 : decode cJ0_indexOf_7cf53 8 = .ok (.getfield 9, 3) := by decide +kernel
theorem dJ0_indexOf_7cf53_11 : decode cJ0_indexOf_7cf53 11 = .ok (.iload_n 1, 1) := by decide +kernel
theorem dJ0_indexOf_7cf53_12 : decode cJ0_indexOf_7cf53 12 = .ok (.iload_n 2, 1) := by decide +kernel
theorem dJ0_indexOf_7cf53_13 : decode cJ0_indexOf_7cf53 13 = .ok (.aload_n 0, 1) := by decide +kernel
theorem dJ0_indexOf_7cf53_14 : decode cJ0_indexOf_7cf53 14 = .ok (.invokevirtual 505, 3) := by decide +kernel
theorem dJ0_indexOf_7cf53_17 : decode cJ0_indexOf_7cf53 17 = .ok (.invokestatic 637, 3) := by decide +kernel
theorem dJ0_indexOf_7cf53_20 : decode cJ0_indexOf_7cf53 20 = .ok (.goto 16, 3) := by decide +kernel
theorem dJ0_indexOf_7cf53_23 : decode cJ0_indexOf_7cf53 23 = .ok (.aload_n 0, 1) := by decide +kernel
theorem dJ0_indexOf_7cf53_24 : decode cJ0_indexOf_7cf53 24 = .ok (.getfield 9, 3) := by decide +kernel
theorem dJ0_indexOf_7cf53_27 : decode cJ0_indexOf_7cf53 27 = .ok (.iload_n 1, 1) := by decide +kernel
theorem dJ0_indexOf_7cf53_28 : decode cJ0_indexOf_7cf53 28 = .ok (.iload_n 2, 1) := by decide +kernel
theorem dJ0_indexOf_7cf53_29 : decode cJ0_indexOf_7cf53 29 = .ok (.aload_n 0, 1) := by decide +kernel
theorem dJ0_indexOf_7cf53_30 : decode cJ0_indexOf_7cf53 30 = .ok (.invokevirtual 505, 3) := by decide +kernel
theorem dJ0_indexOf_7cf53_33 : decode cJ0_indexOf_7cf53 33 = .ok (.invokestatic 640, 3) := by decide +kernel
theorem dJ0_indexOf_7cf53_36 : decode cJ0_indexOf_7cf53 36 = .ok (.ireturn, 1) := by decide +kernel
theorem dJ0_coder_7d493_0 : decode cJ0_coder_7d493 0 = .ok (.getstatic 38, 3) := by decide +kernel
theorem dJ0_coder_7d493_3 : decode cJ0_coder_7d493 3 = .ok (.ifCond .eq 10, 3) := by decide +kernel
theorem dJ0_coder_7d493_6 : decode cJ0_coder_7d493 6 = .ok (.aload_n 0, 1) := by decide +kernel
theorem dJ0_coder_7d493_7 : decode cJ0_coder_7d493 7 = .ok (.getfield 15, 3) := by decide +kernel
theorem dJ0_coder_7d493_10 : decode cJ0_coder_7d493 10 = .ok (.goto 4, 3) := by decide +kernel
theorem dJ0_coder_7d493_13 : decode cJ0_coder_7d493 13 = .ok (.iconst 1, 1) := by decide +kernel
theorem dJ0_coder_7d493_14 : decode cJ0_coder_7d493 14 = .ok (.ireturn, 1) := by decide +kernel
theorem dJ0_isLatin1_aae02_0 : decode cJ0_isLatin1_aae02 0 = .ok (.getstatic 38, 3) := by decide +kernel
theorem dJ0_isLatin1_aae02_3 : decode cJ0_isLatin1_aae02 3 = .ok (.ifCond .eq 14, 3) := by decide +kernel
theorem dJ0_isLatin1_aae02_6 : decode cJ0_isLatin1_aae02 6 = .ok (.aload_n 0, 1) := by decide +kernel
theorem dJ0_isLatin1_aae02_7 : decode cJ0_isLatin1_aae02 7 = .ok (.getfield 15, 3) := by decide +kernel
theorem dJ0_isLatin1_aae02_10 : decode cJ0_isLatin1_aae02 10 = .ok (.ifCond .ne 7, 3) := by decide +kernel
theorem dJ0_isLatin1_aae02_13 : decode cJ0_isLatin1_aae02 13 = .ok (.iconst 1, 1) := by decide +kernel
theorem dJ0_isLatin1_aae02_14 : decode cJ0_isLatin1_aae02 14 = .ok (.goto 4, 3) := by decide +kernel
theorem dJ0_isLatin1_aae02_17 : decode cJ0_isLatin1_aae02 17 = .ok (.iconst 0, 1) := by decide +kernel
theorem dJ0_isLatin1_aae02_18 : decode cJ0_isLatin1_aae02 18 = .ok (.ireturn, 1) := by decide +kernel
theorem dJ0_checkIndex_df160_0 : decode cJ0_checkIndex_df160 0 = .ok (.iload_n 0, 1) := by decide +kernel
theorem dJ0_checkIndex_df160_1 : decode cJ0_checkIndex_df160 1 = .ok (.iload_n 1, 1) := by decide +kernel
theorem dJ0_checkIndex_df160_2 : decode cJ0_checkIndex_df160 2 = .ok (.getstatic 1053, 3) := by decide +kernel
theorem dJ0_checkIndex_df160_5 : decode cJ0_checkIndex_df160 5 = .ok (.invokestatic 1059, 3) := by decide +kernel
theorem dJ0_checkIndex_df160_8 : decode cJ0_checkIndex_df160 8 = .ok (.pop, 1) := by decide +kernel
theorem dJ0_checkIndex_df160_9 : decode cJ0_checkIndex_df160 9 = .ok (.return_, 1) := by decide +kernel
theorem dJ0_checkBoundsBeginEnd_23922_0 : decode cJ0_checkBoundsBeginEnd_23922 0 = .ok (.iload_n 0, 1) := by decide +kernel
theorem dJ0_checkBoundsBeginEnd_23922_1 : decode cJ0_checkBoundsBeginEnd_23922 1 = .ok (.iload_n 1, 1) := by decide +kernel
theorem dJ0_checkBoundsBeginEnd_23922_2 : decode cJ0_checkBoundsBeginEnd_23922 2 = .ok (.iload_n 2, 1) := by decide +kernel
theorem dJ0_checkBoundsBeginEnd_23922_3 : decode cJ0_checkBoundsBeginEnd_23922 3 = .ok (.getstatic 1053, 3) := by decide +kernel
theorem dJ0_checkBoundsBeginEnd_23922_6 : decode cJ0_checkBoundsBeginEnd_23922 6 = .ok (.invokestatic 1062, 3) := by decide +kernel
theorem dJ0_checkBoundsBeginEnd_23922_9 : decode cJ0_checkBoundsBeginEnd_23922 9 = .ok (.pop, 1) := by decide +kernel
theorem dJ0_checkBoundsBeginEnd_23922_10 : decode cJ0_checkBoundsBeginEnd_23922 10 = .ok (.return_, 1) := by decide +kernel
theorem dJ1_charAt_3b067_0 : decode cJ1_charAt_3b067 0 = .ok (.iload_n 1, 1) := by decide +kernel
theorem dJ1_charAt_3b067_1 : decode cJ1_charAt_3b067 1 = .ok (.aload_n 0, 1) := by decide +kernel
theorem dJ1_charAt_3b067_2 : decode cJ1_charAt_3b067 2 = .ok (.arraylength, 1) := by decide +kernel
theorem dJ1_charAt_3b067_3 : decode cJ1_charAt_3b067 3 = .ok (.invokestatic 9, 3) := by decide +kernel
theorem dJ1_charAt_3b067_6 : decode cJ1_charAt_3b067 6 = .ok (.aload_n 0, 1) := by decide +kernel
theorem dJ1_charAt_3b067_7 : decode cJ1_charAt_3b067 7 = .ok (.iload_n 1, 1) := by decide +kernel
theorem dJ1_charAt_3b067_8 : decode cJ1_charAt_3b067 8 = .ok (.baload, 1) := by decide +kernel
theorem dJ1_charAt_3b067_9 : decode cJ1_charAt_3b067 9 = .ok (.sipush 255, 3) := by decide +kernel
theorem dJ1_charAt_3b067_12 : decode cJ1_charAt_3b067 12 = .ok (.iand, 1) := by decide +kernel
theorem dJ1_charAt_3b067_13 : decode cJ1_charAt_3b067 13 = .ok (.i2c, 1) := by decide +kernel
theorem dJ1_charAt_3b067_14 : decode cJ1_charAt_3b067 14 = .ok (.ireturn, 1) := by decide +kernel
theorem dJ1_canEncode_9a6ad_0 : decode cJ1_canEncode_9a6ad 0 = .ok (.iload_n 0, 1) := by decide +kernel
theorem dJ1_canEncode_9a6ad_1 : decode cJ1_canEncode_9a6ad 1 = .ok (.ifCond .lt 14, 3) := by decide +kernel
theorem dJ1_canEncode_9a6ad_4 : decode cJ1_canEncode_9a6ad 4 = .ok (.iload_n 0, 1) := by decide +kernel
theorem dJ1_canEncode_9a6ad_5 : decode cJ1_canEncode_9a6ad 5 = .ok (.sipush 255, 3) := by decide +kernel
theorem dJ1_canEncode_9a6ad_8 : decode cJ1_canEncode_9a6ad 8 = .ok (.if_icmp .gt 7, 3) := by decide +kernel
theorem dJ1_canEncode_9a6ad_11 : decode cJ1_canEncode_9a6ad 11 = .ok (.iconst 1, 1) := by decide +kernel
theorem dJ1_canEncode_9a6ad_12 : decode cJ1_canEncode_9a6ad 12 = .ok (.goto 4, 3) := by decide +kernel
theorem dJ1_canEncode_9a6ad_15 : decode cJ1_canEncode_9a6ad 15 = .ok (.iconst 0, 1) := by decide +kernel
theorem dJ1_canEncode_9a6ad_16 : decode cJ1_canEncode_9a6ad 16 = .ok (.ireturn, 1) := by decide +kernel
theorem dJ1_indexOf_4cfef_0 : decode cJ1_indexOf_4cfef 0 = .ok (.iload_n 1, 1) := by decide +kernel
theorem dJ1_indexOf_4cfef_1 : decode cJ1_indexOf_4cfef 1 = .ok (.invokestatic 88, 3) := by decide +kernel
theorem dJ1_indexOf_4cfef_4 : decode cJ1_indexOf_4cfef 4 = .ok (.ifCond .ne 5, 3) := by decide +kernel
theorem dJ1_indexOf_4cfef_7 : decode cJ1_indexOf_4cfef 7 = .ok (.iconst (-1), 1) := by decide +kernel
theorem dJ1_indexOf_4cfef_8 : decode cJ1_indexOf_4cfef 8 = .ok (.ireturn, 1) := by decide +kernel
theorem dJ1_indexOf_4cfef_9 : decode cJ1_indexOf_4cfef 9 = .ok (.iload_n 2, 1) := by decide +kernel
theorem dJ1_indexOf_4cfef_10 : decode cJ1_indexOf_4cfef 10 = .ok (.iconst 0, 1) := by decide +kernel
theorem dJ1_indexOf_4cfef_11 : decode cJ1_indexOf_4cfef 11 = .ok (.invokestatic 92, 3) := by decide +kernel
theorem dJ1_indexOf_4cfef_14 : decode cJ1_indexOf_4cfef 14 = .ok (.istore_n 2, 1) := by decide +kernel
theorem dJ1_indexOf_4cfef_15 : decode cJ1_indexOf_4cfef 15 = .ok (.iload_n 3, 1) := by decide +kernel
theorem dJ1_indexOf_4cfef_16 : decode cJ1_indexOf_4cfef 16 = .ok (.aload_n 0, 1) := by decide +kernel
theorem dJ1_indexOf_4cfef_17 : decode cJ1_indexOf_4cfef 17 = .ok (.arraylength, 1) := by decide +kernel
theorem dJ1_indexOf_4cfef_18 : decode cJ1_indexOf_4cfef 18 = .ok (.invokestatic 38, 3) := by decide +kernel
theorem dJ1_indexOf_4cfef_21 : decode cJ1_indexOf_4cfef 21 = .ok (.istore_n 3, 1) := by decide +kernel
theorem dJ1_indexOf_4cfef_22 : decode cJ1_indexOf_4cfef 22 = .ok (.iload_n 2, 1) := by decide +kernel
theorem dJ1_indexOf_4cfef_23 : decode cJ1_indexOf_4cfef 23 = .ok (.iload_n 3, 1) := by decide +kernel
theorem dJ1_indexOf_4cfef_24 : decode cJ1_indexOf_4cfef 24 = .ok (.if_icmp .lt 5, 3) := by decide +kernel
theorem dJ1_indexOf_4cfef_27 : decode cJ1_indexOf_4cfef 27 = .ok (.iconst (-1), 1) := by decide +kernel
theorem dJ1_indexOf_4cfef_28 : decode cJ1_indexOf_4cfef 28 = .ok (.ireturn, 1) := by decide +kernel
theorem dJ1_indexOf_4cfef_29 : decode cJ1_indexOf_4cfef 29 = .ok (.aload_n 0, 1) := by decide +kernel
theorem dJ1_indexOf_4cfef_30 : decode cJ1_indexOf_4cfef 30 = .ok (.iload_n 1, 1) := by decide +kernel
theorem dJ1_indexOf_4cfef_31 : decode cJ1_indexOf_4cfef 31 = .ok (.iload_n 2, 1) := by decide +kernel
theorem dJ1_indexOf_4cfef_32 : decode cJ1_indexOf_4cfef 32 = .ok (.iload_n 3, 1) := by decide +kernel
theorem dJ1_indexOf_4cfef_33 : decode cJ1_indexOf_4cfef 33 = .ok (.invokestatic 95, 3) := by decide +kernel
theorem dJ1_indexOf_4cfef_36 : decode cJ1_indexOf_4cfef 36 = .ok (.ireturn, 1) := by decide +kernel
theorem dJ1_indexOfChar_4cfef_0 : decode cJ1_indexOfChar_4cfef 0 = .ok (.iload_n 1, 1) := by decide +kernel
theorem dJ1_indexOfChar_4cfef_1 : decode cJ1_indexOfChar_4cfef 1 = .ok (.i2b, 1) := by decide +kernel
theorem dJ1_indexOfChar_4cfef_2 : decode cJ1_indexOfChar_4cfef 2 = .ok (.istore 4, 2) := by decide +kernel
theorem dJ1_indexOfChar_4cfef_4 : decode cJ1_indexOfChar_4cfef 4 = .ok (.iload_n 2, 1) := by decide +kernel
theorem dJ1_indexOfChar_4cfef_5 : decode cJ1_indexOfChar_4cfef 5 = .ok (.istore 5, 2) := by decide +kernel
theorem dJ1_indexOfChar_4cfef_7 : decode cJ1_indexOfChar_4cfef 7 = .ok (.iload 5, 2) := by decide +kernel
theorem dJ1_indexOfChar_4cfef_9 : decode cJ1_indexOfChar_4cfef 9 = .ok (.iload_n 3, 1) := by decide +kernel
theorem dJ1_indexOfChar_4cfef_10 : decode cJ1_indexOfChar_4cfef 10 = .ok (.if_icmp .ge 21, 3) := by decide +kernel
theorem dJ1_indexOfChar_4cfef_13 : decode cJ1_indexOfChar_4cfef 13 = .ok (.aload_n 0, 1) := by decide +kernel
theorem dJ1_indexOfChar_4cfef_14 : decode cJ1_indexOfChar_4cfef 14 = .ok (.iload 5, 2) := by decide +kernel
theorem dJ1_indexOfChar_4cfef_16 : decode cJ1_indexOfChar_4cfef 16 = .ok (.baload, 1) := by decide +kernel
theorem dJ1_indexOfChar_4cfef_17 : decode cJ1_indexOfChar_4cfef 17 = .ok (.iload 4, 2) := by decide +kernel
theorem dJ1_indexOfChar_4cfef_19 : decode cJ1_indexOfChar_4cfef 19 = .ok (.if_icmp .ne 6, 3) := by decide +kernel
theorem dJ1_indexOfChar_4cfef_22 : decode cJ1_indexOfChar_4cfef 22 = .ok (.iload 5, 2) := by decide +kernel
theorem dJ1_indexOfChar_4cfef_24 : decode cJ1_indexOfChar_4cfef 24 = .ok (.ireturn, 1) := by decide +kernel
theorem dJ1_indexOfChar_4cfef_25 : decode cJ1_indexOfChar_4cfef 25 = .ok (.iinc 5 1, 3) := by decide +kernel
theorem dJ1_indexOfChar_4cfef_28 : decode cJ1_indexOfChar_4cfef 28 = .ok (.goto (-21), 3) := by decide +kernel
theorem dJ1_indexOfChar_4cfef_31 : decode cJ1_indexOfChar_4cfef 31 = .ok (.iconst (-1), 1) := by decide +kernel
theorem dJ1_indexOfChar_4cfef_32 : decode cJ1_indexOfChar_4cfef 32 = .ok (.ireturn, 1) := by decide +kernel
theorem dJ2_getChar_3b067_0 : decode cJ2_getChar_3b067 0 = .ok (.getstatic 44, 3) := by decide +kernel
theorem dJ2_getChar_3b067_3 : decode cJ2_getChar_3b067 3 = .ok (.ifCond .ne 25, 3) := by decide +kernel
theorem dJ2_getChar_3b067_6 : decode cJ2_getChar_3b067 6 = .ok (.iload_n 1, 1) := by decide +kernel
theorem dJ2_getChar_3b067_7 : decode cJ2_getChar_3b067 7 = .ok (.ifCond .lt 11, 3) := by decide +kernel
theorem dJ2_getChar_3b067_10 : decode cJ2_getChar_3b067 10 = .ok (.iload_n 1, 1) := by decide +kernel
theorem dJ2_getChar_3b067_11 : decode cJ2_getChar_3b067 11 = .ok (.aload_n 0, 1) := by decide +kernel
theorem dJ2_getChar_3b067_12 : decode cJ2_getChar_3b067 12 = .ok (.invokestatic 48, 3) := by decide +kernel
theorem dJ2_getChar_3b067_15 : decode cJ2_getChar_3b067 15 = .ok (.if_icmp .lt 13, 3) := by decide +kernel
theorem dJ2_getChar_3b067_18 : decode cJ2_getChar_3b067 18 = .ok (.new 52, 3) := by decide +kernel
theorem dJ2_getChar_3b067_21 : decode cJ2_getChar_3b067 21 = .ok (.dup, 1) := by decide +kernel
theorem dJ2_getChar_3b067_22 : decode cJ2_getChar_3b067 22 = .ok (.ldc 54, 2) := by decide +kernel
theorem dJ2_getChar_3b067_24 : decode cJ2_getChar_3b067 24 = .ok (.invokespecial 56, 3) := by decide +kernel
theorem dJ2_getChar_3b067_27 : decode cJ2_getChar_3b067 27 = .ok (.athrow, 1) := by decide +kernel
theorem dJ2_getChar_3b067_28 : decode cJ2_getChar_3b067 28 = .ok (.iload_n 1, 1) := by decide +kernel
theorem dJ2_getChar_3b067_29 : decode cJ2_getChar_3b067 29 = .ok (.iconst 1, 1) := by decide +kernel
theorem dJ2_getChar_3b067_30 : decode cJ2_getChar_3b067 30 = .ok (.ishl, 1) := by decide +kernel
theorem dJ2_getChar_3b067_31 : decode cJ2_getChar_3b067 31 = .ok (.istore_n 1, 1) := by decide +kernel
theorem dJ2_getChar_3b067_32 : decode cJ2_getChar_3b067 32 = .ok (.aload_n 0, 1) := by decide +kernel
theorem dJ2_getChar_3b067_33 : decode cJ2_getChar_3b067 33 = .ok (.iload_n 1, 1) := by decide +kernel
theorem dJ2_getChar_3b067_34 : decode cJ2_getChar_3b067 34 = .ok (.iinc 1 1, 3) := by decide +kernel
theorem dJ2_getChar_3b067_37 : decode cJ2_getChar_3b067 37 = .ok (.baload, 1) := by decide +kernel
theorem dJ2_getChar_3b067_38 : decode cJ2_getChar_3b067 38 = .ok (.sipush 255, 3) := by decide +kernel
theorem dJ2_getChar_3b067_41 : decode cJ2_getChar_3b067 41 = .ok (.iand, 1) := by decide +kernel
theorem dJ2_getChar_3b067_42 : decode cJ2_getChar_3b067 42 = .ok (.getstatic 59, 3) := by decide +kernel
theorem dJ2_getChar_3b067_45 : decode cJ2_getChar_3b067 45 = .ok (.ishl, 1) := by decide +kernel
theorem dJ2_getChar_3b067_46 : decode cJ2_getChar_3b067 46 = .ok (.aload_n 0, 1) := by decide +kernel
theorem dJ2_getChar_3b067_47 : decode cJ2_getChar_3b067 47 = .ok (.iload_n 1, 1) := by decide +kernel
theorem dJ2_getChar_3b067_48 : decode cJ2_getChar_3b067 48 = .ok (.baload, 1) := by decide +kernel
theorem dJ2_getChar_3b067_49 : decode cJ2_getChar_3b067 49 = .ok (.sipush 255, 3) := by decide +kernel
theorem dJ2_getChar_3b067_52 : decode cJ2_getChar_3b067 52 = .ok (.iand, 1) := by decide +kernel
theorem dJ2_getChar_3b067_53 : decode cJ2_getChar_3b067 53 = .ok (.getstatic 63, 3) := by decide +kernel
theorem dJ2_getChar_3b067_56 : decode cJ2_getChar_3b067 56 = .ok (.ishl, 1) := by decide +kernel
theorem dJ2_getChar_3b067_57 : decode cJ2_getChar_3b067 57 = .ok (.ior, 1) := by decide +kernel
theorem dJ2_getChar_3b067_58 : decode cJ2_getChar_3b067 58 = .ok (.i2c, 1) := by decide +kernel
theorem dJ2_getChar_3b067_59 : decode cJ2_getChar_3b067 59 = .ok (.ireturn, 1) := by decide +kernel
theorem dJ2_length_9d52b_0 : decode cJ2_length_9d52b 0 = .ok (.aload_n 0, 1) := by decide +kernel
theorem dJ2_length_9d52b_1 : decode cJ2_length_9d52b 1 = .ok (.arraylength, 1) := by decide +kernel
theorem dJ2_length_9d52b_2 : decode cJ2_length_9d52b 2 = .ok (.iconst 1, 1) := by decide +kernel
theorem dJ2_length_9d52b_3 : decode cJ2_length_9d52b 3 = .ok (.ishr, 1) := by decide +kernel
theorem dJ2_length_9d52b_4 : decode cJ2_length_9d52b 4 = .ok (.ireturn, 1) := by decide +kernel
theorem dJ2_indexOf_4cfef_0 : decode cJ2_indexOf_4cfef 0 = .ok (.iload_n 2, 1) := by decide +kernel
theorem dJ2_indexOf_4cfef_1 : decode cJ2_indexOf_4cfef 1 = .ok (.iconst 0, 1) := by decide +kernel
theorem dJ2_indexOf_4cfef_2 : decode cJ2_indexOf_4cfef 2 = .ok (.invokestatic 224, 3) := by decide +kernel
theorem dJ2_indexOf_4cfef_5 : decode cJ2_indexOf_4cfef 5 = .ok (.istore_n 2, 1) := by decide +kernel
theorem dJ2_indexOf_4cfef_6 : decode cJ2_indexOf_4cfef 6 = .ok (.iload_n 3, 1) := by decide +kernel
theorem dJ2_indexOf_4cfef_7 : decode cJ2_indexOf_4cfef 7 = .ok (.aload_n 0, 1) := by decide +kernel
theorem dJ2_indexOf_4cfef_8 : decode cJ2_indexOf_4cfef 8 = .ok (.arraylength, 1) := by decide +kernel
theorem dJ2_indexOf_4cfef_9 : decode cJ2_indexOf_4cfef 9 = .ok (.iconst 1, 1) := by decide +kernel
theorem dJ2_indexOf_4cfef_10 : decode cJ2_indexOf_4cfef 10 = .ok (.ishr, 1) := by decide +kernel
theorem dJ2_indexOf_4cfef_11 : decode cJ2_indexOf_4cfef 11 = .ok (.invokestatic 183, 3) := by decide +kernel
theorem dJ2_indexOf_4cfef_14 : decode cJ2_indexOf_4cfef 14 = .ok (.istore_n 3, 1) := by decide +kernel
theorem dJ2_indexOf_4cfef_15 : decode cJ2_indexOf_4cfef 15 = .ok (.iload_n 2, 1) := by decide +kernel
theorem dJ2_indexOf_4cfef_16 : decode cJ2_indexOf_4cfef 16 = .ok (.iload_n 3, 1) := by decide +kernel
theorem dJ2_indexOf_4cfef_17 : decode cJ2_indexOf_4cfef 17 = .ok (.if_icmp .lt 5, 3) := by decide +kernel
theorem dJ2_indexOf_4cfef_20 : decode cJ2_indexOf_4cfef 20 = .ok (.iconst (-1), 1) := by decide +kernel
theorem dJ2_indexOf_4cfef_21 : decode cJ2_indexOf_4cfef 21 = .ok (.ireturn, 1) := by decide +kernel
theorem dJ2_indexOf_4cfef_22 : decode cJ2_indexOf_4cfef 22 = .ok (.iload_n 1, 1) := by decide +kernel
theorem dJ2_indexOf_4cfef_23 : decode cJ2_indexOf_4cfef 23 = .ok (.ldc 227, 2) := by decide +kernel
theorem dJ2_indexOf_4cfef_25 : decode cJ2_indexOf_4cfef 25 = .ok (.if_icmp .ge 11, 3) := by decide +kernel
theorem dJ2_indexOf_4cfef_28 : decode cJ2_indexOf_4cfef 28 = .ok (.aload_n 0, 1) := by decide +kernel
theorem dJ2_indexOf_4cfef_29 : decode cJ2_indexOf_4cfef 29 = .ok (.iload_n 1, 1) := by decide +kernel
theorem dJ2_indexOf_4cfef_30 : decode cJ2_indexOf_4cfef 30 = .ok (.iload_n 2, 1) := by decide +kernel
theorem dJ2_indexOf_4cfef_31 : decode cJ2_indexOf_4cfef 31 = .ok (.iload_n 3, 1) := by decide +kernel
theorem dJ2_indexOf_4cfef_32 : decode cJ2_indexOf_4cfef 32 = .ok (.invokestatic 228, 3) := by decide +kernel
theorem dJ2_indexOf_4cfef_35 : decode cJ2_indexOf_4cfef 35 = .ok (.ireturn, 1) := by decide +kernel
theorem dJ2_indexOf_4cfef_36 : decode cJ2_indexOf_4cfef 36 = .ok (.aload_n 0, 1) := by decide +kernel
theorem dJ2_indexOf_4cfef_37 : decode cJ2_indexOf_4cfef 37 = .ok (.iload_n 1, 1) := by decide +kernel
theorem dJ2_indexOf_4cfef_38 : decode cJ2_indexOf_4cfef 38 = .ok (.iload_n 2, 1) := by decide +kernel
theorem dJ2_indexOf_4cfef_39 : decode cJ2_indexOf_4cfef 39 = .ok (.iload_n 3, 1) := by decide +kernel
theorem dJ2_indexOf_4cfef_40 : decode cJ2_indexOf_4cfef 40 = .ok (.invokestatic 232, 3) := by decide +kernel
theorem dJ2_indexOf_4cfef_43 : decode cJ2_indexOf_4cfef 43 = .ok (.ireturn, 1) := by decide +kernel
theorem dJ2_indexOfChar_4cfef_0 : decode cJ2_indexOfChar_4cfef 0 = .ok (.iload_n 2, 1) := by decide +kernel
theorem dJ2_indexOfChar_4cfef_1 : decode cJ2_indexOfChar_4cfef 1 = .ok (.iload_n 3, 1) := by decide +kernel
theorem dJ2_indexOfChar_4cfef_2 : decode cJ2_indexOfChar_4cfef 2 = .ok (.aload_n 0, 1) := by decide +kernel
theorem dJ2_indexOfChar_4cfef_3 : decode cJ2_indexOfChar_4cfef 3 = .ok (.invokestatic 96, 3) := by decide +kernel
theorem dJ2_indexOfChar_4cfef_6 : decode cJ2_indexOfChar_4cfef 6 = .ok (.aload_n 0, 1) := by decide +kernel
theorem dJ2_indexOfChar_4cfef_7 : decode cJ2_indexOfChar_4cfef 7 = .ok (.iload_n 1, 1) := by decide +kernel
theorem dJ2_indexOfChar_4cfef_8 : decode cJ2_indexOfChar_4cfef 8 = .ok (.iload_n 2, 1) := by decide +kernel
theorem dJ2_indexOfChar_4cfef_9 : decode cJ2_indexOfChar_4cfef 9 = .ok (.iload_n 3, 1) := by decide +kernel
theorem dJ2_indexOfChar_4cfef_10 : decode cJ2_indexOfChar_4cfef 10 = .ok (.invokestatic 244, 3) := by decide +kernel
theorem dJ2_indexOfChar_4cfef_13 : decode cJ2_indexOfChar_4cfef 13 = .ok (.ireturn, 1) := by decide +kernel
theorem dJ2_indexOfCharUnsafe_4cfef_0 : decode cJ2_indexOfCharUnsafe_4cfef 0 = .ok (.iload_n 2, 1) := by decide +kernel
theorem dJ2_indexOfCharUnsafe_4cfef_1 : decode cJ2_indexOfCharUnsafe_4cfef 1 = .ok (.istore 4, 2) := by decide +kernel
theorem dJ2_indexOfCharUnsafe_4cfef_3 : decode cJ2_indexOfCharUnsafe_4cfef 3 = .ok (.iload 4, 2) := by decide +kernel
theorem dJ2_indexOfCharUnsafe_4cfef_5 : decode cJ2_indexOfCharUnsafe_4cfef 5 = .ok (.iload_n 3, 1) := by decide +kernel
theorem dJ2_indexOfCharUnsafe_4cfef_6 : decode cJ2_indexOfCharUnsafe_4cfef 6 = .ok (.if_icmp .ge 22, 3) := by decide +kernel
theorem dJ2_indexOfCharUnsafe_4cfef_9 : decode cJ2_indexOfCharUnsafe_4cfef 9 = .ok (.aload_n 0, 1) := by decide +kernel
theorem dJ2_indexOfCharUnsafe_4cfef_10 : decode cJ2_indexOfCharUnsafe_4cfef 10 = .ok (.iload 4, 2) := by decide +kernel
theorem dJ2_indexOfCharUnsafe_4cfef_12 : decode cJ2_indexOfCharUnsafe_4cfef 12 = .ok (.invokestatic 71, 3) := by decide +kernel
theorem dJ2_indexOfCharUnsafe_4cfef_15 : decode cJ2_indexOfCharUnsafe_4cfef 15 = .ok (.iload_n 1, 1) := by decide +kernel
theorem dJ2_indexOfCharUnsafe_4cfef_16 : decode cJ2_indexOfCharUnsafe_4cfef 16 = .ok (.if_icmp .ne 6, 3) := by decide +kernel
theorem dJ2_indexOfCharUnsafe_4cfef_19 : decode cJ2_indexOfCharUnsafe_4cfef 19 = .ok (.iload 4, 2) := by decide +kernel
theorem dJ2_indexOfCharUnsafe_4cfef_21 : decode cJ2_indexOfCharUnsafe_4cfef 21 = .ok (.ireturn, 1) := by decide +kernel
theorem dJ2_indexOfCharUnsafe_4cfef_22 : decode cJ2_indexOfCharUnsafe_4cfef 22 = .ok (.iinc 4 1, 3) := by decide +kernel
theorem dJ2_indexOfCharUnsafe_4cfef_25 : decode cJ2_indexOfCharUnsafe_4cfef 25 = .ok (.goto (-22), 3) := by decide +kernel
theorem dJ2_indexOfCharUnsafe_4cfef_28 : decode cJ2_indexOfCharUnsafe_4cfef 28 = .ok (.iconst (-1), 1) := by decide +kernel
theorem dJ2_indexOfCharUnsafe_4cfef_29 : decode cJ2_indexOfCharUnsafe_4cfef 29 = .ok (.ireturn, 1) := by decide +kernel
theorem dJ2_indexOfSupplementary_4cfef_0 : decode cJ2_indexOfSupplementary_4cfef 0 = .ok (.iload_n 1, 1) := by decide +kernel
theorem dJ2_indexOfSupplementary_4cfef_1 : decode cJ2_indexOfSupplementary_4cfef 1 = .ok (.invokestatic 164, 3) := by decide +kernel
theorem dJ2_indexOfSupplementary_4cfef_4 : decode cJ2_indexOfSupplementary_4cfef 4 = .ok (.ifCond .eq 65, 3) := by decide +kernel
theorem dJ2_indexOfSupplementary_4cfef_7 : decode cJ2_indexOfSupplementary_4cfef 7 = .ok (.iload_n 1, 1) := by decide +kernel
theorem dJ2_indexOfSupplementary_4cfef_8 : decode cJ2_indexOfSupplementary_4cfef 8 = .ok (.invokestatic 157, 3) := by decide +kernel
theorem dJ2_indexOfSupplementary_4cfef_11 : decode cJ2_indexOfSupplementary_4cfef 11 = .ok (.istore 4, 2) := by decide +kernel
theorem dJ2_indexOfSupplementary_4cfef_13 : decode cJ2_indexOfSupplementary_4cfef 13 = .ok (.iload_n 1, 1) := by decide +kernel
theorem dJ2_indexOfSupplementary_4cfef_14 : decode cJ2_indexOfSupplementary_4cfef 14 = .ok (.invokestatic 161, 3) := by decide +kernel
theorem dJ2_indexOfSupplementary_4cfef_17 : decode cJ2_indexOfSupplementary_4cfef 17 = .ok (.istore 5, 2) := by decide +kernel
theorem dJ2_indexOfSupplementary_4cfef_19 : decode cJ2_indexOfSupplementary_4cfef 19 = .ok (.iload_n 2, 1) := by decide +kernel
theorem dJ2_indexOfSupplementary_4cfef_20 : decode cJ2_indexOfSupplementary_4cfef 20 = .ok (.iload_n 3, 1) := by decide +kernel
theorem dJ2_indexOfSupplementary_4cfef_21 : decode cJ2_indexOfSupplementary_4cfef 21 = .ok (.aload_n 0, 1) := by decide +kernel
theorem dJ2_indexOfSupplementary_4cfef_22 : decode cJ2_indexOfSupplementary_4cfef 22 = .ok (.invokestatic 96, 3) := by decide +kernel
theorem dJ2_indexOfSupplementary_4cfef_25 : decode cJ2_indexOfSupplementary_4cfef 25 = .ok (.iload_n 2, 1) := by decide +kernel
theorem dJ2_indexOfSupplementary_4cfef_26 : decode cJ2_indexOfSupplementary_4cfef 26 = .ok (.istore 6, 2) := by decide +kernel
theorem dJ2_indexOfSupplementary_4cfef_28 : decode cJ2_indexOfSupplementary_4cfef 28 = .ok (.iload 6, 2) := by decide +kernel
theorem dJ2_indexOfSupplementary_4cfef_30 : decode cJ2_indexOfSupplementary_4cfef 30 = .ok (.iload_n 3, 1) := by decide +kernel
theorem dJ2_indexOfSupplementary_4cfef_31 : decode cJ2_indexOfSupplementary_4cfef 31 = .ok (.iconst 1, 1) := by decide +kernel
theorem dJ2_indexOfSupplementary_4cfef_32 : decode cJ2_indexOfSupplementary_4cfef 32 = .ok (.isub, 1) := by decide +kernel
theorem dJ2_indexOfSupplementary_4cfef_33 : decode cJ2_indexOfSupplementary_4cfef 33 = .ok (.if_icmp .ge 36, 3) := by decide +kernel
theorem dJ2_indexOfSupplementary_4cfef_36 : decode cJ2_indexOfSupplementary_4cfef 36 = .ok (.aload_n 0, 1) := by decide +kernel
theorem dJ2_indexOfSupplementary_4cfef_37 : decode cJ2_indexOfSupplementary_4cfef 37 = .ok (.iload 6, 2) := by decide +kernel
theorem dJ2_indexOfSupplementary_4cfef_39 : decode cJ2_indexOfSupplementary_4cfef 39 = .ok (.invokestatic 71, 3) := by decide +kernel
theorem dJ2_indexOfSupplementary_4cfef_42 : decode cJ2_indexOfSupplementary_4cfef 42 = .ok (.iload 4, 2) := by decide +kernel
theorem dJ2_indexOfSupplementary_4cfef_44 : decode cJ2_indexOfSupplementary_4cfef 44 = .ok (.if_icmp .ne 19, 3) := by decide +kernel
theorem dJ2_indexOfSupplementary_4cfef_47 : decode cJ2_indexOfSupplementary_4cfef 47 = .ok (.aload_n 0, 1) := by decide +kernel
theorem dJ2_indexOfSupplementary_4cfef_48 : decode cJ2_indexOfSupplementary_4cfef 48 = .ok (.iload 6, 2) := by decide +kernel
theorem dJ2_indexOfSupplementary_4cfef_50 : decode cJ2_indexOfSupplementary_4cfef 50 = .ok (.iconst 1, 1) := by decide +kernel
theorem dJ2_indexOfSupplementary_4cfef_51 : decode cJ2_indexOfSupplementary_4cfef 51 = .ok (.iadd, 1) := by decide +kernel
theorem dJ2_indexOfSupplementary_4cfef_52 : decode cJ2_indexOfSupplementary_4cfef 52 = .ok (.invokestatic 71, 3) := by decide +kernel
theorem dJ2_indexOfSupplementary_4cfef_55 : decode cJ2_indexOfSupplementary_4cfef 55 = .ok (.iload 5, 2) := by decide +kernel
theorem dJ2_indexOfSupplementary_4cfef_57 : decode cJ2_indexOfSupplementary_4cfef 57 = .ok (.if_icmp .ne 6, 3) := by decide +kernel
theorem dJ2_indexOfSupplementary_4cfef_60 : decode cJ2_indexOfSupplementary_4cfef 60 = .ok (.iload 6, 2) := by decide +kernel
theorem dJ2_indexOfSupplementary_4cfef_62 : decode cJ2_indexOfSupplementary_4cfef 62 = .ok (.ireturn, 1) := by decide +kernel
theorem dJ2_indexOfSupplementary_4cfef_63 : decode cJ2_indexOfSupplementary_4cfef 63 = .ok (.iinc 6 1, 3) := by decide +kernel
theorem dJ2_indexOfSupplementary_4cfef_66 : decode cJ2_indexOfSupplementary_4cfef 66 = .ok (.goto (-38), 3) := by decide +kernel
theorem dJ2_indexOfSupplementary_4cfef_69 : decode cJ2_indexOfSupplementary_4cfef 69 = .ok (.iconst (-1), 1) := by decide +kernel
theorem dJ2_indexOfSupplementary_4cfef_70 : decode cJ2_indexOfSupplementary_4cfef 70 = .ok (.ireturn, 1) := by decide +kernel
theorem dJ2_charAt_3b067_0 : decode cJ2_charAt_3b067 0 = .ok (.iload_n 1, 1) := by decide +kernel
theorem dJ2_charAt_3b067_1 : decode cJ2_charAt_3b067 1 = .ok (.aload_n 0, 1) := by decide +kernel
theorem dJ2_charAt_3b067_2 : decode cJ2_charAt_3b067 2 = .ok (.invokestatic 67, 3) := by decide +kernel
theorem dJ2_charAt_3b067_5 : decode cJ2_charAt_3b067 5 = .ok (.aload_n 0, 1) := by decide +kernel
theorem dJ2_charAt_3b067_6 : decode cJ2_charAt_3b067 6 = .ok (.iload_n 1, 1) := by decide +kernel
theorem dJ2_charAt_3b067_7 : decode cJ2_charAt_3b067 7 = .ok (.invokestatic 71, 3) := by decide +kernel
theorem dJ2_charAt_3b067_10 : decode cJ2_charAt_3b067 10 = .ok (.ireturn, 1) := by decide +kernel
theorem dJ2_checkIndex_2214a_0 : decode cJ2_checkIndex_2214a 0 = .ok (.iload_n 0, 1) := by decide +kernel
theorem dJ2_checkIndex_2214a_1 : decode cJ2_checkIndex_2214a 1 = .ok (.aload_n 1, 1) := by decide +kernel
theorem dJ2_checkIndex_2214a_2 : decode cJ2_checkIndex_2214a 2 = .ok (.invokestatic 48, 3) := by decide +kernel
theorem dJ2_checkIndex_2214a_5 : decode cJ2_checkIndex_2214a 5 = .ok (.invokestatic 414, 3) := by decide +kernel
theorem dJ2_checkIndex_2214a_8 : decode cJ2_checkIndex_2214a 8 = .ok (.return_, 1) := by decide +kernel
theorem dJ2_checkBoundsBeginEnd_d044e_0 : decode cJ2_checkBoundsBeginEnd_d044e 0 = .ok (.iload_n 0, 1) := by decide +kernel
theorem dJ2_checkBoundsBeginEnd_d044e_1 : decode cJ2_checkBoundsBeginEnd_d044e 1 = .ok (.iload_n 1, 1) := by decide +kernel
theorem dJ2_checkBoundsBeginEnd_d044e_2 : decode cJ2_checkBoundsBeginEnd_d044e 2 = .ok (.aload_n 2, 1) := by decide +kernel
theorem dJ2_checkBoundsBeginEnd_d044e_3 : decode cJ2_checkBoundsBeginEnd_d044e 3 = .ok (.invokestatic 48, 3) := by decide +kernel
theorem dJ2_checkBoundsBeginEnd_d044e_6 : decode cJ2_checkBoundsBeginEnd_d044e 6 = .ok (.invokestatic 241, 3) := by decide +kernel
theorem dJ2_checkBoundsBeginEnd_d044e_9 : decode cJ2_checkBoundsBeginEnd_d044e 9 = .ok (.return_, 1) := by decide +kernel
theorem dJ3_checkIndex_8e157_0 : decode cJ3_checkIndex_8e157 0 = .ok (.iload_n 0, 1) := by decide +kernel
theorem dJ3_checkIndex_8e157_1 : decode cJ3_checkIndex_8e157 1 = .ok (.ifCond .lt 8, 3) := by decide +kernel
theorem dJ3_checkIndex_8e157_4 : decode cJ3_checkIndex_8e157 4 = .ok (.iload_n 0, 1) := by decide +kernel
theorem dJ3_checkIndex_8e157_5 : decode cJ3_checkIndex_8e157 5 = .ok (.iload_n 1, 1) := by decide +kernel
theorem dJ3_checkIndex_8e157_6 : decode cJ3_checkIndex_8e157 6 = .ok (.if_icmp .lt 10, 3) := by decide +kernel
theorem dJ3_checkIndex_8e157_9 : decode cJ3_checkIndex_8e157 9 = .ok (.aload_n 2, 1) := by decide +kernel
theorem dJ3_checkIndex_8e157_10 : decode cJ3_checkIndex_8e157 10 = .ok (.iload_n 0, 1) := by decide +kernel
theorem dJ3_checkIndex_8e157_11 : decode cJ3_checkIndex_8e157 11 = .ok (.iload_n 1, 1) := by decide +kernel
theorem dJ3_checkIndex_8e157_12 : decode cJ3_checkIndex_8e157 12 = .ok (.invokestatic 95, 3) := by decide +kernel
theorem dJ3_checkIndex_8e157_15 : decode cJ3_checkIndex_8e157 15 = .ok (.athrow, 1) := by decide +kernel
theorem dJ3_checkIndex_8e157_16 : decode cJ3_checkIndex_8e157 16 = .ok (.iload_n 0, 1) := by decide +kernel
theorem dJ3_checkIndex_8e157_17 : decode cJ3_checkIndex_8e157 17 = .ok (.ireturn, 1) := by decide +kernel
theorem dJ3_checkFromToIndex_8c36e_0 : decode cJ3_checkFromToIndex_8c36e 0 = .ok (.iload_n 0, 1) := by decide +kernel
theorem dJ3_checkFromToIndex_8c36e_1 : decode cJ3_checkFromToIndex_8c36e 1 = .ok (.ifCond .lt 13, 3) := by decide +kernel
theorem dJ3_checkFromToIndex_8c36e_4 : decode cJ3_checkFromToIndex_8c36e 4 = .ok (.iload_n 0, 1) := by decide +kernel
theorem dJ3_checkFromToIndex_8c36e_5 : decode cJ3_checkFromToIndex_8c36e 5 = .ok (.iload_n 1, 1) := by decide +kernel
theorem dJ3_checkFromToIndex_8c36e_6 : decode cJ3_checkFromToIndex_8c36e 6 = .ok (.if_icmp .gt 8, 3) := by decide +kernel
theorem dJ3_checkFromToIndex_8c36e_9 : decode cJ3_checkFromToIndex_8c36e 9 = .ok (.iload_n 1, 1) := by decide +kernel
theorem dJ3_checkFromToIndex_8c36e_10 : decode cJ3_checkFromToIndex_8c36e 10 = .ok (.iload_n 2, 1) := by decide +kernel
theorem dJ3_checkFromToIndex_8c36e_11 : decode cJ3_checkFromToIndex_8c36e 11 = .ok (.if_icmp .le 11, 3) := by decide +kernel
theorem dJ3_checkFromToIndex_8c36e_14 : decode cJ3_checkFromToIndex_8c36e 14 = .ok (.aload_n 3, 1) := by decide +kernel
theorem dJ3_checkFromToIndex_8c36e_15 : decode cJ3_checkFromToIndex_8c36e 15 = .ok (.iload_n 0, 1) := by decide +kernel
theorem dJ3_checkFromToIndex_8c36e_16 : decode cJ3_checkFromToIndex_8c36e 16 = .ok (.iload_n 1, 1) := by decide +kernel
theorem dJ3_checkFromToIndex_8c36e_17 : decode cJ3_checkFromToIndex_8c36e 17 = .ok (.iload_n 2, 1) := by decide +kernel
theorem dJ3_checkFromToIndex_8c36e_18 : decode cJ3_checkFromToIndex_8c36e 18 = .ok (.invokestatic 99, 3) := by decide +kernel
theorem dJ3_checkFromToIndex_8c36e_21 : decode cJ3_checkFromToIndex_8c36e 21 = .ok (.athrow, 1) := by decide +kernel
theorem dJ3_checkFromToIndex_8c36e_22 : decode cJ3_checkFromToIndex_8c36e 22 = .ok (.iload_n 0, 1) := by decide +kernel
theorem dJ3_checkFromToIndex_8c36e_23 : decode cJ3_checkFromToIndex_8c36e 23 = .ok (.ireturn, 1) := by decide +kernel
theorem dL_law_0 : decode cL_law 0 = .ok (.new 7, 3) := by decide +kernel
theorem dL_law_3 : decode cL_law 3 = .ok (.dup, 1) := by decide +kernel
theorem dL_law_4 : decode cL_law 4 = .ok (.invokespecial 9, 3) := by decide +kernel
theorem dL_law_7 : decode cL_law 7 = .ok (.astore_n 1, 1) := by decide +kernel
theorem dL_law_8 : decode cL_law 8 = .ok (.new 10, 3) := by decide +kernel
theorem dL_law_11 : decode cL_law 11 = .ok (.dup, 1) := by decide +kernel
theorem dL_law_12 : decode cL_law 12 = .ok (.invokespecial 12, 3) := by decide +kernel
theorem dL_law_15 : decode cL_law 15 = .ok (.astore_n 2, 1) := by decide +kernel
theorem dL_law_16 : decode cL_law 16 = .ok (.iconst 0, 1) := by decide +kernel
theorem dL_law_17 : decode cL_law 17 = .ok (.istore_n 3, 1) := by decide +kernel
theorem dL_law_18 : decode cL_law 18 = .ok (.iload_n 3, 1) := by decide +kernel
theorem dL_law_19 : decode cL_law 19 = .ok (.aload_n 0, 1) := by decide +kernel
theorem dL_law_20 : decode cL_law 20 = .ok (.arraylength, 1) := by decide +kernel
theorem dL_law_21 : decode cL_law 21 = .ok (.bipush 6, 2) := by decide +kernel
theorem dL_law_23 : decode cL_law 23 = .ok (.isub, 1) := by decide +kernel
theorem dL_law_24 : decode cL_law 24 = .ok (.if_icmp .gt 1591, 3) := by decide +kernel
theorem dL_law_27 : decode cL_law 27 = .ok (.aload_n 0, 1) := by decide +kernel
theorem dL_law_28 : decode cL_law 28 = .ok (.iload_n 3, 1) := by decide +kernel
theorem dL_law_29 : decode cL_law 29 = .ok (.iaload, 1) := by decide +kernel
theorem dL_law_30 : decode cL_law 30 = .ok (.bipush 63, 2) := by decide +kernel
theorem dL_law_32 : decode cL_law 32 = .ok (.iand, 1) := by decide +kernel
theorem dL_law_33 : decode cL_law 33 = .ok (.tableswitch 1576 0 43 #[191, 204, 218, 232, 275, 348, 382, 445, 508, 531, 554, 577, 600, 623, 656, 689, 722, 755, 818, 851, 894, 927, 950, 983, 1026, 1049, 1072, 1095, 1138, 1171, 1194, 1227, 1250, 1273, 1316, 1349, 1392, 1415, 1448, 1471, 1494, 1527, 1550, 1563], 191) := by decide +kernel
theorem dL_law_224 : decode cL_law 224 = .ok (.aload_n 1, 1) := by decide +kernel
theorem dL_law_225 : decode cL_law 225 = .ok (.invokevirtual 13, 3) := by decide +kernel
theorem dL_law_228 : decode cL_law 228 = .ok (.aload_n 2, 1) := by decide +kernel
theorem dL_law_229 : decode cL_law 229 = .ok (.invokevirtual 17, 3) := by decide +kernel
theorem dL_law_232 : decode cL_law 232 = .ok (.if_icmp .eq 1377, 3) := by decide +kernel
theorem dL_law_235 : decode cL_law 235 = .ok (.iconst 0, 1) := by decide +kernel
theorem dL_law_236 : decode cL_law 236 = .ok (.ireturn, 1) := by decide +kernel
theorem dL_law_237 : decode cL_law 237 = .ok (.aload_n 1, 1) := by decide +kernel
theorem dL_law_238 : decode cL_law 238 = .ok (.invokevirtual 18, 3) := by decide +kernel
theorem dL_law_241 : decode cL_law 241 = .ok (.aload_n 2, 1) := by decide +kernel
theorem dL_law_242 : decode cL_law 242 = .ok (.invokevirtual 22, 3) := by decide +kernel
theorem dL_law_245 : decode cL_law 245 = .ok (.lcmp, 1) := by decide +kernel
theorem dL_law_246 : decode cL_law 246 = .ok (.ifCond .eq 1363, 3) := by decide +kernel
theorem dL_law_249 : decode cL_law 249 = .ok (.iconst 0, 1) := by decide +kernel
theorem dL_law_250 : decode cL_law 250 = .ok (.ireturn, 1) := by decide +kernel
theorem dL_law_251 : decode cL_law 251 = .ok (.aload_n 1, 1) := by decide +kernel
theorem dL_law_252 : decode cL_law 252 = .ok (.invokevirtual 23, 3) := by decide +kernel
theorem dL_law_255 : decode cL_law 255 = .ok (.aload_n 2, 1) := by decide +kernel
theorem dL_law_256 : decode cL_law 256 = .ok (.invokevirtual 26, 3) := by decide +kernel
theorem dL_law_259 : decode cL_law 259 = .ok (.lcmp, 1) := by decide +kernel
theorem dL_law_260 : decode cL_law 260 = .ok (.ifCond .eq 1349, 3) := by decide +kernel
theorem dL_law_263 : decode cL_law 263 = .ok (.iconst 0, 1) := by decide +kernel
theorem dL_law_264 : decode cL_law 264 = .ok (.ireturn, 1) := by decide +kernel
theorem dL_law_265 : decode cL_law 265 = .ok (.aload_n 1, 1) := by decide +kernel
theorem dL_law_266 : decode cL_law 266 = .ok (.aload_n 0, 1) := by decide +kernel
theorem dL_law_267 : decode cL_law 267 = .ok (.iload_n 3, 1) := by decide +kernel
theorem dL_law_268 : decode cL_law 268 = .ok (.iconst 1, 1) := by decide +kernel
theorem dL_law_269 : decode cL_law 269 = .ok (.iadd, 1) := by decide +kernel
theorem dL_law_270 : decode cL_law 270 = .ok (.iaload, 1) := by decide +kernel
theorem dL_law_271 : decode cL_law 271 = .ok (.aload_n 0, 1) := by decide +kernel
theorem dL_law_272 : decode cL_law 272 = .ok (.iload_n 3, 1) := by decide +kernel
theorem dL_law_273 : decode cL_law 273 = .ok (.iconst 2, 1) := by decide +kernel
theorem dL_law_274 : decode cL_law 274 = .ok (.iadd, 1) := by decide +kernel
theorem dL_law_275 : decode cL_law 275 = .ok (.iaload, 1) := by decide +kernel
theorem dL_law_276 : decode cL_law 276 = .ok (.aload_n 0, 1) := by decide +kernel
theorem dL_law_277 : decode cL_law 277 = .ok (.iload_n 3, 1) := by decide +kernel
theorem dL_law_278 : decode cL_law 278 = .ok (.iconst 3, 1) := by decide +kernel
theorem dL_law_279 : decode cL_law 279 = .ok (.iadd, 1) := by decide +kernel
theorem dL_law_280 : decode cL_law 280 = .ok (.iaload, 1) := by decide +kernel
theorem dL_law_281 : decode cL_law 281 = .ok (.invokevirtual 27, 3) := by decide +kernel
theorem dL_law_284 : decode cL_law 284 = .ok (.aload_n 2, 1) := by decide +kernel
theorem dL_law_285 : decode cL_law 285 = .ok (.aload_n 0, 1) := by decide +kernel
theorem dL_law_286 : decode cL_law 286 = .ok (.iload_n 3, 1) := by decide +kernel
theorem dL_law_287 : decode cL_law 287 = .ok (.iconst 1, 1) := by decide +kernel
theorem dL_law_288 : decode cL_law 288 = .ok (.iadd, 1) := by decide +kernel
theorem dL_law_289 : decode cL_law 289 = .ok (.iaload, 1) := by decide +kernel
theorem dL_law_290 : decode cL_law 290 = .ok (.aload_n 0, 1) := by decide +kernel
theorem dL_law_291 : decode cL_law 291 = .ok (.iload_n 3, 1) := by decide +kernel
theorem dL_law_292 : decode cL_law 292 = .ok (.iconst 2, 1) := by decide +kernel
theorem dL_law_293 : decode cL_law 293 = .ok (.iadd, 1) := by decide +kernel
theorem dL_law_294 : decode cL_law 294 = .ok (.iaload, 1) := by decide +kernel
theorem dL_law_295 : decode cL_law 295 = .ok (.aload_n 0, 1) := by decide +kernel
theorem dL_law_296 : decode cL_law 296 = .ok (.iload_n 3, 1) := by decide +kernel
theorem dL_law_297 : decode cL_law 297 = .ok (.iconst 3, 1) := by decide +kernel
theorem dL_law_298 : decode cL_law 298 = .ok (.iadd, 1) := by decide +kernel
theorem dL_law_299 : decode cL_law 299 = .ok (.iaload, 1) := by decide +kernel
theorem dL_law_300 : decode cL_law 300 = .ok (.invokevirtual 31, 3) := by decide +kernel
theorem dL_law_303 : decode cL_law 303 = .ok (.if_icmp .eq 1306, 3) := by decide +kernel
theorem dL_law_306 : decode cL_law 306 = .ok (.iconst 0, 1) := by decide +kernel
theorem dL_law_307 : decode cL_law 307 = .ok (.ireturn, 1) := by decide +kernel
theorem dL_law_308 : decode cL_law 308 = .ok (.aload_n 1, 1) := by decide +kernel
theorem dL_law_309 : decode cL_law 309 = .ok (.aload_n 0, 1) := by decide +kernel
theorem dL_law_310 : decode cL_law 310 = .ok (.iload_n 3, 1) := by decide +kernel
theorem dL_law_311 : decode cL_law 311 = .ok (.iconst 1, 1) := by decide +kernel
theorem dL_law_312 : decode cL_law 312 = .ok (.iadd, 1) := by decide +kernel
theorem dL_law_313 : decode cL_law 313 = .ok (.iaload, 1) := by decide +kernel
theorem dL_law_314 : decode cL_law 314 = .ok (.aload_n 0, 1) := by decide +kernel
theorem dL_law_315 : decode cL_law 315 = .ok (.iload_n 3, 1) := by decide +kernel
theorem dL_law_316 : decode cL_law 316 = .ok (.iconst 2, 1) := by decide +kernel
theorem dL_law_317 : decode cL_law 317 = .ok (.iadd, 1) := by decide +kernel
theorem dL_law_318 : decode cL_law 318 = .ok (.iaload, 1) := by decide +kernel
theorem dL_law_319 : decode cL_law 319 = .ok (.aload_n 0, 1) := by decide +kernel
theorem dL_law_320 : decode cL_law 320 = .ok (.iload_n 3, 1) := by decide +kernel
theorem dL_law_321 : decode cL_law 321 = .ok (.iconst 3, 1) := by decide +kernel
theorem dL_law_322 : decode cL_law 322 = .ok (.iadd, 1) := by decide +kernel
theorem dL_law_323 : decode cL_law 323 = .ok (.iaload, 1) := by decide +kernel
theorem dL_law_324 : decode cL_law 324 = .ok (.i2l, 1) := by decide +kernel
theorem dL_law_325 : decode cL_law 325 = .ok (.bipush 32, 2) := by decide +kernel
theorem dL_law_327 : decode cL_law 327 = .ok (.lshl, 1) := by decide +kernel
theorem dL_law_328 : decode cL_law 328 = .ok (.aload_n 0, 1) := by decide +kernel
theorem dL_law_329 : decode cL_law 329 = .ok (.iload_n 3, 1) := by decide +kernel
theorem dL_law_330 : decode cL_law 330 = .ok (.iconst 4, 1) := by decide +kernel
theorem dL_law_331 : decode cL_law 331 = .ok (.iadd, 1) := by decide +kernel
theorem dL_law_332 : decode cL_law 332 = .ok (.iaload, 1) := by decide +kernel
theorem dL_law_333 : decode cL_law 333 = .ok (.i2l, 1) := by decide +kernel
theorem dL_law_334 : decode cL_law 334 = .ok (.ldc2_w 32, 3) := by decide +kernel
theorem dL_law_337 : decode cL_law 337 = .ok (.land, 1) := by decide +kernel
theorem dL_law_338 : decode cL_law 338 = .ok (.lor, 1) := by decide +kernel
theorem dL_law_339 : decode cL_law 339 = .ok (.invokevirtual 34, 3) := by decide +kernel
theorem dL_law_342 : decode cL_law 342 = .ok (.aload_n 2, 1) := by decide +kernel
theorem dL_law_343 : decode cL_law 343 = .ok (.aload_n 0, 1) := by decide +kernel
theorem dL_law_344 : decode cL_law 344 = .ok (.iload_n 3, 1) := by decide +kernel
theorem dL_law_345 : decode cL_law 345 = .ok (.iconst 1, 1) := by decide +kernel
theorem dL_law_346 : decode cL_law 346 = .ok (.iadd, 1) := by decide +kernel
theorem dL_law_347 : decode cL_law 347 = .ok (.iaload, 1) := by decide +kernel
theorem dL_law_348 : decode cL_law 348 = .ok (.aload_n 0, 1) := by decide +kernel
theorem dL_law_349 : decode cL_law 349 = .ok (.iload_n 3, 1) := by decide +kernel
theorem dL_law_350 : decode cL_law 350 = .ok (.iconst 2, 1) := by decide +kernel
theorem dL_law_351 : decode cL_law 351 = .ok (.iadd, 1) := by decide +kernel
theorem dL_law_352 : decode cL_law 352 = .ok (.iaload, 1) := by decide +kernel
theorem dL_law_353 : decode cL_law 353 = .ok (.aload_n 0, 1) := by decide +kernel
theorem dL_law_354 : decode cL_law 354 = .ok (.iload_n 3, 1) := by decide +kernel
theorem dL_law_355 : decode cL_law 355 = .ok (.iconst 3, 1) := by decide +kernel
theorem dL_law_356 : decode cL_law 356 = .ok (.iadd, 1) := by decide +kernel
theorem dL_law_357 : decode cL_law 357 = .ok (.iaload, 1) := by decide +kernel
theorem dL_law_358 : decode cL_law 358 = .ok (.i2l, 1) := by decide +kernel
theorem dL_law_359 : decode cL_law 359 = .ok (.bipush 32, 2) := by decide +kernel
theorem dL_law_361 : decode cL_law 361 = .ok (.lshl, 1) := by decide +kernel
theorem dL_law_362 : decode cL_law 362 = .ok (.aload_n 0, 1) := by decide +kernel
theorem dL_law_363 : decode cL_law 363 = .ok (.iload_n 3, 1) := by decide +kernel
theorem dL_law_364 : decode cL_law 364 = .ok (.iconst 4, 1) := by decide +kernel
theorem dL_law_365 : decode cL_law 365 = .ok (.iadd, 1) := by decide +kernel
theorem dL_law_366 : decode cL_law 366 = .ok (.iaload, 1) := by decide +kernel
theorem dL_law_367 : decode cL_law 367 = .ok (.i2l, 1) := by decide +kernel
theorem dL_law_368 : decode cL_law 368 = .ok (.ldc2_w 32, 3) := by decide +kernel
theorem dL_law_371 : decode cL_law 371 = .ok (.land, 1) := by decide +kernel
theorem dL_law_372 : decode cL_law 372 = .ok (.lor, 1) := by decide +kernel
theorem dL_law_373 : decode cL_law 373 = .ok (.invokevirtual 38, 3) := by decide +kernel
theorem dL_law_376 : decode cL_law 376 = .ok (.if_icmp .eq 1233, 3) := by decide +kernel
theorem dL_law_379 : decode cL_law 379 = .ok (.iconst 0, 1) := by decide +kernel
theorem dL_law_380 : decode cL_law 380 = .ok (.ireturn, 1) := by decide +kernel
theorem dL_law_381 : decode cL_law 381 = .ok (.aload_n 1, 1) := by decide +kernel
theorem dL_law_382 : decode cL_law 382 = .ok (.aload_n 0, 1) := by decide +kernel
theorem dL_law_383 : decode cL_law 383 = .ok (.iload_n 3, 1) := by decide +kernel
theorem dL_law_384 : decode cL_law 384 = .ok (.iconst 1, 1) := by decide +kernel
theorem dL_law_385 : decode cL_law 385 = .ok (.iadd, 1) := by decide +kernel
theorem dL_law_386 : decode cL_law 386 = .ok (.iaload, 1) := by decide +kernel
theorem dL_law_387 : decode cL_law 387 = .ok (.aload_n 0, 1) := by decide +kernel
theorem dL_law_388 : decode cL_law 388 = .ok (.iload_n 3, 1) := by decide +kernel
theorem dL_law_389 : decode cL_law 389 = .ok (.iconst 2, 1) := by decide +kernel
theorem dL_law_390 : decode cL_law 390 = .ok (.iadd, 1) := by decide +kernel
theorem dL_law_391 : decode cL_law 391 = .ok (.iaload, 1) := by decide +kernel
theorem dL_law_392 : decode cL_law 392 = .ok (.invokevirtual 39, 3) := by decide +kernel
theorem dL_law_395 : decode cL_law 395 = .ok (.aload_n 2, 1) := by decide +kernel
theorem dL_law_396 : decode cL_law 396 = .ok (.aload_n 0, 1) := by decide +kernel
theorem dL_law_397 : decode cL_law 397 = .ok (.iload_n 3, 1) := by decide +kernel
theorem dL_law_398 : decode cL_law 398 = .ok (.iconst 1, 1) := by decide +kernel
theorem dL_law_399 : decode cL_law 399 = .ok (.iadd, 1) := by decide +kernel
theorem dL_law_400 : decode cL_law 400 = .ok (.iaload, 1) := by decide +kernel
theorem dL_law_401 : decode cL_law 401 = .ok (.aload_n 0, 1) := by decide +kernel
theorem dL_law_402 : decode cL_law 402 = .ok (.iload_n 3, 1) := by decide +kernel
theorem dL_law_403 : decode cL_law 403 = .ok (.iconst 2, 1) := by decide +kernel
theorem dL_law_404 : decode cL_law 404 = .ok (.iadd, 1) := by decide +kernel
theorem dL_law_405 : decode cL_law 405 = .ok (.iaload, 1) := by decide +kernel
theorem dL_law_406 : decode cL_law 406 = .ok (.invokevirtual 43, 3) := by decide +kernel
theorem dL_law_409 : decode cL_law 409 = .ok (.lcmp, 1) := by decide +kernel
theorem dL_law_410 : decode cL_law 410 = .ok (.ifCond .eq 1199, 3) := by decide +kernel
theorem dL_law_413 : decode cL_law 413 = .ok (.iconst 0, 1) := by decide +kernel
theorem dL_law_414 : decode cL_law 414 = .ok (.ireturn, 1) := by decide +kernel
theorem dL_law_415 : decode cL_law 415 = .ok (.aload_n 1, 1) := by decide +kernel
theorem dL_law_416 : decode cL_law 416 = .ok (.aload_n 0, 1) := by decide +kernel
theorem dL_law_417 : decode cL_law 417 = .ok (.iload_n 3, 1) := by decide +kernel
theorem dL_law_418 : decode cL_law 418 = .ok (.iconst 1, 1) := by decide +kernel
theorem dL_law_419 : decode cL_law 419 = .ok (.iadd, 1) := by decide +kernel
theorem dL_law_420 : decode cL_law 420 = .ok (.iaload, 1) := by decide +kernel
theorem dL_law_421 : decode cL_law 421 = .ok (.aload_n 0, 1) := by decide +kernel
theorem dL_law_422 : decode cL_law 422 = .ok (.iload_n 3, 1) := by decide +kernel
theorem dL_law_423 : decode cL_law 423 = .ok (.iconst 2, 1) := by decide +kernel
theorem dL_law_424 : decode cL_law 424 = .ok (.iadd, 1) := by decide +kernel
theorem dL_law_425 : decode cL_law 425 = .ok (.iaload, 1) := by decide +kernel
theorem dL_law_426 : decode cL_law 426 = .ok (.aload_n 0, 1) := by decide +kernel
theorem dL_law_427 : decode cL_law 427 = .ok (.iload_n 3, 1) := by decide +kernel
theorem dL_law_428 : decode cL_law 428 = .ok (.iconst 3, 1) := by decide +kernel
theorem dL_law_429 : decode cL_law 429 = .ok (.iadd, 1) := by decide +kernel
theorem dL_law_430 : decode cL_law 430 = .ok (.iaload, 1) := by decide +kernel
theorem dL_law_431 : decode cL_law 431 = .ok (.aload_n 0, 1) := by decide +kernel
theorem dL_law_432 : decode cL_law 432 = .ok (.iload_n 3, 1) := by decide +kernel
theorem dL_law_433 : decode cL_law 433 = .ok (.iconst 4, 1) := by decide +kernel
theorem dL_law_434 : decode cL_law 434 = .ok (.iadd, 1) := by decide +kernel
theorem dL_law_435 : decode cL_law 435 = .ok (.iaload, 1) := by decide +kernel
theorem dL_law_436 : decode cL_law 436 = .ok (.aload_n 0, 1) := by decide +kernel
theorem dL_law_437 : decode cL_law 437 = .ok (.iload_n 3, 1) := by decide +kernel
theorem dL_law_438 : decode cL_law 438 = .ok (.iconst 5, 1) := by decide +kernel
theorem dL_law_439 : decode cL_law 439 = .ok (.iadd, 1) := by decide +kernel
theorem dL_law_440 : decode cL_law 440 = .ok (.iaload, 1) := by decide +kernel
theorem dL_law_441 : decode cL_law 441 = .ok (.invokevirtual 44, 3) := by decide +kernel
theorem dL_law_444 : decode cL_law 444 = .ok (.aload_n 2, 1) := by decide +kernel
theorem dL_law_445 : decode cL_law 445 = .ok (.aload_n 0, 1) := by decide +kernel
theorem dL_law_446 : decode cL_law 446 = .ok (.iload_n 3, 1) := by decide +kernel
theorem dL_law_447 : decode cL_law 447 = .ok (.iconst 1, 1) := by decide +kernel
theorem dL_law_448 : decode cL_law 448 = .ok (.iadd, 1) := by decide +kernel
theorem dL_law_449 : decode cL_law 449 = .ok (.iaload, 1) := by decide +kernel
theorem dL_law_450 : decode cL_law 450 = .ok (.aload_n 0, 1) := by decide +kernel
theorem dL_law_451 : decode cL_law 451 = .ok (.iload_n 3, 1) := by decide +kernel
theorem dL_law_452 : decode cL_law 452 = .ok (.iconst 2, 1) := by decide +kernel
theorem dL_law_453 : decode cL_law 453 = .ok (.iadd, 1) := by decide +kernel
theorem dL_law_454 : decode cL_law 454 = .ok (.iaload, 1) := by decide +kernel
theorem dL_law_455 : decode cL_law 455 = .ok (.aload_n 0, 1) := by decide +kernel
theorem dL_law_456 : decode cL_law 456 = .ok (.iload_n 3, 1) := by decide +kernel
theorem dL_law_457 : decode cL_law 457 = .ok (.iconst 3, 1) := by decide +kernel
theorem dL_law_458 : decode cL_law 458 = .ok (.iadd, 1) := by decide +kernel
theorem dL_law_459 : decode cL_law 459 = .ok (.iaload, 1) := by decide +kernel
theorem dL_law_460 : decode cL_law 460 = .ok (.aload_n 0, 1) := by decide +kernel
theorem dL_law_461 : decode cL_law 461 = .ok (.iload_n 3, 1) := by decide +kernel
theorem dL_law_462 : decode cL_law 462 = .ok (.iconst 4, 1) := by decide +kernel
theorem dL_law_463 : decode cL_law 463 = .ok (.iadd, 1) := by decide +kernel
theorem dL_law_464 : decode cL_law 464 = .ok (.iaload, 1) := by decide +kernel
theorem dL_law_465 : decode cL_law 465 = .ok (.aload_n 0, 1) := by decide +kernel
theorem dL_law_466 : decode cL_law 466 = .ok (.iload_n 3, 1) := by decide +kernel
theorem dL_law_467 : decode cL_law 467 = .ok (.iconst 5, 1) := by decide +kernel
theorem dL_law_468 : decode cL_law 468 = .ok (.iadd, 1) := by decide +kernel
theorem dL_law_469 : decode cL_law 469 = .ok (.iaload, 1) := by decide +kernel
theorem dL_law_470 : decode cL_law 470 = .ok (.invokevirtual 48, 3) := by decide +kernel
theorem dL_law_473 : decode cL_law 473 = .ok (.if_icmp .eq 1136, 3) := by decide +kernel
theorem dL_law_476 : decode cL_law 476 = .ok (.iconst 0, 1) := by decide +kernel
theorem dL_law_477 : decode cL_law 477 = .ok (.ireturn, 1) := by decide +kernel
theorem dL_law_478 : decode cL_law 478 = .ok (.aload_n 1, 1) := by decide +kernel
theorem dL_law_479 : decode cL_law 479 = .ok (.aload_n 0, 1) := by decide +kernel
theorem dL_law_480 : decode cL_law 480 = .ok (.iload_n 3, 1) := by decide +kernel
theorem dL_law_481 : decode cL_law 481 = .ok (.iconst 1, 1) := by decide +kernel
theorem dL_law_482 : decode cL_law 482 = .ok (.iadd, 1) := by decide +kernel
theorem dL_law_483 : decode cL_law 483 = .ok (.iaload, 1) := by decide +kernel
theorem dL_law_484 : decode cL_law 484 = .ok (.aload_n 0, 1) := by decide +kernel
theorem dL_law_485 : decode cL_law 485 = .ok (.iload_n 3, 1) := by decide +kernel
theorem dL_law_486 : decode cL_law 486 = .ok (.iconst 2, 1) := by decide +kernel
theorem dL_law_487 : decode cL_law 487 = .ok (.iadd, 1) := by decide +kernel
theorem dL_law_488 : decode cL_law 488 = .ok (.iaload, 1) := by decide +kernel
theorem dL_law_489 : decode cL_law 489 = .ok (.aload_n 0, 1) := by decide +kernel
theorem dL_law_490 : decode cL_law 490 = .ok (.iload_n 3, 1) := by decide +kernel
theorem dL_law_491 : decode cL_law 491 = .ok (.iconst 3, 1) := by decide +kernel
theorem dL_law_492 : decode cL_law 492 = .ok (.iadd, 1) := by decide +kernel
theorem dL_law_493 : decode cL_law 493 = .ok (.iaload, 1) := by decide +kernel
theorem dL_law_494 : decode cL_law 494 = .ok (.aload_n 0, 1) := by decide +kernel
theorem dL_law_495 : decode cL_law 495 = .ok (.iload_n 3, 1) := by decide +kernel
theorem dL_law_496 : decode cL_law 496 = .ok (.iconst 4, 1) := by decide +kernel
theorem dL_law_497 : decode cL_law 497 = .ok (.iadd, 1) := by decide +kernel
theorem dL_law_498 : decode cL_law 498 = .ok (.iaload, 1) := by decide +kernel
theorem dL_law_499 : decode cL_law 499 = .ok (.aload_n 0, 1) := by decide +kernel
theorem dL_law_500 : decode cL_law 500 = .ok (.iload_n 3, 1) := by decide +kernel
theorem dL_law_501 : decode cL_law 501 = .ok (.iconst 5, 1) := by decide +kernel
theorem dL_law_502 : decode cL_law 502 = .ok (.iadd, 1) := by decide +kernel
theorem dL_law_503 : decode cL_law 503 = .ok (.iaload, 1) := by decide +kernel
theorem dL_law_504 : decode cL_law 504 = .ok (.invokevirtual 49, 3) := by decide +kernel
theorem dL_law_507 : decode cL_law 507 = .ok (.aload_n 2, 1) := by decide +kernel
theorem dL_law_508 : decode cL_law 508 = .ok (.aload_n 0, 1) := by decide +kernel
theorem dL_law_509 : decode cL_law 509 = .ok (.iload_n 3, 1) := by decide +kernel
theorem dL_law_510 : decode cL_law 510 = .ok (.iconst 1, 1) := by decide +kernel
theorem dL_law_511 : decode cL_law 511 = .ok (.iadd, 1) := by decide +kernel
theorem dL_law_512 : decode cL_law 512 = .ok (.iaload, 1) := by decide +kernel
theorem dL_law_513 : decode cL_law 513 = .ok (.aload_n 0, 1) := by decide +kernel
theorem dL_law_514 : decode cL_law 514 = .ok (.iload_n 3, 1) := by decide +kernel
theorem dL_law_515 : decode cL_law 515 = .ok (.iconst 2, 1) := by decide +kernel
theorem dL_law_516 : decode cL_law 516 = .ok (.iadd, 1) := by decide +kernel
theorem dL_law_517 : decode cL_law 517 = .ok (.iaload, 1) := by decide +kernel
theorem dL_law_518 : decode cL_law 518 = .ok (.aload_n 0, 1) := by decide +kernel
theorem dL_law_519 : decode cL_law 519 = .ok (.iload_n 3, 1) := by decide +kernel
theorem dL_law_520 : decode cL_law 520 = .ok (.iconst 3, 1) := by decide +kernel
theorem dL_law_521 : decode cL_law 521 = .ok (.iadd, 1) := by decide +kernel
theorem dL_law_522 : decode cL_law 522 = .ok (.iaload, 1) := by decide +kernel
theorem dL_law_523 : decode cL_law 523 = .ok (.aload_n 0, 1) := by decide +kernel
theorem dL_law_524 : decode cL_law 524 = .ok (.iload_n 3, 1) := by decide +kernel
theorem dL_law_525 : decode cL_law 525 = .ok (.iconst 4, 1) := by decide +kernel
theorem dL_law_526 : decode cL_law 526 = .ok (.iadd, 1) := by decide +kernel
theorem dL_law_527 : decode cL_law 527 = .ok (.iaload, 1) := by decide +kernel
theorem dL_law_528 : decode cL_law 528 = .ok (.aload_n 0, 1) := by decide +kernel
theorem dL_law_529 : decode cL_law 529 = .ok (.iload_n 3, 1) := by decide +kernel
theorem dL_law_530 : decode cL_law 530 = .ok (.iconst 5, 1) := by decide +kernel
theorem dL_law_531 : decode cL_law 531 = .ok (.iadd, 1) := by decide +kernel
theorem dL_law_532 : decode cL_law 532 = .ok (.iaload, 1) := by decide +kernel
theorem dL_law_533 : decode cL_law 533 = .ok (.invokevirtual 53, 3) := by decide +kernel
theorem dL_law_536 : decode cL_law 536 = .ok (.if_icmp .eq 1073, 3) := by decide +kernel
theorem dL_law_539 : decode cL_law 539 = .ok (.iconst 0, 1) := by decide +kernel
theorem dL_law_540 : decode cL_law 540 = .ok (.ireturn, 1) := by decide +kernel
theorem dL_law_541 : decode cL_law 541 = .ok (.aload_n 1, 1) := by decide +kernel
theorem dL_law_542 : decode cL_law 542 = .ok (.aload_n 0, 1) := by decide +kernel
theorem dL_law_543 : decode cL_law 543 = .ok (.iload_n 3, 1) := by decide +kernel
theorem dL_law_544 : decode cL_law 544 = .ok (.iconst 1, 1) := by decide +kernel
theorem dL_law_545 : decode cL_law 545 = .ok (.iadd, 1) := by decide +kernel
theorem dL_law_546 : decode cL_law 546 = .ok (.iaload, 1) := by decide +kernel
theorem dL_law_547 : decode cL_law 547 = .ok (.invokevirtual 54, 3) := by decide +kernel
theorem dL_law_550 : decode cL_law 550 = .ok (.aload_n 2, 1) := by decide +kernel
theorem dL_law_551 : decode cL_law 551 = .ok (.aload_n 0, 1) := by decide +kernel
theorem dL_law_552 : decode cL_law 552 = .ok (.iload_n 3, 1) := by decide +kernel
theorem dL_law_553 : decode cL_law 553 = .ok (.iconst 1, 1) := by decide +kernel
theorem dL_law_554 : decode cL_law 554 = .ok (.iadd, 1) := by decide +kernel
theorem dL_law_555 : decode cL_law 555 = .ok (.iaload, 1) := by decide +kernel
theorem dL_law_556 : decode cL_law 556 = .ok (.invokevirtual 58, 3) := by decide +kernel
theorem dL_law_559 : decode cL_law 559 = .ok (.if_icmp .eq 1050, 3) := by decide +kernel
theorem dL_law_562 : decode cL_law 562 = .ok (.iconst 0, 1) := by decide +kernel
theorem dL_law_563 : decode cL_law 563 = .ok (.ireturn, 1) := by decide +kernel
theorem dL_law_564 : decode cL_law 564 = .ok (.aload_n 1, 1) := by decide +kernel
theorem dL_law_565 : decode cL_law 565 = .ok (.aload_n 0, 1) := by decide +kernel
theorem dL_law_566 : decode cL_law 566 = .ok (.iload_n 3, 1) := by decide +kernel
theorem dL_law_567 : decode cL_law 567 = .ok (.iconst 1, 1) := by decide +kernel
theorem dL_law_568 : decode cL_law 568 = .ok (.iadd, 1) := by decide +kernel
theorem dL_law_569 : decode cL_law 569 = .ok (.iaload, 1) := by decide +kernel
theorem dL_law_570 : decode cL_law 570 = .ok (.invokevirtual 59, 3) := by decide +kernel
theorem dL_law_573 : decode cL_law 573 = .ok (.aload_n 2, 1) := by decide +kernel
theorem dL_law_574 : decode cL_law 574 = .ok (.aload_n 0, 1) := by decide +kernel
theorem dL_law_575 : decode cL_law 575 = .ok (.iload_n 3, 1) := by decide +kernel
theorem dL_law_576 : decode cL_law 576 = .ok (.iconst 1, 1) := by decide +kernel
theorem dL_law_577 : decode cL_law 577 = .ok (.iadd, 1) := by decide +kernel
theorem dL_law_578 : decode cL_law 578 = .ok (.iaload, 1) := by decide +kernel
theorem dL_law_579 : decode cL_law 579 = .ok (.invokevirtual 62, 3) := by decide +kernel
theorem dL_law_582 : decode cL_law 582 = .ok (.if_icmp .eq 1027, 3) := by decide +kernel
theorem dL_law_585 : decode cL_law 585 = .ok (.iconst 0, 1) := by decide +kernel
theorem dL_law_586 : decode cL_law 586 = .ok (.ireturn, 1) := by decide +kernel
theorem dL_law_587 : decode cL_law 587 = .ok (.aload_n 1, 1) := by decide +kernel
theorem dL_law_588 : decode cL_law 588 = .ok (.aload_n 0, 1) := by decide +kernel
theorem dL_law_589 : decode cL_law 589 = .ok (.iload_n 3, 1) := by decide +kernel
theorem dL_law_590 : decode cL_law 590 = .ok (.iconst 1, 1) := by decide +kernel
theorem dL_law_591 : decode cL_law 591 = .ok (.iadd, 1) := by decide +kernel
theorem dL_law_592 : decode cL_law 592 = .ok (.iaload, 1) := by decide +kernel
theorem dL_law_593 : decode cL_law 593 = .ok (.invokevirtual 63, 3) := by decide +kernel
theorem dL_law_596 : decode cL_law 596 = .ok (.aload_n 2, 1) := by decide +kernel
theorem dL_law_597 : decode cL_law 597 = .ok (.aload_n 0, 1) := by decide +kernel
theorem dL_law_598 : decode cL_law 598 = .ok (.iload_n 3, 1) := by decide +kernel
theorem dL_law_599 : decode cL_law 599 = .ok (.iconst 1, 1) := by decide +kernel
theorem dL_law_600 : decode cL_law 600 = .ok (.iadd, 1) := by decide +kernel
theorem dL_law_601 : decode cL_law 601 = .ok (.iaload, 1) := by decide +kernel
theorem dL_law_602 : decode cL_law 602 = .ok (.invokevirtual 66, 3) := by decide +kernel
theorem dL_law_605 : decode cL_law 605 = .ok (.if_icmp .eq 1004, 3) := by decide +kernel
theorem dL_law_608 : decode cL_law 608 = .ok (.iconst 0, 1) := by decide +kernel
theorem dL_law_609 : decode cL_law 609 = .ok (.ireturn, 1) := by decide +kernel
theorem dL_law_610 : decode cL_law 610 = .ok (.aload_n 1, 1) := by decide +kernel
theorem dL_law_611 : decode cL_law 611 = .ok (.aload_n 0, 1) := by decide +kernel
theorem dL_law_612 : decode cL_law 612 = .ok (.iload_n 3, 1) := by decide +kernel
theorem dL_law_613 : decode cL_law 613 = .ok (.iconst 1, 1) := by decide +kernel
theorem dL_law_614 : decode cL_law 614 = .ok (.iadd, 1) := by decide +kernel
theorem dL_law_615 : decode cL_law 615 = .ok (.iaload, 1) := by decide +kernel
theorem dL_law_616 : decode cL_law 616 = .ok (.invokevirtual 67, 3) := by decide +kernel
theorem dL_law_619 : decode cL_law 619 = .ok (.aload_n 2, 1) := by decide +kernel
theorem dL_law_620 : decode cL_law 620 = .ok (.aload_n 0, 1) := by decide +kernel
theorem dL_law_621 : decode cL_law 621 = .ok (.iload_n 3, 1) := by decide +kernel
theorem dL_law_622 : decode cL_law 622 = .ok (.iconst 1, 1) := by decide +kernel
theorem dL_law_623 : decode cL_law 623 = .ok (.iadd, 1) := by decide +kernel
theorem dL_law_624 : decode cL_law 624 = .ok (.iaload, 1) := by decide +kernel
theorem dL_law_625 : decode cL_law 625 = .ok (.invokevirtual 70, 3) := by decide +kernel
theorem dL_law_628 : decode cL_law 628 = .ok (.if_icmp .eq 981, 3) := by decide +kernel
theorem dL_law_631 : decode cL_law 631 = .ok (.iconst 0, 1) := by decide +kernel
theorem dL_law_632 : decode cL_law 632 = .ok (.ireturn, 1) := by decide +kernel
theorem dL_law_633 : decode cL_law 633 = .ok (.aload_n 1, 1) := by decide +kernel
theorem dL_law_634 : decode cL_law 634 = .ok (.aload_n 0, 1) := by decide +kernel
theorem dL_law_635 : decode cL_law 635 = .ok (.iload_n 3, 1) := by decide +kernel
theorem dL_law_636 : decode cL_law 636 = .ok (.iconst 1, 1) := by decide +kernel
theorem dL_law_637 : decode cL_law 637 = .ok (.iadd, 1) := by decide +kernel
theorem dL_law_638 : decode cL_law 638 = .ok (.iaload, 1) := by decide +kernel
theorem dL_law_639 : decode cL_law 639 = .ok (.invokevirtual 71, 3) := by decide +kernel
theorem dL_law_642 : decode cL_law 642 = .ok (.aload_n 2, 1) := by decide +kernel
theorem dL_law_643 : decode cL_law 643 = .ok (.aload_n 0, 1) := by decide +kernel
theorem dL_law_644 : decode cL_law 644 = .ok (.iload_n 3, 1) := by decide +kernel
theorem dL_law_645 : decode cL_law 645 = .ok (.iconst 1, 1) := by decide +kernel
theorem dL_law_646 : decode cL_law 646 = .ok (.iadd, 1) := by decide +kernel
theorem dL_law_647 : decode cL_law 647 = .ok (.iaload, 1) := by decide +kernel
theorem dL_law_648 : decode cL_law 648 = .ok (.invokevirtual 74, 3) := by decide +kernel
theorem dL_law_651 : decode cL_law 651 = .ok (.if_icmp .eq 958, 3) := by decide +kernel
theorem dL_law_654 : decode cL_law 654 = .ok (.iconst 0, 1) := by decide +kernel
theorem dL_law_655 : decode cL_law 655 = .ok (.ireturn, 1) := by decide +kernel
theorem dL_law_656 : decode cL_law 656 = .ok (.aload_n 1, 1) := by decide +kernel
theorem dL_law_657 : decode cL_law 657 = .ok (.aload_n 0, 1) := by decide +kernel
theorem dL_law_658 : decode cL_law 658 = .ok (.iload_n 3, 1) := by decide +kernel
theorem dL_law_659 : decode cL_law 659 = .ok (.iconst 1, 1) := by decide +kernel
theorem dL_law_660 : decode cL_law 660 = .ok (.iadd, 1) := by decide +kernel
theorem dL_law_661 : decode cL_law 661 = .ok (.iaload, 1) := by decide +kernel
theorem dL_law_662 : decode cL_law 662 = .ok (.aload_n 0, 1) := by decide +kernel
theorem dL_law_663 : decode cL_law 663 = .ok (.iload_n 3, 1) := by decide +kernel
theorem dL_law_664 : decode cL_law 664 = .ok (.iconst 2, 1) := by decide +kernel
theorem dL_law_665 : decode cL_law 665 = .ok (.iadd, 1) := by decide +kernel
theorem dL_law_666 : decode cL_law 666 = .ok (.iaload, 1) := by decide +kernel
theorem dL_law_667 : decode cL_law 667 = .ok (.invokevirtual 75, 3) := by decide +kernel
theorem dL_law_670 : decode cL_law 670 = .ok (.aload_n 2, 1) := by decide +kernel
theorem dL_law_671 : decode cL_law 671 = .ok (.aload_n 0, 1) := by decide +kernel
theorem dL_law_672 : decode cL_law 672 = .ok (.iload_n 3, 1) := by decide +kernel
theorem dL_law_673 : decode cL_law 673 = .ok (.iconst 1, 1) := by decide +kernel
theorem dL_law_674 : decode cL_law 674 = .ok (.iadd, 1) := by decide +kernel
theorem dL_law_675 : decode cL_law 675 = .ok (.iaload, 1) := by decide +kernel
theorem dL_law_676 : decode cL_law 676 = .ok (.aload_n 0, 1) := by decide +kernel
theorem dL_law_677 : decode cL_law 677 = .ok (.iload_n 3, 1) := by decide +kernel
theorem dL_law_678 : decode cL_law 678 = .ok (.iconst 2, 1) := by decide +kernel
theorem dL_law_679 : decode cL_law 679 = .ok (.iadd, 1) := by decide +kernel
theorem dL_law_680 : decode cL_law 680 = .ok (.iaload, 1) := by decide +kernel
theorem dL_law_681 : decode cL_law 681 = .ok (.invokevirtual 79, 3) := by decide +kernel
theorem dL_law_684 : decode cL_law 684 = .ok (.if_icmp .eq 925, 3) := by decide +kernel
theorem dL_law_687 : decode cL_law 687 = .ok (.iconst 0, 1) := by decide +kernel
theorem dL_law_688 : decode cL_law 688 = .ok (.ireturn, 1) := by decide +kernel
theorem dL_law_689 : decode cL_law 689 = .ok (.aload_n 1, 1) := by decide +kernel
theorem dL_law_690 : decode cL_law 690 = .ok (.aload_n 0, 1) := by decide +kernel
theorem dL_law_691 : decode cL_law 691 = .ok (.iload_n 3, 1) := by decide +kernel
theorem dL_law_692 : decode cL_law 692 = .ok (.iconst 1, 1) := by decide +kernel
theorem dL_law_693 : decode cL_law 693 = .ok (.iadd, 1) := by decide +kernel
theorem dL_law_694 : decode cL_law 694 = .ok (.iaload, 1) := by decide +kernel
theorem dL_law_695 : decode cL_law 695 = .ok (.aload_n 0, 1) := by decide +kernel
theorem dL_law_696 : decode cL_law 696 = .ok (.iload_n 3, 1) := by decide +kernel
theorem dL_law_697 : decode cL_law 697 = .ok (.iconst 2, 1) := by decide +kernel
theorem dL_law_698 : decode cL_law 698 = .ok (.iadd, 1) := by decide +kernel
theorem dL_law_699 : decode cL_law 699 = .ok (.iaload, 1) := by decide +kernel
theorem dL_law_700 : decode cL_law 700 = .ok (.invokevirtual 80, 3) := by decide +kernel
theorem dL_law_703 : decode cL_law 703 = .ok (.aload_n 2, 1) := by decide +kernel
theorem dL_law_704 : decode cL_law 704 = .ok (.aload_n 0, 1) := by decide +kernel
theorem dL_law_705 : decode cL_law 705 = .ok (.iload_n 3, 1) := by decide +kernel
theorem dL_law_706 : decode cL_law 706 = .ok (.iconst 1, 1) := by decide +kernel
theorem dL_law_707 : decode cL_law 707 = .ok (.iadd, 1) := by decide +kernel
theorem dL_law_708 : decode cL_law 708 = .ok (.iaload, 1) := by decide +kernel
theorem dL_law_709 : decode cL_law 709 = .ok (.aload_n 0, 1) := by decide +kernel
theorem dL_law_710 : decode cL_law 710 = .ok (.iload_n 3, 1) := by decide +kernel
theorem dL_law_711 : decode cL_law 711 = .ok (.iconst 2, 1) := by decide +kernel
theorem dL_law_712 : decode cL_law 712 = .ok (.iadd, 1) := by decide +kernel
theorem dL_law_713 : decode cL_law 713 = .ok (.iaload, 1) := by decide +kernel
theorem dL_law_714 : decode cL_law 714 = .ok (.invokevirtual 83, 3) := by decide +kernel
theorem dL_law_717 : decode cL_law 717 = .ok (.if_icmp .eq 892, 3) := by decide +kernel
theorem dL_law_720 : decode cL_law 720 = .ok (.iconst 0, 1) := by decide +kernel
theorem dL_law_721 : decode cL_law 721 = .ok (.ireturn, 1) := by decide +kernel
theorem dL_law_722 : decode cL_law 722 = .ok (.aload_n 1, 1) := by decide +kernel
theorem dL_law_723 : decode cL_law 723 = .ok (.aload_n 0, 1) := by decide +kernel
theorem dL_law_724 : decode cL_law 724 = .ok (.iload_n 3, 1) := by decide +kernel
theorem dL_law_725 : decode cL_law 725 = .ok (.iconst 1, 1) := by decide +kernel
theorem dL_law_726 : decode cL_law 726 = .ok (.iadd, 1) := by decide +kernel
theorem dL_law_727 : decode cL_law 727 = .ok (.iaload, 1) := by decide +kernel
theorem dL_law_728 : decode cL_law 728 = .ok (.aload_n 0, 1) := by decide +kernel
theorem dL_law_729 : decode cL_law 729 = .ok (.iload_n 3, 1) := by decide +kernel
theorem dL_law_730 : decode cL_law 730 = .ok (.iconst 2, 1) := by decide +kernel
theorem dL_law_731 : decode cL_law 731 = .ok (.iadd, 1) := by decide +kernel
theorem dL_law_732 : decode cL_law 732 = .ok (.iaload, 1) := by decide +kernel
theorem dL_law_733 : decode cL_law 733 = .ok (.invokevirtual 84, 3) := by decide +kernel
theorem dL_law_736 : decode cL_law 736 = .ok (.aload_n 2, 1) := by decide +kernel
theorem dL_law_737 : decode cL_law 737 = .ok (.aload_n 0, 1) := by decide +kernel
theorem dL_law_738 : decode cL_law 738 = .ok (.iload_n 3, 1) := by decide +kernel
theorem dL_law_739 : decode cL_law 739 = .ok (.iconst 1, 1) := by decide +kernel
theorem dL_law_740 : decode cL_law 740 = .ok (.iadd, 1) := by decide +kernel
theorem dL_law_741 : decode cL_law 741 = .ok (.iaload, 1) := by decide +kernel
theorem dL_law_742 : decode cL_law 742 = .ok (.aload_n 0, 1) := by decide +kernel
theorem dL_law_743 : decode cL_law 743 = .ok (.iload_n 3, 1) := by decide +kernel
theorem dL_law_744 : decode cL_law 744 = .ok (.iconst 2, 1) := by decide +kernel
theorem dL_law_745 : decode cL_law 745 = .ok (.iadd, 1) := by decide +kernel
theorem dL_law_746 : decode cL_law 746 = .ok (.iaload, 1) := by decide +kernel
theorem dL_law_747 : decode cL_law 747 = .ok (.invokevirtual 87, 3) := by decide +kernel
theorem dL_law_750 : decode cL_law 750 = .ok (.if_icmp .eq 859, 3) := by decide +kernel
theorem dL_law_753 : decode cL_law 753 = .ok (.iconst 0, 1) := by decide +kernel
theorem dL_law_754 : decode cL_law 754 = .ok (.ireturn, 1) := by decide +kernel
theorem dL_law_755 : decode cL_law 755 = .ok (.aload_n 1, 1) := by decide +kernel
theorem dL_law_756 : decode cL_law 756 = .ok (.aload_n 0, 1) := by decide +kernel
theorem dL_law_757 : decode cL_law 757 = .ok (.iload_n 3, 1) := by decide +kernel
theorem dL_law_758 : decode cL_law 758 = .ok (.iconst 1, 1) := by decide +kernel
theorem dL_law_759 : decode cL_law 759 = .ok (.iadd, 1) := by decide +kernel
theorem dL_law_760 : decode cL_law 760 = .ok (.iaload, 1) := by decide +kernel
theorem dL_law_761 : decode cL_law 761 = .ok (.aload_n 0, 1) := by decide +kernel
theorem dL_law_762 : decode cL_law 762 = .ok (.iload_n 3, 1) := by decide +kernel
theorem dL_law_763 : decode cL_law 763 = .ok (.iconst 2, 1) := by decide +kernel
theorem dL_law_764 : decode cL_law 764 = .ok (.iadd, 1) := by decide +kernel
theorem dL_law_765 : decode cL_law 765 = .ok (.iaload, 1) := by decide +kernel
theorem dL_law_766 : decode cL_law 766 = .ok (.invokevirtual 88, 3) := by decide +kernel
theorem dL_law_769 : decode cL_law 769 = .ok (.aload_n 2, 1) := by decide +kernel
theorem dL_law_770 : decode cL_law 770 = .ok (.aload_n 0, 1) := by decide +kernel
theorem dL_law_771 : decode cL_law 771 = .ok (.iload_n 3, 1) := by decide +kernel
theorem dL_law_772 : decode cL_law 772 = .ok (.iconst 1, 1) := by decide +kernel
theorem dL_law_773 : decode cL_law 773 = .ok (.iadd, 1) := by decide +kernel
theorem dL_law_774 : decode cL_law 774 = .ok (.iaload, 1) := by decide +kernel
theorem dL_law_775 : decode cL_law 775 = .ok (.aload_n 0, 1) := by decide +kernel
theorem dL_law_776 : decode cL_law 776 = .ok (.iload_n 3, 1) := by decide +kernel
theorem dL_law_777 : decode cL_law 777 = .ok (.iconst 2, 1) := by decide +kernel
theorem dL_law_778 : decode cL_law 778 = .ok (.iadd, 1) := by decide +kernel
theorem dL_law_779 : decode cL_law 779 = .ok (.iaload, 1) := by decide +kernel
theorem dL_law_780 : decode cL_law 780 = .ok (.invokevirtual 91, 3) := by decide +kernel
theorem dL_law_783 : decode cL_law 783 = .ok (.if_icmp .eq 826, 3) := by decide +kernel
theorem dL_law_786 : decode cL_law 786 = .ok (.iconst 0, 1) := by decide +kernel
theorem dL_law_787 : decode cL_law 787 = .ok (.ireturn, 1) := by decide +kernel
theorem dL_law_788 : decode cL_law 788 = .ok (.aload_n 1, 1) := by decide +kernel
theorem dL_law_789 : decode cL_law 789 = .ok (.aload_n 0, 1) := by decide +kernel
theorem dL_law_790 : decode cL_law 790 = .ok (.iload_n 3, 1) := by decide +kernel
theorem dL_law_791 : decode cL_law 791 = .ok (.iconst 1, 1) := by decide +kernel
theorem dL_law_792 : decode cL_law 792 = .ok (.iadd, 1) := by decide +kernel
theorem dL_law_793 : decode cL_law 793 = .ok (.iaload, 1) := by decide +kernel
theorem dL_law_794 : decode cL_law 794 = .ok (.aload_n 0, 1) := by decide +kernel
theorem dL_law_795 : decode cL_law 795 = .ok (.iload_n 3, 1) := by decide +kernel
theorem dL_law_796 : decode cL_law 796 = .ok (.iconst 2, 1) := by decide +kernel
theorem dL_law_797 : decode cL_law 797 = .ok (.iadd, 1) := by decide +kernel
theorem dL_law_798 : decode cL_law 798 = .ok (.iaload, 1) := by decide +kernel
theorem dL_law_799 : decode cL_law 799 = .ok (.aload_n 0, 1) := by decide +kernel
theorem dL_law_800 : decode cL_law 800 = .ok (.iload_n 3, 1) := by decide +kernel
theorem dL_law_801 : decode cL_law 801 = .ok (.iconst 3, 1) := by decide +kernel
theorem dL_law_802 : decode cL_law 802 = .ok (.iadd, 1) := by decide +kernel
theorem dL_law_803 : decode cL_law 803 = .ok (.iaload, 1) := by decide +kernel
theorem dL_law_804 : decode cL_law 804 = .ok (.aload_n 0, 1) := by decide +kernel
theorem dL_law_805 : decode cL_law 805 = .ok (.iload_n 3, 1) := by decide +kernel
theorem dL_law_806 : decode cL_law 806 = .ok (.iconst 4, 1) := by decide +kernel
theorem dL_law_807 : decode cL_law 807 = .ok (.iadd, 1) := by decide +kernel
theorem dL_law_808 : decode cL_law 808 = .ok (.iaload, 1) := by decide +kernel
theorem dL_law_809 : decode cL_law 809 = .ok (.aload_n 0, 1) := by decide +kernel
theorem dL_law_810 : decode cL_law 810 = .ok (.iload_n 3, 1) := by decide +kernel
theorem dL_law_811 : decode cL_law 811 = .ok (.iconst 5, 1) := by decide +kernel
theorem dL_law_812 : decode cL_law 812 = .ok (.iadd, 1) := by decide +kernel
theorem dL_law_813 : decode cL_law 813 = .ok (.iaload, 1) := by decide +kernel
theorem dL_law_814 : decode cL_law 814 = .ok (.invokevirtual 92, 3) := by decide +kernel
theorem dL_law_817 : decode cL_law 817 = .ok (.aload_n 2, 1) := by decide +kernel
theorem dL_law_818 : decode cL_law 818 = .ok (.aload_n 0, 1) := by decide +kernel
theorem dL_law_819 : decode cL_law 819 = .ok (.iload_n 3, 1) := by decide +kernel
theorem dL_law_820 : decode cL_law 820 = .ok (.iconst 1, 1) := by decide +kernel
theorem dL_law_821 : decode cL_law 821 = .ok (.iadd, 1) := by decide +kernel
theorem dL_law_822 : decode cL_law 822 = .ok (.iaload, 1) := by decide +kernel
theorem dL_law_823 : decode cL_law 823 = .ok (.aload_n 0, 1) := by decide +kernel
theorem dL_law_824 : decode cL_law 824 = .ok (.iload_n 3, 1) := by decide +kernel
theorem dL_law_825 : decode cL_law 825 = .ok (.iconst 2, 1) := by decide +kernel
theorem dL_law_826 : decode cL_law 826 = .ok (.iadd, 1) := by decide +kernel
theorem dL_law_827 : decode cL_law 827 = .ok (.iaload, 1) := by decide +kernel
theorem dL_law_828 : decode cL_law 828 = .ok (.aload_n 0, 1) := by decide +kernel
theorem dL_law_829 : decode cL_law 829 = .ok (.iload_n 3, 1) := by decide +kernel
theorem dL_law_830 : decode cL_law 830 = .ok (.iconst 3, 1) := by decide +kernel
theorem dL_law_831 : decode cL_law 831 = .ok (.iadd, 1) := by decide +kernel
theorem dL_law_832 : decode cL_law 832 = .ok (.iaload, 1) := by decide +kernel
theorem dL_law_833 : decode cL_law 833 = .ok (.aload_n 0, 1) := by decide +kernel
theorem dL_law_834 : decode cL_law 834 = .ok (.iload_n 3, 1) := by decide +kernel
theorem dL_law_835 : decode cL_law 835 = .ok (.iconst 4, 1) := by decide +kernel
theorem dL_law_836 : decode cL_law 836 = .ok (.iadd, 1) := by decide +kernel
theorem dL_law_837 : decode cL_law 837 = .ok (.iaload, 1) := by decide +kernel
theorem dL_law_838 : decode cL_law 838 = .ok (.aload_n 0, 1) := by decide +kernel
theorem dL_law_839 : decode cL_law 839 = .ok (.iload_n 3, 1) := by decide +kernel
theorem dL_law_840 : decode cL_law 840 = .ok (.iconst 5, 1) := by decide +kernel
theorem dL_law_841 : decode cL_law 841 = .ok (.iadd, 1) := by decide +kernel
theorem dL_law_842 : decode cL_law 842 = .ok (.iaload, 1) := by decide +kernel
theorem dL_law_843 : decode cL_law 843 = .ok (.invokevirtual 95, 3) := by decide +kernel
theorem dL_law_846 : decode cL_law 846 = .ok (.if_icmp .eq 763, 3) := by decide +kernel
theorem dL_law_849 : decode cL_law 849 = .ok (.iconst 0, 1) := by decide +kernel
theorem dL_law_850 : decode cL_law 850 = .ok (.ireturn, 1) := by decide +kernel
theorem dL_law_851 : decode cL_law 851 = .ok (.aload_n 1, 1) := by decide +kernel
theorem dL_law_852 : decode cL_law 852 = .ok (.aload_n 0, 1) := by decide +kernel
theorem dL_law_853 : decode cL_law 853 = .ok (.iload_n 3, 1) := by decide +kernel
theorem dL_law_854 : decode cL_law 854 = .ok (.iconst 1, 1) := by decide +kernel
theorem dL_law_855 : decode cL_law 855 = .ok (.iadd, 1) := by decide +kernel
theorem dL_law_856 : decode cL_law 856 = .ok (.iaload, 1) := by decide +kernel
theorem dL_law_857 : decode cL_law 857 = .ok (.aload_n 0, 1) := by decide +kernel
theorem dL_law_858 : decode cL_law 858 = .ok (.iload_n 3, 1) := by decide +kernel
theorem dL_law_859 : decode cL_law 859 = .ok (.iconst 2, 1) := by decide +kernel
theorem dL_law_860 : decode cL_law 860 = .ok (.iadd, 1) := by decide +kernel
theorem dL_law_861 : decode cL_law 861 = .ok (.iaload, 1) := by decide +kernel
theorem dL_law_862 : decode cL_law 862 = .ok (.invokevirtual 96, 3) := by decide +kernel
theorem dL_law_865 : decode cL_law 865 = .ok (.aload_n 2, 1) := by decide +kernel
theorem dL_law_866 : decode cL_law 866 = .ok (.aload_n 0, 1) := by decide +kernel
theorem dL_law_867 : decode cL_law 867 = .ok (.iload_n 3, 1) := by decide +kernel
theorem dL_law_868 : decode cL_law 868 = .ok (.iconst 1, 1) := by decide +kernel
theorem dL_law_869 : decode cL_law 869 = .ok (.iadd, 1) := by decide +kernel
theorem dL_law_870 : decode cL_law 870 = .ok (.iaload, 1) := by decide +kernel
theorem dL_law_871 : decode cL_law 871 = .ok (.aload_n 0, 1) := by decide +kernel
theorem dL_law_872 : decode cL_law 872 = .ok (.iload_n 3, 1) := by decide +kernel
theorem dL_law_873 : decode cL_law 873 = .ok (.iconst 2, 1) := by decide +kernel
theorem dL_law_874 : decode cL_law 874 = .ok (.iadd, 1) := by decide +kernel
theorem dL_law_875 : decode cL_law 875 = .ok (.iaload, 1) := by decide +kernel
theorem dL_law_876 : decode cL_law 876 = .ok (.invokevirtual 99, 3) := by decide +kernel
theorem dL_law_879 : decode cL_law 879 = .ok (.if_icmp .eq 730, 3) := by decide +kernel
theorem dL_law_882 : decode cL_law 882 = .ok (.iconst 0, 1) := by decide +kernel
theorem dL_law_883 : decode cL_law 883 = .ok (.ireturn, 1) := by decide +kernel
theorem dL_law_884 : decode cL_law 884 = .ok (.aload_n 1, 1) := by decide +kernel
theorem dL_law_885 : decode cL_law 885 = .ok (.aload_n 0, 1) := by decide +kernel
theorem dL_law_886 : decode cL_law 886 = .ok (.iload_n 3, 1) := by decide +kernel
theorem dL_law_887 : decode cL_law 887 = .ok (.iconst 1, 1) := by decide +kernel
theorem dL_law_888 : decode cL_law 888 = .ok (.iadd, 1) := by decide +kernel
theorem dL_law_889 : decode cL_law 889 = .ok (.iaload, 1) := by decide +kernel
theorem dL_law_890 : decode cL_law 890 = .ok (.aload_n 0, 1) := by decide +kernel
theorem dL_law_891 : decode cL_law 891 = .ok (.iload_n 3, 1) := by decide +kernel
theorem dL_law_892 : decode cL_law 892 = .ok (.iconst 2, 1) := by decide +kernel
theorem dL_law_893 : decode cL_law 893 = .ok (.iadd, 1) := by decide +kernel
theorem dL_law_894 : decode cL_law 894 = .ok (.iaload, 1) := by decide +kernel
theorem dL_law_895 : decode cL_law 895 = .ok (.aload_n 0, 1) := by decide +kernel
theorem dL_law_896 : decode cL_law 896 = .ok (.iload_n 3, 1) := by decide +kernel
theorem dL_law_897 : decode cL_law 897 = .ok (.iconst 3, 1) := by decide +kernel
theorem dL_law_898 : decode cL_law 898 = .ok (.iadd, 1) := by decide +kernel
theorem dL_law_899 : decode cL_law 899 = .ok (.iaload, 1) := by decide +kernel
theorem dL_law_900 : decode cL_law 900 = .ok (.invokevirtual 100, 3) := by decide +kernel
theorem dL_law_903 : decode cL_law 903 = .ok (.aload_n 2, 1) := by decide +kernel
theorem dL_law_904 : decode cL_law 904 = .ok (.aload_n 0, 1) := by decide +kernel
theorem dL_law_905 : decode cL_law 905 = .ok (.iload_n 3, 1) := by decide +kernel
theorem dL_law_906 : decode cL_law 906 = .ok (.iconst 1, 1) := by decide +kernel
theorem dL_law_907 : decode cL_law 907 = .ok (.iadd, 1) := by decide +kernel
theorem dL_law_908 : decode cL_law 908 = .ok (.iaload, 1) := by decide +kernel
theorem dL_law_909 : decode cL_law 909 = .ok (.aload_n 0, 1) := by decide +kernel
theorem dL_law_910 : decode cL_law 910 = .ok (.iload_n 3, 1) := by decide +kernel
theorem dL_law_911 : decode cL_law 911 = .ok (.iconst 2, 1) := by decide +kernel
theorem dL_law_912 : decode cL_law 912 = .ok (.iadd, 1) := by decide +kernel
theorem dL_law_913 : decode cL_law 913 = .ok (.iaload, 1) := by decide +kernel
theorem dL_law_914 : decode cL_law 914 = .ok (.aload_n 0, 1) := by decide +kernel
theorem dL_law_915 : decode cL_law 915 = .ok (.iload_n 3, 1) := by decide +kernel
theorem dL_law_916 : decode cL_law 916 = .ok (.iconst 3, 1) := by decide +kernel
theorem dL_law_917 : decode cL_law 917 = .ok (.iadd, 1) := by decide +kernel
theorem dL_law_918 : decode cL_law 918 = .ok (.iaload, 1) := by decide +kernel
theorem dL_law_919 : decode cL_law 919 = .ok (.invokevirtual 104, 3) := by decide +kernel
theorem dL_law_922 : decode cL_law 922 = .ok (.if_icmp .eq 687, 3) := by decide +kernel
theorem dL_law_925 : decode cL_law 925 = .ok (.iconst 0, 1) := by decide +kernel
theorem dL_law_926 : decode cL_law 926 = .ok (.ireturn, 1) := by decide +kernel
theorem dL_law_927 : decode cL_law 927 = .ok (.aload_n 1, 1) := by decide +kernel
theorem dL_law_928 : decode cL_law 928 = .ok (.aload_n 0, 1) := by decide +kernel
theorem dL_law_929 : decode cL_law 929 = .ok (.iload_n 3, 1) := by decide +kernel
theorem dL_law_930 : decode cL_law 930 = .ok (.iconst 1, 1) := by decide +kernel
theorem dL_law_931 : decode cL_law 931 = .ok (.iadd, 1) := by decide +kernel
theorem dL_law_932 : decode cL_law 932 = .ok (.iaload, 1) := by decide +kernel
theorem dL_law_933 : decode cL_law 933 = .ok (.aload_n 0, 1) := by decide +kernel
theorem dL_law_934 : decode cL_law 934 = .ok (.iload_n 3, 1) := by decide +kernel
theorem dL_law_935 : decode cL_law 935 = .ok (.iconst 2, 1) := by decide +kernel
theorem dL_law_936 : decode cL_law 936 = .ok (.iadd, 1) := by decide +kernel
theorem dL_law_937 : decode cL_law 937 = .ok (.iaload, 1) := by decide +kernel
theorem dL_law_938 : decode cL_law 938 = .ok (.invokevirtual 105, 3) := by decide +kernel
theorem dL_law_941 : decode cL_law 941 = .ok (.aload_n 2, 1) := by decide +kernel
theorem dL_law_942 : decode cL_law 942 = .ok (.aload_n 0, 1) := by decide +kernel
theorem dL_law_943 : decode cL_law 943 = .ok (.iload_n 3, 1) := by decide +kernel
theorem dL_law_944 : decode cL_law 944 = .ok (.iconst 1, 1) := by decide +kernel
theorem dL_law_945 : decode cL_law 945 = .ok (.iadd, 1) := by decide +kernel
theorem dL_law_946 : decode cL_law 946 = .ok (.iaload, 1) := by decide +kernel
theorem dL_law_947 : decode cL_law 947 = .ok (.aload_n 0, 1) := by decide +kernel
theorem dL_law_948 : decode cL_law 948 = .ok (.iload_n 3, 1) := by decide +kernel
theorem dL_law_949 : decode cL_law 949 = .ok (.iconst 2, 1) := by decide +kernel
theorem dL_law_950 : decode cL_law 950 = .ok (.iadd, 1) := by decide +kernel
theorem dL_law_951 : decode cL_law 951 = .ok (.iaload, 1) := by decide +kernel
theorem dL_law_952 : decode cL_law 952 = .ok (.invokevirtual 108, 3) := by decide +kernel
theorem dL_law_955 : decode cL_law 955 = .ok (.if_icmp .eq 654, 3) := by decide +kernel
theorem dL_law_958 : decode cL_law 958 = .ok (.iconst 0, 1) := by decide +kernel
theorem dL_law_959 : decode cL_law 959 = .ok (.ireturn, 1) := by decide +kernel
theorem dL_law_960 : decode cL_law 960 = .ok (.aload_n 1, 1) := by decide +kernel
theorem dL_law_961 : decode cL_law 961 = .ok (.aload_n 0, 1) := by decide +kernel
theorem dL_law_962 : decode cL_law 962 = .ok (.iload_n 3, 1) := by decide +kernel
theorem dL_law_963 : decode cL_law 963 = .ok (.iconst 1, 1) := by decide +kernel
theorem dL_law_964 : decode cL_law 964 = .ok (.iadd, 1) := by decide +kernel
theorem dL_law_965 : decode cL_law 965 = .ok (.iaload, 1) := by decide +kernel
theorem dL_law_966 : decode cL_law 966 = .ok (.invokevirtual 109, 3) := by decide +kernel
theorem dL_law_969 : decode cL_law 969 = .ok (.aload_n 2, 1) := by decide +kernel
theorem dL_law_970 : decode cL_law 970 = .ok (.aload_n 0, 1) := by decide +kernel
theorem dL_law_971 : decode cL_law 971 = .ok (.iload_n 3, 1) := by decide +kernel
theorem dL_law_972 : decode cL_law 972 = .ok (.iconst 1, 1) := by decide +kernel
theorem dL_law_973 : decode cL_law 973 = .ok (.iadd, 1) := by decide +kernel
theorem dL_law_974 : decode cL_law 974 = .ok (.iaload, 1) := by decide +kernel
theorem dL_law_975 : decode cL_law 975 = .ok (.invokevirtual 112, 3) := by decide +kernel
theorem dL_law_978 : decode cL_law 978 = .ok (.if_icmp .eq 631, 3) := by decide +kernel
theorem dL_law_981 : decode cL_law 981 = .ok (.iconst 0, 1) := by decide +kernel
theorem dL_law_982 : decode cL_law 982 = .ok (.ireturn, 1) := by decide +kernel
theorem dL_law_983 : decode cL_law 983 = .ok (.aload_n 1, 1) := by decide +kernel
theorem dL_law_984 : decode cL_law 984 = .ok (.aload_n 0, 1) := by decide +kernel
theorem dL_law_985 : decode cL_law 985 = .ok (.iload_n 3, 1) := by decide +kernel
theorem dL_law_986 : decode cL_law 986 = .ok (.iconst 1, 1) := by decide +kernel
theorem dL_law_987 : decode cL_law 987 = .ok (.iadd, 1) := by decide +kernel
theorem dL_law_988 : decode cL_law 988 = .ok (.iaload, 1) := by decide +kernel
theorem dL_law_989 : decode cL_law 989 = .ok (.aload_n 0, 1) := by decide +kernel
theorem dL_law_990 : decode cL_law 990 = .ok (.iload_n 3, 1) := by decide +kernel
theorem dL_law_991 : decode cL_law 991 = .ok (.iconst 2, 1) := by decide +kernel
theorem dL_law_992 : decode cL_law 992 = .ok (.iadd, 1) := by decide +kernel
theorem dL_law_993 : decode cL_law 993 = .ok (.iaload, 1) := by decide +kernel
theorem dL_law_994 : decode cL_law 994 = .ok (.invokevirtual 113, 3) := by decide +kernel
theorem dL_law_997 : decode cL_law 997 = .ok (.aload_n 2, 1) := by decide +kernel
theorem dL_law_998 : decode cL_law 998 = .ok (.aload_n 0, 1) := by decide +kernel
theorem dL_law_999 : decode cL_law 999 = .ok (.iload_n 3, 1) := by decide +kernel
theorem dL_law_1000 : decode cL_law 1000 = .ok (.iconst 1, 1) := by decide +kernel
theorem dL_law_1001 : decode cL_law 1001 = .ok (.iadd, 1) := by decide +kernel
theorem dL_law_1002 : decode cL_law 1002 = .ok (.iaload, 1) := by decide +kernel
theorem dL_law_1003 : decode cL_law 1003 = .ok (.aload_n 0, 1) := by decide +kernel
theorem dL_law_1004 : decode cL_law 1004 = .ok (.iload_n 3, 1) := by decide +kernel
theorem dL_law_1005 : decode cL_law 1005 = .ok (.iconst 2, 1) := by decide +kernel
theorem dL_law_1006 : decode cL_law 1006 = .ok (.iadd, 1) := by decide +kernel
theorem dL_law_1007 : decode cL_law 1007 = .ok (.iaload, 1) := by decide +kernel
theorem dL_law_1008 : decode cL_law 1008 = .ok (.invokevirtual 116, 3) := by decide +kernel
theorem dL_law_1011 : decode cL_law 1011 = .ok (.if_icmp .eq 598, 3) := by decide +kernel
theorem dL_law_1014 : decode cL_law 1014 = .ok (.iconst 0, 1) := by decide +kernel
theorem dL_law_1015 : decode cL_law 1015 = .ok (.ireturn, 1) := by decide +kernel
theorem dL_law_1016 : decode cL_law 1016 = .ok (.aload_n 1, 1) := by decide +kernel
theorem dL_law_1017 : decode cL_law 1017 = .ok (.aload_n 0, 1) := by decide +kernel
theorem dL_law_1018 : decode cL_law 1018 = .ok (.iload_n 3, 1) := by decide +kernel
theorem dL_law_1019 : decode cL_law 1019 = .ok (.iconst 1, 1) := by decide +kernel
theorem dL_law_1020 : decode cL_law 1020 = .ok (.iadd, 1) := by decide +kernel
theorem dL_law_1021 : decode cL_law 1021 = .ok (.iaload, 1) := by decide +kernel
theorem dL_law_1022 : decode cL_law 1022 = .ok (.aload_n 0, 1) := by decide +kernel
theorem dL_law_1023 : decode cL_law 1023 = .ok (.iload_n 3, 1) := by decide +kernel
theorem dL_law_1024 : decode cL_law 1024 = .ok (.iconst 2, 1) := by decide +kernel
theorem dL_law_1025 : decode cL_law 1025 = .ok (.iadd, 1) := by decide +kernel
theorem dL_law_1026 : decode cL_law 1026 = .ok (.iaload, 1) := by decide +kernel
theorem dL_law_1027 : decode cL_law 1027 = .ok (.aload_n 0, 1) := by decide +kernel
theorem dL_law_1028 : decode cL_law 1028 = .ok (.iload_n 3, 1) := by decide +kernel
theorem dL_law_1029 : decode cL_law 1029 = .ok (.iconst 3, 1) := by decide +kernel
theorem dL_law_1030 : decode cL_law 1030 = .ok (.iadd, 1) := by decide +kernel
theorem dL_law_1031 : decode cL_law 1031 = .ok (.iaload, 1) := by decide +kernel
theorem dL_law_1032 : decode cL_law 1032 = .ok (.invokevirtual 117, 3) := by decide +kernel
theorem dL_law_1035 : decode cL_law 1035 = .ok (.aload_n 2, 1) := by decide +kernel
theorem dL_law_1036 : decode cL_law 1036 = .ok (.aload_n 0, 1) := by decide +kernel
theorem dL_law_1037 : decode cL_law 1037 = .ok (.iload_n 3, 1) := by decide +kernel
theorem dL_law_1038 : decode cL_law 1038 = .ok (.iconst 1, 1) := by decide +kernel
theorem dL_law_1039 : decode cL_law 1039 = .ok (.iadd, 1) := by decide +kernel
theorem dL_law_1040 : decode cL_law 1040 = .ok (.iaload, 1) := by decide +kernel
theorem dL_law_1041 : decode cL_law 1041 = .ok (.aload_n 0, 1) := by decide +kernel
theorem dL_law_1042 : decode cL_law 1042 = .ok (.iload_n 3, 1) := by decide +kernel
theorem dL_law_1043 : decode cL_law 1043 = .ok (.iconst 2, 1) := by decide +kernel
theorem dL_law_1044 : decode cL_law 1044 = .ok (.iadd, 1) := by decide +kernel
theorem dL_law_1045 : decode cL_law 1045 = .ok (.iaload, 1) := by decide +kernel
theorem dL_law_1046 : decode cL_law 1046 = .ok (.aload_n 0, 1) := by decide +kernel
theorem dL_law_1047 : decode cL_law 1047 = .ok (.iload_n 3, 1) := by decide +kernel
theorem dL_law_1048 : decode cL_law 1048 = .ok (.iconst 3, 1) := by decide +kernel
theorem dL_law_1049 : decode cL_law 1049 = .ok (.iadd, 1) := by decide +kernel
theorem dL_law_1050 : decode cL_law 1050 = .ok (.iaload, 1) := by decide +kernel
theorem dL_law_1051 : decode cL_law 1051 = .ok (.invokevirtual 120, 3) := by decide +kernel
theorem dL_law_1054 : decode cL_law 1054 = .ok (.if_icmp .eq 555, 3) := by decide +kernel
theorem dL_law_1057 : decode cL_law 1057 = .ok (.iconst 0, 1) := by decide +kernel
theorem dL_law_1058 : decode cL_law 1058 = .ok (.ireturn, 1) := by decide +kernel
theorem dL_law_1059 : decode cL_law 1059 = .ok (.aload_n 1, 1) := by decide +kernel
theorem dL_law_1060 : decode cL_law 1060 = .ok (.aload_n 0, 1) := by decide +kernel
theorem dL_law_1061 : decode cL_law 1061 = .ok (.iload_n 3, 1) := by decide +kernel
theorem dL_law_1062 : decode cL_law 1062 = .ok (.iconst 1, 1) := by decide +kernel
theorem dL_law_1063 : decode cL_law 1063 = .ok (.iadd, 1) := by decide +kernel
theorem dL_law_1064 : decode cL_law 1064 = .ok (.iaload, 1) := by decide +kernel
theorem dL_law_1065 : decode cL_law 1065 = .ok (.invokevirtual 121, 3) := by decide +kernel
theorem dL_law_1068 : decode cL_law 1068 = .ok (.aload_n 2, 1) := by decide +kernel
theorem dL_law_1069 : decode cL_law 1069 = .ok (.aload_n 0, 1) := by decide +kernel
theorem dL_law_1070 : decode cL_law 1070 = .ok (.iload_n 3, 1) := by decide +kernel
theorem dL_law_1071 : decode cL_law 1071 = .ok (.iconst 1, 1) := by decide +kernel
theorem dL_law_1072 : decode cL_law 1072 = .ok (.iadd, 1) := by decide +kernel
theorem dL_law_1073 : decode cL_law 1073 = .ok (.iaload, 1) := by decide +kernel
theorem dL_law_1074 : decode cL_law 1074 = .ok (.invokevirtual 124, 3) := by decide +kernel
theorem dL_law_1077 : decode cL_law 1077 = .ok (.if_icmp .eq 532, 3) := by decide +kernel
theorem dL_law_1080 : decode cL_law 1080 = .ok (.iconst 0, 1) := by decide +kernel
theorem dL_law_1081 : decode cL_law 1081 = .ok (.ireturn, 1) := by decide +kernel
theorem dL_law_1082 : decode cL_law 1082 = .ok (.aload_n 1, 1) := by decide +kernel
theorem dL_law_1083 : decode cL_law 1083 = .ok (.aload_n 0, 1) := by decide +kernel
theorem dL_law_1084 : decode cL_law 1084 = .ok (.iload_n 3, 1) := by decide +kernel
theorem dL_law_1085 : decode cL_law 1085 = .ok (.iconst 1, 1) := by decide +kernel
theorem dL_law_1086 : decode cL_law 1086 = .ok (.iadd, 1) := by decide +kernel
theorem dL_law_1087 : decode cL_law 1087 = .ok (.iaload, 1) := by decide +kernel
theorem dL_law_1088 : decode cL_law 1088 = .ok (.invokevirtual 125, 3) := by decide +kernel
theorem dL_law_1091 : decode cL_law 1091 = .ok (.aload_n 2, 1) := by decide +kernel
theorem dL_law_1092 : decode cL_law 1092 = .ok (.aload_n 0, 1) := by decide +kernel
theorem dL_law_1093 : decode cL_law 1093 = .ok (.iload_n 3, 1) := by decide +kernel
theorem dL_law_1094 : decode cL_law 1094 = .ok (.iconst 1, 1) := by decide +kernel
theorem dL_law_1095 : decode cL_law 1095 = .ok (.iadd, 1) := by decide +kernel
theorem dL_law_1096 : decode cL_law 1096 = .ok (.iaload, 1) := by decide +kernel
theorem dL_law_1097 : decode cL_law 1097 = .ok (.invokevirtual 128, 3) := by decide +kernel
theorem dL_law_1100 : decode cL_law 1100 = .ok (.if_icmp .eq 509, 3) := by decide +kernel
theorem dL_law_1103 : decode cL_law 1103 = .ok (.iconst 0, 1) := by decide +kernel
theorem dL_law_1104 : decode cL_law 1104 = .ok (.ireturn, 1) := by decide +kernel
theorem dL_law_1105 : decode cL_law 1105 = .ok (.aload_n 1, 1) := by decide +kernel
theorem dL_law_1106 : decode cL_law 1106 = .ok (.aload_n 0, 1) := by decide +kernel
theorem dL_law_1107 : decode cL_law 1107 = .ok (.iload_n 3, 1) := by decide +kernel
theorem dL_law_1108 : decode cL_law 1108 = .ok (.iconst 1, 1) := by decide +kernel
theorem dL_law_1109 : decode cL_law 1109 = .ok (.iadd, 1) := by decide +kernel
theorem dL_law_1110 : decode cL_law 1110 = .ok (.iaload, 1) := by decide +kernel
theorem dL_law_1111 : decode cL_law 1111 = .ok (.invokevirtual 129, 3) := by decide +kernel
theorem dL_law_1114 : decode cL_law 1114 = .ok (.aload_n 2, 1) := by decide +kernel
theorem dL_law_1115 : decode cL_law 1115 = .ok (.aload_n 0, 1) := by decide +kernel
theorem dL_law_1116 : decode cL_law 1116 = .ok (.iload_n 3, 1) := by decide +kernel
theorem dL_law_1117 : decode cL_law 1117 = .ok (.iconst 1, 1) := by decide +kernel
theorem dL_law_1118 : decode cL_law 1118 = .ok (.iadd, 1) := by decide +kernel
theorem dL_law_1119 : decode cL_law 1119 = .ok (.iaload, 1) := by decide +kernel
theorem dL_law_1120 : decode cL_law 1120 = .ok (.invokevirtual 132, 3) := by decide +kernel
theorem dL_law_1123 : decode cL_law 1123 = .ok (.if_icmp .eq 486, 3) := by decide +kernel
theorem dL_law_1126 : decode cL_law 1126 = .ok (.iconst 0, 1) := by decide +kernel
theorem dL_law_1127 : decode cL_law 1127 = .ok (.ireturn, 1) := by decide +kernel
theorem dL_law_1128 : decode cL_law 1128 = .ok (.aload_n 1, 1) := by decide +kernel
theorem dL_law_1129 : decode cL_law 1129 = .ok (.aload_n 0, 1) := by decide +kernel
theorem dL_law_1130 : decode cL_law 1130 = .ok (.iload_n 3, 1) := by decide +kernel
theorem dL_law_1131 : decode cL_law 1131 = .ok (.iconst 1, 1) := by decide +kernel
theorem dL_law_1132 : decode cL_law 1132 = .ok (.iadd, 1) := by decide +kernel
theorem dL_law_1133 : decode cL_law 1133 = .ok (.iaload, 1) := by decide +kernel
theorem dL_law_1134 : decode cL_law 1134 = .ok (.aload_n 0, 1) := by decide +kernel
theorem dL_law_1135 : decode cL_law 1135 = .ok (.iload_n 3, 1) := by decide +kernel
theorem dL_law_1136 : decode cL_law 1136 = .ok (.iconst 2, 1) := by decide +kernel
theorem dL_law_1137 : decode cL_law 1137 = .ok (.iadd, 1) := by decide +kernel
theorem dL_law_1138 : decode cL_law 1138 = .ok (.iaload, 1) := by decide +kernel
theorem dL_law_1139 : decode cL_law 1139 = .ok (.aload_n 0, 1) := by decide +kernel
theorem dL_law_1140 : decode cL_law 1140 = .ok (.iload_n 3, 1) := by decide +kernel
theorem dL_law_1141 : decode cL_law 1141 = .ok (.iconst 3, 1) := by decide +kernel
theorem dL_law_1142 : decode cL_law 1142 = .ok (.iadd, 1) := by decide +kernel
theorem dL_law_1143 : decode cL_law 1143 = .ok (.iaload, 1) := by decide +kernel
theorem dL_law_1144 : decode cL_law 1144 = .ok (.invokevirtual 133, 3) := by decide +kernel
theorem dL_law_1147 : decode cL_law 1147 = .ok (.aload_n 2, 1) := by decide +kernel
theorem dL_law_1148 : decode cL_law 1148 = .ok (.aload_n 0, 1) := by decide +kernel
theorem dL_law_1149 : decode cL_law 1149 = .ok (.iload_n 3, 1) := by decide +kernel
theorem dL_law_1150 : decode cL_law 1150 = .ok (.iconst 1, 1) := by decide +kernel
theorem dL_law_1151 : decode cL_law 1151 = .ok (.iadd, 1) := by decide +kernel
theorem dL_law_1152 : decode cL_law 1152 = .ok (.iaload, 1) := by decide +kernel
theorem dL_law_1153 : decode cL_law 1153 = .ok (.aload_n 0, 1) := by decide +kernel
theorem dL_law_1154 : decode cL_law 1154 = .ok (.iload_n 3, 1) := by decide +kernel
theorem dL_law_1155 : decode cL_law 1155 = .ok (.iconst 2, 1) := by decide +kernel
theorem dL_law_1156 : decode cL_law 1156 = .ok (.iadd, 1) := by decide +kernel
theorem dL_law_1157 : decode cL_law 1157 = .ok (.iaload, 1) := by decide +kernel
theorem dL_law_1158 : decode cL_law 1158 = .ok (.aload_n 0, 1) := by decide +kernel
theorem dL_law_1159 : decode cL_law 1159 = .ok (.iload_n 3, 1) := by decide +kernel
theorem dL_law_1160 : decode cL_law 1160 = .ok (.iconst 3, 1) := by decide +kernel
theorem dL_law_1161 : decode cL_law 1161 = .ok (.iadd, 1) := by decide +kernel
theorem dL_law_1162 : decode cL_law 1162 = .ok (.iaload, 1) := by decide +kernel
theorem dL_law_1163 : decode cL_law 1163 = .ok (.invokevirtual 136, 3) := by decide +kernel
theorem dL_law_1166 : decode cL_law 1166 = .ok (.if_icmp .eq 443, 3) := by decide +kernel
theorem dL_law_1169 : decode cL_law 1169 = .ok (.iconst 0, 1) := by decide +kernel
theorem dL_law_1170 : decode cL_law 1170 = .ok (.ireturn, 1) := by decide +kernel
theorem dL_law_1171 : decode cL_law 1171 = .ok (.aload_n 1, 1) := by decide +kernel
theorem dL_law_1172 : decode cL_law 1172 = .ok (.aload_n 0, 1) := by decide +kernel
theorem dL_law_1173 : decode cL_law 1173 = .ok (.iload_n 3, 1) := by decide +kernel
theorem dL_law_1174 : decode cL_law 1174 = .ok (.iconst 1, 1) := by decide +kernel
theorem dL_law_1175 : decode cL_law 1175 = .ok (.iadd, 1) := by decide +kernel
theorem dL_law_1176 : decode cL_law 1176 = .ok (.iaload, 1) := by decide +kernel
theorem dL_law_1177 : decode cL_law 1177 = .ok (.aload_n 0, 1) := by decide +kernel
theorem dL_law_1178 : decode cL_law 1178 = .ok (.iload_n 3, 1) := by decide +kernel
theorem dL_law_1179 : decode cL_law 1179 = .ok (.iconst 2, 1) := by decide +kernel
theorem dL_law_1180 : decode cL_law 1180 = .ok (.iadd, 1) := by decide +kernel
theorem dL_law_1181 : decode cL_law 1181 = .ok (.iaload, 1) := by decide +kernel
theorem dL_law_1182 : decode cL_law 1182 = .ok (.invokevirtual 137, 3) := by decide +kernel
theorem dL_law_1185 : decode cL_law 1185 = .ok (.aload_n 2, 1) := by decide +kernel
theorem dL_law_1186 : decode cL_law 1186 = .ok (.aload_n 0, 1) := by decide +kernel
theorem dL_law_1187 : decode cL_law 1187 = .ok (.iload_n 3, 1) := by decide +kernel
theorem dL_law_1188 : decode cL_law 1188 = .ok (.iconst 1, 1) := by decide +kernel
theorem dL_law_1189 : decode cL_law 1189 = .ok (.iadd, 1) := by decide +kernel
theorem dL_law_1190 : decode cL_law 1190 = .ok (.iaload, 1) := by decide +kernel
theorem dL_law_1191 : decode cL_law 1191 = .ok (.aload_n 0, 1) := by decide +kernel
theorem dL_law_1192 : decode cL_law 1192 = .ok (.iload_n 3, 1) := by decide +kernel
theorem dL_law_1193 : decode cL_law 1193 = .ok (.iconst 2, 1) := by decide +kernel
theorem dL_law_1194 : decode cL_law 1194 = .ok (.iadd, 1) := by decide +kernel
theorem dL_law_1195 : decode cL_law 1195 = .ok (.iaload, 1) := by decide +kernel
theorem dL_law_1196 : decode cL_law 1196 = .ok (.invokevirtual 140, 3) := by decide +kernel
theorem dL_law_1199 : decode cL_law 1199 = .ok (.if_icmp .eq 410, 3) := by decide +kernel
theorem dL_law_1202 : decode cL_law 1202 = .ok (.iconst 0, 1) := by decide +kernel
theorem dL_law_1203 : decode cL_law 1203 = .ok (.ireturn, 1) := by decide +kernel
theorem dL_law_1204 : decode cL_law 1204 = .ok (.aload_n 1, 1) := by decide +kernel
theorem dL_law_1205 : decode cL_law 1205 = .ok (.aload_n 0, 1) := by decide +kernel
theorem dL_law_1206 : decode cL_law 1206 = .ok (.iload_n 3, 1) := by decide +kernel
theorem dL_law_1207 : decode cL_law 1207 = .ok (.iconst 1, 1) := by decide +kernel
theorem dL_law_1208 : decode cL_law 1208 = .ok (.iadd, 1) := by decide +kernel
theorem dL_law_1209 : decode cL_law 1209 = .ok (.iaload, 1) := by decide +kernel
theorem dL_law_1210 : decode cL_law 1210 = .ok (.invokevirtual 141, 3) := by decide +kernel
theorem dL_law_1213 : decode cL_law 1213 = .ok (.aload_n 2, 1) := by decide +kernel
theorem dL_law_1214 : decode cL_law 1214 = .ok (.aload_n 0, 1) := by decide +kernel
theorem dL_law_1215 : decode cL_law 1215 = .ok (.iload_n 3, 1) := by decide +kernel
theorem dL_law_1216 : decode cL_law 1216 = .ok (.iconst 1, 1) := by decide +kernel
theorem dL_law_1217 : decode cL_law 1217 = .ok (.iadd, 1) := by decide +kernel
theorem dL_law_1218 : decode cL_law 1218 = .ok (.iaload, 1) := by decide +kernel
theorem dL_law_1219 : decode cL_law 1219 = .ok (.invokevirtual 144, 3) := by decide +kernel
theorem dL_law_1222 : decode cL_law 1222 = .ok (.if_icmp .eq 387, 3) := by decide +kernel
theorem dL_law_1225 : decode cL_law 1225 = .ok (.iconst 0, 1) := by decide +kernel
theorem dL_law_1226 : decode cL_law 1226 = .ok (.ireturn, 1) := by decide +kernel
theorem dL_law_1227 : decode cL_law 1227 = .ok (.aload_n 1, 1) := by decide +kernel
theorem dL_law_1228 : decode cL_law 1228 = .ok (.aload_n 0, 1) := by decide +kernel
theorem dL_law_1229 : decode cL_law 1229 = .ok (.iload_n 3, 1) := by decide +kernel
theorem dL_law_1230 : decode cL_law 1230 = .ok (.iconst 1, 1) := by decide +kernel
theorem dL_law_1231 : decode cL_law 1231 = .ok (.iadd, 1) := by decide +kernel
theorem dL_law_1232 : decode cL_law 1232 = .ok (.iaload, 1) := by decide +kernel
theorem dL_law_1233 : decode cL_law 1233 = .ok (.aload_n 0, 1) := by decide +kernel
theorem dL_law_1234 : decode cL_law 1234 = .ok (.iload_n 3, 1) := by decide +kernel
theorem dL_law_1235 : decode cL_law 1235 = .ok (.iconst 2, 1) := by decide +kernel
theorem dL_law_1236 : decode cL_law 1236 = .ok (.iadd, 1) := by decide +kernel
theorem dL_law_1237 : decode cL_law 1237 = .ok (.iaload, 1) := by decide +kernel
theorem dL_law_1238 : decode cL_law 1238 = .ok (.invokevirtual 145, 3) := by decide +kernel
theorem dL_law_1241 : decode cL_law 1241 = .ok (.aload_n 2, 1) := by decide +kernel
theorem dL_law_1242 : decode cL_law 1242 = .ok (.aload_n 0, 1) := by decide +kernel
theorem dL_law_1243 : decode cL_law 1243 = .ok (.iload_n 3, 1) := by decide +kernel
theorem dL_law_1244 : decode cL_law 1244 = .ok (.iconst 1, 1) := by decide +kernel
theorem dL_law_1245 : decode cL_law 1245 = .ok (.iadd, 1) := by decide +kernel
theorem dL_law_1246 : decode cL_law 1246 = .ok (.iaload, 1) := by decide +kernel
theorem dL_law_1247 : decode cL_law 1247 = .ok (.aload_n 0, 1) := by decide +kernel
theorem dL_law_1248 : decode cL_law 1248 = .ok (.iload_n 3, 1) := by decide +kernel
theorem dL_law_1249 : decode cL_law 1249 = .ok (.iconst 2, 1) := by decide +kernel
theorem dL_law_1250 : decode cL_law 1250 = .ok (.iadd, 1) := by decide +kernel
theorem dL_law_1251 : decode cL_law 1251 = .ok (.iaload, 1) := by decide +kernel
theorem dL_law_1252 : decode cL_law 1252 = .ok (.invokevirtual 148, 3) := by decide +kernel
theorem dL_law_1255 : decode cL_law 1255 = .ok (.if_icmp .eq 354, 3) := by decide +kernel
theorem dL_law_1258 : decode cL_law 1258 = .ok (.iconst 0, 1) := by decide +kernel
theorem dL_law_1259 : decode cL_law 1259 = .ok (.ireturn, 1) := by decide +kernel
theorem dL_law_1260 : decode cL_law 1260 = .ok (.aload_n 1, 1) := by decide +kernel
theorem dL_law_1261 : decode cL_law 1261 = .ok (.aload_n 0, 1) := by decide +kernel
theorem dL_law_1262 : decode cL_law 1262 = .ok (.iload_n 3, 1) := by decide +kernel
theorem dL_law_1263 : decode cL_law 1263 = .ok (.iconst 1, 1) := by decide +kernel
theorem dL_law_1264 : decode cL_law 1264 = .ok (.iadd, 1) := by decide +kernel
theorem dL_law_1265 : decode cL_law 1265 = .ok (.iaload, 1) := by decide +kernel
theorem dL_law_1266 : decode cL_law 1266 = .ok (.invokevirtual 149, 3) := by decide +kernel
theorem dL_law_1269 : decode cL_law 1269 = .ok (.aload_n 2, 1) := by decide +kernel
theorem dL_law_1270 : decode cL_law 1270 = .ok (.aload_n 0, 1) := by decide +kernel
theorem dL_law_1271 : decode cL_law 1271 = .ok (.iload_n 3, 1) := by decide +kernel
theorem dL_law_1272 : decode cL_law 1272 = .ok (.iconst 1, 1) := by decide +kernel
theorem dL_law_1273 : decode cL_law 1273 = .ok (.iadd, 1) := by decide +kernel
theorem dL_law_1274 : decode cL_law 1274 = .ok (.iaload, 1) := by decide +kernel
theorem dL_law_1275 : decode cL_law 1275 = .ok (.invokevirtual 152, 3) := by decide +kernel
theorem dL_law_1278 : decode cL_law 1278 = .ok (.if_icmp .eq 331, 3) := by decide +kernel
theorem dL_law_1281 : decode cL_law 1281 = .ok (.iconst 0, 1) := by decide +kernel
theorem dL_law_1282 : decode cL_law 1282 = .ok (.ireturn, 1) := by decide +kernel
theorem dL_law_1283 : decode cL_law 1283 = .ok (.aload_n 1, 1) := by decide +kernel
theorem dL_law_1284 : decode cL_law 1284 = .ok (.aload_n 0, 1) := by decide +kernel
theorem dL_law_1285 : decode cL_law 1285 = .ok (.iload_n 3, 1) := by decide +kernel
theorem dL_law_1286 : decode cL_law 1286 = .ok (.iconst 1, 1) := by decide +kernel
theorem dL_law_1287 : decode cL_law 1287 = .ok (.iadd, 1) := by decide +kernel
theorem dL_law_1288 : decode cL_law 1288 = .ok (.iaload, 1) := by decide +kernel
theorem dL_law_1289 : decode cL_law 1289 = .ok (.invokevirtual 153, 3) := by decide +kernel
theorem dL_law_1292 : decode cL_law 1292 = .ok (.aload_n 2, 1) := by decide +kernel
theorem dL_law_1293 : decode cL_law 1293 = .ok (.aload_n 0, 1) := by decide +kernel
theorem dL_law_1294 : decode cL_law 1294 = .ok (.iload_n 3, 1) := by decide +kernel
theorem dL_law_1295 : decode cL_law 1295 = .ok (.iconst 1, 1) := by decide +kernel
theorem dL_law_1296 : decode cL_law 1296 = .ok (.iadd, 1) := by decide +kernel
theorem dL_law_1297 : decode cL_law 1297 = .ok (.iaload, 1) := by decide +kernel
theorem dL_law_1298 : decode cL_law 1298 = .ok (.invokevirtual 156, 3) := by decide +kernel
theorem dL_law_1301 : decode cL_law 1301 = .ok (.if_icmp .eq 308, 3) := by decide +kernel
theorem dL_law_1304 : decode cL_law 1304 = .ok (.iconst 0, 1) := by decide +kernel
theorem dL_law_1305 : decode cL_law 1305 = .ok (.ireturn, 1) := by decide +kernel
theorem dL_law_1306 : decode cL_law 1306 = .ok (.aload_n 1, 1) := by decide +kernel
theorem dL_law_1307 : decode cL_law 1307 = .ok (.aload_n 0, 1) := by decide +kernel
theorem dL_law_1308 : decode cL_law 1308 = .ok (.iload_n 3, 1) := by decide +kernel
theorem dL_law_1309 : decode cL_law 1309 = .ok (.iconst 1, 1) := by decide +kernel
theorem dL_law_1310 : decode cL_law 1310 = .ok (.iadd, 1) := by decide +kernel
theorem dL_law_1311 : decode cL_law 1311 = .ok (.iaload, 1) := by decide +kernel
theorem dL_law_1312 : decode cL_law 1312 = .ok (.aload_n 0, 1) := by decide +kernel
theorem dL_law_1313 : decode cL_law 1313 = .ok (.iload_n 3, 1) := by decide +kernel
theorem dL_law_1314 : decode cL_law 1314 = .ok (.iconst 2, 1) := by decide +kernel
theorem dL_law_1315 : decode cL_law 1315 = .ok (.iadd, 1) := by decide +kernel
theorem dL_law_1316 : decode cL_law 1316 = .ok (.iaload, 1) := by decide +kernel
theorem dL_law_1317 : decode cL_law 1317 = .ok (.aload_n 0, 1) := by decide +kernel
theorem dL_law_1318 : decode cL_law 1318 = .ok (.iload_n 3, 1) := by decide +kernel
theorem dL_law_1319 : decode cL_law 1319 = .ok (.iconst 3, 1) := by decide +kernel
theorem dL_law_1320 : decode cL_law 1320 = .ok (.iadd, 1) := by decide +kernel
theorem dL_law_1321 : decode cL_law 1321 = .ok (.iaload, 1) := by decide +kernel
theorem dL_law_1322 : decode cL_law 1322 = .ok (.invokevirtual 157, 3) := by decide +kernel
theorem dL_law_1325 : decode cL_law 1325 = .ok (.aload_n 2, 1) := by decide +kernel
theorem dL_law_1326 : decode cL_law 1326 = .ok (.aload_n 0, 1) := by decide +kernel
theorem dL_law_1327 : decode cL_law 1327 = .ok (.iload_n 3, 1) := by decide +kernel
theorem dL_law_1328 : decode cL_law 1328 = .ok (.iconst 1, 1) := by decide +kernel
theorem dL_law_1329 : decode cL_law 1329 = .ok (.iadd, 1) := by decide +kernel
theorem dL_law_1330 : decode cL_law 1330 = .ok (.iaload, 1) := by decide +kernel
theorem dL_law_1331 : decode cL_law 1331 = .ok (.aload_n 0, 1) := by decide +kernel
theorem dL_law_1332 : decode cL_law 1332 = .ok (.iload_n 3, 1) := by decide +kernel
theorem dL_law_1333 : decode cL_law 1333 = .ok (.iconst 2, 1) := by decide +kernel
theorem dL_law_1334 : decode cL_law 1334 = .ok (.iadd, 1) := by decide +kernel
theorem dL_law_1335 : decode cL_law 1335 = .ok (.iaload, 1) := by decide +kernel
theorem dL_law_1336 : decode cL_law 1336 = .ok (.aload_n 0, 1) := by decide +kernel
theorem dL_law_1337 : decode cL_law 1337 = .ok (.iload_n 3, 1) := by decide +kernel
theorem dL_law_1338 : decode cL_law 1338 = .ok (.iconst 3, 1) := by decide +kernel
theorem dL_law_1339 : decode cL_law 1339 = .ok (.iadd, 1) := by decide +kernel
theorem dL_law_1340 : decode cL_law 1340 = .ok (.iaload, 1) := by decide +kernel
theorem dL_law_1341 : decode cL_law 1341 = .ok (.invokevirtual 160, 3) := by decide +kernel
theorem dL_law_1344 : decode cL_law 1344 = .ok (.if_icmp .eq 265, 3) := by decide +kernel
theorem dL_law_1347 : decode cL_law 1347 = .ok (.iconst 0, 1) := by decide +kernel
theorem dL_law_1348 : decode cL_law 1348 = .ok (.ireturn, 1) := by decide +kernel
theorem dL_law_1349 : decode cL_law 1349 = .ok (.aload_n 1, 1) := by decide +kernel
theorem dL_law_1350 : decode cL_law 1350 = .ok (.aload_n 0, 1) := by decide +kernel
theorem dL_law_1351 : decode cL_law 1351 = .ok (.iload_n 3, 1) := by decide +kernel
theorem dL_law_1352 : decode cL_law 1352 = .ok (.iconst 1, 1) := by decide +kernel
theorem dL_law_1353 : decode cL_law 1353 = .ok (.iadd, 1) := by decide +kernel
theorem dL_law_1354 : decode cL_law 1354 = .ok (.iaload, 1) := by decide +kernel
theorem dL_law_1355 : decode cL_law 1355 = .ok (.aload_n 0, 1) := by decide +kernel
theorem dL_law_1356 : decode cL_law 1356 = .ok (.iload_n 3, 1) := by decide +kernel
theorem dL_law_1357 : decode cL_law 1357 = .ok (.iconst 2, 1) := by decide +kernel
theorem dL_law_1358 : decode cL_law 1358 = .ok (.iadd, 1) := by decide +kernel
theorem dL_law_1359 : decode cL_law 1359 = .ok (.iaload, 1) := by decide +kernel
theorem dL_law_1360 : decode cL_law 1360 = .ok (.invokevirtual 161, 3) := by decide +kernel
theorem dL_law_1363 : decode cL_law 1363 = .ok (.aload_n 2, 1) := by decide +kernel
theorem dL_law_1364 : decode cL_law 1364 = .ok (.aload_n 0, 1) := by decide +kernel
theorem dL_law_1365 : decode cL_law 1365 = .ok (.iload_n 3, 1) := by decide +kernel
theorem dL_law_1366 : decode cL_law 1366 = .ok (.iconst 1, 1) := by decide +kernel
theorem dL_law_1367 : decode cL_law 1367 = .ok (.iadd, 1) := by decide +kernel
theorem dL_law_1368 : decode cL_law 1368 = .ok (.iaload, 1) := by decide +kernel
theorem dL_law_1369 : decode cL_law 1369 = .ok (.aload_n 0, 1) := by decide +kernel
theorem dL_law_1370 : decode cL_law 1370 = .ok (.iload_n 3, 1) := by decide +kernel
theorem dL_law_1371 : decode cL_law 1371 = .ok (.iconst 2, 1) := by decide +kernel
theorem dL_law_1372 : decode cL_law 1372 = .ok (.iadd, 1) := by decide +kernel
theorem dL_law_1373 : decode cL_law 1373 = .ok (.iaload, 1) := by decide +kernel
theorem dL_law_1374 : decode cL_law 1374 = .ok (.invokevirtual 165, 3) := by decide +kernel
theorem dL_law_1377 : decode cL_law 1377 = .ok (.if_icmp .eq 232, 3) := by decide +kernel
theorem dL_law_1380 : decode cL_law 1380 = .ok (.iconst 0, 1) := by decide +kernel
theorem dL_law_1381 : decode cL_law 1381 = .ok (.ireturn, 1) := by decide +kernel
theorem dL_law_1382 : decode cL_law 1382 = .ok (.aload_n 1, 1) := by decide +kernel
theorem dL_law_1383 : decode cL_law 1383 = .ok (.aload_n 0, 1) := by decide +kernel
theorem dL_law_1384 : decode cL_law 1384 = .ok (.iload_n 3, 1) := by decide +kernel
theorem dL_law_1385 : decode cL_law 1385 = .ok (.iconst 1, 1) := by decide +kernel
theorem dL_law_1386 : decode cL_law 1386 = .ok (.iadd, 1) := by decide +kernel
theorem dL_law_1387 : decode cL_law 1387 = .ok (.iaload, 1) := by decide +kernel
theorem dL_law_1388 : decode cL_law 1388 = .ok (.aload_n 0, 1) := by decide +kernel
theorem dL_law_1389 : decode cL_law 1389 = .ok (.iload_n 3, 1) := by decide +kernel
theorem dL_law_1390 : decode cL_law 1390 = .ok (.iconst 2, 1) := by decide +kernel
theorem dL_law_1391 : decode cL_law 1391 = .ok (.iadd, 1) := by decide +kernel
theorem dL_law_1392 : decode cL_law 1392 = .ok (.iaload, 1) := by decide +kernel
theorem dL_law_1393 : decode cL_law 1393 = .ok (.aload_n 0, 1) := by decide +kernel
theorem dL_law_1394 : decode cL_law 1394 = .ok (.iload_n 3, 1) := by decide +kernel
theorem dL_law_1395 : decode cL_law 1395 = .ok (.iconst 3, 1) := by decide +kernel
theorem dL_law_1396 : decode cL_law 1396 = .ok (.iadd, 1) := by decide +kernel
theorem dL_law_1397 : decode cL_law 1397 = .ok (.iaload, 1) := by decide +kernel
theorem dL_law_1398 : decode cL_law 1398 = .ok (.invokevirtual 166, 3) := by decide +kernel
theorem dL_law_1401 : decode cL_law 1401 = .ok (.aload_n 2, 1) := by decide +kernel
theorem dL_law_1402 : decode cL_law 1402 = .ok (.aload_n 0, 1) := by decide +kernel
theorem dL_law_1403 : decode cL_law 1403 = .ok (.iload_n 3, 1) := by decide +kernel
theorem dL_law_1404 : decode cL_law 1404 = .ok (.iconst 1, 1) := by decide +kernel
theorem dL_law_1405 : decode cL_law 1405 = .ok (.iadd, 1) := by decide +kernel
theorem dL_law_1406 : decode cL_law 1406 = .ok (.iaload, 1) := by decide +kernel
theorem dL_law_1407 : decode cL_law 1407 = .ok (.aload_n 0, 1) := by decide +kernel
theorem dL_law_1408 : decode cL_law 1408 = .ok (.iload_n 3, 1) := by decide +kernel
theorem dL_law_1409 : decode cL_law 1409 = .ok (.iconst 2, 1) := by decide +kernel
theorem dL_law_1410 : decode cL_law 1410 = .ok (.iadd, 1) := by decide +kernel
theorem dL_law_1411 : decode cL_law 1411 = .ok (.iaload, 1) := by decide +kernel
theorem dL_law_1412 : decode cL_law 1412 = .ok (.aload_n 0, 1) := by decide +kernel
theorem dL_law_1413 : decode cL_law 1413 = .ok (.iload_n 3, 1) := by decide +kernel
theorem dL_law_1414 : decode cL_law 1414 = .ok (.iconst 3, 1) := by decide +kernel
theorem dL_law_1415 : decode cL_law 1415 = .ok (.iadd, 1) := by decide +kernel
theorem dL_law_1416 : decode cL_law 1416 = .ok (.iaload, 1) := by decide +kernel
theorem dL_law_1417 : decode cL_law 1417 = .ok (.invokevirtual 169, 3) := by decide +kernel
theorem dL_law_1420 : decode cL_law 1420 = .ok (.if_icmp .eq 189, 3) := by decide +kernel
theorem dL_law_1423 : decode cL_law 1423 = .ok (.iconst 0, 1) := by decide +kernel
theorem dL_law_1424 : decode cL_law 1424 = .ok (.ireturn, 1) := by decide +kernel
theorem dL_law_1425 : decode cL_law 1425 = .ok (.aload_n 1, 1) := by decide +kernel
theorem dL_law_1426 : decode cL_law 1426 = .ok (.aload_n 0, 1) := by decide +kernel
theorem dL_law_1427 : decode cL_law 1427 = .ok (.iload_n 3, 1) := by decide +kernel
theorem dL_law_1428 : decode cL_law 1428 = .ok (.iconst 1, 1) := by decide +kernel
theorem dL_law_1429 : decode cL_law 1429 = .ok (.iadd, 1) := by decide +kernel
theorem dL_law_1430 : decode cL_law 1430 = .ok (.iaload, 1) := by decide +kernel
theorem dL_law_1431 : decode cL_law 1431 = .ok (.invokevirtual 170, 3) := by decide +kernel
theorem dL_law_1434 : decode cL_law 1434 = .ok (.aload_n 2, 1) := by decide +kernel
theorem dL_law_1435 : decode cL_law 1435 = .ok (.aload_n 0, 1) := by decide +kernel
theorem dL_law_1436 : decode cL_law 1436 = .ok (.iload_n 3, 1) := by decide +kernel
theorem dL_law_1437 : decode cL_law 1437 = .ok (.iconst 1, 1) := by decide +kernel
theorem dL_law_1438 : decode cL_law 1438 = .ok (.iadd, 1) := by decide +kernel
theorem dL_law_1439 : decode cL_law 1439 = .ok (.iaload, 1) := by decide +kernel
theorem dL_law_1440 : decode cL_law 1440 = .ok (.invokevirtual 173, 3) := by decide +kernel
theorem dL_law_1443 : decode cL_law 1443 = .ok (.if_icmp .eq 166, 3) := by decide +kernel
theorem dL_law_1446 : decode cL_law 1446 = .ok (.iconst 0, 1) := by decide +kernel
theorem dL_law_1447 : decode cL_law 1447 = .ok (.ireturn, 1) := by decide +kernel
theorem dL_law_1448 : decode cL_law 1448 = .ok (.aload_n 1, 1) := by decide +kernel
theorem dL_law_1449 : decode cL_law 1449 = .ok (.aload_n 0, 1) := by decide +kernel
theorem dL_law_1450 : decode cL_law 1450 = .ok (.iload_n 3, 1) := by decide +kernel
theorem dL_law_1451 : decode cL_law 1451 = .ok (.iconst 1, 1) := by decide +kernel
theorem dL_law_1452 : decode cL_law 1452 = .ok (.iadd, 1) := by decide +kernel
theorem dL_law_1453 : decode cL_law 1453 = .ok (.iaload, 1) := by decide +kernel
theorem dL_law_1454 : decode cL_law 1454 = .ok (.aload_n 0, 1) := by decide +kernel
theorem dL_law_1455 : decode cL_law 1455 = .ok (.iload_n 3, 1) := by decide +kernel
theorem dL_law_1456 : decode cL_law 1456 = .ok (.iconst 2, 1) := by decide +kernel
theorem dL_law_1457 : decode cL_law 1457 = .ok (.iadd, 1) := by decide +kernel
theorem dL_law_1458 : decode cL_law 1458 = .ok (.iaload, 1) := by decide +kernel
theorem dL_law_1459 : decode cL_law 1459 = .ok (.invokevirtual 174, 3) := by decide +kernel
theorem dL_law_1462 : decode cL_law 1462 = .ok (.aload_n 2, 1) := by decide +kernel
theorem dL_law_1463 : decode cL_law 1463 = .ok (.aload_n 0, 1) := by decide +kernel
theorem dL_law_1464 : decode cL_law 1464 = .ok (.iload_n 3, 1) := by decide +kernel
theorem dL_law_1465 : decode cL_law 1465 = .ok (.iconst 1, 1) := by decide +kernel
theorem dL_law_1466 : decode cL_law 1466 = .ok (.iadd, 1) := by decide +kernel
theorem dL_law_1467 : decode cL_law 1467 = .ok (.iaload, 1) := by decide +kernel
theorem dL_law_1468 : decode cL_law 1468 = .ok (.aload_n 0, 1) := by decide +kernel
theorem dL_law_1469 : decode cL_law 1469 = .ok (.iload_n 3, 1) := by decide +kernel
theorem dL_law_1470 : decode cL_law 1470 = .ok (.iconst 2, 1) := by decide +kernel
theorem dL_law_1471 : decode cL_law 1471 = .ok (.iadd, 1) := by decide +kernel
theorem dL_law_1472 : decode cL_law 1472 = .ok (.iaload, 1) := by decide +kernel
theorem dL_law_1473 : decode cL_law 1473 = .ok (.invokevirtual 177, 3) := by decide +kernel
theorem dL_law_1476 : decode cL_law 1476 = .ok (.if_icmp .eq 133, 3) := by decide +kernel
theorem dL_law_1479 : decode cL_law 1479 = .ok (.iconst 0, 1) := by decide +kernel
theorem dL_law_1480 : decode cL_law 1480 = .ok (.ireturn, 1) := by decide +kernel
theorem dL_law_1481 : decode cL_law 1481 = .ok (.aload_n 1, 1) := by decide +kernel
theorem dL_law_1482 : decode cL_law 1482 = .ok (.aload_n 0, 1) := by decide +kernel
theorem dL_law_1483 : decode cL_law 1483 = .ok (.iload_n 3, 1) := by decide +kernel
theorem dL_law_1484 : decode cL_law 1484 = .ok (.iconst 1, 1) := by decide +kernel
theorem dL_law_1485 : decode cL_law 1485 = .ok (.iadd, 1) := by decide +kernel
theorem dL_law_1486 : decode cL_law 1486 = .ok (.iaload, 1) := by decide +kernel
theorem dL_law_1487 : decode cL_law 1487 = .ok (.invokevirtual 178, 3) := by decide +kernel
theorem dL_law_1490 : decode cL_law 1490 = .ok (.aload_n 2, 1) := by decide +kernel
theorem dL_law_1491 : decode cL_law 1491 = .ok (.aload_n 0, 1) := by decide +kernel
theorem dL_law_1492 : decode cL_law 1492 = .ok (.iload_n 3, 1) := by decide +kernel
theorem dL_law_1493 : decode cL_law 1493 = .ok (.iconst 1, 1) := by decide +kernel
theorem dL_law_1494 : decode cL_law 1494 = .ok (.iadd, 1) := by decide +kernel
theorem dL_law_1495 : decode cL_law 1495 = .ok (.iaload, 1) := by decide +kernel
theorem dL_law_1496 : decode cL_law 1496 = .ok (.invokevirtual 181, 3) := by decide +kernel
theorem dL_law_1499 : decode cL_law 1499 = .ok (.if_icmp .eq 110, 3) := by decide +kernel
theorem dL_law_1502 : decode cL_law 1502 = .ok (.iconst 0, 1) := by decide +kernel
theorem dL_law_1503 : decode cL_law 1503 = .ok (.ireturn, 1) := by decide +kernel
theorem dL_law_1504 : decode cL_law 1504 = .ok (.aload_n 1, 1) := by decide +kernel
theorem dL_law_1505 : decode cL_law 1505 = .ok (.aload_n 0, 1) := by decide +kernel
theorem dL_law_1506 : decode cL_law 1506 = .ok (.iload_n 3, 1) := by decide +kernel
theorem dL_law_1507 : decode cL_law 1507 = .ok (.iconst 1, 1) := by decide +kernel
theorem dL_law_1508 : decode cL_law 1508 = .ok (.iadd, 1) := by decide +kernel
theorem dL_law_1509 : decode cL_law 1509 = .ok (.iaload, 1) := by decide +kernel
theorem dL_law_1510 : decode cL_law 1510 = .ok (.invokevirtual 182, 3) := by decide +kernel
theorem dL_law_1513 : decode cL_law 1513 = .ok (.aload_n 2, 1) := by decide +kernel
theorem dL_law_1514 : decode cL_law 1514 = .ok (.aload_n 0, 1) := by decide +kernel
theorem dL_law_1515 : decode cL_law 1515 = .ok (.iload_n 3, 1) := by decide +kernel
theorem dL_law_1516 : decode cL_law 1516 = .ok (.iconst 1, 1) := by decide +kernel
theorem dL_law_1517 : decode cL_law 1517 = .ok (.iadd, 1) := by decide +kernel
theorem dL_law_1518 : decode cL_law 1518 = .ok (.iaload, 1) := by decide +kernel
theorem dL_law_1519 : decode cL_law 1519 = .ok (.invokevirtual 185, 3) := by decide +kernel
theorem dL_law_1522 : decode cL_law 1522 = .ok (.if_icmp .eq 87, 3) := by decide +kernel
theorem dL_law_1525 : decode cL_law 1525 = .ok (.iconst 0, 1) := by decide +kernel
theorem dL_law_1526 : decode cL_law 1526 = .ok (.ireturn, 1) := by decide +kernel
theorem dL_law_1527 : decode cL_law 1527 = .ok (.aload_n 1, 1) := by decide +kernel
theorem dL_law_1528 : decode cL_law 1528 = .ok (.aload_n 0, 1) := by decide +kernel
theorem dL_law_1529 : decode cL_law 1529 = .ok (.iload_n 3, 1) := by decide +kernel
theorem dL_law_1530 : decode cL_law 1530 = .ok (.iconst 1, 1) := by decide +kernel
theorem dL_law_1531 : decode cL_law 1531 = .ok (.iadd, 1) := by decide +kernel
theorem dL_law_1532 : decode cL_law 1532 = .ok (.iaload, 1) := by decide +kernel
theorem dL_law_1533 : decode cL_law 1533 = .ok (.aload_n 0, 1) := by decide +kernel
theorem dL_law_1534 : decode cL_law 1534 = .ok (.iload_n 3, 1) := by decide +kernel
theorem dL_law_1535 : decode cL_law 1535 = .ok (.iconst 2, 1) := by decide +kernel
theorem dL_law_1536 : decode cL_law 1536 = .ok (.iadd, 1) := by decide +kernel
theorem dL_law_1537 : decode cL_law 1537 = .ok (.iaload, 1) := by decide +kernel
theorem dL_law_1538 : decode cL_law 1538 = .ok (.invokevirtual 186, 3) := by decide +kernel
theorem dL_law_1541 : decode cL_law 1541 = .ok (.aload_n 2, 1) := by decide +kernel
theorem dL_law_1542 : decode cL_law 1542 = .ok (.aload_n 0, 1) := by decide +kernel
theorem dL_law_1543 : decode cL_law 1543 = .ok (.iload_n 3, 1) := by decide +kernel
theorem dL_law_1544 : decode cL_law 1544 = .ok (.iconst 1, 1) := by decide +kernel
theorem dL_law_1545 : decode cL_law 1545 = .ok (.iadd, 1) := by decide +kernel
theorem dL_law_1546 : decode cL_law 1546 = .ok (.iaload, 1) := by decide +kernel
theorem dL_law_1547 : decode cL_law 1547 = .ok (.aload_n 0, 1) := by decide +kernel
theorem dL_law_1548 : decode cL_law 1548 = .ok (.iload_n 3, 1) := by decide +kernel
theorem dL_law_1549 : decode cL_law 1549 = .ok (.iconst 2, 1) := by decide +kernel
theorem dL_law_1550 : decode cL_law 1550 = .ok (.iadd, 1) := by decide +kernel
theorem dL_law_1551 : decode cL_law 1551 = .ok (.iaload, 1) := by decide +kernel
theorem dL_law_1552 : decode cL_law 1552 = .ok (.invokevirtual 189, 3) := by decide +kernel
theorem dL_law_1555 : decode cL_law 1555 = .ok (.if_icmp .eq 54, 3) := by decide +kernel
theorem dL_law_1558 : decode cL_law 1558 = .ok (.iconst 0, 1) := by decide +kernel
theorem dL_law_1559 : decode cL_law 1559 = .ok (.ireturn, 1) := by decide +kernel
theorem dL_law_1560 : decode cL_law 1560 = .ok (.aload_n 1, 1) := by decide +kernel
theorem dL_law_1561 : decode cL_law 1561 = .ok (.aload_n 0, 1) := by decide +kernel
theorem dL_law_1562 : decode cL_law 1562 = .ok (.iload_n 3, 1) := by decide +kernel
theorem dL_law_1563 : decode cL_law 1563 = .ok (.iconst 1, 1) := by decide +kernel
theorem dL_law_1564 : decode cL_law 1564 = .ok (.iadd, 1) := by decide +kernel
theorem dL_law_1565 : decode cL_law 1565 = .ok (.iaload, 1) := by decide +kernel
theorem dL_law_1566 : decode cL_law 1566 = .ok (.invokevirtual 190, 3) := by decide +kernel
theorem dL_law_1569 : decode cL_law 1569 = .ok (.aload_n 2, 1) := by decide +kernel
theorem dL_law_1570 : decode cL_law 1570 = .ok (.aload_n 0, 1) := by decide +kernel
theorem dL_law_1571 : decode cL_law 1571 = .ok (.iload_n 3, 1) := by decide +kernel
theorem dL_law_1572 : decode cL_law 1572 = .ok (.iconst 1, 1) := by decide +kernel
theorem dL_law_1573 : decode cL_law 1573 = .ok (.iadd, 1) := by decide +kernel
theorem dL_law_1574 : decode cL_law 1574 = .ok (.iaload, 1) := by decide +kernel
theorem dL_law_1575 : decode cL_law 1575 = .ok (.invokevirtual 193, 3) := by decide +kernel
theorem dL_law_1578 : decode cL_law 1578 = .ok (.if_icmp .eq 31, 3) := by decide +kernel
theorem dL_law_1581 : decode cL_law 1581 = .ok (.iconst 0, 1) := by decide +kernel
theorem dL_law_1582 : decode cL_law 1582 = .ok (.ireturn, 1) := by decide +kernel
theorem dL_law_1583 : decode cL_law 1583 = .ok (.aload_n 1, 1) := by decide +kernel
theorem dL_law_1584 : decode cL_law 1584 = .ok (.invokevirtual 194, 3) := by decide +kernel
theorem dL_law_1587 : decode cL_law 1587 = .ok (.aload_n 2, 1) := by decide +kernel
theorem dL_law_1588 : decode cL_law 1588 = .ok (.invokevirtual 197, 3) := by decide +kernel
theorem dL_law_1591 : decode cL_law 1591 = .ok (.if_icmp .eq 18, 3) := by decide +kernel
theorem dL_law_1594 : decode cL_law 1594 = .ok (.iconst 0, 1) := by decide +kernel
theorem dL_law_1595 : decode cL_law 1595 = .ok (.ireturn, 1) := by decide +kernel
theorem dL_law_1596 : decode cL_law 1596 = .ok (.aload_n 1, 1) := by decide +kernel
theorem dL_law_1597 : decode cL_law 1597 = .ok (.invokevirtual 198, 3) := by decide +kernel
theorem dL_law_1600 : decode cL_law 1600 = .ok (.aload_n 2, 1) := by decide +kernel
theorem dL_law_1601 : decode cL_law 1601 = .ok (.invokevirtual 201, 3) := by decide +kernel
theorem dL_law_1604 : decode cL_law 1604 = .ok (.if_icmp .eq 5, 3) := by decide +kernel
theorem dL_law_1607 : decode cL_law 1607 = .ok (.iconst 0, 1) := by decide +kernel
theorem dL_law_1608 : decode cL_law 1608 = .ok (.ireturn, 1) := by decide +kernel
theorem dL_law_1609 : decode cL_law 1609 = .ok (.iinc 3 6, 3) := by decide +kernel
theorem dL_law_1612 : decode cL_law 1612 = .ok (.goto (-1594), 3) := by decide +kernel
theorem dL_law_1615 : decode cL_law 1615 = .ok (.iconst 1, 1) := by decide +kernel
theorem dL_law_1616 : decode cL_law 1616 = .ok (.ireturn, 1) := by decide +kernel
