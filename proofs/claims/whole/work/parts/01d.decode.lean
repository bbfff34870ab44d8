theorem dX9_init_0 : decode cX9_init 0 = .ok (.aload_n 0, 1) := by decide +kernel
theorem dX9_init_1 : decode cX9_init 1 = .ok (.invokespecial 1, 3) := by decide +kernel
theorem dX9_init_4 : decode cX9_init 4 = .ok (.aload_n 0, 1) := by decide +kernel
theorem dX9_init_5 : decode cX9_init 5 = .ok (.iconst 4, 1) := by decide +kernel
theorem dX9_init_6 : decode cX9_init 6 = .ok (.newarray .int, 2) := by decide +kernel
theorem dX9_init_8 : decode cX9_init 8 = .ok (.putfield 7, 3) := by decide +kernel
theorem dX9_init_11 : decode cX9_init 11 = .ok (.aload_n 0, 1) := by decide +kernel
theorem dX9_init_12 : decode cX9_init 12 = .ok (.iconst 4, 1) := by decide +kernel
theorem dX9_init_13 : decode cX9_init 13 = .ok (.newarray .int, 2) := by decide +kernel
theorem dX9_init_15 : decode cX9_init 15 = .ok (.putfield 13, 3) := by decide +kernel
theorem dX9_init_18 : decode cX9_init 18 = .ok (.aload_n 0, 1) := by decide +kernel
theorem dX9_init_19 : decode cX9_init 19 = .ok (.iconst 4, 1) := by decide +kernel
theorem dX9_init_20 : decode cX9_init 20 = .ok (.newarray .int, 2) := by decide +kernel
theorem dX9_init_22 : decode cX9_init 22 = .ok (.putfield 16, 3) := by decide +kernel
theorem dX9_init_25 : decode cX9_init 25 = .ok (.aload_n 0, 1) := by decide +kernel
theorem dX9_init_26 : decode cX9_init 26 = .ok (.iconst 4, 1) := by decide +kernel
theorem dX9_init_27 : decode cX9_init 27 = .ok (.newarray .int, 2) := by decide +kernel
theorem dX9_init_29 : decode cX9_init 29 = .ok (.putfield 19, 3) := by decide +kernel
theorem dX9_init_32 : decode cX9_init 32 = .ok (.aload_n 0, 1) := by decide +kernel
theorem dX9_init_33 : decode cX9_init 33 = .ok (.bipush 32, 2) := by decide +kernel
theorem dX9_init_35 : decode cX9_init 35 = .ok (.newarray .int, 2) := by decide +kernel
theorem dX9_init_37 : decode cX9_init 37 = .ok (.putfield 22, 3) := by decide +kernel
theorem dX9_init_40 : decode cX9_init 40 = .ok (.aload_n 0, 1) := by decide +kernel
theorem dX9_init_41 : decode cX9_init 41 = .ok (.bipush 16, 2) := by decide +kernel
theorem dX9_init_43 : decode cX9_init 43 = .ok (.newarray .int, 2) := by decide +kernel
theorem dX9_init_45 : decode cX9_init 45 = .ok (.putfield 25, 3) := by decide +kernel
theorem dX9_init_48 : decode cX9_init 48 = .ok (.aload_n 0, 1) := by decide +kernel
theorem dX9_init_49 : decode cX9_init 49 = .ok (.bipush 10, 2) := by decide +kernel
theorem dX9_init_51 : decode cX9_init 51 = .ok (.newarray .int, 2) := by decide +kernel
theorem dX9_init_53 : decode cX9_init 53 = .ok (.putfield 28, 3) := by decide +kernel
theorem dX9_init_56 : decode cX9_init 56 = .ok (.aload_n 0, 1) := by decide +kernel
theorem dX9_init_57 : decode cX9_init 57 = .ok (.bipush 10, 2) := by decide +kernel
theorem dX9_init_59 : decode cX9_init 59 = .ok (.newarray .int, 2) := by decide +kernel
theorem dX9_init_61 : decode cX9_init 61 = .ok (.putfield 31, 3) := by decide +kernel
theorem dX9_init_64 : decode cX9_init 64 = .ok (.aload_n 0, 1) := by decide +kernel
theorem dX9_init_65 : decode cX9_init 65 = .ok (.bipush 10, 2) := by decide +kernel
theorem dX9_init_67 : decode cX9_init 67 = .ok (.newarray .int, 2) := by decide +kernel
theorem dX9_init_69 : decode cX9_init 69 = .ok (.putfield 34, 3) := by decide +kernel
theorem dX9_init_72 : decode cX9_init 72 = .ok (.aload_n 0, 1) := by decide +kernel
theorem dX9_init_73 : decode cX9_init 73 = .ok (.bipush 10, 2) := by decide +kernel
theorem dX9_init_75 : decode cX9_init 75 = .ok (.newarray .int, 2) := by decide +kernel
theorem dX9_init_77 : decode cX9_init 77 = .ok (.putfield 37, 3) := by decide +kernel
theorem dX9_init_80 : decode cX9_init 80 = .ok (.aload_n 0, 1) := by decide +kernel
theorem dX9_init_81 : decode cX9_init 81 = .ok (.iconst 4, 1) := by decide +kernel
theorem dX9_init_82 : decode cX9_init 82 = .ok (.newarray .int, 2) := by decide +kernel
theorem dX9_init_84 : decode cX9_init 84 = .ok (.putfield 40, 3) := by decide +kernel
theorem dX9_init_87 : decode cX9_init 87 = .ok (.aload_n 0, 1) := by decide +kernel
theorem dX9_init_88 : decode cX9_init 88 = .ok (.bipush 10, 2) := by decide +kernel
theorem dX9_init_90 : decode cX9_init 90 = .ok (.newarray .int, 2) := by decide +kernel
theorem dX9_init_92 : decode cX9_init 92 = .ok (.putfield 43, 3) := by decide +kernel
theorem dX9_init_95 : decode cX9_init 95 = .ok (.aload_n 0, 1) := by decide +kernel
theorem dX9_init_96 : decode cX9_init 96 = .ok (.bipush 10, 2) := by decide +kernel
theorem dX9_init_98 : decode cX9_init 98 = .ok (.newarray .int, 2) := by decide +kernel
theorem dX9_init_100 : decode cX9_init 100 = .ok (.putfield 46, 3) := by decide +kernel
theorem dX9_init_103 : decode cX9_init 103 = .ok (.aload_n 0, 1) := by decide +kernel
theorem dX9_init_104 : decode cX9_init 104 = .ok (.bipush 10, 2) := by decide +kernel
theorem dX9_init_106 : decode cX9_init 106 = .ok (.newarray .int, 2) := by decide +kernel
theorem dX9_init_108 : decode cX9_init 108 = .ok (.putfield 49, 3) := by decide +kernel
theorem dX9_init_111 : decode cX9_init 111 = .ok (.aload_n 0, 1) := by decide +kernel
theorem dX9_init_112 : decode cX9_init 112 = .ok (.bipush 10, 2) := by decide +kernel
theorem dX9_init_114 : decode cX9_init 114 = .ok (.newarray .int, 2) := by decide +kernel
theorem dX9_init_116 : decode cX9_init 116 = .ok (.putfield 52, 3) := by decide +kernel
theorem dX9_init_119 : decode cX9_init 119 = .ok (.aload_n 0, 1) := by decide +kernel
theorem dX9_init_120 : decode cX9_init 120 = .ok (.iconst 4, 1) := by decide +kernel
theorem dX9_init_121 : decode cX9_init 121 = .ok (.newarray .int, 2) := by decide +kernel
theorem dX9_init_123 : decode cX9_init 123 = .ok (.putfield 55, 3) := by decide +kernel
theorem dX9_init_126 : decode cX9_init 126 = .ok (.aload_n 0, 1) := by decide +kernel
theorem dX9_init_127 : decode cX9_init 127 = .ok (.iconst 4, 1) := by decide +kernel
theorem dX9_init_128 : decode cX9_init 128 = .ok (.newarray .int, 2) := by decide +kernel
theorem dX9_init_130 : decode cX9_init 130 = .ok (.putfield 58, 3) := by decide +kernel
theorem dX9_init_133 : decode cX9_init 133 = .ok (.aload_n 0, 1) := by decide +kernel
theorem dX9_init_134 : decode cX9_init 134 = .ok (.bipush 32, 2) := by decide +kernel
theorem dX9_init_136 : decode cX9_init 136 = .ok (.newarray .int, 2) := by decide +kernel
theorem dX9_init_138 : decode cX9_init 138 = .ok (.putfield 61, 3) := by decide +kernel
theorem dX9_init_141 : decode cX9_init 141 = .ok (.aload_n 0, 1) := by decide +kernel
theorem dX9_init_142 : decode cX9_init 142 = .ok (.iconst 4, 1) := by decide +kernel
theorem dX9_init_143 : decode cX9_init 143 = .ok (.newarray .int, 2) := by decide +kernel
theorem dX9_init_145 : decode cX9_init 145 = .ok (.putfield 64, 3) := by decide +kernel
theorem dX9_init_148 : decode cX9_init 148 = .ok (.aload_n 0, 1) := by decide +kernel
theorem dX9_init_149 : decode cX9_init 149 = .ok (.iconst 4, 1) := by decide +kernel
theorem dX9_init_150 : decode cX9_init 150 = .ok (.newarray .int, 2) := by decide +kernel
theorem dX9_init_152 : decode cX9_init 152 = .ok (.putfield 67, 3) := by decide +kernel
theorem dX9_init_155 : decode cX9_init 155 = .ok (.aload_n 0, 1) := by decide +kernel
theorem dX9_init_156 : decode cX9_init 156 = .ok (.iconst 4, 1) := by decide +kernel
theorem dX9_init_157 : decode cX9_init 157 = .ok (.newarray .int, 2) := by decide +kernel
theorem dX9_init_159 : decode cX9_init 159 = .ok (.putfield 70, 3) := by decide +kernel
theorem dX9_init_162 : decode cX9_init 162 = .ok (.aload_n 0, 1) := by decide +kernel
theorem dX9_init_163 : decode cX9_init 163 = .ok (.iconst 4, 1) := by decide +kernel
theorem dX9_init_164 : decode cX9_init 164 = .ok (.newarray .int, 2) := by decide +kernel
theorem dX9_init_166 : decode cX9_init 166 = .ok (.putfield 73, 3) := by decide +kernel
theorem dX9_init_169 : decode cX9_init 169 = .ok (.aload_n 0, 1) := by decide +kernel
theorem dX9_init_170 : decode cX9_init 170 = .ok (.iconst 4, 1) := by decide +kernel
theorem dX9_init_171 : decode cX9_init 171 = .ok (.newarray .int, 2) := by decide +kernel
theorem dX9_init_173 : decode cX9_init 173 = .ok (.putfield 76, 3) := by decide +kernel
theorem dX9_init_176 : decode cX9_init 176 = .ok (.aload_n 0, 1) := by decide +kernel
theorem dX9_init_177 : decode cX9_init 177 = .ok (.sipush 240, 3) := by decide +kernel
theorem dX9_init_180 : decode cX9_init 180 = .ok (.newarray .int, 2) := by decide +kernel
theorem dX9_init_182 : decode cX9_init 182 = .ok (.putfield 79, 3) := by decide +kernel
theorem dX9_init_185 : decode cX9_init 185 = .ok (.aload_n 0, 1) := by decide +kernel
theorem dX9_init_186 : decode cX9_init 186 = .ok (.bipush 60, 2) := by decide +kernel
theorem dX9_init_188 : decode cX9_init 188 = .ok (.newarray .int, 2) := by decide +kernel
theorem dX9_init_190 : decode cX9_init 190 = .ok (.putfield 82, 3) := by decide +kernel
theorem dX9_init_193 : decode cX9_init 193 = .ok (.iconst 0, 1) := by decide +kernel
theorem dX9_init_194 : decode cX9_init 194 = .ok (.istore_n 1, 1) := by decide +kernel
theorem dX9_init_195 : decode cX9_init 195 = .ok (.iload_n 1, 1) := by decide +kernel
theorem dX9_init_196 : decode cX9_init 196 = .ok (.iconst 4, 1) := by decide +kernel
theorem dX9_init_197 : decode cX9_init 197 = .ok (.if_icmp .ge 16, 3) := by decide +kernel
theorem dX9_init_200 : decode cX9_init 200 = .ok (.aload_n 0, 1) := by decide +kernel
theorem dX9_init_201 : decode cX9_init 201 = .ok (.getfield 73, 3) := by decide +kernel
theorem dX9_init_204 : decode cX9_init 204 = .ok (.iload_n 1, 1) := by decide +kernel
theorem dX9_init_205 : decode cX9_init 205 = .ok (.iconst (-1), 1) := by decide +kernel
theorem dX9_init_206 : decode cX9_init 206 = .ok (.iastore, 1) := by decide +kernel
theorem dX9_init_207 : decode cX9_init 207 = .ok (.iinc 1 1, 3) := by decide +kernel
theorem dX9_init_210 : decode cX9_init 210 = .ok (.goto (-15), 3) := by decide +kernel
theorem dX9_init_213 : decode cX9_init 213 = .ok (.return_, 1) := by decide +kernel
theorem dX9_in_0 : decode cX9_in 0 = .ok (.lload_n 0, 1) := by decide +kernel
theorem dX9_in_1 : decode cX9_in 1 = .ok (.lload_n 2, 1) := by decide +kernel
theorem dX9_in_2 : decode cX9_in 2 = .ok (.lcmp, 1) := by decide +kernel
theorem dX9_in_3 : decode cX9_in 3 = .ok (.ifCond .lt 14, 3) := by decide +kernel
theorem dX9_in_6 : decode cX9_in 6 = .ok (.lload_n 0, 1) := by decide +kernel
theorem dX9_in_7 : decode cX9_in 7 = .ok (.lload 4, 2) := by decide +kernel
theorem dX9_in_9 : decode cX9_in 9 = .ok (.lcmp, 1) := by decide +kernel
theorem dX9_in_10 : decode cX9_in 10 = .ok (.ifCond .gt 7, 3) := by decide +kernel
theorem dX9_in_13 : decode cX9_in 13 = .ok (.iconst 1, 1) := by decide +kernel
theorem dX9_in_14 : decode cX9_in 14 = .ok (.goto 4, 3) := by decide +kernel
theorem dX9_in_17 : decode cX9_in 17 = .ok (.iconst 0, 1) := by decide +kernel
theorem dX9_in_18 : decode cX9_in 18 = .ok (.ireturn, 1) := by decide +kernel
theorem dX9_lost_0 : decode cX9_lost 0 = .ok (.ldc2_w 85, 3) := by decide +kernel
theorem dX9_lost_3 : decode cX9_lost 3 = .ok (.lreturn, 1) := by decide +kernel
theorem dX9_greater_0 : decode cX9_greater 0 = .ok (.iload_n 0, 1) := by decide +kernel
theorem dX9_greater_1 : decode cX9_greater 1 = .ok (.iload_n 1, 1) := by decide +kernel
theorem dX9_greater_2 : decode cX9_greater 2 = .ok (.if_icmp .le 7, 3) := by decide +kernel
theorem dX9_greater_5 : decode cX9_greater 5 = .ok (.iload_n 0, 1) := by decide +kernel
theorem dX9_greater_6 : decode cX9_greater 6 = .ok (.goto 4, 3) := by decide +kernel
theorem dX9_greater_9 : decode cX9_greater 9 = .ok (.iload_n 1, 1) := by decide +kernel
theorem dX9_greater_10 : decode cX9_greater 10 = .ok (.ireturn, 1) := by decide +kernel
theorem dX9_told_0 : decode cX9_told 0 = .ok (.lload_n 0, 1) := by decide +kernel
theorem dX9_told_1 : decode cX9_told 1 = .ok (.lconst 0, 1) := by decide +kernel
theorem dX9_told_2 : decode cX9_told 2 = .ok (.lcmp, 1) := by decide +kernel
theorem dX9_told_3 : decode cX9_told 3 = .ok (.ifCond .ge 8, 3) := by decide +kernel
theorem dX9_told_6 : decode cX9_told 6 = .ok (.lload_n 0, 1) := by decide +kernel
theorem dX9_told_7 : decode cX9_told 7 = .ok (.lneg, 1) := by decide +kernel
theorem dX9_told_8 : decode cX9_told 8 = .ok (.goto 4, 3) := by decide +kernel
theorem dX9_told_11 : decode cX9_told 11 = .ok (.lload_n 0, 1) := by decide +kernel
theorem dX9_told_12 : decode cX9_told 12 = .ok (.lstore 5, 2) := by decide +kernel
theorem dX9_told_14 : decode cX9_told 14 = .ok (.lload_n 2, 1) := by decide +kernel
theorem dX9_told_15 : decode cX9_told 15 = .ok (.lstore 7, 2) := by decide +kernel
theorem dX9_told_17 : decode cX9_told 17 = .ok (.lload 7, 2) := by decide +kernel
theorem dX9_told_19 : decode cX9_told 19 = .ok (.lconst 0, 1) := by decide +kernel
theorem dX9_told_20 : decode cX9_told 20 = .ok (.lcmp, 1) := by decide +kernel
theorem dX9_told_21 : decode cX9_told 21 = .ok (.ifCond .eq 21, 3) := by decide +kernel
theorem dX9_told_24 : decode cX9_told 24 = .ok (.lload 5, 2) := by decide +kernel
theorem dX9_told_26 : decode cX9_told 26 = .ok (.lload 7, 2) := by decide +kernel
theorem dX9_told_28 : decode cX9_told 28 = .ok (.lrem, 1) := by decide +kernel
theorem dX9_told_29 : decode cX9_told 29 = .ok (.lstore 9, 2) := by decide +kernel
theorem dX9_told_31 : decode cX9_told 31 = .ok (.lload 7, 2) := by decide +kernel
theorem dX9_told_33 : decode cX9_told 33 = .ok (.lstore 5, 2) := by decide +kernel
theorem dX9_told_35 : decode cX9_told 35 = .ok (.lload 9, 2) := by decide +kernel
theorem dX9_told_37 : decode cX9_told 37 = .ok (.lstore 7, 2) := by decide +kernel
theorem dX9_told_39 : decode cX9_told 39 = .ok (.goto (-22), 3) := by decide +kernel
theorem dX9_told_42 : decode cX9_told 42 = .ok (.iload 4, 2) := by decide +kernel
theorem dX9_told_44 : decode cX9_told 44 = .ok (.ifCond .ne 7, 3) := by decide +kernel
theorem dX9_told_47 : decode cX9_told 47 = .ok (.lload_n 0, 1) := by decide +kernel
theorem dX9_told_48 : decode cX9_told 48 = .ok (.goto 4, 3) := by decide +kernel
theorem dX9_told_51 : decode cX9_told 51 = .ok (.lload_n 2, 1) := by decide +kernel
theorem dX9_told_52 : decode cX9_told 52 = .ok (.lload 5, 2) := by decide +kernel
theorem dX9_told_54 : decode cX9_told 54 = .ok (.ldiv, 1) := by decide +kernel
theorem dX9_told_55 : decode cX9_told 55 = .ok (.lreturn, 1) := by decide +kernel
theorem dX9_isWhich_0 : decode cX9_isWhich 0 = .ok (.iload_n 0, 1) := by decide +kernel
theorem dX9_isWhich_1 : decode cX9_isWhich 1 = .ok (.i2l, 1) := by decide +kernel
theorem dX9_isWhich_2 : decode cX9_isWhich 2 = .ok (.lconst 0, 1) := by decide +kernel
theorem dX9_isWhich_3 : decode cX9_isWhich 3 = .ok (.lconst 1, 1) := by decide +kernel
theorem dX9_isWhich_4 : decode cX9_isWhich 4 = .ok (.invokestatic 87, 3) := by decide +kernel
theorem dX9_isWhich_7 : decode cX9_isWhich 7 = .ok (.ireturn, 1) := by decide +kernel
theorem dX9_refused_0 : decode cX9_refused 0 = .ok (.aload_n 0, 1) := by decide +kernel
theorem dX9_refused_1 : decode cX9_refused 1 = .ok (.iconst 0, 1) := by decide +kernel
theorem dX9_refused_2 : decode cX9_refused 2 = .ok (.putfield 91, 3) := by decide +kernel
theorem dX9_refused_5 : decode cX9_refused 5 = .ok (.iload_n 1, 1) := by decide +kernel
theorem dX9_refused_6 : decode cX9_refused 6 = .ok (.ireturn, 1) := by decide +kernel
theorem dX9_failed_0 : decode cX9_failed 0 = .ok (.aload_n 0, 1) := by decide +kernel
theorem dX9_failed_1 : decode cX9_failed 1 = .ok (.iload_n 1, 1) := by decide +kernel
theorem dX9_failed_2 : decode cX9_failed 2 = .ok (.putfield 91, 3) := by decide +kernel
theorem dX9_failed_5 : decode cX9_failed 5 = .ok (.bipush (-10), 2) := by decide +kernel
theorem dX9_failed_7 : decode cX9_failed 7 = .ok (.iload_n 1, 1) := by decide +kernel
theorem dX9_failed_8 : decode cX9_failed 8 = .ok (.isub, 1) := by decide +kernel
theorem dX9_failed_9 : decode cX9_failed 9 = .ok (.ireturn, 1) := by decide +kernel
theorem dX9_failedLong_0 : decode cX9_failedLong 0 = .ok (.aload_n 0, 1) := by decide +kernel
theorem dX9_failedLong_1 : decode cX9_failedLong 1 = .ok (.iload_n 1, 1) := by decide +kernel
theorem dX9_failedLong_2 : decode cX9_failedLong 2 = .ok (.putfield 91, 3) := by decide +kernel
theorem dX9_failedLong_5 : decode cX9_failedLong 5 = .ok (.invokestatic 95, 3) := by decide +kernel
theorem dX9_failedLong_8 : decode cX9_failedLong 8 = .ok (.lreturn, 1) := by decide +kernel
theorem dX9_barred_0 : decode cX9_barred 0 = .ok (.iload_n 1, 1) := by decide +kernel
theorem dX9_barred_1 : decode cX9_barred 1 = .ok (.invokestatic 99, 3) := by decide +kernel
theorem dX9_barred_4 : decode cX9_barred 4 = .ok (.ifCond .eq 9, 3) := by decide +kernel
theorem dX9_barred_7 : decode cX9_barred 7 = .ok (.aload_n 0, 1) := by decide +kernel
theorem dX9_barred_8 : decode cX9_barred 8 = .ok (.iconst (-1), 1) := by decide +kernel
theorem dX9_barred_9 : decode cX9_barred 9 = .ok (.invokevirtual 103, 3) := by decide +kernel
theorem dX9_barred_12 : decode cX9_barred 12 = .ok (.ireturn, 1) := by decide +kernel
theorem dX9_barred_13 : decode cX9_barred 13 = .ok (.iload_n 2, 1) := by decide +kernel
theorem dX9_barred_14 : decode cX9_barred 14 = .ok (.i2l, 1) := by decide +kernel
theorem dX9_barred_15 : decode cX9_barred 15 = .ok (.lconst 0, 1) := by decide +kernel
theorem dX9_barred_16 : decode cX9_barred 16 = .ok (.ldc2_w 107, 3) := by decide +kernel
theorem dX9_barred_19 : decode cX9_barred 19 = .ok (.invokestatic 87, 3) := by decide +kernel
theorem dX9_barred_22 : decode cX9_barred 22 = .ok (.ifCond .ne 10, 3) := by decide +kernel
theorem dX9_barred_25 : decode cX9_barred 25 = .ok (.aload_n 0, 1) := by decide +kernel
theorem dX9_barred_26 : decode cX9_barred 26 = .ok (.bipush (-2), 2) := by decide +kernel
theorem dX9_barred_28 : decode cX9_barred 28 = .ok (.invokevirtual 103, 3) := by decide +kernel
theorem dX9_barred_31 : decode cX9_barred 31 = .ok (.ireturn, 1) := by decide +kernel
theorem dX9_barred_32 : decode cX9_barred 32 = .ok (.aload_n 0, 1) := by decide +kernel
theorem dX9_barred_33 : decode cX9_barred 33 = .ok (.getfield 73, 3) := by decide +kernel
theorem dX9_barred_36 : decode cX9_barred 36 = .ok (.iload_n 1, 1) := by decide +kernel
theorem dX9_barred_37 : decode cX9_barred 37 = .ok (.iaload, 1) := by decide +kernel
theorem dX9_barred_38 : decode cX9_barred 38 = .ok (.ifCond .lt 19, 3) := by decide +kernel
theorem dX9_barred_41 : decode cX9_barred 41 = .ok (.aload_n 0, 1) := by decide +kernel
theorem dX9_barred_42 : decode cX9_barred 42 = .ok (.getfield 76, 3) := by decide +kernel
theorem dX9_barred_45 : decode cX9_barred 45 = .ok (.iload_n 1, 1) := by decide +kernel
theorem dX9_barred_46 : decode cX9_barred 46 = .ok (.iaload, 1) := by decide +kernel
theorem dX9_barred_47 : decode cX9_barred 47 = .ok (.iload_n 2, 1) := by decide +kernel
theorem dX9_barred_48 : decode cX9_barred 48 = .ok (.if_icmp .eq 9, 3) := by decide +kernel
theorem dX9_barred_51 : decode cX9_barred 51 = .ok (.aload_n 0, 1) := by decide +kernel
theorem dX9_barred_52 : decode cX9_barred 52 = .ok (.iconst 2, 1) := by decide +kernel
theorem dX9_barred_53 : decode cX9_barred 53 = .ok (.invokevirtual 109, 3) := by decide +kernel
theorem dX9_barred_56 : decode cX9_barred 56 = .ok (.ireturn, 1) := by decide +kernel
theorem dX9_barred_57 : decode cX9_barred 57 = .ok (.aload_n 0, 1) := by decide +kernel
theorem dX9_barred_58 : decode cX9_barred 58 = .ok (.getfield 73, 3) := by decide +kernel
theorem dX9_barred_61 : decode cX9_barred 61 = .ok (.iload_n 1, 1) := by decide +kernel
theorem dX9_barred_62 : decode cX9_barred 62 = .ok (.iaload, 1) := by decide +kernel
theorem dX9_barred_63 : decode cX9_barred 63 = .ok (.ifCond .ge 9, 3) := by decide +kernel
theorem dX9_barred_66 : decode cX9_barred 66 = .ok (.aload_n 0, 1) := by decide +kernel
theorem dX9_barred_67 : decode cX9_barred 67 = .ok (.iconst 1, 1) := by decide +kernel
theorem dX9_barred_68 : decode cX9_barred 68 = .ok (.invokevirtual 109, 3) := by decide +kernel
theorem dX9_barred_71 : decode cX9_barred 71 = .ok (.ireturn, 1) := by decide +kernel
theorem dX9_barred_72 : decode cX9_barred 72 = .ok (.lload 4, 2) := by decide +kernel
theorem dX9_barred_74 : decode cX9_barred 74 = .ok (.lconst 0, 1) := by decide +kernel
theorem dX9_barred_75 : decode cX9_barred 75 = .ok (.lcmp, 1) := by decide +kernel
theorem dX9_barred_76 : decode cX9_barred 76 = .ok (.ifCond .ge 9, 3) := by decide +kernel
theorem dX9_barred_79 : decode cX9_barred 79 = .ok (.aload_n 0, 1) := by decide +kernel
theorem dX9_barred_80 : decode cX9_barred 80 = .ok (.iconst 4, 1) := by decide +kernel
theorem dX9_barred_81 : decode cX9_barred 81 = .ok (.invokevirtual 109, 3) := by decide +kernel
theorem dX9_barred_84 : decode cX9_barred 84 = .ok (.ireturn, 1) := by decide +kernel
theorem dX9_barred_85 : decode cX9_barred 85 = .ok (.iload_n 3, 1) := by decide +kernel
theorem dX9_barred_86 : decode cX9_barred 86 = .ok (.lload 4, 2) := by decide +kernel
theorem dX9_barred_88 : decode cX9_barred 88 = .ok (.aload_n 0, 1) := by decide +kernel
theorem dX9_barred_89 : decode cX9_barred 89 = .ok (.getfield 73, 3) := by decide +kernel
theorem dX9_barred_92 : decode cX9_barred 92 = .ok (.iload_n 1, 1) := by decide +kernel
theorem dX9_barred_93 : decode cX9_barred 93 = .ok (.iaload, 1) := by decide +kernel
theorem dX9_barred_94 : decode cX9_barred 94 = .ok (.invokestatic 112, 3) := by decide +kernel
theorem dX9_barred_97 : decode cX9_barred 97 = .ok (.ifCond .eq 11, 3) := by decide +kernel
theorem dX9_barred_100 : decode cX9_barred 100 = .ok (.aload_n 0, 1) := by decide +kernel
theorem dX9_barred_101 : decode cX9_barred 101 = .ok (.iconst 3, 1) := by decide +kernel
theorem dX9_barred_102 : decode cX9_barred 102 = .ok (.invokevirtual 109, 3) := by decide +kernel
theorem dX9_barred_105 : decode cX9_barred 105 = .ok (.goto 4, 3) := by decide +kernel
theorem dX9_barred_108 : decode cX9_barred 108 = .ok (.iconst 0, 1) := by decide +kernel
theorem dX9_barred_109 : decode cX9_barred 109 = .ok (.ireturn, 1) := by decide +kernel
theorem dX9_noSort_0 : decode cX9_noSort 0 = .ok (.iload_n 1, 1) := by decide +kernel
theorem dX9_noSort_1 : decode cX9_noSort 1 = .ok (.i2l, 1) := by decide +kernel
theorem dX9_noSort_2 : decode cX9_noSort 2 = .ok (.lconst 0, 1) := by decide +kernel
theorem dX9_noSort_3 : decode cX9_noSort 3 = .ok (.aload_n 0, 1) := by decide +kernel
theorem dX9_noSort_4 : decode cX9_noSort 4 = .ok (.getfield 116, 3) := by decide +kernel
theorem dX9_noSort_7 : decode cX9_noSort 7 = .ok (.i2l, 1) := by decide +kernel
theorem dX9_noSort_8 : decode cX9_noSort 8 = .ok (.lconst 1, 1) := by decide +kernel
theorem dX9_noSort_9 : decode cX9_noSort 9 = .ok (.lsub, 1) := by decide +kernel
theorem dX9_noSort_10 : decode cX9_noSort 10 = .ok (.invokestatic 87, 3) := by decide +kernel
theorem dX9_noSort_13 : decode cX9_noSort 13 = .ok (.ifCond .ne 7, 3) := by decide +kernel
theorem dX9_noSort_16 : decode cX9_noSort 16 = .ok (.iconst 1, 1) := by decide +kernel
theorem dX9_noSort_17 : decode cX9_noSort 17 = .ok (.goto 4, 3) := by decide +kernel
theorem dX9_noSort_20 : decode cX9_noSort 20 = .ok (.iconst 0, 1) := by decide +kernel
theorem dX9_noSort_21 : decode cX9_noSort 21 = .ok (.ireturn, 1) := by decide +kernel
theorem dX9_noHour_0 : decode cX9_noHour 0 = .ok (.iload_n 1, 1) := by decide +kernel
theorem dX9_noHour_1 : decode cX9_noHour 1 = .ok (.i2l, 1) := by decide +kernel
theorem dX9_noHour_2 : decode cX9_noHour 2 = .ok (.lconst 0, 1) := by decide +kernel
theorem dX9_noHour_3 : decode cX9_noHour 3 = .ok (.aload_n 0, 1) := by decide +kernel
theorem dX9_noHour_4 : decode cX9_noHour 4 = .ok (.getfield 119, 3) := by decide +kernel
theorem dX9_noHour_7 : decode cX9_noHour 7 = .ok (.i2l, 1) := by decide +kernel
theorem dX9_noHour_8 : decode cX9_noHour 8 = .ok (.lconst 1, 1) := by decide +kernel
theorem dX9_noHour_9 : decode cX9_noHour 9 = .ok (.lsub, 1) := by decide +kernel
theorem dX9_noHour_10 : decode cX9_noHour 10 = .ok (.invokestatic 87, 3) := by decide +kernel
theorem dX9_noHour_13 : decode cX9_noHour 13 = .ok (.ifCond .ne 7, 3) := by decide +kernel
theorem dX9_noHour_16 : decode cX9_noHour 16 = .ok (.iconst 1, 1) := by decide +kernel
theorem dX9_noHour_17 : decode cX9_noHour 17 = .ok (.goto 4, 3) := by decide +kernel
theorem dX9_noHour_20 : decode cX9_noHour 20 = .ok (.iconst 0, 1) := by decide +kernel
theorem dX9_noHour_21 : decode cX9_noHour 21 = .ok (.ireturn, 1) := by decide +kernel
theorem dX9_takes_0 : decode cX9_takes 0 = .ok (.aload_n 0, 1) := by decide +kernel
theorem dX9_takes_1 : decode cX9_takes 1 = .ok (.getfield 122, 3) := by decide +kernel
theorem dX9_takes_4 : decode cX9_takes 4 = .ok (.iload_n 3, 1) := by decide +kernel
theorem dX9_takes_5 : decode cX9_takes 5 = .ok (.if_icmp .ge 22, 3) := by decide +kernel
theorem dX9_takes_8 : decode cX9_takes 8 = .ok (.aload_n 0, 1) := by decide +kernel
theorem dX9_takes_9 : decode cX9_takes 9 = .ok (.getfield 79, 3) := by decide +kernel
theorem dX9_takes_12 : decode cX9_takes 12 = .ok (.iload_n 2, 1) := by decide +kernel
theorem dX9_takes_13 : decode cX9_takes 13 = .ok (.aload_n 0, 1) := by decide +kernel
theorem dX9_takes_14 : decode cX9_takes 14 = .ok (.getfield 122, 3) := by decide +kernel
theorem dX9_takes_17 : decode cX9_takes 17 = .ok (.iadd, 1) := by decide +kernel
theorem dX9_takes_18 : decode cX9_takes 18 = .ok (.iaload, 1) := by decide +kernel
theorem dX9_takes_19 : decode cX9_takes 19 = .ok (.iload_n 1, 1) := by decide +kernel
theorem dX9_takes_20 : decode cX9_takes 20 = .ok (.if_icmp .ne 7, 3) := by decide +kernel
theorem dX9_takes_23 : decode cX9_takes 23 = .ok (.iconst 1, 1) := by decide +kernel
theorem dX9_takes_24 : decode cX9_takes 24 = .ok (.goto 4, 3) := by decide +kernel
theorem dX9_takes_27 : decode cX9_takes 27 = .ok (.iconst 0, 1) := by decide +kernel
theorem dX9_takes_28 : decode cX9_takes 28 = .ok (.istore 4, 2) := by decide +kernel
theorem dX9_takes_30 : decode cX9_takes 30 = .ok (.aload_n 0, 1) := by decide +kernel
theorem dX9_takes_31 : decode cX9_takes 31 = .ok (.dup, 1) := by decide +kernel
theorem dX9_takes_32 : decode cX9_takes 32 = .ok (.getfield 122, 3) := by decide +kernel
theorem dX9_takes_35 : decode cX9_takes 35 = .ok (.iload 4, 2) := by decide +kernel
theorem dX9_takes_37 : decode cX9_takes 37 = .ok (.ifCond .eq 7, 3) := by decide +kernel
theorem dX9_takes_40 : decode cX9_takes 40 = .ok (.iconst 1, 1) := by decide +kernel
theorem dX9_takes_41 : decode cX9_takes 41 = .ok (.goto 4, 3) := by decide +kernel
theorem dX9_takes_44 : decode cX9_takes 44 = .ok (.iconst 0, 1) := by decide +kernel
theorem dX9_takes_45 : decode cX9_takes 45 = .ok (.iadd, 1) := by decide +kernel
theorem dX9_takes_46 : decode cX9_takes 46 = .ok (.putfield 122, 3) := by decide +kernel
theorem dX9_takes_49 : decode cX9_takes 49 = .ok (.iload 4, 2) := by decide +kernel
theorem dX9_takes_51 : decode cX9_takes 51 = .ok (.ireturn, 1) := by decide +kernel
theorem dX9_readsFigure_0 : decode cX9_readsFigure 0 = .ok (.aload_n 0, 1) := by decide +kernel
theorem dX9_readsFigure_1 : decode cX9_readsFigure 1 = .ok (.aload_n 0, 1) := by decide +kernel
theorem dX9_readsFigure_2 : decode cX9_readsFigure 2 = .ok (.getfield 122, 3) := by decide +kernel
theorem dX9_readsFigure_5 : decode cX9_readsFigure 5 = .ok (.iload_n 2, 1) := by decide +kernel
theorem dX9_readsFigure_6 : decode cX9_readsFigure 6 = .ok (.if_icmp .ge 20, 3) := by decide +kernel
theorem dX9_readsFigure_9 : decode cX9_readsFigure 9 = .ok (.aload_n 0, 1) := by decide +kernel
theorem dX9_readsFigure_10 : decode cX9_readsFigure 10 = .ok (.getfield 79, 3) := by decide +kernel
theorem dX9_readsFigure_13 : decode cX9_readsFigure 13 = .ok (.iload_n 1, 1) := by decide +kernel
theorem dX9_readsFigure_14 : decode cX9_readsFigure 14 = .ok (.aload_n 0, 1) := by decide +kernel
theorem dX9_readsFigure_15 : decode cX9_readsFigure 15 = .ok (.getfield 122, 3) := by decide +kernel
theorem dX9_readsFigure_18 : decode cX9_readsFigure 18 = .ok (.iadd, 1) := by decide +kernel
theorem dX9_readsFigure_19 : decode cX9_readsFigure 19 = .ok (.iaload, 1) := by decide +kernel
theorem dX9_readsFigure_20 : decode cX9_readsFigure 20 = .ok (.bipush 48, 2) := by decide +kernel
theorem dX9_readsFigure_22 : decode cX9_readsFigure 22 = .ok (.isub, 1) := by decide +kernel
theorem dX9_readsFigure_23 : decode cX9_readsFigure 23 = .ok (.goto 5, 3) := by decide +kernel
theorem dX9_readsFigure_26 : decode cX9_readsFigure 26 = .ok (.bipush (-9), 2) := by decide +kernel
theorem dX9_readsFigure_28 : decode cX9_readsFigure 28 = .ok (.putfield 125, 3) := by decide +kernel
theorem dX9_readsFigure_31 : decode cX9_readsFigure 31 = .ok (.aload_n 0, 1) := by decide +kernel
theorem dX9_readsFigure_32 : decode cX9_readsFigure 32 = .ok (.getfield 125, 3) := by decide +kernel
theorem dX9_readsFigure_35 : decode cX9_readsFigure 35 = .ok (.i2l, 1) := by decide +kernel
theorem dX9_readsFigure_36 : decode cX9_readsFigure 36 = .ok (.iload_n 3, 1) := by decide +kernel
theorem dX9_readsFigure_37 : decode cX9_readsFigure 37 = .ok (.i2l, 1) := by decide +kernel
theorem dX9_readsFigure_38 : decode cX9_readsFigure 38 = .ok (.iload 4, 2) := by decide +kernel
theorem dX9_readsFigure_40 : decode cX9_readsFigure 40 = .ok (.i2l, 1) := by decide +kernel
theorem dX9_readsFigure_41 : decode cX9_readsFigure 41 = .ok (.invokestatic 87, 3) := by decide +kernel
theorem dX9_readsFigure_44 : decode cX9_readsFigure 44 = .ok (.istore 5, 2) := by decide +kernel
theorem dX9_readsFigure_46 : decode cX9_readsFigure 46 = .ok (.aload_n 0, 1) := by decide +kernel
theorem dX9_readsFigure_47 : decode cX9_readsFigure 47 = .ok (.dup, 1) := by decide +kernel
theorem dX9_readsFigure_48 : decode cX9_readsFigure 48 = .ok (.getfield 122, 3) := by decide +kernel
theorem dX9_readsFigure_51 : decode cX9_readsFigure 51 = .ok (.iload 5, 2) := by decide +kernel
theorem dX9_readsFigure_53 : decode cX9_readsFigure 53 = .ok (.ifCond .eq 7, 3) := by decide +kernel
theorem dX9_readsFigure_56 : decode cX9_readsFigure 56 = .ok (.iconst 1, 1) := by decide +kernel
theorem dX9_readsFigure_57 : decode cX9_readsFigure 57 = .ok (.goto 4, 3) := by decide +kernel
theorem dX9_readsFigure_60 : decode cX9_readsFigure 60 = .ok (.iconst 0, 1) := by decide +kernel
theorem dX9_readsFigure_61 : decode cX9_readsFigure 61 = .ok (.iadd, 1) := by decide +kernel
theorem dX9_readsFigure_62 : decode cX9_readsFigure 62 = .ok (.putfield 122, 3) := by decide +kernel
theorem dX9_readsFigure_65 : decode cX9_readsFigure 65 = .ok (.iload 5, 2) := by decide +kernel
theorem dX9_readsFigure_67 : decode cX9_readsFigure 67 = .ok (.ireturn, 1) := by decide +kernel
theorem dX9_readsSort_0 : decode cX9_readsSort 0 = .ok (.aload_n 0, 1) := by decide +kernel
theorem dX9_readsSort_1 : decode cX9_readsSort 1 = .ok (.getfield 128, 3) := by decide +kernel
theorem dX9_readsSort_4 : decode cX9_readsSort 4 = .ok (.iconst 4, 1) := by decide +kernel
theorem dX9_readsSort_5 : decode cX9_readsSort 5 = .ok (.if_icmp .ge 29, 3) := by decide +kernel
theorem dX9_readsSort_8 : decode cX9_readsSort 8 = .ok (.aload_n 0, 1) := by decide +kernel
theorem dX9_readsSort_9 : decode cX9_readsSort 9 = .ok (.bipush 59, 2) := by decide +kernel
theorem dX9_readsSort_11 : decode cX9_readsSort 11 = .ok (.iload_n 1, 1) := by decide +kernel
theorem dX9_readsSort_12 : decode cX9_readsSort 12 = .ok (.iload_n 2, 1) := by decide +kernel
theorem dX9_readsSort_13 : decode cX9_readsSort 13 = .ok (.invokevirtual 131, 3) := by decide +kernel
theorem dX9_readsSort_16 : decode cX9_readsSort 16 = .ok (.ifCond .eq 18, 3) := by decide +kernel
theorem dX9_readsSort_19 : decode cX9_readsSort 19 = .ok (.aload_n 0, 1) := by decide +kernel
theorem dX9_readsSort_20 : decode cX9_readsSort 20 = .ok (.bipush 102, 2) := by decide +kernel
theorem dX9_readsSort_22 : decode cX9_readsSort 22 = .ok (.iload_n 1, 1) := by decide +kernel
theorem dX9_readsSort_23 : decode cX9_readsSort 23 = .ok (.iload_n 2, 1) := by decide +kernel
theorem dX9_readsSort_24 : decode cX9_readsSort 24 = .ok (.invokevirtual 131, 3) := by decide +kernel
theorem dX9_readsSort_27 : decode cX9_readsSort 27 = .ok (.ifCond .eq 7, 3) := by decide +kernel
theorem dX9_readsSort_30 : decode cX9_readsSort 30 = .ok (.iconst 1, 1) := by decide +kernel
theorem dX9_readsSort_31 : decode cX9_readsSort 31 = .ok (.goto 4, 3) := by decide +kernel
theorem dX9_readsSort_34 : decode cX9_readsSort 34 = .ok (.iconst 0, 1) := by decide +kernel
theorem dX9_readsSort_35 : decode cX9_readsSort 35 = .ok (.istore_n 3, 1) := by decide +kernel
theorem dX9_readsSort_36 : decode cX9_readsSort 36 = .ok (.iconst 0, 1) := by decide +kernel
theorem dX9_readsSort_37 : decode cX9_readsSort 37 = .ok (.istore 4, 2) := by decide +kernel
theorem dX9_readsSort_39 : decode cX9_readsSort 39 = .ok (.iload 4, 2) := by decide +kernel
theorem dX9_readsSort_41 : decode cX9_readsSort 41 = .ok (.iconst 4, 1) := by decide +kernel
theorem dX9_readsSort_42 : decode cX9_readsSort 42 = .ok (.if_icmp .ge 51, 3) := by decide +kernel
theorem dX9_readsSort_45 : decode cX9_readsSort 45 = .ok (.iload_n 3, 1) := by decide +kernel
theorem dX9_readsSort_46 : decode cX9_readsSort 46 = .ok (.ifCond .eq 47, 3) := by decide +kernel
theorem dX9_readsSort_49 : decode cX9_readsSort 49 = .ok (.aload_n 0, 1) := by decide +kernel
theorem dX9_readsSort_50 : decode cX9_readsSort 50 = .ok (.iload_n 1, 1) := by decide +kernel
theorem dX9_readsSort_51 : decode cX9_readsSort 51 = .ok (.iload_n 2, 1) := by decide +kernel
theorem dX9_readsSort_52 : decode cX9_readsSort 52 = .ok (.iconst 0, 1) := by decide +kernel
theorem dX9_readsSort_53 : decode cX9_readsSort 53 = .ok (.iload 4, 2) := by decide +kernel
theorem dX9_readsSort_55 : decode cX9_readsSort 55 = .ok (.iconst 3, 1) := by decide +kernel
theorem dX9_readsSort_56 : decode cX9_readsSort 56 = .ok (.if_icmp .ne 7, 3) := by decide +kernel
theorem dX9_readsSort_59 : decode cX9_readsSort 59 = .ok (.iconst 3, 1) := by decide +kernel
theorem dX9_readsSort_60 : decode cX9_readsSort 60 = .ok (.goto 5, 3) := by decide +kernel
theorem dX9_readsSort_63 : decode cX9_readsSort 63 = .ok (.bipush 9, 2) := by decide +kernel
theorem dX9_readsSort_65 : decode cX9_readsSort 65 = .ok (.invokevirtual 135, 3) := by decide +kernel
theorem dX9_readsSort_68 : decode cX9_readsSort 68 = .ok (.istore_n 3, 1) := by decide +kernel
theorem dX9_readsSort_69 : decode cX9_readsSort 69 = .ok (.aload_n 0, 1) := by decide +kernel
theorem dX9_readsSort_70 : decode cX9_readsSort 70 = .ok (.getfield 25, 3) := by decide +kernel
theorem dX9_readsSort_73 : decode cX9_readsSort 73 = .ok (.iconst 4, 1) := by decide +kernel
theorem dX9_readsSort_74 : decode cX9_readsSort 74 = .ok (.aload_n 0, 1) := by decide +kernel
theorem dX9_readsSort_75 : decode cX9_readsSort 75 = .ok (.getfield 128, 3) := by decide +kernel
theorem dX9_readsSort_78 : decode cX9_readsSort 78 = .ok (.imul, 1) := by decide +kernel
theorem dX9_readsSort_79 : decode cX9_readsSort 79 = .ok (.iload 4, 2) := by decide +kernel
theorem dX9_readsSort_81 : decode cX9_readsSort 81 = .ok (.iadd, 1) := by decide +kernel
theorem dX9_readsSort_82 : decode cX9_readsSort 82 = .ok (.aload_n 0, 1) := by decide +kernel
theorem dX9_readsSort_83 : decode cX9_readsSort 83 = .ok (.getfield 125, 3) := by decide +kernel
theorem dX9_readsSort_86 : decode cX9_readsSort 86 = .ok (.iastore, 1) := by decide +kernel
theorem dX9_readsSort_87 : decode cX9_readsSort 87 = .ok (.iinc 4 1, 3) := by decide +kernel
theorem dX9_readsSort_90 : decode cX9_readsSort 90 = .ok (.goto (-51), 3) := by decide +kernel
theorem dX9_readsSort_93 : decode cX9_readsSort 93 = .ok (.aload_n 0, 1) := by decide +kernel
theorem dX9_readsSort_94 : decode cX9_readsSort 94 = .ok (.dup, 1) := by decide +kernel
theorem dX9_readsSort_95 : decode cX9_readsSort 95 = .ok (.getfield 128, 3) := by decide +kernel
theorem dX9_readsSort_98 : decode cX9_readsSort 98 = .ok (.iload_n 3, 1) := by decide +kernel
theorem dX9_readsSort_99 : decode cX9_readsSort 99 = .ok (.ifCond .eq 7, 3) := by decide +kernel
theorem dX9_readsSort_102 : decode cX9_readsSort 102 = .ok (.iconst 1, 1) := by decide +kernel
theorem dX9_readsSort_103 : decode cX9_readsSort 103 = .ok (.goto 4, 3) := by decide +kernel
theorem dX9_readsSort_106 : decode cX9_readsSort 106 = .ok (.iconst 0, 1) := by decide +kernel
theorem dX9_readsSort_107 : decode cX9_readsSort 107 = .ok (.iadd, 1) := by decide +kernel
theorem dX9_readsSort_108 : decode cX9_readsSort 108 = .ok (.putfield 128, 3) := by decide +kernel
theorem dX9_readsSort_111 : decode cX9_readsSort 111 = .ok (.iload_n 3, 1) := by decide +kernel
theorem dX9_readsSort_112 : decode cX9_readsSort 112 = .ok (.ireturn, 1) := by decide +kernel
theorem dX9_readsStall_0 : decode cX9_readsStall 0 = .ok (.aload_n 0, 1) := by decide +kernel
theorem dX9_readsStall_1 : decode cX9_readsStall 1 = .ok (.iconst 0, 1) := by decide +kernel
theorem dX9_readsStall_2 : decode cX9_readsStall 2 = .ok (.putfield 122, 3) := by decide +kernel
theorem dX9_readsStall_5 : decode cX9_readsStall 5 = .ok (.aload_n 0, 1) := by decide +kernel
theorem dX9_readsStall_6 : decode cX9_readsStall 6 = .ok (.iconst 0, 1) := by decide +kernel
theorem dX9_readsStall_7 : decode cX9_readsStall 7 = .ok (.putfield 128, 3) := by decide +kernel
theorem dX9_readsStall_10 : decode cX9_readsStall 10 = .ok (.aload_n 0, 1) := by decide +kernel
theorem dX9_readsStall_11 : decode cX9_readsStall 11 = .ok (.bipush 104, 2) := by decide +kernel
theorem dX9_readsStall_13 : decode cX9_readsStall 13 = .ok (.iload_n 1, 1) := by decide +kernel
theorem dX9_readsStall_14 : decode cX9_readsStall 14 = .ok (.iload_n 2, 1) := by decide +kernel
theorem dX9_readsStall_15 : decode cX9_readsStall 15 = .ok (.invokevirtual 131, 3) := by decide +kernel
theorem dX9_readsStall_18 : decode cX9_readsStall 18 = .ok (.ifCond .eq 19, 3) := by decide +kernel
theorem dX9_readsStall_21 : decode cX9_readsStall 21 = .ok (.aload_n 0, 1) := by decide +kernel
theorem dX9_readsStall_22 : decode cX9_readsStall 22 = .ok (.iload_n 1, 1) := by decide +kernel
theorem dX9_readsStall_23 : decode cX9_readsStall 23 = .ok (.iload_n 2, 1) := by decide +kernel
theorem dX9_readsStall_24 : decode cX9_readsStall 24 = .ok (.iconst 1, 1) := by decide +kernel
theorem dX9_readsStall_25 : decode cX9_readsStall 25 = .ok (.bipush 8, 2) := by decide +kernel
theorem dX9_readsStall_27 : decode cX9_readsStall 27 = .ok (.invokevirtual 135, 3) := by decide +kernel
theorem dX9_readsStall_30 : decode cX9_readsStall 30 = .ok (.ifCond .eq 7, 3) := by decide +kernel
theorem dX9_readsStall_33 : decode cX9_readsStall 33 = .ok (.iconst 1, 1) := by decide +kernel
theorem dX9_readsStall_34 : decode cX9_readsStall 34 = .ok (.goto 4, 3) := by decide +kernel
theorem dX9_readsStall_37 : decode cX9_readsStall 37 = .ok (.iconst 0, 1) := by decide +kernel
theorem dX9_readsStall_38 : decode cX9_readsStall 38 = .ok (.istore_n 3, 1) := by decide +kernel
theorem dX9_readsStall_39 : decode cX9_readsStall 39 = .ok (.aload_n 0, 1) := by decide +kernel
theorem dX9_readsStall_40 : decode cX9_readsStall 40 = .ok (.aload_n 0, 1) := by decide +kernel
theorem dX9_readsStall_41 : decode cX9_readsStall 41 = .ok (.getfield 125, 3) := by decide +kernel
theorem dX9_readsStall_44 : decode cX9_readsStall 44 = .ok (.putfield 139, 3) := by decide +kernel
theorem dX9_readsStall_47 : decode cX9_readsStall 47 = .ok (.iload_n 3, 1) := by decide +kernel
theorem dX9_readsStall_48 : decode cX9_readsStall 48 = .ok (.ifCond .eq 28, 3) := by decide +kernel
theorem dX9_readsStall_51 : decode cX9_readsStall 51 = .ok (.aload_n 0, 1) := by decide +kernel
theorem dX9_readsStall_52 : decode cX9_readsStall 52 = .ok (.getfield 128, 3) := by decide +kernel
theorem dX9_readsStall_55 : decode cX9_readsStall 55 = .ok (.ifCond .eq 11, 3) := by decide +kernel
theorem dX9_readsStall_58 : decode cX9_readsStall 58 = .ok (.aload_n 0, 1) := by decide +kernel
theorem dX9_readsStall_59 : decode cX9_readsStall 59 = .ok (.getfield 122, 3) := by decide +kernel
theorem dX9_readsStall_62 : decode cX9_readsStall 62 = .ok (.iload_n 2, 1) := by decide +kernel
theorem dX9_readsStall_63 : decode cX9_readsStall 63 = .ok (.if_icmp .ge 13, 3) := by decide +kernel
theorem dX9_readsStall_66 : decode cX9_readsStall 66 = .ok (.aload_n 0, 1) := by decide +kernel
theorem dX9_readsStall_67 : decode cX9_readsStall 67 = .ok (.iload_n 1, 1) := by decide +kernel
theorem dX9_readsStall_68 : decode cX9_readsStall 68 = .ok (.iload_n 2, 1) := by decide +kernel
theorem dX9_readsStall_69 : decode cX9_readsStall 69 = .ok (.invokevirtual 142, 3) := by decide +kernel
theorem dX9_readsStall_72 : decode cX9_readsStall 72 = .ok (.istore_n 3, 1) := by decide +kernel
theorem dX9_readsStall_73 : decode cX9_readsStall 73 = .ok (.goto (-26), 3) := by decide +kernel
theorem dX9_readsStall_76 : decode cX9_readsStall 76 = .ok (.iload_n 3, 1) := by decide +kernel
theorem dX9_readsStall_77 : decode cX9_readsStall 77 = .ok (.ireturn, 1) := by decide +kernel
theorem dX9_stall_0 : decode cX9_stall 0 = .ok (.aload_n 0, 1) := by decide +kernel
theorem dX9_stall_1 : decode cX9_stall 1 = .ok (.iload_n 1, 1) := by decide +kernel
theorem dX9_stall_2 : decode cX9_stall 2 = .ok (.iload_n 2, 1) := by decide +kernel
theorem dX9_stall_3 : decode cX9_stall 3 = .ok (.iload_n 3, 1) := by decide +kernel
theorem dX9_stall_4 : decode cX9_stall 4 = .ok (.iload 4, 2) := by decide +kernel
theorem dX9_stall_6 : decode cX9_stall 6 = .ok (.i2l, 1) := by decide +kernel
theorem dX9_stall_7 : decode cX9_stall 7 = .ok (.invokevirtual 146, 3) := by decide +kernel
theorem dX9_stall_10 : decode cX9_stall 10 = .ok (.istore 5, 2) := by decide +kernel
theorem dX9_stall_12 : decode cX9_stall 12 = .ok (.iload 5, 2) := by decide +kernel
theorem dX9_stall_14 : decode cX9_stall 14 = .ok (.ifCond .ge 6, 3) := by decide +kernel
theorem dX9_stall_17 : decode cX9_stall 17 = .ok (.iload 5, 2) := by decide +kernel
theorem dX9_stall_19 : decode cX9_stall 19 = .ok (.ireturn, 1) := by decide +kernel
theorem dX9_stall_20 : decode cX9_stall 20 = .ok (.aload_n 0, 1) := by decide +kernel
theorem dX9_stall_21 : decode cX9_stall 21 = .ok (.bipush 60, 2) := by decide +kernel
theorem dX9_stall_23 : decode cX9_stall 23 = .ok (.iload_n 1, 1) := by decide +kernel
theorem dX9_stall_24 : decode cX9_stall 24 = .ok (.imul, 1) := by decide +kernel
theorem dX9_stall_25 : decode cX9_stall 25 = .ok (.iload_n 3, 1) := by decide +kernel
theorem dX9_stall_26 : decode cX9_stall 26 = .ok (.iadd, 1) := by decide +kernel
theorem dX9_stall_27 : decode cX9_stall 27 = .ok (.iload 4, 2) := by decide +kernel
theorem dX9_stall_29 : decode cX9_stall 29 = .ok (.invokevirtual 150, 3) := by decide +kernel
theorem dX9_stall_32 : decode cX9_stall 32 = .ok (.ifCond .ne 15, 3) := by decide +kernel
theorem dX9_stall_35 : decode cX9_stall 35 = .ok (.aload_n 0, 1) := by decide +kernel
theorem dX9_stall_36 : decode cX9_stall 36 = .ok (.bipush (-100), 2) := by decide +kernel
theorem dX9_stall_38 : decode cX9_stall 38 = .ok (.aload_n 0, 1) := by decide +kernel
theorem dX9_stall_39 : decode cX9_stall 39 = .ok (.getfield 122, 3) := by decide +kernel
theorem dX9_stall_42 : decode cX9_stall 42 = .ok (.isub, 1) := by decide +kernel
theorem dX9_stall_43 : decode cX9_stall 43 = .ok (.invokevirtual 103, 3) := by decide +kernel
theorem dX9_stall_46 : decode cX9_stall 46 = .ok (.ireturn, 1) := by decide +kernel
theorem dX9_stall_47 : decode cX9_stall 47 = .ok (.aload_n 0, 1) := by decide +kernel
theorem dX9_stall_48 : decode cX9_stall 48 = .ok (.aload_n 0, 1) := by decide +kernel
theorem dX9_stall_49 : decode cX9_stall 49 = .ok (.getfield 139, 3) := by decide +kernel
theorem dX9_stall_52 : decode cX9_stall 52 = .ok (.putfield 119, 3) := by decide +kernel
theorem dX9_stall_55 : decode cX9_stall 55 = .ok (.aload_n 0, 1) := by decide +kernel
theorem dX9_stall_56 : decode cX9_stall 56 = .ok (.aload_n 0, 1) := by decide +kernel
theorem dX9_stall_57 : decode cX9_stall 57 = .ok (.getfield 128, 3) := by decide +kernel
theorem dX9_stall_60 : decode cX9_stall 60 = .ok (.putfield 116, 3) := by decide +kernel
theorem dX9_stall_63 : decode cX9_stall 63 = .ok (.iconst 0, 1) := by decide +kernel
theorem dX9_stall_64 : decode cX9_stall 64 = .ok (.istore 6, 2) := by decide +kernel
theorem dX9_stall_66 : decode cX9_stall 66 = .ok (.iload 6, 2) := by decide +kernel
theorem dX9_stall_68 : decode cX9_stall 68 = .ok (.aload_n 0, 1) := by decide +kernel
theorem dX9_stall_69 : decode cX9_stall 69 = .ok (.getfield 116, 3) := by decide +kernel
theorem dX9_stall_72 : decode cX9_stall 72 = .ok (.if_icmp .ge 79, 3) := by decide +kernel
theorem dX9_stall_75 : decode cX9_stall 75 = .ok (.aload_n 0, 1) := by decide +kernel
theorem dX9_stall_76 : decode cX9_stall 76 = .ok (.getfield 7, 3) := by decide +kernel
theorem dX9_stall_79 : decode cX9_stall 79 = .ok (.iload 6, 2) := by decide +kernel
theorem dX9_stall_81 : decode cX9_stall 81 = .ok (.aload_n 0, 1) := by decide +kernel
theorem dX9_stall_82 : decode cX9_stall 82 = .ok (.getfield 25, 3) := by decide +kernel
theorem dX9_stall_85 : decode cX9_stall 85 = .ok (.iconst 4, 1) := by decide +kernel
theorem dX9_stall_86 : decode cX9_stall 86 = .ok (.iload 6, 2) := by decide +kernel
theorem dX9_stall_88 : decode cX9_stall 88 = .ok (.imul, 1) := by decide +kernel
theorem dX9_stall_89 : decode cX9_stall 89 = .ok (.iaload, 1) := by decide +kernel
theorem dX9_stall_90 : decode cX9_stall 90 = .ok (.iastore, 1) := by decide +kernel
theorem dX9_stall_91 : decode cX9_stall 91 = .ok (.aload_n 0, 1) := by decide +kernel
theorem dX9_stall_92 : decode cX9_stall 92 = .ok (.getfield 13, 3) := by decide +kernel
theorem dX9_stall_95 : decode cX9_stall 95 = .ok (.iload 6, 2) := by decide +kernel
theorem dX9_stall_97 : decode cX9_stall 97 = .ok (.aload_n 0, 1) := by decide +kernel
theorem dX9_stall_98 : decode cX9_stall 98 = .ok (.getfield 25, 3) := by decide +kernel
theorem dX9_stall_101 : decode cX9_stall 101 = .ok (.iconst 4, 1) := by decide +kernel
theorem dX9_stall_102 : decode cX9_stall 102 = .ok (.iload 6, 2) := by decide +kernel
theorem dX9_stall_104 : decode cX9_stall 104 = .ok (.imul, 1) := by decide +kernel
theorem dX9_stall_105 : decode cX9_stall 105 = .ok (.iconst 1, 1) := by decide +kernel
theorem dX9_stall_106 : decode cX9_stall 106 = .ok (.iadd, 1) := by decide +kernel
theorem dX9_stall_107 : decode cX9_stall 107 = .ok (.iaload, 1) := by decide +kernel
theorem dX9_stall_108 : decode cX9_stall 108 = .ok (.iastore, 1) := by decide +kernel
theorem dX9_stall_109 : decode cX9_stall 109 = .ok (.aload_n 0, 1) := by decide +kernel
theorem dX9_stall_110 : decode cX9_stall 110 = .ok (.getfield 16, 3) := by decide +kernel
theorem dX9_stall_113 : decode cX9_stall 113 = .ok (.iload 6, 2) := by decide +kernel
theorem dX9_stall_115 : decode cX9_stall 115 = .ok (.aload_n 0, 1) := by decide +kernel
theorem dX9_stall_116 : decode cX9_stall 116 = .ok (.getfield 25, 3) := by decide +kernel
theorem dX9_stall_119 : decode cX9_stall 119 = .ok (.iconst 4, 1) := by decide +kernel
theorem dX9_stall_120 : decode cX9_stall 120 = .ok (.iload 6, 2) := by decide +kernel
theorem dX9_stall_122 : decode cX9_stall 122 = .ok (.imul, 1) := by decide +kernel
theorem dX9_stall_123 : decode cX9_stall 123 = .ok (.iconst 2, 1) := by decide +kernel
theorem dX9_stall_124 : decode cX9_stall 124 = .ok (.iadd, 1) := by decide +kernel
theorem dX9_stall_125 : decode cX9_stall 125 = .ok (.iaload, 1) := by decide +kernel
theorem dX9_stall_126 : decode cX9_stall 126 = .ok (.iastore, 1) := by decide +kernel
theorem dX9_stall_127 : decode cX9_stall 127 = .ok (.aload_n 0, 1) := by decide +kernel
theorem dX9_stall_128 : decode cX9_stall 128 = .ok (.getfield 19, 3) := by decide +kernel
theorem dX9_stall_131 : decode cX9_stall 131 = .ok (.iload 6, 2) := by decide +kernel
theorem dX9_stall_133 : decode cX9_stall 133 = .ok (.aload_n 0, 1) := by decide +kernel
theorem dX9_stall_134 : decode cX9_stall 134 = .ok (.getfield 25, 3) := by decide +kernel
theorem dX9_stall_137 : decode cX9_stall 137 = .ok (.iconst 4, 1) := by decide +kernel
theorem dX9_stall_138 : decode cX9_stall 138 = .ok (.iload 6, 2) := by decide +kernel
theorem dX9_stall_140 : decode cX9_stall 140 = .ok (.imul, 1) := by decide +kernel
theorem dX9_stall_141 : decode cX9_stall 141 = .ok (.iconst 3, 1) := by decide +kernel
theorem dX9_stall_142 : decode cX9_stall 142 = .ok (.iadd, 1) := by decide +kernel
theorem dX9_stall_143 : decode cX9_stall 143 = .ok (.iaload, 1) := by decide +kernel
theorem dX9_stall_144 : decode cX9_stall 144 = .ok (.iastore, 1) := by decide +kernel
theorem dX9_stall_145 : decode cX9_stall 145 = .ok (.iinc 6 1, 3) := by decide +kernel
theorem dX9_stall_148 : decode cX9_stall 148 = .ok (.goto (-82), 3) := by decide +kernel
theorem dX9_stall_151 : decode cX9_stall 151 = .ok (.iconst 0, 1) := by decide +kernel
theorem dX9_stall_152 : decode cX9_stall 152 = .ok (.istore 6, 2) := by decide +kernel
theorem dX9_stall_154 : decode cX9_stall 154 = .ok (.iload 6, 2) := by decide +kernel
theorem dX9_stall_156 : decode cX9_stall 156 = .ok (.bipush 32, 2) := by decide +kernel
theorem dX9_stall_158 : decode cX9_stall 158 = .ok (.if_icmp .ge 18, 3) := by decide +kernel
theorem dX9_stall_161 : decode cX9_stall 161 = .ok (.aload_n 0, 1) := by decide +kernel
theorem dX9_stall_162 : decode cX9_stall 162 = .ok (.getfield 22, 3) := by decide +kernel
theorem dX9_stall_165 : decode cX9_stall 165 = .ok (.iload 6, 2) := by decide +kernel
theorem dX9_stall_167 : decode cX9_stall 167 = .ok (.bipush 9, 2) := by decide +kernel
theorem dX9_stall_169 : decode cX9_stall 169 = .ok (.iastore, 1) := by decide +kernel
theorem dX9_stall_170 : decode cX9_stall 170 = .ok (.iinc 6 1, 3) := by decide +kernel
theorem dX9_stall_173 : decode cX9_stall 173 = .ok (.goto (-19), 3) := by decide +kernel
theorem dX9_stall_176 : decode cX9_stall 176 = .ok (.aload_n 0, 1) := by decide +kernel
theorem dX9_stall_177 : decode cX9_stall 177 = .ok (.iconst 0, 1) := by decide +kernel
theorem dX9_stall_178 : decode cX9_stall 178 = .ok (.putfield 153, 3) := by decide +kernel
theorem dX9_stall_181 : decode cX9_stall 181 = .ok (.aload_n 0, 1) := by decide +kernel
theorem dX9_stall_182 : decode cX9_stall 182 = .ok (.iconst 0, 1) := by decide +kernel
theorem dX9_stall_183 : decode cX9_stall 183 = .ok (.putfield 156, 3) := by decide +kernel
theorem dX9_stall_186 : decode cX9_stall 186 = .ok (.aload_n 0, 1) := by decide +kernel
theorem dX9_stall_187 : decode cX9_stall 187 = .ok (.iconst 0, 1) := by decide +kernel
theorem dX9_stall_188 : decode cX9_stall 188 = .ok (.putfield 159, 3) := by decide +kernel
theorem dX9_stall_191 : decode cX9_stall 191 = .ok (.aload_n 0, 1) := by decide +kernel
theorem dX9_stall_192 : decode cX9_stall 192 = .ok (.aload_n 0, 1) := by decide +kernel
theorem dX9_stall_193 : decode cX9_stall 193 = .ok (.getfield 116, 3) := by decide +kernel
theorem dX9_stall_196 : decode cX9_stall 196 = .ok (.invokevirtual 103, 3) := by decide +kernel
theorem dX9_stall_199 : decode cX9_stall 199 = .ok (.ireturn, 1) := by decide +kernel
theorem dX9_ofSort_0 : decode cX9_ofSort 0 = .ok (.aload_n 0, 1) := by decide +kernel
theorem dX9_ofSort_1 : decode cX9_ofSort 1 = .ok (.iload_n 1, 1) := by decide +kernel
theorem dX9_ofSort_2 : decode cX9_ofSort 2 = .ok (.invokevirtual 163, 3) := by decide +kernel
theorem dX9_ofSort_5 : decode cX9_ofSort 5 = .ok (.ifCond .eq 5, 3) := by decide +kernel
theorem dX9_ofSort_8 : decode cX9_ofSort 8 = .ok (.iconst (-1), 1) := by decide +kernel
theorem dX9_ofSort_9 : decode cX9_ofSort 9 = .ok (.ireturn, 1) := by decide +kernel
theorem dX9_ofSort_10 : decode cX9_ofSort 10 = .ok (.iload_n 2, 1) := by decide +kernel
theorem dX9_ofSort_11 : decode cX9_ofSort 11 = .ok (.tableswitch 57 0 3 #[29, 36, 43, 50], 29) := by decide +kernel
theorem dX9_ofSort_40 : decode cX9_ofSort 40 = .ok (.aload_n 0, 1) := by decide +kernel
theorem dX9_ofSort_41 : decode cX9_ofSort 41 = .ok (.getfield 7, 3) := by decide +kernel
theorem dX9_ofSort_44 : decode cX9_ofSort 44 = .ok (.iload_n 1, 1) := by decide +kernel
theorem dX9_ofSort_45 : decode cX9_ofSort 45 = .ok (.iaload, 1) := by decide +kernel
theorem dX9_ofSort_46 : decode cX9_ofSort 46 = .ok (.ireturn, 1) := by decide +kernel
theorem dX9_ofSort_47 : decode cX9_ofSort 47 = .ok (.aload_n 0, 1) := by decide +kernel
theorem dX9_ofSort_48 : decode cX9_ofSort 48 = .ok (.getfield 13, 3) := by decide +kernel
theorem dX9_ofSort_51 : decode cX9_ofSort 51 = .ok (.iload_n 1, 1) := by decide +kernel
theorem dX9_ofSort_52 : decode cX9_ofSort 52 = .ok (.iaload, 1) := by decide +kernel
theorem dX9_ofSort_53 : decode cX9_ofSort 53 = .ok (.ireturn, 1) := by decide +kernel
theorem dX9_ofSort_54 : decode cX9_ofSort 54 = .ok (.aload_n 0, 1) := by decide +kernel
theorem dX9_ofSort_55 : decode cX9_ofSort 55 = .ok (.getfield 16, 3) := by decide +kernel
theorem dX9_ofSort_58 : decode cX9_ofSort 58 = .ok (.iload_n 1, 1) := by decide +kernel
theorem dX9_ofSort_59 : decode cX9_ofSort 59 = .ok (.iaload, 1) := by decide +kernel
theorem dX9_ofSort_60 : decode cX9_ofSort 60 = .ok (.ireturn, 1) := by decide +kernel
theorem dX9_ofSort_61 : decode cX9_ofSort 61 = .ok (.aload_n 0, 1) := by decide +kernel
theorem dX9_ofSort_62 : decode cX9_ofSort 62 = .ok (.getfield 19, 3) := by decide +kernel
theorem dX9_ofSort_65 : decode cX9_ofSort 65 = .ok (.iload_n 1, 1) := by decide +kernel
theorem dX9_ofSort_66 : decode cX9_ofSort 66 = .ok (.iaload, 1) := by decide +kernel
theorem dX9_ofSort_67 : decode cX9_ofSort 67 = .ok (.ireturn, 1) := by decide +kernel
theorem dX9_ofSort_68 : decode cX9_ofSort 68 = .ok (.bipush (-2), 2) := by decide +kernel
theorem dX9_ofSort_70 : decode cX9_ofSort 70 = .ok (.ireturn, 1) := by decide +kernel
theorem dX9_freshAt_0 : decode cX9_freshAt 0 = .ok (.iconst 0, 1) := by decide +kernel
theorem dX9_freshAt_1 : decode cX9_freshAt 1 = .ok (.aload_n 0, 1) := by decide +kernel
theorem dX9_freshAt_2 : decode cX9_freshAt 2 = .ok (.getfield 16, 3) := by decide +kernel
theorem dX9_freshAt_5 : decode cX9_freshAt 5 = .ok (.iload_n 1, 1) := by decide +kernel
theorem dX9_freshAt_6 : decode cX9_freshAt 6 = .ok (.iaload, 1) := by decide +kernel
theorem dX9_freshAt_7 : decode cX9_freshAt 7 = .ok (.iload_n 2, 1) := by decide +kernel
theorem dX9_freshAt_8 : decode cX9_freshAt 8 = .ok (.aload_n 0, 1) := by decide +kernel
theorem dX9_freshAt_9 : decode cX9_freshAt 9 = .ok (.getfield 19, 3) := by decide +kernel
theorem dX9_freshAt_12 : decode cX9_freshAt 12 = .ok (.iload_n 1, 1) := by decide +kernel
theorem dX9_freshAt_13 : decode cX9_freshAt 13 = .ok (.iaload, 1) := by decide +kernel
theorem dX9_freshAt_14 : decode cX9_freshAt 14 = .ok (.imul, 1) := by decide +kernel
theorem dX9_freshAt_15 : decode cX9_freshAt 15 = .ok (.isub, 1) := by decide +kernel
theorem dX9_freshAt_16 : decode cX9_freshAt 16 = .ok (.invokestatic 166, 3) := by decide +kernel
theorem dX9_freshAt_19 : decode cX9_freshAt 19 = .ok (.ireturn, 1) := by decide +kernel
theorem dX9_fresh_0 : decode cX9_fresh 0 = .ok (.aload_n 0, 1) := by decide +kernel
theorem dX9_fresh_1 : decode cX9_fresh 1 = .ok (.iload_n 1, 1) := by decide +kernel
theorem dX9_fresh_2 : decode cX9_fresh 2 = .ok (.invokevirtual 163, 3) := by decide +kernel
theorem dX9_fresh_5 : decode cX9_fresh 5 = .ok (.ifCond .ne 11, 3) := by decide +kernel
theorem dX9_fresh_8 : decode cX9_fresh 8 = .ok (.aload_n 0, 1) := by decide +kernel
theorem dX9_fresh_9 : decode cX9_fresh 9 = .ok (.iload_n 2, 1) := by decide +kernel
theorem dX9_fresh_10 : decode cX9_fresh 10 = .ok (.invokevirtual 170, 3) := by decide +kernel
theorem dX9_fresh_13 : decode cX9_fresh 13 = .ok (.ifCond .eq 7, 3) := by decide +kernel
theorem dX9_fresh_16 : decode cX9_fresh 16 = .ok (.iconst (-1), 1) := by decide +kernel
theorem dX9_fresh_17 : decode cX9_fresh 17 = .ok (.goto 9, 3) := by decide +kernel
theorem dX9_fresh_20 : decode cX9_fresh 20 = .ok (.aload_n 0, 1) := by decide +kernel
theorem dX9_fresh_21 : decode cX9_fresh 21 = .ok (.iload_n 1, 1) := by decide +kernel
theorem dX9_fresh_22 : decode cX9_fresh 22 = .ok (.iload_n 2, 1) := by decide +kernel
theorem dX9_fresh_23 : decode cX9_fresh 23 = .ok (.invokevirtual 173, 3) := by decide +kernel
theorem dX9_fresh_26 : decode cX9_fresh 26 = .ok (.ireturn, 1) := by decide +kernel
theorem dX9_fish_0 : decode cX9_fish 0 = .ok (.aload_n 0, 1) := by decide +kernel
theorem dX9_fish_1 : decode cX9_fish 1 = .ok (.iload_n 1, 1) := by decide +kernel
theorem dX9_fish_2 : decode cX9_fish 2 = .ok (.invokevirtual 163, 3) := by decide +kernel
theorem dX9_fish_5 : decode cX9_fish 5 = .ok (.ifCond .eq 5, 3) := by decide +kernel
theorem dX9_fish_8 : decode cX9_fish 8 = .ok (.iconst (-1), 1) := by decide +kernel
theorem dX9_fish_9 : decode cX9_fish 9 = .ok (.ireturn, 1) := by decide +kernel
theorem dX9_fish_10 : decode cX9_fish 10 = .ok (.iload_n 2, 1) := by decide +kernel
theorem dX9_fish_11 : decode cX9_fish 11 = .ok (.i2l, 1) := by decide +kernel
theorem dX9_fish_12 : decode cX9_fish 12 = .ok (.lconst 0, 1) := by decide +kernel
theorem dX9_fish_13 : decode cX9_fish 13 = .ok (.ldc2_w 176, 3) := by decide +kernel
theorem dX9_fish_16 : decode cX9_fish 16 = .ok (.invokestatic 87, 3) := by decide +kernel
theorem dX9_fish_19 : decode cX9_fish 19 = .ok (.ifCond .ne 6, 3) := by decide +kernel
theorem dX9_fish_22 : decode cX9_fish 22 = .ok (.bipush (-2), 2) := by decide +kernel
theorem dX9_fish_24 : decode cX9_fish 24 = .ok (.ireturn, 1) := by decide +kernel
theorem dX9_fish_25 : decode cX9_fish 25 = .ok (.aload_n 0, 1) := by decide +kernel
theorem dX9_fish_26 : decode cX9_fish 26 = .ok (.getfield 7, 3) := by decide +kernel
theorem dX9_fish_29 : decode cX9_fish 29 = .ok (.iload_n 1, 1) := by decide +kernel
theorem dX9_fish_30 : decode cX9_fish 30 = .ok (.iaload, 1) := by decide +kernel
theorem dX9_fish_31 : decode cX9_fish 31 = .ok (.istore_n 3, 1) := by decide +kernel
theorem dX9_fish_32 : decode cX9_fish 32 = .ok (.aload_n 0, 1) := by decide +kernel
theorem dX9_fish_33 : decode cX9_fish 33 = .ok (.getfield 7, 3) := by decide +kernel
theorem dX9_fish_36 : decode cX9_fish 36 = .ok (.iload_n 1, 1) := by decide +kernel
theorem dX9_fish_37 : decode cX9_fish 37 = .ok (.iload_n 2, 1) := by decide +kernel
theorem dX9_fish_38 : decode cX9_fish 38 = .ok (.iastore, 1) := by decide +kernel
theorem dX9_fish_39 : decode cX9_fish 39 = .ok (.iload_n 3, 1) := by decide +kernel
theorem dX9_fish_40 : decode cX9_fish 40 = .ok (.ireturn, 1) := by decide +kernel
theorem dX9_priceOf_0 : decode cX9_priceOf 0 = .ok (.aload_n 0, 1) := by decide +kernel
theorem dX9_priceOf_1 : decode cX9_priceOf 1 = .ok (.getfield 22, 3) := by decide +kernel
theorem dX9_priceOf_4 : decode cX9_priceOf 4 = .ok (.bipush 8, 2) := by decide +kernel
theorem dX9_priceOf_6 : decode cX9_priceOf 6 = .ok (.iload_n 1, 1) := by decide +kernel
theorem dX9_priceOf_7 : decode cX9_priceOf 7 = .ok (.imul, 1) := by decide +kernel
theorem dX9_priceOf_8 : decode cX9_priceOf 8 = .ok (.iload_n 2, 1) := by decide +kernel
theorem dX9_priceOf_9 : decode cX9_priceOf 9 = .ok (.iadd, 1) := by decide +kernel
theorem dX9_priceOf_10 : decode cX9_priceOf 10 = .ok (.iaload, 1) := by decide +kernel
theorem dX9_priceOf_11 : decode cX9_priceOf 11 = .ok (.ireturn, 1) := by decide +kernel
theorem dX9_isPrice_0 : decode cX9_isPrice 0 = .ok (.iload_n 0, 1) := by decide +kernel
theorem dX9_isPrice_1 : decode cX9_isPrice 1 = .ok (.i2l, 1) := by decide +kernel
theorem dX9_isPrice_2 : decode cX9_isPrice 2 = .ok (.lconst 0, 1) := by decide +kernel
theorem dX9_isPrice_3 : decode cX9_isPrice 3 = .ok (.ldc2_w 178, 3) := by decide +kernel
theorem dX9_isPrice_6 : decode cX9_isPrice 6 = .ok (.invokestatic 87, 3) := by decide +kernel
theorem dX9_isPrice_9 : decode cX9_isPrice 9 = .ok (.ireturn, 1) := by decide +kernel
theorem dX9_slate_0 : decode cX9_slate 0 = .ok (.aload_n 0, 1) := by decide +kernel
theorem dX9_slate_1 : decode cX9_slate 1 = .ok (.iload_n 1, 1) := by decide +kernel
theorem dX9_slate_2 : decode cX9_slate 2 = .ok (.invokevirtual 163, 3) := by decide +kernel
theorem dX9_slate_5 : decode cX9_slate 5 = .ok (.ifCond .ne 11, 3) := by decide +kernel
theorem dX9_slate_8 : decode cX9_slate 8 = .ok (.aload_n 0, 1) := by decide +kernel
theorem dX9_slate_9 : decode cX9_slate 9 = .ok (.iload_n 2, 1) := by decide +kernel
theorem dX9_slate_10 : decode cX9_slate 10 = .ok (.invokevirtual 170, 3) := by decide +kernel
theorem dX9_slate_13 : decode cX9_slate 13 = .ok (.ifCond .eq 7, 3) := by decide +kernel
theorem dX9_slate_16 : decode cX9_slate 16 = .ok (.iconst (-1), 1) := by decide +kernel
theorem dX9_slate_17 : decode cX9_slate 17 = .ok (.goto 9, 3) := by decide +kernel
theorem dX9_slate_20 : decode cX9_slate 20 = .ok (.aload_n 0, 1) := by decide +kernel
theorem dX9_slate_21 : decode cX9_slate 21 = .ok (.iload_n 1, 1) := by decide +kernel
theorem dX9_slate_22 : decode cX9_slate 22 = .ok (.iload_n 2, 1) := by decide +kernel
theorem dX9_slate_23 : decode cX9_slate 23 = .ok (.invokevirtual 180, 3) := by decide +kernel
theorem dX9_slate_26 : decode cX9_slate 26 = .ok (.ireturn, 1) := by decide +kernel
theorem dX9_write_0 : decode cX9_write 0 = .ok (.aload_n 0, 1) := by decide +kernel
theorem dX9_write_1 : decode cX9_write 1 = .ok (.iload_n 1, 1) := by decide +kernel
theorem dX9_write_2 : decode cX9_write 2 = .ok (.invokevirtual 163, 3) := by decide +kernel
theorem dX9_write_5 : decode cX9_write 5 = .ok (.ifCond .ne 11, 3) := by decide +kernel
theorem dX9_write_8 : decode cX9_write 8 = .ok (.aload_n 0, 1) := by decide +kernel
theorem dX9_write_9 : decode cX9_write 9 = .ok (.iload_n 2, 1) := by decide +kernel
theorem dX9_write_10 : decode cX9_write 10 = .ok (.invokevirtual 170, 3) := by decide +kernel
theorem dX9_write_13 : decode cX9_write 13 = .ok (.ifCond .eq 5, 3) := by decide +kernel
theorem dX9_write_16 : decode cX9_write 16 = .ok (.iconst (-1), 1) := by decide +kernel
theorem dX9_write_17 : decode cX9_write 17 = .ok (.ireturn, 1) := by decide +kernel
theorem dX9_write_18 : decode cX9_write 18 = .ok (.iload_n 3, 1) := by decide +kernel
theorem dX9_write_19 : decode cX9_write 19 = .ok (.invokestatic 183, 3) := by decide +kernel
theorem dX9_write_22 : decode cX9_write 22 = .ok (.ifCond .ne 6, 3) := by decide +kernel
theorem dX9_write_25 : decode cX9_write 25 = .ok (.bipush (-2), 2) := by decide +kernel
theorem dX9_write_27 : decode cX9_write 27 = .ok (.ireturn, 1) := by decide +kernel
theorem dX9_write_28 : decode cX9_write 28 = .ok (.aload_n 0, 1) := by decide +kernel
theorem dX9_write_29 : decode cX9_write 29 = .ok (.iload_n 1, 1) := by decide +kernel
theorem dX9_write_30 : decode cX9_write 30 = .ok (.iload_n 2, 1) := by decide +kernel
theorem dX9_write_31 : decode cX9_write 31 = .ok (.invokevirtual 180, 3) := by decide +kernel
theorem dX9_write_34 : decode cX9_write 34 = .ok (.istore 4, 2) := by decide +kernel
theorem dX9_write_36 : decode cX9_write 36 = .ok (.aload_n 0, 1) := by decide +kernel
theorem dX9_write_37 : decode cX9_write 37 = .ok (.getfield 22, 3) := by decide +kernel
theorem dX9_write_40 : decode cX9_write 40 = .ok (.bipush 8, 2) := by decide +kernel
theorem dX9_write_42 : decode cX9_write 42 = .ok (.iload_n 1, 1) := by decide +kernel
theorem dX9_write_43 : decode cX9_write 43 = .ok (.imul, 1) := by decide +kernel
theorem dX9_write_44 : decode cX9_write 44 = .ok (.iload_n 2, 1) := by decide +kernel
theorem dX9_write_45 : decode cX9_write 45 = .ok (.iadd, 1) := by decide +kernel
theorem dX9_write_46 : decode cX9_write 46 = .ok (.iload_n 3, 1) := by decide +kernel
theorem dX9_write_47 : decode cX9_write 47 = .ok (.iastore, 1) := by decide +kernel
theorem dX9_write_48 : decode cX9_write 48 = .ok (.iload 4, 2) := by decide +kernel
theorem dX9_write_50 : decode cX9_write 50 = .ok (.ireturn, 1) := by decide +kernel
theorem dX9_copyOut_0 : decode cX9_copyOut 0 = .ok (.aload_n 0, 1) := by decide +kernel
theorem dX9_copyOut_1 : decode cX9_copyOut 1 = .ok (.iload_n 1, 1) := by decide +kernel
theorem dX9_copyOut_2 : decode cX9_copyOut 2 = .ok (.invokevirtual 163, 3) := by decide +kernel
theorem dX9_copyOut_5 : decode cX9_copyOut 5 = .ok (.ifCond .eq 9, 3) := by decide +kernel
theorem dX9_copyOut_8 : decode cX9_copyOut 8 = .ok (.aload_n 0, 1) := by decide +kernel
theorem dX9_copyOut_9 : decode cX9_copyOut 9 = .ok (.iconst (-1), 1) := by decide +kernel
theorem dX9_copyOut_10 : decode cX9_copyOut 10 = .ok (.invokevirtual 103, 3) := by decide +kernel
theorem dX9_copyOut_13 : decode cX9_copyOut 13 = .ok (.ireturn, 1) := by decide +kernel
theorem dX9_copyOut_14 : decode cX9_copyOut 14 = .ok (.aload_n 0, 1) := by decide +kernel
theorem dX9_copyOut_15 : decode cX9_copyOut 15 = .ok (.iload_n 2, 1) := by decide +kernel
theorem dX9_copyOut_16 : decode cX9_copyOut 16 = .ok (.iload_n 3, 1) := by decide +kernel
theorem dX9_copyOut_17 : decode cX9_copyOut 17 = .ok (.iload 4, 2) := by decide +kernel
theorem dX9_copyOut_19 : decode cX9_copyOut 19 = .ok (.iload 5, 2) := by decide +kernel
theorem dX9_copyOut_21 : decode cX9_copyOut 21 = .ok (.i2l, 1) := by decide +kernel
theorem dX9_copyOut_22 : decode cX9_copyOut 22 = .ok (.invokevirtual 146, 3) := by decide +kernel
theorem dX9_copyOut_25 : decode cX9_copyOut 25 = .ok (.istore 6, 2) := by decide +kernel
theorem dX9_copyOut_27 : decode cX9_copyOut 27 = .ok (.iload 6, 2) := by decide +kernel
theorem dX9_copyOut_29 : decode cX9_copyOut 29 = .ok (.ifCond .ge 6, 3) := by decide +kernel
theorem dX9_copyOut_32 : decode cX9_copyOut 32 = .ok (.iload 6, 2) := by decide +kernel
theorem dX9_copyOut_34 : decode cX9_copyOut 34 = .ok (.ireturn, 1) := by decide +kernel
theorem dX9_copyOut_35 : decode cX9_copyOut 35 = .ok (.iload 5, 2) := by decide +kernel
theorem dX9_copyOut_37 : decode cX9_copyOut 37 = .ok (.i2l, 1) := by decide +kernel
theorem dX9_copyOut_38 : decode cX9_copyOut 38 = .ok (.lconst 1, 1) := by decide +kernel
theorem dX9_copyOut_39 : decode cX9_copyOut 39 = .ok (.aload_n 0, 1) := by decide +kernel
theorem dX9_copyOut_40 : decode cX9_copyOut 40 = .ok (.getfield 119, 3) := by decide +kernel
theorem dX9_copyOut_43 : decode cX9_copyOut 43 = .ok (.i2l, 1) := by decide +kernel
theorem dX9_copyOut_44 : decode cX9_copyOut 44 = .ok (.invokestatic 87, 3) := by decide +kernel
theorem dX9_copyOut_47 : decode cX9_copyOut 47 = .ok (.istore 7, 2) := by decide +kernel
theorem dX9_copyOut_49 : decode cX9_copyOut 49 = .ok (.iconst 0, 1) := by decide +kernel
theorem dX9_copyOut_50 : decode cX9_copyOut 50 = .ok (.istore 8, 2) := by decide +kernel
theorem dX9_copyOut_52 : decode cX9_copyOut 52 = .ok (.iload 8, 2) := by decide +kernel
theorem dX9_copyOut_54 : decode cX9_copyOut 54 = .ok (.iload 5, 2) := by decide +kernel
theorem dX9_copyOut_56 : decode cX9_copyOut 56 = .ok (.if_icmp .ge 34, 3) := by decide +kernel
theorem dX9_copyOut_59 : decode cX9_copyOut 59 = .ok (.iload 7, 2) := by decide +kernel
theorem dX9_copyOut_61 : decode cX9_copyOut 61 = .ok (.ifCond .eq 29, 3) := by decide +kernel
theorem dX9_copyOut_64 : decode cX9_copyOut 64 = .ok (.aload_n 0, 1) := by decide +kernel
theorem dX9_copyOut_65 : decode cX9_copyOut 65 = .ok (.getfield 79, 3) := by decide +kernel
theorem dX9_copyOut_68 : decode cX9_copyOut 68 = .ok (.bipush 60, 2) := by decide +kernel
theorem dX9_copyOut_70 : decode cX9_copyOut 70 = .ok (.iload_n 2, 1) := by decide +kernel
theorem dX9_copyOut_71 : decode cX9_copyOut 71 = .ok (.imul, 1) := by decide +kernel
theorem dX9_copyOut_72 : decode cX9_copyOut 72 = .ok (.iload 4, 2) := by decide +kernel
theorem dX9_copyOut_74 : decode cX9_copyOut 74 = .ok (.iadd, 1) := by decide +kernel
theorem dX9_copyOut_75 : decode cX9_copyOut 75 = .ok (.iload 8, 2) := by decide +kernel
theorem dX9_copyOut_77 : decode cX9_copyOut 77 = .ok (.iadd, 1) := by decide +kernel
theorem dX9_copyOut_78 : decode cX9_copyOut 78 = .ok (.iaload, 1) := by decide +kernel
theorem dX9_copyOut_79 : decode cX9_copyOut 79 = .ok (.invokestatic 183, 3) := by decide +kernel
theorem dX9_copyOut_82 : decode cX9_copyOut 82 = .ok (.istore 7, 2) := by decide +kernel
theorem dX9_copyOut_84 : decode cX9_copyOut 84 = .ok (.iinc 8 1, 3) := by decide +kernel
theorem dX9_copyOut_87 : decode cX9_copyOut 87 = .ok (.goto (-35), 3) := by decide +kernel
theorem dX9_copyOut_90 : decode cX9_copyOut 90 = .ok (.iload 7, 2) := by decide +kernel
theorem dX9_copyOut_92 : decode cX9_copyOut 92 = .ok (.ifCond .ne 10, 3) := by decide +kernel
theorem dX9_copyOut_95 : decode cX9_copyOut 95 = .ok (.aload_n 0, 1) := by decide +kernel
theorem dX9_copyOut_96 : decode cX9_copyOut 96 = .ok (.bipush (-2), 2) := by decide +kernel
theorem dX9_copyOut_98 : decode cX9_copyOut 98 = .ok (.invokevirtual 103, 3) := by decide +kernel
theorem dX9_copyOut_101 : decode cX9_copyOut 101 = .ok (.ireturn, 1) := by decide +kernel
theorem dX9_copyOut_102 : decode cX9_copyOut 102 = .ok (.iconst 0, 1) := by decide +kernel
theorem dX9_copyOut_103 : decode cX9_copyOut 103 = .ok (.istore 8, 2) := by decide +kernel
theorem dX9_copyOut_105 : decode cX9_copyOut 105 = .ok (.iload 8, 2) := by decide +kernel
theorem dX9_copyOut_107 : decode cX9_copyOut 107 = .ok (.iload 5, 2) := by decide +kernel
theorem dX9_copyOut_109 : decode cX9_copyOut 109 = .ok (.if_icmp .ge 36, 3) := by decide +kernel
theorem dX9_copyOut_112 : decode cX9_copyOut 112 = .ok (.aload_n 0, 1) := by decide +kernel
theorem dX9_copyOut_113 : decode cX9_copyOut 113 = .ok (.getfield 22, 3) := by decide +kernel
theorem dX9_copyOut_116 : decode cX9_copyOut 116 = .ok (.bipush 8, 2) := by decide +kernel
theorem dX9_copyOut_118 : decode cX9_copyOut 118 = .ok (.iload_n 1, 1) := by decide +kernel
theorem dX9_copyOut_119 : decode cX9_copyOut 119 = .ok (.imul, 1) := by decide +kernel
theorem dX9_copyOut_120 : decode cX9_copyOut 120 = .ok (.iload 8, 2) := by decide +kernel
theorem dX9_copyOut_122 : decode cX9_copyOut 122 = .ok (.iadd, 1) := by decide +kernel
theorem dX9_copyOut_123 : decode cX9_copyOut 123 = .ok (.aload_n 0, 1) := by decide +kernel
theorem dX9_copyOut_124 : decode cX9_copyOut 124 = .ok (.getfield 79, 3) := by decide +kernel
theorem dX9_copyOut_127 : decode cX9_copyOut 127 = .ok (.bipush 60, 2) := by decide +kernel
theorem dX9_copyOut_129 : decode cX9_copyOut 129 = .ok (.iload_n 2, 1) := by decide +kernel
theorem dX9_copyOut_130 : decode cX9_copyOut 130 = .ok (.imul, 1) := by decide +kernel
theorem dX9_copyOut_131 : decode cX9_copyOut 131 = .ok (.iload 4, 2) := by decide +kernel
theorem dX9_copyOut_133 : decode cX9_copyOut 133 = .ok (.iadd, 1) := by decide +kernel
theorem dX9_copyOut_134 : decode cX9_copyOut 134 = .ok (.iload 8, 2) := by decide +kernel
theorem dX9_copyOut_136 : decode cX9_copyOut 136 = .ok (.iadd, 1) := by decide +kernel
theorem dX9_copyOut_137 : decode cX9_copyOut 137 = .ok (.iaload, 1) := by decide +kernel
theorem dX9_copyOut_138 : decode cX9_copyOut 138 = .ok (.iastore, 1) := by decide +kernel
theorem dX9_copyOut_139 : decode cX9_copyOut 139 = .ok (.iinc 8 1, 3) := by decide +kernel
theorem dX9_copyOut_142 : decode cX9_copyOut 142 = .ok (.goto (-37), 3) := by decide +kernel
theorem dX9_copyOut_145 : decode cX9_copyOut 145 = .ok (.aload_n 0, 1) := by decide +kernel
theorem dX9_copyOut_146 : decode cX9_copyOut 146 = .ok (.iload 5, 2) := by decide +kernel
theorem dX9_copyOut_148 : decode cX9_copyOut 148 = .ok (.invokevirtual 103, 3) := by decide +kernel
theorem dX9_copyOut_151 : decode cX9_copyOut 151 = .ok (.ireturn, 1) := by decide +kernel
theorem dX9_soup_0 : decode cX9_soup 0 = .ok (.iload_n 1, 1) := by decide +kernel
theorem dX9_soup_1 : decode cX9_soup 1 = .ok (.i2l, 1) := by decide +kernel
theorem dX9_soup_2 : decode cX9_soup 2 = .ok (.lconst 0, 1) := by decide +kernel
theorem dX9_soup_3 : decode cX9_soup 3 = .ok (.ldc2_w 176, 3) := by decide +kernel
theorem dX9_soup_6 : decode cX9_soup 6 = .ok (.invokestatic 87, 3) := by decide +kernel
theorem dX9_soup_9 : decode cX9_soup 9 = .ok (.ifCond .ne 6, 3) := by decide +kernel
theorem dX9_soup_12 : decode cX9_soup 12 = .ok (.bipush (-2), 2) := by decide +kernel
theorem dX9_soup_14 : decode cX9_soup 14 = .ok (.ireturn, 1) := by decide +kernel
theorem dX9_soup_15 : decode cX9_soup 15 = .ok (.aload_n 0, 1) := by decide +kernel
theorem dX9_soup_16 : decode cX9_soup 16 = .ok (.getfield 116, 3) := by decide +kernel
theorem dX9_soup_19 : decode cX9_soup 19 = .ok (.ifCond .ne 6, 3) := by decide +kernel
theorem dX9_soup_22 : decode cX9_soup 22 = .ok (.bipush (-3), 2) := by decide +kernel
theorem dX9_soup_24 : decode cX9_soup 24 = .ok (.ireturn, 1) := by decide +kernel
theorem dX9_soup_25 : decode cX9_soup 25 = .ok (.aload_n 0, 1) := by decide +kernel
theorem dX9_soup_26 : decode cX9_soup 26 = .ok (.getfield 156, 3) := by decide +kernel
theorem dX9_soup_29 : decode cX9_soup 29 = .ok (.istore_n 2, 1) := by decide +kernel
theorem dX9_soup_30 : decode cX9_soup 30 = .ok (.aload_n 0, 1) := by decide +kernel
theorem dX9_soup_31 : decode cX9_soup 31 = .ok (.iload_n 1, 1) := by decide +kernel
theorem dX9_soup_32 : decode cX9_soup 32 = .ok (.putfield 156, 3) := by decide +kernel
theorem dX9_soup_35 : decode cX9_soup 35 = .ok (.iload_n 2, 1) := by decide +kernel
theorem dX9_soup_36 : decode cX9_soup 36 = .ok (.ireturn, 1) := by decide +kernel
theorem dX9_beside_0 : decode cX9_beside 0 = .ok (.aload_n 0, 1) := by decide +kernel
theorem dX9_beside_1 : decode cX9_beside 1 = .ok (.getfield 116, 3) := by decide +kernel
theorem dX9_beside_4 : decode cX9_beside 4 = .ok (.ifCond .ne 6, 3) := by decide +kernel
theorem dX9_beside_7 : decode cX9_beside 7 = .ok (.bipush (-3), 2) := by decide +kernel
theorem dX9_beside_9 : decode cX9_beside 9 = .ok (.ireturn, 1) := by decide +kernel
theorem dX9_beside_10 : decode cX9_beside 10 = .ok (.aload_n 0, 1) := by decide +kernel
theorem dX9_beside_11 : decode cX9_beside 11 = .ok (.getfield 159, 3) := by decide +kernel
theorem dX9_beside_14 : decode cX9_beside 14 = .ok (.iload_n 1, 1) := by decide +kernel
theorem dX9_beside_15 : decode cX9_beside 15 = .ok (.if_icmp .ne 7, 3) := by decide +kernel
theorem dX9_beside_18 : decode cX9_beside 18 = .ok (.iconst 0, 1) := by decide +kernel
theorem dX9_beside_19 : decode cX9_beside 19 = .ok (.goto 4, 3) := by decide +kernel
theorem dX9_beside_22 : decode cX9_beside 22 = .ok (.iconst 1, 1) := by decide +kernel
theorem dX9_beside_23 : decode cX9_beside 23 = .ok (.istore_n 2, 1) := by decide +kernel
theorem dX9_beside_24 : decode cX9_beside 24 = .ok (.aload_n 0, 1) := by decide +kernel
theorem dX9_beside_25 : decode cX9_beside 25 = .ok (.iload_n 1, 1) := by decide +kernel
theorem dX9_beside_26 : decode cX9_beside 26 = .ok (.putfield 159, 3) := by decide +kernel
theorem dX9_beside_29 : decode cX9_beside 29 = .ok (.iload_n 2, 1) := by decide +kernel
theorem dX9_beside_30 : decode cX9_beside 30 = .ok (.ireturn, 1) := by decide +kernel
theorem dX9_noBuyer_0 : decode cX9_noBuyer 0 = .ok (.iload_n 1, 1) := by decide +kernel
theorem dX9_noBuyer_1 : decode cX9_noBuyer 1 = .ok (.i2l, 1) := by decide +kernel
theorem dX9_noBuyer_2 : decode cX9_noBuyer 2 = .ok (.lconst 0, 1) := by decide +kernel
theorem dX9_noBuyer_3 : decode cX9_noBuyer 3 = .ok (.aload_n 0, 1) := by decide +kernel
theorem dX9_noBuyer_4 : decode cX9_noBuyer 4 = .ok (.getfield 153, 3) := by decide +kernel
theorem dX9_noBuyer_7 : decode cX9_noBuyer 7 = .ok (.i2l, 1) := by decide +kernel
theorem dX9_noBuyer_8 : decode cX9_noBuyer 8 = .ok (.lconst 1, 1) := by decide +kernel
theorem dX9_noBuyer_9 : decode cX9_noBuyer 9 = .ok (.lsub, 1) := by decide +kernel
theorem dX9_noBuyer_10 : decode cX9_noBuyer 10 = .ok (.invokestatic 87, 3) := by decide +kernel
theorem dX9_noBuyer_13 : decode cX9_noBuyer 13 = .ok (.ifCond .ne 7, 3) := by decide +kernel
theorem dX9_noBuyer_16 : decode cX9_noBuyer 16 = .ok (.iconst 1, 1) := by decide +kernel
theorem dX9_noBuyer_17 : decode cX9_noBuyer 17 = .ok (.goto 4, 3) := by decide +kernel
theorem dX9_noBuyer_20 : decode cX9_noBuyer 20 = .ok (.iconst 0, 1) := by decide +kernel
theorem dX9_noBuyer_21 : decode cX9_noBuyer 21 = .ok (.ireturn, 1) := by decide +kernel
theorem dX9_buyer_0 : decode cX9_buyer 0 = .ok (.aload_n 0, 1) := by decide +kernel
theorem dX9_buyer_1 : decode cX9_buyer 1 = .ok (.iload_n 2, 1) := by decide +kernel
theorem dX9_buyer_2 : decode cX9_buyer 2 = .ok (.invokevirtual 163, 3) := by decide +kernel
theorem dX9_buyer_5 : decode cX9_buyer 5 = .ok (.ifCond .ne 12, 3) := by decide +kernel
theorem dX9_buyer_8 : decode cX9_buyer 8 = .ok (.aload_n 0, 1) := by decide +kernel
theorem dX9_buyer_9 : decode cX9_buyer 9 = .ok (.iload 4, 2) := by decide +kernel
theorem dX9_buyer_11 : decode cX9_buyer 11 = .ok (.invokevirtual 170, 3) := by decide +kernel
theorem dX9_buyer_14 : decode cX9_buyer 14 = .ok (.ifCond .eq 5, 3) := by decide +kernel
theorem dX9_buyer_17 : decode cX9_buyer 17 = .ok (.iconst (-1), 1) := by decide +kernel
theorem dX9_buyer_18 : decode cX9_buyer 18 = .ok (.ireturn, 1) := by decide +kernel
theorem dX9_buyer_19 : decode cX9_buyer 19 = .ok (.iload_n 1, 1) := by decide +kernel
theorem dX9_buyer_20 : decode cX9_buyer 20 = .ok (.i2l, 1) := by decide +kernel
theorem dX9_buyer_21 : decode cX9_buyer 21 = .ok (.lconst 0, 1) := by decide +kernel
theorem dX9_buyer_22 : decode cX9_buyer 22 = .ok (.ldc2_w 107, 3) := by decide +kernel
theorem dX9_buyer_25 : decode cX9_buyer 25 = .ok (.invokestatic 87, 3) := by decide +kernel
theorem dX9_buyer_28 : decode cX9_buyer 28 = .ok (.ifCond .eq 15, 3) := by decide +kernel
theorem dX9_buyer_31 : decode cX9_buyer 31 = .ok (.iload_n 3, 1) := by decide +kernel
theorem dX9_buyer_32 : decode cX9_buyer 32 = .ok (.i2l, 1) := by decide +kernel
theorem dX9_buyer_33 : decode cX9_buyer 33 = .ok (.lconst 0, 1) := by decide +kernel
theorem dX9_buyer_34 : decode cX9_buyer 34 = .ok (.ldc2_w 186, 3) := by decide +kernel
theorem dX9_buyer_37 : decode cX9_buyer 37 = .ok (.invokestatic 87, 3) := by decide +kernel
theorem dX9_buyer_40 : decode cX9_buyer 40 = .ok (.ifCond .ne 6, 3) := by decide +kernel
theorem dX9_buyer_43 : decode cX9_buyer 43 = .ok (.bipush (-2), 2) := by decide +kernel
theorem dX9_buyer_45 : decode cX9_buyer 45 = .ok (.ireturn, 1) := by decide +kernel
theorem dX9_buyer_46 : decode cX9_buyer 46 = .ok (.aload_n 0, 1) := by decide +kernel
theorem dX9_buyer_47 : decode cX9_buyer 47 = .ok (.getfield 153, 3) := by decide +kernel
theorem dX9_buyer_50 : decode cX9_buyer 50 = .ok (.bipush 10, 2) := by decide +kernel
theorem dX9_buyer_52 : decode cX9_buyer 52 = .ok (.if_icmp .ne 6, 3) := by decide +kernel
theorem dX9_buyer_55 : decode cX9_buyer 55 = .ok (.bipush (-4), 2) := by decide +kernel
theorem dX9_buyer_57 : decode cX9_buyer 57 = .ok (.ireturn, 1) := by decide +kernel
theorem dX9_buyer_58 : decode cX9_buyer 58 = .ok (.aload_n 0, 1) := by decide +kernel
theorem dX9_buyer_59 : decode cX9_buyer 59 = .ok (.getfield 28, 3) := by decide +kernel
theorem dX9_buyer_62 : decode cX9_buyer 62 = .ok (.aload_n 0, 1) := by decide +kernel
theorem dX9_buyer_63 : decode cX9_buyer 63 = .ok (.getfield 153, 3) := by decide +kernel
theorem dX9_buyer_66 : decode cX9_buyer 66 = .ok (.iload_n 1, 1) := by decide +kernel
theorem dX9_buyer_67 : decode cX9_buyer 67 = .ok (.iastore, 1) := by decide +kernel
theorem dX9_buyer_68 : decode cX9_buyer 68 = .ok (.aload_n 0, 1) := by decide +kernel
theorem dX9_buyer_69 : decode cX9_buyer 69 = .ok (.getfield 31, 3) := by decide +kernel
theorem dX9_buyer_72 : decode cX9_buyer 72 = .ok (.aload_n 0, 1) := by decide +kernel
theorem dX9_buyer_73 : decode cX9_buyer 73 = .ok (.getfield 153, 3) := by decide +kernel
theorem dX9_buyer_76 : decode cX9_buyer 76 = .ok (.iload_n 2, 1) := by decide +kernel
theorem dX9_buyer_77 : decode cX9_buyer 77 = .ok (.iastore, 1) := by decide +kernel
theorem dX9_buyer_78 : decode cX9_buyer 78 = .ok (.aload_n 0, 1) := by decide +kernel
theorem dX9_buyer_79 : decode cX9_buyer 79 = .ok (.getfield 34, 3) := by decide +kernel
theorem dX9_buyer_82 : decode cX9_buyer 82 = .ok (.aload_n 0, 1) := by decide +kernel
theorem dX9_buyer_83 : decode cX9_buyer 83 = .ok (.getfield 153, 3) := by decide +kernel
theorem dX9_buyer_86 : decode cX9_buyer 86 = .ok (.iload_n 3, 1) := by decide +kernel
theorem dX9_buyer_87 : decode cX9_buyer 87 = .ok (.iastore, 1) := by decide +kernel
theorem dX9_buyer_88 : decode cX9_buyer 88 = .ok (.aload_n 0, 1) := by decide +kernel
theorem dX9_buyer_89 : decode cX9_buyer 89 = .ok (.getfield 37, 3) := by decide +kernel
theorem dX9_buyer_92 : decode cX9_buyer 92 = .ok (.aload_n 0, 1) := by decide +kernel
theorem dX9_buyer_93 : decode cX9_buyer 93 = .ok (.getfield 153, 3) := by decide +kernel
theorem dX9_buyer_96 : decode cX9_buyer 96 = .ok (.iload 4, 2) := by decide +kernel
theorem dX9_buyer_98 : decode cX9_buyer 98 = .ok (.iastore, 1) := by decide +kernel
theorem dX9_buyer_99 : decode cX9_buyer 99 = .ok (.aload_n 0, 1) := by decide +kernel
theorem dX9_buyer_100 : decode cX9_buyer 100 = .ok (.dup, 1) := by decide +kernel
theorem dX9_buyer_101 : decode cX9_buyer 101 = .ok (.getfield 153, 3) := by decide +kernel
theorem dX9_buyer_104 : decode cX9_buyer 104 = .ok (.iconst 1, 1) := by decide +kernel
theorem dX9_buyer_105 : decode cX9_buyer 105 = .ok (.iadd, 1) := by decide +kernel
theorem dX9_buyer_106 : decode cX9_buyer 106 = .ok (.putfield 153, 3) := by decide +kernel
theorem dX9_buyer_109 : decode cX9_buyer 109 = .ok (.aload_n 0, 1) := by decide +kernel
theorem dX9_buyer_110 : decode cX9_buyer 110 = .ok (.getfield 153, 3) := by decide +kernel
theorem dX9_buyer_113 : decode cX9_buyer 113 = .ok (.iconst 1, 1) := by decide +kernel
theorem dX9_buyer_114 : decode cX9_buyer 114 = .ok (.isub, 1) := by decide +kernel
theorem dX9_buyer_115 : decode cX9_buyer 115 = .ok (.ireturn, 1) := by decide +kernel
theorem dX9_ofBuyer_0 : decode cX9_ofBuyer 0 = .ok (.aload_n 0, 1) := by decide +kernel
theorem dX9_ofBuyer_1 : decode cX9_ofBuyer 1 = .ok (.iload_n 1, 1) := by decide +kernel
theorem dX9_ofBuyer_2 : decode cX9_ofBuyer 2 = .ok (.invokevirtual 188, 3) := by decide +kernel
theorem dX9_ofBuyer_5 : decode cX9_ofBuyer 5 = .ok (.ifCond .eq 5, 3) := by decide +kernel
theorem dX9_ofBuyer_8 : decode cX9_ofBuyer 8 = .ok (.iconst (-1), 1) := by decide +kernel
theorem dX9_ofBuyer_9 : decode cX9_ofBuyer 9 = .ok (.ireturn, 1) := by decide +kernel
theorem dX9_ofBuyer_10 : decode cX9_ofBuyer 10 = .ok (.iload_n 2, 1) := by decide +kernel
theorem dX9_ofBuyer_11 : decode cX9_ofBuyer 11 = .ok (.tableswitch 57 0 3 #[29, 36, 43, 50], 29) := by decide +kernel
theorem dX9_ofBuyer_40 : decode cX9_ofBuyer 40 = .ok (.aload_n 0, 1) := by decide +kernel
theorem dX9_ofBuyer_41 : decode cX9_ofBuyer 41 = .ok (.getfield 28, 3) := by decide +kernel
theorem dX9_ofBuyer_44 : decode cX9_ofBuyer 44 = .ok (.iload_n 1, 1) := by decide +kernel
theorem dX9_ofBuyer_45 : decode cX9_ofBuyer 45 = .ok (.iaload, 1) := by decide +kernel
theorem dX9_ofBuyer_46 : decode cX9_ofBuyer 46 = .ok (.ireturn, 1) := by decide +kernel
theorem dX9_ofBuyer_47 : decode cX9_ofBuyer 47 = .ok (.aload_n 0, 1) := by decide +kernel
theorem dX9_ofBuyer_48 : decode cX9_ofBuyer 48 = .ok (.getfield 31, 3) := by decide +kernel
theorem dX9_ofBuyer_51 : decode cX9_ofBuyer 51 = .ok (.iload_n 1, 1) := by decide +kernel
theorem dX9_ofBuyer_52 : decode cX9_ofBuyer 52 = .ok (.iaload, 1) := by decide +kernel
theorem dX9_ofBuyer_53 : decode cX9_ofBuyer 53 = .ok (.ireturn, 1) := by decide +kernel
theorem dX9_ofBuyer_54 : decode cX9_ofBuyer 54 = .ok (.aload_n 0, 1) := by decide +kernel
theorem dX9_ofBuyer_55 : decode cX9_ofBuyer 55 = .ok (.getfield 34, 3) := by decide +kernel
theorem dX9_ofBuyer_58 : decode cX9_ofBuyer 58 = .ok (.iload_n 1, 1) := by decide +kernel
theorem dX9_ofBuyer_59 : decode cX9_ofBuyer 59 = .ok (.iaload, 1) := by decide +kernel
theorem dX9_ofBuyer_60 : decode cX9_ofBuyer 60 = .ok (.ireturn, 1) := by decide +kernel
theorem dX9_ofBuyer_61 : decode cX9_ofBuyer 61 = .ok (.aload_n 0, 1) := by decide +kernel
theorem dX9_ofBuyer_62 : decode cX9_ofBuyer 62 = .ok (.getfield 37, 3) := by decide +kernel
theorem dX9_ofBuyer_65 : decode cX9_ofBuyer 65 = .ok (.iload_n 1, 1) := by decide +kernel
theorem dX9_ofBuyer_66 : decode cX9_ofBuyer 66 = .ok (.iaload, 1) := by decide +kernel
theorem dX9_ofBuyer_67 : decode cX9_ofBuyer 67 = .ok (.ireturn, 1) := by decide +kernel
theorem dX9_ofBuyer_68 : decode cX9_ofBuyer 68 = .ok (.bipush (-2), 2) := by decide +kernel
theorem dX9_ofBuyer_70 : decode cX9_ofBuyer 70 = .ok (.ireturn, 1) := by decide +kernel
theorem dX9_layAll_0 : decode cX9_layAll 0 = .ok (.iconst 0, 1) := by decide +kernel
theorem dX9_layAll_1 : decode cX9_layAll 1 = .ok (.istore_n 1, 1) := by decide +kernel
theorem dX9_layAll_2 : decode cX9_layAll 2 = .ok (.iload_n 1, 1) := by decide +kernel
theorem dX9_layAll_3 : decode cX9_layAll 3 = .ok (.aload_n 0, 1) := by decide +kernel
theorem dX9_layAll_4 : decode cX9_layAll 4 = .ok (.getfield 116, 3) := by decide +kernel
theorem dX9_layAll_7 : decode cX9_layAll 7 = .ok (.if_icmp .ge 21, 3) := by decide +kernel
theorem dX9_layAll_10 : decode cX9_layAll 10 = .ok (.aload_n 0, 1) := by decide +kernel
theorem dX9_layAll_11 : decode cX9_layAll 11 = .ok (.getfield 40, 3) := by decide +kernel
theorem dX9_layAll_14 : decode cX9_layAll 14 = .ok (.iload_n 1, 1) := by decide +kernel
theorem dX9_layAll_15 : decode cX9_layAll 15 = .ok (.aload_n 0, 1) := by decide +kernel
theorem dX9_layAll_16 : decode cX9_layAll 16 = .ok (.getfield 7, 3) := by decide +kernel
theorem dX9_layAll_19 : decode cX9_layAll 19 = .ok (.iload_n 1, 1) := by decide +kernel
theorem dX9_layAll_20 : decode cX9_layAll 20 = .ok (.iaload, 1) := by decide +kernel
theorem dX9_layAll_21 : decode cX9_layAll 21 = .ok (.iastore, 1) := by decide +kernel
theorem dX9_layAll_22 : decode cX9_layAll 22 = .ok (.iinc 1 1, 3) := by decide +kernel
theorem dX9_layAll_25 : decode cX9_layAll 25 = .ok (.goto (-23), 3) := by decide +kernel
theorem dX9_layAll_28 : decode cX9_layAll 28 = .ok (.return_, 1) := by decide +kernel
theorem dX9_hasDearer_0 : decode cX9_hasDearer 0 = .ok (.iconst 0, 1) := by decide +kernel
theorem dX9_hasDearer_1 : decode cX9_hasDearer 1 = .ok (.istore_n 3, 1) := by decide +kernel
theorem dX9_hasDearer_2 : decode cX9_hasDearer 2 = .ok (.iconst 0, 1) := by decide +kernel
theorem dX9_hasDearer_3 : decode cX9_hasDearer 3 = .ok (.istore 4, 2) := by decide +kernel
theorem dX9_hasDearer_5 : decode cX9_hasDearer 5 = .ok (.iload 4, 2) := by decide +kernel
theorem dX9_hasDearer_7 : decode cX9_hasDearer 7 = .ok (.aload_n 0, 1) := by decide +kernel
theorem dX9_hasDearer_8 : decode cX9_hasDearer 8 = .ok (.getfield 116, 3) := by decide +kernel
theorem dX9_hasDearer_11 : decode cX9_hasDearer 11 = .ok (.if_icmp .ge 45, 3) := by decide +kernel
theorem dX9_hasDearer_14 : decode cX9_hasDearer 14 = .ok (.iload_n 3, 1) := by decide +kernel
theorem dX9_hasDearer_15 : decode cX9_hasDearer 15 = .ok (.ifCond .ne 29, 3) := by decide +kernel
theorem dX9_hasDearer_18 : decode cX9_hasDearer 18 = .ok (.aload_n 0, 1) := by decide +kernel
theorem dX9_hasDearer_19 : decode cX9_hasDearer 19 = .ok (.getfield 40, 3) := by decide +kernel
theorem dX9_hasDearer_22 : decode cX9_hasDearer 22 = .ok (.iload 4, 2) := by decide +kernel
theorem dX9_hasDearer_24 : decode cX9_hasDearer 24 = .ok (.iaload, 1) := by decide +kernel
theorem dX9_hasDearer_25 : decode cX9_hasDearer 25 = .ok (.ifCond .le 23, 3) := by decide +kernel
theorem dX9_hasDearer_28 : decode cX9_hasDearer 28 = .ok (.aload_n 0, 1) := by decide +kernel
theorem dX9_hasDearer_29 : decode cX9_hasDearer 29 = .ok (.iload 4, 2) := by decide +kernel
theorem dX9_hasDearer_31 : decode cX9_hasDearer 31 = .ok (.iload_n 2, 1) := by decide +kernel
theorem dX9_hasDearer_32 : decode cX9_hasDearer 32 = .ok (.invokevirtual 180, 3) := by decide +kernel
theorem dX9_hasDearer_35 : decode cX9_hasDearer 35 = .ok (.aload_n 0, 1) := by decide +kernel
theorem dX9_hasDearer_36 : decode cX9_hasDearer 36 = .ok (.iload_n 1, 1) := by decide +kernel
theorem dX9_hasDearer_37 : decode cX9_hasDearer 37 = .ok (.iload_n 2, 1) := by decide +kernel
theorem dX9_hasDearer_38 : decode cX9_hasDearer 38 = .ok (.invokevirtual 180, 3) := by decide +kernel
theorem dX9_hasDearer_41 : decode cX9_hasDearer 41 = .ok (.if_icmp .le 7, 3) := by decide +kernel
theorem dX9_hasDearer_44 : decode cX9_hasDearer 44 = .ok (.iconst 1, 1) := by decide +kernel
theorem dX9_hasDearer_45 : decode cX9_hasDearer 45 = .ok (.goto 4, 3) := by decide +kernel
theorem dX9_hasDearer_48 : decode cX9_hasDearer 48 = .ok (.iconst 0, 1) := by decide +kernel
theorem dX9_hasDearer_49 : decode cX9_hasDearer 49 = .ok (.istore_n 3, 1) := by decide +kernel
theorem dX9_hasDearer_50 : decode cX9_hasDearer 50 = .ok (.iinc 4 1, 3) := by decide +kernel
theorem dX9_hasDearer_53 : decode cX9_hasDearer 53 = .ok (.goto (-48), 3) := by decide +kernel
theorem dX9_hasDearer_56 : decode cX9_hasDearer 56 = .ok (.iload_n 3, 1) := by decide +kernel
theorem dX9_hasDearer_57 : decode cX9_hasDearer 57 = .ok (.ireturn, 1) := by decide +kernel
theorem dX9_worthOf_0 : decode cX9_worthOf 0 = .ok (.aload_n 0, 1) := by decide +kernel
theorem dX9_worthOf_1 : decode cX9_worthOf 1 = .ok (.getfield 34, 3) := by decide +kernel
theorem dX9_worthOf_4 : decode cX9_worthOf 4 = .ok (.iload_n 1, 1) := by decide +kernel
theorem dX9_worthOf_5 : decode cX9_worthOf 5 = .ok (.iaload, 1) := by decide +kernel
theorem dX9_worthOf_6 : decode cX9_worthOf 6 = .ok (.bipush 9, 2) := by decide +kernel
theorem dX9_worthOf_8 : decode cX9_worthOf 8 = .ok (.isub, 1) := by decide +kernel
theorem dX9_worthOf_9 : decode cX9_worthOf 9 = .ok (.aload_n 0, 1) := by decide +kernel
theorem dX9_worthOf_10 : decode cX9_worthOf 10 = .ok (.iload_n 2, 1) := by decide +kernel
theorem dX9_worthOf_11 : decode cX9_worthOf 11 = .ok (.iload_n 3, 1) := by decide +kernel
theorem dX9_worthOf_12 : decode cX9_worthOf 12 = .ok (.invokevirtual 173, 3) := by decide +kernel
theorem dX9_worthOf_15 : decode cX9_worthOf 15 = .ok (.iadd, 1) := by decide +kernel
theorem dX9_worthOf_16 : decode cX9_worthOf 16 = .ok (.iload_n 2, 1) := by decide +kernel
theorem dX9_worthOf_17 : decode cX9_worthOf 17 = .ok (.aload_n 0, 1) := by decide +kernel
theorem dX9_worthOf_18 : decode cX9_worthOf 18 = .ok (.getfield 31, 3) := by decide +kernel
theorem dX9_worthOf_21 : decode cX9_worthOf 21 = .ok (.iload_n 1, 1) := by decide +kernel
theorem dX9_worthOf_22 : decode cX9_worthOf 22 = .ok (.iaload, 1) := by decide +kernel
theorem dX9_worthOf_23 : decode cX9_worthOf 23 = .ok (.if_icmp .ne 7, 3) := by decide +kernel
theorem dX9_worthOf_26 : decode cX9_worthOf 26 = .ok (.iconst 0, 1) := by decide +kernel
theorem dX9_worthOf_27 : decode cX9_worthOf 27 = .ok (.goto 4, 3) := by decide +kernel
theorem dX9_worthOf_30 : decode cX9_worthOf 30 = .ok (.iconst 2, 1) := by decide +kernel
theorem dX9_worthOf_31 : decode cX9_worthOf 31 = .ok (.isub, 1) := by decide +kernel
theorem dX9_worthOf_32 : decode cX9_worthOf 32 = .ok (.istore 4, 2) := by decide +kernel
theorem dX9_worthOf_34 : decode cX9_worthOf 34 = .ok (.aload_n 0, 1) := by decide +kernel
theorem dX9_worthOf_35 : decode cX9_worthOf 35 = .ok (.getfield 159, 3) := by decide +kernel
theorem dX9_worthOf_38 : decode cX9_worthOf 38 = .ok (.ifCond .eq 19, 3) := by decide +kernel
theorem dX9_worthOf_41 : decode cX9_worthOf 41 = .ok (.aload_n 0, 1) := by decide +kernel
theorem dX9_worthOf_42 : decode cX9_worthOf 42 = .ok (.iload_n 2, 1) := by decide +kernel
theorem dX9_worthOf_43 : decode cX9_worthOf 43 = .ok (.iload_n 3, 1) := by decide +kernel
theorem dX9_worthOf_44 : decode cX9_worthOf 44 = .ok (.invokevirtual 191, 3) := by decide +kernel
theorem dX9_worthOf_47 : decode cX9_worthOf 47 = .ok (.ifCond .eq 10, 3) := by decide +kernel
theorem dX9_worthOf_50 : decode cX9_worthOf 50 = .ok (.iload 4, 2) := by decide +kernel
theorem dX9_worthOf_52 : decode cX9_worthOf 52 = .ok (.iconst 1, 1) := by decide +kernel
theorem dX9_worthOf_53 : decode cX9_worthOf 53 = .ok (.iadd, 1) := by decide +kernel
theorem dX9_worthOf_54 : decode cX9_worthOf 54 = .ok (.goto 5, 3) := by decide +kernel
theorem dX9_worthOf_57 : decode cX9_worthOf 57 = .ok (.iload 4, 2) := by decide +kernel
theorem dX9_worthOf_59 : decode cX9_worthOf 59 = .ok (.ireturn, 1) := by decide +kernel
theorem dX9_worth_0 : decode cX9_worth 0 = .ok (.aload_n 0, 1) := by decide +kernel
theorem dX9_worth_1 : decode cX9_worth 1 = .ok (.iload_n 1, 1) := by decide +kernel
theorem dX9_worth_2 : decode cX9_worth 2 = .ok (.invokevirtual 188, 3) := by decide +kernel
theorem dX9_worth_5 : decode cX9_worth 5 = .ok (.ifCond .ne 19, 3) := by decide +kernel
theorem dX9_worth_8 : decode cX9_worth 8 = .ok (.aload_n 0, 1) := by decide +kernel
theorem dX9_worth_9 : decode cX9_worth 9 = .ok (.iload_n 2, 1) := by decide +kernel
theorem dX9_worth_10 : decode cX9_worth 10 = .ok (.invokevirtual 163, 3) := by decide +kernel
theorem dX9_worth_13 : decode cX9_worth 13 = .ok (.ifCond .ne 11, 3) := by decide +kernel
theorem dX9_worth_16 : decode cX9_worth 16 = .ok (.aload_n 0, 1) := by decide +kernel
theorem dX9_worth_17 : decode cX9_worth 17 = .ok (.iload_n 3, 1) := by decide +kernel
theorem dX9_worth_18 : decode cX9_worth 18 = .ok (.invokevirtual 170, 3) := by decide +kernel
theorem dX9_worth_21 : decode cX9_worth 21 = .ok (.ifCond .eq 5, 3) := by decide +kernel
theorem dX9_worth_24 : decode cX9_worth 24 = .ok (.iconst (-1), 1) := by decide +kernel
theorem dX9_worth_25 : decode cX9_worth 25 = .ok (.ireturn, 1) := by decide +kernel
theorem dX9_worth_26 : decode cX9_worth 26 = .ok (.aload_n 0, 1) := by decide +kernel
theorem dX9_worth_27 : decode cX9_worth 27 = .ok (.invokevirtual 194, 3) := by decide +kernel
theorem dX9_worth_30 : decode cX9_worth 30 = .ok (.aload_n 0, 1) := by decide +kernel
theorem dX9_worth_31 : decode cX9_worth 31 = .ok (.iload_n 1, 1) := by decide +kernel
theorem dX9_worth_32 : decode cX9_worth 32 = .ok (.iload_n 2, 1) := by decide +kernel
theorem dX9_worth_33 : decode cX9_worth 33 = .ok (.iload_n 3, 1) := by decide +kernel
theorem dX9_worth_34 : decode cX9_worth 34 = .ok (.invokevirtual 197, 3) := by decide +kernel
theorem dX9_worth_37 : decode cX9_worth 37 = .ok (.ireturn, 1) := by decide +kernel
theorem dX9_gainOf_0 : decode cX9_gainOf 0 = .ok (.aload_n 0, 1) := by decide +kernel
theorem dX9_gainOf_1 : decode cX9_gainOf 1 = .ok (.iload_n 1, 1) := by decide +kernel
theorem dX9_gainOf_2 : decode cX9_gainOf 2 = .ok (.iload_n 2, 1) := by decide +kernel
theorem dX9_gainOf_3 : decode cX9_gainOf 3 = .ok (.iload_n 3, 1) := by decide +kernel
theorem dX9_gainOf_4 : decode cX9_gainOf 4 = .ok (.invokevirtual 197, 3) := by decide +kernel
theorem dX9_gainOf_7 : decode cX9_gainOf 7 = .ok (.aload_n 0, 1) := by decide +kernel
theorem dX9_gainOf_8 : decode cX9_gainOf 8 = .ok (.iload_n 2, 1) := by decide +kernel
theorem dX9_gainOf_9 : decode cX9_gainOf 9 = .ok (.iload_n 3, 1) := by decide +kernel
theorem dX9_gainOf_10 : decode cX9_gainOf 10 = .ok (.invokevirtual 180, 3) := by decide +kernel
theorem dX9_gainOf_13 : decode cX9_gainOf 13 = .ok (.isub, 1) := by decide +kernel
theorem dX9_gainOf_14 : decode cX9_gainOf 14 = .ok (.istore 4, 2) := by decide +kernel
theorem dX9_gainOf_16 : decode cX9_gainOf 16 = .ok (.aload_n 0, 1) := by decide +kernel
theorem dX9_gainOf_17 : decode cX9_gainOf 17 = .ok (.getfield 40, 3) := by decide +kernel
theorem dX9_gainOf_20 : decode cX9_gainOf 20 = .ok (.iload_n 2, 1) := by decide +kernel
theorem dX9_gainOf_21 : decode cX9_gainOf 21 = .ok (.iaload, 1) := by decide +kernel
theorem dX9_gainOf_22 : decode cX9_gainOf 22 = .ok (.ifCond .le 13, 3) := by decide +kernel
theorem dX9_gainOf_25 : decode cX9_gainOf 25 = .ok (.iload 4, 2) := by decide +kernel
theorem dX9_gainOf_27 : decode cX9_gainOf 27 = .ok (.ifCond .lt 8, 3) := by decide +kernel
theorem dX9_gainOf_30 : decode cX9_gainOf 30 = .ok (.iload 4, 2) := by decide +kernel
theorem dX9_gainOf_32 : decode cX9_gainOf 32 = .ok (.goto 5, 3) := by decide +kernel
theorem dX9_gainOf_35 : decode cX9_gainOf 35 = .ok (.bipush (-9), 2) := by decide +kernel
theorem dX9_gainOf_37 : decode cX9_gainOf 37 = .ok (.ireturn, 1) := by decide +kernel
theorem dX9_isCheaperNext_0 : decode cX9_isCheaperNext 0 = .ok (.iload_n 2, 1) := by decide +kernel
theorem dX9_isCheaperNext_1 : decode cX9_isCheaperNext 1 = .ok (.iconst 1, 1) := by decide +kernel
theorem dX9_isCheaperNext_2 : decode cX9_isCheaperNext 2 = .ok (.iadd, 1) := by decide +kernel
theorem dX9_isCheaperNext_3 : decode cX9_isCheaperNext 3 = .ok (.aload_n 0, 1) := by decide +kernel
theorem dX9_isCheaperNext_4 : decode cX9_isCheaperNext 4 = .ok (.getfield 119, 3) := by decide +kernel
theorem dX9_isCheaperNext_7 : decode cX9_isCheaperNext 7 = .ok (.if_icmp .ge 24, 3) := by decide +kernel
theorem dX9_isCheaperNext_10 : decode cX9_isCheaperNext 10 = .ok (.aload_n 0, 1) := by decide +kernel
theorem dX9_isCheaperNext_11 : decode cX9_isCheaperNext 11 = .ok (.iload_n 1, 1) := by decide +kernel
theorem dX9_isCheaperNext_12 : decode cX9_isCheaperNext 12 = .ok (.iload_n 2, 1) := by decide +kernel
theorem dX9_isCheaperNext_13 : decode cX9_isCheaperNext 13 = .ok (.iconst 1, 1) := by decide +kernel
theorem dX9_isCheaperNext_14 : decode cX9_isCheaperNext 14 = .ok (.iadd, 1) := by decide +kernel
theorem dX9_isCheaperNext_15 : decode cX9_isCheaperNext 15 = .ok (.invokevirtual 180, 3) := by decide +kernel
theorem dX9_isCheaperNext_18 : decode cX9_isCheaperNext 18 = .ok (.aload_n 0, 1) := by decide +kernel
theorem dX9_isCheaperNext_19 : decode cX9_isCheaperNext 19 = .ok (.iload_n 1, 1) := by decide +kernel
theorem dX9_isCheaperNext_20 : decode cX9_isCheaperNext 20 = .ok (.iload_n 2, 1) := by decide +kernel
theorem dX9_isCheaperNext_21 : decode cX9_isCheaperNext 21 = .ok (.invokevirtual 180, 3) := by decide +kernel
theorem dX9_isCheaperNext_24 : decode cX9_isCheaperNext 24 = .ok (.if_icmp .ge 7, 3) := by decide +kernel
theorem dX9_isCheaperNext_27 : decode cX9_isCheaperNext 27 = .ok (.iconst 1, 1) := by decide +kernel
theorem dX9_isCheaperNext_28 : decode cX9_isCheaperNext 28 = .ok (.goto 4, 3) := by decide +kernel
theorem dX9_isCheaperNext_31 : decode cX9_isCheaperNext 31 = .ok (.iconst 0, 1) := by decide +kernel
theorem dX9_isCheaperNext_32 : decode cX9_isCheaperNext 32 = .ok (.ireturn, 1) := by decide +kernel
theorem dX9_wanted_0 : decode cX9_wanted 0 = .ok (.aload_n 0, 1) := by decide +kernel
theorem dX9_wanted_1 : decode cX9_wanted 1 = .ok (.getfield 31, 3) := by decide +kernel
theorem dX9_wanted_4 : decode cX9_wanted 4 = .ok (.iload_n 1, 1) := by decide +kernel
theorem dX9_wanted_5 : decode cX9_wanted 5 = .ok (.iaload, 1) := by decide +kernel
theorem dX9_wanted_6 : decode cX9_wanted 6 = .ok (.istore_n 3, 1) := by decide +kernel
theorem dX9_wanted_7 : decode cX9_wanted 7 = .ok (.aload_n 0, 1) := by decide +kernel
theorem dX9_wanted_8 : decode cX9_wanted 8 = .ok (.getfield 28, 3) := by decide +kernel
theorem dX9_wanted_11 : decode cX9_wanted 11 = .ok (.iload_n 1, 1) := by decide +kernel
theorem dX9_wanted_12 : decode cX9_wanted 12 = .ok (.iaload, 1) := by decide +kernel
theorem dX9_wanted_13 : decode cX9_wanted 13 = .ok (.iconst 2, 1) := by decide +kernel
theorem dX9_wanted_14 : decode cX9_wanted 14 = .ok (.if_icmp .ne 15, 3) := by decide +kernel
theorem dX9_wanted_17 : decode cX9_wanted 17 = .ok (.aload_n 0, 1) := by decide +kernel
theorem dX9_wanted_18 : decode cX9_wanted 18 = .ok (.iload_n 3, 1) := by decide +kernel
theorem dX9_wanted_19 : decode cX9_wanted 19 = .ok (.iload_n 2, 1) := by decide +kernel
theorem dX9_wanted_20 : decode cX9_wanted 20 = .ok (.invokevirtual 201, 3) := by decide +kernel
theorem dX9_wanted_23 : decode cX9_wanted 23 = .ok (.ifCond .eq 6, 3) := by decide +kernel
theorem dX9_wanted_26 : decode cX9_wanted 26 = .ok (.bipush (-9), 2) := by decide +kernel
theorem dX9_wanted_28 : decode cX9_wanted 28 = .ok (.ireturn, 1) := by decide +kernel
theorem dX9_wanted_29 : decode cX9_wanted 29 = .ok (.aload_n 0, 1) := by decide +kernel
theorem dX9_wanted_30 : decode cX9_wanted 30 = .ok (.iload_n 1, 1) := by decide +kernel
theorem dX9_wanted_31 : decode cX9_wanted 31 = .ok (.iload_n 3, 1) := by decide +kernel
theorem dX9_wanted_32 : decode cX9_wanted 32 = .ok (.iload_n 2, 1) := by decide +kernel
theorem dX9_wanted_33 : decode cX9_wanted 33 = .ok (.invokevirtual 204, 3) := by decide +kernel
theorem dX9_wanted_36 : decode cX9_wanted 36 = .ok (.ifCond .lt 5, 3) := by decide +kernel
theorem dX9_wanted_39 : decode cX9_wanted 39 = .ok (.iload_n 3, 1) := by decide +kernel
theorem dX9_wanted_40 : decode cX9_wanted 40 = .ok (.ireturn, 1) := by decide +kernel
theorem dX9_wanted_41 : decode cX9_wanted 41 = .ok (.bipush (-9), 2) := by decide +kernel
theorem dX9_wanted_43 : decode cX9_wanted 43 = .ok (.istore 4, 2) := by decide +kernel
theorem dX9_wanted_45 : decode cX9_wanted 45 = .ok (.bipush (-9), 2) := by decide +kernel
theorem dX9_wanted_47 : decode cX9_wanted 47 = .ok (.istore 5, 2) := by decide +kernel
theorem dX9_wanted_49 : decode cX9_wanted 49 = .ok (.iconst 0, 1) := by decide +kernel
theorem dX9_wanted_50 : decode cX9_wanted 50 = .ok (.istore 6, 2) := by decide +kernel
theorem dX9_wanted_52 : decode cX9_wanted 52 = .ok (.iload 6, 2) := by decide +kernel
theorem dX9_wanted_54 : decode cX9_wanted 54 = .ok (.aload_n 0, 1) := by decide +kernel
theorem dX9_wanted_55 : decode cX9_wanted 55 = .ok (.getfield 116, 3) := by decide +kernel
theorem dX9_wanted_58 : decode cX9_wanted 58 = .ok (.if_icmp .ge 64, 3) := by decide +kernel
theorem dX9_wanted_61 : decode cX9_wanted 61 = .ok (.aload_n 0, 1) := by decide +kernel
theorem dX9_wanted_62 : decode cX9_wanted 62 = .ok (.getfield 28, 3) := by decide +kernel
theorem dX9_wanted_65 : decode cX9_wanted 65 = .ok (.iload_n 1, 1) := by decide +kernel
theorem dX9_wanted_66 : decode cX9_wanted 66 = .ok (.iaload, 1) := by decide +kernel
theorem dX9_wanted_67 : decode cX9_wanted 67 = .ok (.ifCond .le 55, 3) := by decide +kernel
theorem dX9_wanted_70 : decode cX9_wanted 70 = .ok (.iload 6, 2) := by decide +kernel
theorem dX9_wanted_72 : decode cX9_wanted 72 = .ok (.iload_n 3, 1) := by decide +kernel
theorem dX9_wanted_73 : decode cX9_wanted 73 = .ok (.if_icmp .ne 8, 3) := by decide +kernel
theorem dX9_wanted_76 : decode cX9_wanted 76 = .ok (.bipush (-9), 2) := by decide +kernel
theorem dX9_wanted_78 : decode cX9_wanted 78 = .ok (.goto 11, 3) := by decide +kernel
theorem dX9_wanted_81 : decode cX9_wanted 81 = .ok (.aload_n 0, 1) := by decide +kernel
theorem dX9_wanted_82 : decode cX9_wanted 82 = .ok (.iload_n 1, 1) := by decide +kernel
theorem dX9_wanted_83 : decode cX9_wanted 83 = .ok (.iload 6, 2) := by decide +kernel
theorem dX9_wanted_85 : decode cX9_wanted 85 = .ok (.iload_n 2, 1) := by decide +kernel
theorem dX9_wanted_86 : decode cX9_wanted 86 = .ok (.invokevirtual 204, 3) := by decide +kernel
theorem dX9_wanted_89 : decode cX9_wanted 89 = .ok (.istore 7, 2) := by decide +kernel
theorem dX9_wanted_91 : decode cX9_wanted 91 = .ok (.iload 7, 2) := by decide +kernel
theorem dX9_wanted_93 : decode cX9_wanted 93 = .ok (.iload 5, 2) := by decide +kernel
theorem dX9_wanted_95 : decode cX9_wanted 95 = .ok (.if_icmp .le 8, 3) := by decide +kernel
theorem dX9_wanted_98 : decode cX9_wanted 98 = .ok (.iload 6, 2) := by decide +kernel
theorem dX9_wanted_100 : decode cX9_wanted 100 = .ok (.goto 5, 3) := by decide +kernel
theorem dX9_wanted_103 : decode cX9_wanted 103 = .ok (.iload 4, 2) := by decide +kernel
theorem dX9_wanted_105 : decode cX9_wanted 105 = .ok (.istore 4, 2) := by decide +kernel
theorem dX9_wanted_107 : decode cX9_wanted 107 = .ok (.iload 5, 2) := by decide +kernel
theorem dX9_wanted_109 : decode cX9_wanted 109 = .ok (.iload 7, 2) := by decide +kernel
theorem dX9_wanted_111 : decode cX9_wanted 111 = .ok (.invokestatic 166, 3) := by decide +kernel
theorem dX9_wanted_114 : decode cX9_wanted 114 = .ok (.istore 5, 2) := by decide +kernel
theorem dX9_wanted_116 : decode cX9_wanted 116 = .ok (.iinc 6 1, 3) := by decide +kernel
theorem dX9_wanted_119 : decode cX9_wanted 119 = .ok (.goto (-67), 3) := by decide +kernel
theorem dX9_wanted_122 : decode cX9_wanted 122 = .ok (.iload 4, 2) := by decide +kernel
theorem dX9_wanted_124 : decode cX9_wanted 124 = .ok (.ireturn, 1) := by decide +kernel
theorem dX9_sell_0 : decode cX9_sell 0 = .ok (.aload_n 0, 1) := by decide +kernel
theorem dX9_sell_1 : decode cX9_sell 1 = .ok (.getfield 40, 3) := by decide +kernel
theorem dX9_sell_4 : decode cX9_sell 4 = .ok (.iload_n 1, 1) := by decide +kernel
theorem dX9_sell_5 : decode cX9_sell 5 = .ok (.dup2, 1) := by decide +kernel
theorem dX9_sell_6 : decode cX9_sell 6 = .ok (.iaload, 1) := by decide +kernel
theorem dX9_sell_7 : decode cX9_sell 7 = .ok (.iconst 1, 1) := by decide +kernel
theorem dX9_sell_8 : decode cX9_sell 8 = .ok (.isub, 1) := by decide +kernel
theorem dX9_sell_9 : decode cX9_sell 9 = .ok (.iastore, 1) := by decide +kernel
theorem dX9_sell_10 : decode cX9_sell 10 = .ok (.aload_n 0, 1) := by decide +kernel
theorem dX9_sell_11 : decode cX9_sell 11 = .ok (.dup, 1) := by decide +kernel
theorem dX9_sell_12 : decode cX9_sell 12 = .ok (.getfield 207, 3) := by decide +kernel
theorem dX9_sell_15 : decode cX9_sell 15 = .ok (.iload_n 3, 1) := by decide +kernel
theorem dX9_sell_16 : decode cX9_sell 16 = .ok (.iadd, 1) := by decide +kernel
theorem dX9_sell_17 : decode cX9_sell 17 = .ok (.putfield 207, 3) := by decide +kernel
theorem dX9_sell_20 : decode cX9_sell 20 = .ok (.aload_n 0, 1) := by decide +kernel
theorem dX9_sell_21 : decode cX9_sell 21 = .ok (.getfield 58, 3) := by decide +kernel
theorem dX9_sell_24 : decode cX9_sell 24 = .ok (.iload_n 1, 1) := by decide +kernel
theorem dX9_sell_25 : decode cX9_sell 25 = .ok (.dup2, 1) := by decide +kernel
theorem dX9_sell_26 : decode cX9_sell 26 = .ok (.iaload, 1) := by decide +kernel
theorem dX9_sell_27 : decode cX9_sell 27 = .ok (.iload_n 3, 1) := by decide +kernel
theorem dX9_sell_28 : decode cX9_sell 28 = .ok (.iadd, 1) := by decide +kernel
theorem dX9_sell_29 : decode cX9_sell 29 = .ok (.iastore, 1) := by decide +kernel
theorem dX9_sell_30 : decode cX9_sell 30 = .ok (.aload_n 0, 1) := by decide +kernel
theorem dX9_sell_31 : decode cX9_sell 31 = .ok (.getfield 55, 3) := by decide +kernel
theorem dX9_sell_34 : decode cX9_sell 34 = .ok (.iload_n 1, 1) := by decide +kernel
theorem dX9_sell_35 : decode cX9_sell 35 = .ok (.aload_n 0, 1) := by decide +kernel
theorem dX9_sell_36 : decode cX9_sell 36 = .ok (.getfield 40, 3) := by decide +kernel
theorem dX9_sell_39 : decode cX9_sell 39 = .ok (.iload_n 1, 1) := by decide +kernel
theorem dX9_sell_40 : decode cX9_sell 40 = .ok (.iaload, 1) := by decide +kernel
theorem dX9_sell_41 : decode cX9_sell 41 = .ok (.ifCond .ne 7, 3) := by decide +kernel
theorem dX9_sell_44 : decode cX9_sell 44 = .ok (.iload_n 2, 1) := by decide +kernel
theorem dX9_sell_45 : decode cX9_sell 45 = .ok (.goto 9, 3) := by decide +kernel
theorem dX9_sell_48 : decode cX9_sell 48 = .ok (.aload_n 0, 1) := by decide +kernel
theorem dX9_sell_49 : decode cX9_sell 49 = .ok (.getfield 55, 3) := by decide +kernel
theorem dX9_sell_52 : decode cX9_sell 52 = .ok (.iload_n 1, 1) := by decide +kernel
theorem dX9_sell_53 : decode cX9_sell 53 = .ok (.iaload, 1) := by decide +kernel
theorem dX9_sell_54 : decode cX9_sell 54 = .ok (.iastore, 1) := by decide +kernel
theorem dX9_sell_55 : decode cX9_sell 55 = .ok (.return_, 1) := by decide +kernel
theorem dX9_comes_0 : decode cX9_comes 0 = .ok (.aload_n 0, 1) := by decide +kernel
theorem dX9_comes_1 : decode cX9_comes 1 = .ok (.getfield 52, 3) := by decide +kernel
theorem dX9_comes_4 : decode cX9_comes 4 = .ok (.iload_n 1, 1) := by decide +kernel
theorem dX9_comes_5 : decode cX9_comes 5 = .ok (.dup2, 1) := by decide +kernel
theorem dX9_comes_6 : decode cX9_comes 6 = .ok (.iaload, 1) := by decide +kernel
theorem dX9_comes_7 : decode cX9_comes 7 = .ok (.iconst 1, 1) := by decide +kernel
theorem dX9_comes_8 : decode cX9_comes 8 = .ok (.iadd, 1) := by decide +kernel
theorem dX9_comes_9 : decode cX9_comes 9 = .ok (.iastore, 1) := by decide +kernel
theorem dX9_comes_10 : decode cX9_comes 10 = .ok (.aload_n 0, 1) := by decide +kernel
theorem dX9_comes_11 : decode cX9_comes 11 = .ok (.iload_n 1, 1) := by decide +kernel
theorem dX9_comes_12 : decode cX9_comes 12 = .ok (.iload_n 2, 1) := by decide +kernel
theorem dX9_comes_13 : decode cX9_comes 13 = .ok (.invokevirtual 210, 3) := by decide +kernel
theorem dX9_comes_16 : decode cX9_comes 16 = .ok (.istore_n 3, 1) := by decide +kernel
theorem dX9_comes_17 : decode cX9_comes 17 = .ok (.iload_n 3, 1) := by decide +kernel
theorem dX9_comes_18 : decode cX9_comes 18 = .ok (.ifCond .lt 41, 3) := by decide +kernel
theorem dX9_comes_21 : decode cX9_comes 21 = .ok (.aload_n 0, 1) := by decide +kernel
theorem dX9_comes_22 : decode cX9_comes 22 = .ok (.getfield 43, 3) := by decide +kernel
theorem dX9_comes_25 : decode cX9_comes 25 = .ok (.iload_n 1, 1) := by decide +kernel
theorem dX9_comes_26 : decode cX9_comes 26 = .ok (.iload_n 3, 1) := by decide +kernel
theorem dX9_comes_27 : decode cX9_comes 27 = .ok (.iastore, 1) := by decide +kernel
theorem dX9_comes_28 : decode cX9_comes 28 = .ok (.aload_n 0, 1) := by decide +kernel
theorem dX9_comes_29 : decode cX9_comes 29 = .ok (.getfield 46, 3) := by decide +kernel
theorem dX9_comes_32 : decode cX9_comes 32 = .ok (.iload_n 1, 1) := by decide +kernel
theorem dX9_comes_33 : decode cX9_comes 33 = .ok (.iload_n 2, 1) := by decide +kernel
theorem dX9_comes_34 : decode cX9_comes 34 = .ok (.iastore, 1) := by decide +kernel
theorem dX9_comes_35 : decode cX9_comes 35 = .ok (.aload_n 0, 1) := by decide +kernel
theorem dX9_comes_36 : decode cX9_comes 36 = .ok (.getfield 49, 3) := by decide +kernel
theorem dX9_comes_39 : decode cX9_comes 39 = .ok (.iload_n 1, 1) := by decide +kernel
theorem dX9_comes_40 : decode cX9_comes 40 = .ok (.aload_n 0, 1) := by decide +kernel
theorem dX9_comes_41 : decode cX9_comes 41 = .ok (.iload_n 3, 1) := by decide +kernel
theorem dX9_comes_42 : decode cX9_comes 42 = .ok (.iload_n 2, 1) := by decide +kernel
theorem dX9_comes_43 : decode cX9_comes 43 = .ok (.invokevirtual 180, 3) := by decide +kernel
theorem dX9_comes_46 : decode cX9_comes 46 = .ok (.iastore, 1) := by decide +kernel
theorem dX9_comes_47 : decode cX9_comes 47 = .ok (.aload_n 0, 1) := by decide +kernel
theorem dX9_comes_48 : decode cX9_comes 48 = .ok (.iload_n 3, 1) := by decide +kernel
theorem dX9_comes_49 : decode cX9_comes 49 = .ok (.iload_n 2, 1) := by decide +kernel
theorem dX9_comes_50 : decode cX9_comes 50 = .ok (.aload_n 0, 1) := by decide +kernel
theorem dX9_comes_51 : decode cX9_comes 51 = .ok (.iload_n 3, 1) := by decide +kernel
theorem dX9_comes_52 : decode cX9_comes 52 = .ok (.iload_n 2, 1) := by decide +kernel
theorem dX9_comes_53 : decode cX9_comes 53 = .ok (.invokevirtual 180, 3) := by decide +kernel
theorem dX9_comes_56 : decode cX9_comes 56 = .ok (.invokevirtual 213, 3) := by decide +kernel
theorem dX9_comes_59 : decode cX9_comes 59 = .ok (.return_, 1) := by decide +kernel
theorem dX9_goThrough_0 : decode cX9_goThrough 0 = .ok (.aload_n 0, 1) := by decide +kernel
theorem dX9_goThrough_1 : decode cX9_goThrough 1 = .ok (.invokevirtual 194, 3) := by decide +kernel
theorem dX9_goThrough_4 : decode cX9_goThrough 4 = .ok (.aload_n 0, 1) := by decide +kernel
theorem dX9_goThrough_5 : decode cX9_goThrough 5 = .ok (.iconst 0, 1) := by decide +kernel
theorem dX9_goThrough_6 : decode cX9_goThrough 6 = .ok (.putfield 207, 3) := by decide +kernel
theorem dX9_goThrough_9 : decode cX9_goThrough 9 = .ok (.iconst 0, 1) := by decide +kernel
theorem dX9_goThrough_10 : decode cX9_goThrough 10 = .ok (.istore 4, 2) := by decide +kernel
theorem dX9_goThrough_12 : decode cX9_goThrough 12 = .ok (.iload 4, 2) := by decide +kernel
theorem dX9_goThrough_14 : decode cX9_goThrough 14 = .ok (.aload_n 0, 1) := by decide +kernel
theorem dX9_goThrough_15 : decode cX9_goThrough 15 = .ok (.getfield 116, 3) := by decide +kernel
theorem dX9_goThrough_18 : decode cX9_goThrough 18 = .ok (.if_icmp .ge 26, 3) := by decide +kernel
theorem dX9_goThrough_21 : decode cX9_goThrough 21 = .ok (.aload_n 0, 1) := by decide +kernel
theorem dX9_goThrough_22 : decode cX9_goThrough 22 = .ok (.getfield 55, 3) := by decide +kernel
theorem dX9_goThrough_25 : decode cX9_goThrough 25 = .ok (.iload 4, 2) := by decide +kernel
theorem dX9_goThrough_27 : decode cX9_goThrough 27 = .ok (.bipush (-9), 2) := by decide +kernel
theorem dX9_goThrough_29 : decode cX9_goThrough 29 = .ok (.iastore, 1) := by decide +kernel
theorem dX9_goThrough_30 : decode cX9_goThrough 30 = .ok (.aload_n 0, 1) := by decide +kernel
theorem dX9_goThrough_31 : decode cX9_goThrough 31 = .ok (.getfield 58, 3) := by decide +kernel
theorem dX9_goThrough_34 : decode cX9_goThrough 34 = .ok (.iload 4, 2) := by decide +kernel
theorem dX9_goThrough_36 : decode cX9_goThrough 36 = .ok (.iconst 0, 1) := by decide +kernel
theorem dX9_goThrough_37 : decode cX9_goThrough 37 = .ok (.iastore, 1) := by decide +kernel
theorem dX9_goThrough_38 : decode cX9_goThrough 38 = .ok (.iinc 4 1, 3) := by decide +kernel
theorem dX9_goThrough_41 : decode cX9_goThrough 41 = .ok (.goto (-29), 3) := by decide +kernel
theorem dX9_goThrough_44 : decode cX9_goThrough 44 = .ok (.iconst 0, 1) := by decide +kernel
theorem dX9_goThrough_45 : decode cX9_goThrough 45 = .ok (.istore 4, 2) := by decide +kernel
theorem dX9_goThrough_47 : decode cX9_goThrough 47 = .ok (.iload 4, 2) := by decide +kernel
theorem dX9_goThrough_49 : decode cX9_goThrough 49 = .ok (.aload_n 0, 1) := by decide +kernel
theorem dX9_goThrough_50 : decode cX9_goThrough 50 = .ok (.getfield 153, 3) := by decide +kernel
theorem dX9_goThrough_53 : decode cX9_goThrough 53 = .ok (.if_icmp .ge 44, 3) := by decide +kernel
theorem dX9_goThrough_56 : decode cX9_goThrough 56 = .ok (.aload_n 0, 1) := by decide +kernel
theorem dX9_goThrough_57 : decode cX9_goThrough 57 = .ok (.getfield 43, 3) := by decide +kernel
theorem dX9_goThrough_60 : decode cX9_goThrough 60 = .ok (.iload 4, 2) := by decide +kernel
theorem dX9_goThrough_62 : decode cX9_goThrough 62 = .ok (.bipush (-9), 2) := by decide +kernel
theorem dX9_goThrough_64 : decode cX9_goThrough 64 = .ok (.iastore, 1) := by decide +kernel
theorem dX9_goThrough_65 : decode cX9_goThrough 65 = .ok (.aload_n 0, 1) := by decide +kernel
theorem dX9_goThrough_66 : decode cX9_goThrough 66 = .ok (.getfield 46, 3) := by decide +kernel
theorem dX9_goThrough_69 : decode cX9_goThrough 69 = .ok (.iload 4, 2) := by decide +kernel
theorem dX9_goThrough_71 : decode cX9_goThrough 71 = .ok (.bipush (-9), 2) := by decide +kernel
theorem dX9_goThrough_73 : decode cX9_goThrough 73 = .ok (.iastore, 1) := by decide +kernel
theorem dX9_goThrough_74 : decode cX9_goThrough 74 = .ok (.aload_n 0, 1) := by decide +kernel
theorem dX9_goThrough_75 : decode cX9_goThrough 75 = .ok (.getfield 49, 3) := by decide +kernel
theorem dX9_goThrough_78 : decode cX9_goThrough 78 = .ok (.iload 4, 2) := by decide +kernel
theorem dX9_goThrough_80 : decode cX9_goThrough 80 = .ok (.bipush (-9), 2) := by decide +kernel
theorem dX9_goThrough_82 : decode cX9_goThrough 82 = .ok (.iastore, 1) := by decide +kernel
theorem dX9_goThrough_83 : decode cX9_goThrough 83 = .ok (.aload_n 0, 1) := by decide +kernel
theorem dX9_goThrough_84 : decode cX9_goThrough 84 = .ok (.getfield 52, 3) := by decide +kernel
theorem dX9_goThrough_87 : decode cX9_goThrough 87 = .ok (.iload 4, 2) := by decide +kernel
theorem dX9_goThrough_89 : decode cX9_goThrough 89 = .ok (.iconst 0, 1) := by decide +kernel
theorem dX9_goThrough_90 : decode cX9_goThrough 90 = .ok (.iastore, 1) := by decide +kernel
theorem dX9_goThrough_91 : decode cX9_goThrough 91 = .ok (.iinc 4 1, 3) := by decide +kernel
theorem dX9_goThrough_94 : decode cX9_goThrough 94 = .ok (.goto (-47), 3) := by decide +kernel
theorem dX9_goThrough_97 : decode cX9_goThrough 97 = .ok (.iconst 0, 1) := by decide +kernel
theorem dX9_goThrough_98 : decode cX9_goThrough 98 = .ok (.istore 4, 2) := by decide +kernel
theorem dX9_goThrough_100 : decode cX9_goThrough 100 = .ok (.iload 4, 2) := by decide +kernel
theorem dX9_goThrough_102 : decode cX9_goThrough 102 = .ok (.aload_n 0, 1) := by decide +kernel
theorem dX9_goThrough_103 : decode cX9_goThrough 103 = .ok (.getfield 119, 3) := by decide +kernel
theorem dX9_goThrough_106 : decode cX9_goThrough 106 = .ok (.if_icmp .ge 118, 3) := by decide +kernel
theorem dX9_goThrough_109 : decode cX9_goThrough 109 = .ok (.iload 4, 2) := by decide +kernel
theorem dX9_goThrough_111 : decode cX9_goThrough 111 = .ok (.iload_n 2, 1) := by decide +kernel
theorem dX9_goThrough_112 : decode cX9_goThrough 112 = .ok (.if_icmp .ne 23, 3) := by decide +kernel
theorem dX9_goThrough_115 : decode cX9_goThrough 115 = .ok (.aload_n 0, 1) := by decide +kernel
theorem dX9_goThrough_116 : decode cX9_goThrough 116 = .ok (.getfield 40, 3) := by decide +kernel
theorem dX9_goThrough_119 : decode cX9_goThrough 119 = .ok (.iload_n 1, 1) := by decide +kernel
theorem dX9_goThrough_120 : decode cX9_goThrough 120 = .ok (.iaload, 1) := by decide +kernel
theorem dX9_goThrough_121 : decode cX9_goThrough 121 = .ok (.ifCond .le 14, 3) := by decide +kernel
theorem dX9_goThrough_124 : decode cX9_goThrough 124 = .ok (.aload_n 0, 1) := by decide +kernel
theorem dX9_goThrough_125 : decode cX9_goThrough 125 = .ok (.iload_n 1, 1) := by decide +kernel
theorem dX9_goThrough_126 : decode cX9_goThrough 126 = .ok (.iload 4, 2) := by decide +kernel
theorem dX9_goThrough_128 : decode cX9_goThrough 128 = .ok (.iload_n 3, 1) := by decide +kernel
theorem dX9_goThrough_129 : decode cX9_goThrough 129 = .ok (.invokevirtual 213, 3) := by decide +kernel
theorem dX9_goThrough_132 : decode cX9_goThrough 132 = .ok (.goto (-23), 3) := by decide +kernel
theorem dX9_goThrough_135 : decode cX9_goThrough 135 = .ok (.iconst 0, 1) := by decide +kernel
theorem dX9_goThrough_136 : decode cX9_goThrough 136 = .ok (.istore 5, 2) := by decide +kernel
theorem dX9_goThrough_138 : decode cX9_goThrough 138 = .ok (.iload 5, 2) := by decide +kernel
theorem dX9_goThrough_140 : decode cX9_goThrough 140 = .ok (.aload_n 0, 1) := by decide +kernel
theorem dX9_goThrough_141 : decode cX9_goThrough 141 = .ok (.getfield 153, 3) := by decide +kernel
theorem dX9_goThrough_144 : decode cX9_goThrough 144 = .ok (.if_icmp .ge 74, 3) := by decide +kernel
theorem dX9_goThrough_147 : decode cX9_goThrough 147 = .ok (.aload_n 0, 1) := by decide +kernel
theorem dX9_goThrough_148 : decode cX9_goThrough 148 = .ok (.getfield 28, 3) := by decide +kernel
theorem dX9_goThrough_151 : decode cX9_goThrough 151 = .ok (.iload 5, 2) := by decide +kernel
theorem dX9_goThrough_153 : decode cX9_goThrough 153 = .ok (.iaload, 1) := by decide +kernel
theorem dX9_goThrough_154 : decode cX9_goThrough 154 = .ok (.iconst 2, 1) := by decide +kernel
theorem dX9_goThrough_155 : decode cX9_goThrough 155 = .ok (.if_icmp .ne 29, 3) := by decide +kernel
theorem dX9_goThrough_158 : decode cX9_goThrough 158 = .ok (.iload 4, 2) := by decide +kernel
theorem dX9_goThrough_160 : decode cX9_goThrough 160 = .ok (.aload_n 0, 1) := by decide +kernel
theorem dX9_goThrough_161 : decode cX9_goThrough 161 = .ok (.getfield 37, 3) := by decide +kernel
theorem dX9_goThrough_164 : decode cX9_goThrough 164 = .ok (.iload 5, 2) := by decide +kernel
theorem dX9_goThrough_166 : decode cX9_goThrough 166 = .ok (.iaload, 1) := by decide +kernel
theorem dX9_goThrough_167 : decode cX9_goThrough 167 = .ok (.if_icmp .le 17, 3) := by decide +kernel
theorem dX9_goThrough_170 : decode cX9_goThrough 170 = .ok (.aload_n 0, 1) := by decide +kernel
theorem dX9_goThrough_171 : decode cX9_goThrough 171 = .ok (.getfield 43, 3) := by decide +kernel
theorem dX9_goThrough_174 : decode cX9_goThrough 174 = .ok (.iload 5, 2) := by decide +kernel
theorem dX9_goThrough_176 : decode cX9_goThrough 176 = .ok (.iaload, 1) := by decide +kernel
theorem dX9_goThrough_177 : decode cX9_goThrough 177 = .ok (.ifCond .ge 7, 3) := by decide +kernel
theorem dX9_goThrough_180 : decode cX9_goThrough 180 = .ok (.iconst 1, 1) := by decide +kernel
theorem dX9_goThrough_181 : decode cX9_goThrough 181 = .ok (.goto 4, 3) := by decide +kernel
theorem dX9_goThrough_184 : decode cX9_goThrough 184 = .ok (.iconst 0, 1) := by decide +kernel
theorem dX9_goThrough_185 : decode cX9_goThrough 185 = .ok (.istore 6, 2) := by decide +kernel
theorem dX9_goThrough_187 : decode cX9_goThrough 187 = .ok (.iload 4, 2) := by decide +kernel
theorem dX9_goThrough_189 : decode cX9_goThrough 189 = .ok (.aload_n 0, 1) := by decide +kernel
theorem dX9_goThrough_190 : decode cX9_goThrough 190 = .ok (.getfield 37, 3) := by decide +kernel
theorem dX9_goThrough_193 : decode cX9_goThrough 193 = .ok (.iload 5, 2) := by decide +kernel
theorem dX9_goThrough_195 : decode cX9_goThrough 195 = .ok (.iaload, 1) := by decide +kernel
theorem dX9_goThrough_196 : decode cX9_goThrough 196 = .ok (.if_icmp .eq 8, 3) := by decide +kernel
theorem dX9_goThrough_199 : decode cX9_goThrough 199 = .ok (.iload 6, 2) := by decide +kernel
theorem dX9_goThrough_201 : decode cX9_goThrough 201 = .ok (.ifCond .eq 11, 3) := by decide +kernel
theorem dX9_goThrough_204 : decode cX9_goThrough 204 = .ok (.aload_n 0, 1) := by decide +kernel
theorem dX9_goThrough_205 : decode cX9_goThrough 205 = .ok (.iload 5, 2) := by decide +kernel
theorem dX9_goThrough_207 : decode cX9_goThrough 207 = .ok (.iload 4, 2) := by decide +kernel
theorem dX9_goThrough_209 : decode cX9_goThrough 209 = .ok (.invokevirtual 217, 3) := by decide +kernel
theorem dX9_goThrough_212 : decode cX9_goThrough 212 = .ok (.iinc 5 1, 3) := by decide +kernel
theorem dX9_goThrough_215 : decode cX9_goThrough 215 = .ok (.goto (-77), 3) := by decide +kernel
theorem dX9_goThrough_218 : decode cX9_goThrough 218 = .ok (.iinc 4 1, 3) := by decide +kernel
theorem dX9_goThrough_221 : decode cX9_goThrough 221 = .ok (.goto (-121), 3) := by decide +kernel
theorem dX9_goThrough_224 : decode cX9_goThrough 224 = .ok (.return_, 1) := by decide +kernel
theorem dX9_left_0 : decode cX9_left 0 = .ok (.iconst 0, 1) := by decide +kernel
theorem dX9_left_1 : decode cX9_left 1 = .ok (.istore_n 1, 1) := by decide +kernel
theorem dX9_left_2 : decode cX9_left 2 = .ok (.iconst 0, 1) := by decide +kernel
theorem dX9_left_3 : decode cX9_left 3 = .ok (.istore_n 2, 1) := by decide +kernel
theorem dX9_left_4 : decode cX9_left 4 = .ok (.iload_n 2, 1) := by decide +kernel
theorem dX9_left_5 : decode cX9_left 5 = .ok (.aload_n 0, 1) := by decide +kernel
theorem dX9_left_6 : decode cX9_left 6 = .ok (.getfield 116, 3) := by decide +kernel
theorem dX9_left_9 : decode cX9_left 9 = .ok (.if_icmp .ge 18, 3) := by decide +kernel
theorem dX9_left_12 : decode cX9_left 12 = .ok (.iload_n 1, 1) := by decide +kernel
theorem dX9_left_13 : decode cX9_left 13 = .ok (.aload_n 0, 1) := by decide +kernel
theorem dX9_left_14 : decode cX9_left 14 = .ok (.getfield 40, 3) := by decide +kernel
theorem dX9_left_17 : decode cX9_left 17 = .ok (.iload_n 2, 1) := by decide +kernel
theorem dX9_left_18 : decode cX9_left 18 = .ok (.iaload, 1) := by decide +kernel
theorem dX9_left_19 : decode cX9_left 19 = .ok (.iadd, 1) := by decide +kernel
theorem dX9_left_20 : decode cX9_left 20 = .ok (.istore_n 1, 1) := by decide +kernel
theorem dX9_left_21 : decode cX9_left 21 = .ok (.iinc 2 1, 3) := by decide +kernel
theorem dX9_left_24 : decode cX9_left 24 = .ok (.goto (-20), 3) := by decide +kernel
theorem dX9_left_27 : decode cX9_left 27 = .ok (.iload_n 1, 1) := by decide +kernel
theorem dX9_left_28 : decode cX9_left 28 = .ok (.ireturn, 1) := by decide +kernel
theorem dX9_allFish_0 : decode cX9_allFish 0 = .ok (.iconst 0, 1) := by decide +kernel
theorem dX9_allFish_1 : decode cX9_allFish 1 = .ok (.istore_n 1, 1) := by decide +kernel
theorem dX9_allFish_2 : decode cX9_allFish 2 = .ok (.iconst 0, 1) := by decide +kernel
theorem dX9_allFish_3 : decode cX9_allFish 3 = .ok (.istore_n 2, 1) := by decide +kernel
theorem dX9_allFish_4 : decode cX9_allFish 4 = .ok (.iload_n 2, 1) := by decide +kernel
theorem dX9_allFish_5 : decode cX9_allFish 5 = .ok (.aload_n 0, 1) := by decide +kernel
theorem dX9_allFish_6 : decode cX9_allFish 6 = .ok (.getfield 116, 3) := by decide +kernel
theorem dX9_allFish_9 : decode cX9_allFish 9 = .ok (.if_icmp .ge 18, 3) := by decide +kernel
theorem dX9_allFish_12 : decode cX9_allFish 12 = .ok (.iload_n 1, 1) := by decide +kernel
theorem dX9_allFish_13 : decode cX9_allFish 13 = .ok (.aload_n 0, 1) := by decide +kernel
theorem dX9_allFish_14 : decode cX9_allFish 14 = .ok (.getfield 7, 3) := by decide +kernel
theorem dX9_allFish_17 : decode cX9_allFish 17 = .ok (.iload_n 2, 1) := by decide +kernel
theorem dX9_allFish_18 : decode cX9_allFish 18 = .ok (.iaload, 1) := by decide +kernel
theorem dX9_allFish_19 : decode cX9_allFish 19 = .ok (.iadd, 1) := by decide +kernel
theorem dX9_allFish_20 : decode cX9_allFish 20 = .ok (.istore_n 1, 1) := by decide +kernel
theorem dX9_allFish_21 : decode cX9_allFish 21 = .ok (.iinc 2 1, 3) := by decide +kernel
theorem dX9_allFish_24 : decode cX9_allFish 24 = .ok (.goto (-20), 3) := by decide +kernel
theorem dX9_allFish_27 : decode cX9_allFish 27 = .ok (.iload_n 1, 1) := by decide +kernel
theorem dX9_allFish_28 : decode cX9_allFish 28 = .ok (.ireturn, 1) := by decide +kernel
theorem dX9_profitOf_0 : decode cX9_profitOf 0 = .ok (.aload_n 0, 1) := by decide +kernel
theorem dX9_profitOf_1 : decode cX9_profitOf 1 = .ok (.getfield 207, 3) := by decide +kernel
theorem dX9_profitOf_4 : decode cX9_profitOf 4 = .ok (.aload_n 0, 1) := by decide +kernel
theorem dX9_profitOf_5 : decode cX9_profitOf 5 = .ok (.getfield 156, 3) := by decide +kernel
theorem dX9_profitOf_8 : decode cX9_profitOf 8 = .ok (.aload_n 0, 1) := by decide +kernel
theorem dX9_profitOf_9 : decode cX9_profitOf 9 = .ok (.invokevirtual 221, 3) := by decide +kernel
theorem dX9_profitOf_12 : decode cX9_profitOf 12 = .ok (.imul, 1) := by decide +kernel
theorem dX9_profitOf_13 : decode cX9_profitOf 13 = .ok (.iadd, 1) := by decide +kernel
theorem dX9_profitOf_14 : decode cX9_profitOf 14 = .ok (.istore_n 1, 1) := by decide +kernel
theorem dX9_profitOf_15 : decode cX9_profitOf 15 = .ok (.iconst 0, 1) := by decide +kernel
theorem dX9_profitOf_16 : decode cX9_profitOf 16 = .ok (.istore_n 2, 1) := by decide +kernel
theorem dX9_profitOf_17 : decode cX9_profitOf 17 = .ok (.iload_n 2, 1) := by decide +kernel
theorem dX9_profitOf_18 : decode cX9_profitOf 18 = .ok (.aload_n 0, 1) := by decide +kernel
theorem dX9_profitOf_19 : decode cX9_profitOf 19 = .ok (.getfield 116, 3) := by decide +kernel
theorem dX9_profitOf_22 : decode cX9_profitOf 22 = .ok (.if_icmp .ge 25, 3) := by decide +kernel
theorem dX9_profitOf_25 : decode cX9_profitOf 25 = .ok (.iload_n 1, 1) := by decide +kernel
theorem dX9_profitOf_26 : decode cX9_profitOf 26 = .ok (.aload_n 0, 1) := by decide +kernel
theorem dX9_profitOf_27 : decode cX9_profitOf 27 = .ok (.getfield 13, 3) := by decide +kernel
theorem dX9_profitOf_30 : decode cX9_profitOf 30 = .ok (.iload_n 2, 1) := by decide +kernel
theorem dX9_profitOf_31 : decode cX9_profitOf 31 = .ok (.iaload, 1) := by decide +kernel
theorem dX9_profitOf_32 : decode cX9_profitOf 32 = .ok (.aload_n 0, 1) := by decide +kernel
theorem dX9_profitOf_33 : decode cX9_profitOf 33 = .ok (.getfield 7, 3) := by decide +kernel
theorem dX9_profitOf_36 : decode cX9_profitOf 36 = .ok (.iload_n 2, 1) := by decide +kernel
theorem dX9_profitOf_37 : decode cX9_profitOf 37 = .ok (.iaload, 1) := by decide +kernel
theorem dX9_profitOf_38 : decode cX9_profitOf 38 = .ok (.imul, 1) := by decide +kernel
theorem dX9_profitOf_39 : decode cX9_profitOf 39 = .ok (.isub, 1) := by decide +kernel
theorem dX9_profitOf_40 : decode cX9_profitOf 40 = .ok (.istore_n 1, 1) := by decide +kernel
theorem dX9_profitOf_41 : decode cX9_profitOf 41 = .ok (.iinc 2 1, 3) := by decide +kernel
theorem dX9_profitOf_44 : decode cX9_profitOf 44 = .ok (.goto (-27), 3) := by decide +kernel
theorem dX9_profitOf_47 : decode cX9_profitOf 47 = .ok (.iload_n 1, 1) := by decide +kernel
theorem dX9_profitOf_48 : decode cX9_profitOf 48 = .ok (.ireturn, 1) := by decide +kernel
theorem dX9_profit_0 : decode cX9_profit 0 = .ok (.aload_n 0, 1) := by decide +kernel
theorem dX9_profit_1 : decode cX9_profit 1 = .ok (.iconst 0, 1) := by decide +kernel
theorem dX9_profit_2 : decode cX9_profit 2 = .ok (.bipush (-9), 2) := by decide +kernel
theorem dX9_profit_4 : decode cX9_profit 4 = .ok (.iconst 0, 1) := by decide +kernel
theorem dX9_profit_5 : decode cX9_profit 5 = .ok (.invokevirtual 225, 3) := by decide +kernel
theorem dX9_profit_8 : decode cX9_profit 8 = .ok (.aload_n 0, 1) := by decide +kernel
theorem dX9_profit_9 : decode cX9_profit 9 = .ok (.invokevirtual 228, 3) := by decide +kernel
theorem dX9_profit_12 : decode cX9_profit 12 = .ok (.ireturn, 1) := by decide +kernel
theorem dX9_day_0 : decode cX9_day 0 = .ok (.iload_n 1, 1) := by decide +kernel
theorem dX9_day_1 : decode cX9_day 1 = .ok (.i2l, 1) := by decide +kernel
theorem dX9_day_2 : decode cX9_day 2 = .ok (.lconst 0, 1) := by decide +kernel
theorem dX9_day_3 : decode cX9_day 3 = .ok (.ldc2_w 231, 3) := by decide +kernel
theorem dX9_day_6 : decode cX9_day 6 = .ok (.invokestatic 87, 3) := by decide +kernel
theorem dX9_day_9 : decode cX9_day 9 = .ok (.ifCond .ne 6, 3) := by decide +kernel
theorem dX9_day_12 : decode cX9_day 12 = .ok (.bipush (-2), 2) := by decide +kernel
theorem dX9_day_14 : decode cX9_day 14 = .ok (.ireturn, 1) := by decide +kernel
theorem dX9_day_15 : decode cX9_day 15 = .ok (.aload_n 0, 1) := by decide +kernel
theorem dX9_day_16 : decode cX9_day 16 = .ok (.getfield 116, 3) := by decide +kernel
theorem dX9_day_19 : decode cX9_day 19 = .ok (.ifCond .ne 6, 3) := by decide +kernel
theorem dX9_day_22 : decode cX9_day 22 = .ok (.bipush (-3), 2) := by decide +kernel
theorem dX9_day_24 : decode cX9_day 24 = .ok (.ireturn, 1) := by decide +kernel
theorem dX9_day_25 : decode cX9_day 25 = .ok (.aload_n 0, 1) := by decide +kernel
theorem dX9_day_26 : decode cX9_day 26 = .ok (.iconst 0, 1) := by decide +kernel
theorem dX9_day_27 : decode cX9_day 27 = .ok (.bipush (-9), 2) := by decide +kernel
theorem dX9_day_29 : decode cX9_day 29 = .ok (.iconst 0, 1) := by decide +kernel
theorem dX9_day_30 : decode cX9_day 30 = .ok (.invokevirtual 225, 3) := by decide +kernel
theorem dX9_day_33 : decode cX9_day 33 = .ok (.iload_n 1, 1) := by decide +kernel
theorem dX9_day_34 : decode cX9_day 34 = .ok (.ifCond .ne 10, 3) := by decide +kernel
theorem dX9_day_37 : decode cX9_day 37 = .ok (.aload_n 0, 1) := by decide +kernel
theorem dX9_day_38 : decode cX9_day 38 = .ok (.getfield 207, 3) := by decide +kernel
theorem dX9_day_41 : decode cX9_day 41 = .ok (.goto 36, 3) := by decide +kernel
theorem dX9_day_44 : decode cX9_day 44 = .ok (.iload_n 1, 1) := by decide +kernel
theorem dX9_day_45 : decode cX9_day 45 = .ok (.iconst 1, 1) := by decide +kernel
theorem dX9_day_46 : decode cX9_day 46 = .ok (.if_icmp .ne 15, 3) := by decide +kernel
theorem dX9_day_49 : decode cX9_day 49 = .ok (.aload_n 0, 1) := by decide +kernel
theorem dX9_day_50 : decode cX9_day 50 = .ok (.invokevirtual 233, 3) := by decide +kernel
theorem dX9_day_53 : decode cX9_day 53 = .ok (.aload_n 0, 1) := by decide +kernel
theorem dX9_day_54 : decode cX9_day 54 = .ok (.invokevirtual 221, 3) := by decide +kernel
theorem dX9_day_57 : decode cX9_day 57 = .ok (.isub, 1) := by decide +kernel
theorem dX9_day_58 : decode cX9_day 58 = .ok (.goto 19, 3) := by decide +kernel
theorem dX9_day_61 : decode cX9_day 61 = .ok (.iload_n 1, 1) := by decide +kernel
theorem dX9_day_62 : decode cX9_day 62 = .ok (.iconst 2, 1) := by decide +kernel
theorem dX9_day_63 : decode cX9_day 63 = .ok (.if_icmp .ne 10, 3) := by decide +kernel
theorem dX9_day_66 : decode cX9_day 66 = .ok (.aload_n 0, 1) := by decide +kernel
theorem dX9_day_67 : decode cX9_day 67 = .ok (.invokevirtual 221, 3) := by decide +kernel
theorem dX9_day_70 : decode cX9_day 70 = .ok (.goto 7, 3) := by decide +kernel
theorem dX9_day_73 : decode cX9_day 73 = .ok (.aload_n 0, 1) := by decide +kernel
theorem dX9_day_74 : decode cX9_day 74 = .ok (.invokevirtual 228, 3) := by decide +kernel
theorem dX9_day_77 : decode cX9_day 77 = .ok (.ireturn, 1) := by decide +kernel
theorem dX9_bought_0 : decode cX9_bought 0 = .ok (.aload_n 0, 1) := by decide +kernel
theorem dX9_bought_1 : decode cX9_bought 1 = .ok (.iload_n 1, 1) := by decide +kernel
theorem dX9_bought_2 : decode cX9_bought 2 = .ok (.invokevirtual 188, 3) := by decide +kernel
theorem dX9_bought_5 : decode cX9_bought 5 = .ok (.ifCond .eq 5, 3) := by decide +kernel
theorem dX9_bought_8 : decode cX9_bought 8 = .ok (.iconst (-1), 1) := by decide +kernel
theorem dX9_bought_9 : decode cX9_bought 9 = .ok (.ireturn, 1) := by decide +kernel
theorem dX9_bought_10 : decode cX9_bought 10 = .ok (.aload_n 0, 1) := by decide +kernel
theorem dX9_bought_11 : decode cX9_bought 11 = .ok (.iconst 0, 1) := by decide +kernel
theorem dX9_bought_12 : decode cX9_bought 12 = .ok (.bipush (-9), 2) := by decide +kernel
theorem dX9_bought_14 : decode cX9_bought 14 = .ok (.iconst 0, 1) := by decide +kernel
theorem dX9_bought_15 : decode cX9_bought 15 = .ok (.invokevirtual 225, 3) := by decide +kernel
theorem dX9_bought_18 : decode cX9_bought 18 = .ok (.iload_n 2, 1) := by decide +kernel
theorem dX9_bought_19 : decode cX9_bought 19 = .ok (.tableswitch 57 0 3 #[29, 36, 43, 50], 29) := by decide +kernel
theorem dX9_bought_48 : decode cX9_bought 48 = .ok (.aload_n 0, 1) := by decide +kernel
theorem dX9_bought_49 : decode cX9_bought 49 = .ok (.getfield 43, 3) := by decide +kernel
theorem dX9_bought_52 : decode cX9_bought 52 = .ok (.iload_n 1, 1) := by decide +kernel
theorem dX9_bought_53 : decode cX9_bought 53 = .ok (.iaload, 1) := by decide +kernel
theorem dX9_bought_54 : decode cX9_bought 54 = .ok (.ireturn, 1) := by decide +kernel
theorem dX9_bought_55 : decode cX9_bought 55 = .ok (.aload_n 0, 1) := by decide +kernel
theorem dX9_bought_56 : decode cX9_bought 56 = .ok (.getfield 46, 3) := by decide +kernel
theorem dX9_bought_59 : decode cX9_bought 59 = .ok (.iload_n 1, 1) := by decide +kernel
theorem dX9_bought_60 : decode cX9_bought 60 = .ok (.iaload, 1) := by decide +kernel
theorem dX9_bought_61 : decode cX9_bought 61 = .ok (.ireturn, 1) := by decide +kernel
theorem dX9_bought_62 : decode cX9_bought 62 = .ok (.aload_n 0, 1) := by decide +kernel
theorem dX9_bought_63 : decode cX9_bought 63 = .ok (.getfield 49, 3) := by decide +kernel
theorem dX9_bought_66 : decode cX9_bought 66 = .ok (.iload_n 1, 1) := by decide +kernel
theorem dX9_bought_67 : decode cX9_bought 67 = .ok (.iaload, 1) := by decide +kernel
theorem dX9_bought_68 : decode cX9_bought 68 = .ok (.ireturn, 1) := by decide +kernel
theorem dX9_bought_69 : decode cX9_bought 69 = .ok (.aload_n 0, 1) := by decide +kernel
theorem dX9_bought_70 : decode cX9_bought 70 = .ok (.getfield 52, 3) := by decide +kernel
theorem dX9_bought_73 : decode cX9_bought 73 = .ok (.iload_n 1, 1) := by decide +kernel
theorem dX9_bought_74 : decode cX9_bought 74 = .ok (.iaload, 1) := by decide +kernel
theorem dX9_bought_75 : decode cX9_bought 75 = .ok (.ireturn, 1) := by decide +kernel
theorem dX9_bought_76 : decode cX9_bought 76 = .ok (.bipush (-2), 2) := by decide +kernel
theorem dX9_bought_78 : decode cX9_bought 78 = .ok (.ireturn, 1) := by decide +kernel
theorem dX9_sold_0 : decode cX9_sold 0 = .ok (.aload_n 0, 1) := by decide +kernel
theorem dX9_sold_1 : decode cX9_sold 1 = .ok (.iload_n 1, 1) := by decide +kernel
theorem dX9_sold_2 : decode cX9_sold 2 = .ok (.invokevirtual 163, 3) := by decide +kernel
theorem dX9_sold_5 : decode cX9_sold 5 = .ok (.ifCond .eq 5, 3) := by decide +kernel
theorem dX9_sold_8 : decode cX9_sold 8 = .ok (.iconst (-1), 1) := by decide +kernel
theorem dX9_sold_9 : decode cX9_sold 9 = .ok (.ireturn, 1) := by decide +kernel
theorem dX9_sold_10 : decode cX9_sold 10 = .ok (.aload_n 0, 1) := by decide +kernel
theorem dX9_sold_11 : decode cX9_sold 11 = .ok (.iconst 0, 1) := by decide +kernel
theorem dX9_sold_12 : decode cX9_sold 12 = .ok (.bipush (-9), 2) := by decide +kernel
theorem dX9_sold_14 : decode cX9_sold 14 = .ok (.iconst 0, 1) := by decide +kernel
theorem dX9_sold_15 : decode cX9_sold 15 = .ok (.invokevirtual 225, 3) := by decide +kernel
theorem dX9_sold_18 : decode cX9_sold 18 = .ok (.iload_n 2, 1) := by decide +kernel
theorem dX9_sold_19 : decode cX9_sold 19 = .ok (.ifCond .ne 12, 3) := by decide +kernel
theorem dX9_sold_22 : decode cX9_sold 22 = .ok (.aload_n 0, 1) := by decide +kernel
theorem dX9_sold_23 : decode cX9_sold 23 = .ok (.getfield 40, 3) := by decide +kernel
theorem dX9_sold_26 : decode cX9_sold 26 = .ok (.iload_n 1, 1) := by decide +kernel
theorem dX9_sold_27 : decode cX9_sold 27 = .ok (.iaload, 1) := by decide +kernel
theorem dX9_sold_28 : decode cX9_sold 28 = .ok (.goto 33, 3) := by decide +kernel
theorem dX9_sold_31 : decode cX9_sold 31 = .ok (.iload_n 2, 1) := by decide +kernel
theorem dX9_sold_32 : decode cX9_sold 32 = .ok (.iconst 1, 1) := by decide +kernel
theorem dX9_sold_33 : decode cX9_sold 33 = .ok (.if_icmp .ne 12, 3) := by decide +kernel
theorem dX9_sold_36 : decode cX9_sold 36 = .ok (.aload_n 0, 1) := by decide +kernel
theorem dX9_sold_37 : decode cX9_sold 37 = .ok (.getfield 55, 3) := by decide +kernel
theorem dX9_sold_40 : decode cX9_sold 40 = .ok (.iload_n 1, 1) := by decide +kernel
theorem dX9_sold_41 : decode cX9_sold 41 = .ok (.iaload, 1) := by decide +kernel
theorem dX9_sold_42 : decode cX9_sold 42 = .ok (.goto 19, 3) := by decide +kernel
theorem dX9_sold_45 : decode cX9_sold 45 = .ok (.iload_n 2, 1) := by decide +kernel
theorem dX9_sold_46 : decode cX9_sold 46 = .ok (.iconst 2, 1) := by decide +kernel
theorem dX9_sold_47 : decode cX9_sold 47 = .ok (.if_icmp .ne 12, 3) := by decide +kernel
theorem dX9_sold_50 : decode cX9_sold 50 = .ok (.aload_n 0, 1) := by decide +kernel
theorem dX9_sold_51 : decode cX9_sold 51 = .ok (.getfield 58, 3) := by decide +kernel
theorem dX9_sold_54 : decode cX9_sold 54 = .ok (.iload_n 1, 1) := by decide +kernel
theorem dX9_sold_55 : decode cX9_sold 55 = .ok (.iaload, 1) := by decide +kernel
theorem dX9_sold_56 : decode cX9_sold 56 = .ok (.goto 5, 3) := by decide +kernel
theorem dX9_sold_59 : decode cX9_sold 59 = .ok (.bipush (-2), 2) := by decide +kernel
theorem dX9_sold_61 : decode cX9_sold 61 = .ok (.ireturn, 1) := by decide +kernel
theorem dX9_best_0 : decode cX9_best 0 = .ok (.aload_n 0, 1) := by decide +kernel
theorem dX9_best_1 : decode cX9_best 1 = .ok (.iload_n 1, 1) := by decide +kernel
theorem dX9_best_2 : decode cX9_best 2 = .ok (.invokevirtual 163, 3) := by decide +kernel
theorem dX9_best_5 : decode cX9_best 5 = .ok (.ifCond .ne 11, 3) := by decide +kernel
theorem dX9_best_8 : decode cX9_best 8 = .ok (.aload_n 0, 1) := by decide +kernel
theorem dX9_best_9 : decode cX9_best 9 = .ok (.iload_n 2, 1) := by decide +kernel
theorem dX9_best_10 : decode cX9_best 10 = .ok (.invokevirtual 170, 3) := by decide +kernel
theorem dX9_best_13 : decode cX9_best 13 = .ok (.ifCond .eq 5, 3) := by decide +kernel
theorem dX9_best_16 : decode cX9_best 16 = .ok (.iconst (-1), 1) := by decide +kernel
theorem dX9_best_17 : decode cX9_best 17 = .ok (.ireturn, 1) := by decide +kernel
theorem dX9_best_18 : decode cX9_best 18 = .ok (.iload_n 3, 1) := by decide +kernel
theorem dX9_best_19 : decode cX9_best 19 = .ok (.i2l, 1) := by decide +kernel
theorem dX9_best_20 : decode cX9_best 20 = .ok (.lconst 0, 1) := by decide +kernel
theorem dX9_best_21 : decode cX9_best 21 = .ok (.lconst 1, 1) := by decide +kernel
theorem dX9_best_22 : decode cX9_best 22 = .ok (.invokestatic 87, 3) := by decide +kernel
theorem dX9_best_25 : decode cX9_best 25 = .ok (.ifCond .ne 6, 3) := by decide +kernel
theorem dX9_best_28 : decode cX9_best 28 = .ok (.bipush (-2), 2) := by decide +kernel
theorem dX9_best_30 : decode cX9_best 30 = .ok (.ireturn, 1) := by decide +kernel
theorem dX9_best_31 : decode cX9_best 31 = .ok (.aload_n 0, 1) := by decide +kernel
theorem dX9_best_32 : decode cX9_best 32 = .ok (.iload_n 1, 1) := by decide +kernel
theorem dX9_best_33 : decode cX9_best 33 = .ok (.iload_n 2, 1) := by decide +kernel
theorem dX9_best_34 : decode cX9_best 34 = .ok (.invokevirtual 180, 3) := by decide +kernel
theorem dX9_best_37 : decode cX9_best 37 = .ok (.istore 4, 2) := by decide +kernel
theorem dX9_best_39 : decode cX9_best 39 = .ok (.bipush (-9), 2) := by decide +kernel
theorem dX9_best_41 : decode cX9_best 41 = .ok (.istore 5, 2) := by decide +kernel
theorem dX9_best_43 : decode cX9_best 43 = .ok (.iconst 0, 1) := by decide +kernel
theorem dX9_best_44 : decode cX9_best 44 = .ok (.istore 6, 2) := by decide +kernel
theorem dX9_best_46 : decode cX9_best 46 = .ok (.iconst 0, 1) := by decide +kernel
theorem dX9_best_47 : decode cX9_best 47 = .ok (.istore 7, 2) := by decide +kernel
theorem dX9_best_49 : decode cX9_best 49 = .ok (.iload 7, 2) := by decide +kernel
theorem dX9_best_51 : decode cX9_best 51 = .ok (.bipush 30, 2) := by decide +kernel
theorem dX9_best_53 : decode cX9_best 53 = .ok (.if_icmp .gt 48, 3) := by decide +kernel
theorem dX9_best_56 : decode cX9_best 56 = .ok (.aload_n 0, 1) := by decide +kernel
theorem dX9_best_57 : decode cX9_best 57 = .ok (.getfield 22, 3) := by decide +kernel
theorem dX9_best_60 : decode cX9_best 60 = .ok (.bipush 8, 2) := by decide +kernel
theorem dX9_best_62 : decode cX9_best 62 = .ok (.iload_n 1, 1) := by decide +kernel
theorem dX9_best_63 : decode cX9_best 63 = .ok (.imul, 1) := by decide +kernel
theorem dX9_best_64 : decode cX9_best 64 = .ok (.iload_n 2, 1) := by decide +kernel
theorem dX9_best_65 : decode cX9_best 65 = .ok (.iadd, 1) := by decide +kernel
theorem dX9_best_66 : decode cX9_best 66 = .ok (.iload 7, 2) := by decide +kernel
theorem dX9_best_68 : decode cX9_best 68 = .ok (.iastore, 1) := by decide +kernel
theorem dX9_best_69 : decode cX9_best 69 = .ok (.aload_n 0, 1) := by decide +kernel
theorem dX9_best_70 : decode cX9_best 70 = .ok (.invokevirtual 236, 3) := by decide +kernel
theorem dX9_best_73 : decode cX9_best 73 = .ok (.istore 8, 2) := by decide +kernel
theorem dX9_best_75 : decode cX9_best 75 = .ok (.iload 5, 2) := by decide +kernel
theorem dX9_best_77 : decode cX9_best 77 = .ok (.ifCond .lt 10, 3) := by decide +kernel
theorem dX9_best_80 : decode cX9_best 80 = .ok (.iload 8, 2) := by decide +kernel
theorem dX9_best_82 : decode cX9_best 82 = .ok (.iload 6, 2) := by decide +kernel
theorem dX9_best_84 : decode cX9_best 84 = .ok (.if_icmp .le 11, 3) := by decide +kernel
theorem dX9_best_87 : decode cX9_best 87 = .ok (.iload 7, 2) := by decide +kernel
theorem dX9_best_89 : decode cX9_best 89 = .ok (.istore 5, 2) := by decide +kernel
theorem dX9_best_91 : decode cX9_best 91 = .ok (.iload 8, 2) := by decide +kernel
theorem dX9_best_93 : decode cX9_best 93 = .ok (.istore 6, 2) := by decide +kernel
theorem dX9_best_95 : decode cX9_best 95 = .ok (.iinc 7 1, 3) := by decide +kernel
theorem dX9_best_98 : decode cX9_best 98 = .ok (.goto (-49), 3) := by decide +kernel
theorem dX9_best_101 : decode cX9_best 101 = .ok (.aload_n 0, 1) := by decide +kernel
theorem dX9_best_102 : decode cX9_best 102 = .ok (.getfield 22, 3) := by decide +kernel
theorem dX9_best_105 : decode cX9_best 105 = .ok (.bipush 8, 2) := by decide +kernel
theorem dX9_best_107 : decode cX9_best 107 = .ok (.iload_n 1, 1) := by decide +kernel
theorem dX9_best_108 : decode cX9_best 108 = .ok (.imul, 1) := by decide +kernel
theorem dX9_best_109 : decode cX9_best 109 = .ok (.iload_n 2, 1) := by decide +kernel
theorem dX9_best_110 : decode cX9_best 110 = .ok (.iadd, 1) := by decide +kernel
theorem dX9_best_111 : decode cX9_best 111 = .ok (.iload 4, 2) := by decide +kernel
theorem dX9_best_113 : decode cX9_best 113 = .ok (.iastore, 1) := by decide +kernel
theorem dX9_best_114 : decode cX9_best 114 = .ok (.iload_n 3, 1) := by decide +kernel
theorem dX9_best_115 : decode cX9_best 115 = .ok (.ifCond .ne 8, 3) := by decide +kernel
theorem dX9_best_118 : decode cX9_best 118 = .ok (.iload 5, 2) := by decide +kernel
theorem dX9_best_120 : decode cX9_best 120 = .ok (.goto 5, 3) := by decide +kernel
theorem dX9_best_123 : decode cX9_best 123 = .ok (.iload 6, 2) := by decide +kernel
theorem dX9_best_125 : decode cX9_best 125 = .ok (.ireturn, 1) := by decide +kernel
theorem dX9_takeOff_0 : decode cX9_takeOff 0 = .ok (.iload_n 1, 1) := by decide +kernel
theorem dX9_takeOff_1 : decode cX9_takeOff 1 = .ok (.i2l, 1) := by decide +kernel
theorem dX9_takeOff_2 : decode cX9_takeOff 2 = .ok (.lconst 0, 1) := by decide +kernel
theorem dX9_takeOff_3 : decode cX9_takeOff 3 = .ok (.ldc2_w 107, 3) := by decide +kernel
theorem dX9_takeOff_6 : decode cX9_takeOff 6 = .ok (.invokestatic 87, 3) := by decide +kernel
theorem dX9_takeOff_9 : decode cX9_takeOff 9 = .ok (.ifCond .ne 6, 3) := by decide +kernel
theorem dX9_takeOff_12 : decode cX9_takeOff 12 = .ok (.bipush (-2), 2) := by decide +kernel
theorem dX9_takeOff_14 : decode cX9_takeOff 14 = .ok (.ireturn, 1) := by decide +kernel
theorem dX9_takeOff_15 : decode cX9_takeOff 15 = .ok (.aload_n 0, 1) := by decide +kernel
theorem dX9_takeOff_16 : decode cX9_takeOff 16 = .ok (.getfield 116, 3) := by decide +kernel
theorem dX9_takeOff_19 : decode cX9_takeOff 19 = .ok (.ifCond .ne 6, 3) := by decide +kernel
theorem dX9_takeOff_22 : decode cX9_takeOff 22 = .ok (.bipush (-3), 2) := by decide +kernel
theorem dX9_takeOff_24 : decode cX9_takeOff 24 = .ok (.ireturn, 1) := by decide +kernel
theorem dX9_takeOff_25 : decode cX9_takeOff 25 = .ok (.iconst 0, 1) := by decide +kernel
theorem dX9_takeOff_26 : decode cX9_takeOff 26 = .ok (.istore_n 2, 1) := by decide +kernel
theorem dX9_takeOff_27 : decode cX9_takeOff 27 = .ok (.iload_n 2, 1) := by decide +kernel
theorem dX9_takeOff_28 : decode cX9_takeOff 28 = .ok (.bipush 32, 2) := by decide +kernel
theorem dX9_takeOff_30 : decode cX9_takeOff 30 = .ok (.if_icmp .ge 21, 3) := by decide +kernel
theorem dX9_takeOff_33 : decode cX9_takeOff 33 = .ok (.aload_n 0, 1) := by decide +kernel
theorem dX9_takeOff_34 : decode cX9_takeOff 34 = .ok (.getfield 61, 3) := by decide +kernel
theorem dX9_takeOff_37 : decode cX9_takeOff 37 = .ok (.iload_n 2, 1) := by decide +kernel
theorem dX9_takeOff_38 : decode cX9_takeOff 38 = .ok (.aload_n 0, 1) := by decide +kernel
theorem dX9_takeOff_39 : decode cX9_takeOff 39 = .ok (.getfield 22, 3) := by decide +kernel
theorem dX9_takeOff_42 : decode cX9_takeOff 42 = .ok (.iload_n 2, 1) := by decide +kernel
theorem dX9_takeOff_43 : decode cX9_takeOff 43 = .ok (.iaload, 1) := by decide +kernel
theorem dX9_takeOff_44 : decode cX9_takeOff 44 = .ok (.iastore, 1) := by decide +kernel
theorem dX9_takeOff_45 : decode cX9_takeOff 45 = .ok (.iinc 2 1, 3) := by decide +kernel
theorem dX9_takeOff_48 : decode cX9_takeOff 48 = .ok (.goto (-21), 3) := by decide +kernel
theorem dX9_takeOff_51 : decode cX9_takeOff 51 = .ok (.aload_n 0, 1) := by decide +kernel
theorem dX9_takeOff_52 : decode cX9_takeOff 52 = .ok (.invokevirtual 236, 3) := by decide +kernel
theorem dX9_takeOff_55 : decode cX9_takeOff 55 = .ok (.istore_n 2, 1) := by decide +kernel
theorem dX9_takeOff_56 : decode cX9_takeOff 56 = .ok (.bipush (-9), 2) := by decide +kernel
theorem dX9_takeOff_58 : decode cX9_takeOff 58 = .ok (.istore_n 3, 1) := by decide +kernel
theorem dX9_takeOff_59 : decode cX9_takeOff 59 = .ok (.iconst 0, 1) := by decide +kernel
theorem dX9_takeOff_60 : decode cX9_takeOff 60 = .ok (.istore 4, 2) := by decide +kernel
theorem dX9_takeOff_62 : decode cX9_takeOff 62 = .ok (.iconst 0, 1) := by decide +kernel
theorem dX9_takeOff_63 : decode cX9_takeOff 63 = .ok (.istore 5, 2) := by decide +kernel
theorem dX9_takeOff_65 : decode cX9_takeOff 65 = .ok (.iload 5, 2) := by decide +kernel
theorem dX9_takeOff_67 : decode cX9_takeOff 67 = .ok (.aload_n 0, 1) := by decide +kernel
theorem dX9_takeOff_68 : decode cX9_takeOff 68 = .ok (.getfield 119, 3) := by decide +kernel
theorem dX9_takeOff_71 : decode cX9_takeOff 71 = .ok (.if_icmp .ge 104, 3) := by decide +kernel
theorem dX9_takeOff_74 : decode cX9_takeOff 74 = .ok (.iconst 1, 1) := by decide +kernel
theorem dX9_takeOff_75 : decode cX9_takeOff 75 = .ok (.istore 6, 2) := by decide +kernel
theorem dX9_takeOff_77 : decode cX9_takeOff 77 = .ok (.iload 6, 2) := by decide +kernel
theorem dX9_takeOff_79 : decode cX9_takeOff 79 = .ok (.bipush 30, 2) := by decide +kernel
theorem dX9_takeOff_81 : decode cX9_takeOff 81 = .ok (.if_icmp .gt 88, 3) := by decide +kernel
theorem dX9_takeOff_84 : decode cX9_takeOff 84 = .ok (.iconst 0, 1) := by decide +kernel
theorem dX9_takeOff_85 : decode cX9_takeOff 85 = .ok (.istore 7, 2) := by decide +kernel
theorem dX9_takeOff_87 : decode cX9_takeOff 87 = .ok (.iload 7, 2) := by decide +kernel
theorem dX9_takeOff_89 : decode cX9_takeOff 89 = .ok (.bipush 32, 2) := by decide +kernel
theorem dX9_takeOff_91 : decode cX9_takeOff 91 = .ok (.if_icmp .ge 50, 3) := by decide +kernel
theorem dX9_takeOff_94 : decode cX9_takeOff 94 = .ok (.aload_n 0, 1) := by decide +kernel
theorem dX9_takeOff_95 : decode cX9_takeOff 95 = .ok (.getfield 22, 3) := by decide +kernel
theorem dX9_takeOff_98 : decode cX9_takeOff 98 = .ok (.iload 7, 2) := by decide +kernel
theorem dX9_takeOff_100 : decode cX9_takeOff 100 = .ok (.iload 7, 2) := by decide +kernel
theorem dX9_takeOff_102 : decode cX9_takeOff 102 = .ok (.bipush 8, 2) := by decide +kernel
theorem dX9_takeOff_104 : decode cX9_takeOff 104 = .ok (.irem, 1) := by decide +kernel
theorem dX9_takeOff_105 : decode cX9_takeOff 105 = .ok (.iload 5, 2) := by decide +kernel
theorem dX9_takeOff_107 : decode cX9_takeOff 107 = .ok (.if_icmp .lt 20, 3) := by decide +kernel
theorem dX9_takeOff_110 : decode cX9_takeOff 110 = .ok (.iconst 0, 1) := by decide +kernel
theorem dX9_takeOff_111 : decode cX9_takeOff 111 = .ok (.aload_n 0, 1) := by decide +kernel
theorem dX9_takeOff_112 : decode cX9_takeOff 112 = .ok (.getfield 61, 3) := by decide +kernel
theorem dX9_takeOff_115 : decode cX9_takeOff 115 = .ok (.iload 7, 2) := by decide +kernel
theorem dX9_takeOff_117 : decode cX9_takeOff 117 = .ok (.iaload, 1) := by decide +kernel
theorem dX9_takeOff_118 : decode cX9_takeOff 118 = .ok (.iload 6, 2) := by decide +kernel
theorem dX9_takeOff_120 : decode cX9_takeOff 120 = .ok (.isub, 1) := by decide +kernel
theorem dX9_takeOff_121 : decode cX9_takeOff 121 = .ok (.invokestatic 166, 3) := by decide +kernel
theorem dX9_takeOff_124 : decode cX9_takeOff 124 = .ok (.goto 10, 3) := by decide +kernel
theorem dX9_takeOff_127 : decode cX9_takeOff 127 = .ok (.aload_n 0, 1) := by decide +kernel
theorem dX9_takeOff_128 : decode cX9_takeOff 128 = .ok (.getfield 61, 3) := by decide +kernel
theorem dX9_takeOff_131 : decode cX9_takeOff 131 = .ok (.iload 7, 2) := by decide +kernel
theorem dX9_takeOff_133 : decode cX9_takeOff 133 = .ok (.iaload, 1) := by decide +kernel
theorem dX9_takeOff_134 : decode cX9_takeOff 134 = .ok (.iastore, 1) := by decide +kernel
theorem dX9_takeOff_135 : decode cX9_takeOff 135 = .ok (.iinc 7 1, 3) := by decide +kernel
theorem dX9_takeOff_138 : decode cX9_takeOff 138 = .ok (.goto (-51), 3) := by decide +kernel
theorem dX9_takeOff_141 : decode cX9_takeOff 141 = .ok (.aload_n 0, 1) := by decide +kernel
theorem dX9_takeOff_142 : decode cX9_takeOff 142 = .ok (.invokevirtual 236, 3) := by decide +kernel
theorem dX9_takeOff_145 : decode cX9_takeOff 145 = .ok (.istore 7, 2) := by decide +kernel
theorem dX9_takeOff_147 : decode cX9_takeOff 147 = .ok (.iload 7, 2) := by decide +kernel
theorem dX9_takeOff_149 : decode cX9_takeOff 149 = .ok (.iload_n 2, 1) := by decide +kernel
theorem dX9_takeOff_150 : decode cX9_takeOff 150 = .ok (.if_icmp .le 13, 3) := by decide +kernel
theorem dX9_takeOff_153 : decode cX9_takeOff 153 = .ok (.iload 7, 2) := by decide +kernel
theorem dX9_takeOff_155 : decode cX9_takeOff 155 = .ok (.istore_n 2, 1) := by decide +kernel
theorem dX9_takeOff_156 : decode cX9_takeOff 156 = .ok (.iload 5, 2) := by decide +kernel
theorem dX9_takeOff_158 : decode cX9_takeOff 158 = .ok (.istore_n 3, 1) := by decide +kernel
theorem dX9_takeOff_159 : decode cX9_takeOff 159 = .ok (.iload 6, 2) := by decide +kernel
theorem dX9_takeOff_161 : decode cX9_takeOff 161 = .ok (.istore 4, 2) := by decide +kernel
theorem dX9_takeOff_163 : decode cX9_takeOff 163 = .ok (.iinc 6 1, 3) := by decide +kernel
theorem dX9_takeOff_166 : decode cX9_takeOff 166 = .ok (.goto (-89), 3) := by decide +kernel
theorem dX9_takeOff_169 : decode cX9_takeOff 169 = .ok (.iinc 5 1, 3) := by decide +kernel
theorem dX9_takeOff_172 : decode cX9_takeOff 172 = .ok (.goto (-107), 3) := by decide +kernel
theorem dX9_takeOff_175 : decode cX9_takeOff 175 = .ok (.iconst 0, 1) := by decide +kernel
theorem dX9_takeOff_176 : decode cX9_takeOff 176 = .ok (.istore 5, 2) := by decide +kernel
theorem dX9_takeOff_178 : decode cX9_takeOff 178 = .ok (.iload 5, 2) := by decide +kernel
theorem dX9_takeOff_180 : decode cX9_takeOff 180 = .ok (.bipush 32, 2) := by decide +kernel
theorem dX9_takeOff_182 : decode cX9_takeOff 182 = .ok (.if_icmp .ge 23, 3) := by decide +kernel
theorem dX9_takeOff_185 : decode cX9_takeOff 185 = .ok (.aload_n 0, 1) := by decide +kernel
theorem dX9_takeOff_186 : decode cX9_takeOff 186 = .ok (.getfield 22, 3) := by decide +kernel
theorem dX9_takeOff_189 : decode cX9_takeOff 189 = .ok (.iload 5, 2) := by decide +kernel
theorem dX9_takeOff_191 : decode cX9_takeOff 191 = .ok (.aload_n 0, 1) := by decide +kernel
theorem dX9_takeOff_192 : decode cX9_takeOff 192 = .ok (.getfield 61, 3) := by decide +kernel
theorem dX9_takeOff_195 : decode cX9_takeOff 195 = .ok (.iload 5, 2) := by decide +kernel
theorem dX9_takeOff_197 : decode cX9_takeOff 197 = .ok (.iaload, 1) := by decide +kernel
theorem dX9_takeOff_198 : decode cX9_takeOff 198 = .ok (.iastore, 1) := by decide +kernel
theorem dX9_takeOff_199 : decode cX9_takeOff 199 = .ok (.iinc 5 1, 3) := by decide +kernel
theorem dX9_takeOff_202 : decode cX9_takeOff 202 = .ok (.goto (-24), 3) := by decide +kernel
theorem dX9_takeOff_205 : decode cX9_takeOff 205 = .ok (.iload_n 1, 1) := by decide +kernel
theorem dX9_takeOff_206 : decode cX9_takeOff 206 = .ok (.ifCond .ne 7, 3) := by decide +kernel
theorem dX9_takeOff_209 : decode cX9_takeOff 209 = .ok (.iload_n 2, 1) := by decide +kernel
theorem dX9_takeOff_210 : decode cX9_takeOff 210 = .ok (.goto 14, 3) := by decide +kernel
theorem dX9_takeOff_213 : decode cX9_takeOff 213 = .ok (.iload_n 1, 1) := by decide +kernel
theorem dX9_takeOff_214 : decode cX9_takeOff 214 = .ok (.iconst 1, 1) := by decide +kernel
theorem dX9_takeOff_215 : decode cX9_takeOff 215 = .ok (.if_icmp .ne 7, 3) := by decide +kernel
theorem dX9_takeOff_218 : decode cX9_takeOff 218 = .ok (.iload_n 3, 1) := by decide +kernel
theorem dX9_takeOff_219 : decode cX9_takeOff 219 = .ok (.goto 5, 3) := by decide +kernel
theorem dX9_takeOff_222 : decode cX9_takeOff 222 = .ok (.iload 4, 2) := by decide +kernel
theorem dX9_takeOff_224 : decode cX9_takeOff 224 = .ok (.ireturn, 1) := by decide +kernel
theorem dX9_layFish_0 : decode cX9_layFish 0 = .ok (.iload_n 1, 1) := by decide +kernel
theorem dX9_layFish_1 : decode cX9_layFish 1 = .ok (.istore_n 2, 1) := by decide +kernel
theorem dX9_layFish_2 : decode cX9_layFish 2 = .ok (.aload_n 0, 1) := by decide +kernel
theorem dX9_layFish_3 : decode cX9_layFish 3 = .ok (.getfield 116, 3) := by decide +kernel
theorem dX9_layFish_6 : decode cX9_layFish 6 = .ok (.iconst 1, 1) := by decide +kernel
theorem dX9_layFish_7 : decode cX9_layFish 7 = .ok (.isub, 1) := by decide +kernel
theorem dX9_layFish_8 : decode cX9_layFish 8 = .ok (.istore_n 3, 1) := by decide +kernel
theorem dX9_layFish_9 : decode cX9_layFish 9 = .ok (.iload_n 3, 1) := by decide +kernel
theorem dX9_layFish_10 : decode cX9_layFish 10 = .ok (.ifCond .lt 24, 3) := by decide +kernel
theorem dX9_layFish_13 : decode cX9_layFish 13 = .ok (.aload_n 0, 1) := by decide +kernel
theorem dX9_layFish_14 : decode cX9_layFish 14 = .ok (.getfield 7, 3) := by decide +kernel
theorem dX9_layFish_17 : decode cX9_layFish 17 = .ok (.iload_n 3, 1) := by decide +kernel
theorem dX9_layFish_18 : decode cX9_layFish 18 = .ok (.iload_n 2, 1) := by decide +kernel
theorem dX9_layFish_19 : decode cX9_layFish 19 = .ok (.bipush 10, 2) := by decide +kernel
theorem dX9_layFish_21 : decode cX9_layFish 21 = .ok (.irem, 1) := by decide +kernel
theorem dX9_layFish_22 : decode cX9_layFish 22 = .ok (.iastore, 1) := by decide +kernel
theorem dX9_layFish_23 : decode cX9_layFish 23 = .ok (.iload_n 2, 1) := by decide +kernel
theorem dX9_layFish_24 : decode cX9_layFish 24 = .ok (.bipush 10, 2) := by decide +kernel
theorem dX9_layFish_26 : decode cX9_layFish 26 = .ok (.idiv, 1) := by decide +kernel
theorem dX9_layFish_27 : decode cX9_layFish 27 = .ok (.istore_n 2, 1) := by decide +kernel
theorem dX9_layFish_28 : decode cX9_layFish 28 = .ok (.iinc 3 (-1), 3) := by decide +kernel
theorem dX9_layFish_31 : decode cX9_layFish 31 = .ok (.goto (-22), 3) := by decide +kernel
theorem dX9_layFish_34 : decode cX9_layFish 34 = .ok (.return_, 1) := by decide +kernel
theorem dX9_fetch_0 : decode cX9_fetch 0 = .ok (.iload_n 1, 1) := by decide +kernel
theorem dX9_fetch_1 : decode cX9_fetch 1 = .ok (.i2l, 1) := by decide +kernel
theorem dX9_fetch_2 : decode cX9_fetch 2 = .ok (.ldc2_w 239, 3) := by decide +kernel
theorem dX9_fetch_5 : decode cX9_fetch 5 = .ok (.ldc2_w 231, 3) := by decide +kernel
theorem dX9_fetch_8 : decode cX9_fetch 8 = .ok (.invokestatic 87, 3) := by decide +kernel
theorem dX9_fetch_11 : decode cX9_fetch 11 = .ok (.ifCond .ne 5, 3) := by decide +kernel
theorem dX9_fetch_14 : decode cX9_fetch 14 = .ok (.iconst (-1), 1) := by decide +kernel
theorem dX9_fetch_15 : decode cX9_fetch 15 = .ok (.ireturn, 1) := by decide +kernel
theorem dX9_fetch_16 : decode cX9_fetch 16 = .ok (.aload_n 0, 1) := by decide +kernel
theorem dX9_fetch_17 : decode cX9_fetch 17 = .ok (.getfield 116, 3) := by decide +kernel
theorem dX9_fetch_20 : decode cX9_fetch 20 = .ok (.ifCond .ne 6, 3) := by decide +kernel
theorem dX9_fetch_23 : decode cX9_fetch 23 = .ok (.bipush (-3), 2) := by decide +kernel
theorem dX9_fetch_25 : decode cX9_fetch 25 = .ok (.ireturn, 1) := by decide +kernel
theorem dX9_fetch_26 : decode cX9_fetch 26 = .ok (.iconst 1, 1) := by decide +kernel
theorem dX9_fetch_27 : decode cX9_fetch 27 = .ok (.istore_n 2, 1) := by decide +kernel
theorem dX9_fetch_28 : decode cX9_fetch 28 = .ok (.iconst 0, 1) := by decide +kernel
theorem dX9_fetch_29 : decode cX9_fetch 29 = .ok (.istore_n 3, 1) := by decide +kernel
theorem dX9_fetch_30 : decode cX9_fetch 30 = .ok (.iload_n 3, 1) := by decide +kernel
theorem dX9_fetch_31 : decode cX9_fetch 31 = .ok (.aload_n 0, 1) := by decide +kernel
theorem dX9_fetch_32 : decode cX9_fetch 32 = .ok (.getfield 116, 3) := by decide +kernel
theorem dX9_fetch_35 : decode cX9_fetch 35 = .ok (.if_icmp .ge 26, 3) := by decide +kernel
theorem dX9_fetch_38 : decode cX9_fetch 38 = .ok (.aload_n 0, 1) := by decide +kernel
theorem dX9_fetch_39 : decode cX9_fetch 39 = .ok (.getfield 64, 3) := by decide +kernel
theorem dX9_fetch_42 : decode cX9_fetch 42 = .ok (.iload_n 3, 1) := by decide +kernel
theorem dX9_fetch_43 : decode cX9_fetch 43 = .ok (.aload_n 0, 1) := by decide +kernel
theorem dX9_fetch_44 : decode cX9_fetch 44 = .ok (.getfield 7, 3) := by decide +kernel
theorem dX9_fetch_47 : decode cX9_fetch 47 = .ok (.iload_n 3, 1) := by decide +kernel
theorem dX9_fetch_48 : decode cX9_fetch 48 = .ok (.iaload, 1) := by decide +kernel
theorem dX9_fetch_49 : decode cX9_fetch 49 = .ok (.iastore, 1) := by decide +kernel
theorem dX9_fetch_50 : decode cX9_fetch 50 = .ok (.iload_n 2, 1) := by decide +kernel
theorem dX9_fetch_51 : decode cX9_fetch 51 = .ok (.bipush 10, 2) := by decide +kernel
theorem dX9_fetch_53 : decode cX9_fetch 53 = .ok (.imul, 1) := by decide +kernel
theorem dX9_fetch_54 : decode cX9_fetch 54 = .ok (.istore_n 2, 1) := by decide +kernel
theorem dX9_fetch_55 : decode cX9_fetch 55 = .ok (.iinc 3 1, 3) := by decide +kernel
theorem dX9_fetch_58 : decode cX9_fetch 58 = .ok (.goto (-28), 3) := by decide +kernel
theorem dX9_fetch_61 : decode cX9_fetch 61 = .ok (.bipush (-9), 2) := by decide +kernel
theorem dX9_fetch_63 : decode cX9_fetch 63 = .ok (.istore_n 3, 1) := by decide +kernel
theorem dX9_fetch_64 : decode cX9_fetch 64 = .ok (.iconst 0, 1) := by decide +kernel
theorem dX9_fetch_65 : decode cX9_fetch 65 = .ok (.istore 4, 2) := by decide +kernel
theorem dX9_fetch_67 : decode cX9_fetch 67 = .ok (.iconst 0, 1) := by decide +kernel
theorem dX9_fetch_68 : decode cX9_fetch 68 = .ok (.istore 5, 2) := by decide +kernel
theorem dX9_fetch_70 : decode cX9_fetch 70 = .ok (.iload 5, 2) := by decide +kernel
theorem dX9_fetch_72 : decode cX9_fetch 72 = .ok (.iload_n 2, 1) := by decide +kernel
theorem dX9_fetch_73 : decode cX9_fetch 73 = .ok (.if_icmp .ge 39, 3) := by decide +kernel
theorem dX9_fetch_76 : decode cX9_fetch 76 = .ok (.aload_n 0, 1) := by decide +kernel
theorem dX9_fetch_77 : decode cX9_fetch 77 = .ok (.iload 5, 2) := by decide +kernel
theorem dX9_fetch_79 : decode cX9_fetch 79 = .ok (.invokevirtual 241, 3) := by decide +kernel
theorem dX9_fetch_82 : decode cX9_fetch 82 = .ok (.aload_n 0, 1) := by decide +kernel
theorem dX9_fetch_83 : decode cX9_fetch 83 = .ok (.invokevirtual 236, 3) := by decide +kernel
theorem dX9_fetch_86 : decode cX9_fetch 86 = .ok (.istore 6, 2) := by decide +kernel
theorem dX9_fetch_88 : decode cX9_fetch 88 = .ok (.iload_n 3, 1) := by decide +kernel
theorem dX9_fetch_89 : decode cX9_fetch 89 = .ok (.ifCond .lt 10, 3) := by decide +kernel
theorem dX9_fetch_92 : decode cX9_fetch 92 = .ok (.iload 6, 2) := by decide +kernel
theorem dX9_fetch_94 : decode cX9_fetch 94 = .ok (.iload 4, 2) := by decide +kernel
theorem dX9_fetch_96 : decode cX9_fetch 96 = .ok (.if_icmp .le 10, 3) := by decide +kernel
theorem dX9_fetch_99 : decode cX9_fetch 99 = .ok (.iload 5, 2) := by decide +kernel
theorem dX9_fetch_101 : decode cX9_fetch 101 = .ok (.istore_n 3, 1) := by decide +kernel
theorem dX9_fetch_102 : decode cX9_fetch 102 = .ok (.iload 6, 2) := by decide +kernel
theorem dX9_fetch_104 : decode cX9_fetch 104 = .ok (.istore 4, 2) := by decide +kernel
theorem dX9_fetch_106 : decode cX9_fetch 106 = .ok (.iinc 5 1, 3) := by decide +kernel
theorem dX9_fetch_109 : decode cX9_fetch 109 = .ok (.goto (-39), 3) := by decide +kernel
theorem dX9_fetch_112 : decode cX9_fetch 112 = .ok (.aload_n 0, 1) := by decide +kernel
theorem dX9_fetch_113 : decode cX9_fetch 113 = .ok (.iload_n 3, 1) := by decide +kernel
theorem dX9_fetch_114 : decode cX9_fetch 114 = .ok (.invokevirtual 241, 3) := by decide +kernel
theorem dX9_fetch_117 : decode cX9_fetch 117 = .ok (.iload_n 1, 1) := by decide +kernel
theorem dX9_fetch_118 : decode cX9_fetch 118 = .ok (.ifCond .ge 8, 3) := by decide +kernel
theorem dX9_fetch_121 : decode cX9_fetch 121 = .ok (.iload 4, 2) := by decide +kernel
theorem dX9_fetch_123 : decode cX9_fetch 123 = .ok (.goto 22, 3) := by decide +kernel
theorem dX9_fetch_126 : decode cX9_fetch 126 = .ok (.iload_n 1, 1) := by decide +kernel
theorem dX9_fetch_127 : decode cX9_fetch 127 = .ok (.aload_n 0, 1) := by decide +kernel
theorem dX9_fetch_128 : decode cX9_fetch 128 = .ok (.getfield 116, 3) := by decide +kernel
theorem dX9_fetch_131 : decode cX9_fetch 131 = .ok (.if_icmp .ge 12, 3) := by decide +kernel
theorem dX9_fetch_134 : decode cX9_fetch 134 = .ok (.aload_n 0, 1) := by decide +kernel
theorem dX9_fetch_135 : decode cX9_fetch 135 = .ok (.getfield 7, 3) := by decide +kernel
theorem dX9_fetch_138 : decode cX9_fetch 138 = .ok (.iload_n 1, 1) := by decide +kernel
theorem dX9_fetch_139 : decode cX9_fetch 139 = .ok (.iaload, 1) := by decide +kernel
theorem dX9_fetch_140 : decode cX9_fetch 140 = .ok (.goto 5, 3) := by decide +kernel
theorem dX9_fetch_143 : decode cX9_fetch 143 = .ok (.bipush (-9), 2) := by decide +kernel
theorem dX9_fetch_145 : decode cX9_fetch 145 = .ok (.istore 5, 2) := by decide +kernel
theorem dX9_fetch_147 : decode cX9_fetch 147 = .ok (.iconst 0, 1) := by decide +kernel
theorem dX9_fetch_148 : decode cX9_fetch 148 = .ok (.istore 6, 2) := by decide +kernel
theorem dX9_fetch_150 : decode cX9_fetch 150 = .ok (.iload 6, 2) := by decide +kernel
theorem dX9_fetch_152 : decode cX9_fetch 152 = .ok (.aload_n 0, 1) := by decide +kernel
theorem dX9_fetch_153 : decode cX9_fetch 153 = .ok (.getfield 116, 3) := by decide +kernel
theorem dX9_fetch_156 : decode cX9_fetch 156 = .ok (.if_icmp .ge 23, 3) := by decide +kernel
theorem dX9_fetch_159 : decode cX9_fetch 159 = .ok (.aload_n 0, 1) := by decide +kernel
theorem dX9_fetch_160 : decode cX9_fetch 160 = .ok (.getfield 7, 3) := by decide +kernel
theorem dX9_fetch_163 : decode cX9_fetch 163 = .ok (.iload 6, 2) := by decide +kernel
theorem dX9_fetch_165 : decode cX9_fetch 165 = .ok (.aload_n 0, 1) := by decide +kernel
theorem dX9_fetch_166 : decode cX9_fetch 166 = .ok (.getfield 64, 3) := by decide +kernel
theorem dX9_fetch_169 : decode cX9_fetch 169 = .ok (.iload 6, 2) := by decide +kernel
theorem dX9_fetch_171 : decode cX9_fetch 171 = .ok (.iaload, 1) := by decide +kernel
theorem dX9_fetch_172 : decode cX9_fetch 172 = .ok (.iastore, 1) := by decide +kernel
theorem dX9_fetch_173 : decode cX9_fetch 173 = .ok (.iinc 6 1, 3) := by decide +kernel
theorem dX9_fetch_176 : decode cX9_fetch 176 = .ok (.goto (-26), 3) := by decide +kernel
theorem dX9_fetch_179 : decode cX9_fetch 179 = .ok (.iload 5, 2) := by decide +kernel
theorem dX9_fetch_181 : decode cX9_fetch 181 = .ok (.ireturn, 1) := by decide +kernel
theorem dX9_carried_0 : decode cX9_carried 0 = .ok (.aload_n 0, 1) := by decide +kernel
theorem dX9_carried_1 : decode cX9_carried 1 = .ok (.iload_n 1, 1) := by decide +kernel
theorem dX9_carried_2 : decode cX9_carried 2 = .ok (.invokevirtual 163, 3) := by decide +kernel
theorem dX9_carried_5 : decode cX9_carried 5 = .ok (.ifCond .eq 5, 3) := by decide +kernel
theorem dX9_carried_8 : decode cX9_carried 8 = .ok (.iconst (-1), 1) := by decide +kernel
theorem dX9_carried_9 : decode cX9_carried 9 = .ok (.ireturn, 1) := by decide +kernel
theorem dX9_carried_10 : decode cX9_carried 10 = .ok (.aload_n 0, 1) := by decide +kernel
theorem dX9_carried_11 : decode cX9_carried 11 = .ok (.getfield 7, 3) := by decide +kernel
theorem dX9_carried_14 : decode cX9_carried 14 = .ok (.iload_n 1, 1) := by decide +kernel
theorem dX9_carried_15 : decode cX9_carried 15 = .ok (.iaload, 1) := by decide +kernel
theorem dX9_carried_16 : decode cX9_carried 16 = .ok (.istore_n 2, 1) := by decide +kernel
theorem dX9_carried_17 : decode cX9_carried 17 = .ok (.aload_n 0, 1) := by decide +kernel
theorem dX9_carried_18 : decode cX9_carried 18 = .ok (.invokevirtual 236, 3) := by decide +kernel
theorem dX9_carried_21 : decode cX9_carried 21 = .ok (.istore_n 3, 1) := by decide +kernel
theorem dX9_carried_22 : decode cX9_carried 22 = .ok (.aload_n 0, 1) := by decide +kernel
theorem dX9_carried_23 : decode cX9_carried 23 = .ok (.getfield 7, 3) := by decide +kernel
theorem dX9_carried_26 : decode cX9_carried 26 = .ok (.iload_n 1, 1) := by decide +kernel
theorem dX9_carried_27 : decode cX9_carried 27 = .ok (.iconst 0, 1) := by decide +kernel
theorem dX9_carried_28 : decode cX9_carried 28 = .ok (.iastore, 1) := by decide +kernel
theorem dX9_carried_29 : decode cX9_carried 29 = .ok (.aload_n 0, 1) := by decide +kernel
theorem dX9_carried_30 : decode cX9_carried 30 = .ok (.invokevirtual 236, 3) := by decide +kernel
theorem dX9_carried_33 : decode cX9_carried 33 = .ok (.istore 4, 2) := by decide +kernel
theorem dX9_carried_35 : decode cX9_carried 35 = .ok (.aload_n 0, 1) := by decide +kernel
theorem dX9_carried_36 : decode cX9_carried 36 = .ok (.getfield 7, 3) := by decide +kernel
theorem dX9_carried_39 : decode cX9_carried 39 = .ok (.iload_n 1, 1) := by decide +kernel
theorem dX9_carried_40 : decode cX9_carried 40 = .ok (.iload_n 2, 1) := by decide +kernel
theorem dX9_carried_41 : decode cX9_carried 41 = .ok (.iastore, 1) := by decide +kernel
theorem dX9_carried_42 : decode cX9_carried 42 = .ok (.iload_n 3, 1) := by decide +kernel
theorem dX9_carried_43 : decode cX9_carried 43 = .ok (.iload 4, 2) := by decide +kernel
theorem dX9_carried_45 : decode cX9_carried 45 = .ok (.isub, 1) := by decide +kernel
theorem dX9_carried_46 : decode cX9_carried 46 = .ok (.ireturn, 1) := by decide +kernel
theorem dX9_cook_0 : decode cX9_cook 0 = .ok (.aload_n 0, 1) := by decide +kernel
theorem dX9_cook_1 : decode cX9_cook 1 = .ok (.iload_n 1, 1) := by decide +kernel
theorem dX9_cook_2 : decode cX9_cook 2 = .ok (.invokevirtual 163, 3) := by decide +kernel
theorem dX9_cook_5 : decode cX9_cook 5 = .ok (.ifCond .ne 11, 3) := by decide +kernel
theorem dX9_cook_8 : decode cX9_cook 8 = .ok (.aload_n 0, 1) := by decide +kernel
theorem dX9_cook_9 : decode cX9_cook 9 = .ok (.iload_n 2, 1) := by decide +kernel
theorem dX9_cook_10 : decode cX9_cook 10 = .ok (.invokevirtual 170, 3) := by decide +kernel
theorem dX9_cook_13 : decode cX9_cook 13 = .ok (.ifCond .eq 5, 3) := by decide +kernel
theorem dX9_cook_16 : decode cX9_cook 16 = .ok (.iconst (-1), 1) := by decide +kernel
theorem dX9_cook_17 : decode cX9_cook 17 = .ok (.ireturn, 1) := by decide +kernel
theorem dX9_cook_18 : decode cX9_cook 18 = .ok (.iload_n 3, 1) := by decide +kernel
theorem dX9_cook_19 : decode cX9_cook 19 = .ok (.invokestatic 183, 3) := by decide +kernel
theorem dX9_cook_22 : decode cX9_cook 22 = .ok (.ifCond .ne 6, 3) := by decide +kernel
theorem dX9_cook_25 : decode cX9_cook 25 = .ok (.bipush (-2), 2) := by decide +kernel
theorem dX9_cook_27 : decode cX9_cook 27 = .ok (.ireturn, 1) := by decide +kernel
theorem dX9_cook_28 : decode cX9_cook 28 = .ok (.aload_n 0, 1) := by decide +kernel
theorem dX9_cook_29 : decode cX9_cook 29 = .ok (.invokevirtual 236, 3) := by decide +kernel
theorem dX9_cook_32 : decode cX9_cook 32 = .ok (.istore 4, 2) := by decide +kernel
theorem dX9_cook_34 : decode cX9_cook 34 = .ok (.aload_n 0, 1) := by decide +kernel
theorem dX9_cook_35 : decode cX9_cook 35 = .ok (.iload_n 1, 1) := by decide +kernel
theorem dX9_cook_36 : decode cX9_cook 36 = .ok (.iload_n 2, 1) := by decide +kernel
theorem dX9_cook_37 : decode cX9_cook 37 = .ok (.iload_n 3, 1) := by decide +kernel
theorem dX9_cook_38 : decode cX9_cook 38 = .ok (.invokevirtual 225, 3) := by decide +kernel
theorem dX9_cook_41 : decode cX9_cook 41 = .ok (.aload_n 0, 1) := by decide +kernel
theorem dX9_cook_42 : decode cX9_cook 42 = .ok (.invokevirtual 228, 3) := by decide +kernel
theorem dX9_cook_45 : decode cX9_cook 45 = .ok (.iload 4, 2) := by decide +kernel
theorem dX9_cook_47 : decode cX9_cook 47 = .ok (.isub, 1) := by decide +kernel
theorem dX9_cook_48 : decode cX9_cook 48 = .ok (.ireturn, 1) := by decide +kernel
theorem dX9_isMoney_0 : decode cX9_isMoney 0 = .ok (.iload_n 0, 1) := by decide +kernel
theorem dX9_isMoney_1 : decode cX9_isMoney 1 = .ok (.i2l, 1) := by decide +kernel
theorem dX9_isMoney_2 : decode cX9_isMoney 2 = .ok (.lconst 0, 1) := by decide +kernel
theorem dX9_isMoney_3 : decode cX9_isMoney 3 = .ok (.ldc2_w 245, 3) := by decide +kernel
theorem dX9_isMoney_6 : decode cX9_isMoney 6 = .ok (.invokestatic 87, 3) := by decide +kernel
theorem dX9_isMoney_9 : decode cX9_isMoney 9 = .ok (.ifCond .eq 31, 3) := by decide +kernel
theorem dX9_isMoney_12 : decode cX9_isMoney 12 = .ok (.iload_n 1, 1) := by decide +kernel
theorem dX9_isMoney_13 : decode cX9_isMoney 13 = .ok (.i2l, 1) := by decide +kernel
theorem dX9_isMoney_14 : decode cX9_isMoney 14 = .ok (.lconst 0, 1) := by decide +kernel
theorem dX9_isMoney_15 : decode cX9_isMoney 15 = .ok (.ldc2_w 245, 3) := by decide +kernel
theorem dX9_isMoney_18 : decode cX9_isMoney 18 = .ok (.invokestatic 87, 3) := by decide +kernel
theorem dX9_isMoney_21 : decode cX9_isMoney 21 = .ok (.ifCond .eq 19, 3) := by decide +kernel
theorem dX9_isMoney_24 : decode cX9_isMoney 24 = .ok (.iload_n 2, 1) := by decide +kernel
theorem dX9_isMoney_25 : decode cX9_isMoney 25 = .ok (.i2l, 1) := by decide +kernel
theorem dX9_isMoney_26 : decode cX9_isMoney 26 = .ok (.lconst 0, 1) := by decide +kernel
theorem dX9_isMoney_27 : decode cX9_isMoney 27 = .ok (.ldc2_w 245, 3) := by decide +kernel
theorem dX9_isMoney_30 : decode cX9_isMoney 30 = .ok (.invokestatic 87, 3) := by decide +kernel
theorem dX9_isMoney_33 : decode cX9_isMoney 33 = .ok (.ifCond .eq 7, 3) := by decide +kernel
theorem dX9_isMoney_36 : decode cX9_isMoney 36 = .ok (.iconst 1, 1) := by decide +kernel
theorem dX9_isMoney_37 : decode cX9_isMoney 37 = .ok (.goto 4, 3) := by decide +kernel
theorem dX9_isMoney_40 : decode cX9_isMoney 40 = .ok (.iconst 0, 1) := by decide +kernel
theorem dX9_isMoney_41 : decode cX9_isMoney 41 = .ok (.ireturn, 1) := by decide +kernel
theorem dX9_weightsOf_0 : decode cX9_weightsOf 0 = .ok (.iconst 0, 1) := by decide +kernel
theorem dX9_weightsOf_1 : decode cX9_weightsOf 1 = .ok (.istore_n 3, 1) := by decide +kernel
theorem dX9_weightsOf_2 : decode cX9_weightsOf 2 = .ok (.iconst 0, 1) := by decide +kernel
theorem dX9_weightsOf_3 : decode cX9_weightsOf 3 = .ok (.istore 4, 2) := by decide +kernel
theorem dX9_weightsOf_5 : decode cX9_weightsOf 5 = .ok (.iload 4, 2) := by decide +kernel
theorem dX9_weightsOf_7 : decode cX9_weightsOf 7 = .ok (.iload_n 2, 1) := by decide +kernel
theorem dX9_weightsOf_8 : decode cX9_weightsOf 8 = .ok (.if_icmp .ge 43, 3) := by decide +kernel
theorem dX9_weightsOf_11 : decode cX9_weightsOf 11 = .ok (.aload_n 0, 1) := by decide +kernel
theorem dX9_weightsOf_12 : decode cX9_weightsOf 12 = .ok (.getfield 79, 3) := by decide +kernel
theorem dX9_weightsOf_15 : decode cX9_weightsOf 15 = .ok (.iload_n 1, 1) := by decide +kernel
theorem dX9_weightsOf_16 : decode cX9_weightsOf 16 = .ok (.iload 4, 2) := by decide +kernel
theorem dX9_weightsOf_18 : decode cX9_weightsOf 18 = .ok (.iadd, 1) := by decide +kernel
theorem dX9_weightsOf_19 : decode cX9_weightsOf 19 = .ok (.iaload, 1) := by decide +kernel
theorem dX9_weightsOf_20 : decode cX9_weightsOf 20 = .ok (.i2l, 1) := by decide +kernel
theorem dX9_weightsOf_21 : decode cX9_weightsOf 21 = .ok (.lconst 0, 1) := by decide +kernel
theorem dX9_weightsOf_22 : decode cX9_weightsOf 22 = .ok (.ldc2_w 245, 3) := by decide +kernel
theorem dX9_weightsOf_25 : decode cX9_weightsOf 25 = .ok (.invokestatic 87, 3) := by decide +kernel
theorem dX9_weightsOf_28 : decode cX9_weightsOf 28 = .ok (.ifCond .ne 5, 3) := by decide +kernel
theorem dX9_weightsOf_31 : decode cX9_weightsOf 31 = .ok (.iconst 0, 1) := by decide +kernel
theorem dX9_weightsOf_32 : decode cX9_weightsOf 32 = .ok (.ireturn, 1) := by decide +kernel
theorem dX9_weightsOf_33 : decode cX9_weightsOf 33 = .ok (.iload_n 3, 1) := by decide +kernel
theorem dX9_weightsOf_34 : decode cX9_weightsOf 34 = .ok (.aload_n 0, 1) := by decide +kernel
theorem dX9_weightsOf_35 : decode cX9_weightsOf 35 = .ok (.getfield 79, 3) := by decide +kernel
theorem dX9_weightsOf_38 : decode cX9_weightsOf 38 = .ok (.iload_n 1, 1) := by decide +kernel
theorem dX9_weightsOf_39 : decode cX9_weightsOf 39 = .ok (.iload 4, 2) := by decide +kernel
theorem dX9_weightsOf_41 : decode cX9_weightsOf 41 = .ok (.iadd, 1) := by decide +kernel
theorem dX9_weightsOf_42 : decode cX9_weightsOf 42 = .ok (.iaload, 1) := by decide +kernel
theorem dX9_weightsOf_43 : decode cX9_weightsOf 43 = .ok (.iadd, 1) := by decide +kernel
theorem dX9_weightsOf_44 : decode cX9_weightsOf 44 = .ok (.istore_n 3, 1) := by decide +kernel
theorem dX9_weightsOf_45 : decode cX9_weightsOf 45 = .ok (.iinc 4 1, 3) := by decide +kernel
theorem dX9_weightsOf_48 : decode cX9_weightsOf 48 = .ok (.goto (-43), 3) := by decide +kernel
theorem dX9_weightsOf_51 : decode cX9_weightsOf 51 = .ok (.iload_n 3, 1) := by decide +kernel
theorem dX9_weightsOf_52 : decode cX9_weightsOf 52 = .ok (.ireturn, 1) := by decide +kernel
theorem dX9_hadBy_0 : decode cX9_hadBy 0 = .ok (.lconst 0, 1) := by decide +kernel
theorem dX9_hadBy_1 : decode cX9_hadBy 1 = .ok (.lstore 7, 2) := by decide +kernel
theorem dX9_hadBy_3 : decode cX9_hadBy 3 = .ok (.iconst 0, 1) := by decide +kernel
theorem dX9_hadBy_4 : decode cX9_hadBy 4 = .ok (.istore 9, 2) := by decide +kernel
theorem dX9_hadBy_6 : decode cX9_hadBy 6 = .ok (.iload 9, 2) := by decide +kernel
theorem dX9_hadBy_8 : decode cX9_hadBy 8 = .ok (.iload_n 2, 1) := by decide +kernel
theorem dX9_hadBy_9 : decode cX9_hadBy 9 = .ok (.if_icmp .ge 57, 3) := by decide +kernel
theorem dX9_hadBy_12 : decode cX9_hadBy 12 = .ok (.iload 9, 2) := by decide +kernel
theorem dX9_hadBy_14 : decode cX9_hadBy 14 = .ok (.iload_n 3, 1) := by decide +kernel
theorem dX9_hadBy_15 : decode cX9_hadBy 15 = .ok (.if_icmp .ge 8, 3) := by decide +kernel
theorem dX9_hadBy_18 : decode cX9_hadBy 18 = .ok (.iload 9, 2) := by decide +kernel
theorem dX9_hadBy_20 : decode cX9_hadBy 20 = .ok (.goto 4, 3) := by decide +kernel
theorem dX9_hadBy_23 : decode cX9_hadBy 23 = .ok (.iload_n 3, 1) := by decide +kernel
theorem dX9_hadBy_24 : decode cX9_hadBy 24 = .ok (.istore 10, 2) := by decide +kernel
theorem dX9_hadBy_26 : decode cX9_hadBy 26 = .ok (.lload 7, 2) := by decide +kernel
theorem dX9_hadBy_28 : decode cX9_hadBy 28 = .ok (.aload_n 0, 1) := by decide +kernel
theorem dX9_hadBy_29 : decode cX9_hadBy 29 = .ok (.getfield 79, 3) := by decide +kernel
theorem dX9_hadBy_32 : decode cX9_hadBy 32 = .ok (.iload_n 1, 1) := by decide +kernel
theorem dX9_hadBy_33 : decode cX9_hadBy 33 = .ok (.iload 9, 2) := by decide +kernel
theorem dX9_hadBy_35 : decode cX9_hadBy 35 = .ok (.iadd, 1) := by decide +kernel
theorem dX9_hadBy_36 : decode cX9_hadBy 36 = .ok (.iaload, 1) := by decide +kernel
theorem dX9_hadBy_37 : decode cX9_hadBy 37 = .ok (.iload 10, 2) := by decide +kernel
theorem dX9_hadBy_39 : decode cX9_hadBy 39 = .ok (.iload 5, 2) := by decide +kernel
theorem dX9_hadBy_41 : decode cX9_hadBy 41 = .ok (.imul, 1) := by decide +kernel
theorem dX9_hadBy_42 : decode cX9_hadBy 42 = .ok (.iload_n 3, 1) := by decide +kernel
theorem dX9_hadBy_43 : decode cX9_hadBy 43 = .ok (.iload 10, 2) := by decide +kernel
theorem dX9_hadBy_45 : decode cX9_hadBy 45 = .ok (.isub, 1) := by decide +kernel
theorem dX9_hadBy_46 : decode cX9_hadBy 46 = .ok (.iload 6, 2) := by decide +kernel
theorem dX9_hadBy_48 : decode cX9_hadBy 48 = .ok (.imul, 1) := by decide +kernel
theorem dX9_hadBy_49 : decode cX9_hadBy 49 = .ok (.iadd, 1) := by decide +kernel
theorem dX9_hadBy_50 : decode cX9_hadBy 50 = .ok (.iload_n 3, 1) := by decide +kernel
theorem dX9_hadBy_51 : decode cX9_hadBy 51 = .ok (.iload 4, 2) := by decide +kernel
theorem dX9_hadBy_53 : decode cX9_hadBy 53 = .ok (.imul, 1) := by decide +kernel
theorem dX9_hadBy_54 : decode cX9_hadBy 54 = .ok (.isub, 1) := by decide +kernel
theorem dX9_hadBy_55 : decode cX9_hadBy 55 = .ok (.imul, 1) := by decide +kernel
theorem dX9_hadBy_56 : decode cX9_hadBy 56 = .ok (.i2l, 1) := by decide +kernel
theorem dX9_hadBy_57 : decode cX9_hadBy 57 = .ok (.ladd, 1) := by decide +kernel
theorem dX9_hadBy_58 : decode cX9_hadBy 58 = .ok (.lstore 7, 2) := by decide +kernel
theorem dX9_hadBy_60 : decode cX9_hadBy 60 = .ok (.iinc 9 1, 3) := by decide +kernel
theorem dX9_hadBy_63 : decode cX9_hadBy 63 = .ok (.goto (-57), 3) := by decide +kernel
theorem dX9_hadBy_66 : decode cX9_hadBy 66 = .ok (.lload 7, 2) := by decide +kernel
theorem dX9_hadBy_68 : decode cX9_hadBy 68 = .ok (.lreturn, 1) := by decide +kernel
theorem dX9_mean_0 : decode cX9_mean 0 = .ok (.aload_n 0, 1) := by decide +kernel
theorem dX9_mean_1 : decode cX9_mean 1 = .ok (.iload_n 1, 1) := by decide +kernel
theorem dX9_mean_2 : decode cX9_mean 2 = .ok (.iload_n 2, 1) := by decide +kernel
theorem dX9_mean_3 : decode cX9_mean 3 = .ok (.iload_n 3, 1) := by decide +kernel
theorem dX9_mean_4 : decode cX9_mean 4 = .ok (.iload 4, 2) := by decide +kernel
theorem dX9_mean_6 : decode cX9_mean 6 = .ok (.i2l, 1) := by decide +kernel
theorem dX9_mean_7 : decode cX9_mean 7 = .ok (.invokevirtual 146, 3) := by decide +kernel
theorem dX9_mean_10 : decode cX9_mean 10 = .ok (.istore 10, 2) := by decide +kernel
theorem dX9_mean_12 : decode cX9_mean 12 = .ok (.iload 10, 2) := by decide +kernel
theorem dX9_mean_14 : decode cX9_mean 14 = .ok (.ifCond .ge 7, 3) := by decide +kernel
theorem dX9_mean_17 : decode cX9_mean 17 = .ok (.invokestatic 95, 3) := by decide +kernel
theorem dX9_mean_20 : decode cX9_mean 20 = .ok (.lreturn, 1) := by decide +kernel
theorem dX9_mean_21 : decode cX9_mean 21 = .ok (.aload_n 0, 1) := by decide +kernel
theorem dX9_mean_22 : decode cX9_mean 22 = .ok (.iconst 0, 1) := by decide +kernel
theorem dX9_mean_23 : decode cX9_mean 23 = .ok (.putfield 91, 3) := by decide +kernel
theorem dX9_mean_26 : decode cX9_mean 26 = .ok (.bipush 60, 2) := by decide +kernel
theorem dX9_mean_28 : decode cX9_mean 28 = .ok (.iload_n 1, 1) := by decide +kernel
theorem dX9_mean_29 : decode cX9_mean 29 = .ok (.imul, 1) := by decide +kernel
theorem dX9_mean_30 : decode cX9_mean 30 = .ok (.iload_n 3, 1) := by decide +kernel
theorem dX9_mean_31 : decode cX9_mean 31 = .ok (.iadd, 1) := by decide +kernel
theorem dX9_mean_32 : decode cX9_mean 32 = .ok (.istore 11, 2) := by decide +kernel
theorem dX9_mean_34 : decode cX9_mean 34 = .ok (.iload 4, 2) := by decide +kernel
theorem dX9_mean_36 : decode cX9_mean 36 = .ok (.i2l, 1) := by decide +kernel
theorem dX9_mean_37 : decode cX9_mean 37 = .ok (.lconst 1, 1) := by decide +kernel
theorem dX9_mean_38 : decode cX9_mean 38 = .ok (.ldc2_w 247, 3) := by decide +kernel
theorem dX9_mean_41 : decode cX9_mean 41 = .ok (.invokestatic 87, 3) := by decide +kernel
theorem dX9_mean_44 : decode cX9_mean 44 = .ok (.ifCond .eq 47, 3) := by decide +kernel
theorem dX9_mean_47 : decode cX9_mean 47 = .ok (.aload_n 0, 1) := by decide +kernel
theorem dX9_mean_48 : decode cX9_mean 48 = .ok (.iload 11, 2) := by decide +kernel
theorem dX9_mean_50 : decode cX9_mean 50 = .ok (.iload 4, 2) := by decide +kernel
theorem dX9_mean_52 : decode cX9_mean 52 = .ok (.invokevirtual 249, 3) := by decide +kernel
theorem dX9_mean_55 : decode cX9_mean 55 = .ok (.ifCond .eq 36, 3) := by decide +kernel
theorem dX9_mean_58 : decode cX9_mean 58 = .ok (.iload 5, 2) := by decide +kernel
theorem dX9_mean_60 : decode cX9_mean 60 = .ok (.i2l, 1) := by decide +kernel
theorem dX9_mean_61 : decode cX9_mean 61 = .ok (.lconst 0, 1) := by decide +kernel
theorem dX9_mean_62 : decode cX9_mean 62 = .ok (.ldc2_w 247, 3) := by decide +kernel
theorem dX9_mean_65 : decode cX9_mean 65 = .ok (.invokestatic 87, 3) := by decide +kernel
theorem dX9_mean_68 : decode cX9_mean 68 = .ok (.ifCond .eq 23, 3) := by decide +kernel
theorem dX9_mean_71 : decode cX9_mean 71 = .ok (.iload 6, 2) := by decide +kernel
theorem dX9_mean_73 : decode cX9_mean 73 = .ok (.iload 7, 2) := by decide +kernel
theorem dX9_mean_75 : decode cX9_mean 75 = .ok (.iload 8, 2) := by decide +kernel
theorem dX9_mean_77 : decode cX9_mean 77 = .ok (.invokestatic 252, 3) := by decide +kernel
theorem dX9_mean_80 : decode cX9_mean 80 = .ok (.ifCond .eq 11, 3) := by decide +kernel
theorem dX9_mean_83 : decode cX9_mean 83 = .ok (.iload 9, 2) := by decide +kernel
theorem dX9_mean_85 : decode cX9_mean 85 = .ok (.invokestatic 255, 3) := by decide +kernel
theorem dX9_mean_88 : decode cX9_mean 88 = .ok (.ifCond .ne 7, 3) := by decide +kernel
theorem dX9_mean_91 : decode cX9_mean 91 = .ok (.invokestatic 95, 3) := by decide +kernel
theorem dX9_mean_94 : decode cX9_mean 94 = .ok (.lreturn, 1) := by decide +kernel
theorem dX9_mean_95 : decode cX9_mean 95 = .ok (.aload_n 0, 1) := by decide +kernel
theorem dX9_mean_96 : decode cX9_mean 96 = .ok (.iload 11, 2) := by decide +kernel
theorem dX9_mean_98 : decode cX9_mean 98 = .ok (.iload 4, 2) := by decide +kernel
theorem dX9_mean_100 : decode cX9_mean 100 = .ok (.iload 5, 2) := by decide +kernel
theorem dX9_mean_102 : decode cX9_mean 102 = .ok (.iload 6, 2) := by decide +kernel
theorem dX9_mean_104 : decode cX9_mean 104 = .ok (.iload 7, 2) := by decide +kernel
theorem dX9_mean_106 : decode cX9_mean 106 = .ok (.iload 8, 2) := by decide +kernel
theorem dX9_mean_108 : decode cX9_mean 108 = .ok (.invokevirtual 258, 3) := by decide +kernel
theorem dX9_mean_111 : decode cX9_mean 111 = .ok (.aload_n 0, 1) := by decide +kernel
theorem dX9_mean_112 : decode cX9_mean 112 = .ok (.iload 11, 2) := by decide +kernel
theorem dX9_mean_114 : decode cX9_mean 114 = .ok (.iload 4, 2) := by decide +kernel
theorem dX9_mean_116 : decode cX9_mean 116 = .ok (.invokevirtual 249, 3) := by decide +kernel
theorem dX9_mean_119 : decode cX9_mean 119 = .ok (.i2l, 1) := by decide +kernel
theorem dX9_mean_120 : decode cX9_mean 120 = .ok (.iload 9, 2) := by decide +kernel
theorem dX9_mean_122 : decode cX9_mean 122 = .ok (.invokestatic 262, 3) := by decide +kernel
theorem dX9_mean_125 : decode cX9_mean 125 = .ok (.lreturn, 1) := by decide +kernel
theorem dX9_howMany_0 : decode cX9_howMany 0 = .ok (.aload_n 0, 1) := by decide +kernel
theorem dX9_howMany_1 : decode cX9_howMany 1 = .ok (.iload_n 1, 1) := by decide +kernel
theorem dX9_howMany_2 : decode cX9_howMany 2 = .ok (.iload_n 2, 1) := by decide +kernel
theorem dX9_howMany_3 : decode cX9_howMany 3 = .ok (.iload_n 3, 1) := by decide +kernel
theorem dX9_howMany_4 : decode cX9_howMany 4 = .ok (.iload 4, 2) := by decide +kernel
theorem dX9_howMany_6 : decode cX9_howMany 6 = .ok (.i2l, 1) := by decide +kernel
theorem dX9_howMany_7 : decode cX9_howMany 7 = .ok (.invokevirtual 146, 3) := by decide +kernel
theorem dX9_howMany_10 : decode cX9_howMany 10 = .ok (.istore 8, 2) := by decide +kernel
theorem dX9_howMany_12 : decode cX9_howMany 12 = .ok (.iload 8, 2) := by decide +kernel
theorem dX9_howMany_14 : decode cX9_howMany 14 = .ok (.ifCond .ge 6, 3) := by decide +kernel
theorem dX9_howMany_17 : decode cX9_howMany 17 = .ok (.iload 8, 2) := by decide +kernel
theorem dX9_howMany_19 : decode cX9_howMany 19 = .ok (.ireturn, 1) := by decide +kernel
theorem dX9_howMany_20 : decode cX9_howMany 20 = .ok (.bipush 60, 2) := by decide +kernel
theorem dX9_howMany_22 : decode cX9_howMany 22 = .ok (.iload_n 1, 1) := by decide +kernel
theorem dX9_howMany_23 : decode cX9_howMany 23 = .ok (.imul, 1) := by decide +kernel
theorem dX9_howMany_24 : decode cX9_howMany 24 = .ok (.iload_n 3, 1) := by decide +kernel
theorem dX9_howMany_25 : decode cX9_howMany 25 = .ok (.iadd, 1) := by decide +kernel
theorem dX9_howMany_26 : decode cX9_howMany 26 = .ok (.istore 9, 2) := by decide +kernel
theorem dX9_howMany_28 : decode cX9_howMany 28 = .ok (.iload 4, 2) := by decide +kernel
theorem dX9_howMany_30 : decode cX9_howMany 30 = .ok (.i2l, 1) := by decide +kernel
theorem dX9_howMany_31 : decode cX9_howMany 31 = .ok (.lconst 1, 1) := by decide +kernel
theorem dX9_howMany_32 : decode cX9_howMany 32 = .ok (.ldc2_w 247, 3) := by decide +kernel
theorem dX9_howMany_35 : decode cX9_howMany 35 = .ok (.invokestatic 87, 3) := by decide +kernel
theorem dX9_howMany_38 : decode cX9_howMany 38 = .ok (.ifCond .eq 26, 3) := by decide +kernel
theorem dX9_howMany_41 : decode cX9_howMany 41 = .ok (.aload_n 0, 1) := by decide +kernel
theorem dX9_howMany_42 : decode cX9_howMany 42 = .ok (.iload 9, 2) := by decide +kernel
theorem dX9_howMany_44 : decode cX9_howMany 44 = .ok (.iload 4, 2) := by decide +kernel
theorem dX9_howMany_46 : decode cX9_howMany 46 = .ok (.invokevirtual 249, 3) := by decide +kernel
theorem dX9_howMany_49 : decode cX9_howMany 49 = .ok (.ifCond .eq 15, 3) := by decide +kernel
theorem dX9_howMany_52 : decode cX9_howMany 52 = .ok (.iload 5, 2) := by decide +kernel
theorem dX9_howMany_54 : decode cX9_howMany 54 = .ok (.iload 6, 2) := by decide +kernel
theorem dX9_howMany_56 : decode cX9_howMany 56 = .ok (.iload 7, 2) := by decide +kernel
theorem dX9_howMany_58 : decode cX9_howMany 58 = .ok (.invokestatic 252, 3) := by decide +kernel
theorem dX9_howMany_61 : decode cX9_howMany 61 = .ok (.ifCond .ne 10, 3) := by decide +kernel
theorem dX9_howMany_64 : decode cX9_howMany 64 = .ok (.aload_n 0, 1) := by decide +kernel
theorem dX9_howMany_65 : decode cX9_howMany 65 = .ok (.bipush (-2), 2) := by decide +kernel
theorem dX9_howMany_67 : decode cX9_howMany 67 = .ok (.invokevirtual 103, 3) := by decide +kernel
theorem dX9_howMany_70 : decode cX9_howMany 70 = .ok (.ireturn, 1) := by decide +kernel
theorem dX9_howMany_71 : decode cX9_howMany 71 = .ok (.iconst 0, 1) := by decide +kernel
theorem dX9_howMany_72 : decode cX9_howMany 72 = .ok (.istore 10, 2) := by decide +kernel
theorem dX9_howMany_74 : decode cX9_howMany 74 = .ok (.iconst 1, 1) := by decide +kernel
theorem dX9_howMany_75 : decode cX9_howMany 75 = .ok (.istore 11, 2) := by decide +kernel
theorem dX9_howMany_77 : decode cX9_howMany 77 = .ok (.iload 11, 2) := by decide +kernel
theorem dX9_howMany_79 : decode cX9_howMany 79 = .ok (.bipush 20, 2) := by decide +kernel
theorem dX9_howMany_81 : decode cX9_howMany 81 = .ok (.if_icmp .gt 54, 3) := by decide +kernel
theorem dX9_howMany_84 : decode cX9_howMany 84 = .ok (.aload_n 0, 1) := by decide +kernel
theorem dX9_howMany_85 : decode cX9_howMany 85 = .ok (.iload 9, 2) := by decide +kernel
theorem dX9_howMany_87 : decode cX9_howMany 87 = .ok (.iload 4, 2) := by decide +kernel
theorem dX9_howMany_89 : decode cX9_howMany 89 = .ok (.iload 11, 2) := by decide +kernel
theorem dX9_howMany_91 : decode cX9_howMany 91 = .ok (.iload 5, 2) := by decide +kernel
theorem dX9_howMany_93 : decode cX9_howMany 93 = .ok (.iload 6, 2) := by decide +kernel
theorem dX9_howMany_95 : decode cX9_howMany 95 = .ok (.iload 7, 2) := by decide +kernel
theorem dX9_howMany_97 : decode cX9_howMany 97 = .ok (.invokevirtual 258, 3) := by decide +kernel
theorem dX9_howMany_100 : decode cX9_howMany 100 = .ok (.aload_n 0, 1) := by decide +kernel
theorem dX9_howMany_101 : decode cX9_howMany 101 = .ok (.iload 9, 2) := by decide +kernel
theorem dX9_howMany_103 : decode cX9_howMany 103 = .ok (.iload 4, 2) := by decide +kernel
theorem dX9_howMany_105 : decode cX9_howMany 105 = .ok (.iload 10, 2) := by decide +kernel
theorem dX9_howMany_107 : decode cX9_howMany 107 = .ok (.iload 5, 2) := by decide +kernel
theorem dX9_howMany_109 : decode cX9_howMany 109 = .ok (.iload 6, 2) := by decide +kernel
theorem dX9_howMany_111 : decode cX9_howMany 111 = .ok (.iload 7, 2) := by decide +kernel
theorem dX9_howMany_113 : decode cX9_howMany 113 = .ok (.invokevirtual 258, 3) := by decide +kernel
theorem dX9_howMany_116 : decode cX9_howMany 116 = .ok (.lcmp, 1) := by decide +kernel
theorem dX9_howMany_117 : decode cX9_howMany 117 = .ok (.ifCond .le 8, 3) := by decide +kernel
theorem dX9_howMany_120 : decode cX9_howMany 120 = .ok (.iload 11, 2) := by decide +kernel
theorem dX9_howMany_122 : decode cX9_howMany 122 = .ok (.goto 5, 3) := by decide +kernel
theorem dX9_howMany_125 : decode cX9_howMany 125 = .ok (.iload 10, 2) := by decide +kernel
theorem dX9_howMany_127 : decode cX9_howMany 127 = .ok (.istore 10, 2) := by decide +kernel
theorem dX9_howMany_129 : decode cX9_howMany 129 = .ok (.iinc 11 1, 3) := by decide +kernel
theorem dX9_howMany_132 : decode cX9_howMany 132 = .ok (.goto (-55), 3) := by decide +kernel
theorem dX9_howMany_135 : decode cX9_howMany 135 = .ok (.aload_n 0, 1) := by decide +kernel
theorem dX9_howMany_136 : decode cX9_howMany 136 = .ok (.iload 10, 2) := by decide +kernel
theorem dX9_howMany_138 : decode cX9_howMany 138 = .ok (.invokevirtual 103, 3) := by decide +kernel
theorem dX9_howMany_141 : decode cX9_howMany 141 = .ok (.ireturn, 1) := by decide +kernel
theorem dX9_right_0 : decode cX9_right 0 = .ok (.aload_n 0, 1) := by decide +kernel
theorem dX9_right_1 : decode cX9_right 1 = .ok (.getfield 116, 3) := by decide +kernel
theorem dX9_right_4 : decode cX9_right 4 = .ok (.ifCond .eq 36, 3) := by decide +kernel
theorem dX9_right_7 : decode cX9_right 7 = .ok (.iload_n 1, 1) := by decide +kernel
theorem dX9_right_8 : decode cX9_right 8 = .ok (.i2l, 1) := by decide +kernel
theorem dX9_right_9 : decode cX9_right 9 = .ok (.lconst 1, 1) := by decide +kernel
theorem dX9_right_10 : decode cX9_right 10 = .ok (.ldc2_w 245, 3) := by decide +kernel
theorem dX9_right_13 : decode cX9_right 13 = .ok (.invokestatic 87, 3) := by decide +kernel
theorem dX9_right_16 : decode cX9_right 16 = .ok (.ifCond .eq 24, 3) := by decide +kernel
theorem dX9_right_19 : decode cX9_right 19 = .ok (.iload_n 2, 1) := by decide +kernel
theorem dX9_right_20 : decode cX9_right 20 = .ok (.i2l, 1) := by decide +kernel
theorem dX9_right_21 : decode cX9_right 21 = .ok (.lconst 1, 1) := by decide +kernel
theorem dX9_right_22 : decode cX9_right 22 = .ok (.aload_n 0, 1) := by decide +kernel
theorem dX9_right_23 : decode cX9_right 23 = .ok (.getfield 119, 3) := by decide +kernel
theorem dX9_right_26 : decode cX9_right 26 = .ok (.i2l, 1) := by decide +kernel
theorem dX9_right_27 : decode cX9_right 27 = .ok (.invokestatic 87, 3) := by decide +kernel
theorem dX9_right_30 : decode cX9_right 30 = .ok (.ifCond .eq 10, 3) := by decide +kernel
theorem dX9_right_33 : decode cX9_right 33 = .ok (.iload_n 3, 1) := by decide +kernel
theorem dX9_right_34 : decode cX9_right 34 = .ok (.invokestatic 255, 3) := by decide +kernel
theorem dX9_right_37 : decode cX9_right 37 = .ok (.ifCond .ne 7, 3) := by decide +kernel
theorem dX9_right_40 : decode cX9_right 40 = .ok (.invokestatic 95, 3) := by decide +kernel
theorem dX9_right_43 : decode cX9_right 43 = .ok (.lreturn, 1) := by decide +kernel
theorem dX9_right_44 : decode cX9_right 44 = .ok (.lconst 1, 1) := by decide +kernel
theorem dX9_right_45 : decode cX9_right 45 = .ok (.iload_n 1, 1) := by decide +kernel
theorem dX9_right_46 : decode cX9_right 46 = .ok (.i2l, 1) := by decide +kernel
theorem dX9_right_47 : decode cX9_right 47 = .ok (.lmul, 1) := by decide +kernel
theorem dX9_right_48 : decode cX9_right 48 = .ok (.aload_n 0, 1) := by decide +kernel
theorem dX9_right_49 : decode cX9_right 49 = .ok (.getfield 119, 3) := by decide +kernel
theorem dX9_right_52 : decode cX9_right 52 = .ok (.i2l, 1) := by decide +kernel
theorem dX9_right_53 : decode cX9_right 53 = .ok (.lmul, 1) := by decide +kernel
theorem dX9_right_54 : decode cX9_right 54 = .ok (.iload_n 2, 1) := by decide +kernel
theorem dX9_right_55 : decode cX9_right 55 = .ok (.i2l, 1) := by decide +kernel
theorem dX9_right_56 : decode cX9_right 56 = .ok (.iload_n 3, 1) := by decide +kernel
theorem dX9_right_57 : decode cX9_right 57 = .ok (.invokestatic 262, 3) := by decide +kernel
theorem dX9_right_60 : decode cX9_right 60 = .ok (.lreturn, 1) := by decide +kernel
theorem dX9_takesGame_0 : decode cX9_takesGame 0 = .ok (.iconst 1, 1) := by decide +kernel
theorem dX9_takesGame_1 : decode cX9_takesGame 1 = .ok (.istore_n 2, 1) := by decide +kernel
theorem dX9_takesGame_2 : decode cX9_takesGame 2 = .ok (.iconst 0, 1) := by decide +kernel
theorem dX9_takesGame_3 : decode cX9_takesGame 3 = .ok (.istore_n 3, 1) := by decide +kernel
theorem dX9_takesGame_4 : decode cX9_takesGame 4 = .ok (.iload_n 3, 1) := by decide +kernel
theorem dX9_takesGame_5 : decode cX9_takesGame 5 = .ok (.iconst 4, 1) := by decide +kernel
theorem dX9_takesGame_6 : decode cX9_takesGame 6 = .ok (.if_icmp .ge 91, 3) := by decide +kernel
theorem dX9_takesGame_9 : decode cX9_takesGame 9 = .ok (.aload_n 0, 1) := by decide +kernel
theorem dX9_takesGame_10 : decode cX9_takesGame 10 = .ok (.getfield 67, 3) := by decide +kernel
theorem dX9_takesGame_13 : decode cX9_takesGame 13 = .ok (.iload_n 3, 1) := by decide +kernel
theorem dX9_takesGame_14 : decode cX9_takesGame 14 = .ok (.aload_n 0, 1) := by decide +kernel
theorem dX9_takesGame_15 : decode cX9_takesGame 15 = .ok (.getfield 79, 3) := by decide +kernel
theorem dX9_takesGame_18 : decode cX9_takesGame 18 = .ok (.iload_n 1, 1) := by decide +kernel
theorem dX9_takesGame_19 : decode cX9_takesGame 19 = .ok (.iconst 2, 1) := by decide +kernel
theorem dX9_takesGame_20 : decode cX9_takesGame 20 = .ok (.iload_n 3, 1) := by decide +kernel
theorem dX9_takesGame_21 : decode cX9_takesGame 21 = .ok (.imul, 1) := by decide +kernel
theorem dX9_takesGame_22 : decode cX9_takesGame 22 = .ok (.iadd, 1) := by decide +kernel
theorem dX9_takesGame_23 : decode cX9_takesGame 23 = .ok (.iaload, 1) := by decide +kernel
theorem dX9_takesGame_24 : decode cX9_takesGame 24 = .ok (.iastore, 1) := by decide +kernel
theorem dX9_takesGame_25 : decode cX9_takesGame 25 = .ok (.aload_n 0, 1) := by decide +kernel
theorem dX9_takesGame_26 : decode cX9_takesGame 26 = .ok (.getfield 70, 3) := by decide +kernel
theorem dX9_takesGame_29 : decode cX9_takesGame 29 = .ok (.iload_n 3, 1) := by decide +kernel
theorem dX9_takesGame_30 : decode cX9_takesGame 30 = .ok (.aload_n 0, 1) := by decide +kernel
theorem dX9_takesGame_31 : decode cX9_takesGame 31 = .ok (.getfield 79, 3) := by decide +kernel
theorem dX9_takesGame_34 : decode cX9_takesGame 34 = .ok (.iload_n 1, 1) := by decide +kernel
theorem dX9_takesGame_35 : decode cX9_takesGame 35 = .ok (.iconst 2, 1) := by decide +kernel
theorem dX9_takesGame_36 : decode cX9_takesGame 36 = .ok (.iload_n 3, 1) := by decide +kernel
theorem dX9_takesGame_37 : decode cX9_takesGame 37 = .ok (.imul, 1) := by decide +kernel
theorem dX9_takesGame_38 : decode cX9_takesGame 38 = .ok (.iadd, 1) := by decide +kernel
theorem dX9_takesGame_39 : decode cX9_takesGame 39 = .ok (.iconst 1, 1) := by decide +kernel
theorem dX9_takesGame_40 : decode cX9_takesGame 40 = .ok (.iadd, 1) := by decide +kernel
theorem dX9_takesGame_41 : decode cX9_takesGame 41 = .ok (.iaload, 1) := by decide +kernel
theorem dX9_takesGame_42 : decode cX9_takesGame 42 = .ok (.iastore, 1) := by decide +kernel
theorem dX9_takesGame_43 : decode cX9_takesGame 43 = .ok (.iload_n 2, 1) := by decide +kernel
theorem dX9_takesGame_44 : decode cX9_takesGame 44 = .ok (.ifCond .eq 45, 3) := by decide +kernel
theorem dX9_takesGame_47 : decode cX9_takesGame 47 = .ok (.aload_n 0, 1) := by decide +kernel
theorem dX9_takesGame_48 : decode cX9_takesGame 48 = .ok (.getfield 67, 3) := by decide +kernel
theorem dX9_takesGame_51 : decode cX9_takesGame 51 = .ok (.iload_n 3, 1) := by decide +kernel
theorem dX9_takesGame_52 : decode cX9_takesGame 52 = .ok (.iaload, 1) := by decide +kernel
theorem dX9_takesGame_53 : decode cX9_takesGame 53 = .ok (.i2l, 1) := by decide +kernel
theorem dX9_takesGame_54 : decode cX9_takesGame 54 = .ok (.ldc2_w 266, 3) := by decide +kernel
theorem dX9_takesGame_57 : decode cX9_takesGame 57 = .ok (.ldc2_w 245, 3) := by decide +kernel
theorem dX9_takesGame_60 : decode cX9_takesGame 60 = .ok (.invokestatic 87, 3) := by decide +kernel
theorem dX9_takesGame_63 : decode cX9_takesGame 63 = .ok (.ifCond .eq 26, 3) := by decide +kernel
theorem dX9_takesGame_66 : decode cX9_takesGame 66 = .ok (.aload_n 0, 1) := by decide +kernel
theorem dX9_takesGame_67 : decode cX9_takesGame 67 = .ok (.getfield 70, 3) := by decide +kernel
theorem dX9_takesGame_70 : decode cX9_takesGame 70 = .ok (.iload_n 3, 1) := by decide +kernel
theorem dX9_takesGame_71 : decode cX9_takesGame 71 = .ok (.iaload, 1) := by decide +kernel
theorem dX9_takesGame_72 : decode cX9_takesGame 72 = .ok (.i2l, 1) := by decide +kernel
theorem dX9_takesGame_73 : decode cX9_takesGame 73 = .ok (.ldc2_w 266, 3) := by decide +kernel
theorem dX9_takesGame_76 : decode cX9_takesGame 76 = .ok (.ldc2_w 245, 3) := by decide +kernel
theorem dX9_takesGame_79 : decode cX9_takesGame 79 = .ok (.invokestatic 87, 3) := by decide +kernel
theorem dX9_takesGame_82 : decode cX9_takesGame 82 = .ok (.ifCond .eq 7, 3) := by decide +kernel
theorem dX9_takesGame_85 : decode cX9_takesGame 85 = .ok (.iconst 1, 1) := by decide +kernel
theorem dX9_takesGame_86 : decode cX9_takesGame 86 = .ok (.goto 4, 3) := by decide +kernel
theorem dX9_takesGame_89 : decode cX9_takesGame 89 = .ok (.iconst 0, 1) := by decide +kernel
theorem dX9_takesGame_90 : decode cX9_takesGame 90 = .ok (.istore_n 2, 1) := by decide +kernel
theorem dX9_takesGame_91 : decode cX9_takesGame 91 = .ok (.iinc 3 1, 3) := by decide +kernel
theorem dX9_takesGame_94 : decode cX9_takesGame 94 = .ok (.goto (-90), 3) := by decide +kernel
theorem dX9_takesGame_97 : decode cX9_takesGame 97 = .ok (.iload_n 2, 1) := by decide +kernel
theorem dX9_takesGame_98 : decode cX9_takesGame 98 = .ok (.ireturn, 1) := by decide +kernel
theorem dX9_rests_0 : decode cX9_rests 0 = .ok (.aload_n 0, 1) := by decide +kernel
theorem dX9_rests_1 : decode cX9_rests 1 = .ok (.iload_n 1, 1) := by decide +kernel
theorem dX9_rests_2 : decode cX9_rests 2 = .ok (.iload_n 2, 1) := by decide +kernel
theorem dX9_rests_3 : decode cX9_rests 3 = .ok (.iload_n 3, 1) := by decide +kernel
theorem dX9_rests_4 : decode cX9_rests 4 = .ok (.ldc2_w 268, 3) := by decide +kernel
theorem dX9_rests_7 : decode cX9_rests 7 = .ok (.invokevirtual 146, 3) := by decide +kernel
theorem dX9_rests_10 : decode cX9_rests 10 = .ok (.istore 4, 2) := by decide +kernel
theorem dX9_rests_12 : decode cX9_rests 12 = .ok (.iload 4, 2) := by decide +kernel
theorem dX9_rests_14 : decode cX9_rests 14 = .ok (.ifCond .ge 6, 3) := by decide +kernel
theorem dX9_rests_17 : decode cX9_rests 17 = .ok (.iload 4, 2) := by decide +kernel
theorem dX9_rests_19 : decode cX9_rests 19 = .ok (.ireturn, 1) := by decide +kernel
theorem dX9_rests_20 : decode cX9_rests 20 = .ok (.aload_n 0, 1) := by decide +kernel
theorem dX9_rests_21 : decode cX9_rests 21 = .ok (.bipush 60, 2) := by decide +kernel
theorem dX9_rests_23 : decode cX9_rests 23 = .ok (.iload_n 1, 1) := by decide +kernel
theorem dX9_rests_24 : decode cX9_rests 24 = .ok (.imul, 1) := by decide +kernel
theorem dX9_rests_25 : decode cX9_rests 25 = .ok (.iload_n 3, 1) := by decide +kernel
theorem dX9_rests_26 : decode cX9_rests 26 = .ok (.iadd, 1) := by decide +kernel
theorem dX9_rests_27 : decode cX9_rests 27 = .ok (.invokevirtual 270, 3) := by decide +kernel
theorem dX9_rests_30 : decode cX9_rests 30 = .ok (.ifCond .ne 10, 3) := by decide +kernel
theorem dX9_rests_33 : decode cX9_rests 33 = .ok (.aload_n 0, 1) := by decide +kernel
theorem dX9_rests_34 : decode cX9_rests 34 = .ok (.bipush (-2), 2) := by decide +kernel
theorem dX9_rests_36 : decode cX9_rests 36 = .ok (.invokevirtual 103, 3) := by decide +kernel
theorem dX9_rests_39 : decode cX9_rests 39 = .ok (.ireturn, 1) := by decide +kernel
theorem dX9_rests_40 : decode cX9_rests 40 = .ok (.iconst 0, 1) := by decide +kernel
theorem dX9_rests_41 : decode cX9_rests 41 = .ok (.istore 5, 2) := by decide +kernel
theorem dX9_rests_43 : decode cX9_rests 43 = .ok (.iconst 0, 1) := by decide +kernel
theorem dX9_rests_44 : decode cX9_rests 44 = .ok (.istore 6, 2) := by decide +kernel
theorem dX9_rests_46 : decode cX9_rests 46 = .ok (.iload 6, 2) := by decide +kernel
theorem dX9_rests_48 : decode cX9_rests 48 = .ok (.iconst 4, 1) := by decide +kernel
theorem dX9_rests_49 : decode cX9_rests 49 = .ok (.if_icmp .ge 88, 3) := by decide +kernel
theorem dX9_rests_52 : decode cX9_rests 52 = .ok (.aload_n 0, 1) := by decide +kernel
theorem dX9_rests_53 : decode cX9_rests 53 = .ok (.getfield 67, 3) := by decide +kernel
theorem dX9_rests_56 : decode cX9_rests 56 = .ok (.iload 6, 2) := by decide +kernel
theorem dX9_rests_58 : decode cX9_rests 58 = .ok (.iconst 2, 1) := by decide +kernel
theorem dX9_rests_59 : decode cX9_rests 59 = .ok (.iadd, 1) := by decide +kernel
theorem dX9_rests_60 : decode cX9_rests 60 = .ok (.iconst 4, 1) := by decide +kernel
theorem dX9_rests_61 : decode cX9_rests 61 = .ok (.irem, 1) := by decide +kernel
theorem dX9_rests_62 : decode cX9_rests 62 = .ok (.iaload, 1) := by decide +kernel
theorem dX9_rests_63 : decode cX9_rests 63 = .ok (.aload_n 0, 1) := by decide +kernel
theorem dX9_rests_64 : decode cX9_rests 64 = .ok (.getfield 67, 3) := by decide +kernel
theorem dX9_rests_67 : decode cX9_rests 67 = .ok (.iload 6, 2) := by decide +kernel
theorem dX9_rests_69 : decode cX9_rests 69 = .ok (.iaload, 1) := by decide +kernel
theorem dX9_rests_70 : decode cX9_rests 70 = .ok (.if_icmp .gt 40, 3) := by decide +kernel
theorem dX9_rests_73 : decode cX9_rests 73 = .ok (.aload_n 0, 1) := by decide +kernel
theorem dX9_rests_74 : decode cX9_rests 74 = .ok (.getfield 70, 3) := by decide +kernel
theorem dX9_rests_77 : decode cX9_rests 77 = .ok (.iload 6, 2) := by decide +kernel
theorem dX9_rests_79 : decode cX9_rests 79 = .ok (.iconst 2, 1) := by decide +kernel
theorem dX9_rests_80 : decode cX9_rests 80 = .ok (.irem, 1) := by decide +kernel
theorem dX9_rests_81 : decode cX9_rests 81 = .ok (.ifCond .ne 10, 3) := by decide +kernel
theorem dX9_rests_84 : decode cX9_rests 84 = .ok (.iload 6, 2) := by decide +kernel
theorem dX9_rests_86 : decode cX9_rests 86 = .ok (.iconst 1, 1) := by decide +kernel
theorem dX9_rests_87 : decode cX9_rests 87 = .ok (.iadd, 1) := by decide +kernel
theorem dX9_rests_88 : decode cX9_rests 88 = .ok (.goto 7, 3) := by decide +kernel
theorem dX9_rests_91 : decode cX9_rests 91 = .ok (.iload 6, 2) := by decide +kernel
theorem dX9_rests_93 : decode cX9_rests 93 = .ok (.iconst 1, 1) := by decide +kernel
theorem dX9_rests_94 : decode cX9_rests 94 = .ok (.isub, 1) := by decide +kernel
theorem dX9_rests_95 : decode cX9_rests 95 = .ok (.iaload, 1) := by decide +kernel
theorem dX9_rests_96 : decode cX9_rests 96 = .ok (.aload_n 0, 1) := by decide +kernel
theorem dX9_rests_97 : decode cX9_rests 97 = .ok (.getfield 70, 3) := by decide +kernel
theorem dX9_rests_100 : decode cX9_rests 100 = .ok (.iload 6, 2) := by decide +kernel
theorem dX9_rests_102 : decode cX9_rests 102 = .ok (.iaload, 1) := by decide +kernel
theorem dX9_rests_103 : decode cX9_rests 103 = .ok (.if_icmp .gt 7, 3) := by decide +kernel
theorem dX9_rests_106 : decode cX9_rests 106 = .ok (.iconst 1, 1) := by decide +kernel
theorem dX9_rests_107 : decode cX9_rests 107 = .ok (.goto 4, 3) := by decide +kernel
theorem dX9_rests_110 : decode cX9_rests 110 = .ok (.iconst 0, 1) := by decide +kernel
theorem dX9_rests_111 : decode cX9_rests 111 = .ok (.istore 7, 2) := by decide +kernel
theorem dX9_rests_113 : decode cX9_rests 113 = .ok (.iload 5, 2) := by decide +kernel
theorem dX9_rests_115 : decode cX9_rests 115 = .ok (.iload 7, 2) := by decide +kernel
theorem dX9_rests_117 : decode cX9_rests 117 = .ok (.ifCond .eq 10, 3) := by decide +kernel
theorem dX9_rests_120 : decode cX9_rests 120 = .ok (.iconst 1, 1) := by decide +kernel
theorem dX9_rests_121 : decode cX9_rests 121 = .ok (.iload 6, 2) := by decide +kernel
theorem dX9_rests_123 : decode cX9_rests 123 = .ok (.ishl, 1) := by decide +kernel
theorem dX9_rests_124 : decode cX9_rests 124 = .ok (.goto 4, 3) := by decide +kernel
theorem dX9_rests_127 : decode cX9_rests 127 = .ok (.iconst 0, 1) := by decide +kernel
theorem dX9_rests_128 : decode cX9_rests 128 = .ok (.ior, 1) := by decide +kernel
theorem dX9_rests_129 : decode cX9_rests 129 = .ok (.istore 5, 2) := by decide +kernel
theorem dX9_rests_131 : decode cX9_rests 131 = .ok (.iinc 6 1, 3) := by decide +kernel
theorem dX9_rests_134 : decode cX9_rests 134 = .ok (.goto (-88), 3) := by decide +kernel
theorem dX9_rests_137 : decode cX9_rests 137 = .ok (.aload_n 0, 1) := by decide +kernel
theorem dX9_rests_138 : decode cX9_rests 138 = .ok (.iload 5, 2) := by decide +kernel
theorem dX9_rests_140 : decode cX9_rests 140 = .ok (.invokevirtual 103, 3) := by decide +kernel
theorem dX9_rests_143 : decode cX9_rests 143 = .ok (.ireturn, 1) := by decide +kernel
theorem dX9_mixes_0 : decode cX9_mixes 0 = .ok (.aload_n 0, 1) := by decide +kernel
theorem dX9_mixes_1 : decode cX9_mixes 1 = .ok (.iload_n 2, 1) := by decide +kernel
theorem dX9_mixes_2 : decode cX9_mixes 2 = .ok (.ifCond .ge 9, 3) := by decide +kernel
theorem dX9_mixes_5 : decode cX9_mixes 5 = .ok (.iload_n 1, 1) := by decide +kernel
theorem dX9_mixes_6 : decode cX9_mixes 6 = .ok (.ineg, 1) := by decide +kernel
theorem dX9_mixes_7 : decode cX9_mixes 7 = .ok (.i2l, 1) := by decide +kernel
theorem dX9_mixes_8 : decode cX9_mixes 8 = .ok (.goto 5, 3) := by decide +kernel
theorem dX9_mixes_11 : decode cX9_mixes 11 = .ok (.iload_n 1, 1) := by decide +kernel
theorem dX9_mixes_12 : decode cX9_mixes 12 = .ok (.i2l, 1) := by decide +kernel
theorem dX9_mixes_13 : decode cX9_mixes 13 = .ok (.putfield 273, 3) := by decide +kernel
theorem dX9_mixes_16 : decode cX9_mixes 16 = .ok (.aload_n 0, 1) := by decide +kernel
theorem dX9_mixes_17 : decode cX9_mixes 17 = .ok (.iload_n 2, 1) := by decide +kernel
theorem dX9_mixes_18 : decode cX9_mixes 18 = .ok (.ifCond .ge 9, 3) := by decide +kernel
theorem dX9_mixes_21 : decode cX9_mixes 21 = .ok (.iload_n 2, 1) := by decide +kernel
theorem dX9_mixes_22 : decode cX9_mixes 22 = .ok (.ineg, 1) := by decide +kernel
theorem dX9_mixes_23 : decode cX9_mixes 23 = .ok (.i2l, 1) := by decide +kernel
theorem dX9_mixes_24 : decode cX9_mixes 24 = .ok (.goto 5, 3) := by decide +kernel
theorem dX9_mixes_27 : decode cX9_mixes 27 = .ok (.iload_n 2, 1) := by decide +kernel
theorem dX9_mixes_28 : decode cX9_mixes 28 = .ok (.i2l, 1) := by decide +kernel
theorem dX9_mixes_29 : decode cX9_mixes 29 = .ok (.putfield 277, 3) := by decide +kernel
theorem dX9_mixes_32 : decode cX9_mixes 32 = .ok (.aload_n 0, 1) := by decide +kernel
theorem dX9_mixes_33 : decode cX9_mixes 33 = .ok (.getfield 273, 3) := by decide +kernel
theorem dX9_mixes_36 : decode cX9_mixes 36 = .ok (.lconst 0, 1) := by decide +kernel
theorem dX9_mixes_37 : decode cX9_mixes 37 = .ok (.lcmp, 1) := by decide +kernel
theorem dX9_mixes_38 : decode cX9_mixes 38 = .ok (.ifCond .le 19, 3) := by decide +kernel
theorem dX9_mixes_41 : decode cX9_mixes 41 = .ok (.aload_n 0, 1) := by decide +kernel
theorem dX9_mixes_42 : decode cX9_mixes 42 = .ok (.getfield 273, 3) := by decide +kernel
theorem dX9_mixes_45 : decode cX9_mixes 45 = .ok (.aload_n 0, 1) := by decide +kernel
theorem dX9_mixes_46 : decode cX9_mixes 46 = .ok (.getfield 277, 3) := by decide +kernel
theorem dX9_mixes_49 : decode cX9_mixes 49 = .ok (.lcmp, 1) := by decide +kernel
theorem dX9_mixes_50 : decode cX9_mixes 50 = .ok (.ifCond .ge 7, 3) := by decide +kernel
theorem dX9_mixes_53 : decode cX9_mixes 53 = .ok (.iconst 1, 1) := by decide +kernel
theorem dX9_mixes_54 : decode cX9_mixes 54 = .ok (.goto 4, 3) := by decide +kernel
theorem dX9_mixes_57 : decode cX9_mixes 57 = .ok (.iconst 0, 1) := by decide +kernel
theorem dX9_mixes_58 : decode cX9_mixes 58 = .ok (.ireturn, 1) := by decide +kernel
theorem dX9_mixed_0 : decode cX9_mixed 0 = .ok (.aload_n 0, 1) := by decide +kernel
theorem dX9_mixed_1 : decode cX9_mixed 1 = .ok (.iload_n 1, 1) := by decide +kernel
theorem dX9_mixed_2 : decode cX9_mixed 2 = .ok (.iload_n 2, 1) := by decide +kernel
theorem dX9_mixed_3 : decode cX9_mixed 3 = .ok (.iload_n 3, 1) := by decide +kernel
theorem dX9_mixed_4 : decode cX9_mixed 4 = .ok (.ldc2_w 268, 3) := by decide +kernel
theorem dX9_mixed_7 : decode cX9_mixed 7 = .ok (.invokevirtual 146, 3) := by decide +kernel
theorem dX9_mixed_10 : decode cX9_mixed 10 = .ok (.istore 6, 2) := by decide +kernel
theorem dX9_mixed_12 : decode cX9_mixed 12 = .ok (.iload 6, 2) := by decide +kernel
theorem dX9_mixed_14 : decode cX9_mixed 14 = .ok (.ifCond .ge 7, 3) := by decide +kernel
theorem dX9_mixed_17 : decode cX9_mixed 17 = .ok (.invokestatic 95, 3) := by decide +kernel
theorem dX9_mixed_20 : decode cX9_mixed 20 = .ok (.lreturn, 1) := by decide +kernel
theorem dX9_mixed_21 : decode cX9_mixed 21 = .ok (.aload_n 0, 1) := by decide +kernel
theorem dX9_mixed_22 : decode cX9_mixed 22 = .ok (.iconst 0, 1) := by decide +kernel
theorem dX9_mixed_23 : decode cX9_mixed 23 = .ok (.putfield 91, 3) := by decide +kernel
theorem dX9_mixed_26 : decode cX9_mixed 26 = .ok (.aload_n 0, 1) := by decide +kernel
theorem dX9_mixed_27 : decode cX9_mixed 27 = .ok (.bipush 60, 2) := by decide +kernel
theorem dX9_mixed_29 : decode cX9_mixed 29 = .ok (.iload_n 1, 1) := by decide +kernel
theorem dX9_mixed_30 : decode cX9_mixed 30 = .ok (.imul, 1) := by decide +kernel
theorem dX9_mixed_31 : decode cX9_mixed 31 = .ok (.iload_n 3, 1) := by decide +kernel
theorem dX9_mixed_32 : decode cX9_mixed 32 = .ok (.iadd, 1) := by decide +kernel
theorem dX9_mixed_33 : decode cX9_mixed 33 = .ok (.invokevirtual 270, 3) := by decide +kernel
theorem dX9_mixed_36 : decode cX9_mixed 36 = .ok (.ifCond .eq 22, 3) := by decide +kernel
theorem dX9_mixed_39 : decode cX9_mixed 39 = .ok (.iload 4, 2) := by decide +kernel
theorem dX9_mixed_41 : decode cX9_mixed 41 = .ok (.i2l, 1) := by decide +kernel
theorem dX9_mixed_42 : decode cX9_mixed 42 = .ok (.lconst 0, 1) := by decide +kernel
theorem dX9_mixed_43 : decode cX9_mixed 43 = .ok (.lconst 1, 1) := by decide +kernel
theorem dX9_mixed_44 : decode cX9_mixed 44 = .ok (.invokestatic 87, 3) := by decide +kernel
theorem dX9_mixed_47 : decode cX9_mixed 47 = .ok (.ifCond .eq 11, 3) := by decide +kernel
theorem dX9_mixed_50 : decode cX9_mixed 50 = .ok (.iload 5, 2) := by decide +kernel
theorem dX9_mixed_52 : decode cX9_mixed 52 = .ok (.invokestatic 255, 3) := by decide +kernel
theorem dX9_mixed_55 : decode cX9_mixed 55 = .ok (.ifCond .ne 7, 3) := by decide +kernel
theorem dX9_mixed_58 : decode cX9_mixed 58 = .ok (.invokestatic 95, 3) := by decide +kernel
theorem dX9_mixed_61 : decode cX9_mixed 61 = .ok (.lreturn, 1) := by decide +kernel
theorem dX9_mixed_62 : decode cX9_mixed 62 = .ok (.aload_n 0, 1) := by decide +kernel
theorem dX9_mixed_63 : decode cX9_mixed 63 = .ok (.getfield 70, 3) := by decide +kernel
theorem dX9_mixed_66 : decode cX9_mixed 66 = .ok (.iconst 0, 1) := by decide +kernel
theorem dX9_mixed_67 : decode cX9_mixed 67 = .ok (.iaload, 1) := by decide +kernel
theorem dX9_mixed_68 : decode cX9_mixed 68 = .ok (.aload_n 0, 1) := by decide +kernel
theorem dX9_mixed_69 : decode cX9_mixed 69 = .ok (.getfield 70, 3) := by decide +kernel
theorem dX9_mixed_72 : decode cX9_mixed 72 = .ok (.iconst 1, 1) := by decide +kernel
theorem dX9_mixed_73 : decode cX9_mixed 73 = .ok (.iaload, 1) := by decide +kernel
theorem dX9_mixed_74 : decode cX9_mixed 74 = .ok (.isub, 1) := by decide +kernel
theorem dX9_mixed_75 : decode cX9_mixed 75 = .ok (.aload_n 0, 1) := by decide +kernel
theorem dX9_mixed_76 : decode cX9_mixed 76 = .ok (.getfield 70, 3) := by decide +kernel
theorem dX9_mixed_79 : decode cX9_mixed 79 = .ok (.iconst 2, 1) := by decide +kernel
theorem dX9_mixed_80 : decode cX9_mixed 80 = .ok (.iaload, 1) := by decide +kernel
theorem dX9_mixed_81 : decode cX9_mixed 81 = .ok (.isub, 1) := by decide +kernel
theorem dX9_mixed_82 : decode cX9_mixed 82 = .ok (.aload_n 0, 1) := by decide +kernel
theorem dX9_mixed_83 : decode cX9_mixed 83 = .ok (.getfield 70, 3) := by decide +kernel
theorem dX9_mixed_86 : decode cX9_mixed 86 = .ok (.iconst 3, 1) := by decide +kernel
theorem dX9_mixed_87 : decode cX9_mixed 87 = .ok (.iaload, 1) := by decide +kernel
theorem dX9_mixed_88 : decode cX9_mixed 88 = .ok (.iadd, 1) := by decide +kernel
theorem dX9_mixed_89 : decode cX9_mixed 89 = .ok (.istore 7, 2) := by decide +kernel
theorem dX9_mixed_91 : decode cX9_mixed 91 = .ok (.aload_n 0, 1) := by decide +kernel
theorem dX9_mixed_92 : decode cX9_mixed 92 = .ok (.getfield 67, 3) := by decide +kernel
theorem dX9_mixed_95 : decode cX9_mixed 95 = .ok (.iconst 0, 1) := by decide +kernel
theorem dX9_mixed_96 : decode cX9_mixed 96 = .ok (.iaload, 1) := by decide +kernel
theorem dX9_mixed_97 : decode cX9_mixed 97 = .ok (.aload_n 0, 1) := by decide +kernel
theorem dX9_mixed_98 : decode cX9_mixed 98 = .ok (.getfield 67, 3) := by decide +kernel
theorem dX9_mixed_101 : decode cX9_mixed 101 = .ok (.iconst 1, 1) := by decide +kernel
theorem dX9_mixed_102 : decode cX9_mixed 102 = .ok (.iaload, 1) := by decide +kernel
theorem dX9_mixed_103 : decode cX9_mixed 103 = .ok (.isub, 1) := by decide +kernel
theorem dX9_mixed_104 : decode cX9_mixed 104 = .ok (.aload_n 0, 1) := by decide +kernel
theorem dX9_mixed_105 : decode cX9_mixed 105 = .ok (.getfield 67, 3) := by decide +kernel
theorem dX9_mixed_108 : decode cX9_mixed 108 = .ok (.iconst 2, 1) := by decide +kernel
theorem dX9_mixed_109 : decode cX9_mixed 109 = .ok (.iaload, 1) := by decide +kernel
theorem dX9_mixed_110 : decode cX9_mixed 110 = .ok (.isub, 1) := by decide +kernel
theorem dX9_mixed_111 : decode cX9_mixed 111 = .ok (.aload_n 0, 1) := by decide +kernel
theorem dX9_mixed_112 : decode cX9_mixed 112 = .ok (.getfield 67, 3) := by decide +kernel
theorem dX9_mixed_115 : decode cX9_mixed 115 = .ok (.iconst 3, 1) := by decide +kernel
theorem dX9_mixed_116 : decode cX9_mixed 116 = .ok (.iaload, 1) := by decide +kernel
theorem dX9_mixed_117 : decode cX9_mixed 117 = .ok (.iadd, 1) := by decide +kernel
theorem dX9_mixed_118 : decode cX9_mixed 118 = .ok (.istore 8, 2) := by decide +kernel
theorem dX9_mixed_120 : decode cX9_mixed 120 = .ok (.aload_n 0, 1) := by decide +kernel
theorem dX9_mixed_121 : decode cX9_mixed 121 = .ok (.aload_n 0, 1) := by decide +kernel
theorem dX9_mixed_122 : decode cX9_mixed 122 = .ok (.getfield 70, 3) := by decide +kernel
theorem dX9_mixed_125 : decode cX9_mixed 125 = .ok (.iconst 3, 1) := by decide +kernel
theorem dX9_mixed_126 : decode cX9_mixed 126 = .ok (.iaload, 1) := by decide +kernel
theorem dX9_mixed_127 : decode cX9_mixed 127 = .ok (.aload_n 0, 1) := by decide +kernel
theorem dX9_mixed_128 : decode cX9_mixed 128 = .ok (.getfield 70, 3) := by decide +kernel
theorem dX9_mixed_131 : decode cX9_mixed 131 = .ok (.iconst 2, 1) := by decide +kernel
theorem dX9_mixed_132 : decode cX9_mixed 132 = .ok (.iaload, 1) := by decide +kernel
theorem dX9_mixed_133 : decode cX9_mixed 133 = .ok (.isub, 1) := by decide +kernel
theorem dX9_mixed_134 : decode cX9_mixed 134 = .ok (.iload 7, 2) := by decide +kernel
theorem dX9_mixed_136 : decode cX9_mixed 136 = .ok (.invokevirtual 280, 3) := by decide +kernel
theorem dX9_mixed_139 : decode cX9_mixed 139 = .ok (.istore 9, 2) := by decide +kernel
theorem dX9_mixed_141 : decode cX9_mixed 141 = .ok (.aload_n 0, 1) := by decide +kernel
theorem dX9_mixed_142 : decode cX9_mixed 142 = .ok (.aload_n 0, 1) := by decide +kernel
theorem dX9_mixed_143 : decode cX9_mixed 143 = .ok (.getfield 67, 3) := by decide +kernel
theorem dX9_mixed_146 : decode cX9_mixed 146 = .ok (.iconst 3, 1) := by decide +kernel
theorem dX9_mixed_147 : decode cX9_mixed 147 = .ok (.iaload, 1) := by decide +kernel
theorem dX9_mixed_148 : decode cX9_mixed 148 = .ok (.aload_n 0, 1) := by decide +kernel
theorem dX9_mixed_149 : decode cX9_mixed 149 = .ok (.getfield 67, 3) := by decide +kernel
theorem dX9_mixed_152 : decode cX9_mixed 152 = .ok (.iconst 1, 1) := by decide +kernel
theorem dX9_mixed_153 : decode cX9_mixed 153 = .ok (.iaload, 1) := by decide +kernel
theorem dX9_mixed_154 : decode cX9_mixed 154 = .ok (.isub, 1) := by decide +kernel
theorem dX9_mixed_155 : decode cX9_mixed 155 = .ok (.iload 8, 2) := by decide +kernel
theorem dX9_mixed_157 : decode cX9_mixed 157 = .ok (.invokevirtual 280, 3) := by decide +kernel
theorem dX9_mixed_160 : decode cX9_mixed 160 = .ok (.istore 10, 2) := by decide +kernel
theorem dX9_mixed_162 : decode cX9_mixed 162 = .ok (.iload 9, 2) := by decide +kernel
theorem dX9_mixed_164 : decode cX9_mixed 164 = .ok (.ifCond .eq 8, 3) := by decide +kernel
theorem dX9_mixed_167 : decode cX9_mixed 167 = .ok (.iload 10, 2) := by decide +kernel
theorem dX9_mixed_169 : decode cX9_mixed 169 = .ok (.ifCond .ne 7, 3) := by decide +kernel
theorem dX9_mixed_172 : decode cX9_mixed 172 = .ok (.invokestatic 95, 3) := by decide +kernel
theorem dX9_mixed_175 : decode cX9_mixed 175 = .ok (.lreturn, 1) := by decide +kernel
theorem dX9_mixed_176 : decode cX9_mixed 176 = .ok (.iload 4, 2) := by decide +kernel
theorem dX9_mixed_178 : decode cX9_mixed 178 = .ok (.ifCond .ne 23, 3) := by decide +kernel
theorem dX9_mixed_181 : decode cX9_mixed 181 = .ok (.aload_n 0, 1) := by decide +kernel
theorem dX9_mixed_182 : decode cX9_mixed 182 = .ok (.aload_n 0, 1) := by decide +kernel
theorem dX9_mixed_183 : decode cX9_mixed 183 = .ok (.getfield 70, 3) := by decide +kernel
theorem dX9_mixed_186 : decode cX9_mixed 186 = .ok (.iconst 3, 1) := by decide +kernel
theorem dX9_mixed_187 : decode cX9_mixed 187 = .ok (.iaload, 1) := by decide +kernel
theorem dX9_mixed_188 : decode cX9_mixed 188 = .ok (.aload_n 0, 1) := by decide +kernel
theorem dX9_mixed_189 : decode cX9_mixed 189 = .ok (.getfield 70, 3) := by decide +kernel
theorem dX9_mixed_192 : decode cX9_mixed 192 = .ok (.iconst 2, 1) := by decide +kernel
theorem dX9_mixed_193 : decode cX9_mixed 193 = .ok (.iaload, 1) := by decide +kernel
theorem dX9_mixed_194 : decode cX9_mixed 194 = .ok (.isub, 1) := by decide +kernel
theorem dX9_mixed_195 : decode cX9_mixed 195 = .ok (.iload 7, 2) := by decide +kernel
theorem dX9_mixed_197 : decode cX9_mixed 197 = .ok (.invokevirtual 280, 3) := by decide +kernel
theorem dX9_mixed_200 : decode cX9_mixed 200 = .ok (.pop, 1) := by decide +kernel
theorem dX9_mixed_201 : decode cX9_mixed 201 = .ok (.aload_n 0, 1) := by decide +kernel
theorem dX9_mixed_202 : decode cX9_mixed 202 = .ok (.getfield 273, 3) := by decide +kernel
theorem dX9_mixed_205 : decode cX9_mixed 205 = .ok (.aload_n 0, 1) := by decide +kernel
theorem dX9_mixed_206 : decode cX9_mixed 206 = .ok (.getfield 277, 3) := by decide +kernel
theorem dX9_mixed_209 : decode cX9_mixed 209 = .ok (.iload 5, 2) := by decide +kernel
theorem dX9_mixed_211 : decode cX9_mixed 211 = .ok (.invokestatic 262, 3) := by decide +kernel
theorem dX9_mixed_214 : decode cX9_mixed 214 = .ok (.lreturn, 1) := by decide +kernel
theorem dX9_noSheet_0 : decode cX9_noSheet 0 = .ok (.iload_n 0, 1) := by decide +kernel
theorem dX9_noSheet_1 : decode cX9_noSheet 1 = .ok (.i2l, 1) := by decide +kernel
theorem dX9_noSheet_2 : decode cX9_noSheet 2 = .ok (.lconst 0, 1) := by decide +kernel
theorem dX9_noSheet_3 : decode cX9_noSheet 3 = .ok (.ldc2_w 231, 3) := by decide +kernel
theorem dX9_noSheet_6 : decode cX9_noSheet 6 = .ok (.invokestatic 87, 3) := by decide +kernel
theorem dX9_noSheet_9 : decode cX9_noSheet 9 = .ok (.ifCond .ne 7, 3) := by decide +kernel
theorem dX9_noSheet_12 : decode cX9_noSheet 12 = .ok (.iconst 1, 1) := by decide +kernel
theorem dX9_noSheet_13 : decode cX9_noSheet 13 = .ok (.goto 4, 3) := by decide +kernel
theorem dX9_noSheet_16 : decode cX9_noSheet 16 = .ok (.iconst 0, 1) := by decide +kernel
theorem dX9_noSheet_17 : decode cX9_noSheet 17 = .ok (.ireturn, 1) := by decide +kernel
theorem dX9_sheet_0 : decode cX9_sheet 0 = .ok (.iload_n 1, 1) := by decide +kernel
theorem dX9_sheet_1 : decode cX9_sheet 1 = .ok (.invokestatic 99, 3) := by decide +kernel
theorem dX9_sheet_4 : decode cX9_sheet 4 = .ok (.ifCond .eq 9, 3) := by decide +kernel
theorem dX9_sheet_7 : decode cX9_sheet 7 = .ok (.aload_n 0, 1) := by decide +kernel
theorem dX9_sheet_8 : decode cX9_sheet 8 = .ok (.iconst (-1), 1) := by decide +kernel
theorem dX9_sheet_9 : decode cX9_sheet 9 = .ok (.invokevirtual 103, 3) := by decide +kernel
theorem dX9_sheet_12 : decode cX9_sheet 12 = .ok (.ireturn, 1) := by decide +kernel
theorem dX9_sheet_13 : decode cX9_sheet 13 = .ok (.iload_n 2, 1) := by decide +kernel
theorem dX9_sheet_14 : decode cX9_sheet 14 = .ok (.i2l, 1) := by decide +kernel
theorem dX9_sheet_15 : decode cX9_sheet 15 = .ok (.lconst 0, 1) := by decide +kernel
theorem dX9_sheet_16 : decode cX9_sheet 16 = .ok (.ldc2_w 107, 3) := by decide +kernel
theorem dX9_sheet_19 : decode cX9_sheet 19 = .ok (.invokestatic 87, 3) := by decide +kernel
theorem dX9_sheet_22 : decode cX9_sheet 22 = .ok (.ifCond .eq 9, 3) := by decide +kernel
theorem dX9_sheet_25 : decode cX9_sheet 25 = .ok (.iload_n 3, 1) := by decide +kernel
theorem dX9_sheet_26 : decode cX9_sheet 26 = .ok (.bipush 60, 2) := by decide +kernel
theorem dX9_sheet_28 : decode cX9_sheet 28 = .ok (.if_icmp .le 10, 3) := by decide +kernel
theorem dX9_sheet_31 : decode cX9_sheet 31 = .ok (.aload_n 0, 1) := by decide +kernel
theorem dX9_sheet_32 : decode cX9_sheet 32 = .ok (.bipush (-2), 2) := by decide +kernel
theorem dX9_sheet_34 : decode cX9_sheet 34 = .ok (.invokevirtual 103, 3) := by decide +kernel
theorem dX9_sheet_37 : decode cX9_sheet 37 = .ok (.ireturn, 1) := by decide +kernel
theorem dX9_sheet_38 : decode cX9_sheet 38 = .ok (.iload_n 3, 1) := by decide +kernel
theorem dX9_sheet_39 : decode cX9_sheet 39 = .ok (.ifCond .ge 9, 3) := by decide +kernel
theorem dX9_sheet_42 : decode cX9_sheet 42 = .ok (.aload_n 0, 1) := by decide +kernel
theorem dX9_sheet_43 : decode cX9_sheet 43 = .ok (.iconst 4, 1) := by decide +kernel
theorem dX9_sheet_44 : decode cX9_sheet 44 = .ok (.invokevirtual 109, 3) := by decide +kernel
theorem dX9_sheet_47 : decode cX9_sheet 47 = .ok (.ireturn, 1) := by decide +kernel
theorem dX9_sheet_48 : decode cX9_sheet 48 = .ok (.aload_n 0, 1) := by decide +kernel
theorem dX9_sheet_49 : decode cX9_sheet 49 = .ok (.getfield 73, 3) := by decide +kernel
theorem dX9_sheet_52 : decode cX9_sheet 52 = .ok (.iload_n 1, 1) := by decide +kernel
theorem dX9_sheet_53 : decode cX9_sheet 53 = .ok (.iload_n 3, 1) := by decide +kernel
theorem dX9_sheet_54 : decode cX9_sheet 54 = .ok (.iastore, 1) := by decide +kernel
theorem dX9_sheet_55 : decode cX9_sheet 55 = .ok (.aload_n 0, 1) := by decide +kernel
theorem dX9_sheet_56 : decode cX9_sheet 56 = .ok (.getfield 76, 3) := by decide +kernel
theorem dX9_sheet_59 : decode cX9_sheet 59 = .ok (.iload_n 1, 1) := by decide +kernel
theorem dX9_sheet_60 : decode cX9_sheet 60 = .ok (.iload_n 2, 1) := by decide +kernel
theorem dX9_sheet_61 : decode cX9_sheet 61 = .ok (.iastore, 1) := by decide +kernel
theorem dX9_sheet_62 : decode cX9_sheet 62 = .ok (.iconst 0, 1) := by decide +kernel
theorem dX9_sheet_63 : decode cX9_sheet 63 = .ok (.istore 4, 2) := by decide +kernel
theorem dX9_sheet_65 : decode cX9_sheet 65 = .ok (.iload 4, 2) := by decide +kernel
theorem dX9_sheet_67 : decode cX9_sheet 67 = .ok (.iload_n 3, 1) := by decide +kernel
theorem dX9_sheet_68 : decode cX9_sheet 68 = .ok (.if_icmp .ge 22, 3) := by decide +kernel
theorem dX9_sheet_71 : decode cX9_sheet 71 = .ok (.aload_n 0, 1) := by decide +kernel
theorem dX9_sheet_72 : decode cX9_sheet 72 = .ok (.getfield 79, 3) := by decide +kernel
theorem dX9_sheet_75 : decode cX9_sheet 75 = .ok (.bipush 60, 2) := by decide +kernel
theorem dX9_sheet_77 : decode cX9_sheet 77 = .ok (.iload_n 1, 1) := by decide +kernel
theorem dX9_sheet_78 : decode cX9_sheet 78 = .ok (.imul, 1) := by decide +kernel
theorem dX9_sheet_79 : decode cX9_sheet 79 = .ok (.iload 4, 2) := by decide +kernel
theorem dX9_sheet_81 : decode cX9_sheet 81 = .ok (.iadd, 1) := by decide +kernel
theorem dX9_sheet_82 : decode cX9_sheet 82 = .ok (.iconst 0, 1) := by decide +kernel
theorem dX9_sheet_83 : decode cX9_sheet 83 = .ok (.iastore, 1) := by decide +kernel
theorem dX9_sheet_84 : decode cX9_sheet 84 = .ok (.iinc 4 1, 3) := by decide +kernel
theorem dX9_sheet_87 : decode cX9_sheet 87 = .ok (.goto (-22), 3) := by decide +kernel
theorem dX9_sheet_90 : decode cX9_sheet 90 = .ok (.aload_n 0, 1) := by decide +kernel
theorem dX9_sheet_91 : decode cX9_sheet 91 = .ok (.iconst 1, 1) := by decide +kernel
theorem dX9_sheet_92 : decode cX9_sheet 92 = .ok (.invokevirtual 103, 3) := by decide +kernel
theorem dX9_sheet_95 : decode cX9_sheet 95 = .ok (.ireturn, 1) := by decide +kernel
theorem dX9_lose_0 : decode cX9_lose 0 = .ok (.iload_n 1, 1) := by decide +kernel
theorem dX9_lose_1 : decode cX9_lose 1 = .ok (.invokestatic 99, 3) := by decide +kernel
theorem dX9_lose_4 : decode cX9_lose 4 = .ok (.ifCond .eq 5, 3) := by decide +kernel
theorem dX9_lose_7 : decode cX9_lose 7 = .ok (.iconst (-1), 1) := by decide +kernel
theorem dX9_lose_8 : decode cX9_lose 8 = .ok (.ireturn, 1) := by decide +kernel
theorem dX9_lose_9 : decode cX9_lose 9 = .ok (.aload_n 0, 1) := by decide +kernel
theorem dX9_lose_10 : decode cX9_lose 10 = .ok (.getfield 73, 3) := by decide +kernel
theorem dX9_lose_13 : decode cX9_lose 13 = .ok (.iload_n 1, 1) := by decide +kernel
theorem dX9_lose_14 : decode cX9_lose 14 = .ok (.iaload, 1) := by decide +kernel
theorem dX9_lose_15 : decode cX9_lose 15 = .ok (.ifCond .ge 7, 3) := by decide +kernel
theorem dX9_lose_18 : decode cX9_lose 18 = .ok (.iconst 0, 1) := by decide +kernel
theorem dX9_lose_19 : decode cX9_lose 19 = .ok (.goto 4, 3) := by decide +kernel
theorem dX9_lose_22 : decode cX9_lose 22 = .ok (.iconst 1, 1) := by decide +kernel
theorem dX9_lose_23 : decode cX9_lose 23 = .ok (.istore_n 2, 1) := by decide +kernel
theorem dX9_lose_24 : decode cX9_lose 24 = .ok (.aload_n 0, 1) := by decide +kernel
theorem dX9_lose_25 : decode cX9_lose 25 = .ok (.getfield 73, 3) := by decide +kernel
theorem dX9_lose_28 : decode cX9_lose 28 = .ok (.iload_n 1, 1) := by decide +kernel
theorem dX9_lose_29 : decode cX9_lose 29 = .ok (.iconst (-1), 1) := by decide +kernel
theorem dX9_lose_30 : decode cX9_lose 30 = .ok (.iastore, 1) := by decide +kernel
theorem dX9_lose_31 : decode cX9_lose 31 = .ok (.iload_n 2, 1) := by decide +kernel
theorem dX9_lose_32 : decode cX9_lose 32 = .ok (.ireturn, 1) := by decide +kernel
theorem dX9_noCell_0 : decode cX9_noCell 0 = .ok (.aload_n 0, 1) := by decide +kernel
theorem dX9_noCell_1 : decode cX9_noCell 1 = .ok (.getfield 73, 3) := by decide +kernel
theorem dX9_noCell_4 : decode cX9_noCell 4 = .ok (.iload_n 1, 1) := by decide +kernel
theorem dX9_noCell_5 : decode cX9_noCell 5 = .ok (.iaload, 1) := by decide +kernel
theorem dX9_noCell_6 : decode cX9_noCell 6 = .ok (.ifCond .ge 7, 3) := by decide +kernel
theorem dX9_noCell_9 : decode cX9_noCell 9 = .ok (.iconst 1, 1) := by decide +kernel
theorem dX9_noCell_10 : decode cX9_noCell 10 = .ok (.goto 26, 3) := by decide +kernel
theorem dX9_noCell_13 : decode cX9_noCell 13 = .ok (.iload_n 2, 1) := by decide +kernel
theorem dX9_noCell_14 : decode cX9_noCell 14 = .ok (.i2l, 1) := by decide +kernel
theorem dX9_noCell_15 : decode cX9_noCell 15 = .ok (.lconst 0, 1) := by decide +kernel
theorem dX9_noCell_16 : decode cX9_noCell 16 = .ok (.aload_n 0, 1) := by decide +kernel
theorem dX9_noCell_17 : decode cX9_noCell 17 = .ok (.getfield 73, 3) := by decide +kernel
theorem dX9_noCell_20 : decode cX9_noCell 20 = .ok (.iload_n 1, 1) := by decide +kernel
theorem dX9_noCell_21 : decode cX9_noCell 21 = .ok (.iaload, 1) := by decide +kernel
theorem dX9_noCell_22 : decode cX9_noCell 22 = .ok (.i2l, 1) := by decide +kernel
theorem dX9_noCell_23 : decode cX9_noCell 23 = .ok (.lconst 1, 1) := by decide +kernel
theorem dX9_noCell_24 : decode cX9_noCell 24 = .ok (.lsub, 1) := by decide +kernel
theorem dX9_noCell_25 : decode cX9_noCell 25 = .ok (.invokestatic 87, 3) := by decide +kernel
theorem dX9_noCell_28 : decode cX9_noCell 28 = .ok (.ifCond .eq 7, 3) := by decide +kernel
theorem dX9_noCell_31 : decode cX9_noCell 31 = .ok (.iconst 0, 1) := by decide +kernel
theorem dX9_noCell_32 : decode cX9_noCell 32 = .ok (.goto 4, 3) := by decide +kernel
theorem dX9_noCell_35 : decode cX9_noCell 35 = .ok (.iconst 3, 1) := by decide +kernel
theorem dX9_noCell_36 : decode cX9_noCell 36 = .ok (.ireturn, 1) := by decide +kernel
theorem dX9_put_0 : decode cX9_put 0 = .ok (.iload_n 1, 1) := by decide +kernel
theorem dX9_put_1 : decode cX9_put 1 = .ok (.invokestatic 99, 3) := by decide +kernel
theorem dX9_put_4 : decode cX9_put 4 = .ok (.ifCond .eq 9, 3) := by decide +kernel
theorem dX9_put_7 : decode cX9_put 7 = .ok (.aload_n 0, 1) := by decide +kernel
theorem dX9_put_8 : decode cX9_put 8 = .ok (.iconst (-1), 1) := by decide +kernel
theorem dX9_put_9 : decode cX9_put 9 = .ok (.invokevirtual 103, 3) := by decide +kernel
theorem dX9_put_12 : decode cX9_put 12 = .ok (.ireturn, 1) := by decide +kernel
theorem dX9_put_13 : decode cX9_put 13 = .ok (.aload_n 0, 1) := by decide +kernel
theorem dX9_put_14 : decode cX9_put 14 = .ok (.iload_n 1, 1) := by decide +kernel
theorem dX9_put_15 : decode cX9_put 15 = .ok (.iload_n 2, 1) := by decide +kernel
theorem dX9_put_16 : decode cX9_put 16 = .ok (.invokevirtual 283, 3) := by decide +kernel
theorem dX9_put_19 : decode cX9_put 19 = .ok (.ifCond .le 14, 3) := by decide +kernel
theorem dX9_put_22 : decode cX9_put 22 = .ok (.aload_n 0, 1) := by decide +kernel
theorem dX9_put_23 : decode cX9_put 23 = .ok (.aload_n 0, 1) := by decide +kernel
theorem dX9_put_24 : decode cX9_put 24 = .ok (.iload_n 1, 1) := by decide +kernel
theorem dX9_put_25 : decode cX9_put 25 = .ok (.iload_n 2, 1) := by decide +kernel
theorem dX9_put_26 : decode cX9_put 26 = .ok (.invokevirtual 283, 3) := by decide +kernel
theorem dX9_put_29 : decode cX9_put 29 = .ok (.invokevirtual 109, 3) := by decide +kernel
theorem dX9_put_32 : decode cX9_put 32 = .ok (.ireturn, 1) := by decide +kernel
theorem dX9_put_33 : decode cX9_put 33 = .ok (.aload_n 0, 1) := by decide +kernel
theorem dX9_put_34 : decode cX9_put 34 = .ok (.getfield 79, 3) := by decide +kernel
theorem dX9_put_37 : decode cX9_put 37 = .ok (.bipush 60, 2) := by decide +kernel
theorem dX9_put_39 : decode cX9_put 39 = .ok (.iload_n 1, 1) := by decide +kernel
theorem dX9_put_40 : decode cX9_put 40 = .ok (.imul, 1) := by decide +kernel
theorem dX9_put_41 : decode cX9_put 41 = .ok (.iload_n 2, 1) := by decide +kernel
theorem dX9_put_42 : decode cX9_put 42 = .ok (.iadd, 1) := by decide +kernel
theorem dX9_put_43 : decode cX9_put 43 = .ok (.aload_n 0, 1) := by decide +kernel
theorem dX9_put_44 : decode cX9_put 44 = .ok (.getfield 76, 3) := by decide +kernel
theorem dX9_put_47 : decode cX9_put 47 = .ok (.iload_n 1, 1) := by decide +kernel
theorem dX9_put_48 : decode cX9_put 48 = .ok (.iaload, 1) := by decide +kernel
theorem dX9_put_49 : decode cX9_put 49 = .ok (.ifCond .ne 8, 3) := by decide +kernel
theorem dX9_put_52 : decode cX9_put 52 = .ok (.iload_n 3, 1) := by decide +kernel
theorem dX9_put_53 : decode cX9_put 53 = .ok (.i2b, 1) := by decide +kernel
theorem dX9_put_54 : decode cX9_put 54 = .ok (.goto 19, 3) := by decide +kernel
theorem dX9_put_57 : decode cX9_put 57 = .ok (.aload_n 0, 1) := by decide +kernel
theorem dX9_put_58 : decode cX9_put 58 = .ok (.getfield 76, 3) := by decide +kernel
theorem dX9_put_61 : decode cX9_put 61 = .ok (.iload_n 1, 1) := by decide +kernel
theorem dX9_put_62 : decode cX9_put 62 = .ok (.iaload, 1) := by decide +kernel
theorem dX9_put_63 : decode cX9_put 63 = .ok (.iconst 1, 1) := by decide +kernel
theorem dX9_put_64 : decode cX9_put 64 = .ok (.if_icmp .ne 8, 3) := by decide +kernel
theorem dX9_put_67 : decode cX9_put 67 = .ok (.iload_n 3, 1) := by decide +kernel
theorem dX9_put_68 : decode cX9_put 68 = .ok (.i2s, 1) := by decide +kernel
theorem dX9_put_69 : decode cX9_put 69 = .ok (.goto 4, 3) := by decide +kernel
theorem dX9_put_72 : decode cX9_put 72 = .ok (.iload_n 3, 1) := by decide +kernel
theorem dX9_put_73 : decode cX9_put 73 = .ok (.iastore, 1) := by decide +kernel
theorem dX9_put_74 : decode cX9_put 74 = .ok (.aload_n 0, 1) := by decide +kernel
theorem dX9_put_75 : decode cX9_put 75 = .ok (.iconst 1, 1) := by decide +kernel
theorem dX9_put_76 : decode cX9_put 76 = .ok (.invokevirtual 103, 3) := by decide +kernel
theorem dX9_put_79 : decode cX9_put 79 = .ok (.ireturn, 1) := by decide +kernel
theorem dX9_cell_0 : decode cX9_cell 0 = .ok (.aload_n 0, 1) := by decide +kernel
theorem dX9_cell_1 : decode cX9_cell 1 = .ok (.iconst 0, 1) := by decide +kernel
theorem dX9_cell_2 : decode cX9_cell 2 = .ok (.putfield 91, 3) := by decide +kernel
theorem dX9_cell_5 : decode cX9_cell 5 = .ok (.iload_n 1, 1) := by decide +kernel
theorem dX9_cell_6 : decode cX9_cell 6 = .ok (.invokestatic 99, 3) := by decide +kernel
theorem dX9_cell_9 : decode cX9_cell 9 = .ok (.ifCond .ne 15, 3) := by decide +kernel
theorem dX9_cell_12 : decode cX9_cell 12 = .ok (.iload_n 3, 1) := by decide +kernel
theorem dX9_cell_13 : decode cX9_cell 13 = .ok (.i2l, 1) := by decide +kernel
theorem dX9_cell_14 : decode cX9_cell 14 = .ok (.lconst 0, 1) := by decide +kernel
theorem dX9_cell_15 : decode cX9_cell 15 = .ok (.ldc2_w 107, 3) := by decide +kernel
theorem dX9_cell_18 : decode cX9_cell 18 = .ok (.invokestatic 87, 3) := by decide +kernel
theorem dX9_cell_21 : decode cX9_cell 21 = .ok (.ifCond .ne 7, 3) := by decide +kernel
theorem dX9_cell_24 : decode cX9_cell 24 = .ok (.invokestatic 95, 3) := by decide +kernel
theorem dX9_cell_27 : decode cX9_cell 27 = .ok (.lreturn, 1) := by decide +kernel
theorem dX9_cell_28 : decode cX9_cell 28 = .ok (.aload_n 0, 1) := by decide +kernel
theorem dX9_cell_29 : decode cX9_cell 29 = .ok (.getfield 73, 3) := by decide +kernel
theorem dX9_cell_32 : decode cX9_cell 32 = .ok (.iload_n 1, 1) := by decide +kernel
theorem dX9_cell_33 : decode cX9_cell 33 = .ok (.iaload, 1) := by decide +kernel
theorem dX9_cell_34 : decode cX9_cell 34 = .ok (.ifCond .lt 19, 3) := by decide +kernel
theorem dX9_cell_37 : decode cX9_cell 37 = .ok (.aload_n 0, 1) := by decide +kernel
theorem dX9_cell_38 : decode cX9_cell 38 = .ok (.getfield 76, 3) := by decide +kernel
theorem dX9_cell_41 : decode cX9_cell 41 = .ok (.iload_n 1, 1) := by decide +kernel
theorem dX9_cell_42 : decode cX9_cell 42 = .ok (.iaload, 1) := by decide +kernel
theorem dX9_cell_43 : decode cX9_cell 43 = .ok (.iload_n 3, 1) := by decide +kernel
theorem dX9_cell_44 : decode cX9_cell 44 = .ok (.if_icmp .eq 9, 3) := by decide +kernel
theorem dX9_cell_47 : decode cX9_cell 47 = .ok (.aload_n 0, 1) := by decide +kernel
theorem dX9_cell_48 : decode cX9_cell 48 = .ok (.iconst 2, 1) := by decide +kernel
theorem dX9_cell_49 : decode cX9_cell 49 = .ok (.invokevirtual 286, 3) := by decide +kernel
theorem dX9_cell_52 : decode cX9_cell 52 = .ok (.lreturn, 1) := by decide +kernel
theorem dX9_cell_53 : decode cX9_cell 53 = .ok (.aload_n 0, 1) := by decide +kernel
theorem dX9_cell_54 : decode cX9_cell 54 = .ok (.iload_n 1, 1) := by decide +kernel
theorem dX9_cell_55 : decode cX9_cell 55 = .ok (.iload_n 2, 1) := by decide +kernel
theorem dX9_cell_56 : decode cX9_cell 56 = .ok (.invokevirtual 283, 3) := by decide +kernel
theorem dX9_cell_59 : decode cX9_cell 59 = .ok (.ifCond .le 16, 3) := by decide +kernel
theorem dX9_cell_62 : decode cX9_cell 62 = .ok (.aload_n 0, 1) := by decide +kernel
theorem dX9_cell_63 : decode cX9_cell 63 = .ok (.aload_n 0, 1) := by decide +kernel
theorem dX9_cell_64 : decode cX9_cell 64 = .ok (.iload_n 1, 1) := by decide +kernel
theorem dX9_cell_65 : decode cX9_cell 65 = .ok (.iload_n 2, 1) := by decide +kernel
theorem dX9_cell_66 : decode cX9_cell 66 = .ok (.invokevirtual 283, 3) := by decide +kernel
theorem dX9_cell_69 : decode cX9_cell 69 = .ok (.invokevirtual 286, 3) := by decide +kernel
theorem dX9_cell_72 : decode cX9_cell 72 = .ok (.goto 15, 3) := by decide +kernel
theorem dX9_cell_75 : decode cX9_cell 75 = .ok (.aload_n 0, 1) := by decide +kernel
theorem dX9_cell_76 : decode cX9_cell 76 = .ok (.getfield 79, 3) := by decide +kernel
theorem dX9_cell_79 : decode cX9_cell 79 = .ok (.bipush 60, 2) := by decide +kernel
theorem dX9_cell_81 : decode cX9_cell 81 = .ok (.iload_n 1, 1) := by decide +kernel
theorem dX9_cell_82 : decode cX9_cell 82 = .ok (.imul, 1) := by decide +kernel
theorem dX9_cell_83 : decode cX9_cell 83 = .ok (.iload_n 2, 1) := by decide +kernel
theorem dX9_cell_84 : decode cX9_cell 84 = .ok (.iadd, 1) := by decide +kernel
theorem dX9_cell_85 : decode cX9_cell 85 = .ok (.iaload, 1) := by decide +kernel
theorem dX9_cell_86 : decode cX9_cell 86 = .ok (.i2l, 1) := by decide +kernel
theorem dX9_cell_87 : decode cX9_cell 87 = .ok (.lreturn, 1) := by decide +kernel
theorem dX9_isBeyond_0 : decode cX9_isBeyond 0 = .ok (.iload_n 0, 1) := by decide +kernel
theorem dX9_isBeyond_1 : decode cX9_isBeyond 1 = .ok (.ifCond .lt 19, 3) := by decide +kernel
theorem dX9_isBeyond_4 : decode cX9_isBeyond 4 = .ok (.lload_n 1, 1) := by decide +kernel
theorem dX9_isBeyond_5 : decode cX9_isBeyond 5 = .ok (.lconst 0, 1) := by decide +kernel
theorem dX9_isBeyond_6 : decode cX9_isBeyond 6 = .ok (.lcmp, 1) := by decide +kernel
theorem dX9_isBeyond_7 : decode cX9_isBeyond 7 = .ok (.ifCond .lt 13, 3) := by decide +kernel
theorem dX9_isBeyond_10 : decode cX9_isBeyond 10 = .ok (.iload_n 0, 1) := by decide +kernel
theorem dX9_isBeyond_11 : decode cX9_isBeyond 11 = .ok (.i2l, 1) := by decide +kernel
theorem dX9_isBeyond_12 : decode cX9_isBeyond 12 = .ok (.lload_n 1, 1) := by decide +kernel
theorem dX9_isBeyond_13 : decode cX9_isBeyond 13 = .ok (.ladd, 1) := by decide +kernel
theorem dX9_isBeyond_14 : decode cX9_isBeyond 14 = .ok (.iload_n 3, 1) := by decide +kernel
theorem dX9_isBeyond_15 : decode cX9_isBeyond 15 = .ok (.i2l, 1) := by decide +kernel
theorem dX9_isBeyond_16 : decode cX9_isBeyond 16 = .ok (.lcmp, 1) := by decide +kernel
theorem dX9_isBeyond_17 : decode cX9_isBeyond 17 = .ok (.ifCond .le 7, 3) := by decide +kernel
theorem dX9_isBeyond_20 : decode cX9_isBeyond 20 = .ok (.iconst 1, 1) := by decide +kernel
theorem dX9_isBeyond_21 : decode cX9_isBeyond 21 = .ok (.goto 4, 3) := by decide +kernel
theorem dX9_isBeyond_24 : decode cX9_isBeyond 24 = .ok (.iconst 0, 1) := by decide +kernel
theorem dX9_isBeyond_25 : decode cX9_isBeyond 25 = .ok (.ireturn, 1) := by decide +kernel
theorem dX9_copy_0 : decode cX9_copy 0 = .ok (.iload_n 1, 1) := by decide +kernel
theorem dX9_copy_1 : decode cX9_copy 1 = .ok (.invokestatic 99, 3) := by decide +kernel
theorem dX9_copy_4 : decode cX9_copy 4 = .ok (.ifCond .ne 10, 3) := by decide +kernel
theorem dX9_copy_7 : decode cX9_copy 7 = .ok (.iload_n 3, 1) := by decide +kernel
theorem dX9_copy_8 : decode cX9_copy 8 = .ok (.invokestatic 99, 3) := by decide +kernel
theorem dX9_copy_11 : decode cX9_copy 11 = .ok (.ifCond .eq 9, 3) := by decide +kernel
theorem dX9_copy_14 : decode cX9_copy 14 = .ok (.aload_n 0, 1) := by decide +kernel
theorem dX9_copy_15 : decode cX9_copy 15 = .ok (.iconst (-1), 1) := by decide +kernel
theorem dX9_copy_16 : decode cX9_copy 16 = .ok (.invokevirtual 103, 3) := by decide +kernel
theorem dX9_copy_19 : decode cX9_copy 19 = .ok (.ireturn, 1) := by decide +kernel
theorem dX9_copy_20 : decode cX9_copy 20 = .ok (.aload_n 0, 1) := by decide +kernel
theorem dX9_copy_21 : decode cX9_copy 21 = .ok (.getfield 73, 3) := by decide +kernel
theorem dX9_copy_24 : decode cX9_copy 24 = .ok (.iload_n 1, 1) := by decide +kernel
theorem dX9_copy_25 : decode cX9_copy 25 = .ok (.iaload, 1) := by decide +kernel
theorem dX9_copy_26 : decode cX9_copy 26 = .ok (.ifCond .lt 12, 3) := by decide +kernel
theorem dX9_copy_29 : decode cX9_copy 29 = .ok (.aload_n 0, 1) := by decide +kernel
theorem dX9_copy_30 : decode cX9_copy 30 = .ok (.getfield 73, 3) := by decide +kernel
theorem dX9_copy_33 : decode cX9_copy 33 = .ok (.iload_n 3, 1) := by decide +kernel
theorem dX9_copy_34 : decode cX9_copy 34 = .ok (.iaload, 1) := by decide +kernel
theorem dX9_copy_35 : decode cX9_copy 35 = .ok (.ifCond .ge 9, 3) := by decide +kernel
theorem dX9_copy_38 : decode cX9_copy 38 = .ok (.aload_n 0, 1) := by decide +kernel
theorem dX9_copy_39 : decode cX9_copy 39 = .ok (.iconst 1, 1) := by decide +kernel
theorem dX9_copy_40 : decode cX9_copy 40 = .ok (.invokevirtual 109, 3) := by decide +kernel
theorem dX9_copy_43 : decode cX9_copy 43 = .ok (.ireturn, 1) := by decide +kernel
theorem dX9_copy_44 : decode cX9_copy 44 = .ok (.aload_n 0, 1) := by decide +kernel
theorem dX9_copy_45 : decode cX9_copy 45 = .ok (.getfield 76, 3) := by decide +kernel
theorem dX9_copy_48 : decode cX9_copy 48 = .ok (.iload_n 1, 1) := by decide +kernel
theorem dX9_copy_49 : decode cX9_copy 49 = .ok (.iaload, 1) := by decide +kernel
theorem dX9_copy_50 : decode cX9_copy 50 = .ok (.aload_n 0, 1) := by decide +kernel
theorem dX9_copy_51 : decode cX9_copy 51 = .ok (.getfield 76, 3) := by decide +kernel
theorem dX9_copy_54 : decode cX9_copy 54 = .ok (.iload_n 3, 1) := by decide +kernel
theorem dX9_copy_55 : decode cX9_copy 55 = .ok (.iaload, 1) := by decide +kernel
theorem dX9_copy_56 : decode cX9_copy 56 = .ok (.if_icmp .eq 9, 3) := by decide +kernel
theorem dX9_copy_59 : decode cX9_copy 59 = .ok (.aload_n 0, 1) := by decide +kernel
theorem dX9_copy_60 : decode cX9_copy 60 = .ok (.iconst 2, 1) := by decide +kernel
theorem dX9_copy_61 : decode cX9_copy 61 = .ok (.invokevirtual 109, 3) := by decide +kernel
theorem dX9_copy_64 : decode cX9_copy 64 = .ok (.ireturn, 1) := by decide +kernel
theorem dX9_copy_65 : decode cX9_copy 65 = .ok (.iload_n 2, 1) := by decide +kernel
theorem dX9_copy_66 : decode cX9_copy 66 = .ok (.iload 5, 2) := by decide +kernel
theorem dX9_copy_68 : decode cX9_copy 68 = .ok (.i2l, 1) := by decide +kernel
theorem dX9_copy_69 : decode cX9_copy 69 = .ok (.aload_n 0, 1) := by decide +kernel
theorem dX9_copy_70 : decode cX9_copy 70 = .ok (.getfield 73, 3) := by decide +kernel
theorem dX9_copy_73 : decode cX9_copy 73 = .ok (.iload_n 1, 1) := by decide +kernel
theorem dX9_copy_74 : decode cX9_copy 74 = .ok (.iaload, 1) := by decide +kernel
theorem dX9_copy_75 : decode cX9_copy 75 = .ok (.invokestatic 112, 3) := by decide +kernel
theorem dX9_copy_78 : decode cX9_copy 78 = .ok (.ifCond .ne 20, 3) := by decide +kernel
theorem dX9_copy_81 : decode cX9_copy 81 = .ok (.iload 4, 2) := by decide +kernel
theorem dX9_copy_83 : decode cX9_copy 83 = .ok (.iload 5, 2) := by decide +kernel
theorem dX9_copy_85 : decode cX9_copy 85 = .ok (.i2l, 1) := by decide +kernel
theorem dX9_copy_86 : decode cX9_copy 86 = .ok (.aload_n 0, 1) := by decide +kernel
theorem dX9_copy_87 : decode cX9_copy 87 = .ok (.getfield 73, 3) := by decide +kernel
theorem dX9_copy_90 : decode cX9_copy 90 = .ok (.iload_n 3, 1) := by decide +kernel
theorem dX9_copy_91 : decode cX9_copy 91 = .ok (.iaload, 1) := by decide +kernel
theorem dX9_copy_92 : decode cX9_copy 92 = .ok (.invokestatic 112, 3) := by decide +kernel
theorem dX9_copy_95 : decode cX9_copy 95 = .ok (.ifCond .eq 9, 3) := by decide +kernel
theorem dX9_copy_98 : decode cX9_copy 98 = .ok (.aload_n 0, 1) := by decide +kernel
theorem dX9_copy_99 : decode cX9_copy 99 = .ok (.iconst 3, 1) := by decide +kernel
theorem dX9_copy_100 : decode cX9_copy 100 = .ok (.invokevirtual 109, 3) := by decide +kernel
theorem dX9_copy_103 : decode cX9_copy 103 = .ok (.ireturn, 1) := by decide +kernel
theorem dX9_copy_104 : decode cX9_copy 104 = .ok (.iconst 0, 1) := by decide +kernel
theorem dX9_copy_105 : decode cX9_copy 105 = .ok (.istore 6, 2) := by decide +kernel
theorem dX9_copy_107 : decode cX9_copy 107 = .ok (.iload 6, 2) := by decide +kernel
theorem dX9_copy_109 : decode cX9_copy 109 = .ok (.iload 5, 2) := by decide +kernel
theorem dX9_copy_111 : decode cX9_copy 111 = .ok (.if_icmp .ge 30, 3) := by decide +kernel
theorem dX9_copy_114 : decode cX9_copy 114 = .ok (.aload_n 0, 1) := by decide +kernel
theorem dX9_copy_115 : decode cX9_copy 115 = .ok (.getfield 82, 3) := by decide +kernel
theorem dX9_copy_118 : decode cX9_copy 118 = .ok (.iload 6, 2) := by decide +kernel
theorem dX9_copy_120 : decode cX9_copy 120 = .ok (.aload_n 0, 1) := by decide +kernel
theorem dX9_copy_121 : decode cX9_copy 121 = .ok (.getfield 79, 3) := by decide +kernel
theorem dX9_copy_124 : decode cX9_copy 124 = .ok (.bipush 60, 2) := by decide +kernel
theorem dX9_copy_126 : decode cX9_copy 126 = .ok (.iload_n 1, 1) := by decide +kernel
theorem dX9_copy_127 : decode cX9_copy 127 = .ok (.imul, 1) := by decide +kernel
theorem dX9_copy_128 : decode cX9_copy 128 = .ok (.iload_n 2, 1) := by decide +kernel
theorem dX9_copy_129 : decode cX9_copy 129 = .ok (.iadd, 1) := by decide +kernel
theorem dX9_copy_130 : decode cX9_copy 130 = .ok (.iload 6, 2) := by decide +kernel
theorem dX9_copy_132 : decode cX9_copy 132 = .ok (.iadd, 1) := by decide +kernel
theorem dX9_copy_133 : decode cX9_copy 133 = .ok (.iaload, 1) := by decide +kernel
theorem dX9_copy_134 : decode cX9_copy 134 = .ok (.iastore, 1) := by decide +kernel
theorem dX9_copy_135 : decode cX9_copy 135 = .ok (.iinc 6 1, 3) := by decide +kernel
theorem dX9_copy_138 : decode cX9_copy 138 = .ok (.goto (-31), 3) := by decide +kernel
theorem dX9_copy_141 : decode cX9_copy 141 = .ok (.iconst 0, 1) := by decide +kernel
theorem dX9_copy_142 : decode cX9_copy 142 = .ok (.istore 6, 2) := by decide +kernel
theorem dX9_copy_144 : decode cX9_copy 144 = .ok (.iload 6, 2) := by decide +kernel
theorem dX9_copy_146 : decode cX9_copy 146 = .ok (.iload 5, 2) := by decide +kernel
theorem dX9_copy_148 : decode cX9_copy 148 = .ok (.if_icmp .ge 31, 3) := by decide +kernel
theorem dX9_copy_151 : decode cX9_copy 151 = .ok (.aload_n 0, 1) := by decide +kernel
theorem dX9_copy_152 : decode cX9_copy 152 = .ok (.getfield 79, 3) := by decide +kernel
theorem dX9_copy_155 : decode cX9_copy 155 = .ok (.bipush 60, 2) := by decide +kernel
theorem dX9_copy_157 : decode cX9_copy 157 = .ok (.iload_n 3, 1) := by decide +kernel
theorem dX9_copy_158 : decode cX9_copy 158 = .ok (.imul, 1) := by decide +kernel
theorem dX9_copy_159 : decode cX9_copy 159 = .ok (.iload 4, 2) := by decide +kernel
theorem dX9_copy_161 : decode cX9_copy 161 = .ok (.iadd, 1) := by decide +kernel
theorem dX9_copy_162 : decode cX9_copy 162 = .ok (.iload 6, 2) := by decide +kernel
theorem dX9_copy_164 : decode cX9_copy 164 = .ok (.iadd, 1) := by decide +kernel
theorem dX9_copy_165 : decode cX9_copy 165 = .ok (.aload_n 0, 1) := by decide +kernel
theorem dX9_copy_166 : decode cX9_copy 166 = .ok (.getfield 82, 3) := by decide +kernel
theorem dX9_copy_169 : decode cX9_copy 169 = .ok (.iload 6, 2) := by decide +kernel
theorem dX9_copy_171 : decode cX9_copy 171 = .ok (.iaload, 1) := by decide +kernel
theorem dX9_copy_172 : decode cX9_copy 172 = .ok (.iastore, 1) := by decide +kernel
theorem dX9_copy_173 : decode cX9_copy 173 = .ok (.iinc 6 1, 3) := by decide +kernel
theorem dX9_copy_176 : decode cX9_copy 176 = .ok (.goto (-32), 3) := by decide +kernel
theorem dX9_copy_179 : decode cX9_copy 179 = .ok (.aload_n 0, 1) := by decide +kernel
theorem dX9_copy_180 : decode cX9_copy 180 = .ok (.iload 5, 2) := by decide +kernel
theorem dX9_copy_182 : decode cX9_copy 182 = .ok (.invokevirtual 103, 3) := by decide +kernel
theorem dX9_copy_185 : decode cX9_copy 185 = .ok (.ireturn, 1) := by decide +kernel
theorem dX9_traced_0 : decode cX9_traced 0 = .ok (.aload_n 0, 1) := by decide +kernel
theorem dX9_traced_1 : decode cX9_traced 1 = .ok (.bipush 31, 2) := by decide +kernel
theorem dX9_traced_3 : decode cX9_traced 3 = .ok (.aload_n 0, 1) := by decide +kernel
theorem dX9_traced_4 : decode cX9_traced 4 = .ok (.getfield 290, 3) := by decide +kernel
theorem dX9_traced_7 : decode cX9_traced 7 = .ok (.imul, 1) := by decide +kernel
theorem dX9_traced_8 : decode cX9_traced 8 = .ok (.iload_n 1, 1) := by decide +kernel
theorem dX9_traced_9 : decode cX9_traced 9 = .ok (.iadd, 1) := by decide +kernel
theorem dX9_traced_10 : decode cX9_traced 10 = .ok (.putfield 290, 3) := by decide +kernel
theorem dX9_traced_13 : decode cX9_traced 13 = .ok (.return_, 1) := by decide +kernel
theorem dX9_tell_0 : decode cX9_tell 0 = .ok (.aload_n 0, 1) := by decide +kernel
theorem dX9_tell_1 : decode cX9_tell 1 = .ok (.iload_n 1, 1) := by decide +kernel
theorem dX9_tell_2 : decode cX9_tell 2 = .ok (.invokevirtual 188, 3) := by decide +kernel
theorem dX9_tell_5 : decode cX9_tell 5 = .ok (.ifCond .eq 5, 3) := by decide +kernel
theorem dX9_tell_8 : decode cX9_tell 8 = .ok (.iconst (-1), 1) := by decide +kernel
theorem dX9_tell_9 : decode cX9_tell 9 = .ok (.ireturn, 1) := by decide +kernel
theorem dX9_tell_10 : decode cX9_tell 10 = .ok (.aload_n 0, 1) := by decide +kernel
theorem dX9_tell_11 : decode cX9_tell 11 = .ok (.getfield 28, 3) := by decide +kernel
theorem dX9_tell_14 : decode cX9_tell 14 = .ok (.iload_n 1, 1) := by decide +kernel
theorem dX9_tell_15 : decode cX9_tell 15 = .ok (.iaload, 1) := by decide +kernel
theorem dX9_tell_16 : decode cX9_tell 16 = .ok (.istore_n 2, 1) := by decide +kernel
theorem dX9_tell_17 : decode cX9_tell 17 = .ok (.iload_n 2, 1) := by decide +kernel
theorem dX9_tell_18 : decode cX9_tell 18 = .ok (.iconst 2, 1) := by decide +kernel
theorem dX9_tell_19 : decode cX9_tell 19 = .ok (.if_icmp .ne 8, 3) := by decide +kernel
theorem dX9_tell_22 : decode cX9_tell 22 = .ok (.aload_n 0, 1) := by decide +kernel
theorem dX9_tell_23 : decode cX9_tell 23 = .ok (.iconst 3, 1) := by decide +kernel
theorem dX9_tell_24 : decode cX9_tell 24 = .ok (.invokevirtual 293, 3) := by decide +kernel
theorem dX9_tell_27 : decode cX9_tell 27 = .ok (.iload_n 2, 1) := by decide +kernel
theorem dX9_tell_28 : decode cX9_tell 28 = .ok (.ifCond .le 8, 3) := by decide +kernel
theorem dX9_tell_31 : decode cX9_tell 31 = .ok (.aload_n 0, 1) := by decide +kernel
theorem dX9_tell_32 : decode cX9_tell 32 = .ok (.iconst 2, 1) := by decide +kernel
theorem dX9_tell_33 : decode cX9_tell 33 = .ok (.invokevirtual 293, 3) := by decide +kernel
theorem dX9_tell_36 : decode cX9_tell 36 = .ok (.aload_n 0, 1) := by decide +kernel
theorem dX9_tell_37 : decode cX9_tell 37 = .ok (.iconst 1, 1) := by decide +kernel
theorem dX9_tell_38 : decode cX9_tell 38 = .ok (.invokevirtual 293, 3) := by decide +kernel
theorem dX9_tell_41 : decode cX9_tell 41 = .ok (.iload_n 2, 1) := by decide +kernel
theorem dX9_tell_42 : decode cX9_tell 42 = .ok (.iconst 2, 1) := by decide +kernel
theorem dX9_tell_43 : decode cX9_tell 43 = .ok (.if_icmp .ne 8, 3) := by decide +kernel
theorem dX9_tell_46 : decode cX9_tell 46 = .ok (.aload_n 0, 1) := by decide +kernel
theorem dX9_tell_47 : decode cX9_tell 47 = .ok (.iconst 1, 1) := by decide +kernel
theorem dX9_tell_48 : decode cX9_tell 48 = .ok (.invokevirtual 293, 3) := by decide +kernel
theorem dX9_tell_51 : decode cX9_tell 51 = .ok (.aload_n 0, 1) := by decide +kernel
theorem dX9_tell_52 : decode cX9_tell 52 = .ok (.getfield 34, 3) := by decide +kernel
theorem dX9_tell_55 : decode cX9_tell 55 = .ok (.iload_n 1, 1) := by decide +kernel
theorem dX9_tell_56 : decode cX9_tell 56 = .ok (.iaload, 1) := by decide +kernel
theorem dX9_tell_57 : decode cX9_tell 57 = .ok (.istore_n 3, 1) := by decide +kernel
theorem dX9_tell_58 : decode cX9_tell 58 = .ok (.iload_n 2, 1) := by decide +kernel
theorem dX9_tell_59 : decode cX9_tell 59 = .ok (.ifCond .ne 7, 3) := by decide +kernel
theorem dX9_tell_62 : decode cX9_tell 62 = .ok (.iload_n 3, 1) := by decide +kernel
theorem dX9_tell_63 : decode cX9_tell 63 = .ok (.goto 21, 3) := by decide +kernel
theorem dX9_tell_66 : decode cX9_tell 66 = .ok (.iload_n 2, 1) := by decide +kernel
theorem dX9_tell_67 : decode cX9_tell 67 = .ok (.iconst 1, 1) := by decide +kernel
theorem dX9_tell_68 : decode cX9_tell 68 = .ok (.if_icmp .ne 10, 3) := by decide +kernel
theorem dX9_tell_71 : decode cX9_tell 71 = .ok (.iload_n 3, 1) := by decide +kernel
theorem dX9_tell_72 : decode cX9_tell 72 = .ok (.bipush 100, 2) := by decide +kernel
theorem dX9_tell_74 : decode cX9_tell 74 = .ok (.iadd, 1) := by decide +kernel
theorem dX9_tell_75 : decode cX9_tell 75 = .ok (.goto 9, 3) := by decide +kernel
theorem dX9_tell_78 : decode cX9_tell 78 = .ok (.iconst 2, 1) := by decide +kernel
theorem dX9_tell_79 : decode cX9_tell 79 = .ok (.iload_n 3, 1) := by decide +kernel
theorem dX9_tell_80 : decode cX9_tell 80 = .ok (.imul, 1) := by decide +kernel
theorem dX9_tell_81 : decode cX9_tell 81 = .ok (.bipush 100, 2) := by decide +kernel
theorem dX9_tell_83 : decode cX9_tell 83 = .ok (.iadd, 1) := by decide +kernel
theorem dX9_tell_84 : decode cX9_tell 84 = .ok (.ireturn, 1) := by decide +kernel
theorem dX9_greet_0 : decode cX9_greet 0 = .ok (.aload_n 0, 1) := by decide +kernel
theorem dX9_greet_1 : decode cX9_greet 1 = .ok (.iload_n 1, 1) := by decide +kernel
theorem dX9_greet_2 : decode cX9_greet 2 = .ok (.invokevirtual 188, 3) := by decide +kernel
theorem dX9_greet_5 : decode cX9_greet 5 = .ok (.ifCond .eq 5, 3) := by decide +kernel
theorem dX9_greet_8 : decode cX9_greet 8 = .ok (.iconst (-1), 1) := by decide +kernel
theorem dX9_greet_9 : decode cX9_greet 9 = .ok (.ireturn, 1) := by decide +kernel
theorem dX9_greet_10 : decode cX9_greet 10 = .ok (.aload_n 0, 1) := by decide +kernel
theorem dX9_greet_11 : decode cX9_greet 11 = .ok (.aload_n 0, 1) := by decide +kernel
theorem dX9_greet_12 : decode cX9_greet 12 = .ok (.getfield 28, 3) := by decide +kernel
theorem dX9_greet_15 : decode cX9_greet 15 = .ok (.iload_n 1, 1) := by decide +kernel
theorem dX9_greet_16 : decode cX9_greet 16 = .ok (.iaload, 1) := by decide +kernel
theorem dX9_greet_17 : decode cX9_greet 17 = .ok (.iconst 2, 1) := by decide +kernel
theorem dX9_greet_18 : decode cX9_greet 18 = .ok (.if_icmp .ne 7, 3) := by decide +kernel
theorem dX9_greet_21 : decode cX9_greet 21 = .ok (.iconst 5, 1) := by decide +kernel
theorem dX9_greet_22 : decode cX9_greet 22 = .ok (.goto 4, 3) := by decide +kernel
theorem dX9_greet_25 : decode cX9_greet 25 = .ok (.iconst 4, 1) := by decide +kernel
theorem dX9_greet_26 : decode cX9_greet 26 = .ok (.invokevirtual 293, 3) := by decide +kernel
theorem dX9_greet_29 : decode cX9_greet 29 = .ok (.aload_n 0, 1) := by decide +kernel
theorem dX9_greet_30 : decode cX9_greet 30 = .ok (.getfield 28, 3) := by decide +kernel
theorem dX9_greet_33 : decode cX9_greet 33 = .ok (.iload_n 1, 1) := by decide +kernel
theorem dX9_greet_34 : decode cX9_greet 34 = .ok (.iaload, 1) := by decide +kernel
theorem dX9_greet_35 : decode cX9_greet 35 = .ok (.iconst 2, 1) := by decide +kernel
theorem dX9_greet_36 : decode cX9_greet 36 = .ok (.if_icmp .ne 8, 3) := by decide +kernel
theorem dX9_greet_39 : decode cX9_greet 39 = .ok (.bipush 60, 2) := by decide +kernel
theorem dX9_greet_41 : decode cX9_greet 41 = .ok (.goto 4, 3) := by decide +kernel
theorem dX9_greet_44 : decode cX9_greet 44 = .ok (.iload_n 1, 1) := by decide +kernel
theorem dX9_greet_45 : decode cX9_greet 45 = .ok (.ireturn, 1) := by decide +kernel
theorem dX9_as_0 : decode cX9_as 0 = .ok (.aload_n 0, 1) := by decide +kernel
theorem dX9_as_1 : decode cX9_as 1 = .ok (.iload_n 1, 1) := by decide +kernel
theorem dX9_as_2 : decode cX9_as 2 = .ok (.invokevirtual 188, 3) := by decide +kernel
theorem dX9_as_5 : decode cX9_as 5 = .ok (.ifCond .eq 9, 3) := by decide +kernel
theorem dX9_as_8 : decode cX9_as 8 = .ok (.aload_n 0, 1) := by decide +kernel
theorem dX9_as_9 : decode cX9_as 9 = .ok (.iconst (-1), 1) := by decide +kernel
theorem dX9_as_10 : decode cX9_as 10 = .ok (.invokevirtual 103, 3) := by decide +kernel
theorem dX9_as_13 : decode cX9_as 13 = .ok (.ireturn, 1) := by decide +kernel
theorem dX9_as_14 : decode cX9_as 14 = .ok (.iload_n 2, 1) := by decide +kernel
theorem dX9_as_15 : decode cX9_as 15 = .ok (.i2l, 1) := by decide +kernel
theorem dX9_as_16 : decode cX9_as 16 = .ok (.lconst 0, 1) := by decide +kernel
theorem dX9_as_17 : decode cX9_as 17 = .ok (.ldc2_w 107, 3) := by decide +kernel
theorem dX9_as_20 : decode cX9_as 20 = .ok (.invokestatic 87, 3) := by decide +kernel
theorem dX9_as_23 : decode cX9_as 23 = .ok (.ifCond .ne 10, 3) := by decide +kernel
theorem dX9_as_26 : decode cX9_as 26 = .ok (.aload_n 0, 1) := by decide +kernel
theorem dX9_as_27 : decode cX9_as 27 = .ok (.bipush (-2), 2) := by decide +kernel
theorem dX9_as_29 : decode cX9_as 29 = .ok (.invokevirtual 103, 3) := by decide +kernel
theorem dX9_as_32 : decode cX9_as 32 = .ok (.ireturn, 1) := by decide +kernel
theorem dX9_as_33 : decode cX9_as 33 = .ok (.aload_n 0, 1) := by decide +kernel
theorem dX9_as_34 : decode cX9_as 34 = .ok (.getfield 28, 3) := by decide +kernel
theorem dX9_as_37 : decode cX9_as 37 = .ok (.iload_n 1, 1) := by decide +kernel
theorem dX9_as_38 : decode cX9_as 38 = .ok (.iaload, 1) := by decide +kernel
theorem dX9_as_39 : decode cX9_as 39 = .ok (.iload_n 2, 1) := by decide +kernel
theorem dX9_as_40 : decode cX9_as 40 = .ok (.if_icmp .lt 11, 3) := by decide +kernel
theorem dX9_as_43 : decode cX9_as 43 = .ok (.aload_n 0, 1) := by decide +kernel
theorem dX9_as_44 : decode cX9_as 44 = .ok (.iconst 1, 1) := by decide +kernel
theorem dX9_as_45 : decode cX9_as 45 = .ok (.invokevirtual 103, 3) := by decide +kernel
theorem dX9_as_48 : decode cX9_as 48 = .ok (.goto 8, 3) := by decide +kernel
theorem dX9_as_51 : decode cX9_as 51 = .ok (.aload_n 0, 1) := by decide +kernel
theorem dX9_as_52 : decode cX9_as 52 = .ok (.iconst 2, 1) := by decide +kernel
theorem dX9_as_53 : decode cX9_as 53 = .ok (.invokevirtual 109, 3) := by decide +kernel
theorem dX9_as_56 : decode cX9_as 56 = .ok (.ireturn, 1) := by decide +kernel
theorem dX9_trace_0 : decode cX9_trace 0 = .ok (.aload_n 0, 1) := by decide +kernel
theorem dX9_trace_1 : decode cX9_trace 1 = .ok (.getfield 290, 3) := by decide +kernel
theorem dX9_trace_4 : decode cX9_trace 4 = .ok (.ireturn, 1) := by decide +kernel
theorem dX9_fault_0 : decode cX9_fault 0 = .ok (.aload_n 0, 1) := by decide +kernel
theorem dX9_fault_1 : decode cX9_fault 1 = .ok (.getfield 91, 3) := by decide +kernel
theorem dX9_fault_4 : decode cX9_fault 4 = .ok (.ireturn, 1) := by decide +kernel
theorem dX9_many_0 : decode cX9_many 0 = .ok (.iload_n 1, 1) := by decide +kernel
theorem dX9_many_1 : decode cX9_many 1 = .ok (.tableswitch 68 0 4 #[35, 40, 45, 50, 55], 35) := by decide +kernel
theorem dX9_many_36 : decode cX9_many 36 = .ok (.aload_n 0, 1) := by decide +kernel
theorem dX9_many_37 : decode cX9_many 37 = .ok (.getfield 119, 3) := by decide +kernel
theorem dX9_many_40 : decode cX9_many 40 = .ok (.ireturn, 1) := by decide +kernel
theorem dX9_many_41 : decode cX9_many 41 = .ok (.aload_n 0, 1) := by decide +kernel
theorem dX9_many_42 : decode cX9_many 42 = .ok (.getfield 116, 3) := by decide +kernel
theorem dX9_many_45 : decode cX9_many 45 = .ok (.ireturn, 1) := by decide +kernel
theorem dX9_many_46 : decode cX9_many 46 = .ok (.aload_n 0, 1) := by decide +kernel
theorem dX9_many_47 : decode cX9_many 47 = .ok (.getfield 153, 3) := by decide +kernel
theorem dX9_many_50 : decode cX9_many 50 = .ok (.ireturn, 1) := by decide +kernel
theorem dX9_many_51 : decode cX9_many 51 = .ok (.aload_n 0, 1) := by decide +kernel
theorem dX9_many_52 : decode cX9_many 52 = .ok (.invokevirtual 233, 3) := by decide +kernel
theorem dX9_many_55 : decode cX9_many 55 = .ok (.ireturn, 1) := by decide +kernel
theorem dX9_many_56 : decode cX9_many 56 = .ok (.aload_n 0, 1) := by decide +kernel
theorem dX9_many_57 : decode cX9_many 57 = .ok (.getfield 159, 3) := by decide +kernel
theorem dX9_many_60 : decode cX9_many 60 = .ok (.ifCond .eq 7, 3) := by decide +kernel
theorem dX9_many_63 : decode cX9_many 63 = .ok (.iconst 1, 1) := by decide +kernel
theorem dX9_many_64 : decode cX9_many 64 = .ok (.goto 4, 3) := by decide +kernel
theorem dX9_many_67 : decode cX9_many 67 = .ok (.iconst 0, 1) := by decide +kernel
theorem dX9_many_68 : decode cX9_many 68 = .ok (.ireturn, 1) := by decide +kernel
theorem dX9_many_69 : decode cX9_many 69 = .ok (.bipush (-2), 2) := by decide +kernel
theorem dX9_many_71 : decode cX9_many 71 = .ok (.ireturn, 1) := by decide +kernel
