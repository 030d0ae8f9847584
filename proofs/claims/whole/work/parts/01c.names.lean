theorem dX9_init_0 : decode cX9_init 0 = .ok (.aload_n 0, 1) := by decide +kernel
theorem dX9_init_1 : decode cX9_init 1 = .ok (.invokespecial 1, 3) := by decide +kernel
theorem dX9_init_4 : decode cX9_init 4 = .ok (.aload_n 0, 1) := by decide +kernel
theorem dX9_init_5 : decode cX9_init 5 = .ok (.bipush 30, 2) := by decide +kernel
theorem dX9_init_7 : decode cX9_init 7 = .ok (.newarray .int, 2) := by decide +kernel
theorem dX9_init_9 : decode cX9_init 9 = .ok (.putfield 7, 3) := by decide +kernel
theorem dX9_init_12 : decode cX9_init 12 = .ok (.aload_n 0, 1) := by decide +kernel
theorem dX9_init_13 : decode cX9_init 13 = .ok (.bipush 30, 2) := by decide +kernel
theorem dX9_init_15 : decode cX9_init 15 = .ok (.newarray .int, 2) := by decide +kernel
theorem dX9_init_17 : decode cX9_init 17 = .ok (.putfield 13, 3) := by decide +kernel
theorem dX9_init_20 : decode cX9_init 20 = .ok (.aload_n 0, 1) := by decide +kernel
theorem dX9_init_21 : decode cX9_init 21 = .ok (.bipush 30, 2) := by decide +kernel
theorem dX9_init_23 : decode cX9_init 23 = .ok (.newarray .int, 2) := by decide +kernel
theorem dX9_init_25 : decode cX9_init 25 = .ok (.putfield 16, 3) := by decide +kernel
theorem dX9_init_28 : decode cX9_init 28 = .ok (.aload_n 0, 1) := by decide +kernel
theorem dX9_init_29 : decode cX9_init 29 = .ok (.bipush 9, 2) := by decide +kernel
theorem dX9_init_31 : decode cX9_init 31 = .ok (.newarray .int, 2) := by decide +kernel
theorem dX9_init_33 : decode cX9_init 33 = .ok (.putfield 19, 3) := by decide +kernel
theorem dX9_init_36 : decode cX9_init 36 = .ok (.aload_n 0, 1) := by decide +kernel
theorem dX9_init_37 : decode cX9_init 37 = .ok (.bipush 9, 2) := by decide +kernel
theorem dX9_init_39 : decode cX9_init 39 = .ok (.newarray .int, 2) := by decide +kernel
theorem dX9_init_41 : decode cX9_init 41 = .ok (.putfield 22, 3) := by decide +kernel
theorem dX9_init_44 : decode cX9_init 44 = .ok (.aload_n 0, 1) := by decide +kernel
theorem dX9_init_45 : decode cX9_init 45 = .ok (.bipush 9, 2) := by decide +kernel
theorem dX9_init_47 : decode cX9_init 47 = .ok (.newarray .int, 2) := by decide +kernel
theorem dX9_init_49 : decode cX9_init 49 = .ok (.putfield 25, 3) := by decide +kernel
theorem dX9_init_52 : decode cX9_init 52 = .ok (.aload_n 0, 1) := by decide +kernel
theorem dX9_init_53 : decode cX9_init 53 = .ok (.bipush 9, 2) := by decide +kernel
theorem dX9_init_55 : decode cX9_init 55 = .ok (.newarray .int, 2) := by decide +kernel
theorem dX9_init_57 : decode cX9_init 57 = .ok (.putfield 28, 3) := by decide +kernel
theorem dX9_init_60 : decode cX9_init 60 = .ok (.aload_n 0, 1) := by decide +kernel
theorem dX9_init_61 : decode cX9_init 61 = .ok (.bipush 8, 2) := by decide +kernel
theorem dX9_init_63 : decode cX9_init 63 = .ok (.newarray .int, 2) := by decide +kernel
theorem dX9_init_65 : decode cX9_init 65 = .ok (.putfield 31, 3) := by decide +kernel
theorem dX9_init_68 : decode cX9_init 68 = .ok (.aload_n 0, 1) := by decide +kernel
theorem dX9_init_69 : decode cX9_init 69 = .ok (.bipush 8, 2) := by decide +kernel
theorem dX9_init_71 : decode cX9_init 71 = .ok (.newarray .int, 2) := by decide +kernel
theorem dX9_init_73 : decode cX9_init 73 = .ok (.putfield 34, 3) := by decide +kernel
theorem dX9_init_76 : decode cX9_init 76 = .ok (.aload_n 0, 1) := by decide +kernel
theorem dX9_init_77 : decode cX9_init 77 = .ok (.bipush 8, 2) := by decide +kernel
theorem dX9_init_79 : decode cX9_init 79 = .ok (.newarray .boolean, 2) := by decide +kernel
theorem dX9_init_81 : decode cX9_init 81 = .ok (.putfield 37, 3) := by decide +kernel
theorem dX9_init_84 : decode cX9_init 84 = .ok (.aload_n 0, 1) := by decide +kernel
theorem dX9_init_85 : decode cX9_init 85 = .ok (.bipush 30, 2) := by decide +kernel
theorem dX9_init_87 : decode cX9_init 87 = .ok (.newarray .int, 2) := by decide +kernel
theorem dX9_init_89 : decode cX9_init 89 = .ok (.putfield 41, 3) := by decide +kernel
theorem dX9_init_92 : decode cX9_init 92 = .ok (.aload_n 0, 1) := by decide +kernel
theorem dX9_init_93 : decode cX9_init 93 = .ok (.bipush 30, 2) := by decide +kernel
theorem dX9_init_95 : decode cX9_init 95 = .ok (.newarray .int, 2) := by decide +kernel
theorem dX9_init_97 : decode cX9_init 97 = .ok (.putfield 44, 3) := by decide +kernel
theorem dX9_init_100 : decode cX9_init 100 = .ok (.aload_n 0, 1) := by decide +kernel
theorem dX9_init_101 : decode cX9_init 101 = .ok (.bipush 8, 2) := by decide +kernel
theorem dX9_init_103 : decode cX9_init 103 = .ok (.newarray .int, 2) := by decide +kernel
theorem dX9_init_105 : decode cX9_init 105 = .ok (.putfield 47, 3) := by decide +kernel
theorem dX9_init_108 : decode cX9_init 108 = .ok (.aload_n 0, 1) := by decide +kernel
theorem dX9_init_109 : decode cX9_init 109 = .ok (.bipush 8, 2) := by decide +kernel
theorem dX9_init_111 : decode cX9_init 111 = .ok (.newarray .int, 2) := by decide +kernel
theorem dX9_init_113 : decode cX9_init 113 = .ok (.putfield 50, 3) := by decide +kernel
theorem dX9_init_116 : decode cX9_init 116 = .ok (.aload_n 0, 1) := by decide +kernel
theorem dX9_init_117 : decode cX9_init 117 = .ok (.bipush 8, 2) := by decide +kernel
theorem dX9_init_119 : decode cX9_init 119 = .ok (.newarray .int, 2) := by decide +kernel
theorem dX9_init_121 : decode cX9_init 121 = .ok (.putfield 53, 3) := by decide +kernel
theorem dX9_init_124 : decode cX9_init 124 = .ok (.aload_n 0, 1) := by decide +kernel
theorem dX9_init_125 : decode cX9_init 125 = .ok (.bipush 8, 2) := by decide +kernel
theorem dX9_init_127 : decode cX9_init 127 = .ok (.newarray .int, 2) := by decide +kernel
theorem dX9_init_129 : decode cX9_init 129 = .ok (.putfield 56, 3) := by decide +kernel
theorem dX9_init_132 : decode cX9_init 132 = .ok (.aload_n 0, 1) := by decide +kernel
theorem dX9_init_133 : decode cX9_init 133 = .ok (.bipush 8, 2) := by decide +kernel
theorem dX9_init_135 : decode cX9_init 135 = .ok (.newarray .int, 2) := by decide +kernel
theorem dX9_init_137 : decode cX9_init 137 = .ok (.putfield 59, 3) := by decide +kernel
theorem dX9_init_140 : decode cX9_init 140 = .ok (.aload_n 0, 1) := by decide +kernel
theorem dX9_init_141 : decode cX9_init 141 = .ok (.bipush 8, 2) := by decide +kernel
theorem dX9_init_143 : decode cX9_init 143 = .ok (.newarray .int, 2) := by decide +kernel
theorem dX9_init_145 : decode cX9_init 145 = .ok (.putfield 62, 3) := by decide +kernel
theorem dX9_init_148 : decode cX9_init 148 = .ok (.aload_n 0, 1) := by decide +kernel
theorem dX9_init_149 : decode cX9_init 149 = .ok (.bipush 8, 2) := by decide +kernel
theorem dX9_init_151 : decode cX9_init 151 = .ok (.newarray .int, 2) := by decide +kernel
theorem dX9_init_153 : decode cX9_init 153 = .ok (.putfield 65, 3) := by decide +kernel
theorem dX9_init_156 : decode cX9_init 156 = .ok (.aload_n 0, 1) := by decide +kernel
theorem dX9_init_157 : decode cX9_init 157 = .ok (.bipush 8, 2) := by decide +kernel
theorem dX9_init_159 : decode cX9_init 159 = .ok (.newarray .int, 2) := by decide +kernel
theorem dX9_init_161 : decode cX9_init 161 = .ok (.putfield 68, 3) := by decide +kernel
theorem dX9_init_164 : decode cX9_init 164 = .ok (.aload_n 0, 1) := by decide +kernel
theorem dX9_init_165 : decode cX9_init 165 = .ok (.bipush 8, 2) := by decide +kernel
theorem dX9_init_167 : decode cX9_init 167 = .ok (.newarray .int, 2) := by decide +kernel
theorem dX9_init_169 : decode cX9_init 169 = .ok (.putfield 71, 3) := by decide +kernel
theorem dX9_init_172 : decode cX9_init 172 = .ok (.aload_n 0, 1) := by decide +kernel
theorem dX9_init_173 : decode cX9_init 173 = .ok (.iconst 4, 1) := by decide +kernel
theorem dX9_init_174 : decode cX9_init 174 = .ok (.newarray .int, 2) := by decide +kernel
theorem dX9_init_176 : decode cX9_init 176 = .ok (.putfield 74, 3) := by decide +kernel
theorem dX9_init_179 : decode cX9_init 179 = .ok (.aload_n 0, 1) := by decide +kernel
theorem dX9_init_180 : decode cX9_init 180 = .ok (.iconst 4, 1) := by decide +kernel
theorem dX9_init_181 : decode cX9_init 181 = .ok (.newarray .int, 2) := by decide +kernel
theorem dX9_init_183 : decode cX9_init 183 = .ok (.putfield 77, 3) := by decide +kernel
theorem dX9_init_186 : decode cX9_init 186 = .ok (.aload_n 0, 1) := by decide +kernel
theorem dX9_init_187 : decode cX9_init 187 = .ok (.sipush 400, 3) := by decide +kernel
theorem dX9_init_190 : decode cX9_init 190 = .ok (.newarray .int, 2) := by decide +kernel
theorem dX9_init_192 : decode cX9_init 192 = .ok (.putfield 80, 3) := by decide +kernel
theorem dX9_init_195 : decode cX9_init 195 = .ok (.aload_n 0, 1) := by decide +kernel
theorem dX9_init_196 : decode cX9_init 196 = .ok (.bipush 100, 2) := by decide +kernel
theorem dX9_init_198 : decode cX9_init 198 = .ok (.newarray .int, 2) := by decide +kernel
theorem dX9_init_200 : decode cX9_init 200 = .ok (.putfield 83, 3) := by decide +kernel
theorem dX9_init_203 : decode cX9_init 203 = .ok (.iconst 0, 1) := by decide +kernel
theorem dX9_init_204 : decode cX9_init 204 = .ok (.istore_n 1, 1) := by decide +kernel
theorem dX9_init_205 : decode cX9_init 205 = .ok (.iload_n 1, 1) := by decide +kernel
theorem dX9_init_206 : decode cX9_init 206 = .ok (.iconst 4, 1) := by decide +kernel
theorem dX9_init_207 : decode cX9_init 207 = .ok (.if_icmp .ge 16, 3) := by decide +kernel
theorem dX9_init_210 : decode cX9_init 210 = .ok (.aload_n 0, 1) := by decide +kernel
theorem dX9_init_211 : decode cX9_init 211 = .ok (.getfield 74, 3) := by decide +kernel
theorem dX9_init_214 : decode cX9_init 214 = .ok (.iload_n 1, 1) := by decide +kernel
theorem dX9_init_215 : decode cX9_init 215 = .ok (.iconst (-1), 1) := by decide +kernel
theorem dX9_init_216 : decode cX9_init 216 = .ok (.iastore, 1) := by decide +kernel
theorem dX9_init_217 : decode cX9_init 217 = .ok (.iinc 1 1, 3) := by decide +kernel
theorem dX9_init_220 : decode cX9_init 220 = .ok (.goto (-15), 3) := by decide +kernel
theorem dX9_init_223 : decode cX9_init 223 = .ok (.return_, 1) := by decide +kernel
theorem dX9_in_0 : decode cX9_in 0 = .ok (.lload_n 0, 1) := by decide +kernel
theorem dX9_in_1 : decode cX9_in 1 = .ok (.lload_n 2, 1) := by decide +kernel
theorem dX9_in_2 : decode cX9_in 2 = .ok (.lcmp, 1) := by decide +kernel
theorem dX9_in_3 : decode cX9_in 3 = .ok (.ifCond .lt 14, 3) := by decide +kernel
theorem dX9_in_6 : decode cX9_in 6 = .ok (.lload_n 0, 1) := by decide +kernel
theorem dX9_in_7 : decode cX9_in 7 = .ok (.lload 4, 2) := by decide +kernel
theorem dX9_in_9 : decode cX9_in 9 = .ok (.lcmp, 1) := by decide +kernel
theorem dX9_in_10 : decode cX9_in 10 = .ok (.ifCond .gt 7, 3) := by decide +kernel
theorem dX9_in_13 : decode cX9_in 13 = .ok (.iconst 1, 1) := by decide +kernel
theorem dX9_in_14 : decode cX9_in 14 = .ok (.goto 4, 3) := by decide +kernel
theorem dX9_in_17 : decode cX9_in 17 = .ok (.iconst 0, 1) := by decide +kernel
theorem dX9_in_18 : decode cX9_in 18 = .ok (.ireturn, 1) := by decide +kernel
theorem dX9_lost_0 : decode cX9_lost 0 = .ok (.ldc2_w 86, 3) := by decide +kernel
theorem dX9_lost_3 : decode cX9_lost 3 = .ok (.lreturn, 1) := by decide +kernel
theorem dX9_far_0 : decode cX9_far 0 = .ok (.iload_n 0, 1) := by decide +kernel
theorem dX9_far_1 : decode cX9_far 1 = .ok (.iload_n 1, 1) := by decide +kernel
theorem dX9_far_2 : decode cX9_far 2 = .ok (.if_icmp .ge 9, 3) := by decide +kernel
theorem dX9_far_5 : decode cX9_far 5 = .ok (.iload_n 1, 1) := by decide +kernel
theorem dX9_far_6 : decode cX9_far 6 = .ok (.iload_n 0, 1) := by decide +kernel
theorem dX9_far_7 : decode cX9_far 7 = .ok (.isub, 1) := by decide +kernel
theorem dX9_far_8 : decode cX9_far 8 = .ok (.goto 6, 3) := by decide +kernel
theorem dX9_far_11 : decode cX9_far 11 = .ok (.iload_n 0, 1) := by decide +kernel
theorem dX9_far_12 : decode cX9_far 12 = .ok (.iload_n 1, 1) := by decide +kernel
theorem dX9_far_13 : decode cX9_far 13 = .ok (.isub, 1) := by decide +kernel
theorem dX9_far_14 : decode cX9_far 14 = .ok (.ireturn, 1) := by decide +kernel
theorem dX9_common_0 : decode cX9_common 0 = .ok (.iload_n 0, 1) := by decide +kernel
theorem dX9_common_1 : decode cX9_common 1 = .ok (.istore_n 2, 1) := by decide +kernel
theorem dX9_common_2 : decode cX9_common 2 = .ok (.iload_n 1, 1) := by decide +kernel
theorem dX9_common_3 : decode cX9_common 3 = .ok (.istore_n 3, 1) := by decide +kernel
theorem dX9_common_4 : decode cX9_common 4 = .ok (.iload_n 3, 1) := by decide +kernel
theorem dX9_common_5 : decode cX9_common 5 = .ok (.ifCond .eq 16, 3) := by decide +kernel
theorem dX9_common_8 : decode cX9_common 8 = .ok (.iload_n 2, 1) := by decide +kernel
theorem dX9_common_9 : decode cX9_common 9 = .ok (.iload_n 3, 1) := by decide +kernel
theorem dX9_common_10 : decode cX9_common 10 = .ok (.irem, 1) := by decide +kernel
theorem dX9_common_11 : decode cX9_common 11 = .ok (.istore 4, 2) := by decide +kernel
theorem dX9_common_13 : decode cX9_common 13 = .ok (.iload_n 3, 1) := by decide +kernel
theorem dX9_common_14 : decode cX9_common 14 = .ok (.istore_n 2, 1) := by decide +kernel
theorem dX9_common_15 : decode cX9_common 15 = .ok (.iload 4, 2) := by decide +kernel
theorem dX9_common_17 : decode cX9_common 17 = .ok (.istore_n 3, 1) := by decide +kernel
theorem dX9_common_18 : decode cX9_common 18 = .ok (.goto (-14), 3) := by decide +kernel
theorem dX9_common_21 : decode cX9_common 21 = .ok (.iload_n 2, 1) := by decide +kernel
theorem dX9_common_22 : decode cX9_common 22 = .ok (.ireturn, 1) := by decide +kernel
theorem dX9_isIn_0 : decode cX9_isIn 0 = .ok (.iload_n 0, 1) := by decide +kernel
theorem dX9_isIn_1 : decode cX9_isIn 1 = .ok (.iload_n 1, 1) := by decide +kernel
theorem dX9_isIn_2 : decode cX9_isIn 2 = .ok (.ishr, 1) := by decide +kernel
theorem dX9_isIn_3 : decode cX9_isIn 3 = .ok (.iconst 1, 1) := by decide +kernel
theorem dX9_isIn_4 : decode cX9_isIn 4 = .ok (.iand, 1) := by decide +kernel
theorem dX9_isIn_5 : decode cX9_isIn 5 = .ok (.iconst 1, 1) := by decide +kernel
theorem dX9_isIn_6 : decode cX9_isIn 6 = .ok (.if_icmp .ne 7, 3) := by decide +kernel
theorem dX9_isIn_9 : decode cX9_isIn 9 = .ok (.iconst 1, 1) := by decide +kernel
theorem dX9_isIn_10 : decode cX9_isIn 10 = .ok (.goto 4, 3) := by decide +kernel
theorem dX9_isIn_13 : decode cX9_isIn 13 = .ok (.iconst 0, 1) := by decide +kernel
theorem dX9_isIn_14 : decode cX9_isIn 14 = .ok (.ireturn, 1) := by decide +kernel
theorem dX9_bits_0 : decode cX9_bits 0 = .ok (.iconst 0, 1) := by decide +kernel
theorem dX9_bits_1 : decode cX9_bits 1 = .ok (.istore_n 1, 1) := by decide +kernel
theorem dX9_bits_2 : decode cX9_bits 2 = .ok (.iload_n 0, 1) := by decide +kernel
theorem dX9_bits_3 : decode cX9_bits 3 = .ok (.istore_n 2, 1) := by decide +kernel
theorem dX9_bits_4 : decode cX9_bits 4 = .ok (.iload_n 2, 1) := by decide +kernel
theorem dX9_bits_5 : decode cX9_bits 5 = .ok (.ifCond .le 16, 3) := by decide +kernel
theorem dX9_bits_8 : decode cX9_bits 8 = .ok (.iload_n 1, 1) := by decide +kernel
theorem dX9_bits_9 : decode cX9_bits 9 = .ok (.iload_n 2, 1) := by decide +kernel
theorem dX9_bits_10 : decode cX9_bits 10 = .ok (.iconst 1, 1) := by decide +kernel
theorem dX9_bits_11 : decode cX9_bits 11 = .ok (.iand, 1) := by decide +kernel
theorem dX9_bits_12 : decode cX9_bits 12 = .ok (.iadd, 1) := by decide +kernel
theorem dX9_bits_13 : decode cX9_bits 13 = .ok (.istore_n 1, 1) := by decide +kernel
theorem dX9_bits_14 : decode cX9_bits 14 = .ok (.iload_n 2, 1) := by decide +kernel
theorem dX9_bits_15 : decode cX9_bits 15 = .ok (.iconst 1, 1) := by decide +kernel
theorem dX9_bits_16 : decode cX9_bits 16 = .ok (.ishr, 1) := by decide +kernel
theorem dX9_bits_17 : decode cX9_bits 17 = .ok (.istore_n 2, 1) := by decide +kernel
theorem dX9_bits_18 : decode cX9_bits 18 = .ok (.goto (-14), 3) := by decide +kernel
theorem dX9_bits_21 : decode cX9_bits 21 = .ok (.iload_n 1, 1) := by decide +kernel
theorem dX9_bits_22 : decode cX9_bits 22 = .ok (.ireturn, 1) := by decide +kernel
theorem dX9_refused_0 : decode cX9_refused 0 = .ok (.aload_n 0, 1) := by decide +kernel
theorem dX9_refused_1 : decode cX9_refused 1 = .ok (.iconst 0, 1) := by decide +kernel
theorem dX9_refused_2 : decode cX9_refused 2 = .ok (.putfield 88, 3) := by decide +kernel
theorem dX9_refused_5 : decode cX9_refused 5 = .ok (.iload_n 1, 1) := by decide +kernel
theorem dX9_refused_6 : decode cX9_refused 6 = .ok (.ireturn, 1) := by decide +kernel
theorem dX9_failed_0 : decode cX9_failed 0 = .ok (.aload_n 0, 1) := by decide +kernel
theorem dX9_failed_1 : decode cX9_failed 1 = .ok (.iload_n 1, 1) := by decide +kernel
theorem dX9_failed_2 : decode cX9_failed 2 = .ok (.putfield 88, 3) := by decide +kernel
theorem dX9_failed_5 : decode cX9_failed 5 = .ok (.bipush (-10), 2) := by decide +kernel
theorem dX9_failed_7 : decode cX9_failed 7 = .ok (.iload_n 1, 1) := by decide +kernel
theorem dX9_failed_8 : decode cX9_failed 8 = .ok (.isub, 1) := by decide +kernel
theorem dX9_failed_9 : decode cX9_failed 9 = .ok (.ireturn, 1) := by decide +kernel
set_option maxRecDepth 20000 in
theorem ggX9_failedLong_X9_lost : GoodIn wsX9_failedLong wsX9_lost := goodIn_r _ [5, 6] (by decide +kernel) (by decide +kernel)
set_option maxRecDepth 20000 in
theorem gX9_failedLong_X9_lost : GoodIn wsX9_failedLong (va_wsS RX9 92 yX9_lost wsX9_lost) := goodIn_app (goodIn_of _ (by decide +kernel)) ggX9_failedLong_X9_lost
theorem dX9_failedLong_0 : decode cX9_failedLong 0 = .ok (.aload_n 0, 1) := by decide +kernel
theorem dX9_failedLong_1 : decode cX9_failedLong 1 = .ok (.iload_n 1, 1) := by decide +kernel
theorem dX9_failedLong_2 : decode cX9_failedLong 2 = .ok (.putfield 88, 3) := by decide +kernel
theorem dX9_failedLong_5 : decode cX9_failedLong 5 = .ok (.invokestatic 92, 3) := by decide +kernel
theorem dX9_failedLong_8 : decode cX9_failedLong 8 = .ok (.lreturn, 1) := by decide +kernel
theorem dX9_cells_0 : decode cX9_cells 0 = .ok (.aload_n 0, 1) := by decide +kernel
theorem dX9_cells_1 : decode cX9_cells 1 = .ok (.getfield 96, 3) := by decide +kernel
theorem dX9_cells_4 : decode cX9_cells 4 = .ok (.aload_n 0, 1) := by decide +kernel
theorem dX9_cells_5 : decode cX9_cells 5 = .ok (.getfield 99, 3) := by decide +kernel
theorem dX9_cells_8 : decode cX9_cells 8 = .ok (.imul, 1) := by decide +kernel
theorem dX9_cells_9 : decode cX9_cells 9 = .ok (.ireturn, 1) := by decide +kernel
set_option maxRecDepth 20000 in
theorem ggX9_noCell_X9_cells : GoodIn wsX9_noCell wsX9_cells := goodIn_r _ [5, 6, 7, 11, 12, 13, 14, 15, 16, 17, 18, 19, 20, 21, 22, 23, 24, 25, 26, 27, 28, 29, 30, 31, 32, 33, 34, 35, 36, 37, 38, 39, 40, 41, 42, 43, 44, 45, 46, 47, 48, 49, 50, 51] (by decide +kernel) (by decide +kernel)
set_option maxRecDepth 20000 in
theorem gX9_noCell_X9_cells : GoodIn wsX9_noCell (wsV RX9 102 RX9 yX9_cells wsX9_cells) := goodIn_app (goodIn_of _ (by decide +kernel)) ggX9_noCell_X9_cells
set_option maxRecDepth 20000 in
theorem ggX9_noCell_X9_in : GoodIn wsX9_noCell wsX9_in := goodIn_r _ [10] (by decide +kernel) (by decide +kernel)
set_option maxRecDepth 20000 in
theorem gX9_noCell_X9_in : GoodIn wsX9_noCell (va_wsS RX9 106 yX9_in wsX9_in) := goodIn_app (goodIn_of _ (by decide +kernel)) ggX9_noCell_X9_in
theorem dX9_noCell_0 : decode cX9_noCell 0 = .ok (.iload_n 1, 1) := by decide +kernel
theorem dX9_noCell_1 : decode cX9_noCell 1 = .ok (.i2l, 1) := by decide +kernel
theorem dX9_noCell_2 : decode cX9_noCell 2 = .ok (.lconst 0, 1) := by decide +kernel
theorem dX9_noCell_3 : decode cX9_noCell 3 = .ok (.aload_n 0, 1) := by decide +kernel
theorem dX9_noCell_4 : decode cX9_noCell 4 = .ok (.invokevirtual 102, 3) := by decide +kernel
theorem dX9_noCell_7 : decode cX9_noCell 7 = .ok (.i2l, 1) := by decide +kernel
theorem dX9_noCell_8 : decode cX9_noCell 8 = .ok (.lconst 1, 1) := by decide +kernel
theorem dX9_noCell_9 : decode cX9_noCell 9 = .ok (.lsub, 1) := by decide +kernel
theorem dX9_noCell_10 : decode cX9_noCell 10 = .ok (.invokestatic 106, 3) := by decide +kernel
theorem dX9_noCell_13 : decode cX9_noCell 13 = .ok (.ifCond .ne 7, 3) := by decide +kernel
theorem dX9_noCell_16 : decode cX9_noCell 16 = .ok (.iconst 1, 1) := by decide +kernel
theorem dX9_noCell_17 : decode cX9_noCell 17 = .ok (.goto 4, 3) := by decide +kernel
theorem dX9_noCell_20 : decode cX9_noCell 20 = .ok (.iconst 0, 1) := by decide +kernel
theorem dX9_noCell_21 : decode cX9_noCell 21 = .ok (.ireturn, 1) := by decide +kernel
set_option maxRecDepth 20000 in
theorem ggX9_noHouse_X9_in : GoodIn wsX9_noHouse wsX9_in := goodIn_r _ [5] (by decide +kernel) (by decide +kernel)
set_option maxRecDepth 20000 in
theorem gX9_noHouse_X9_in : GoodIn wsX9_noHouse (va_wsS RX9 106 yX9_in wsX9_in) := goodIn_app (goodIn_of _ (by decide +kernel)) ggX9_noHouse_X9_in
theorem dX9_noHouse_0 : decode cX9_noHouse 0 = .ok (.iload_n 1, 1) := by decide +kernel
theorem dX9_noHouse_1 : decode cX9_noHouse 1 = .ok (.i2l, 1) := by decide +kernel
theorem dX9_noHouse_2 : decode cX9_noHouse 2 = .ok (.lconst 0, 1) := by decide +kernel
theorem dX9_noHouse_3 : decode cX9_noHouse 3 = .ok (.aload_n 0, 1) := by decide +kernel
theorem dX9_noHouse_4 : decode cX9_noHouse 4 = .ok (.getfield 110, 3) := by decide +kernel
theorem dX9_noHouse_7 : decode cX9_noHouse 7 = .ok (.i2l, 1) := by decide +kernel
theorem dX9_noHouse_8 : decode cX9_noHouse 8 = .ok (.lconst 1, 1) := by decide +kernel
theorem dX9_noHouse_9 : decode cX9_noHouse 9 = .ok (.lsub, 1) := by decide +kernel
theorem dX9_noHouse_10 : decode cX9_noHouse 10 = .ok (.invokestatic 106, 3) := by decide +kernel
theorem dX9_noHouse_13 : decode cX9_noHouse 13 = .ok (.ifCond .ne 7, 3) := by decide +kernel
theorem dX9_noHouse_16 : decode cX9_noHouse 16 = .ok (.iconst 1, 1) := by decide +kernel
theorem dX9_noHouse_17 : decode cX9_noHouse 17 = .ok (.goto 4, 3) := by decide +kernel
theorem dX9_noHouse_20 : decode cX9_noHouse 20 = .ok (.iconst 0, 1) := by decide +kernel
theorem dX9_noHouse_21 : decode cX9_noHouse 21 = .ok (.ireturn, 1) := by decide +kernel
set_option maxRecDepth 20000 in
theorem ggX9_noTree_X9_in : GoodIn wsX9_noTree wsX9_in := goodIn_r _ [5] (by decide +kernel) (by decide +kernel)
set_option maxRecDepth 20000 in
theorem gX9_noTree_X9_in : GoodIn wsX9_noTree (va_wsS RX9 106 yX9_in wsX9_in) := goodIn_app (goodIn_of _ (by decide +kernel)) ggX9_noTree_X9_in
theorem dX9_noTree_0 : decode cX9_noTree 0 = .ok (.iload_n 1, 1) := by decide +kernel
theorem dX9_noTree_1 : decode cX9_noTree 1 = .ok (.i2l, 1) := by decide +kernel
theorem dX9_noTree_2 : decode cX9_noTree 2 = .ok (.lconst 0, 1) := by decide +kernel
theorem dX9_noTree_3 : decode cX9_noTree 3 = .ok (.aload_n 0, 1) := by decide +kernel
theorem dX9_noTree_4 : decode cX9_noTree 4 = .ok (.getfield 113, 3) := by decide +kernel
theorem dX9_noTree_7 : decode cX9_noTree 7 = .ok (.i2l, 1) := by decide +kernel
theorem dX9_noTree_8 : decode cX9_noTree 8 = .ok (.lconst 1, 1) := by decide +kernel
theorem dX9_noTree_9 : decode cX9_noTree 9 = .ok (.lsub, 1) := by decide +kernel
theorem dX9_noTree_10 : decode cX9_noTree 10 = .ok (.invokestatic 106, 3) := by decide +kernel
theorem dX9_noTree_13 : decode cX9_noTree 13 = .ok (.ifCond .ne 7, 3) := by decide +kernel
theorem dX9_noTree_16 : decode cX9_noTree 16 = .ok (.iconst 1, 1) := by decide +kernel
theorem dX9_noTree_17 : decode cX9_noTree 17 = .ok (.goto 4, 3) := by decide +kernel
theorem dX9_noTree_20 : decode cX9_noTree 20 = .ok (.iconst 0, 1) := by decide +kernel
theorem dX9_noTree_21 : decode cX9_noTree 21 = .ok (.ireturn, 1) := by decide +kernel
theorem dX9_codeAt_0 : decode cX9_codeAt 0 = .ok (.aload_n 0, 1) := by decide +kernel
theorem dX9_codeAt_1 : decode cX9_codeAt 1 = .ok (.getfield 116, 3) := by decide +kernel
theorem dX9_codeAt_4 : decode cX9_codeAt 4 = .ok (.iload_n 2, 1) := by decide +kernel
theorem dX9_codeAt_5 : decode cX9_codeAt 5 = .ok (.if_icmp .ge 17, 3) := by decide +kernel
theorem dX9_codeAt_8 : decode cX9_codeAt 8 = .ok (.aload_n 0, 1) := by decide +kernel
theorem dX9_codeAt_9 : decode cX9_codeAt 9 = .ok (.getfield 80, 3) := by decide +kernel
theorem dX9_codeAt_12 : decode cX9_codeAt 12 = .ok (.iload_n 1, 1) := by decide +kernel
theorem dX9_codeAt_13 : decode cX9_codeAt 13 = .ok (.aload_n 0, 1) := by decide +kernel
theorem dX9_codeAt_14 : decode cX9_codeAt 14 = .ok (.getfield 116, 3) := by decide +kernel
theorem dX9_codeAt_17 : decode cX9_codeAt 17 = .ok (.iadd, 1) := by decide +kernel
theorem dX9_codeAt_18 : decode cX9_codeAt 18 = .ok (.iaload, 1) := by decide +kernel
theorem dX9_codeAt_19 : decode cX9_codeAt 19 = .ok (.goto 5, 3) := by decide +kernel
theorem dX9_codeAt_22 : decode cX9_codeAt 22 = .ok (.bipush (-9), 2) := by decide +kernel
theorem dX9_codeAt_24 : decode cX9_codeAt 24 = .ok (.ireturn, 1) := by decide +kernel
set_option maxRecDepth 20000 in
theorem ggX9_figure_X9_codeAt : GoodIn wsX9_figure wsX9_codeAt := goodIn_r _ [6, 1, 7, 11, 12, 13, 14, 15, 16, 17, 18, 19, 20, 21, 22, 23, 24, 25, 26, 27, 28, 29, 30, 31, 32, 33, 34, 35, 36, 37, 38, 39, 40, 41, 42, 43, 44, 45, 46, 47, 48, 49, 50, 51] (by decide +kernel) (by decide +kernel)
set_option maxRecDepth 20000 in
theorem gX9_figure_X9_codeAt : GoodIn wsX9_figure (wsV RX9 119 RX9 yX9_codeAt wsX9_codeAt) := goodIn_app (goodIn_of _ (by decide +kernel)) ggX9_figure_X9_codeAt
set_option maxRecDepth 20000 in
theorem ggX9_figure_X9_in : GoodIn wsX9_figure wsX9_in := goodIn_r _ [10] (by decide +kernel) (by decide +kernel)
set_option maxRecDepth 20000 in
theorem gX9_figure_X9_in : GoodIn wsX9_figure (va_wsS RX9 106 yX9_in wsX9_in) := goodIn_app (goodIn_of _ (by decide +kernel)) ggX9_figure_X9_in
theorem dX9_figure_0 : decode cX9_figure 0 = .ok (.aload_n 0, 1) := by decide +kernel
theorem dX9_figure_1 : decode cX9_figure 1 = .ok (.iload_n 1, 1) := by decide +kernel
theorem dX9_figure_2 : decode cX9_figure 2 = .ok (.iload_n 2, 1) := by decide +kernel
theorem dX9_figure_3 : decode cX9_figure 3 = .ok (.invokevirtual 119, 3) := by decide +kernel
theorem dX9_figure_6 : decode cX9_figure 6 = .ok (.bipush 48, 2) := by decide +kernel
theorem dX9_figure_8 : decode cX9_figure 8 = .ok (.isub, 1) := by decide +kernel
theorem dX9_figure_9 : decode cX9_figure 9 = .ok (.istore 5, 2) := by decide +kernel
theorem dX9_figure_11 : decode cX9_figure 11 = .ok (.iload 5, 2) := by decide +kernel
theorem dX9_figure_13 : decode cX9_figure 13 = .ok (.i2l, 1) := by decide +kernel
theorem dX9_figure_14 : decode cX9_figure 14 = .ok (.iload_n 3, 1) := by decide +kernel
theorem dX9_figure_15 : decode cX9_figure 15 = .ok (.i2l, 1) := by decide +kernel
theorem dX9_figure_16 : decode cX9_figure 16 = .ok (.iload 4, 2) := by decide +kernel
theorem dX9_figure_18 : decode cX9_figure 18 = .ok (.i2l, 1) := by decide +kernel
theorem dX9_figure_19 : decode cX9_figure 19 = .ok (.invokestatic 106, 3) := by decide +kernel
theorem dX9_figure_22 : decode cX9_figure 22 = .ok (.istore 6, 2) := by decide +kernel
theorem dX9_figure_24 : decode cX9_figure 24 = .ok (.aload_n 0, 1) := by decide +kernel
theorem dX9_figure_25 : decode cX9_figure 25 = .ok (.dup, 1) := by decide +kernel
theorem dX9_figure_26 : decode cX9_figure 26 = .ok (.getfield 116, 3) := by decide +kernel
theorem dX9_figure_29 : decode cX9_figure 29 = .ok (.iload 6, 2) := by decide +kernel
theorem dX9_figure_31 : decode cX9_figure 31 = .ok (.ifCond .eq 7, 3) := by decide +kernel
theorem dX9_figure_34 : decode cX9_figure 34 = .ok (.iconst 1, 1) := by decide +kernel
theorem dX9_figure_35 : decode cX9_figure 35 = .ok (.goto 4, 3) := by decide +kernel
theorem dX9_figure_38 : decode cX9_figure 38 = .ok (.iconst 0, 1) := by decide +kernel
theorem dX9_figure_39 : decode cX9_figure 39 = .ok (.iadd, 1) := by decide +kernel
theorem dX9_figure_40 : decode cX9_figure 40 = .ok (.putfield 116, 3) := by decide +kernel
theorem dX9_figure_43 : decode cX9_figure 43 = .ok (.iload 6, 2) := by decide +kernel
theorem dX9_figure_45 : decode cX9_figure 45 = .ok (.ifCond .eq 8, 3) := by decide +kernel
theorem dX9_figure_48 : decode cX9_figure 48 = .ok (.iload 5, 2) := by decide +kernel
theorem dX9_figure_50 : decode cX9_figure 50 = .ok (.goto 5, 3) := by decide +kernel
theorem dX9_figure_53 : decode cX9_figure 53 = .ok (.bipush (-9), 2) := by decide +kernel
theorem dX9_figure_55 : decode cX9_figure 55 = .ok (.ireturn, 1) := by decide +kernel
set_option maxRecDepth 20000 in
theorem ggX9_readsCell_X9_figure : GoodIn wsX9_readsCell wsX9_figure := goodIn_r _ [15, 3, 16, 17, 18, 14, 19, 20, 21, 22, 23, 24, 25, 26, 27, 28, 29, 30, 31, 32, 33, 34, 35, 36, 37, 38, 39, 40, 41, 42, 43, 44, 45, 46, 47, 48, 49, 50, 51, 52, 53, 54, 55, 56, 57, 58, 59, 60, 61, 62, 63, 64] (by decide +kernel) (by decide +kernel)
set_option maxRecDepth 20000 in
theorem gX9_readsCell_X9_figure : GoodIn wsX9_readsCell (wsV RX9 123 RX9 yX9_figure wsX9_figure) := goodIn_app (goodIn_of _ (by decide +kernel)) ggX9_readsCell_X9_figure
set_option maxRecDepth 20000 in
theorem ggX9_readsCell_X9_codeAt : GoodIn wsX9_readsCell wsX9_codeAt := goodIn_r _ [19, 3, 20, 24, 25, 26, 27, 28, 29, 30, 31, 32, 33, 34, 35, 36, 37, 38, 39, 40, 41, 42, 43, 44, 45, 46, 47, 48, 49, 50, 51, 52, 53, 54, 55, 56, 57, 58, 59, 60, 61, 62, 63, 64] (by decide +kernel) (by decide +kernel)
set_option maxRecDepth 20000 in
theorem gX9_readsCell_X9_codeAt : GoodIn wsX9_readsCell (wsV RX9 119 RX9 yX9_codeAt wsX9_codeAt) := goodIn_app (goodIn_of _ (by decide +kernel)) ggX9_readsCell_X9_codeAt
theorem dX9_readsCell_0 : decode cX9_readsCell 0 = .ok (.aload_n 0, 1) := by decide +kernel
theorem dX9_readsCell_1 : decode cX9_readsCell 1 = .ok (.getfield 41, 3) := by decide +kernel
theorem dX9_readsCell_4 : decode cX9_readsCell 4 = .ok (.iload_n 3, 1) := by decide +kernel
theorem dX9_readsCell_5 : decode cX9_readsCell 5 = .ok (.aload_n 0, 1) := by decide +kernel
theorem dX9_readsCell_6 : decode cX9_readsCell 6 = .ok (.iload_n 1, 1) := by decide +kernel
theorem dX9_readsCell_7 : decode cX9_readsCell 7 = .ok (.iload_n 2, 1) := by decide +kernel
theorem dX9_readsCell_8 : decode cX9_readsCell 8 = .ok (.iconst 0, 1) := by decide +kernel
theorem dX9_readsCell_9 : decode cX9_readsCell 9 = .ok (.bipush 9, 2) := by decide +kernel
theorem dX9_readsCell_11 : decode cX9_readsCell 11 = .ok (.invokevirtual 123, 3) := by decide +kernel
theorem dX9_readsCell_14 : decode cX9_readsCell 14 = .ok (.iastore, 1) := by decide +kernel
theorem dX9_readsCell_15 : decode cX9_readsCell 15 = .ok (.aload_n 0, 1) := by decide +kernel
theorem dX9_readsCell_16 : decode cX9_readsCell 16 = .ok (.getfield 41, 3) := by decide +kernel
theorem dX9_readsCell_19 : decode cX9_readsCell 19 = .ok (.iload_n 3, 1) := by decide +kernel
theorem dX9_readsCell_20 : decode cX9_readsCell 20 = .ok (.iaload, 1) := by decide +kernel
theorem dX9_readsCell_21 : decode cX9_readsCell 21 = .ok (.ifCond .ge 5, 3) := by decide +kernel
theorem dX9_readsCell_24 : decode cX9_readsCell 24 = .ok (.iconst 0, 1) := by decide +kernel
theorem dX9_readsCell_25 : decode cX9_readsCell 25 = .ok (.ireturn, 1) := by decide +kernel
theorem dX9_readsCell_26 : decode cX9_readsCell 26 = .ok (.aload_n 0, 1) := by decide +kernel
theorem dX9_readsCell_27 : decode cX9_readsCell 27 = .ok (.iload_n 1, 1) := by decide +kernel
theorem dX9_readsCell_28 : decode cX9_readsCell 28 = .ok (.iload_n 2, 1) := by decide +kernel
theorem dX9_readsCell_29 : decode cX9_readsCell 29 = .ok (.invokevirtual 119, 3) := by decide +kernel
theorem dX9_readsCell_32 : decode cX9_readsCell 32 = .ok (.istore 4, 2) := by decide +kernel
theorem dX9_readsCell_34 : decode cX9_readsCell 34 = .ok (.iload 4, 2) := by decide +kernel
theorem dX9_readsCell_36 : decode cX9_readsCell 36 = .ok (.bipush 46, 2) := by decide +kernel
theorem dX9_readsCell_38 : decode cX9_readsCell 38 = .ok (.if_icmp .ne 22, 3) := by decide +kernel
theorem dX9_readsCell_41 : decode cX9_readsCell 41 = .ok (.aload_n 0, 1) := by decide +kernel
theorem dX9_readsCell_42 : decode cX9_readsCell 42 = .ok (.getfield 44, 3) := by decide +kernel
theorem dX9_readsCell_45 : decode cX9_readsCell 45 = .ok (.iload_n 3, 1) := by decide +kernel
theorem dX9_readsCell_46 : decode cX9_readsCell 46 = .ok (.iconst 0, 1) := by decide +kernel
theorem dX9_readsCell_47 : decode cX9_readsCell 47 = .ok (.iastore, 1) := by decide +kernel
theorem dX9_readsCell_48 : decode cX9_readsCell 48 = .ok (.aload_n 0, 1) := by decide +kernel
theorem dX9_readsCell_49 : decode cX9_readsCell 49 = .ok (.dup, 1) := by decide +kernel
theorem dX9_readsCell_50 : decode cX9_readsCell 50 = .ok (.getfield 116, 3) := by decide +kernel
theorem dX9_readsCell_53 : decode cX9_readsCell 53 = .ok (.iconst 1, 1) := by decide +kernel
theorem dX9_readsCell_54 : decode cX9_readsCell 54 = .ok (.iadd, 1) := by decide +kernel
theorem dX9_readsCell_55 : decode cX9_readsCell 55 = .ok (.putfield 116, 3) := by decide +kernel
theorem dX9_readsCell_58 : decode cX9_readsCell 58 = .ok (.iconst 1, 1) := by decide +kernel
theorem dX9_readsCell_59 : decode cX9_readsCell 59 = .ok (.ireturn, 1) := by decide +kernel
theorem dX9_readsCell_60 : decode cX9_readsCell 60 = .ok (.iload 4, 2) := by decide +kernel
theorem dX9_readsCell_62 : decode cX9_readsCell 62 = .ok (.bipush 104, 2) := by decide +kernel
theorem dX9_readsCell_64 : decode cX9_readsCell 64 = .ok (.if_icmp .eq 17, 3) := by decide +kernel
theorem dX9_readsCell_67 : decode cX9_readsCell 67 = .ok (.iload 4, 2) := by decide +kernel
theorem dX9_readsCell_69 : decode cX9_readsCell 69 = .ok (.bipush 99, 2) := by decide +kernel
theorem dX9_readsCell_71 : decode cX9_readsCell 71 = .ok (.if_icmp .eq 10, 3) := by decide +kernel
theorem dX9_readsCell_74 : decode cX9_readsCell 74 = .ok (.iload 4, 2) := by decide +kernel
theorem dX9_readsCell_76 : decode cX9_readsCell 76 = .ok (.bipush 114, 2) := by decide +kernel
theorem dX9_readsCell_78 : decode cX9_readsCell 78 = .ok (.if_icmp .ne 7, 3) := by decide +kernel
theorem dX9_readsCell_81 : decode cX9_readsCell 81 = .ok (.iconst 1, 1) := by decide +kernel
theorem dX9_readsCell_82 : decode cX9_readsCell 82 = .ok (.goto 4, 3) := by decide +kernel
theorem dX9_readsCell_85 : decode cX9_readsCell 85 = .ok (.iconst 0, 1) := by decide +kernel
theorem dX9_readsCell_86 : decode cX9_readsCell 86 = .ok (.istore 5, 2) := by decide +kernel
theorem dX9_readsCell_88 : decode cX9_readsCell 88 = .ok (.iload 5, 2) := by decide +kernel
theorem dX9_readsCell_90 : decode cX9_readsCell 90 = .ok (.ifCond .ne 10, 3) := by decide +kernel
theorem dX9_readsCell_93 : decode cX9_readsCell 93 = .ok (.iload 4, 2) := by decide +kernel
theorem dX9_readsCell_95 : decode cX9_readsCell 95 = .ok (.bipush 116, 2) := by decide +kernel
theorem dX9_readsCell_97 : decode cX9_readsCell 97 = .ok (.if_icmp .ne 31, 3) := by decide +kernel
theorem dX9_readsCell_100 : decode cX9_readsCell 100 = .ok (.iload 5, 2) := by decide +kernel
theorem dX9_readsCell_102 : decode cX9_readsCell 102 = .ok (.ifCond .eq 12, 3) := by decide +kernel
theorem dX9_readsCell_105 : decode cX9_readsCell 105 = .ok (.aload_n 0, 1) := by decide +kernel
theorem dX9_readsCell_106 : decode cX9_readsCell 106 = .ok (.getfield 127, 3) := by decide +kernel
theorem dX9_readsCell_109 : decode cX9_readsCell 109 = .ok (.bipush 8, 2) := by decide +kernel
theorem dX9_readsCell_111 : decode cX9_readsCell 111 = .ok (.if_icmp .eq 17, 3) := by decide +kernel
theorem dX9_readsCell_114 : decode cX9_readsCell 114 = .ok (.iload 5, 2) := by decide +kernel
theorem dX9_readsCell_116 : decode cX9_readsCell 116 = .ok (.ifCond .ne 14, 3) := by decide +kernel
theorem dX9_readsCell_119 : decode cX9_readsCell 119 = .ok (.aload_n 0, 1) := by decide +kernel
theorem dX9_readsCell_120 : decode cX9_readsCell 120 = .ok (.getfield 130, 3) := by decide +kernel
theorem dX9_readsCell_123 : decode cX9_readsCell 123 = .ok (.bipush 8, 2) := by decide +kernel
theorem dX9_readsCell_125 : decode cX9_readsCell 125 = .ok (.if_icmp .ne 5, 3) := by decide +kernel
theorem dX9_readsCell_128 : decode cX9_readsCell 128 = .ok (.iconst 0, 1) := by decide +kernel
theorem dX9_readsCell_129 : decode cX9_readsCell 129 = .ok (.ireturn, 1) := by decide +kernel
theorem dX9_readsCell_130 : decode cX9_readsCell 130 = .ok (.aload_n 0, 1) := by decide +kernel
theorem dX9_readsCell_131 : decode cX9_readsCell 131 = .ok (.dup, 1) := by decide +kernel
theorem dX9_readsCell_132 : decode cX9_readsCell 132 = .ok (.getfield 116, 3) := by decide +kernel
theorem dX9_readsCell_135 : decode cX9_readsCell 135 = .ok (.iconst 1, 1) := by decide +kernel
theorem dX9_readsCell_136 : decode cX9_readsCell 136 = .ok (.iadd, 1) := by decide +kernel
theorem dX9_readsCell_137 : decode cX9_readsCell 137 = .ok (.putfield 116, 3) := by decide +kernel
theorem dX9_readsCell_140 : decode cX9_readsCell 140 = .ok (.aload_n 0, 1) := by decide +kernel
theorem dX9_readsCell_141 : decode cX9_readsCell 141 = .ok (.iload_n 1, 1) := by decide +kernel
theorem dX9_readsCell_142 : decode cX9_readsCell 142 = .ok (.iload_n 2, 1) := by decide +kernel
theorem dX9_readsCell_143 : decode cX9_readsCell 143 = .ok (.iconst 1, 1) := by decide +kernel
theorem dX9_readsCell_144 : decode cX9_readsCell 144 = .ok (.bipush 9, 2) := by decide +kernel
theorem dX9_readsCell_146 : decode cX9_readsCell 146 = .ok (.invokevirtual 123, 3) := by decide +kernel
theorem dX9_readsCell_149 : decode cX9_readsCell 149 = .ok (.istore 6, 2) := by decide +kernel
theorem dX9_readsCell_151 : decode cX9_readsCell 151 = .ok (.iload 6, 2) := by decide +kernel
theorem dX9_readsCell_153 : decode cX9_readsCell 153 = .ok (.ifCond .ge 5, 3) := by decide +kernel
theorem dX9_readsCell_156 : decode cX9_readsCell 156 = .ok (.iconst 0, 1) := by decide +kernel
theorem dX9_readsCell_157 : decode cX9_readsCell 157 = .ok (.ireturn, 1) := by decide +kernel
theorem dX9_readsCell_158 : decode cX9_readsCell 158 = .ok (.iload 5, 2) := by decide +kernel
theorem dX9_readsCell_160 : decode cX9_readsCell 160 = .ok (.ifCond .eq 82, 3) := by decide +kernel
theorem dX9_readsCell_163 : decode cX9_readsCell 163 = .ok (.aload_n 0, 1) := by decide +kernel
theorem dX9_readsCell_164 : decode cX9_readsCell 164 = .ok (.getfield 44, 3) := by decide +kernel
theorem dX9_readsCell_167 : decode cX9_readsCell 167 = .ok (.iload_n 3, 1) := by decide +kernel
theorem dX9_readsCell_168 : decode cX9_readsCell 168 = .ok (.bipush 10, 2) := by decide +kernel
theorem dX9_readsCell_170 : decode cX9_readsCell 170 = .ok (.aload_n 0, 1) := by decide +kernel
theorem dX9_readsCell_171 : decode cX9_readsCell 171 = .ok (.getfield 127, 3) := by decide +kernel
theorem dX9_readsCell_174 : decode cX9_readsCell 174 = .ok (.iadd, 1) := by decide +kernel
theorem dX9_readsCell_175 : decode cX9_readsCell 175 = .ok (.iastore, 1) := by decide +kernel
theorem dX9_readsCell_176 : decode cX9_readsCell 176 = .ok (.aload_n 0, 1) := by decide +kernel
theorem dX9_readsCell_177 : decode cX9_readsCell 177 = .ok (.getfield 47, 3) := by decide +kernel
theorem dX9_readsCell_180 : decode cX9_readsCell 180 = .ok (.aload_n 0, 1) := by decide +kernel
theorem dX9_readsCell_181 : decode cX9_readsCell 181 = .ok (.getfield 127, 3) := by decide +kernel
theorem dX9_readsCell_184 : decode cX9_readsCell 184 = .ok (.iload 4, 2) := by decide +kernel
theorem dX9_readsCell_186 : decode cX9_readsCell 186 = .ok (.bipush 104, 2) := by decide +kernel
theorem dX9_readsCell_188 : decode cX9_readsCell 188 = .ok (.if_icmp .ne 7, 3) := by decide +kernel
theorem dX9_readsCell_191 : decode cX9_readsCell 191 = .ok (.iconst 0, 1) := by decide +kernel
theorem dX9_readsCell_192 : decode cX9_readsCell 192 = .ok (.goto 15, 3) := by decide +kernel
theorem dX9_readsCell_195 : decode cX9_readsCell 195 = .ok (.iload 4, 2) := by decide +kernel
theorem dX9_readsCell_197 : decode cX9_readsCell 197 = .ok (.bipush 99, 2) := by decide +kernel
theorem dX9_readsCell_199 : decode cX9_readsCell 199 = .ok (.if_icmp .ne 7, 3) := by decide +kernel
theorem dX9_readsCell_202 : decode cX9_readsCell 202 = .ok (.iconst 1, 1) := by decide +kernel
theorem dX9_readsCell_203 : decode cX9_readsCell 203 = .ok (.goto 4, 3) := by decide +kernel
theorem dX9_readsCell_206 : decode cX9_readsCell 206 = .ok (.iconst 2, 1) := by decide +kernel
theorem dX9_readsCell_207 : decode cX9_readsCell 207 = .ok (.iastore, 1) := by decide +kernel
theorem dX9_readsCell_208 : decode cX9_readsCell 208 = .ok (.aload_n 0, 1) := by decide +kernel
theorem dX9_readsCell_209 : decode cX9_readsCell 209 = .ok (.getfield 50, 3) := by decide +kernel
theorem dX9_readsCell_212 : decode cX9_readsCell 212 = .ok (.aload_n 0, 1) := by decide +kernel
theorem dX9_readsCell_213 : decode cX9_readsCell 213 = .ok (.getfield 127, 3) := by decide +kernel
theorem dX9_readsCell_216 : decode cX9_readsCell 216 = .ok (.iload_n 3, 1) := by decide +kernel
theorem dX9_readsCell_217 : decode cX9_readsCell 217 = .ok (.iastore, 1) := by decide +kernel
theorem dX9_readsCell_218 : decode cX9_readsCell 218 = .ok (.aload_n 0, 1) := by decide +kernel
theorem dX9_readsCell_219 : decode cX9_readsCell 219 = .ok (.getfield 53, 3) := by decide +kernel
theorem dX9_readsCell_222 : decode cX9_readsCell 222 = .ok (.aload_n 0, 1) := by decide +kernel
theorem dX9_readsCell_223 : decode cX9_readsCell 223 = .ok (.getfield 127, 3) := by decide +kernel
theorem dX9_readsCell_226 : decode cX9_readsCell 226 = .ok (.iload 6, 2) := by decide +kernel
theorem dX9_readsCell_228 : decode cX9_readsCell 228 = .ok (.iastore, 1) := by decide +kernel
theorem dX9_readsCell_229 : decode cX9_readsCell 229 = .ok (.aload_n 0, 1) := by decide +kernel
theorem dX9_readsCell_230 : decode cX9_readsCell 230 = .ok (.dup, 1) := by decide +kernel
theorem dX9_readsCell_231 : decode cX9_readsCell 231 = .ok (.getfield 127, 3) := by decide +kernel
theorem dX9_readsCell_234 : decode cX9_readsCell 234 = .ok (.iconst 1, 1) := by decide +kernel
theorem dX9_readsCell_235 : decode cX9_readsCell 235 = .ok (.iadd, 1) := by decide +kernel
theorem dX9_readsCell_236 : decode cX9_readsCell 236 = .ok (.putfield 127, 3) := by decide +kernel
theorem dX9_readsCell_239 : decode cX9_readsCell 239 = .ok (.goto 47, 3) := by decide +kernel
theorem dX9_readsCell_242 : decode cX9_readsCell 242 = .ok (.aload_n 0, 1) := by decide +kernel
theorem dX9_readsCell_243 : decode cX9_readsCell 243 = .ok (.getfield 44, 3) := by decide +kernel
theorem dX9_readsCell_246 : decode cX9_readsCell 246 = .ok (.iload_n 3, 1) := by decide +kernel
theorem dX9_readsCell_247 : decode cX9_readsCell 247 = .ok (.bipush 20, 2) := by decide +kernel
theorem dX9_readsCell_249 : decode cX9_readsCell 249 = .ok (.aload_n 0, 1) := by decide +kernel
theorem dX9_readsCell_250 : decode cX9_readsCell 250 = .ok (.getfield 130, 3) := by decide +kernel
theorem dX9_readsCell_253 : decode cX9_readsCell 253 = .ok (.iadd, 1) := by decide +kernel
theorem dX9_readsCell_254 : decode cX9_readsCell 254 = .ok (.iastore, 1) := by decide +kernel
theorem dX9_readsCell_255 : decode cX9_readsCell 255 = .ok (.aload_n 0, 1) := by decide +kernel
theorem dX9_readsCell_256 : decode cX9_readsCell 256 = .ok (.getfield 56, 3) := by decide +kernel
theorem dX9_readsCell_259 : decode cX9_readsCell 259 = .ok (.aload_n 0, 1) := by decide +kernel
theorem dX9_readsCell_260 : decode cX9_readsCell 260 = .ok (.getfield 130, 3) := by decide +kernel
theorem dX9_readsCell_263 : decode cX9_readsCell 263 = .ok (.iload_n 3, 1) := by decide +kernel
theorem dX9_readsCell_264 : decode cX9_readsCell 264 = .ok (.iastore, 1) := by decide +kernel
theorem dX9_readsCell_265 : decode cX9_readsCell 265 = .ok (.aload_n 0, 1) := by decide +kernel
theorem dX9_readsCell_266 : decode cX9_readsCell 266 = .ok (.getfield 59, 3) := by decide +kernel
theorem dX9_readsCell_269 : decode cX9_readsCell 269 = .ok (.aload_n 0, 1) := by decide +kernel
theorem dX9_readsCell_270 : decode cX9_readsCell 270 = .ok (.getfield 130, 3) := by decide +kernel
theorem dX9_readsCell_273 : decode cX9_readsCell 273 = .ok (.iload 6, 2) := by decide +kernel
theorem dX9_readsCell_275 : decode cX9_readsCell 275 = .ok (.iastore, 1) := by decide +kernel
theorem dX9_readsCell_276 : decode cX9_readsCell 276 = .ok (.aload_n 0, 1) := by decide +kernel
theorem dX9_readsCell_277 : decode cX9_readsCell 277 = .ok (.dup, 1) := by decide +kernel
theorem dX9_readsCell_278 : decode cX9_readsCell 278 = .ok (.getfield 130, 3) := by decide +kernel
theorem dX9_readsCell_281 : decode cX9_readsCell 281 = .ok (.iconst 1, 1) := by decide +kernel
theorem dX9_readsCell_282 : decode cX9_readsCell 282 = .ok (.iadd, 1) := by decide +kernel
theorem dX9_readsCell_283 : decode cX9_readsCell 283 = .ok (.putfield 130, 3) := by decide +kernel
theorem dX9_readsCell_286 : decode cX9_readsCell 286 = .ok (.iconst 1, 1) := by decide +kernel
theorem dX9_readsCell_287 : decode cX9_readsCell 287 = .ok (.ireturn, 1) := by decide +kernel
set_option maxRecDepth 20000 in
theorem ggX9_readsLand_X9_codeAt : GoodIn wsX9_readsLand wsX9_codeAt := goodIn_r _ [10, 1, 11, 30, 31, 32, 33, 34, 35, 36, 37, 38, 39, 40, 41, 42, 43, 44, 45, 46, 47, 48, 49, 50, 51, 52, 53, 54, 55, 56, 57, 58, 59, 60, 61, 62, 63, 64, 65, 66, 67, 68, 69, 70] (by decide +kernel) (by decide +kernel)
set_option maxRecDepth 20000 in
theorem gX9_readsLand_X9_codeAt : GoodIn wsX9_readsLand (wsV RX9 119 RX9 yX9_codeAt wsX9_codeAt) := goodIn_app (goodIn_of _ (by decide +kernel)) ggX9_readsLand_X9_codeAt
set_option maxRecDepth 20000 in
theorem ggX9_readsLand_X9_figure : GoodIn wsX9_readsLand wsX9_figure := goodIn_r _ [15, 1, 6, 7, 8, 9, 10, 11, 16, 17, 18, 30, 31, 32, 33, 34, 35, 36, 37, 38, 39, 40, 41, 42, 43, 44, 45, 46, 47, 48, 49, 50, 51, 52, 53, 54, 55, 56, 57, 58, 59, 60, 61, 62, 63, 64, 65, 66, 67, 68, 69, 70] (by decide +kernel) (by decide +kernel)
set_option maxRecDepth 20000 in
theorem gX9_readsLand_X9_figure : GoodIn wsX9_readsLand (wsV RX9 123 RX9 yX9_figure wsX9_figure) := goodIn_app (goodIn_of _ (by decide +kernel)) ggX9_readsLand_X9_figure
set_option maxRecDepth 20000 in
theorem ggX9_readsLand_X9_readsCell : GoodIn wsX9_readsLand wsX9_readsCell := goodIn_r _ [22, 23, 24, 1, 2, 3, 25, 26, 27, 28, 29, 12, 13, 14, 9, 15, 6, 7, 8, 10, 11, 16, 17, 18, 30, 31, 32, 33, 34, 35, 36, 37, 38, 39, 40, 41, 42, 43, 44, 45, 46, 47, 48, 49, 50, 51, 52, 53, 54, 55, 56, 57, 58, 59, 60, 61, 62, 63, 64, 65, 66, 67, 68, 69, 70] (by decide +kernel) (by decide +kernel)
set_option maxRecDepth 20000 in
theorem gX9_readsLand_X9_readsCell : GoodIn wsX9_readsLand (wsV RX9 139 RX9 yX9_readsCell wsX9_readsCell) := goodIn_app (goodIn_of _ (by decide +kernel)) ggX9_readsLand_X9_readsCell
theorem dX9_readsLand_0 : decode cX9_readsLand 0 = .ok (.aload_n 0, 1) := by decide +kernel
theorem dX9_readsLand_1 : decode cX9_readsLand 1 = .ok (.iconst 0, 1) := by decide +kernel
theorem dX9_readsLand_2 : decode cX9_readsLand 2 = .ok (.putfield 116, 3) := by decide +kernel
theorem dX9_readsLand_5 : decode cX9_readsLand 5 = .ok (.aload_n 0, 1) := by decide +kernel
theorem dX9_readsLand_6 : decode cX9_readsLand 6 = .ok (.iconst 0, 1) := by decide +kernel
theorem dX9_readsLand_7 : decode cX9_readsLand 7 = .ok (.putfield 127, 3) := by decide +kernel
theorem dX9_readsLand_10 : decode cX9_readsLand 10 = .ok (.aload_n 0, 1) := by decide +kernel
theorem dX9_readsLand_11 : decode cX9_readsLand 11 = .ok (.iconst 0, 1) := by decide +kernel
theorem dX9_readsLand_12 : decode cX9_readsLand 12 = .ok (.putfield 130, 3) := by decide +kernel
theorem dX9_readsLand_15 : decode cX9_readsLand 15 = .ok (.aload_n 0, 1) := by decide +kernel
theorem dX9_readsLand_16 : decode cX9_readsLand 16 = .ok (.iload_n 1, 1) := by decide +kernel
theorem dX9_readsLand_17 : decode cX9_readsLand 17 = .ok (.iload_n 2, 1) := by decide +kernel
theorem dX9_readsLand_18 : decode cX9_readsLand 18 = .ok (.invokevirtual 119, 3) := by decide +kernel
theorem dX9_readsLand_21 : decode cX9_readsLand 21 = .ok (.bipush 110, 2) := by decide +kernel
theorem dX9_readsLand_23 : decode cX9_readsLand 23 = .ok (.if_icmp .ne 7, 3) := by decide +kernel
theorem dX9_readsLand_26 : decode cX9_readsLand 26 = .ok (.iconst 1, 1) := by decide +kernel
theorem dX9_readsLand_27 : decode cX9_readsLand 27 = .ok (.goto 4, 3) := by decide +kernel
theorem dX9_readsLand_30 : decode cX9_readsLand 30 = .ok (.iconst 0, 1) := by decide +kernel
theorem dX9_readsLand_31 : decode cX9_readsLand 31 = .ok (.istore_n 3, 1) := by decide +kernel
theorem dX9_readsLand_32 : decode cX9_readsLand 32 = .ok (.aload_n 0, 1) := by decide +kernel
theorem dX9_readsLand_33 : decode cX9_readsLand 33 = .ok (.dup, 1) := by decide +kernel
theorem dX9_readsLand_34 : decode cX9_readsLand 34 = .ok (.getfield 116, 3) := by decide +kernel
theorem dX9_readsLand_37 : decode cX9_readsLand 37 = .ok (.iload_n 3, 1) := by decide +kernel
theorem dX9_readsLand_38 : decode cX9_readsLand 38 = .ok (.ifCond .eq 7, 3) := by decide +kernel
theorem dX9_readsLand_41 : decode cX9_readsLand 41 = .ok (.iconst 1, 1) := by decide +kernel
theorem dX9_readsLand_42 : decode cX9_readsLand 42 = .ok (.goto 4, 3) := by decide +kernel
theorem dX9_readsLand_45 : decode cX9_readsLand 45 = .ok (.iconst 0, 1) := by decide +kernel
theorem dX9_readsLand_46 : decode cX9_readsLand 46 = .ok (.iadd, 1) := by decide +kernel
theorem dX9_readsLand_47 : decode cX9_readsLand 47 = .ok (.putfield 116, 3) := by decide +kernel
theorem dX9_readsLand_50 : decode cX9_readsLand 50 = .ok (.aload_n 0, 1) := by decide +kernel
theorem dX9_readsLand_51 : decode cX9_readsLand 51 = .ok (.iload_n 3, 1) := by decide +kernel
theorem dX9_readsLand_52 : decode cX9_readsLand 52 = .ok (.ifCond .eq 14, 3) := by decide +kernel
theorem dX9_readsLand_55 : decode cX9_readsLand 55 = .ok (.aload_n 0, 1) := by decide +kernel
theorem dX9_readsLand_56 : decode cX9_readsLand 56 = .ok (.iload_n 1, 1) := by decide +kernel
theorem dX9_readsLand_57 : decode cX9_readsLand 57 = .ok (.iload_n 2, 1) := by decide +kernel
theorem dX9_readsLand_58 : decode cX9_readsLand 58 = .ok (.iconst 1, 1) := by decide +kernel
theorem dX9_readsLand_59 : decode cX9_readsLand 59 = .ok (.iconst 5, 1) := by decide +kernel
theorem dX9_readsLand_60 : decode cX9_readsLand 60 = .ok (.invokevirtual 123, 3) := by decide +kernel
theorem dX9_readsLand_63 : decode cX9_readsLand 63 = .ok (.goto 5, 3) := by decide +kernel
theorem dX9_readsLand_66 : decode cX9_readsLand 66 = .ok (.bipush (-9), 2) := by decide +kernel
theorem dX9_readsLand_68 : decode cX9_readsLand 68 = .ok (.putfield 133, 3) := by decide +kernel
theorem dX9_readsLand_71 : decode cX9_readsLand 71 = .ok (.aload_n 0, 1) := by decide +kernel
theorem dX9_readsLand_72 : decode cX9_readsLand 72 = .ok (.aload_n 0, 1) := by decide +kernel
theorem dX9_readsLand_73 : decode cX9_readsLand 73 = .ok (.getfield 133, 3) := by decide +kernel
theorem dX9_readsLand_76 : decode cX9_readsLand 76 = .ok (.ifCond .le 15, 3) := by decide +kernel
theorem dX9_readsLand_79 : decode cX9_readsLand 79 = .ok (.aload_n 0, 1) := by decide +kernel
theorem dX9_readsLand_80 : decode cX9_readsLand 80 = .ok (.iload_n 1, 1) := by decide +kernel
theorem dX9_readsLand_81 : decode cX9_readsLand 81 = .ok (.iload_n 2, 1) := by decide +kernel
theorem dX9_readsLand_82 : decode cX9_readsLand 82 = .ok (.iconst 2, 1) := by decide +kernel
theorem dX9_readsLand_83 : decode cX9_readsLand 83 = .ok (.bipush 6, 2) := by decide +kernel
theorem dX9_readsLand_85 : decode cX9_readsLand 85 = .ok (.invokevirtual 123, 3) := by decide +kernel
theorem dX9_readsLand_88 : decode cX9_readsLand 88 = .ok (.goto 5, 3) := by decide +kernel
theorem dX9_readsLand_91 : decode cX9_readsLand 91 = .ok (.bipush (-9), 2) := by decide +kernel
theorem dX9_readsLand_93 : decode cX9_readsLand 93 = .ok (.putfield 136, 3) := by decide +kernel
theorem dX9_readsLand_96 : decode cX9_readsLand 96 = .ok (.aload_n 0, 1) := by decide +kernel
theorem dX9_readsLand_97 : decode cX9_readsLand 97 = .ok (.getfield 136, 3) := by decide +kernel
theorem dX9_readsLand_100 : decode cX9_readsLand 100 = .ok (.ifCond .le 7, 3) := by decide +kernel
theorem dX9_readsLand_103 : decode cX9_readsLand 103 = .ok (.iconst 1, 1) := by decide +kernel
theorem dX9_readsLand_104 : decode cX9_readsLand 104 = .ok (.goto 4, 3) := by decide +kernel
theorem dX9_readsLand_107 : decode cX9_readsLand 107 = .ok (.iconst 0, 1) := by decide +kernel
theorem dX9_readsLand_108 : decode cX9_readsLand 108 = .ok (.istore_n 3, 1) := by decide +kernel
theorem dX9_readsLand_109 : decode cX9_readsLand 109 = .ok (.iconst 0, 1) := by decide +kernel
theorem dX9_readsLand_110 : decode cX9_readsLand 110 = .ok (.istore 4, 2) := by decide +kernel
theorem dX9_readsLand_112 : decode cX9_readsLand 112 = .ok (.iload_n 3, 1) := by decide +kernel
theorem dX9_readsLand_113 : decode cX9_readsLand 113 = .ok (.ifCond .eq 89, 3) := by decide +kernel
theorem dX9_readsLand_116 : decode cX9_readsLand 116 = .ok (.iload 4, 2) := by decide +kernel
theorem dX9_readsLand_118 : decode cX9_readsLand 118 = .ok (.aload_n 0, 1) := by decide +kernel
theorem dX9_readsLand_119 : decode cX9_readsLand 119 = .ok (.getfield 133, 3) := by decide +kernel
theorem dX9_readsLand_122 : decode cX9_readsLand 122 = .ok (.aload_n 0, 1) := by decide +kernel
theorem dX9_readsLand_123 : decode cX9_readsLand 123 = .ok (.getfield 136, 3) := by decide +kernel
theorem dX9_readsLand_126 : decode cX9_readsLand 126 = .ok (.imul, 1) := by decide +kernel
theorem dX9_readsLand_127 : decode cX9_readsLand 127 = .ok (.if_icmp .ge 75, 3) := by decide +kernel
theorem dX9_readsLand_130 : decode cX9_readsLand 130 = .ok (.iload 4, 2) := by decide +kernel
theorem dX9_readsLand_132 : decode cX9_readsLand 132 = .ok (.aload_n 0, 1) := by decide +kernel
theorem dX9_readsLand_133 : decode cX9_readsLand 133 = .ok (.getfield 136, 3) := by decide +kernel
theorem dX9_readsLand_136 : decode cX9_readsLand 136 = .ok (.irem, 1) := by decide +kernel
theorem dX9_readsLand_137 : decode cX9_readsLand 137 = .ok (.ifCond .ne 38, 3) := by decide +kernel
theorem dX9_readsLand_140 : decode cX9_readsLand 140 = .ok (.aload_n 0, 1) := by decide +kernel
theorem dX9_readsLand_141 : decode cX9_readsLand 141 = .ok (.iload_n 1, 1) := by decide +kernel
theorem dX9_readsLand_142 : decode cX9_readsLand 142 = .ok (.iload_n 2, 1) := by decide +kernel
theorem dX9_readsLand_143 : decode cX9_readsLand 143 = .ok (.invokevirtual 119, 3) := by decide +kernel
theorem dX9_readsLand_146 : decode cX9_readsLand 146 = .ok (.bipush 59, 2) := by decide +kernel
theorem dX9_readsLand_148 : decode cX9_readsLand 148 = .ok (.if_icmp .ne 7, 3) := by decide +kernel
theorem dX9_readsLand_151 : decode cX9_readsLand 151 = .ok (.iconst 1, 1) := by decide +kernel
theorem dX9_readsLand_152 : decode cX9_readsLand 152 = .ok (.goto 4, 3) := by decide +kernel
theorem dX9_readsLand_155 : decode cX9_readsLand 155 = .ok (.iconst 0, 1) := by decide +kernel
theorem dX9_readsLand_156 : decode cX9_readsLand 156 = .ok (.istore_n 3, 1) := by decide +kernel
theorem dX9_readsLand_157 : decode cX9_readsLand 157 = .ok (.aload_n 0, 1) := by decide +kernel
theorem dX9_readsLand_158 : decode cX9_readsLand 158 = .ok (.dup, 1) := by decide +kernel
theorem dX9_readsLand_159 : decode cX9_readsLand 159 = .ok (.getfield 116, 3) := by decide +kernel
theorem dX9_readsLand_162 : decode cX9_readsLand 162 = .ok (.iload_n 3, 1) := by decide +kernel
theorem dX9_readsLand_163 : decode cX9_readsLand 163 = .ok (.ifCond .eq 7, 3) := by decide +kernel
theorem dX9_readsLand_166 : decode cX9_readsLand 166 = .ok (.iconst 1, 1) := by decide +kernel
theorem dX9_readsLand_167 : decode cX9_readsLand 167 = .ok (.goto 4, 3) := by decide +kernel
theorem dX9_readsLand_170 : decode cX9_readsLand 170 = .ok (.iconst 0, 1) := by decide +kernel
theorem dX9_readsLand_171 : decode cX9_readsLand 171 = .ok (.iadd, 1) := by decide +kernel
theorem dX9_readsLand_172 : decode cX9_readsLand 172 = .ok (.putfield 116, 3) := by decide +kernel
theorem dX9_readsLand_175 : decode cX9_readsLand 175 = .ok (.iload_n 3, 1) := by decide +kernel
theorem dX9_readsLand_176 : decode cX9_readsLand 176 = .ok (.ifCond .eq 18, 3) := by decide +kernel
theorem dX9_readsLand_179 : decode cX9_readsLand 179 = .ok (.aload_n 0, 1) := by decide +kernel
theorem dX9_readsLand_180 : decode cX9_readsLand 180 = .ok (.iload_n 1, 1) := by decide +kernel
theorem dX9_readsLand_181 : decode cX9_readsLand 181 = .ok (.iload_n 2, 1) := by decide +kernel
theorem dX9_readsLand_182 : decode cX9_readsLand 182 = .ok (.iload 4, 2) := by decide +kernel
theorem dX9_readsLand_184 : decode cX9_readsLand 184 = .ok (.invokevirtual 139, 3) := by decide +kernel
theorem dX9_readsLand_187 : decode cX9_readsLand 187 = .ok (.ifCond .eq 7, 3) := by decide +kernel
theorem dX9_readsLand_190 : decode cX9_readsLand 190 = .ok (.iconst 1, 1) := by decide +kernel
theorem dX9_readsLand_191 : decode cX9_readsLand 191 = .ok (.goto 4, 3) := by decide +kernel
theorem dX9_readsLand_194 : decode cX9_readsLand 194 = .ok (.iconst 0, 1) := by decide +kernel
theorem dX9_readsLand_195 : decode cX9_readsLand 195 = .ok (.istore_n 3, 1) := by decide +kernel
theorem dX9_readsLand_196 : decode cX9_readsLand 196 = .ok (.iinc 4 1, 3) := by decide +kernel
theorem dX9_readsLand_199 : decode cX9_readsLand 199 = .ok (.goto (-87), 3) := by decide +kernel
theorem dX9_readsLand_202 : decode cX9_readsLand 202 = .ok (.iload_n 3, 1) := by decide +kernel
theorem dX9_readsLand_203 : decode cX9_readsLand 203 = .ok (.ifCond .eq 15, 3) := by decide +kernel
theorem dX9_readsLand_206 : decode cX9_readsLand 206 = .ok (.aload_n 0, 1) := by decide +kernel
theorem dX9_readsLand_207 : decode cX9_readsLand 207 = .ok (.getfield 116, 3) := by decide +kernel
theorem dX9_readsLand_210 : decode cX9_readsLand 210 = .ok (.iload_n 2, 1) := by decide +kernel
theorem dX9_readsLand_211 : decode cX9_readsLand 211 = .ok (.if_icmp .ne 7, 3) := by decide +kernel
theorem dX9_readsLand_214 : decode cX9_readsLand 214 = .ok (.iconst 1, 1) := by decide +kernel
theorem dX9_readsLand_215 : decode cX9_readsLand 215 = .ok (.goto 4, 3) := by decide +kernel
theorem dX9_readsLand_218 : decode cX9_readsLand 218 = .ok (.iconst 0, 1) := by decide +kernel
theorem dX9_readsLand_219 : decode cX9_readsLand 219 = .ok (.ireturn, 1) := by decide +kernel
set_option maxRecDepth 20000 in
theorem ggX9_land_X9_noSheet : GoodIn wsX9_land wsX9_noSheet := goodIn_r _ [37, 38, 39, 40, 36, 41] (by decide +kernel) (by decide +kernel)
set_option maxRecDepth 20000 in
theorem gX9_land_X9_noSheet : GoodIn wsX9_land (va_wsS RX9 143 yX9_noSheet wsX9_noSheet) := goodIn_app (goodIn_of _ (by decide +kernel)) ggX9_land_X9_noSheet
set_option maxRecDepth 20000 in
theorem ggX9_land_X9_refused : GoodIn wsX9_land wsX9_refused := goodIn_r _ [45, 46, 75, 76, 77, 78, 79, 80, 81, 82, 83, 84, 85, 86, 87, 88, 89, 90, 91, 92, 93, 94, 95, 96, 97, 98, 99, 100, 101, 102, 103, 104, 105, 106, 107, 108, 109, 110, 111, 112, 113, 114, 115] (by decide +kernel) (by decide +kernel)
set_option maxRecDepth 20000 in
theorem gX9_land_X9_refused : GoodIn wsX9_land (wsV RX9 147 RX9 yX9_refused wsX9_refused) := goodIn_app (goodIn_of _ (by decide +kernel)) ggX9_land_X9_refused
set_option maxRecDepth 20000 in
theorem ggX9_land_X9_in : GoodIn wsX9_land wsX9_in := goodIn_r _ [41] (by decide +kernel) (by decide +kernel)
set_option maxRecDepth 20000 in
theorem gX9_land_X9_in : GoodIn wsX9_land (va_wsS RX9 106 yX9_in wsX9_in) := goodIn_app (goodIn_of _ (by decide +kernel)) ggX9_land_X9_in
set_option maxRecDepth 20000 in
theorem ggX9_land_X9_failed : GoodIn wsX9_land wsX9_failed := goodIn_r _ [50, 46, 75, 76, 77, 78, 79, 80, 81, 82, 83, 84, 85, 86, 87, 88, 89, 90, 91, 92, 93, 94, 95, 96, 97, 98, 99, 100, 101, 102, 103, 104, 105, 106, 107, 108, 109, 110, 111, 112, 113, 114, 115] (by decide +kernel) (by decide +kernel)
set_option maxRecDepth 20000 in
theorem gX9_land_X9_failed : GoodIn wsX9_land (wsV RX9 153 RX9 yX9_failed wsX9_failed) := goodIn_app (goodIn_of _ (by decide +kernel)) ggX9_land_X9_failed
set_option maxRecDepth 20000 in
theorem ggX9_land_X9_isBeyond : GoodIn wsX9_land wsX9_isBeyond := goodIn_r _ [53] (by decide +kernel) (by decide +kernel)
set_option maxRecDepth 20000 in
theorem gX9_land_X9_isBeyond : GoodIn wsX9_land (va_wsS RX9 156 yX9_isBeyond wsX9_isBeyond) := goodIn_app (goodIn_of _ (by decide +kernel)) ggX9_land_X9_isBeyond
set_option maxRecDepth 20000 in
theorem ggX9_land_X9_readsLand : GoodIn wsX9_land wsX9_readsLand := goodIn_r _ [57, 4, 9, 11, 5, 7, 58, 59, 60, 36, 61, 62, 63, 64, 65, 66, 39, 40, 41, 67, 68, 69, 70, 14, 16, 19, 21, 23, 26, 28, 75, 76, 77, 78, 79, 80, 81, 82, 83, 84, 85, 86, 87, 88, 89, 90, 91, 92, 93, 94, 95, 96, 97, 98, 99, 100, 101, 102, 103, 104, 105, 106, 107, 108, 109, 110, 111, 112, 113, 114, 115] (by decide +kernel) (by decide +kernel)
set_option maxRecDepth 20000 in
theorem gX9_land_X9_readsLand : GoodIn wsX9_land (wsV RX9 160 RX9 yX9_readsLand wsX9_readsLand) := goodIn_app (goodIn_of _ (by decide +kernel)) ggX9_land_X9_readsLand
set_option maxRecDepth 20000 in
theorem ggX9_land_X9_cells : GoodIn wsX9_land wsX9_cells := goodIn_r _ [74, 6, 8, 75, 76, 77, 78, 79, 80, 81, 82, 83, 84, 85, 86, 87, 88, 89, 90, 91, 92, 93, 94, 95, 96, 97, 98, 99, 100, 101, 102, 103, 104, 105, 106, 107, 108, 109, 110, 111, 112, 113, 114, 115] (by decide +kernel) (by decide +kernel)
set_option maxRecDepth 20000 in
theorem gX9_land_X9_cells : GoodIn wsX9_land (wsV RX9 102 RX9 yX9_cells wsX9_cells) := goodIn_app (goodIn_of _ (by decide +kernel)) ggX9_land_X9_cells
theorem dX9_land_0 : decode cX9_land 0 = .ok (.iload_n 1, 1) := by decide +kernel
theorem dX9_land_1 : decode cX9_land 1 = .ok (.invokestatic 143, 3) := by decide +kernel
theorem dX9_land_4 : decode cX9_land 4 = .ok (.ifCond .eq 9, 3) := by decide +kernel
theorem dX9_land_7 : decode cX9_land 7 = .ok (.aload_n 0, 1) := by decide +kernel
theorem dX9_land_8 : decode cX9_land 8 = .ok (.iconst (-1), 1) := by decide +kernel
theorem dX9_land_9 : decode cX9_land 9 = .ok (.invokevirtual 147, 3) := by decide +kernel
theorem dX9_land_12 : decode cX9_land 12 = .ok (.ireturn, 1) := by decide +kernel
theorem dX9_land_13 : decode cX9_land 13 = .ok (.iload_n 2, 1) := by decide +kernel
theorem dX9_land_14 : decode cX9_land 14 = .ok (.i2l, 1) := by decide +kernel
theorem dX9_land_15 : decode cX9_land 15 = .ok (.lconst 0, 1) := by decide +kernel
theorem dX9_land_16 : decode cX9_land 16 = .ok (.ldc2_w 151, 3) := by decide +kernel
theorem dX9_land_19 : decode cX9_land 19 = .ok (.invokestatic 106, 3) := by decide +kernel
theorem dX9_land_22 : decode cX9_land 22 = .ok (.ifCond .ne 10, 3) := by decide +kernel
theorem dX9_land_25 : decode cX9_land 25 = .ok (.aload_n 0, 1) := by decide +kernel
theorem dX9_land_26 : decode cX9_land 26 = .ok (.bipush (-2), 2) := by decide +kernel
theorem dX9_land_28 : decode cX9_land 28 = .ok (.invokevirtual 147, 3) := by decide +kernel
theorem dX9_land_31 : decode cX9_land 31 = .ok (.ireturn, 1) := by decide +kernel
theorem dX9_land_32 : decode cX9_land 32 = .ok (.aload_n 0, 1) := by decide +kernel
theorem dX9_land_33 : decode cX9_land 33 = .ok (.getfield 74, 3) := by decide +kernel
theorem dX9_land_36 : decode cX9_land 36 = .ok (.iload_n 1, 1) := by decide +kernel
theorem dX9_land_37 : decode cX9_land 37 = .ok (.iaload, 1) := by decide +kernel
theorem dX9_land_38 : decode cX9_land 38 = .ok (.ifCond .lt 19, 3) := by decide +kernel
theorem dX9_land_41 : decode cX9_land 41 = .ok (.aload_n 0, 1) := by decide +kernel
theorem dX9_land_42 : decode cX9_land 42 = .ok (.getfield 77, 3) := by decide +kernel
theorem dX9_land_45 : decode cX9_land 45 = .ok (.iload_n 1, 1) := by decide +kernel
theorem dX9_land_46 : decode cX9_land 46 = .ok (.iaload, 1) := by decide +kernel
theorem dX9_land_47 : decode cX9_land 47 = .ok (.iload_n 2, 1) := by decide +kernel
theorem dX9_land_48 : decode cX9_land 48 = .ok (.if_icmp .eq 9, 3) := by decide +kernel
theorem dX9_land_51 : decode cX9_land 51 = .ok (.aload_n 0, 1) := by decide +kernel
theorem dX9_land_52 : decode cX9_land 52 = .ok (.iconst 2, 1) := by decide +kernel
theorem dX9_land_53 : decode cX9_land 53 = .ok (.invokevirtual 153, 3) := by decide +kernel
theorem dX9_land_56 : decode cX9_land 56 = .ok (.ireturn, 1) := by decide +kernel
theorem dX9_land_57 : decode cX9_land 57 = .ok (.aload_n 0, 1) := by decide +kernel
theorem dX9_land_58 : decode cX9_land 58 = .ok (.getfield 74, 3) := by decide +kernel
theorem dX9_land_61 : decode cX9_land 61 = .ok (.iload_n 1, 1) := by decide +kernel
theorem dX9_land_62 : decode cX9_land 62 = .ok (.iaload, 1) := by decide +kernel
theorem dX9_land_63 : decode cX9_land 63 = .ok (.ifCond .ge 9, 3) := by decide +kernel
theorem dX9_land_66 : decode cX9_land 66 = .ok (.aload_n 0, 1) := by decide +kernel
theorem dX9_land_67 : decode cX9_land 67 = .ok (.iconst 1, 1) := by decide +kernel
theorem dX9_land_68 : decode cX9_land 68 = .ok (.invokevirtual 153, 3) := by decide +kernel
theorem dX9_land_71 : decode cX9_land 71 = .ok (.ireturn, 1) := by decide +kernel
theorem dX9_land_72 : decode cX9_land 72 = .ok (.iload 4, 2) := by decide +kernel
theorem dX9_land_74 : decode cX9_land 74 = .ok (.ifCond .ge 9, 3) := by decide +kernel
theorem dX9_land_77 : decode cX9_land 77 = .ok (.aload_n 0, 1) := by decide +kernel
theorem dX9_land_78 : decode cX9_land 78 = .ok (.iconst 4, 1) := by decide +kernel
theorem dX9_land_79 : decode cX9_land 79 = .ok (.invokevirtual 153, 3) := by decide +kernel
theorem dX9_land_82 : decode cX9_land 82 = .ok (.ireturn, 1) := by decide +kernel
theorem dX9_land_83 : decode cX9_land 83 = .ok (.iload_n 3, 1) := by decide +kernel
theorem dX9_land_84 : decode cX9_land 84 = .ok (.iload 4, 2) := by decide +kernel
theorem dX9_land_86 : decode cX9_land 86 = .ok (.i2l, 1) := by decide +kernel
theorem dX9_land_87 : decode cX9_land 87 = .ok (.aload_n 0, 1) := by decide +kernel
theorem dX9_land_88 : decode cX9_land 88 = .ok (.getfield 74, 3) := by decide +kernel
theorem dX9_land_91 : decode cX9_land 91 = .ok (.iload_n 1, 1) := by decide +kernel
theorem dX9_land_92 : decode cX9_land 92 = .ok (.iaload, 1) := by decide +kernel
theorem dX9_land_93 : decode cX9_land 93 = .ok (.invokestatic 156, 3) := by decide +kernel
theorem dX9_land_96 : decode cX9_land 96 = .ok (.ifCond .eq 9, 3) := by decide +kernel
theorem dX9_land_99 : decode cX9_land 99 = .ok (.aload_n 0, 1) := by decide +kernel
theorem dX9_land_100 : decode cX9_land 100 = .ok (.iconst 3, 1) := by decide +kernel
theorem dX9_land_101 : decode cX9_land 101 = .ok (.invokevirtual 153, 3) := by decide +kernel
theorem dX9_land_104 : decode cX9_land 104 = .ok (.ireturn, 1) := by decide +kernel
theorem dX9_land_105 : decode cX9_land 105 = .ok (.aload_n 0, 1) := by decide +kernel
theorem dX9_land_106 : decode cX9_land 106 = .ok (.bipush 100, 2) := by decide +kernel
theorem dX9_land_108 : decode cX9_land 108 = .ok (.iload_n 1, 1) := by decide +kernel
theorem dX9_land_109 : decode cX9_land 109 = .ok (.imul, 1) := by decide +kernel
theorem dX9_land_110 : decode cX9_land 110 = .ok (.iload_n 3, 1) := by decide +kernel
theorem dX9_land_111 : decode cX9_land 111 = .ok (.iadd, 1) := by decide +kernel
theorem dX9_land_112 : decode cX9_land 112 = .ok (.iload 4, 2) := by decide +kernel
theorem dX9_land_114 : decode cX9_land 114 = .ok (.invokevirtual 160, 3) := by decide +kernel
theorem dX9_land_117 : decode cX9_land 117 = .ok (.ifCond .ne 15, 3) := by decide +kernel
theorem dX9_land_120 : decode cX9_land 120 = .ok (.aload_n 0, 1) := by decide +kernel
theorem dX9_land_121 : decode cX9_land 121 = .ok (.bipush (-100), 2) := by decide +kernel
theorem dX9_land_123 : decode cX9_land 123 = .ok (.aload_n 0, 1) := by decide +kernel
theorem dX9_land_124 : decode cX9_land 124 = .ok (.getfield 116, 3) := by decide +kernel
theorem dX9_land_127 : decode cX9_land 127 = .ok (.isub, 1) := by decide +kernel
theorem dX9_land_128 : decode cX9_land 128 = .ok (.invokevirtual 147, 3) := by decide +kernel
theorem dX9_land_131 : decode cX9_land 131 = .ok (.ireturn, 1) := by decide +kernel
theorem dX9_land_132 : decode cX9_land 132 = .ok (.aload_n 0, 1) := by decide +kernel
theorem dX9_land_133 : decode cX9_land 133 = .ok (.aload_n 0, 1) := by decide +kernel
theorem dX9_land_134 : decode cX9_land 134 = .ok (.getfield 133, 3) := by decide +kernel
theorem dX9_land_137 : decode cX9_land 137 = .ok (.putfield 96, 3) := by decide +kernel
theorem dX9_land_140 : decode cX9_land 140 = .ok (.aload_n 0, 1) := by decide +kernel
theorem dX9_land_141 : decode cX9_land 141 = .ok (.aload_n 0, 1) := by decide +kernel
theorem dX9_land_142 : decode cX9_land 142 = .ok (.getfield 136, 3) := by decide +kernel
theorem dX9_land_145 : decode cX9_land 145 = .ok (.putfield 99, 3) := by decide +kernel
theorem dX9_land_148 : decode cX9_land 148 = .ok (.aload_n 0, 1) := by decide +kernel
theorem dX9_land_149 : decode cX9_land 149 = .ok (.aload_n 0, 1) := by decide +kernel
theorem dX9_land_150 : decode cX9_land 150 = .ok (.getfield 127, 3) := by decide +kernel
theorem dX9_land_153 : decode cX9_land 153 = .ok (.putfield 110, 3) := by decide +kernel
theorem dX9_land_156 : decode cX9_land 156 = .ok (.aload_n 0, 1) := by decide +kernel
theorem dX9_land_157 : decode cX9_land 157 = .ok (.aload_n 0, 1) := by decide +kernel
theorem dX9_land_158 : decode cX9_land 158 = .ok (.getfield 130, 3) := by decide +kernel
theorem dX9_land_161 : decode cX9_land 161 = .ok (.putfield 113, 3) := by decide +kernel
theorem dX9_land_164 : decode cX9_land 164 = .ok (.iconst 0, 1) := by decide +kernel
theorem dX9_land_165 : decode cX9_land 165 = .ok (.istore 5, 2) := by decide +kernel
theorem dX9_land_167 : decode cX9_land 167 = .ok (.iload 5, 2) := by decide +kernel
theorem dX9_land_169 : decode cX9_land 169 = .ok (.aload_n 0, 1) := by decide +kernel
theorem dX9_land_170 : decode cX9_land 170 = .ok (.invokevirtual 102, 3) := by decide +kernel
theorem dX9_land_173 : decode cX9_land 173 = .ok (.if_icmp .ge 45, 3) := by decide +kernel
theorem dX9_land_176 : decode cX9_land 176 = .ok (.aload_n 0, 1) := by decide +kernel
theorem dX9_land_177 : decode cX9_land 177 = .ok (.getfield 7, 3) := by decide +kernel
theorem dX9_land_180 : decode cX9_land 180 = .ok (.iload 5, 2) := by decide +kernel
theorem dX9_land_182 : decode cX9_land 182 = .ok (.aload_n 0, 1) := by decide +kernel
theorem dX9_land_183 : decode cX9_land 183 = .ok (.getfield 41, 3) := by decide +kernel
theorem dX9_land_186 : decode cX9_land 186 = .ok (.iload 5, 2) := by decide +kernel
theorem dX9_land_188 : decode cX9_land 188 = .ok (.iaload, 1) := by decide +kernel
theorem dX9_land_189 : decode cX9_land 189 = .ok (.iastore, 1) := by decide +kernel
theorem dX9_land_190 : decode cX9_land 190 = .ok (.aload_n 0, 1) := by decide +kernel
theorem dX9_land_191 : decode cX9_land 191 = .ok (.getfield 13, 3) := by decide +kernel
theorem dX9_land_194 : decode cX9_land 194 = .ok (.iload 5, 2) := by decide +kernel
theorem dX9_land_196 : decode cX9_land 196 = .ok (.aload_n 0, 1) := by decide +kernel
theorem dX9_land_197 : decode cX9_land 197 = .ok (.getfield 44, 3) := by decide +kernel
theorem dX9_land_200 : decode cX9_land 200 = .ok (.iload 5, 2) := by decide +kernel
theorem dX9_land_202 : decode cX9_land 202 = .ok (.iaload, 1) := by decide +kernel
theorem dX9_land_203 : decode cX9_land 203 = .ok (.iastore, 1) := by decide +kernel
theorem dX9_land_204 : decode cX9_land 204 = .ok (.aload_n 0, 1) := by decide +kernel
theorem dX9_land_205 : decode cX9_land 205 = .ok (.getfield 16, 3) := by decide +kernel
theorem dX9_land_208 : decode cX9_land 208 = .ok (.iload 5, 2) := by decide +kernel
theorem dX9_land_210 : decode cX9_land 210 = .ok (.iconst 0, 1) := by decide +kernel
theorem dX9_land_211 : decode cX9_land 211 = .ok (.iastore, 1) := by decide +kernel
theorem dX9_land_212 : decode cX9_land 212 = .ok (.iinc 5 1, 3) := by decide +kernel
theorem dX9_land_215 : decode cX9_land 215 = .ok (.goto (-48), 3) := by decide +kernel
theorem dX9_land_218 : decode cX9_land 218 = .ok (.iconst 0, 1) := by decide +kernel
theorem dX9_land_219 : decode cX9_land 219 = .ok (.istore 5, 2) := by decide +kernel
theorem dX9_land_221 : decode cX9_land 221 = .ok (.iload 5, 2) := by decide +kernel
theorem dX9_land_223 : decode cX9_land 223 = .ok (.aload_n 0, 1) := by decide +kernel
theorem dX9_land_224 : decode cX9_land 224 = .ok (.getfield 110, 3) := by decide +kernel
theorem dX9_land_227 : decode cX9_land 227 = .ok (.if_icmp .ge 59, 3) := by decide +kernel
theorem dX9_land_230 : decode cX9_land 230 = .ok (.aload_n 0, 1) := by decide +kernel
theorem dX9_land_231 : decode cX9_land 231 = .ok (.getfield 19, 3) := by decide +kernel
theorem dX9_land_234 : decode cX9_land 234 = .ok (.iload 5, 2) := by decide +kernel
theorem dX9_land_236 : decode cX9_land 236 = .ok (.aload_n 0, 1) := by decide +kernel
theorem dX9_land_237 : decode cX9_land 237 = .ok (.getfield 47, 3) := by decide +kernel
theorem dX9_land_240 : decode cX9_land 240 = .ok (.iload 5, 2) := by decide +kernel
theorem dX9_land_242 : decode cX9_land 242 = .ok (.iaload, 1) := by decide +kernel
theorem dX9_land_243 : decode cX9_land 243 = .ok (.iastore, 1) := by decide +kernel
theorem dX9_land_244 : decode cX9_land 244 = .ok (.aload_n 0, 1) := by decide +kernel
theorem dX9_land_245 : decode cX9_land 245 = .ok (.getfield 22, 3) := by decide +kernel
theorem dX9_land_248 : decode cX9_land 248 = .ok (.iload 5, 2) := by decide +kernel
theorem dX9_land_250 : decode cX9_land 250 = .ok (.aload_n 0, 1) := by decide +kernel
theorem dX9_land_251 : decode cX9_land 251 = .ok (.getfield 50, 3) := by decide +kernel
theorem dX9_land_254 : decode cX9_land 254 = .ok (.iload 5, 2) := by decide +kernel
theorem dX9_land_256 : decode cX9_land 256 = .ok (.iaload, 1) := by decide +kernel
theorem dX9_land_257 : decode cX9_land 257 = .ok (.iastore, 1) := by decide +kernel
theorem dX9_land_258 : decode cX9_land 258 = .ok (.aload_n 0, 1) := by decide +kernel
theorem dX9_land_259 : decode cX9_land 259 = .ok (.getfield 25, 3) := by decide +kernel
theorem dX9_land_262 : decode cX9_land 262 = .ok (.iload 5, 2) := by decide +kernel
theorem dX9_land_264 : decode cX9_land 264 = .ok (.aload_n 0, 1) := by decide +kernel
theorem dX9_land_265 : decode cX9_land 265 = .ok (.getfield 53, 3) := by decide +kernel
theorem dX9_land_268 : decode cX9_land 268 = .ok (.iload 5, 2) := by decide +kernel
theorem dX9_land_270 : decode cX9_land 270 = .ok (.iaload, 1) := by decide +kernel
theorem dX9_land_271 : decode cX9_land 271 = .ok (.iastore, 1) := by decide +kernel
theorem dX9_land_272 : decode cX9_land 272 = .ok (.aload_n 0, 1) := by decide +kernel
theorem dX9_land_273 : decode cX9_land 273 = .ok (.getfield 28, 3) := by decide +kernel
theorem dX9_land_276 : decode cX9_land 276 = .ok (.iload 5, 2) := by decide +kernel
theorem dX9_land_278 : decode cX9_land 278 = .ok (.iconst 0, 1) := by decide +kernel
theorem dX9_land_279 : decode cX9_land 279 = .ok (.iastore, 1) := by decide +kernel
theorem dX9_land_280 : decode cX9_land 280 = .ok (.iinc 5 1, 3) := by decide +kernel
theorem dX9_land_283 : decode cX9_land 283 = .ok (.goto (-62), 3) := by decide +kernel
theorem dX9_land_286 : decode cX9_land 286 = .ok (.iconst 0, 1) := by decide +kernel
theorem dX9_land_287 : decode cX9_land 287 = .ok (.istore 5, 2) := by decide +kernel
theorem dX9_land_289 : decode cX9_land 289 = .ok (.iload 5, 2) := by decide +kernel
theorem dX9_land_291 : decode cX9_land 291 = .ok (.aload_n 0, 1) := by decide +kernel
theorem dX9_land_292 : decode cX9_land 292 = .ok (.getfield 113, 3) := by decide +kernel
theorem dX9_land_295 : decode cX9_land 295 = .ok (.if_icmp .ge 45, 3) := by decide +kernel
theorem dX9_land_298 : decode cX9_land 298 = .ok (.aload_n 0, 1) := by decide +kernel
theorem dX9_land_299 : decode cX9_land 299 = .ok (.getfield 31, 3) := by decide +kernel
theorem dX9_land_302 : decode cX9_land 302 = .ok (.iload 5, 2) := by decide +kernel
theorem dX9_land_304 : decode cX9_land 304 = .ok (.aload_n 0, 1) := by decide +kernel
theorem dX9_land_305 : decode cX9_land 305 = .ok (.getfield 56, 3) := by decide +kernel
theorem dX9_land_308 : decode cX9_land 308 = .ok (.iload 5, 2) := by decide +kernel
theorem dX9_land_310 : decode cX9_land 310 = .ok (.iaload, 1) := by decide +kernel
theorem dX9_land_311 : decode cX9_land 311 = .ok (.iastore, 1) := by decide +kernel
theorem dX9_land_312 : decode cX9_land 312 = .ok (.aload_n 0, 1) := by decide +kernel
theorem dX9_land_313 : decode cX9_land 313 = .ok (.getfield 34, 3) := by decide +kernel
theorem dX9_land_316 : decode cX9_land 316 = .ok (.iload 5, 2) := by decide +kernel
theorem dX9_land_318 : decode cX9_land 318 = .ok (.aload_n 0, 1) := by decide +kernel
theorem dX9_land_319 : decode cX9_land 319 = .ok (.getfield 59, 3) := by decide +kernel
theorem dX9_land_322 : decode cX9_land 322 = .ok (.iload 5, 2) := by decide +kernel
theorem dX9_land_324 : decode cX9_land 324 = .ok (.iaload, 1) := by decide +kernel
theorem dX9_land_325 : decode cX9_land 325 = .ok (.iastore, 1) := by decide +kernel
theorem dX9_land_326 : decode cX9_land 326 = .ok (.aload_n 0, 1) := by decide +kernel
theorem dX9_land_327 : decode cX9_land 327 = .ok (.getfield 37, 3) := by decide +kernel
theorem dX9_land_330 : decode cX9_land 330 = .ok (.iload 5, 2) := by decide +kernel
theorem dX9_land_332 : decode cX9_land 332 = .ok (.iconst 0, 1) := by decide +kernel
theorem dX9_land_333 : decode cX9_land 333 = .ok (.bastore, 1) := by decide +kernel
theorem dX9_land_334 : decode cX9_land 334 = .ok (.iinc 5 1, 3) := by decide +kernel
theorem dX9_land_337 : decode cX9_land 337 = .ok (.goto (-48), 3) := by decide +kernel
theorem dX9_land_340 : decode cX9_land 340 = .ok (.aload_n 0, 1) := by decide +kernel
theorem dX9_land_341 : decode cX9_land 341 = .ok (.iconst 0, 1) := by decide +kernel
theorem dX9_land_342 : decode cX9_land 342 = .ok (.putfield 164, 3) := by decide +kernel
theorem dX9_land_345 : decode cX9_land 345 = .ok (.aload_n 0, 1) := by decide +kernel
theorem dX9_land_346 : decode cX9_land 346 = .ok (.bipush 9, 2) := by decide +kernel
theorem dX9_land_348 : decode cX9_land 348 = .ok (.putfield 167, 3) := by decide +kernel
theorem dX9_land_351 : decode cX9_land 351 = .ok (.aload_n 0, 1) := by decide +kernel
theorem dX9_land_352 : decode cX9_land 352 = .ok (.iconst 0, 1) := by decide +kernel
theorem dX9_land_353 : decode cX9_land 353 = .ok (.putfield 170, 3) := by decide +kernel
theorem dX9_land_356 : decode cX9_land 356 = .ok (.aload_n 0, 1) := by decide +kernel
theorem dX9_land_357 : decode cX9_land 357 = .ok (.iconst 0, 1) := by decide +kernel
theorem dX9_land_358 : decode cX9_land 358 = .ok (.putfield 173, 3) := by decide +kernel
theorem dX9_land_361 : decode cX9_land 361 = .ok (.aload_n 0, 1) := by decide +kernel
theorem dX9_land_362 : decode cX9_land 362 = .ok (.aload_n 0, 1) := by decide +kernel
theorem dX9_land_363 : decode cX9_land 363 = .ok (.invokevirtual 102, 3) := by decide +kernel
theorem dX9_land_366 : decode cX9_land 366 = .ok (.invokevirtual 147, 3) := by decide +kernel
theorem dX9_land_369 : decode cX9_land 369 = .ok (.ireturn, 1) := by decide +kernel
theorem dX9_houseTall_0 : decode cX9_houseTall 0 = .ok (.aload_n 0, 1) := by decide +kernel
theorem dX9_houseTall_1 : decode cX9_houseTall 1 = .ok (.getfield 25, 3) := by decide +kernel
theorem dX9_houseTall_4 : decode cX9_houseTall 4 = .ok (.iload_n 1, 1) := by decide +kernel
theorem dX9_houseTall_5 : decode cX9_houseTall 5 = .ok (.iaload, 1) := by decide +kernel
theorem dX9_houseTall_6 : decode cX9_houseTall 6 = .ok (.aload_n 0, 1) := by decide +kernel
theorem dX9_houseTall_7 : decode cX9_houseTall 7 = .ok (.getfield 28, 3) := by decide +kernel
theorem dX9_houseTall_10 : decode cX9_houseTall 10 = .ok (.iload_n 1, 1) := by decide +kernel
theorem dX9_houseTall_11 : decode cX9_houseTall 11 = .ok (.iaload, 1) := by decide +kernel
theorem dX9_houseTall_12 : decode cX9_houseTall 12 = .ok (.iadd, 1) := by decide +kernel
theorem dX9_houseTall_13 : decode cX9_houseTall 13 = .ok (.istore_n 2, 1) := by decide +kernel
theorem dX9_houseTall_14 : decode cX9_houseTall 14 = .ok (.iload_n 2, 1) := by decide +kernel
theorem dX9_houseTall_15 : decode cX9_houseTall 15 = .ok (.aload_n 0, 1) := by decide +kernel
theorem dX9_houseTall_16 : decode cX9_houseTall 16 = .ok (.getfield 19, 3) := by decide +kernel
theorem dX9_houseTall_19 : decode cX9_houseTall 19 = .ok (.iload_n 1, 1) := by decide +kernel
theorem dX9_houseTall_20 : decode cX9_houseTall 20 = .ok (.iaload, 1) := by decide +kernel
theorem dX9_houseTall_21 : decode cX9_houseTall 21 = .ok (.ifCond .le 10, 3) := by decide +kernel
theorem dX9_houseTall_24 : decode cX9_houseTall 24 = .ok (.aload_n 0, 1) := by decide +kernel
theorem dX9_houseTall_25 : decode cX9_houseTall 25 = .ok (.getfield 170, 3) := by decide +kernel
theorem dX9_houseTall_28 : decode cX9_houseTall 28 = .ok (.goto 4, 3) := by decide +kernel
theorem dX9_houseTall_31 : decode cX9_houseTall 31 = .ok (.iconst 0, 1) := by decide +kernel
theorem dX9_houseTall_32 : decode cX9_houseTall 32 = .ok (.iadd, 1) := by decide +kernel
theorem dX9_houseTall_33 : decode cX9_houseTall 33 = .ok (.istore_n 2, 1) := by decide +kernel
theorem dX9_houseTall_34 : decode cX9_houseTall 34 = .ok (.aload_n 0, 1) := by decide +kernel
theorem dX9_houseTall_35 : decode cX9_houseTall 35 = .ok (.getfield 19, 3) := by decide +kernel
theorem dX9_houseTall_38 : decode cX9_houseTall 38 = .ok (.iload_n 1, 1) := by decide +kernel
theorem dX9_houseTall_39 : decode cX9_houseTall 39 = .ok (.iaload, 1) := by decide +kernel
theorem dX9_houseTall_40 : decode cX9_houseTall 40 = .ok (.iconst 1, 1) := by decide +kernel
theorem dX9_houseTall_41 : decode cX9_houseTall 41 = .ok (.if_icmp .le 9, 3) := by decide +kernel
theorem dX9_houseTall_44 : decode cX9_houseTall 44 = .ok (.iload_n 2, 1) := by decide +kernel
theorem dX9_houseTall_45 : decode cX9_houseTall 45 = .ok (.iconst 3, 1) := by decide +kernel
theorem dX9_houseTall_46 : decode cX9_houseTall 46 = .ok (.iadd, 1) := by decide +kernel
theorem dX9_houseTall_47 : decode cX9_houseTall 47 = .ok (.goto 4, 3) := by decide +kernel
theorem dX9_houseTall_50 : decode cX9_houseTall 50 = .ok (.iload_n 2, 1) := by decide +kernel
theorem dX9_houseTall_51 : decode cX9_houseTall 51 = .ok (.ireturn, 1) := by decide +kernel
theorem dX9_treeNow_0 : decode cX9_treeNow 0 = .ok (.aload_n 0, 1) := by decide +kernel
theorem dX9_treeNow_1 : decode cX9_treeNow 1 = .ok (.getfield 37, 3) := by decide +kernel
theorem dX9_treeNow_4 : decode cX9_treeNow 4 = .ok (.iload_n 1, 1) := by decide +kernel
theorem dX9_treeNow_5 : decode cX9_treeNow 5 = .ok (.baload, 1) := by decide +kernel
theorem dX9_treeNow_6 : decode cX9_treeNow 6 = .ok (.ifCond .eq 7, 3) := by decide +kernel
theorem dX9_treeNow_9 : decode cX9_treeNow 9 = .ok (.iconst 0, 1) := by decide +kernel
theorem dX9_treeNow_10 : decode cX9_treeNow 10 = .ok (.goto 16, 3) := by decide +kernel
theorem dX9_treeNow_13 : decode cX9_treeNow 13 = .ok (.aload_n 0, 1) := by decide +kernel
theorem dX9_treeNow_14 : decode cX9_treeNow 14 = .ok (.getfield 34, 3) := by decide +kernel
theorem dX9_treeNow_17 : decode cX9_treeNow 17 = .ok (.iload_n 1, 1) := by decide +kernel
theorem dX9_treeNow_18 : decode cX9_treeNow 18 = .ok (.iaload, 1) := by decide +kernel
theorem dX9_treeNow_19 : decode cX9_treeNow 19 = .ok (.aload_n 0, 1) := by decide +kernel
theorem dX9_treeNow_20 : decode cX9_treeNow 20 = .ok (.getfield 164, 3) := by decide +kernel
theorem dX9_treeNow_23 : decode cX9_treeNow 23 = .ok (.iconst 2, 1) := by decide +kernel
theorem dX9_treeNow_24 : decode cX9_treeNow 24 = .ok (.idiv, 1) := by decide +kernel
theorem dX9_treeNow_25 : decode cX9_treeNow 25 = .ok (.iadd, 1) := by decide +kernel
theorem dX9_treeNow_26 : decode cX9_treeNow 26 = .ok (.ireturn, 1) := by decide +kernel
set_option maxRecDepth 20000 in
theorem ggX9_topOf_X9_houseTall : GoodIn wsX9_topOf wsX9_houseTall := goodIn_r _ [8, 9, 10, 11, 12, 20, 21, 22, 23, 24, 25, 26, 27, 28, 29, 30, 31, 32, 33, 34, 35, 36, 37, 38, 39, 40, 41, 42, 43, 44, 45, 46, 47, 48, 49, 50, 51, 52, 53, 54, 55, 56, 57, 58, 59, 60] (by decide +kernel) (by decide +kernel)
set_option maxRecDepth 20000 in
theorem gX9_topOf_X9_houseTall : GoodIn wsX9_topOf (wsV RX9 176 RX9 yX9_houseTall wsX9_houseTall) := goodIn_app (goodIn_of _ (by decide +kernel)) ggX9_topOf_X9_houseTall
set_option maxRecDepth 20000 in
theorem ggX9_topOf_X9_treeNow : GoodIn wsX9_topOf wsX9_treeNow := goodIn_r _ [16, 17, 18, 19, 20, 21, 22, 23, 24, 25, 26, 27, 28, 29, 30, 31, 32, 33, 34, 35, 36, 37, 38, 39, 40, 41, 42, 43, 44, 45, 46, 47, 48, 49, 50, 51, 52, 53, 54, 55, 56, 57, 58, 59, 60] (by decide +kernel) (by decide +kernel)
set_option maxRecDepth 20000 in
theorem gX9_topOf_X9_treeNow : GoodIn wsX9_topOf (wsV RX9 179 RX9 yX9_treeNow wsX9_treeNow) := goodIn_app (goodIn_of _ (by decide +kernel)) ggX9_topOf_X9_treeNow
theorem dX9_topOf_0 : decode cX9_topOf 0 = .ok (.aload_n 0, 1) := by decide +kernel
theorem dX9_topOf_1 : decode cX9_topOf 1 = .ok (.getfield 13, 3) := by decide +kernel
theorem dX9_topOf_4 : decode cX9_topOf 4 = .ok (.iload_n 1, 1) := by decide +kernel
theorem dX9_topOf_5 : decode cX9_topOf 5 = .ok (.iaload, 1) := by decide +kernel
theorem dX9_topOf_6 : decode cX9_topOf 6 = .ok (.ifCond .ne 12, 3) := by decide +kernel
theorem dX9_topOf_9 : decode cX9_topOf 9 = .ok (.aload_n 0, 1) := by decide +kernel
theorem dX9_topOf_10 : decode cX9_topOf 10 = .ok (.getfield 16, 3) := by decide +kernel
theorem dX9_topOf_13 : decode cX9_topOf 13 = .ok (.iload_n 1, 1) := by decide +kernel
theorem dX9_topOf_14 : decode cX9_topOf 14 = .ok (.iaload, 1) := by decide +kernel
theorem dX9_topOf_15 : decode cX9_topOf 15 = .ok (.goto 43, 3) := by decide +kernel
theorem dX9_topOf_18 : decode cX9_topOf 18 = .ok (.aload_n 0, 1) := by decide +kernel
theorem dX9_topOf_19 : decode cX9_topOf 19 = .ok (.getfield 13, 3) := by decide +kernel
theorem dX9_topOf_22 : decode cX9_topOf 22 = .ok (.iload_n 1, 1) := by decide +kernel
theorem dX9_topOf_23 : decode cX9_topOf 23 = .ok (.iaload, 1) := by decide +kernel
theorem dX9_topOf_24 : decode cX9_topOf 24 = .ok (.bipush 20, 2) := by decide +kernel
theorem dX9_topOf_26 : decode cX9_topOf 26 = .ok (.if_icmp .ge 19, 3) := by decide +kernel
theorem dX9_topOf_29 : decode cX9_topOf 29 = .ok (.aload_n 0, 1) := by decide +kernel
theorem dX9_topOf_30 : decode cX9_topOf 30 = .ok (.aload_n 0, 1) := by decide +kernel
theorem dX9_topOf_31 : decode cX9_topOf 31 = .ok (.getfield 13, 3) := by decide +kernel
theorem dX9_topOf_34 : decode cX9_topOf 34 = .ok (.iload_n 1, 1) := by decide +kernel
theorem dX9_topOf_35 : decode cX9_topOf 35 = .ok (.iaload, 1) := by decide +kernel
theorem dX9_topOf_36 : decode cX9_topOf 36 = .ok (.bipush 10, 2) := by decide +kernel
theorem dX9_topOf_38 : decode cX9_topOf 38 = .ok (.isub, 1) := by decide +kernel
theorem dX9_topOf_39 : decode cX9_topOf 39 = .ok (.invokevirtual 176, 3) := by decide +kernel
theorem dX9_topOf_42 : decode cX9_topOf 42 = .ok (.goto 16, 3) := by decide +kernel
theorem dX9_topOf_45 : decode cX9_topOf 45 = .ok (.aload_n 0, 1) := by decide +kernel
theorem dX9_topOf_46 : decode cX9_topOf 46 = .ok (.aload_n 0, 1) := by decide +kernel
theorem dX9_topOf_47 : decode cX9_topOf 47 = .ok (.getfield 13, 3) := by decide +kernel
theorem dX9_topOf_50 : decode cX9_topOf 50 = .ok (.iload_n 1, 1) := by decide +kernel
theorem dX9_topOf_51 : decode cX9_topOf 51 = .ok (.iaload, 1) := by decide +kernel
theorem dX9_topOf_52 : decode cX9_topOf 52 = .ok (.bipush 20, 2) := by decide +kernel
theorem dX9_topOf_54 : decode cX9_topOf 54 = .ok (.isub, 1) := by decide +kernel
theorem dX9_topOf_55 : decode cX9_topOf 55 = .ok (.invokevirtual 179, 3) := by decide +kernel
theorem dX9_topOf_58 : decode cX9_topOf 58 = .ok (.istore_n 2, 1) := by decide +kernel
theorem dX9_topOf_59 : decode cX9_topOf 59 = .ok (.aload_n 0, 1) := by decide +kernel
theorem dX9_topOf_60 : decode cX9_topOf 60 = .ok (.getfield 7, 3) := by decide +kernel
theorem dX9_topOf_63 : decode cX9_topOf 63 = .ok (.iload_n 1, 1) := by decide +kernel
theorem dX9_topOf_64 : decode cX9_topOf 64 = .ok (.iaload, 1) := by decide +kernel
theorem dX9_topOf_65 : decode cX9_topOf 65 = .ok (.iload_n 2, 1) := by decide +kernel
theorem dX9_topOf_66 : decode cX9_topOf 66 = .ok (.iadd, 1) := by decide +kernel
theorem dX9_topOf_67 : decode cX9_topOf 67 = .ok (.ireturn, 1) := by decide +kernel
set_option maxRecDepth 20000 in
theorem ggX9_ofCell_X9_noCell : GoodIn wsX9_ofCell wsX9_noCell := goodIn_r _ [7, 8, 9, 10, 6, 11, 12, 13, 14, 15, 16, 37, 38, 39, 40, 41, 42, 43, 44, 45, 46, 47, 48, 49, 50, 51, 52, 53, 54, 55, 56, 57, 58, 59, 60, 61, 62, 63, 64, 65, 66, 67, 68, 69, 70, 71, 72, 73, 74, 75, 76, 77] (by decide +kernel) (by decide +kernel)
set_option maxRecDepth 20000 in
theorem gX9_ofCell_X9_noCell : GoodIn wsX9_ofCell (wsV RX9 182 RX9 yX9_noCell wsX9_noCell) := goodIn_app (goodIn_of _ (by decide +kernel)) ggX9_ofCell_X9_noCell
set_option maxRecDepth 20000 in
theorem ggX9_ofCell_X9_topOf : GoodIn wsX9_ofCell wsX9_topOf := goodIn_r _ [20, 2, 21, 1, 22, 23, 24, 6, 25, 26, 27, 28, 29, 30, 31, 32, 33, 34, 35, 36, 37, 38, 39, 40, 41, 42, 43, 44, 45, 46, 47, 48, 49, 50, 51, 52, 53, 54, 55, 56, 57, 58, 59, 60, 61, 62, 63, 64, 65, 66, 67, 68, 69, 70, 71, 72, 73, 74, 75, 76, 77] (by decide +kernel) (by decide +kernel)
set_option maxRecDepth 20000 in
theorem gX9_ofCell_X9_topOf : GoodIn wsX9_ofCell (wsV RX9 185 RX9 yX9_topOf wsX9_topOf) := goodIn_app (goodIn_of _ (by decide +kernel)) ggX9_ofCell_X9_topOf
theorem dX9_ofCell_0 : decode cX9_ofCell 0 = .ok (.aload_n 0, 1) := by decide +kernel
theorem dX9_ofCell_1 : decode cX9_ofCell 1 = .ok (.iload_n 1, 1) := by decide +kernel
theorem dX9_ofCell_2 : decode cX9_ofCell 2 = .ok (.invokevirtual 182, 3) := by decide +kernel
theorem dX9_ofCell_5 : decode cX9_ofCell 5 = .ok (.ifCond .eq 5, 3) := by decide +kernel
theorem dX9_ofCell_8 : decode cX9_ofCell 8 = .ok (.iconst (-1), 1) := by decide +kernel
theorem dX9_ofCell_9 : decode cX9_ofCell 9 = .ok (.ireturn, 1) := by decide +kernel
theorem dX9_ofCell_10 : decode cX9_ofCell 10 = .ok (.iload_n 2, 1) := by decide +kernel
theorem dX9_ofCell_11 : decode cX9_ofCell 11 = .ok (.ifCond .ne 12, 3) := by decide +kernel
theorem dX9_ofCell_14 : decode cX9_ofCell 14 = .ok (.aload_n 0, 1) := by decide +kernel
theorem dX9_ofCell_15 : decode cX9_ofCell 15 = .ok (.getfield 7, 3) := by decide +kernel
theorem dX9_ofCell_18 : decode cX9_ofCell 18 = .ok (.iload_n 1, 1) := by decide +kernel
theorem dX9_ofCell_19 : decode cX9_ofCell 19 = .ok (.iaload, 1) := by decide +kernel
theorem dX9_ofCell_20 : decode cX9_ofCell 20 = .ok (.goto 32, 3) := by decide +kernel
theorem dX9_ofCell_23 : decode cX9_ofCell 23 = .ok (.iload_n 2, 1) := by decide +kernel
theorem dX9_ofCell_24 : decode cX9_ofCell 24 = .ok (.iconst 1, 1) := by decide +kernel
theorem dX9_ofCell_25 : decode cX9_ofCell 25 = .ok (.if_icmp .ne 11, 3) := by decide +kernel
theorem dX9_ofCell_28 : decode cX9_ofCell 28 = .ok (.aload_n 0, 1) := by decide +kernel
theorem dX9_ofCell_29 : decode cX9_ofCell 29 = .ok (.iload_n 1, 1) := by decide +kernel
theorem dX9_ofCell_30 : decode cX9_ofCell 30 = .ok (.invokevirtual 185, 3) := by decide +kernel
theorem dX9_ofCell_33 : decode cX9_ofCell 33 = .ok (.goto 19, 3) := by decide +kernel
theorem dX9_ofCell_36 : decode cX9_ofCell 36 = .ok (.iload_n 2, 1) := by decide +kernel
theorem dX9_ofCell_37 : decode cX9_ofCell 37 = .ok (.iconst 2, 1) := by decide +kernel
theorem dX9_ofCell_38 : decode cX9_ofCell 38 = .ok (.if_icmp .ne 12, 3) := by decide +kernel
theorem dX9_ofCell_41 : decode cX9_ofCell 41 = .ok (.aload_n 0, 1) := by decide +kernel
theorem dX9_ofCell_42 : decode cX9_ofCell 42 = .ok (.getfield 13, 3) := by decide +kernel
theorem dX9_ofCell_45 : decode cX9_ofCell 45 = .ok (.iload_n 1, 1) := by decide +kernel
theorem dX9_ofCell_46 : decode cX9_ofCell 46 = .ok (.iaload, 1) := by decide +kernel
theorem dX9_ofCell_47 : decode cX9_ofCell 47 = .ok (.goto 5, 3) := by decide +kernel
theorem dX9_ofCell_50 : decode cX9_ofCell 50 = .ok (.bipush (-2), 2) := by decide +kernel
theorem dX9_ofCell_52 : decode cX9_ofCell 52 = .ok (.ireturn, 1) := by decide +kernel
set_option maxRecDepth 20000 in
theorem ggX9_ofHouse_X9_noHouse : GoodIn wsX9_ofHouse wsX9_noHouse := goodIn_r _ [9, 10, 11, 12, 8, 13, 19, 20, 21, 22, 23, 24, 25, 26, 27, 28, 29, 30, 31, 32, 33, 34, 35, 36, 37, 38, 39, 40, 41, 42, 43, 44, 45, 46, 47, 48, 49, 50, 51, 52, 53, 54, 55, 56, 57, 58, 59] (by decide +kernel) (by decide +kernel)
set_option maxRecDepth 20000 in
theorem gX9_ofHouse_X9_noHouse : GoodIn wsX9_ofHouse (wsV RX9 188 RX9 yX9_noHouse wsX9_noHouse) := goodIn_app (goodIn_of _ (by decide +kernel)) ggX9_ofHouse_X9_noHouse
set_option maxRecDepth 20000 in
theorem ggX9_ofHouse_X9_houseTall : GoodIn wsX9_ofHouse wsX9_houseTall := goodIn_r _ [17, 3, 4, 1, 18, 19, 20, 21, 22, 23, 24, 25, 26, 27, 28, 29, 30, 31, 32, 33, 34, 35, 36, 37, 38, 39, 40, 41, 42, 43, 44, 45, 46, 47, 48, 49, 50, 51, 52, 53, 54, 55, 56, 57, 58, 59] (by decide +kernel) (by decide +kernel)
set_option maxRecDepth 20000 in
theorem gX9_ofHouse_X9_houseTall : GoodIn wsX9_ofHouse (wsV RX9 176 RX9 yX9_houseTall wsX9_houseTall) := goodIn_app (goodIn_of _ (by decide +kernel)) ggX9_ofHouse_X9_houseTall
theorem dX9_ofHouse_0 : decode cX9_ofHouse 0 = .ok (.aload_n 0, 1) := by decide +kernel
theorem dX9_ofHouse_1 : decode cX9_ofHouse 1 = .ok (.iload_n 1, 1) := by decide +kernel
theorem dX9_ofHouse_2 : decode cX9_ofHouse 2 = .ok (.invokevirtual 188, 3) := by decide +kernel
theorem dX9_ofHouse_5 : decode cX9_ofHouse 5 = .ok (.ifCond .eq 5, 3) := by decide +kernel
theorem dX9_ofHouse_8 : decode cX9_ofHouse 8 = .ok (.iconst (-1), 1) := by decide +kernel
theorem dX9_ofHouse_9 : decode cX9_ofHouse 9 = .ok (.ireturn, 1) := by decide +kernel
theorem dX9_ofHouse_10 : decode cX9_ofHouse 10 = .ok (.iload_n 2, 1) := by decide +kernel
theorem dX9_ofHouse_11 : decode cX9_ofHouse 11 = .ok (.tableswitch 67 0 4 #[33, 40, 47, 54, 60], 33) := by decide +kernel
theorem dX9_ofHouse_44 : decode cX9_ofHouse 44 = .ok (.aload_n 0, 1) := by decide +kernel
theorem dX9_ofHouse_45 : decode cX9_ofHouse 45 = .ok (.getfield 19, 3) := by decide +kernel
theorem dX9_ofHouse_48 : decode cX9_ofHouse 48 = .ok (.iload_n 1, 1) := by decide +kernel
theorem dX9_ofHouse_49 : decode cX9_ofHouse 49 = .ok (.iaload, 1) := by decide +kernel
theorem dX9_ofHouse_50 : decode cX9_ofHouse 50 = .ok (.ireturn, 1) := by decide +kernel
theorem dX9_ofHouse_51 : decode cX9_ofHouse 51 = .ok (.aload_n 0, 1) := by decide +kernel
theorem dX9_ofHouse_52 : decode cX9_ofHouse 52 = .ok (.getfield 22, 3) := by decide +kernel
theorem dX9_ofHouse_55 : decode cX9_ofHouse 55 = .ok (.iload_n 1, 1) := by decide +kernel
theorem dX9_ofHouse_56 : decode cX9_ofHouse 56 = .ok (.iaload, 1) := by decide +kernel
theorem dX9_ofHouse_57 : decode cX9_ofHouse 57 = .ok (.ireturn, 1) := by decide +kernel
theorem dX9_ofHouse_58 : decode cX9_ofHouse 58 = .ok (.aload_n 0, 1) := by decide +kernel
theorem dX9_ofHouse_59 : decode cX9_ofHouse 59 = .ok (.getfield 25, 3) := by decide +kernel
theorem dX9_ofHouse_62 : decode cX9_ofHouse 62 = .ok (.iload_n 1, 1) := by decide +kernel
theorem dX9_ofHouse_63 : decode cX9_ofHouse 63 = .ok (.iaload, 1) := by decide +kernel
theorem dX9_ofHouse_64 : decode cX9_ofHouse 64 = .ok (.ireturn, 1) := by decide +kernel
theorem dX9_ofHouse_65 : decode cX9_ofHouse 65 = .ok (.aload_n 0, 1) := by decide +kernel
theorem dX9_ofHouse_66 : decode cX9_ofHouse 66 = .ok (.iload_n 1, 1) := by decide +kernel
theorem dX9_ofHouse_67 : decode cX9_ofHouse 67 = .ok (.invokevirtual 176, 3) := by decide +kernel
theorem dX9_ofHouse_70 : decode cX9_ofHouse 70 = .ok (.ireturn, 1) := by decide +kernel
theorem dX9_ofHouse_71 : decode cX9_ofHouse 71 = .ok (.aload_n 0, 1) := by decide +kernel
theorem dX9_ofHouse_72 : decode cX9_ofHouse 72 = .ok (.getfield 28, 3) := by decide +kernel
theorem dX9_ofHouse_75 : decode cX9_ofHouse 75 = .ok (.iload_n 1, 1) := by decide +kernel
theorem dX9_ofHouse_76 : decode cX9_ofHouse 76 = .ok (.iaload, 1) := by decide +kernel
theorem dX9_ofHouse_77 : decode cX9_ofHouse 77 = .ok (.ireturn, 1) := by decide +kernel
theorem dX9_ofHouse_78 : decode cX9_ofHouse 78 = .ok (.bipush (-2), 2) := by decide +kernel
theorem dX9_ofHouse_80 : decode cX9_ofHouse 80 = .ok (.ireturn, 1) := by decide +kernel
set_option maxRecDepth 20000 in
theorem ggX9_ofTree_X9_noTree : GoodIn wsX9_ofTree wsX9_noTree := goodIn_r _ [8, 9, 10, 11, 7, 12, 18, 19, 20, 21, 22, 23, 24, 25, 26, 27, 28, 29, 30, 31, 32, 33, 34, 35, 36, 37, 38, 39, 40, 41, 42, 43, 44, 45, 46, 47, 48, 49, 50, 51, 52, 53, 54, 55, 56, 57, 58] (by decide +kernel) (by decide +kernel)
set_option maxRecDepth 20000 in
theorem gX9_ofTree_X9_noTree : GoodIn wsX9_ofTree (wsV RX9 191 RX9 yX9_noTree wsX9_noTree) := goodIn_app (goodIn_of _ (by decide +kernel)) ggX9_ofTree_X9_noTree
set_option maxRecDepth 20000 in
theorem ggX9_ofTree_X9_treeNow : GoodIn wsX9_ofTree wsX9_treeNow := goodIn_r _ [16, 3, 2, 17, 18, 19, 20, 21, 22, 23, 24, 25, 26, 27, 28, 29, 30, 31, 32, 33, 34, 35, 36, 37, 38, 39, 40, 41, 42, 43, 44, 45, 46, 47, 48, 49, 50, 51, 52, 53, 54, 55, 56, 57, 58] (by decide +kernel) (by decide +kernel)
set_option maxRecDepth 20000 in
theorem gX9_ofTree_X9_treeNow : GoodIn wsX9_ofTree (wsV RX9 179 RX9 yX9_treeNow wsX9_treeNow) := goodIn_app (goodIn_of _ (by decide +kernel)) ggX9_ofTree_X9_treeNow
theorem dX9_ofTree_0 : decode cX9_ofTree 0 = .ok (.aload_n 0, 1) := by decide +kernel
theorem dX9_ofTree_1 : decode cX9_ofTree 1 = .ok (.iload_n 1, 1) := by decide +kernel
theorem dX9_ofTree_2 : decode cX9_ofTree 2 = .ok (.invokevirtual 191, 3) := by decide +kernel
theorem dX9_ofTree_5 : decode cX9_ofTree 5 = .ok (.ifCond .eq 5, 3) := by decide +kernel
theorem dX9_ofTree_8 : decode cX9_ofTree 8 = .ok (.iconst (-1), 1) := by decide +kernel
theorem dX9_ofTree_9 : decode cX9_ofTree 9 = .ok (.ireturn, 1) := by decide +kernel
theorem dX9_ofTree_10 : decode cX9_ofTree 10 = .ok (.iload_n 2, 1) := by decide +kernel
theorem dX9_ofTree_11 : decode cX9_ofTree 11 = .ok (.tableswitch 64 0 3 #[29, 36, 43, 49], 29) := by decide +kernel
theorem dX9_ofTree_40 : decode cX9_ofTree 40 = .ok (.aload_n 0, 1) := by decide +kernel
theorem dX9_ofTree_41 : decode cX9_ofTree 41 = .ok (.getfield 31, 3) := by decide +kernel
theorem dX9_ofTree_44 : decode cX9_ofTree 44 = .ok (.iload_n 1, 1) := by decide +kernel
theorem dX9_ofTree_45 : decode cX9_ofTree 45 = .ok (.iaload, 1) := by decide +kernel
theorem dX9_ofTree_46 : decode cX9_ofTree 46 = .ok (.ireturn, 1) := by decide +kernel
theorem dX9_ofTree_47 : decode cX9_ofTree 47 = .ok (.aload_n 0, 1) := by decide +kernel
theorem dX9_ofTree_48 : decode cX9_ofTree 48 = .ok (.getfield 34, 3) := by decide +kernel
theorem dX9_ofTree_51 : decode cX9_ofTree 51 = .ok (.iload_n 1, 1) := by decide +kernel
theorem dX9_ofTree_52 : decode cX9_ofTree 52 = .ok (.iaload, 1) := by decide +kernel
theorem dX9_ofTree_53 : decode cX9_ofTree 53 = .ok (.ireturn, 1) := by decide +kernel
theorem dX9_ofTree_54 : decode cX9_ofTree 54 = .ok (.aload_n 0, 1) := by decide +kernel
theorem dX9_ofTree_55 : decode cX9_ofTree 55 = .ok (.iload_n 1, 1) := by decide +kernel
theorem dX9_ofTree_56 : decode cX9_ofTree 56 = .ok (.invokevirtual 179, 3) := by decide +kernel
theorem dX9_ofTree_59 : decode cX9_ofTree 59 = .ok (.ireturn, 1) := by decide +kernel
theorem dX9_ofTree_60 : decode cX9_ofTree 60 = .ok (.aload_n 0, 1) := by decide +kernel
theorem dX9_ofTree_61 : decode cX9_ofTree 61 = .ok (.getfield 37, 3) := by decide +kernel
theorem dX9_ofTree_64 : decode cX9_ofTree 64 = .ok (.iload_n 1, 1) := by decide +kernel
theorem dX9_ofTree_65 : decode cX9_ofTree 65 = .ok (.baload, 1) := by decide +kernel
theorem dX9_ofTree_66 : decode cX9_ofTree 66 = .ok (.ifCond .eq 7, 3) := by decide +kernel
theorem dX9_ofTree_69 : decode cX9_ofTree 69 = .ok (.iconst 1, 1) := by decide +kernel
theorem dX9_ofTree_70 : decode cX9_ofTree 70 = .ok (.goto 4, 3) := by decide +kernel
theorem dX9_ofTree_73 : decode cX9_ofTree 73 = .ok (.iconst 0, 1) := by decide +kernel
theorem dX9_ofTree_74 : decode cX9_ofTree 74 = .ok (.ireturn, 1) := by decide +kernel
theorem dX9_ofTree_75 : decode cX9_ofTree 75 = .ok (.bipush (-2), 2) := by decide +kernel
theorem dX9_ofTree_77 : decode cX9_ofTree 77 = .ok (.ireturn, 1) := by decide +kernel
set_option maxRecDepth 20000 in
theorem ggX9_times_X9_in : GoodIn wsX9_times wsX9_in := goodIn_r _ [10] (by decide +kernel) (by decide +kernel)
set_option maxRecDepth 20000 in
theorem gX9_times_X9_in : GoodIn wsX9_times (va_wsS RX9 106 yX9_in wsX9_in) := goodIn_app (goodIn_of _ (by decide +kernel)) ggX9_times_X9_in
theorem dX9_times_0 : decode cX9_times 0 = .ok (.iload_n 1, 1) := by decide +kernel
theorem dX9_times_1 : decode cX9_times 1 = .ok (.i2l, 1) := by decide +kernel
theorem dX9_times_2 : decode cX9_times 2 = .ok (.lconst 0, 1) := by decide +kernel
theorem dX9_times_3 : decode cX9_times 3 = .ok (.ldc2_w 194, 3) := by decide +kernel
theorem dX9_times_6 : decode cX9_times 6 = .ok (.invokestatic 106, 3) := by decide +kernel
theorem dX9_times_9 : decode cX9_times 9 = .ok (.ifCond .eq 25, 3) := by decide +kernel
theorem dX9_times_12 : decode cX9_times 12 = .ok (.iload_n 2, 1) := by decide +kernel
theorem dX9_times_13 : decode cX9_times 13 = .ok (.i2l, 1) := by decide +kernel
theorem dX9_times_14 : decode cX9_times 14 = .ok (.lconst 1, 1) := by decide +kernel
theorem dX9_times_15 : decode cX9_times 15 = .ok (.ldc2_w 196, 3) := by decide +kernel
theorem dX9_times_18 : decode cX9_times 18 = .ok (.invokestatic 106, 3) := by decide +kernel
theorem dX9_times_21 : decode cX9_times 21 = .ok (.ifCond .eq 13, 3) := by decide +kernel
theorem dX9_times_24 : decode cX9_times 24 = .ok (.iload_n 3, 1) := by decide +kernel
theorem dX9_times_25 : decode cX9_times 25 = .ok (.i2l, 1) := by decide +kernel
theorem dX9_times_26 : decode cX9_times 26 = .ok (.lconst 0, 1) := by decide +kernel
theorem dX9_times_27 : decode cX9_times 27 = .ok (.lconst 1, 1) := by decide +kernel
theorem dX9_times_28 : decode cX9_times 28 = .ok (.invokestatic 106, 3) := by decide +kernel
theorem dX9_times_31 : decode cX9_times 31 = .ok (.ifCond .ne 6, 3) := by decide +kernel
theorem dX9_times_34 : decode cX9_times 34 = .ok (.bipush (-2), 2) := by decide +kernel
theorem dX9_times_36 : decode cX9_times 36 = .ok (.ireturn, 1) := by decide +kernel
theorem dX9_times_37 : decode cX9_times 37 = .ok (.aload_n 0, 1) := by decide +kernel
theorem dX9_times_38 : decode cX9_times 38 = .ok (.getfield 96, 3) := by decide +kernel
theorem dX9_times_41 : decode cX9_times 41 = .ok (.ifCond .ne 6, 3) := by decide +kernel
theorem dX9_times_44 : decode cX9_times 44 = .ok (.bipush (-3), 2) := by decide +kernel
theorem dX9_times_46 : decode cX9_times 46 = .ok (.ireturn, 1) := by decide +kernel
theorem dX9_times_47 : decode cX9_times 47 = .ok (.aload_n 0, 1) := by decide +kernel
theorem dX9_times_48 : decode cX9_times 48 = .ok (.getfield 164, 3) := by decide +kernel
theorem dX9_times_51 : decode cX9_times 51 = .ok (.iload_n 1, 1) := by decide +kernel
theorem dX9_times_52 : decode cX9_times 52 = .ok (.if_icmp .ne 23, 3) := by decide +kernel
theorem dX9_times_55 : decode cX9_times 55 = .ok (.aload_n 0, 1) := by decide +kernel
theorem dX9_times_56 : decode cX9_times 56 = .ok (.getfield 167, 3) := by decide +kernel
theorem dX9_times_59 : decode cX9_times 59 = .ok (.iload_n 2, 1) := by decide +kernel
theorem dX9_times_60 : decode cX9_times 60 = .ok (.if_icmp .ne 15, 3) := by decide +kernel
theorem dX9_times_63 : decode cX9_times 63 = .ok (.aload_n 0, 1) := by decide +kernel
theorem dX9_times_64 : decode cX9_times 64 = .ok (.getfield 170, 3) := by decide +kernel
theorem dX9_times_67 : decode cX9_times 67 = .ok (.iload_n 3, 1) := by decide +kernel
theorem dX9_times_68 : decode cX9_times 68 = .ok (.if_icmp .ne 7, 3) := by decide +kernel
theorem dX9_times_71 : decode cX9_times 71 = .ok (.iconst 1, 1) := by decide +kernel
theorem dX9_times_72 : decode cX9_times 72 = .ok (.goto 4, 3) := by decide +kernel
theorem dX9_times_75 : decode cX9_times 75 = .ok (.iconst 0, 1) := by decide +kernel
theorem dX9_times_76 : decode cX9_times 76 = .ok (.istore 4, 2) := by decide +kernel
theorem dX9_times_78 : decode cX9_times 78 = .ok (.aload_n 0, 1) := by decide +kernel
theorem dX9_times_79 : decode cX9_times 79 = .ok (.iload_n 1, 1) := by decide +kernel
theorem dX9_times_80 : decode cX9_times 80 = .ok (.putfield 164, 3) := by decide +kernel
theorem dX9_times_83 : decode cX9_times 83 = .ok (.aload_n 0, 1) := by decide +kernel
theorem dX9_times_84 : decode cX9_times 84 = .ok (.iload_n 2, 1) := by decide +kernel
theorem dX9_times_85 : decode cX9_times 85 = .ok (.putfield 167, 3) := by decide +kernel
theorem dX9_times_88 : decode cX9_times 88 = .ok (.aload_n 0, 1) := by decide +kernel
theorem dX9_times_89 : decode cX9_times 89 = .ok (.iload_n 3, 1) := by decide +kernel
theorem dX9_times_90 : decode cX9_times 90 = .ok (.putfield 170, 3) := by decide +kernel
theorem dX9_times_93 : decode cX9_times 93 = .ok (.iload 4, 2) := by decide +kernel
theorem dX9_times_95 : decode cX9_times 95 = .ok (.ifCond .eq 7, 3) := by decide +kernel
theorem dX9_times_98 : decode cX9_times 98 = .ok (.iconst 0, 1) := by decide +kernel
theorem dX9_times_99 : decode cX9_times 99 = .ok (.goto 4, 3) := by decide +kernel
theorem dX9_times_102 : decode cX9_times 102 = .ok (.iconst 1, 1) := by decide +kernel
theorem dX9_times_103 : decode cX9_times 103 = .ok (.ireturn, 1) := by decide +kernel
set_option maxRecDepth 20000 in
theorem ggX9_wall_X9_noCell : GoodIn wsX9_wall wsX9_noCell := goodIn_r _ [8, 9, 10, 11, 7, 12, 13, 14, 15, 16, 17, 18, 19, 20, 21, 22, 23, 24, 25, 26, 27, 28, 29, 30, 31, 32, 33, 34, 35, 36, 37, 38, 39, 40, 41, 42, 43, 44, 45, 46, 47, 48, 49, 50, 51, 52, 53, 54, 55, 56, 57, 58] (by decide +kernel) (by decide +kernel)
set_option maxRecDepth 20000 in
theorem gX9_wall_X9_noCell : GoodIn wsX9_wall (wsV RX9 182 RX9 yX9_noCell wsX9_noCell) := goodIn_app (goodIn_of _ (by decide +kernel)) ggX9_wall_X9_noCell
set_option maxRecDepth 20000 in
theorem ggX9_wall_X9_in : GoodIn wsX9_wall wsX9_in := goodIn_r _ [17] (by decide +kernel) (by decide +kernel)
set_option maxRecDepth 20000 in
theorem gX9_wall_X9_in : GoodIn wsX9_wall (va_wsS RX9 106 yX9_in wsX9_in) := goodIn_app (goodIn_of _ (by decide +kernel)) ggX9_wall_X9_in
theorem dX9_wall_0 : decode cX9_wall 0 = .ok (.aload_n 0, 1) := by decide +kernel
theorem dX9_wall_1 : decode cX9_wall 1 = .ok (.iload_n 1, 1) := by decide +kernel
theorem dX9_wall_2 : decode cX9_wall 2 = .ok (.invokevirtual 182, 3) := by decide +kernel
theorem dX9_wall_5 : decode cX9_wall 5 = .ok (.ifCond .eq 5, 3) := by decide +kernel
theorem dX9_wall_8 : decode cX9_wall 8 = .ok (.iconst (-1), 1) := by decide +kernel
theorem dX9_wall_9 : decode cX9_wall 9 = .ok (.ireturn, 1) := by decide +kernel
theorem dX9_wall_10 : decode cX9_wall 10 = .ok (.iload_n 2, 1) := by decide +kernel
theorem dX9_wall_11 : decode cX9_wall 11 = .ok (.i2l, 1) := by decide +kernel
theorem dX9_wall_12 : decode cX9_wall 12 = .ok (.lconst 0, 1) := by decide +kernel
theorem dX9_wall_13 : decode cX9_wall 13 = .ok (.ldc2_w 196, 3) := by decide +kernel
theorem dX9_wall_16 : decode cX9_wall 16 = .ok (.invokestatic 106, 3) := by decide +kernel
theorem dX9_wall_19 : decode cX9_wall 19 = .ok (.ifCond .ne 6, 3) := by decide +kernel
theorem dX9_wall_22 : decode cX9_wall 22 = .ok (.bipush (-2), 2) := by decide +kernel
theorem dX9_wall_24 : decode cX9_wall 24 = .ok (.ireturn, 1) := by decide +kernel
theorem dX9_wall_25 : decode cX9_wall 25 = .ok (.aload_n 0, 1) := by decide +kernel
theorem dX9_wall_26 : decode cX9_wall 26 = .ok (.getfield 13, 3) := by decide +kernel
theorem dX9_wall_29 : decode cX9_wall 29 = .ok (.iload_n 1, 1) := by decide +kernel
theorem dX9_wall_30 : decode cX9_wall 30 = .ok (.iaload, 1) := by decide +kernel
theorem dX9_wall_31 : decode cX9_wall 31 = .ok (.ifCond .le 6, 3) := by decide +kernel
theorem dX9_wall_34 : decode cX9_wall 34 = .ok (.bipush (-3), 2) := by decide +kernel
theorem dX9_wall_36 : decode cX9_wall 36 = .ok (.ireturn, 1) := by decide +kernel
theorem dX9_wall_37 : decode cX9_wall 37 = .ok (.aload_n 0, 1) := by decide +kernel
theorem dX9_wall_38 : decode cX9_wall 38 = .ok (.getfield 16, 3) := by decide +kernel
theorem dX9_wall_41 : decode cX9_wall 41 = .ok (.iload_n 1, 1) := by decide +kernel
theorem dX9_wall_42 : decode cX9_wall 42 = .ok (.iaload, 1) := by decide +kernel
theorem dX9_wall_43 : decode cX9_wall 43 = .ok (.istore_n 3, 1) := by decide +kernel
theorem dX9_wall_44 : decode cX9_wall 44 = .ok (.aload_n 0, 1) := by decide +kernel
theorem dX9_wall_45 : decode cX9_wall 45 = .ok (.getfield 16, 3) := by decide +kernel
theorem dX9_wall_48 : decode cX9_wall 48 = .ok (.iload_n 1, 1) := by decide +kernel
theorem dX9_wall_49 : decode cX9_wall 49 = .ok (.iload_n 2, 1) := by decide +kernel
theorem dX9_wall_50 : decode cX9_wall 50 = .ok (.iastore, 1) := by decide +kernel
theorem dX9_wall_51 : decode cX9_wall 51 = .ok (.iload_n 3, 1) := by decide +kernel
theorem dX9_wall_52 : decode cX9_wall 52 = .ok (.ireturn, 1) := by decide +kernel
set_option maxRecDepth 20000 in
theorem ggX9_floors_X9_noHouse : GoodIn wsX9_floors wsX9_noHouse := goodIn_r _ [7, 8, 9, 10, 6, 11, 12, 13, 14, 15, 16, 17, 18, 19, 20, 21, 22, 23, 24, 25, 26, 27, 28, 29, 30, 31, 32, 33, 34, 35, 36, 37, 38, 39, 40, 41, 42, 43, 44, 45, 46, 47, 48, 49, 50, 51, 52] (by decide +kernel) (by decide +kernel)
set_option maxRecDepth 20000 in
theorem gX9_floors_X9_noHouse : GoodIn wsX9_floors (wsV RX9 188 RX9 yX9_noHouse wsX9_noHouse) := goodIn_app (goodIn_of _ (by decide +kernel)) ggX9_floors_X9_noHouse
set_option maxRecDepth 20000 in
theorem ggX9_floors_X9_in : GoodIn wsX9_floors wsX9_in := goodIn_r _ [11] (by decide +kernel) (by decide +kernel)
set_option maxRecDepth 20000 in
theorem gX9_floors_X9_in : GoodIn wsX9_floors (va_wsS RX9 106 yX9_in wsX9_in) := goodIn_app (goodIn_of _ (by decide +kernel)) ggX9_floors_X9_in
theorem dX9_floors_0 : decode cX9_floors 0 = .ok (.aload_n 0, 1) := by decide +kernel
theorem dX9_floors_1 : decode cX9_floors 1 = .ok (.iload_n 1, 1) := by decide +kernel
theorem dX9_floors_2 : decode cX9_floors 2 = .ok (.invokevirtual 188, 3) := by decide +kernel
theorem dX9_floors_5 : decode cX9_floors 5 = .ok (.ifCond .eq 5, 3) := by decide +kernel
theorem dX9_floors_8 : decode cX9_floors 8 = .ok (.iconst (-1), 1) := by decide +kernel
theorem dX9_floors_9 : decode cX9_floors 9 = .ok (.ireturn, 1) := by decide +kernel
theorem dX9_floors_10 : decode cX9_floors 10 = .ok (.iload_n 2, 1) := by decide +kernel
theorem dX9_floors_11 : decode cX9_floors 11 = .ok (.i2l, 1) := by decide +kernel
theorem dX9_floors_12 : decode cX9_floors 12 = .ok (.lconst 0, 1) := by decide +kernel
theorem dX9_floors_13 : decode cX9_floors 13 = .ok (.ldc2_w 196, 3) := by decide +kernel
theorem dX9_floors_16 : decode cX9_floors 16 = .ok (.invokestatic 106, 3) := by decide +kernel
theorem dX9_floors_19 : decode cX9_floors 19 = .ok (.ifCond .ne 6, 3) := by decide +kernel
theorem dX9_floors_22 : decode cX9_floors 22 = .ok (.bipush (-2), 2) := by decide +kernel
theorem dX9_floors_24 : decode cX9_floors 24 = .ok (.ireturn, 1) := by decide +kernel
theorem dX9_floors_25 : decode cX9_floors 25 = .ok (.aload_n 0, 1) := by decide +kernel
theorem dX9_floors_26 : decode cX9_floors 26 = .ok (.getfield 28, 3) := by decide +kernel
theorem dX9_floors_29 : decode cX9_floors 29 = .ok (.iload_n 1, 1) := by decide +kernel
theorem dX9_floors_30 : decode cX9_floors 30 = .ok (.iaload, 1) := by decide +kernel
theorem dX9_floors_31 : decode cX9_floors 31 = .ok (.istore_n 3, 1) := by decide +kernel
theorem dX9_floors_32 : decode cX9_floors 32 = .ok (.aload_n 0, 1) := by decide +kernel
theorem dX9_floors_33 : decode cX9_floors 33 = .ok (.getfield 28, 3) := by decide +kernel
theorem dX9_floors_36 : decode cX9_floors 36 = .ok (.iload_n 1, 1) := by decide +kernel
theorem dX9_floors_37 : decode cX9_floors 37 = .ok (.iload_n 2, 1) := by decide +kernel
theorem dX9_floors_38 : decode cX9_floors 38 = .ok (.iastore, 1) := by decide +kernel
theorem dX9_floors_39 : decode cX9_floors 39 = .ok (.iload_n 3, 1) := by decide +kernel
theorem dX9_floors_40 : decode cX9_floors 40 = .ok (.ireturn, 1) := by decide +kernel
set_option maxRecDepth 20000 in
theorem ggX9_fell_X9_noTree : GoodIn wsX9_fell wsX9_noTree := goodIn_r _ [6, 7, 8, 9, 5, 10, 11, 12, 13, 14, 15, 16, 17, 18, 19, 20, 21, 22, 23, 24, 25, 26, 27, 28, 29, 30, 31, 32, 33, 34, 35, 36, 37, 38, 39, 40, 41, 42, 43, 44, 45, 46, 47, 48, 49, 50, 51] (by decide +kernel) (by decide +kernel)
set_option maxRecDepth 20000 in
theorem gX9_fell_X9_noTree : GoodIn wsX9_fell (wsV RX9 191 RX9 yX9_noTree wsX9_noTree) := goodIn_app (goodIn_of _ (by decide +kernel)) ggX9_fell_X9_noTree
theorem dX9_fell_0 : decode cX9_fell 0 = .ok (.aload_n 0, 1) := by decide +kernel
theorem dX9_fell_1 : decode cX9_fell 1 = .ok (.iload_n 1, 1) := by decide +kernel
theorem dX9_fell_2 : decode cX9_fell 2 = .ok (.invokevirtual 191, 3) := by decide +kernel
theorem dX9_fell_5 : decode cX9_fell 5 = .ok (.ifCond .eq 5, 3) := by decide +kernel
theorem dX9_fell_8 : decode cX9_fell 8 = .ok (.iconst (-1), 1) := by decide +kernel
theorem dX9_fell_9 : decode cX9_fell 9 = .ok (.ireturn, 1) := by decide +kernel
theorem dX9_fell_10 : decode cX9_fell 10 = .ok (.aload_n 0, 1) := by decide +kernel
theorem dX9_fell_11 : decode cX9_fell 11 = .ok (.getfield 37, 3) := by decide +kernel
theorem dX9_fell_14 : decode cX9_fell 14 = .ok (.iload_n 1, 1) := by decide +kernel
theorem dX9_fell_15 : decode cX9_fell 15 = .ok (.baload, 1) := by decide +kernel
theorem dX9_fell_16 : decode cX9_fell 16 = .ok (.istore_n 3, 1) := by decide +kernel
theorem dX9_fell_17 : decode cX9_fell 17 = .ok (.aload_n 0, 1) := by decide +kernel
theorem dX9_fell_18 : decode cX9_fell 18 = .ok (.getfield 37, 3) := by decide +kernel
theorem dX9_fell_21 : decode cX9_fell 21 = .ok (.iload_n 1, 1) := by decide +kernel
theorem dX9_fell_22 : decode cX9_fell 22 = .ok (.iload_n 2, 1) := by decide +kernel
theorem dX9_fell_23 : decode cX9_fell 23 = .ok (.bastore, 1) := by decide +kernel
theorem dX9_fell_24 : decode cX9_fell 24 = .ok (.iload_n 3, 1) := by decide +kernel
theorem dX9_fell_25 : decode cX9_fell 25 = .ok (.iload_n 2, 1) := by decide +kernel
theorem dX9_fell_26 : decode cX9_fell 26 = .ok (.if_icmp .ne 7, 3) := by decide +kernel
theorem dX9_fell_29 : decode cX9_fell 29 = .ok (.iconst 0, 1) := by decide +kernel
theorem dX9_fell_30 : decode cX9_fell 30 = .ok (.goto 4, 3) := by decide +kernel
theorem dX9_fell_33 : decode cX9_fell 33 = .ok (.iconst 1, 1) := by decide +kernel
theorem dX9_fell_34 : decode cX9_fell 34 = .ok (.ireturn, 1) := by decide +kernel
set_option maxRecDepth 20000 in
theorem ggX9_doSee_X9_far : GoodIn wsX9_doSee wsX9_far := goodIn_r _ [7] (by decide +kernel) (by decide +kernel)
set_option maxRecDepth 20000 in
theorem gX9_doSee_X9_far : GoodIn wsX9_doSee (va_wsS RX9 198 yX9_far wsX9_far) := goodIn_app (goodIn_of _ (by decide +kernel)) ggX9_doSee_X9_far
set_option maxRecDepth 20000 in
theorem ggX9_doSee_X9_common : GoodIn wsX9_doSee wsX9_common := goodIn_r _ [10] (by decide +kernel) (by decide +kernel)
set_option maxRecDepth 20000 in
theorem gX9_doSee_X9_common : GoodIn wsX9_doSee (va_wsS RX9 201 yX9_common wsX9_common) := goodIn_app (goodIn_of _ (by decide +kernel)) ggX9_doSee_X9_common
set_option maxRecDepth 20000 in
theorem ggX9_doSee_X9_topOf : GoodIn wsX9_doSee wsX9_topOf := goodIn_r _ [14, 15, 16, 17, 18, 19, 20, 6, 21, 22, 23, 24, 25, 26, 27, 28, 29, 30, 31, 32, 33, 34, 35, 36, 37, 38, 39, 40, 41, 42, 43, 44, 45, 46, 47, 48, 49, 50, 51, 52, 53, 54, 55, 56, 57, 58, 59, 60, 61, 62, 63, 64, 65, 66, 67, 68, 69, 70, 71, 72, 73] (by decide +kernel) (by decide +kernel)
set_option maxRecDepth 20000 in
theorem gX9_doSee_X9_topOf : GoodIn wsX9_doSee (wsV RX9 185 RX9 yX9_topOf wsX9_topOf) := goodIn_app (goodIn_of _ (by decide +kernel)) ggX9_doSee_X9_topOf
theorem dX9_doSee_0 : decode cX9_doSee 0 = .ok (.aload_n 0, 1) := by decide +kernel
theorem dX9_doSee_1 : decode cX9_doSee 1 = .ok (.getfield 22, 3) := by decide +kernel
theorem dX9_doSee_4 : decode cX9_doSee 4 = .ok (.iload_n 1, 1) := by decide +kernel
theorem dX9_doSee_5 : decode cX9_doSee 5 = .ok (.iaload, 1) := by decide +kernel
theorem dX9_doSee_6 : decode cX9_doSee 6 = .ok (.istore_n 3, 1) := by decide +kernel
theorem dX9_doSee_7 : decode cX9_doSee 7 = .ok (.aload_n 0, 1) := by decide +kernel
theorem dX9_doSee_8 : decode cX9_doSee 8 = .ok (.getfield 22, 3) := by decide +kernel
theorem dX9_doSee_11 : decode cX9_doSee 11 = .ok (.iload_n 2, 1) := by decide +kernel
theorem dX9_doSee_12 : decode cX9_doSee 12 = .ok (.iaload, 1) := by decide +kernel
theorem dX9_doSee_13 : decode cX9_doSee 13 = .ok (.aload_n 0, 1) := by decide +kernel
theorem dX9_doSee_14 : decode cX9_doSee 14 = .ok (.getfield 99, 3) := by decide +kernel
theorem dX9_doSee_17 : decode cX9_doSee 17 = .ok (.idiv, 1) := by decide +kernel
theorem dX9_doSee_18 : decode cX9_doSee 18 = .ok (.iload_n 3, 1) := by decide +kernel
theorem dX9_doSee_19 : decode cX9_doSee 19 = .ok (.aload_n 0, 1) := by decide +kernel
theorem dX9_doSee_20 : decode cX9_doSee 20 = .ok (.getfield 99, 3) := by decide +kernel
theorem dX9_doSee_23 : decode cX9_doSee 23 = .ok (.idiv, 1) := by decide +kernel
theorem dX9_doSee_24 : decode cX9_doSee 24 = .ok (.isub, 1) := by decide +kernel
theorem dX9_doSee_25 : decode cX9_doSee 25 = .ok (.istore 4, 2) := by decide +kernel
theorem dX9_doSee_27 : decode cX9_doSee 27 = .ok (.aload_n 0, 1) := by decide +kernel
theorem dX9_doSee_28 : decode cX9_doSee 28 = .ok (.getfield 22, 3) := by decide +kernel
theorem dX9_doSee_31 : decode cX9_doSee 31 = .ok (.iload_n 2, 1) := by decide +kernel
theorem dX9_doSee_32 : decode cX9_doSee 32 = .ok (.iaload, 1) := by decide +kernel
theorem dX9_doSee_33 : decode cX9_doSee 33 = .ok (.aload_n 0, 1) := by decide +kernel
theorem dX9_doSee_34 : decode cX9_doSee 34 = .ok (.getfield 99, 3) := by decide +kernel
theorem dX9_doSee_37 : decode cX9_doSee 37 = .ok (.irem, 1) := by decide +kernel
theorem dX9_doSee_38 : decode cX9_doSee 38 = .ok (.iload_n 3, 1) := by decide +kernel
theorem dX9_doSee_39 : decode cX9_doSee 39 = .ok (.aload_n 0, 1) := by decide +kernel
theorem dX9_doSee_40 : decode cX9_doSee 40 = .ok (.getfield 99, 3) := by decide +kernel
theorem dX9_doSee_43 : decode cX9_doSee 43 = .ok (.irem, 1) := by decide +kernel
theorem dX9_doSee_44 : decode cX9_doSee 44 = .ok (.isub, 1) := by decide +kernel
theorem dX9_doSee_45 : decode cX9_doSee 45 = .ok (.istore 5, 2) := by decide +kernel
theorem dX9_doSee_47 : decode cX9_doSee 47 = .ok (.iload 4, 2) := by decide +kernel
theorem dX9_doSee_49 : decode cX9_doSee 49 = .ok (.iconst 0, 1) := by decide +kernel
theorem dX9_doSee_50 : decode cX9_doSee 50 = .ok (.invokestatic 198, 3) := by decide +kernel
theorem dX9_doSee_53 : decode cX9_doSee 53 = .ok (.iload 5, 2) := by decide +kernel
theorem dX9_doSee_55 : decode cX9_doSee 55 = .ok (.iconst 0, 1) := by decide +kernel
theorem dX9_doSee_56 : decode cX9_doSee 56 = .ok (.invokestatic 198, 3) := by decide +kernel
theorem dX9_doSee_59 : decode cX9_doSee 59 = .ok (.invokestatic 201, 3) := by decide +kernel
theorem dX9_doSee_62 : decode cX9_doSee 62 = .ok (.istore 6, 2) := by decide +kernel
theorem dX9_doSee_64 : decode cX9_doSee 64 = .ok (.aload_n 0, 1) := by decide +kernel
theorem dX9_doSee_65 : decode cX9_doSee 65 = .ok (.iload_n 3, 1) := by decide +kernel
theorem dX9_doSee_66 : decode cX9_doSee 66 = .ok (.invokevirtual 185, 3) := by decide +kernel
theorem dX9_doSee_69 : decode cX9_doSee 69 = .ok (.istore 7, 2) := by decide +kernel
theorem dX9_doSee_71 : decode cX9_doSee 71 = .ok (.aload_n 0, 1) := by decide +kernel
theorem dX9_doSee_72 : decode cX9_doSee 72 = .ok (.aload_n 0, 1) := by decide +kernel
theorem dX9_doSee_73 : decode cX9_doSee 73 = .ok (.getfield 22, 3) := by decide +kernel
theorem dX9_doSee_76 : decode cX9_doSee 76 = .ok (.iload_n 2, 1) := by decide +kernel
theorem dX9_doSee_77 : decode cX9_doSee 77 = .ok (.iaload, 1) := by decide +kernel
theorem dX9_doSee_78 : decode cX9_doSee 78 = .ok (.invokevirtual 185, 3) := by decide +kernel
theorem dX9_doSee_81 : decode cX9_doSee 81 = .ok (.istore 8, 2) := by decide +kernel
theorem dX9_doSee_83 : decode cX9_doSee 83 = .ok (.iload 4, 2) := by decide +kernel
theorem dX9_doSee_85 : decode cX9_doSee 85 = .ok (.iconst 0, 1) := by decide +kernel
theorem dX9_doSee_86 : decode cX9_doSee 86 = .ok (.invokestatic 198, 3) := by decide +kernel
theorem dX9_doSee_89 : decode cX9_doSee 89 = .ok (.aload_n 0, 1) := by decide +kernel
theorem dX9_doSee_90 : decode cX9_doSee 90 = .ok (.getfield 167, 3) := by decide +kernel
theorem dX9_doSee_93 : decode cX9_doSee 93 = .ok (.if_icmp .gt 20, 3) := by decide +kernel
theorem dX9_doSee_96 : decode cX9_doSee 96 = .ok (.iload 5, 2) := by decide +kernel
theorem dX9_doSee_98 : decode cX9_doSee 98 = .ok (.iconst 0, 1) := by decide +kernel
theorem dX9_doSee_99 : decode cX9_doSee 99 = .ok (.invokestatic 198, 3) := by decide +kernel
theorem dX9_doSee_102 : decode cX9_doSee 102 = .ok (.aload_n 0, 1) := by decide +kernel
theorem dX9_doSee_103 : decode cX9_doSee 103 = .ok (.getfield 167, 3) := by decide +kernel
theorem dX9_doSee_106 : decode cX9_doSee 106 = .ok (.if_icmp .gt 7, 3) := by decide +kernel
theorem dX9_doSee_109 : decode cX9_doSee 109 = .ok (.iconst 1, 1) := by decide +kernel
theorem dX9_doSee_110 : decode cX9_doSee 110 = .ok (.goto 4, 3) := by decide +kernel
theorem dX9_doSee_113 : decode cX9_doSee 113 = .ok (.iconst 0, 1) := by decide +kernel
theorem dX9_doSee_114 : decode cX9_doSee 114 = .ok (.istore 9, 2) := by decide +kernel
theorem dX9_doSee_116 : decode cX9_doSee 116 = .ok (.iconst 1, 1) := by decide +kernel
theorem dX9_doSee_117 : decode cX9_doSee 117 = .ok (.istore 10, 2) := by decide +kernel
theorem dX9_doSee_119 : decode cX9_doSee 119 = .ok (.iload 10, 2) := by decide +kernel
theorem dX9_doSee_121 : decode cX9_doSee 121 = .ok (.iload 6, 2) := by decide +kernel
theorem dX9_doSee_123 : decode cX9_doSee 123 = .ok (.if_icmp .ge 73, 3) := by decide +kernel
theorem dX9_doSee_126 : decode cX9_doSee 126 = .ok (.iload 9, 2) := by decide +kernel
theorem dX9_doSee_128 : decode cX9_doSee 128 = .ok (.ifCond .eq 68, 3) := by decide +kernel
theorem dX9_doSee_131 : decode cX9_doSee 131 = .ok (.iload_n 3, 1) := by decide +kernel
theorem dX9_doSee_132 : decode cX9_doSee 132 = .ok (.iload 4, 2) := by decide +kernel
theorem dX9_doSee_134 : decode cX9_doSee 134 = .ok (.iload 6, 2) := by decide +kernel
theorem dX9_doSee_136 : decode cX9_doSee 136 = .ok (.idiv, 1) := by decide +kernel
theorem dX9_doSee_137 : decode cX9_doSee 137 = .ok (.iload 10, 2) := by decide +kernel
theorem dX9_doSee_139 : decode cX9_doSee 139 = .ok (.imul, 1) := by decide +kernel
theorem dX9_doSee_140 : decode cX9_doSee 140 = .ok (.aload_n 0, 1) := by decide +kernel
theorem dX9_doSee_141 : decode cX9_doSee 141 = .ok (.getfield 99, 3) := by decide +kernel
theorem dX9_doSee_144 : decode cX9_doSee 144 = .ok (.imul, 1) := by decide +kernel
theorem dX9_doSee_145 : decode cX9_doSee 145 = .ok (.iadd, 1) := by decide +kernel
theorem dX9_doSee_146 : decode cX9_doSee 146 = .ok (.iload 5, 2) := by decide +kernel
theorem dX9_doSee_148 : decode cX9_doSee 148 = .ok (.iload 6, 2) := by decide +kernel
theorem dX9_doSee_150 : decode cX9_doSee 150 = .ok (.idiv, 1) := by decide +kernel
theorem dX9_doSee_151 : decode cX9_doSee 151 = .ok (.iload 10, 2) := by decide +kernel
theorem dX9_doSee_153 : decode cX9_doSee 153 = .ok (.imul, 1) := by decide +kernel
theorem dX9_doSee_154 : decode cX9_doSee 154 = .ok (.iadd, 1) := by decide +kernel
theorem dX9_doSee_155 : decode cX9_doSee 155 = .ok (.istore 11, 2) := by decide +kernel
theorem dX9_doSee_157 : decode cX9_doSee 157 = .ok (.aload_n 0, 1) := by decide +kernel
theorem dX9_doSee_158 : decode cX9_doSee 158 = .ok (.iload 11, 2) := by decide +kernel
theorem dX9_doSee_160 : decode cX9_doSee 160 = .ok (.invokevirtual 185, 3) := by decide +kernel
theorem dX9_doSee_163 : decode cX9_doSee 163 = .ok (.iload 6, 2) := by decide +kernel
theorem dX9_doSee_165 : decode cX9_doSee 165 = .ok (.imul, 1) := by decide +kernel
theorem dX9_doSee_166 : decode cX9_doSee 166 = .ok (.iload 7, 2) := by decide +kernel
theorem dX9_doSee_168 : decode cX9_doSee 168 = .ok (.iload 6, 2) := by decide +kernel
theorem dX9_doSee_170 : decode cX9_doSee 170 = .ok (.imul, 1) := by decide +kernel
theorem dX9_doSee_171 : decode cX9_doSee 171 = .ok (.iload 10, 2) := by decide +kernel
theorem dX9_doSee_173 : decode cX9_doSee 173 = .ok (.iload 8, 2) := by decide +kernel
theorem dX9_doSee_175 : decode cX9_doSee 175 = .ok (.iload 7, 2) := by decide +kernel
theorem dX9_doSee_177 : decode cX9_doSee 177 = .ok (.isub, 1) := by decide +kernel
theorem dX9_doSee_178 : decode cX9_doSee 178 = .ok (.imul, 1) := by decide +kernel
theorem dX9_doSee_179 : decode cX9_doSee 179 = .ok (.iadd, 1) := by decide +kernel
theorem dX9_doSee_180 : decode cX9_doSee 180 = .ok (.if_icmp .ge 7, 3) := by decide +kernel
theorem dX9_doSee_183 : decode cX9_doSee 183 = .ok (.iconst 1, 1) := by decide +kernel
theorem dX9_doSee_184 : decode cX9_doSee 184 = .ok (.goto 4, 3) := by decide +kernel
theorem dX9_doSee_187 : decode cX9_doSee 187 = .ok (.iconst 0, 1) := by decide +kernel
theorem dX9_doSee_188 : decode cX9_doSee 188 = .ok (.istore 9, 2) := by decide +kernel
theorem dX9_doSee_190 : decode cX9_doSee 190 = .ok (.iinc 10 1, 3) := by decide +kernel
theorem dX9_doSee_193 : decode cX9_doSee 193 = .ok (.goto (-74), 3) := by decide +kernel
theorem dX9_doSee_196 : decode cX9_doSee 196 = .ok (.iload 9, 2) := by decide +kernel
theorem dX9_doSee_198 : decode cX9_doSee 198 = .ok (.ireturn, 1) := by decide +kernel
set_option maxRecDepth 20000 in
theorem ggX9_see_X9_noHouse : GoodIn wsX9_see wsX9_noHouse := goodIn_r _ [5, 6, 7, 8, 4, 9, 45, 46, 47, 48, 49, 50, 51, 52, 53, 54, 55, 56, 57, 58, 59, 60, 61, 62, 63, 64, 65, 66, 67, 68, 69, 70, 71, 72, 73, 74, 75, 76, 77, 78, 79, 80, 81, 82, 83, 84, 85] (by decide +kernel) (by decide +kernel)
set_option maxRecDepth 20000 in
theorem gX9_see_X9_noHouse : GoodIn wsX9_see (wsV RX9 188 RX9 yX9_noHouse wsX9_noHouse) := goodIn_app (goodIn_of _ (by decide +kernel)) ggX9_see_X9_noHouse
set_option maxRecDepth 20000 in
theorem ggX9_see_X9_doSee : GoodIn wsX9_see wsX9_doSee := goodIn_r _ [13, 14, 15, 16, 17, 18, 4, 19, 20, 21, 22, 23, 24, 25, 26, 27, 28, 29, 30, 31, 32, 33, 34, 35, 36, 37, 38, 39, 40, 41, 42, 43, 44, 45, 46, 47, 48, 49, 50, 51, 52, 53, 54, 55, 56, 57, 58, 59, 60, 61, 62, 63, 64, 65, 66, 67, 68, 69, 70, 71, 72, 73, 74, 75, 76, 77, 78, 79, 80, 81, 82, 83, 84, 85] (by decide +kernel) (by decide +kernel)
set_option maxRecDepth 20000 in
theorem gX9_see_X9_doSee : GoodIn wsX9_see (wsV RX9 204 RX9 yX9_doSee wsX9_doSee) := goodIn_app (goodIn_of _ (by decide +kernel)) ggX9_see_X9_doSee
theorem dX9_see_0 : decode cX9_see 0 = .ok (.aload_n 0, 1) := by decide +kernel
theorem dX9_see_1 : decode cX9_see 1 = .ok (.iload_n 1, 1) := by decide +kernel
theorem dX9_see_2 : decode cX9_see 2 = .ok (.invokevirtual 188, 3) := by decide +kernel
theorem dX9_see_5 : decode cX9_see 5 = .ok (.ifCond .ne 16, 3) := by decide +kernel
theorem dX9_see_8 : decode cX9_see 8 = .ok (.aload_n 0, 1) := by decide +kernel
theorem dX9_see_9 : decode cX9_see 9 = .ok (.iload_n 2, 1) := by decide +kernel
theorem dX9_see_10 : decode cX9_see 10 = .ok (.invokevirtual 188, 3) := by decide +kernel
theorem dX9_see_13 : decode cX9_see 13 = .ok (.ifCond .ne 8, 3) := by decide +kernel
theorem dX9_see_16 : decode cX9_see 16 = .ok (.iload_n 1, 1) := by decide +kernel
theorem dX9_see_17 : decode cX9_see 17 = .ok (.iload_n 2, 1) := by decide +kernel
theorem dX9_see_18 : decode cX9_see 18 = .ok (.if_icmp .ne 5, 3) := by decide +kernel
theorem dX9_see_21 : decode cX9_see 21 = .ok (.iconst (-1), 1) := by decide +kernel
theorem dX9_see_22 : decode cX9_see 22 = .ok (.ireturn, 1) := by decide +kernel
theorem dX9_see_23 : decode cX9_see 23 = .ok (.aload_n 0, 1) := by decide +kernel
theorem dX9_see_24 : decode cX9_see 24 = .ok (.iload_n 1, 1) := by decide +kernel
theorem dX9_see_25 : decode cX9_see 25 = .ok (.iload_n 2, 1) := by decide +kernel
theorem dX9_see_26 : decode cX9_see 26 = .ok (.invokevirtual 204, 3) := by decide +kernel
theorem dX9_see_29 : decode cX9_see 29 = .ok (.ifCond .eq 7, 3) := by decide +kernel
theorem dX9_see_32 : decode cX9_see 32 = .ok (.iconst 1, 1) := by decide +kernel
theorem dX9_see_33 : decode cX9_see 33 = .ok (.goto 4, 3) := by decide +kernel
theorem dX9_see_36 : decode cX9_see 36 = .ok (.iconst 0, 1) := by decide +kernel
theorem dX9_see_37 : decode cX9_see 37 = .ok (.ireturn, 1) := by decide +kernel
set_option maxRecDepth 20000 in
theorem ggX9_numberOf_X9_doSee : GoodIn wsX9_numberOf wsX9_doSee := goodIn_r _ [6, 7, 8, 9, 10, 11, 5, 12, 13, 14, 15, 16, 17, 18, 19, 20, 21, 22, 23, 24, 25, 26, 27, 28, 29, 30, 31, 32, 33, 34, 35, 36, 37, 38, 39, 40, 41, 42, 43, 44, 45, 46, 47, 48, 49, 50, 51, 52, 53, 54, 55, 56, 57, 58, 59, 60, 61, 62, 63, 64, 65, 66, 67, 68, 69, 70, 71, 72, 73, 74, 75, 76, 77, 78] (by decide +kernel) (by decide +kernel)
set_option maxRecDepth 20000 in
theorem gX9_numberOf_X9_doSee : GoodIn wsX9_numberOf (wsV RX9 204 RX9 yX9_doSee wsX9_doSee) := goodIn_app (goodIn_of _ (by decide +kernel)) ggX9_numberOf_X9_doSee
theorem dX9_numberOf_0 : decode cX9_numberOf 0 = .ok (.iconst 0, 1) := by decide +kernel
theorem dX9_numberOf_1 : decode cX9_numberOf 1 = .ok (.istore_n 2, 1) := by decide +kernel
theorem dX9_numberOf_2 : decode cX9_numberOf 2 = .ok (.iconst 0, 1) := by decide +kernel
theorem dX9_numberOf_3 : decode cX9_numberOf 3 = .ok (.istore_n 3, 1) := by decide +kernel
theorem dX9_numberOf_4 : decode cX9_numberOf 4 = .ok (.iload_n 3, 1) := by decide +kernel
theorem dX9_numberOf_5 : decode cX9_numberOf 5 = .ok (.aload_n 0, 1) := by decide +kernel
theorem dX9_numberOf_6 : decode cX9_numberOf 6 = .ok (.getfield 110, 3) := by decide +kernel
theorem dX9_numberOf_9 : decode cX9_numberOf 9 = .ok (.if_icmp .ge 31, 3) := by decide +kernel
theorem dX9_numberOf_12 : decode cX9_numberOf 12 = .ok (.iload_n 2, 1) := by decide +kernel
theorem dX9_numberOf_13 : decode cX9_numberOf 13 = .ok (.iload_n 3, 1) := by decide +kernel
theorem dX9_numberOf_14 : decode cX9_numberOf 14 = .ok (.iload_n 1, 1) := by decide +kernel
theorem dX9_numberOf_15 : decode cX9_numberOf 15 = .ok (.if_icmp .eq 16, 3) := by decide +kernel
theorem dX9_numberOf_18 : decode cX9_numberOf 18 = .ok (.aload_n 0, 1) := by decide +kernel
theorem dX9_numberOf_19 : decode cX9_numberOf 19 = .ok (.iload_n 1, 1) := by decide +kernel
theorem dX9_numberOf_20 : decode cX9_numberOf 20 = .ok (.iload_n 3, 1) := by decide +kernel
theorem dX9_numberOf_21 : decode cX9_numberOf 21 = .ok (.invokevirtual 204, 3) := by decide +kernel
theorem dX9_numberOf_24 : decode cX9_numberOf 24 = .ok (.ifCond .eq 7, 3) := by decide +kernel
theorem dX9_numberOf_27 : decode cX9_numberOf 27 = .ok (.iconst 1, 1) := by decide +kernel
theorem dX9_numberOf_28 : decode cX9_numberOf 28 = .ok (.goto 4, 3) := by decide +kernel
theorem dX9_numberOf_31 : decode cX9_numberOf 31 = .ok (.iconst 0, 1) := by decide +kernel
theorem dX9_numberOf_32 : decode cX9_numberOf 32 = .ok (.iadd, 1) := by decide +kernel
theorem dX9_numberOf_33 : decode cX9_numberOf 33 = .ok (.istore_n 2, 1) := by decide +kernel
theorem dX9_numberOf_34 : decode cX9_numberOf 34 = .ok (.iinc 3 1, 3) := by decide +kernel
theorem dX9_numberOf_37 : decode cX9_numberOf 37 = .ok (.goto (-33), 3) := by decide +kernel
theorem dX9_numberOf_40 : decode cX9_numberOf 40 = .ok (.iload_n 2, 1) := by decide +kernel
theorem dX9_numberOf_41 : decode cX9_numberOf 41 = .ok (.ireturn, 1) := by decide +kernel
set_option maxRecDepth 20000 in
theorem ggX9_number_X9_noHouse : GoodIn wsX9_number wsX9_noHouse := goodIn_r _ [5, 6, 7, 8, 4, 9, 49, 50, 51, 52, 53, 54, 55, 56, 57, 58, 59, 60, 61, 62, 63, 64, 65, 66, 67, 68, 69, 70, 71, 72, 73, 74, 75, 76, 77, 78, 79, 80, 81, 82, 83, 84, 85, 86, 87, 88, 89] (by decide +kernel) (by decide +kernel)
set_option maxRecDepth 20000 in
theorem gX9_number_X9_noHouse : GoodIn wsX9_number (wsV RX9 188 RX9 yX9_noHouse wsX9_noHouse) := goodIn_app (goodIn_of _ (by decide +kernel)) ggX9_number_X9_noHouse
set_option maxRecDepth 20000 in
theorem ggX9_number_X9_numberOf : GoodIn wsX9_number wsX9_numberOf := goodIn_r _ [13, 6, 14, 15, 16, 4, 17, 18, 19, 20, 21, 22, 23, 24, 25, 26, 27, 28, 29, 30, 31, 32, 33, 34, 35, 36, 37, 38, 39, 40, 41, 42, 43, 44, 45, 46, 47, 48, 49, 50, 51, 52, 53, 54, 55, 56, 57, 58, 59, 60, 61, 62, 63, 64, 65, 66, 67, 68, 69, 70, 71, 72, 73, 74, 75, 76, 77, 78, 79, 80, 81, 82, 83, 84, 85, 86, 87, 88, 89] (by decide +kernel) (by decide +kernel)
set_option maxRecDepth 20000 in
theorem gX9_number_X9_numberOf : GoodIn wsX9_number (wsV RX9 207 RX9 yX9_numberOf wsX9_numberOf) := goodIn_app (goodIn_of _ (by decide +kernel)) ggX9_number_X9_numberOf
theorem dX9_number_0 : decode cX9_number 0 = .ok (.aload_n 0, 1) := by decide +kernel
theorem dX9_number_1 : decode cX9_number 1 = .ok (.iload_n 1, 1) := by decide +kernel
theorem dX9_number_2 : decode cX9_number 2 = .ok (.invokevirtual 188, 3) := by decide +kernel
theorem dX9_number_5 : decode cX9_number 5 = .ok (.ifCond .eq 7, 3) := by decide +kernel
theorem dX9_number_8 : decode cX9_number 8 = .ok (.iconst (-1), 1) := by decide +kernel
theorem dX9_number_9 : decode cX9_number 9 = .ok (.goto 8, 3) := by decide +kernel
theorem dX9_number_12 : decode cX9_number 12 = .ok (.aload_n 0, 1) := by decide +kernel
theorem dX9_number_13 : decode cX9_number 13 = .ok (.iload_n 1, 1) := by decide +kernel
theorem dX9_number_14 : decode cX9_number 14 = .ok (.invokevirtual 207, 3) := by decide +kernel
theorem dX9_number_17 : decode cX9_number 17 = .ok (.ireturn, 1) := by decide +kernel
set_option maxRecDepth 20000 in
theorem ggX9_isNumber_X9_in : GoodIn wsX9_isNumber wsX9_in := goodIn_r _ [5] (by decide +kernel) (by decide +kernel)
set_option maxRecDepth 20000 in
theorem gX9_isNumber_X9_in : GoodIn wsX9_isNumber (va_wsS RX9 106 yX9_in wsX9_in) := goodIn_app (goodIn_of _ (by decide +kernel)) ggX9_isNumber_X9_in
theorem dX9_isNumber_0 : decode cX9_isNumber 0 = .ok (.iload_n 0, 1) := by decide +kernel
theorem dX9_isNumber_1 : decode cX9_isNumber 1 = .ok (.i2l, 1) := by decide +kernel
theorem dX9_isNumber_2 : decode cX9_isNumber 2 = .ok (.lconst 0, 1) := by decide +kernel
theorem dX9_isNumber_3 : decode cX9_isNumber 3 = .ok (.ldc2_w 210, 3) := by decide +kernel
theorem dX9_isNumber_6 : decode cX9_isNumber 6 = .ok (.invokestatic 106, 3) := by decide +kernel
theorem dX9_isNumber_9 : decode cX9_isNumber 9 = .ok (.ireturn, 1) := by decide +kernel
set_option maxRecDepth 20000 in
theorem ggX9_havingNow_X9_numberOf : GoodIn wsX9_havingNow wsX9_numberOf := goodIn_r _ [6, 1, 7, 8, 9, 5, 10, 11, 12, 13, 14, 15, 16, 17, 18, 19, 20, 21, 22, 23, 24, 25, 26, 27, 28, 29, 30, 31, 32, 33, 34, 35, 36, 37, 38, 39, 40, 41, 42, 43, 44, 45, 46, 47, 48, 49, 50, 51, 52, 53, 54, 55, 56, 57, 58, 59, 60, 61, 62, 63, 64, 65, 66, 67, 68, 69, 70, 71, 72, 73, 74, 75, 76, 77, 78, 79, 80, 81, 82] (by decide +kernel) (by decide +kernel)
set_option maxRecDepth 20000 in
theorem gX9_havingNow_X9_numberOf : GoodIn wsX9_havingNow (wsV RX9 207 RX9 yX9_numberOf wsX9_numberOf) := goodIn_app (goodIn_of _ (by decide +kernel)) ggX9_havingNow_X9_numberOf
theorem dX9_havingNow_0 : decode cX9_havingNow 0 = .ok (.iconst 0, 1) := by decide +kernel
theorem dX9_havingNow_1 : decode cX9_havingNow 1 = .ok (.istore_n 2, 1) := by decide +kernel
theorem dX9_havingNow_2 : decode cX9_havingNow 2 = .ok (.iconst 0, 1) := by decide +kernel
theorem dX9_havingNow_3 : decode cX9_havingNow 3 = .ok (.istore_n 3, 1) := by decide +kernel
theorem dX9_havingNow_4 : decode cX9_havingNow 4 = .ok (.iload_n 3, 1) := by decide +kernel
theorem dX9_havingNow_5 : decode cX9_havingNow 5 = .ok (.aload_n 0, 1) := by decide +kernel
theorem dX9_havingNow_6 : decode cX9_havingNow 6 = .ok (.getfield 110, 3) := by decide +kernel
theorem dX9_havingNow_9 : decode cX9_havingNow 9 = .ok (.if_icmp .ge 28, 3) := by decide +kernel
theorem dX9_havingNow_12 : decode cX9_havingNow 12 = .ok (.iload_n 2, 1) := by decide +kernel
theorem dX9_havingNow_13 : decode cX9_havingNow 13 = .ok (.aload_n 0, 1) := by decide +kernel
theorem dX9_havingNow_14 : decode cX9_havingNow 14 = .ok (.iload_n 3, 1) := by decide +kernel
theorem dX9_havingNow_15 : decode cX9_havingNow 15 = .ok (.invokevirtual 207, 3) := by decide +kernel
theorem dX9_havingNow_18 : decode cX9_havingNow 18 = .ok (.iload_n 1, 1) := by decide +kernel
theorem dX9_havingNow_19 : decode cX9_havingNow 19 = .ok (.if_icmp .ne 9, 3) := by decide +kernel
theorem dX9_havingNow_22 : decode cX9_havingNow 22 = .ok (.iconst 1, 1) := by decide +kernel
theorem dX9_havingNow_23 : decode cX9_havingNow 23 = .ok (.iload_n 3, 1) := by decide +kernel
theorem dX9_havingNow_24 : decode cX9_havingNow 24 = .ok (.ishl, 1) := by decide +kernel
theorem dX9_havingNow_25 : decode cX9_havingNow 25 = .ok (.goto 4, 3) := by decide +kernel
theorem dX9_havingNow_28 : decode cX9_havingNow 28 = .ok (.iconst 0, 1) := by decide +kernel
theorem dX9_havingNow_29 : decode cX9_havingNow 29 = .ok (.ior, 1) := by decide +kernel
theorem dX9_havingNow_30 : decode cX9_havingNow 30 = .ok (.istore_n 2, 1) := by decide +kernel
theorem dX9_havingNow_31 : decode cX9_havingNow 31 = .ok (.iinc 3 1, 3) := by decide +kernel
theorem dX9_havingNow_34 : decode cX9_havingNow 34 = .ok (.goto (-30), 3) := by decide +kernel
theorem dX9_havingNow_37 : decode cX9_havingNow 37 = .ok (.iload_n 2, 1) := by decide +kernel
theorem dX9_havingNow_38 : decode cX9_havingNow 38 = .ok (.ireturn, 1) := by decide +kernel
set_option maxRecDepth 20000 in
theorem ggX9_having_X9_isNumber : GoodIn wsX9_having wsX9_isNumber := goodIn_r _ [5, 6, 7, 8, 4, 9] (by decide +kernel) (by decide +kernel)
set_option maxRecDepth 20000 in
theorem gX9_having_X9_isNumber : GoodIn wsX9_having (va_wsS RX9 212 yX9_isNumber wsX9_isNumber) := goodIn_app (goodIn_of _ (by decide +kernel)) ggX9_having_X9_isNumber
set_option maxRecDepth 20000 in
theorem ggX9_having_X9_havingNow : GoodIn wsX9_having wsX9_havingNow := goodIn_r _ [13, 14, 15, 16, 17, 4, 18, 19, 20, 21, 22, 23, 24, 25, 26, 27, 28, 29, 30, 31, 32, 33, 34, 35, 36, 37, 38, 39, 40, 41, 42, 43, 44, 45, 46, 47, 48, 49, 50, 51, 52, 53, 54, 55, 56, 57, 58, 59, 60, 61, 62, 63, 64, 65, 66, 67, 68, 69, 70, 71, 72, 73, 74, 75, 76, 77, 78, 79, 80, 81, 82, 83, 84, 85, 86, 87, 88, 89, 90, 91, 92, 93, 94] (by decide +kernel) (by decide +kernel)
set_option maxRecDepth 20000 in
theorem gX9_having_X9_havingNow : GoodIn wsX9_having (wsV RX9 215 RX9 yX9_havingNow wsX9_havingNow) := goodIn_app (goodIn_of _ (by decide +kernel)) ggX9_having_X9_havingNow
theorem dX9_having_0 : decode cX9_having 0 = .ok (.iload_n 1, 1) := by decide +kernel
theorem dX9_having_1 : decode cX9_having 1 = .ok (.invokestatic 212, 3) := by decide +kernel
theorem dX9_having_4 : decode cX9_having 4 = .ok (.ifCond .ne 6, 3) := by decide +kernel
theorem dX9_having_7 : decode cX9_having 7 = .ok (.bipush (-2), 2) := by decide +kernel
theorem dX9_having_9 : decode cX9_having 9 = .ok (.ireturn, 1) := by decide +kernel
theorem dX9_having_10 : decode cX9_having 10 = .ok (.aload_n 0, 1) := by decide +kernel
theorem dX9_having_11 : decode cX9_having 11 = .ok (.getfield 96, 3) := by decide +kernel
theorem dX9_having_14 : decode cX9_having 14 = .ok (.ifCond .ne 8, 3) := by decide +kernel
theorem dX9_having_17 : decode cX9_having 17 = .ok (.bipush (-3), 2) := by decide +kernel
theorem dX9_having_19 : decode cX9_having 19 = .ok (.goto 8, 3) := by decide +kernel
theorem dX9_having_22 : decode cX9_having 22 = .ok (.aload_n 0, 1) := by decide +kernel
theorem dX9_having_23 : decode cX9_having 23 = .ok (.iload_n 1, 1) := by decide +kernel
theorem dX9_having_24 : decode cX9_having 24 = .ok (.invokevirtual 215, 3) := by decide +kernel
theorem dX9_having_27 : decode cX9_having 27 = .ok (.ireturn, 1) := by decide +kernel
set_option maxRecDepth 20000 in
theorem ggX9_alone_X9_havingNow : GoodIn wsX9_alone wsX9_havingNow := goodIn_r _ [6, 7, 8, 9, 10, 5, 11, 12, 13, 14, 15, 16, 17, 18, 19, 20, 21, 22, 23, 24, 25, 26, 27, 28, 29, 30, 31, 32, 33, 34, 35, 36, 37, 38, 39, 40, 41, 42, 43, 44, 45, 46, 50, 51, 52, 53, 54, 55, 56, 57, 58, 59, 60, 61, 62, 63, 64, 65, 66, 67, 68, 69, 70, 71, 72, 73, 74, 75, 76, 77, 78, 79, 80, 81, 82, 83, 84, 85, 86, 87, 88, 89, 90] (by decide +kernel) (by decide +kernel)
set_option maxRecDepth 20000 in
theorem gX9_alone_X9_havingNow : GoodIn wsX9_alone (wsV RX9 215 RX9 yX9_havingNow wsX9_havingNow) := goodIn_app (goodIn_of _ (by decide +kernel)) ggX9_alone_X9_havingNow
set_option maxRecDepth 20000 in
theorem ggX9_alone_X9_bits : GoodIn wsX9_alone wsX9_bits := goodIn_r _ [49] (by decide +kernel) (by decide +kernel)
set_option maxRecDepth 20000 in
theorem gX9_alone_X9_bits : GoodIn wsX9_alone (va_wsS RX9 218 yX9_bits wsX9_bits) := goodIn_app (goodIn_of _ (by decide +kernel)) ggX9_alone_X9_bits
theorem dX9_alone_0 : decode cX9_alone 0 = .ok (.aload_n 0, 1) := by decide +kernel
theorem dX9_alone_1 : decode cX9_alone 1 = .ok (.getfield 96, 3) := by decide +kernel
theorem dX9_alone_4 : decode cX9_alone 4 = .ok (.ifCond .ne 6, 3) := by decide +kernel
theorem dX9_alone_7 : decode cX9_alone 7 = .ok (.bipush (-3), 2) := by decide +kernel
theorem dX9_alone_9 : decode cX9_alone 9 = .ok (.ireturn, 1) := by decide +kernel
theorem dX9_alone_10 : decode cX9_alone 10 = .ok (.iconst 0, 1) := by decide +kernel
theorem dX9_alone_11 : decode cX9_alone 11 = .ok (.istore_n 1, 1) := by decide +kernel
theorem dX9_alone_12 : decode cX9_alone 12 = .ok (.iconst 0, 1) := by decide +kernel
theorem dX9_alone_13 : decode cX9_alone 13 = .ok (.istore_n 2, 1) := by decide +kernel
theorem dX9_alone_14 : decode cX9_alone 14 = .ok (.iload_n 2, 1) := by decide +kernel
theorem dX9_alone_15 : decode cX9_alone 15 = .ok (.bipush 8, 2) := by decide +kernel
theorem dX9_alone_17 : decode cX9_alone 17 = .ok (.if_icmp .ge 31, 3) := by decide +kernel
theorem dX9_alone_20 : decode cX9_alone 20 = .ok (.aload_n 0, 1) := by decide +kernel
theorem dX9_alone_21 : decode cX9_alone 21 = .ok (.iload_n 2, 1) := by decide +kernel
theorem dX9_alone_22 : decode cX9_alone 22 = .ok (.invokevirtual 215, 3) := by decide +kernel
theorem dX9_alone_25 : decode cX9_alone 25 = .ok (.istore_n 3, 1) := by decide +kernel
theorem dX9_alone_26 : decode cX9_alone 26 = .ok (.iload_n 1, 1) := by decide +kernel
theorem dX9_alone_27 : decode cX9_alone 27 = .ok (.iload_n 3, 1) := by decide +kernel
theorem dX9_alone_28 : decode cX9_alone 28 = .ok (.invokestatic 218, 3) := by decide +kernel
theorem dX9_alone_31 : decode cX9_alone 31 = .ok (.iconst 1, 1) := by decide +kernel
theorem dX9_alone_32 : decode cX9_alone 32 = .ok (.if_icmp .ne 7, 3) := by decide +kernel
theorem dX9_alone_35 : decode cX9_alone 35 = .ok (.iload_n 3, 1) := by decide +kernel
theorem dX9_alone_36 : decode cX9_alone 36 = .ok (.goto 4, 3) := by decide +kernel
theorem dX9_alone_39 : decode cX9_alone 39 = .ok (.iconst 0, 1) := by decide +kernel
theorem dX9_alone_40 : decode cX9_alone 40 = .ok (.ior, 1) := by decide +kernel
theorem dX9_alone_41 : decode cX9_alone 41 = .ok (.istore_n 1, 1) := by decide +kernel
theorem dX9_alone_42 : decode cX9_alone 42 = .ok (.iinc 2 1, 3) := by decide +kernel
theorem dX9_alone_45 : decode cX9_alone 45 = .ok (.goto (-31), 3) := by decide +kernel
theorem dX9_alone_48 : decode cX9_alone 48 = .ok (.iload_n 1, 1) := by decide +kernel
theorem dX9_alone_49 : decode cX9_alone 49 = .ok (.ireturn, 1) := by decide +kernel
set_option maxRecDepth 20000 in
theorem ggX9_letter_X9_isNumber : GoodIn wsX9_letter wsX9_isNumber := goodIn_r _ [6, 7, 8, 9, 5, 10] (by decide +kernel) (by decide +kernel)
set_option maxRecDepth 20000 in
theorem gX9_letter_X9_isNumber : GoodIn wsX9_letter (va_wsS RX9 212 yX9_isNumber wsX9_isNumber) := goodIn_app (goodIn_of _ (by decide +kernel)) ggX9_letter_X9_isNumber
set_option maxRecDepth 20000 in
theorem ggX9_letter_X9_havingNow : GoodIn wsX9_letter wsX9_havingNow := goodIn_r _ [14, 2, 15, 16, 17, 5, 18, 19, 20, 21, 22, 23, 24, 25, 26, 27, 28, 29, 30, 31, 32, 33, 34, 35, 36, 37, 38, 39, 40, 41, 42, 43, 44, 45, 46, 47, 48, 49, 50, 51, 52, 53, 57, 58, 59, 60, 61, 62, 63, 64, 65, 66, 67, 68, 69, 70, 71, 72, 73, 74, 75, 76, 77, 78, 79, 80, 81, 82, 83, 84, 85, 86, 87, 88, 89, 90, 91, 92, 93, 94, 95, 96, 97] (by decide +kernel) (by decide +kernel)
set_option maxRecDepth 20000 in
theorem gX9_letter_X9_havingNow : GoodIn wsX9_letter (wsV RX9 215 RX9 yX9_havingNow wsX9_havingNow) := goodIn_app (goodIn_of _ (by decide +kernel)) ggX9_letter_X9_havingNow
set_option maxRecDepth 20000 in
theorem ggX9_letter_X9_isIn : GoodIn wsX9_letter wsX9_isIn := goodIn_r _ [56] (by decide +kernel) (by decide +kernel)
set_option maxRecDepth 20000 in
theorem gX9_letter_X9_isIn : GoodIn wsX9_letter (va_wsS RX9 221 yX9_isIn wsX9_isIn) := goodIn_app (goodIn_of _ (by decide +kernel)) ggX9_letter_X9_isIn
set_option maxRecDepth 20000 in
theorem ggX9_letter_X9_doSee : GoodIn wsX9_letter wsX9_doSee := goodIn_r _ [22, 23, 24, 25, 26, 27, 5, 28, 29, 30, 31, 32, 33, 34, 35, 36, 37, 38, 39, 40, 41, 42, 43, 44, 45, 46, 47, 48, 49, 50, 51, 52, 53, 57, 58, 59, 60, 61, 62, 63, 64, 65, 66, 67, 68, 69, 70, 71, 72, 73, 74, 75, 76, 77, 78, 79, 80, 81, 82, 83, 84, 85, 86, 87, 88, 89, 90, 91, 92, 93, 94, 95, 96, 97] (by decide +kernel) (by decide +kernel)
set_option maxRecDepth 20000 in
theorem gX9_letter_X9_doSee : GoodIn wsX9_letter (wsV RX9 204 RX9 yX9_doSee wsX9_doSee) := goodIn_app (goodIn_of _ (by decide +kernel)) ggX9_letter_X9_doSee
theorem dX9_letter_0 : decode cX9_letter 0 = .ok (.iload_n 1, 1) := by decide +kernel
theorem dX9_letter_1 : decode cX9_letter 1 = .ok (.invokestatic 212, 3) := by decide +kernel
theorem dX9_letter_4 : decode cX9_letter 4 = .ok (.ifCond .eq 10, 3) := by decide +kernel
theorem dX9_letter_7 : decode cX9_letter 7 = .ok (.iload_n 2, 1) := by decide +kernel
theorem dX9_letter_8 : decode cX9_letter 8 = .ok (.invokestatic 212, 3) := by decide +kernel
theorem dX9_letter_11 : decode cX9_letter 11 = .ok (.ifCond .ne 6, 3) := by decide +kernel
theorem dX9_letter_14 : decode cX9_letter 14 = .ok (.bipush (-2), 2) := by decide +kernel
theorem dX9_letter_16 : decode cX9_letter 16 = .ok (.ireturn, 1) := by decide +kernel
theorem dX9_letter_17 : decode cX9_letter 17 = .ok (.aload_n 0, 1) := by decide +kernel
theorem dX9_letter_18 : decode cX9_letter 18 = .ok (.getfield 96, 3) := by decide +kernel
theorem dX9_letter_21 : decode cX9_letter 21 = .ok (.ifCond .ne 6, 3) := by decide +kernel
theorem dX9_letter_24 : decode cX9_letter 24 = .ok (.bipush (-3), 2) := by decide +kernel
theorem dX9_letter_26 : decode cX9_letter 26 = .ok (.ireturn, 1) := by decide +kernel
theorem dX9_letter_27 : decode cX9_letter 27 = .ok (.aload_n 0, 1) := by decide +kernel
theorem dX9_letter_28 : decode cX9_letter 28 = .ok (.iload_n 1, 1) := by decide +kernel
theorem dX9_letter_29 : decode cX9_letter 29 = .ok (.invokevirtual 215, 3) := by decide +kernel
theorem dX9_letter_32 : decode cX9_letter 32 = .ok (.istore_n 3, 1) := by decide +kernel
theorem dX9_letter_33 : decode cX9_letter 33 = .ok (.aload_n 0, 1) := by decide +kernel
theorem dX9_letter_34 : decode cX9_letter 34 = .ok (.iload_n 2, 1) := by decide +kernel
theorem dX9_letter_35 : decode cX9_letter 35 = .ok (.invokevirtual 215, 3) := by decide +kernel
theorem dX9_letter_38 : decode cX9_letter 38 = .ok (.istore 4, 2) := by decide +kernel
theorem dX9_letter_40 : decode cX9_letter 40 = .ok (.iconst 0, 1) := by decide +kernel
theorem dX9_letter_41 : decode cX9_letter 41 = .ok (.istore 5, 2) := by decide +kernel
theorem dX9_letter_43 : decode cX9_letter 43 = .ok (.iconst 0, 1) := by decide +kernel
theorem dX9_letter_44 : decode cX9_letter 44 = .ok (.istore 6, 2) := by decide +kernel
theorem dX9_letter_46 : decode cX9_letter 46 = .ok (.iload 6, 2) := by decide +kernel
theorem dX9_letter_48 : decode cX9_letter 48 = .ok (.aload_n 0, 1) := by decide +kernel
theorem dX9_letter_49 : decode cX9_letter 49 = .ok (.getfield 110, 3) := by decide +kernel
theorem dX9_letter_52 : decode cX9_letter 52 = .ok (.if_icmp .ge 89, 3) := by decide +kernel
theorem dX9_letter_55 : decode cX9_letter 55 = .ok (.iconst 0, 1) := by decide +kernel
theorem dX9_letter_56 : decode cX9_letter 56 = .ok (.istore 7, 2) := by decide +kernel
theorem dX9_letter_58 : decode cX9_letter 58 = .ok (.iload 7, 2) := by decide +kernel
theorem dX9_letter_60 : decode cX9_letter 60 = .ok (.aload_n 0, 1) := by decide +kernel
theorem dX9_letter_61 : decode cX9_letter 61 = .ok (.getfield 110, 3) := by decide +kernel
theorem dX9_letter_64 : decode cX9_letter 64 = .ok (.if_icmp .ge 71, 3) := by decide +kernel
theorem dX9_letter_67 : decode cX9_letter 67 = .ok (.iload 6, 2) := by decide +kernel
theorem dX9_letter_69 : decode cX9_letter 69 = .ok (.iload 7, 2) := by decide +kernel
theorem dX9_letter_71 : decode cX9_letter 71 = .ok (.if_icmp .eq 26, 3) := by decide +kernel
theorem dX9_letter_74 : decode cX9_letter 74 = .ok (.iload_n 3, 1) := by decide +kernel
theorem dX9_letter_75 : decode cX9_letter 75 = .ok (.iload 6, 2) := by decide +kernel
theorem dX9_letter_77 : decode cX9_letter 77 = .ok (.invokestatic 221, 3) := by decide +kernel
theorem dX9_letter_80 : decode cX9_letter 80 = .ok (.ifCond .eq 17, 3) := by decide +kernel
theorem dX9_letter_83 : decode cX9_letter 83 = .ok (.iload 4, 2) := by decide +kernel
theorem dX9_letter_85 : decode cX9_letter 85 = .ok (.iload 7, 2) := by decide +kernel
theorem dX9_letter_87 : decode cX9_letter 87 = .ok (.invokestatic 221, 3) := by decide +kernel
theorem dX9_letter_90 : decode cX9_letter 90 = .ok (.ifCond .eq 7, 3) := by decide +kernel
theorem dX9_letter_93 : decode cX9_letter 93 = .ok (.iconst 1, 1) := by decide +kernel
theorem dX9_letter_94 : decode cX9_letter 94 = .ok (.goto 4, 3) := by decide +kernel
theorem dX9_letter_97 : decode cX9_letter 97 = .ok (.iconst 0, 1) := by decide +kernel
theorem dX9_letter_98 : decode cX9_letter 98 = .ok (.istore 8, 2) := by decide +kernel
theorem dX9_letter_100 : decode cX9_letter 100 = .ok (.iload 5, 2) := by decide +kernel
theorem dX9_letter_102 : decode cX9_letter 102 = .ok (.iload 8, 2) := by decide +kernel
theorem dX9_letter_104 : decode cX9_letter 104 = .ok (.ifCond .eq 21, 3) := by decide +kernel
theorem dX9_letter_107 : decode cX9_letter 107 = .ok (.aload_n 0, 1) := by decide +kernel
theorem dX9_letter_108 : decode cX9_letter 108 = .ok (.iload 7, 2) := by decide +kernel
theorem dX9_letter_110 : decode cX9_letter 110 = .ok (.iload 6, 2) := by decide +kernel
theorem dX9_letter_112 : decode cX9_letter 112 = .ok (.invokevirtual 204, 3) := by decide +kernel
theorem dX9_letter_115 : decode cX9_letter 115 = .ok (.ifCond .eq 10, 3) := by decide +kernel
theorem dX9_letter_118 : decode cX9_letter 118 = .ok (.iconst 1, 1) := by decide +kernel
theorem dX9_letter_119 : decode cX9_letter 119 = .ok (.iload 6, 2) := by decide +kernel
theorem dX9_letter_121 : decode cX9_letter 121 = .ok (.ishl, 1) := by decide +kernel
theorem dX9_letter_122 : decode cX9_letter 122 = .ok (.goto 4, 3) := by decide +kernel
theorem dX9_letter_125 : decode cX9_letter 125 = .ok (.iconst 0, 1) := by decide +kernel
theorem dX9_letter_126 : decode cX9_letter 126 = .ok (.ior, 1) := by decide +kernel
theorem dX9_letter_127 : decode cX9_letter 127 = .ok (.istore 5, 2) := by decide +kernel
theorem dX9_letter_129 : decode cX9_letter 129 = .ok (.iinc 7 1, 3) := by decide +kernel
theorem dX9_letter_132 : decode cX9_letter 132 = .ok (.goto (-74), 3) := by decide +kernel
theorem dX9_letter_135 : decode cX9_letter 135 = .ok (.iinc 6 1, 3) := by decide +kernel
theorem dX9_letter_138 : decode cX9_letter 138 = .ok (.goto (-92), 3) := by decide +kernel
theorem dX9_letter_141 : decode cX9_letter 141 = .ok (.iload 5, 2) := by decide +kernel
theorem dX9_letter_143 : decode cX9_letter 143 = .ok (.ireturn, 1) := by decide +kernel
set_option maxRecDepth 20000 in
theorem ggX9_mean_X9_in : GoodIn wsX9_mean wsX9_in := goodIn_r _ [6] (by decide +kernel) (by decide +kernel)
set_option maxRecDepth 20000 in
theorem gX9_mean_X9_in : GoodIn wsX9_mean (va_wsS RX9 106 yX9_in wsX9_in) := goodIn_app (goodIn_of _ (by decide +kernel)) ggX9_mean_X9_in
set_option maxRecDepth 20000 in
theorem ggX9_mean_X9_lost : GoodIn wsX9_mean wsX9_lost := goodIn_r _ [9, 10] (by decide +kernel) (by decide +kernel)
set_option maxRecDepth 20000 in
theorem gX9_mean_X9_lost : GoodIn wsX9_mean (va_wsS RX9 92 yX9_lost wsX9_lost) := goodIn_app (goodIn_of _ (by decide +kernel)) ggX9_mean_X9_lost
set_option maxRecDepth 20000 in
theorem ggX9_mean_X9_numberOf : GoodIn wsX9_mean wsX9_numberOf := goodIn_r _ [14, 2, 15, 16, 17, 5, 18, 19, 20, 21, 22, 23, 24, 25, 26, 27, 28, 29, 30, 31, 32, 33, 34, 35, 36, 37, 38, 39, 40, 41, 42, 43, 44, 45, 46, 47, 48, 49, 50, 51, 52, 53, 54, 55, 56, 57, 58, 59, 60, 61, 62, 63, 64, 65, 66, 67, 68, 69, 70, 71, 72, 73, 74, 75, 76, 77, 78, 79, 80, 81, 82, 83, 84, 85, 86, 87, 88, 89, 90] (by decide +kernel) (by decide +kernel)
set_option maxRecDepth 20000 in
theorem gX9_mean_X9_numberOf : GoodIn wsX9_mean (wsV RX9 207 RX9 yX9_numberOf wsX9_numberOf) := goodIn_app (goodIn_of _ (by decide +kernel)) ggX9_mean_X9_numberOf
set_option maxRecDepth 20000 in
theorem ggX9_mean_X9_common : GoodIn wsX9_mean wsX9_common := goodIn_r _ [27] (by decide +kernel) (by decide +kernel)
set_option maxRecDepth 20000 in
theorem gX9_mean_X9_common : GoodIn wsX9_mean (va_wsS RX9 201 yX9_common wsX9_common) := goodIn_app (goodIn_of _ (by decide +kernel)) ggX9_mean_X9_common
theorem dX9_mean_0 : decode cX9_mean 0 = .ok (.iload_n 1, 1) := by decide +kernel
theorem dX9_mean_1 : decode cX9_mean 1 = .ok (.i2l, 1) := by decide +kernel
theorem dX9_mean_2 : decode cX9_mean 2 = .ok (.lconst 0, 1) := by decide +kernel
theorem dX9_mean_3 : decode cX9_mean 3 = .ok (.lconst 1, 1) := by decide +kernel
theorem dX9_mean_4 : decode cX9_mean 4 = .ok (.invokestatic 106, 3) := by decide +kernel
theorem dX9_mean_7 : decode cX9_mean 7 = .ok (.ifCond .eq 10, 3) := by decide +kernel
theorem dX9_mean_10 : decode cX9_mean 10 = .ok (.aload_n 0, 1) := by decide +kernel
theorem dX9_mean_11 : decode cX9_mean 11 = .ok (.getfield 96, 3) := by decide +kernel
theorem dX9_mean_14 : decode cX9_mean 14 = .ok (.ifCond .ne 7, 3) := by decide +kernel
theorem dX9_mean_17 : decode cX9_mean 17 = .ok (.invokestatic 92, 3) := by decide +kernel
theorem dX9_mean_20 : decode cX9_mean 20 = .ok (.lreturn, 1) := by decide +kernel
theorem dX9_mean_21 : decode cX9_mean 21 = .ok (.aload_n 0, 1) := by decide +kernel
theorem dX9_mean_22 : decode cX9_mean 22 = .ok (.getfield 110, 3) := by decide +kernel
theorem dX9_mean_25 : decode cX9_mean 25 = .ok (.ifCond .ne 6, 3) := by decide +kernel
theorem dX9_mean_28 : decode cX9_mean 28 = .ok (.iload_n 1, 1) := by decide +kernel
theorem dX9_mean_29 : decode cX9_mean 29 = .ok (.i2l, 1) := by decide +kernel
theorem dX9_mean_30 : decode cX9_mean 30 = .ok (.lreturn, 1) := by decide +kernel
theorem dX9_mean_31 : decode cX9_mean 31 = .ok (.iconst 0, 1) := by decide +kernel
theorem dX9_mean_32 : decode cX9_mean 32 = .ok (.istore_n 2, 1) := by decide +kernel
theorem dX9_mean_33 : decode cX9_mean 33 = .ok (.iconst 0, 1) := by decide +kernel
theorem dX9_mean_34 : decode cX9_mean 34 = .ok (.istore_n 3, 1) := by decide +kernel
theorem dX9_mean_35 : decode cX9_mean 35 = .ok (.iload_n 3, 1) := by decide +kernel
theorem dX9_mean_36 : decode cX9_mean 36 = .ok (.aload_n 0, 1) := by decide +kernel
theorem dX9_mean_37 : decode cX9_mean 37 = .ok (.getfield 110, 3) := by decide +kernel
theorem dX9_mean_40 : decode cX9_mean 40 = .ok (.if_icmp .ge 17, 3) := by decide +kernel
theorem dX9_mean_43 : decode cX9_mean 43 = .ok (.iload_n 2, 1) := by decide +kernel
theorem dX9_mean_44 : decode cX9_mean 44 = .ok (.aload_n 0, 1) := by decide +kernel
theorem dX9_mean_45 : decode cX9_mean 45 = .ok (.iload_n 3, 1) := by decide +kernel
theorem dX9_mean_46 : decode cX9_mean 46 = .ok (.invokevirtual 207, 3) := by decide +kernel
theorem dX9_mean_49 : decode cX9_mean 49 = .ok (.iadd, 1) := by decide +kernel
theorem dX9_mean_50 : decode cX9_mean 50 = .ok (.istore_n 2, 1) := by decide +kernel
theorem dX9_mean_51 : decode cX9_mean 51 = .ok (.iinc 3 1, 3) := by decide +kernel
theorem dX9_mean_54 : decode cX9_mean 54 = .ok (.goto (-19), 3) := by decide +kernel
theorem dX9_mean_57 : decode cX9_mean 57 = .ok (.iload_n 1, 1) := by decide +kernel
theorem dX9_mean_58 : decode cX9_mean 58 = .ok (.ifCond .ne 7, 3) := by decide +kernel
theorem dX9_mean_61 : decode cX9_mean 61 = .ok (.iload_n 2, 1) := by decide +kernel
theorem dX9_mean_62 : decode cX9_mean 62 = .ok (.goto 7, 3) := by decide +kernel
theorem dX9_mean_65 : decode cX9_mean 65 = .ok (.aload_n 0, 1) := by decide +kernel
theorem dX9_mean_66 : decode cX9_mean 66 = .ok (.getfield 110, 3) := by decide +kernel
theorem dX9_mean_69 : decode cX9_mean 69 = .ok (.iload_n 2, 1) := by decide +kernel
theorem dX9_mean_70 : decode cX9_mean 70 = .ok (.aload_n 0, 1) := by decide +kernel
theorem dX9_mean_71 : decode cX9_mean 71 = .ok (.getfield 110, 3) := by decide +kernel
theorem dX9_mean_74 : decode cX9_mean 74 = .ok (.invokestatic 201, 3) := by decide +kernel
theorem dX9_mean_77 : decode cX9_mean 77 = .ok (.idiv, 1) := by decide +kernel
theorem dX9_mean_78 : decode cX9_mean 78 = .ok (.i2l, 1) := by decide +kernel
theorem dX9_mean_79 : decode cX9_mean 79 = .ok (.lreturn, 1) := by decide +kernel
set_option maxRecDepth 20000 in
theorem ggX9_walled_X9_noHouse : GoodIn wsX9_walled wsX9_noHouse := goodIn_r _ [7, 8, 9, 10, 6, 11, 58, 59, 60, 61, 62, 63, 64, 65, 66, 67, 68, 69, 70, 71, 72, 73, 74, 75, 76, 77, 78, 79, 80, 81, 82, 83, 84, 85, 86, 87, 88, 89, 90, 91, 92, 93, 94, 95, 96, 97, 98] (by decide +kernel) (by decide +kernel)
set_option maxRecDepth 20000 in
theorem gX9_walled_X9_noHouse : GoodIn wsX9_walled (wsV RX9 188 RX9 yX9_noHouse wsX9_noHouse) := goodIn_app (goodIn_of _ (by decide +kernel)) ggX9_walled_X9_noHouse
set_option maxRecDepth 20000 in
theorem ggX9_walled_X9_isNumber : GoodIn wsX9_walled wsX9_isNumber := goodIn_r _ [14, 15, 9, 10, 6, 11] (by decide +kernel) (by decide +kernel)
set_option maxRecDepth 20000 in
theorem gX9_walled_X9_isNumber : GoodIn wsX9_walled (va_wsS RX9 212 yX9_isNumber wsX9_isNumber) := goodIn_app (goodIn_of _ (by decide +kernel)) ggX9_walled_X9_isNumber
set_option maxRecDepth 20000 in
theorem ggX9_walled_X9_cells : GoodIn wsX9_walled wsX9_cells := goodIn_r _ [19, 20, 21, 58, 59, 60, 61, 62, 63, 64, 65, 66, 67, 68, 69, 70, 71, 72, 73, 74, 75, 76, 77, 78, 79, 80, 81, 82, 83, 84, 85, 86, 87, 88, 89, 90, 91, 92, 93, 94, 95, 96, 97, 98] (by decide +kernel) (by decide +kernel)
set_option maxRecDepth 20000 in
theorem gX9_walled_X9_cells : GoodIn wsX9_walled (wsV RX9 102 RX9 yX9_cells wsX9_cells) := goodIn_app (goodIn_of _ (by decide +kernel)) ggX9_walled_X9_cells
set_option maxRecDepth 20000 in
theorem ggX9_walled_X9_numberOf : GoodIn wsX9_walled wsX9_numberOf := goodIn_r _ [25, 8, 26, 27, 28, 6, 29, 30, 21, 31, 32, 33, 34, 35, 36, 37, 38, 39, 40, 41, 1, 2, 42, 43, 44, 45, 46, 47, 48, 49, 50, 51, 52, 53, 54, 55, 56, 57, 58, 59, 60, 61, 62, 63, 64, 65, 66, 67, 68, 69, 70, 71, 72, 73, 74, 75, 76, 77, 78, 79, 80, 81, 82, 83, 84, 85, 86, 87, 88, 89, 90, 91, 92, 93, 94, 95, 96, 97, 98] (by decide +kernel) (by decide +kernel)
set_option maxRecDepth 20000 in
theorem gX9_walled_X9_numberOf : GoodIn wsX9_walled (wsV RX9 207 RX9 yX9_numberOf wsX9_numberOf) := goodIn_app (goodIn_of _ (by decide +kernel)) ggX9_walled_X9_numberOf
theorem dX9_walled_0 : decode cX9_walled 0 = .ok (.aload_n 0, 1) := by decide +kernel
theorem dX9_walled_1 : decode cX9_walled 1 = .ok (.iload_n 1, 1) := by decide +kernel
theorem dX9_walled_2 : decode cX9_walled 2 = .ok (.invokevirtual 188, 3) := by decide +kernel
theorem dX9_walled_5 : decode cX9_walled 5 = .ok (.ifCond .eq 5, 3) := by decide +kernel
theorem dX9_walled_8 : decode cX9_walled 8 = .ok (.iconst (-1), 1) := by decide +kernel
theorem dX9_walled_9 : decode cX9_walled 9 = .ok (.ireturn, 1) := by decide +kernel
theorem dX9_walled_10 : decode cX9_walled 10 = .ok (.iload_n 2, 1) := by decide +kernel
theorem dX9_walled_11 : decode cX9_walled 11 = .ok (.invokestatic 212, 3) := by decide +kernel
theorem dX9_walled_14 : decode cX9_walled 14 = .ok (.ifCond .ne 6, 3) := by decide +kernel
theorem dX9_walled_17 : decode cX9_walled 17 = .ok (.bipush (-2), 2) := by decide +kernel
theorem dX9_walled_19 : decode cX9_walled 19 = .ok (.ireturn, 1) := by decide +kernel
theorem dX9_walled_20 : decode cX9_walled 20 = .ok (.iconst 1, 1) := by decide +kernel
theorem dX9_walled_21 : decode cX9_walled 21 = .ok (.istore_n 3, 1) := by decide +kernel
theorem dX9_walled_22 : decode cX9_walled 22 = .ok (.iload_n 3, 1) := by decide +kernel
theorem dX9_walled_23 : decode cX9_walled 23 = .ok (.bipush 10, 2) := by decide +kernel
theorem dX9_walled_25 : decode cX9_walled 25 = .ok (.if_icmp .ge 92, 3) := by decide +kernel
theorem dX9_walled_28 : decode cX9_walled 28 = .ok (.iconst 0, 1) := by decide +kernel
theorem dX9_walled_29 : decode cX9_walled 29 = .ok (.istore 4, 2) := by decide +kernel
theorem dX9_walled_31 : decode cX9_walled 31 = .ok (.iload 4, 2) := by decide +kernel
theorem dX9_walled_33 : decode cX9_walled 33 = .ok (.aload_n 0, 1) := by decide +kernel
theorem dX9_walled_34 : decode cX9_walled 34 = .ok (.invokevirtual 102, 3) := by decide +kernel
theorem dX9_walled_37 : decode cX9_walled 37 = .ok (.if_icmp .ge 74, 3) := by decide +kernel
theorem dX9_walled_40 : decode cX9_walled 40 = .ok (.aload_n 0, 1) := by decide +kernel
theorem dX9_walled_41 : decode cX9_walled 41 = .ok (.getfield 13, 3) := by decide +kernel
theorem dX9_walled_44 : decode cX9_walled 44 = .ok (.iload 4, 2) := by decide +kernel
theorem dX9_walled_46 : decode cX9_walled 46 = .ok (.iaload, 1) := by decide +kernel
theorem dX9_walled_47 : decode cX9_walled 47 = .ok (.ifCond .ne 58, 3) := by decide +kernel
theorem dX9_walled_50 : decode cX9_walled 50 = .ok (.aload_n 0, 1) := by decide +kernel
theorem dX9_walled_51 : decode cX9_walled 51 = .ok (.getfield 16, 3) := by decide +kernel
theorem dX9_walled_54 : decode cX9_walled 54 = .ok (.iload 4, 2) := by decide +kernel
theorem dX9_walled_56 : decode cX9_walled 56 = .ok (.iaload, 1) := by decide +kernel
theorem dX9_walled_57 : decode cX9_walled 57 = .ok (.istore 5, 2) := by decide +kernel
theorem dX9_walled_59 : decode cX9_walled 59 = .ok (.aload_n 0, 1) := by decide +kernel
theorem dX9_walled_60 : decode cX9_walled 60 = .ok (.getfield 16, 3) := by decide +kernel
theorem dX9_walled_63 : decode cX9_walled 63 = .ok (.iload 4, 2) := by decide +kernel
theorem dX9_walled_65 : decode cX9_walled 65 = .ok (.iload_n 3, 1) := by decide +kernel
theorem dX9_walled_66 : decode cX9_walled 66 = .ok (.iastore, 1) := by decide +kernel
theorem dX9_walled_67 : decode cX9_walled 67 = .ok (.aload_n 0, 1) := by decide +kernel
theorem dX9_walled_68 : decode cX9_walled 68 = .ok (.iload_n 1, 1) := by decide +kernel
theorem dX9_walled_69 : decode cX9_walled 69 = .ok (.invokevirtual 207, 3) := by decide +kernel
theorem dX9_walled_72 : decode cX9_walled 72 = .ok (.iload_n 2, 1) := by decide +kernel
theorem dX9_walled_73 : decode cX9_walled 73 = .ok (.if_icmp .ne 7, 3) := by decide +kernel
theorem dX9_walled_76 : decode cX9_walled 76 = .ok (.iconst 1, 1) := by decide +kernel
theorem dX9_walled_77 : decode cX9_walled 77 = .ok (.goto 4, 3) := by decide +kernel
theorem dX9_walled_80 : decode cX9_walled 80 = .ok (.iconst 0, 1) := by decide +kernel
theorem dX9_walled_81 : decode cX9_walled 81 = .ok (.istore 6, 2) := by decide +kernel
theorem dX9_walled_83 : decode cX9_walled 83 = .ok (.aload_n 0, 1) := by decide +kernel
theorem dX9_walled_84 : decode cX9_walled 84 = .ok (.getfield 16, 3) := by decide +kernel
theorem dX9_walled_87 : decode cX9_walled 87 = .ok (.iload 4, 2) := by decide +kernel
theorem dX9_walled_89 : decode cX9_walled 89 = .ok (.iload 5, 2) := by decide +kernel
theorem dX9_walled_91 : decode cX9_walled 91 = .ok (.iastore, 1) := by decide +kernel
theorem dX9_walled_92 : decode cX9_walled 92 = .ok (.iload 6, 2) := by decide +kernel
theorem dX9_walled_94 : decode cX9_walled 94 = .ok (.ifCond .eq 11, 3) := by decide +kernel
theorem dX9_walled_97 : decode cX9_walled 97 = .ok (.bipush 100, 2) := by decide +kernel
theorem dX9_walled_99 : decode cX9_walled 99 = .ok (.iload_n 3, 1) := by decide +kernel
theorem dX9_walled_100 : decode cX9_walled 100 = .ok (.imul, 1) := by decide +kernel
theorem dX9_walled_101 : decode cX9_walled 101 = .ok (.iload 4, 2) := by decide +kernel
theorem dX9_walled_103 : decode cX9_walled 103 = .ok (.iadd, 1) := by decide +kernel
theorem dX9_walled_104 : decode cX9_walled 104 = .ok (.ireturn, 1) := by decide +kernel
theorem dX9_walled_105 : decode cX9_walled 105 = .ok (.iinc 4 1, 3) := by decide +kernel
theorem dX9_walled_108 : decode cX9_walled 108 = .ok (.goto (-77), 3) := by decide +kernel
theorem dX9_walled_111 : decode cX9_walled 111 = .ok (.iinc 3 1, 3) := by decide +kernel
theorem dX9_walled_114 : decode cX9_walled 114 = .ok (.goto (-92), 3) := by decide +kernel
theorem dX9_walled_117 : decode cX9_walled 117 = .ok (.bipush (-9), 2) := by decide +kernel
theorem dX9_walled_119 : decode cX9_walled 119 = .ok (.ireturn, 1) := by decide +kernel
set_option maxRecDepth 20000 in
theorem ggX9_raised_X9_noHouse : GoodIn wsX9_raised wsX9_noHouse := goodIn_r _ [6, 7, 8, 9, 5, 10, 53, 54, 55, 56, 57, 58, 59, 60, 61, 62, 63, 64, 65, 66, 67, 68, 69, 70, 71, 72, 73, 74, 75, 76, 77, 78, 79, 80, 81, 82, 83, 84, 85, 86, 87, 88, 89, 90, 91, 92, 93] (by decide +kernel) (by decide +kernel)
set_option maxRecDepth 20000 in
theorem gX9_raised_X9_noHouse : GoodIn wsX9_raised (wsV RX9 188 RX9 yX9_noHouse wsX9_noHouse) := goodIn_app (goodIn_of _ (by decide +kernel)) ggX9_raised_X9_noHouse
set_option maxRecDepth 20000 in
theorem ggX9_raised_X9_isNumber : GoodIn wsX9_raised wsX9_isNumber := goodIn_r _ [13, 14, 8, 9, 5, 10] (by decide +kernel) (by decide +kernel)
set_option maxRecDepth 20000 in
theorem gX9_raised_X9_isNumber : GoodIn wsX9_raised (va_wsS RX9 212 yX9_isNumber wsX9_isNumber) := goodIn_app (goodIn_of _ (by decide +kernel)) ggX9_raised_X9_isNumber
set_option maxRecDepth 20000 in
theorem ggX9_raised_X9_numberOf : GoodIn wsX9_raised wsX9_numberOf := goodIn_r _ [18, 7, 19, 20, 21, 5, 22, 23, 24, 25, 26, 27, 28, 29, 30, 31, 32, 33, 34, 35, 36, 37, 38, 39, 40, 41, 42, 43, 1, 44, 45, 46, 47, 48, 49, 50, 51, 52, 53, 54, 55, 56, 57, 58, 59, 60, 61, 62, 63, 64, 65, 66, 67, 68, 69, 70, 71, 72, 73, 74, 75, 76, 77, 78, 79, 80, 81, 82, 83, 84, 85, 86, 87, 88, 89, 90, 91, 92, 93] (by decide +kernel) (by decide +kernel)
set_option maxRecDepth 20000 in
theorem gX9_raised_X9_numberOf : GoodIn wsX9_raised (wsV RX9 207 RX9 yX9_numberOf wsX9_numberOf) := goodIn_app (goodIn_of _ (by decide +kernel)) ggX9_raised_X9_numberOf
theorem dX9_raised_0 : decode cX9_raised 0 = .ok (.aload_n 0, 1) := by decide +kernel
theorem dX9_raised_1 : decode cX9_raised 1 = .ok (.iload_n 1, 1) := by decide +kernel
theorem dX9_raised_2 : decode cX9_raised 2 = .ok (.invokevirtual 188, 3) := by decide +kernel
theorem dX9_raised_5 : decode cX9_raised 5 = .ok (.ifCond .eq 5, 3) := by decide +kernel
theorem dX9_raised_8 : decode cX9_raised 8 = .ok (.iconst (-1), 1) := by decide +kernel
theorem dX9_raised_9 : decode cX9_raised 9 = .ok (.ireturn, 1) := by decide +kernel
theorem dX9_raised_10 : decode cX9_raised 10 = .ok (.iload_n 2, 1) := by decide +kernel
theorem dX9_raised_11 : decode cX9_raised 11 = .ok (.invokestatic 212, 3) := by decide +kernel
theorem dX9_raised_14 : decode cX9_raised 14 = .ok (.ifCond .ne 6, 3) := by decide +kernel
theorem dX9_raised_17 : decode cX9_raised 17 = .ok (.bipush (-2), 2) := by decide +kernel
theorem dX9_raised_19 : decode cX9_raised 19 = .ok (.ireturn, 1) := by decide +kernel
theorem dX9_raised_20 : decode cX9_raised 20 = .ok (.aload_n 0, 1) := by decide +kernel
theorem dX9_raised_21 : decode cX9_raised 21 = .ok (.getfield 28, 3) := by decide +kernel
theorem dX9_raised_24 : decode cX9_raised 24 = .ok (.iload_n 1, 1) := by decide +kernel
theorem dX9_raised_25 : decode cX9_raised 25 = .ok (.iaload, 1) := by decide +kernel
theorem dX9_raised_26 : decode cX9_raised 26 = .ok (.istore_n 3, 1) := by decide +kernel
theorem dX9_raised_27 : decode cX9_raised 27 = .ok (.bipush (-9), 2) := by decide +kernel
theorem dX9_raised_29 : decode cX9_raised 29 = .ok (.istore 4, 2) := by decide +kernel
theorem dX9_raised_31 : decode cX9_raised 31 = .ok (.bipush 9, 2) := by decide +kernel
theorem dX9_raised_33 : decode cX9_raised 33 = .ok (.istore 5, 2) := by decide +kernel
theorem dX9_raised_35 : decode cX9_raised 35 = .ok (.iload 5, 2) := by decide +kernel
theorem dX9_raised_37 : decode cX9_raised 37 = .ok (.ifCond .lt 35, 3) := by decide +kernel
theorem dX9_raised_40 : decode cX9_raised 40 = .ok (.aload_n 0, 1) := by decide +kernel
theorem dX9_raised_41 : decode cX9_raised 41 = .ok (.getfield 28, 3) := by decide +kernel
theorem dX9_raised_44 : decode cX9_raised 44 = .ok (.iload_n 1, 1) := by decide +kernel
theorem dX9_raised_45 : decode cX9_raised 45 = .ok (.iload 5, 2) := by decide +kernel
theorem dX9_raised_47 : decode cX9_raised 47 = .ok (.iastore, 1) := by decide +kernel
theorem dX9_raised_48 : decode cX9_raised 48 = .ok (.aload_n 0, 1) := by decide +kernel
theorem dX9_raised_49 : decode cX9_raised 49 = .ok (.iload_n 1, 1) := by decide +kernel
theorem dX9_raised_50 : decode cX9_raised 50 = .ok (.invokevirtual 207, 3) := by decide +kernel
theorem dX9_raised_53 : decode cX9_raised 53 = .ok (.iload_n 2, 1) := by decide +kernel
theorem dX9_raised_54 : decode cX9_raised 54 = .ok (.if_icmp .ne 8, 3) := by decide +kernel
theorem dX9_raised_57 : decode cX9_raised 57 = .ok (.iload 5, 2) := by decide +kernel
theorem dX9_raised_59 : decode cX9_raised 59 = .ok (.goto 5, 3) := by decide +kernel
theorem dX9_raised_62 : decode cX9_raised 62 = .ok (.iload 4, 2) := by decide +kernel
theorem dX9_raised_64 : decode cX9_raised 64 = .ok (.istore 4, 2) := by decide +kernel
theorem dX9_raised_66 : decode cX9_raised 66 = .ok (.iinc 5 (-1), 3) := by decide +kernel
theorem dX9_raised_69 : decode cX9_raised 69 = .ok (.goto (-34), 3) := by decide +kernel
theorem dX9_raised_72 : decode cX9_raised 72 = .ok (.aload_n 0, 1) := by decide +kernel
theorem dX9_raised_73 : decode cX9_raised 73 = .ok (.getfield 28, 3) := by decide +kernel
theorem dX9_raised_76 : decode cX9_raised 76 = .ok (.iload_n 1, 1) := by decide +kernel
theorem dX9_raised_77 : decode cX9_raised 77 = .ok (.iload_n 3, 1) := by decide +kernel
theorem dX9_raised_78 : decode cX9_raised 78 = .ok (.iastore, 1) := by decide +kernel
theorem dX9_raised_79 : decode cX9_raised 79 = .ok (.iload 4, 2) := by decide +kernel
theorem dX9_raised_81 : decode cX9_raised 81 = .ok (.ireturn, 1) := by decide +kernel
set_option maxRecDepth 20000 in
theorem ggX9_fellAll_X9_isIn : GoodIn wsX9_fellAll wsX9_isIn := goodIn_r _ [6] (by decide +kernel) (by decide +kernel)
set_option maxRecDepth 20000 in
theorem gX9_fellAll_X9_isIn : GoodIn wsX9_fellAll (va_wsS RX9 221 yX9_isIn wsX9_isIn) := goodIn_app (goodIn_of _ (by decide +kernel)) ggX9_fellAll_X9_isIn
theorem dX9_fellAll_0 : decode cX9_fellAll 0 = .ok (.iconst 0, 1) := by decide +kernel
theorem dX9_fellAll_1 : decode cX9_fellAll 1 = .ok (.istore_n 3, 1) := by decide +kernel
theorem dX9_fellAll_2 : decode cX9_fellAll 2 = .ok (.iload_n 3, 1) := by decide +kernel
theorem dX9_fellAll_3 : decode cX9_fellAll 3 = .ok (.aload_n 0, 1) := by decide +kernel
theorem dX9_fellAll_4 : decode cX9_fellAll 4 = .ok (.getfield 113, 3) := by decide +kernel
theorem dX9_fellAll_7 : decode cX9_fellAll 7 = .ok (.if_icmp .ge 33, 3) := by decide +kernel
theorem dX9_fellAll_10 : decode cX9_fellAll 10 = .ok (.aload_n 0, 1) := by decide +kernel
theorem dX9_fellAll_11 : decode cX9_fellAll 11 = .ok (.getfield 37, 3) := by decide +kernel
theorem dX9_fellAll_14 : decode cX9_fellAll 14 = .ok (.iload_n 3, 1) := by decide +kernel
theorem dX9_fellAll_15 : decode cX9_fellAll 15 = .ok (.iload_n 1, 1) := by decide +kernel
theorem dX9_fellAll_16 : decode cX9_fellAll 16 = .ok (.iload_n 3, 1) := by decide +kernel
theorem dX9_fellAll_17 : decode cX9_fellAll 17 = .ok (.invokestatic 221, 3) := by decide +kernel
theorem dX9_fellAll_20 : decode cX9_fellAll 20 = .ok (.ifCond .eq 7, 3) := by decide +kernel
theorem dX9_fellAll_23 : decode cX9_fellAll 23 = .ok (.iload_n 2, 1) := by decide +kernel
theorem dX9_fellAll_24 : decode cX9_fellAll 24 = .ok (.goto 9, 3) := by decide +kernel
theorem dX9_fellAll_27 : decode cX9_fellAll 27 = .ok (.aload_n 0, 1) := by decide +kernel
theorem dX9_fellAll_28 : decode cX9_fellAll 28 = .ok (.getfield 37, 3) := by decide +kernel
theorem dX9_fellAll_31 : decode cX9_fellAll 31 = .ok (.iload_n 3, 1) := by decide +kernel
theorem dX9_fellAll_32 : decode cX9_fellAll 32 = .ok (.baload, 1) := by decide +kernel
theorem dX9_fellAll_33 : decode cX9_fellAll 33 = .ok (.bastore, 1) := by decide +kernel
theorem dX9_fellAll_34 : decode cX9_fellAll 34 = .ok (.iinc 3 1, 3) := by decide +kernel
theorem dX9_fellAll_37 : decode cX9_fellAll 37 = .ok (.goto (-35), 3) := by decide +kernel
theorem dX9_fellAll_40 : decode cX9_fellAll 40 = .ok (.return_, 1) := by decide +kernel
theorem dX9_felledNow_0 : decode cX9_felledNow 0 = .ok (.iconst 0, 1) := by decide +kernel
theorem dX9_felledNow_1 : decode cX9_felledNow 1 = .ok (.istore_n 1, 1) := by decide +kernel
theorem dX9_felledNow_2 : decode cX9_felledNow 2 = .ok (.iconst 0, 1) := by decide +kernel
theorem dX9_felledNow_3 : decode cX9_felledNow 3 = .ok (.istore_n 2, 1) := by decide +kernel
theorem dX9_felledNow_4 : decode cX9_felledNow 4 = .ok (.iload_n 2, 1) := by decide +kernel
theorem dX9_felledNow_5 : decode cX9_felledNow 5 = .ok (.aload_n 0, 1) := by decide +kernel
theorem dX9_felledNow_6 : decode cX9_felledNow 6 = .ok (.getfield 113, 3) := by decide +kernel
theorem dX9_felledNow_9 : decode cX9_felledNow 9 = .ok (.if_icmp .ge 28, 3) := by decide +kernel
theorem dX9_felledNow_12 : decode cX9_felledNow 12 = .ok (.iload_n 1, 1) := by decide +kernel
theorem dX9_felledNow_13 : decode cX9_felledNow 13 = .ok (.aload_n 0, 1) := by decide +kernel
theorem dX9_felledNow_14 : decode cX9_felledNow 14 = .ok (.getfield 37, 3) := by decide +kernel
theorem dX9_felledNow_17 : decode cX9_felledNow 17 = .ok (.iload_n 2, 1) := by decide +kernel
theorem dX9_felledNow_18 : decode cX9_felledNow 18 = .ok (.baload, 1) := by decide +kernel
theorem dX9_felledNow_19 : decode cX9_felledNow 19 = .ok (.ifCond .eq 9, 3) := by decide +kernel
theorem dX9_felledNow_22 : decode cX9_felledNow 22 = .ok (.iconst 1, 1) := by decide +kernel
theorem dX9_felledNow_23 : decode cX9_felledNow 23 = .ok (.iload_n 2, 1) := by decide +kernel
theorem dX9_felledNow_24 : decode cX9_felledNow 24 = .ok (.ishl, 1) := by decide +kernel
theorem dX9_felledNow_25 : decode cX9_felledNow 25 = .ok (.goto 4, 3) := by decide +kernel
theorem dX9_felledNow_28 : decode cX9_felledNow 28 = .ok (.iconst 0, 1) := by decide +kernel
theorem dX9_felledNow_29 : decode cX9_felledNow 29 = .ok (.ior, 1) := by decide +kernel
theorem dX9_felledNow_30 : decode cX9_felledNow 30 = .ok (.istore_n 1, 1) := by decide +kernel
theorem dX9_felledNow_31 : decode cX9_felledNow 31 = .ok (.iinc 2 1, 3) := by decide +kernel
theorem dX9_felledNow_34 : decode cX9_felledNow 34 = .ok (.goto (-30), 3) := by decide +kernel
theorem dX9_felledNow_37 : decode cX9_felledNow 37 = .ok (.iload_n 1, 1) := by decide +kernel
theorem dX9_felledNow_38 : decode cX9_felledNow 38 = .ok (.ireturn, 1) := by decide +kernel
set_option maxRecDepth 20000 in
theorem ggX9_felling_X9_noHouse : GoodIn wsX9_felling wsX9_noHouse := goodIn_r _ [6, 7, 8, 9, 5, 10, 68, 69, 70, 71, 72, 73, 74, 75, 76, 77, 78, 79, 80, 81, 82, 83, 84, 85, 86, 87, 88, 89, 90, 91, 92, 93, 94, 95, 96, 97, 98, 99, 100, 101, 102, 103, 104, 105, 106, 107, 108] (by decide +kernel) (by decide +kernel)
set_option maxRecDepth 20000 in
theorem gX9_felling_X9_noHouse : GoodIn wsX9_felling (wsV RX9 188 RX9 yX9_noHouse wsX9_noHouse) := goodIn_app (goodIn_of _ (by decide +kernel)) ggX9_felling_X9_noHouse
set_option maxRecDepth 20000 in
theorem ggX9_felling_X9_isNumber : GoodIn wsX9_felling wsX9_isNumber := goodIn_r _ [13, 14, 8, 9, 5, 10] (by decide +kernel) (by decide +kernel)
set_option maxRecDepth 20000 in
theorem gX9_felling_X9_isNumber : GoodIn wsX9_felling (va_wsS RX9 212 yX9_isNumber wsX9_isNumber) := goodIn_app (goodIn_of _ (by decide +kernel)) ggX9_felling_X9_isNumber
set_option maxRecDepth 20000 in
theorem ggX9_felling_X9_felledNow : GoodIn wsX9_felling wsX9_felledNow := goodIn_r _ [18, 1, 19, 68, 69, 70, 71, 72, 73, 74, 75, 76, 77, 78, 79, 80, 81, 82, 83, 84, 85, 86, 87, 88, 89, 90, 91, 92, 93, 94, 95, 96, 97, 98, 99, 100, 101, 102, 103, 104, 105, 106, 107, 108] (by decide +kernel) (by decide +kernel)
set_option maxRecDepth 20000 in
theorem gX9_felling_X9_felledNow : GoodIn wsX9_felling (wsV RX9 224 RX9 yX9_felledNow wsX9_felledNow) := goodIn_app (goodIn_of _ (by decide +kernel)) ggX9_felling_X9_felledNow
set_option maxRecDepth 20000 in
theorem ggX9_felling_X9_bits : GoodIn wsX9_felling wsX9_bits := goodIn_r _ [22] (by decide +kernel) (by decide +kernel)
set_option maxRecDepth 20000 in
theorem gX9_felling_X9_bits : GoodIn wsX9_felling (va_wsS RX9 218 yX9_bits wsX9_bits) := goodIn_app (goodIn_of _ (by decide +kernel)) ggX9_felling_X9_bits
set_option maxRecDepth 20000 in
theorem ggX9_felling_X9_fellAll : GoodIn wsX9_felling wsX9_fellAll := goodIn_r _ [26, 1, 19, 27, 28, 5, 29, 68, 69, 70, 71, 72, 73, 74, 75, 76, 77, 78, 79, 80, 81, 82, 83, 84, 85, 86, 87, 88, 89, 90, 91, 92, 93, 94, 95, 96, 97, 98, 99, 100, 101, 102, 103, 104, 105, 106, 107, 108] (by decide +kernel) (by decide +kernel)
set_option maxRecDepth 20000 in
theorem gX9_felling_X9_fellAll : GoodIn wsX9_felling (wsV RX9 227 RX9 yX9_fellAll wsX9_fellAll) := goodIn_app (goodIn_of _ (by decide +kernel)) ggX9_felling_X9_fellAll
set_option maxRecDepth 20000 in
theorem ggX9_felling_X9_numberOf : GoodIn wsX9_felling wsX9_numberOf := goodIn_r _ [33, 7, 34, 35, 36, 5, 37, 38, 39, 40, 41, 42, 43, 44, 45, 46, 47, 48, 49, 50, 51, 52, 53, 54, 55, 56, 57, 58, 59, 60, 61, 62, 63, 64, 65, 19, 66, 67, 68, 69, 70, 71, 72, 73, 74, 75, 76, 77, 78, 79, 80, 81, 82, 83, 84, 85, 86, 87, 88, 89, 90, 91, 92, 93, 94, 95, 96, 97, 98, 99, 100, 101, 102, 103, 104, 105, 106, 107, 108] (by decide +kernel) (by decide +kernel)
set_option maxRecDepth 20000 in
theorem gX9_felling_X9_numberOf : GoodIn wsX9_felling (wsV RX9 207 RX9 yX9_numberOf wsX9_numberOf) := goodIn_app (goodIn_of _ (by decide +kernel)) ggX9_felling_X9_numberOf
theorem dX9_felling_0 : decode cX9_felling 0 = .ok (.aload_n 0, 1) := by decide +kernel
theorem dX9_felling_1 : decode cX9_felling 1 = .ok (.iload_n 1, 1) := by decide +kernel
theorem dX9_felling_2 : decode cX9_felling 2 = .ok (.invokevirtual 188, 3) := by decide +kernel
theorem dX9_felling_5 : decode cX9_felling 5 = .ok (.ifCond .eq 5, 3) := by decide +kernel
theorem dX9_felling_8 : decode cX9_felling 8 = .ok (.iconst (-1), 1) := by decide +kernel
theorem dX9_felling_9 : decode cX9_felling 9 = .ok (.ireturn, 1) := by decide +kernel
theorem dX9_felling_10 : decode cX9_felling 10 = .ok (.iload_n 2, 1) := by decide +kernel
theorem dX9_felling_11 : decode cX9_felling 11 = .ok (.invokestatic 212, 3) := by decide +kernel
theorem dX9_felling_14 : decode cX9_felling 14 = .ok (.ifCond .ne 6, 3) := by decide +kernel
theorem dX9_felling_17 : decode cX9_felling 17 = .ok (.bipush (-2), 2) := by decide +kernel
theorem dX9_felling_19 : decode cX9_felling 19 = .ok (.ireturn, 1) := by decide +kernel
theorem dX9_felling_20 : decode cX9_felling 20 = .ok (.aload_n 0, 1) := by decide +kernel
theorem dX9_felling_21 : decode cX9_felling 21 = .ok (.invokevirtual 224, 3) := by decide +kernel
theorem dX9_felling_24 : decode cX9_felling 24 = .ok (.istore_n 3, 1) := by decide +kernel
theorem dX9_felling_25 : decode cX9_felling 25 = .ok (.bipush (-9), 2) := by decide +kernel
theorem dX9_felling_27 : decode cX9_felling 27 = .ok (.istore 4, 2) := by decide +kernel
theorem dX9_felling_29 : decode cX9_felling 29 = .ok (.iconst 0, 1) := by decide +kernel
theorem dX9_felling_30 : decode cX9_felling 30 = .ok (.istore 5, 2) := by decide +kernel
theorem dX9_felling_32 : decode cX9_felling 32 = .ok (.iload 5, 2) := by decide +kernel
theorem dX9_felling_34 : decode cX9_felling 34 = .ok (.iconst 1, 1) := by decide +kernel
theorem dX9_felling_35 : decode cX9_felling 35 = .ok (.aload_n 0, 1) := by decide +kernel
theorem dX9_felling_36 : decode cX9_felling 36 = .ok (.getfield 113, 3) := by decide +kernel
theorem dX9_felling_39 : decode cX9_felling 39 = .ok (.ishl, 1) := by decide +kernel
theorem dX9_felling_40 : decode cX9_felling 40 = .ok (.if_icmp .ge 78, 3) := by decide +kernel
theorem dX9_felling_43 : decode cX9_felling 43 = .ok (.iload 5, 2) := by decide +kernel
theorem dX9_felling_45 : decode cX9_felling 45 = .ok (.iload_n 3, 1) := by decide +kernel
theorem dX9_felling_46 : decode cX9_felling 46 = .ok (.iand, 1) := by decide +kernel
theorem dX9_felling_47 : decode cX9_felling 47 = .ok (.ifCond .ne 25, 3) := by decide +kernel
theorem dX9_felling_50 : decode cX9_felling 50 = .ok (.iload 4, 2) := by decide +kernel
theorem dX9_felling_52 : decode cX9_felling 52 = .ok (.ifCond .lt 16, 3) := by decide +kernel
theorem dX9_felling_55 : decode cX9_felling 55 = .ok (.iload 5, 2) := by decide +kernel
theorem dX9_felling_57 : decode cX9_felling 57 = .ok (.invokestatic 218, 3) := by decide +kernel
theorem dX9_felling_60 : decode cX9_felling 60 = .ok (.iload 4, 2) := by decide +kernel
theorem dX9_felling_62 : decode cX9_felling 62 = .ok (.invokestatic 218, 3) := by decide +kernel
theorem dX9_felling_65 : decode cX9_felling 65 = .ok (.if_icmp .ge 7, 3) := by decide +kernel
theorem dX9_felling_68 : decode cX9_felling 68 = .ok (.iconst 1, 1) := by decide +kernel
theorem dX9_felling_69 : decode cX9_felling 69 = .ok (.goto 4, 3) := by decide +kernel
theorem dX9_felling_72 : decode cX9_felling 72 = .ok (.iconst 0, 1) := by decide +kernel
theorem dX9_felling_73 : decode cX9_felling 73 = .ok (.istore 6, 2) := by decide +kernel
theorem dX9_felling_75 : decode cX9_felling 75 = .ok (.iload 6, 2) := by decide +kernel
theorem dX9_felling_77 : decode cX9_felling 77 = .ok (.ifCond .eq 35, 3) := by decide +kernel
theorem dX9_felling_80 : decode cX9_felling 80 = .ok (.aload_n 0, 1) := by decide +kernel
theorem dX9_felling_81 : decode cX9_felling 81 = .ok (.iload 5, 2) := by decide +kernel
theorem dX9_felling_83 : decode cX9_felling 83 = .ok (.iconst 1, 1) := by decide +kernel
theorem dX9_felling_84 : decode cX9_felling 84 = .ok (.invokevirtual 227, 3) := by decide +kernel
theorem dX9_felling_87 : decode cX9_felling 87 = .ok (.aload_n 0, 1) := by decide +kernel
theorem dX9_felling_88 : decode cX9_felling 88 = .ok (.iload_n 1, 1) := by decide +kernel
theorem dX9_felling_89 : decode cX9_felling 89 = .ok (.invokevirtual 207, 3) := by decide +kernel
theorem dX9_felling_92 : decode cX9_felling 92 = .ok (.iload_n 2, 1) := by decide +kernel
theorem dX9_felling_93 : decode cX9_felling 93 = .ok (.if_icmp .ne 8, 3) := by decide +kernel
theorem dX9_felling_96 : decode cX9_felling 96 = .ok (.iload 5, 2) := by decide +kernel
theorem dX9_felling_98 : decode cX9_felling 98 = .ok (.goto 5, 3) := by decide +kernel
theorem dX9_felling_101 : decode cX9_felling 101 = .ok (.iload 4, 2) := by decide +kernel
theorem dX9_felling_103 : decode cX9_felling 103 = .ok (.istore 4, 2) := by decide +kernel
theorem dX9_felling_105 : decode cX9_felling 105 = .ok (.aload_n 0, 1) := by decide +kernel
theorem dX9_felling_106 : decode cX9_felling 106 = .ok (.iload 5, 2) := by decide +kernel
theorem dX9_felling_108 : decode cX9_felling 108 = .ok (.iconst 0, 1) := by decide +kernel
theorem dX9_felling_109 : decode cX9_felling 109 = .ok (.invokevirtual 227, 3) := by decide +kernel
theorem dX9_felling_112 : decode cX9_felling 112 = .ok (.iinc 5 1, 3) := by decide +kernel
theorem dX9_felling_115 : decode cX9_felling 115 = .ok (.goto (-83), 3) := by decide +kernel
theorem dX9_felling_118 : decode cX9_felling 118 = .ok (.iload 4, 2) := by decide +kernel
theorem dX9_felling_120 : decode cX9_felling 120 = .ok (.ireturn, 1) := by decide +kernel
set_option maxRecDepth 20000 in
theorem ggX9_triedOn_X9_numberOf : GoodIn wsX9_triedOn wsX9_numberOf := goodIn_r _ [13, 1, 14, 15, 16, 12, 17, 4, 18, 19, 20, 21, 22, 23, 24, 25, 26, 27, 28, 29, 7, 30, 31, 32, 33, 34, 35, 5, 6, 3, 36, 37, 38, 39, 40, 41, 42, 43, 44, 45, 46, 47, 48, 49, 50, 51, 52, 53, 54, 55, 56, 57, 58, 59, 60, 61, 62, 63, 64, 65, 66, 67, 68, 69, 70, 71, 72, 73, 74, 75, 76, 77, 78, 79, 80, 81, 82, 83, 84] (by decide +kernel) (by decide +kernel)
set_option maxRecDepth 20000 in
theorem gX9_triedOn_X9_numberOf : GoodIn wsX9_triedOn (wsV RX9 207 RX9 yX9_numberOf wsX9_numberOf) := goodIn_app (goodIn_of _ (by decide +kernel)) ggX9_triedOn_X9_numberOf
theorem dX9_triedOn_0 : decode cX9_triedOn 0 = .ok (.iconst 0, 1) := by decide +kernel
theorem dX9_triedOn_1 : decode cX9_triedOn 1 = .ok (.istore_n 3, 1) := by decide +kernel
theorem dX9_triedOn_2 : decode cX9_triedOn 2 = .ok (.iload_n 3, 1) := by decide +kernel
theorem dX9_triedOn_3 : decode cX9_triedOn 3 = .ok (.aload_n 0, 1) := by decide +kernel
theorem dX9_triedOn_4 : decode cX9_triedOn 4 = .ok (.getfield 110, 3) := by decide +kernel
theorem dX9_triedOn_7 : decode cX9_triedOn 7 = .ok (.if_icmp .ge 20, 3) := by decide +kernel
theorem dX9_triedOn_10 : decode cX9_triedOn 10 = .ok (.aload_n 0, 1) := by decide +kernel
theorem dX9_triedOn_11 : decode cX9_triedOn 11 = .ok (.getfield 62, 3) := by decide +kernel
theorem dX9_triedOn_14 : decode cX9_triedOn 14 = .ok (.iload_n 3, 1) := by decide +kernel
theorem dX9_triedOn_15 : decode cX9_triedOn 15 = .ok (.aload_n 0, 1) := by decide +kernel
theorem dX9_triedOn_16 : decode cX9_triedOn 16 = .ok (.iload_n 3, 1) := by decide +kernel
theorem dX9_triedOn_17 : decode cX9_triedOn 17 = .ok (.invokevirtual 207, 3) := by decide +kernel
theorem dX9_triedOn_20 : decode cX9_triedOn 20 = .ok (.iastore, 1) := by decide +kernel
theorem dX9_triedOn_21 : decode cX9_triedOn 21 = .ok (.iinc 3 1, 3) := by decide +kernel
theorem dX9_triedOn_24 : decode cX9_triedOn 24 = .ok (.goto (-22), 3) := by decide +kernel
theorem dX9_triedOn_27 : decode cX9_triedOn 27 = .ok (.aload_n 0, 1) := by decide +kernel
theorem dX9_triedOn_28 : decode cX9_triedOn 28 = .ok (.getfield 110, 3) := by decide +kernel
theorem dX9_triedOn_31 : decode cX9_triedOn 31 = .ok (.istore_n 3, 1) := by decide +kernel
theorem dX9_triedOn_32 : decode cX9_triedOn 32 = .ok (.aload_n 0, 1) := by decide +kernel
theorem dX9_triedOn_33 : decode cX9_triedOn 33 = .ok (.getfield 19, 3) := by decide +kernel
theorem dX9_triedOn_36 : decode cX9_triedOn 36 = .ok (.iload_n 3, 1) := by decide +kernel
theorem dX9_triedOn_37 : decode cX9_triedOn 37 = .ok (.iconst 0, 1) := by decide +kernel
theorem dX9_triedOn_38 : decode cX9_triedOn 38 = .ok (.iastore, 1) := by decide +kernel
theorem dX9_triedOn_39 : decode cX9_triedOn 39 = .ok (.aload_n 0, 1) := by decide +kernel
theorem dX9_triedOn_40 : decode cX9_triedOn 40 = .ok (.getfield 22, 3) := by decide +kernel
theorem dX9_triedOn_43 : decode cX9_triedOn 43 = .ok (.iload_n 3, 1) := by decide +kernel
theorem dX9_triedOn_44 : decode cX9_triedOn 44 = .ok (.iload_n 1, 1) := by decide +kernel
theorem dX9_triedOn_45 : decode cX9_triedOn 45 = .ok (.iastore, 1) := by decide +kernel
theorem dX9_triedOn_46 : decode cX9_triedOn 46 = .ok (.aload_n 0, 1) := by decide +kernel
theorem dX9_triedOn_47 : decode cX9_triedOn 47 = .ok (.getfield 25, 3) := by decide +kernel
theorem dX9_triedOn_50 : decode cX9_triedOn 50 = .ok (.iload_n 3, 1) := by decide +kernel
theorem dX9_triedOn_51 : decode cX9_triedOn 51 = .ok (.iload_n 2, 1) := by decide +kernel
theorem dX9_triedOn_52 : decode cX9_triedOn 52 = .ok (.iastore, 1) := by decide +kernel
theorem dX9_triedOn_53 : decode cX9_triedOn 53 = .ok (.aload_n 0, 1) := by decide +kernel
theorem dX9_triedOn_54 : decode cX9_triedOn 54 = .ok (.getfield 28, 3) := by decide +kernel
theorem dX9_triedOn_57 : decode cX9_triedOn 57 = .ok (.iload_n 3, 1) := by decide +kernel
theorem dX9_triedOn_58 : decode cX9_triedOn 58 = .ok (.iconst 0, 1) := by decide +kernel
theorem dX9_triedOn_59 : decode cX9_triedOn 59 = .ok (.iastore, 1) := by decide +kernel
theorem dX9_triedOn_60 : decode cX9_triedOn 60 = .ok (.aload_n 0, 1) := by decide +kernel
theorem dX9_triedOn_61 : decode cX9_triedOn 61 = .ok (.getfield 13, 3) := by decide +kernel
theorem dX9_triedOn_64 : decode cX9_triedOn 64 = .ok (.iload_n 1, 1) := by decide +kernel
theorem dX9_triedOn_65 : decode cX9_triedOn 65 = .ok (.bipush 10, 2) := by decide +kernel
theorem dX9_triedOn_67 : decode cX9_triedOn 67 = .ok (.iload_n 3, 1) := by decide +kernel
theorem dX9_triedOn_68 : decode cX9_triedOn 68 = .ok (.iadd, 1) := by decide +kernel
theorem dX9_triedOn_69 : decode cX9_triedOn 69 = .ok (.iastore, 1) := by decide +kernel
theorem dX9_triedOn_70 : decode cX9_triedOn 70 = .ok (.aload_n 0, 1) := by decide +kernel
theorem dX9_triedOn_71 : decode cX9_triedOn 71 = .ok (.dup, 1) := by decide +kernel
theorem dX9_triedOn_72 : decode cX9_triedOn 72 = .ok (.getfield 110, 3) := by decide +kernel
theorem dX9_triedOn_75 : decode cX9_triedOn 75 = .ok (.iconst 1, 1) := by decide +kernel
theorem dX9_triedOn_76 : decode cX9_triedOn 76 = .ok (.iadd, 1) := by decide +kernel
theorem dX9_triedOn_77 : decode cX9_triedOn 77 = .ok (.putfield 110, 3) := by decide +kernel
theorem dX9_triedOn_80 : decode cX9_triedOn 80 = .ok (.aload_n 0, 1) := by decide +kernel
theorem dX9_triedOn_81 : decode cX9_triedOn 81 = .ok (.iconst 0, 1) := by decide +kernel
theorem dX9_triedOn_82 : decode cX9_triedOn 82 = .ok (.putfield 231, 3) := by decide +kernel
theorem dX9_triedOn_85 : decode cX9_triedOn 85 = .ok (.iconst 0, 1) := by decide +kernel
theorem dX9_triedOn_86 : decode cX9_triedOn 86 = .ok (.istore 4, 2) := by decide +kernel
theorem dX9_triedOn_88 : decode cX9_triedOn 88 = .ok (.iload 4, 2) := by decide +kernel
theorem dX9_triedOn_90 : decode cX9_triedOn 90 = .ok (.iload_n 3, 1) := by decide +kernel
theorem dX9_triedOn_91 : decode cX9_triedOn 91 = .ok (.if_icmp .ge 42, 3) := by decide +kernel
theorem dX9_triedOn_94 : decode cX9_triedOn 94 = .ok (.aload_n 0, 1) := by decide +kernel
theorem dX9_triedOn_95 : decode cX9_triedOn 95 = .ok (.dup, 1) := by decide +kernel
theorem dX9_triedOn_96 : decode cX9_triedOn 96 = .ok (.getfield 231, 3) := by decide +kernel
theorem dX9_triedOn_99 : decode cX9_triedOn 99 = .ok (.aload_n 0, 1) := by decide +kernel
theorem dX9_triedOn_100 : decode cX9_triedOn 100 = .ok (.iload 4, 2) := by decide +kernel
theorem dX9_triedOn_102 : decode cX9_triedOn 102 = .ok (.invokevirtual 207, 3) := by decide +kernel
theorem dX9_triedOn_105 : decode cX9_triedOn 105 = .ok (.aload_n 0, 1) := by decide +kernel
theorem dX9_triedOn_106 : decode cX9_triedOn 106 = .ok (.getfield 62, 3) := by decide +kernel
theorem dX9_triedOn_109 : decode cX9_triedOn 109 = .ok (.iload 4, 2) := by decide +kernel
theorem dX9_triedOn_111 : decode cX9_triedOn 111 = .ok (.iaload, 1) := by decide +kernel
theorem dX9_triedOn_112 : decode cX9_triedOn 112 = .ok (.if_icmp .ne 7, 3) := by decide +kernel
theorem dX9_triedOn_115 : decode cX9_triedOn 115 = .ok (.iconst 0, 1) := by decide +kernel
theorem dX9_triedOn_116 : decode cX9_triedOn 116 = .ok (.goto 7, 3) := by decide +kernel
theorem dX9_triedOn_119 : decode cX9_triedOn 119 = .ok (.iconst 1, 1) := by decide +kernel
theorem dX9_triedOn_120 : decode cX9_triedOn 120 = .ok (.iload 4, 2) := by decide +kernel
theorem dX9_triedOn_122 : decode cX9_triedOn 122 = .ok (.ishl, 1) := by decide +kernel
theorem dX9_triedOn_123 : decode cX9_triedOn 123 = .ok (.ior, 1) := by decide +kernel
theorem dX9_triedOn_124 : decode cX9_triedOn 124 = .ok (.putfield 231, 3) := by decide +kernel
theorem dX9_triedOn_127 : decode cX9_triedOn 127 = .ok (.iinc 4 1, 3) := by decide +kernel
theorem dX9_triedOn_130 : decode cX9_triedOn 130 = .ok (.goto (-42), 3) := by decide +kernel
theorem dX9_triedOn_133 : decode cX9_triedOn 133 = .ok (.aload_n 0, 1) := by decide +kernel
theorem dX9_triedOn_134 : decode cX9_triedOn 134 = .ok (.iload_n 3, 1) := by decide +kernel
theorem dX9_triedOn_135 : decode cX9_triedOn 135 = .ok (.invokevirtual 207, 3) := by decide +kernel
theorem dX9_triedOn_138 : decode cX9_triedOn 138 = .ok (.istore 4, 2) := by decide +kernel
theorem dX9_triedOn_140 : decode cX9_triedOn 140 = .ok (.aload_n 0, 1) := by decide +kernel
theorem dX9_triedOn_141 : decode cX9_triedOn 141 = .ok (.dup, 1) := by decide +kernel
theorem dX9_triedOn_142 : decode cX9_triedOn 142 = .ok (.getfield 110, 3) := by decide +kernel
theorem dX9_triedOn_145 : decode cX9_triedOn 145 = .ok (.iconst 1, 1) := by decide +kernel
theorem dX9_triedOn_146 : decode cX9_triedOn 146 = .ok (.isub, 1) := by decide +kernel
theorem dX9_triedOn_147 : decode cX9_triedOn 147 = .ok (.putfield 110, 3) := by decide +kernel
theorem dX9_triedOn_150 : decode cX9_triedOn 150 = .ok (.aload_n 0, 1) := by decide +kernel
theorem dX9_triedOn_151 : decode cX9_triedOn 151 = .ok (.getfield 13, 3) := by decide +kernel
theorem dX9_triedOn_154 : decode cX9_triedOn 154 = .ok (.iload_n 1, 1) := by decide +kernel
theorem dX9_triedOn_155 : decode cX9_triedOn 155 = .ok (.iconst 0, 1) := by decide +kernel
theorem dX9_triedOn_156 : decode cX9_triedOn 156 = .ok (.iastore, 1) := by decide +kernel
theorem dX9_triedOn_157 : decode cX9_triedOn 157 = .ok (.iload 4, 2) := by decide +kernel
theorem dX9_triedOn_159 : decode cX9_triedOn 159 = .ok (.ireturn, 1) := by decide +kernel
set_option maxRecDepth 20000 in
theorem ggX9_fresh_X9_noCell : GoodIn wsX9_fresh wsX9_noCell := goodIn_r _ [9, 10, 11, 12, 8, 13, 14, 15, 16, 17, 18, 61, 62, 63, 64, 65, 66, 67, 68, 69, 70, 71, 72, 73, 74, 75, 76, 77, 78, 79, 80, 81, 82, 83, 84, 85, 86, 87, 88, 89, 90, 91, 92, 93, 94, 95, 96, 97, 98, 99, 100, 101] (by decide +kernel) (by decide +kernel)
set_option maxRecDepth 20000 in
theorem gX9_fresh_X9_noCell : GoodIn wsX9_fresh (wsV RX9 182 RX9 yX9_noCell wsX9_noCell) := goodIn_app (goodIn_of _ (by decide +kernel)) ggX9_fresh_X9_noCell
set_option maxRecDepth 20000 in
theorem ggX9_fresh_X9_in : GoodIn wsX9_fresh wsX9_in := goodIn_r _ [18] (by decide +kernel) (by decide +kernel)
set_option maxRecDepth 20000 in
theorem gX9_fresh_X9_in : GoodIn wsX9_fresh (va_wsS RX9 106 yX9_in wsX9_in) := goodIn_app (goodIn_of _ (by decide +kernel)) ggX9_fresh_X9_in
set_option maxRecDepth 20000 in
theorem ggX9_fresh_X9_triedOn : GoodIn wsX9_fresh wsX9_triedOn := goodIn_r _ [22, 23, 24, 25, 26, 27, 28, 2, 4, 29, 30, 31, 8, 32, 33, 34, 35, 36, 15, 37, 38, 39, 40, 41, 42, 43, 44, 45, 46, 47, 3, 48, 49, 50, 51, 52, 53, 54, 55, 56, 57, 58, 59, 60, 61, 62, 63, 64, 65, 66, 67, 68, 69, 70, 71, 72, 73, 74, 75, 76, 77, 78, 79, 80, 81, 82, 83, 84, 85, 86, 87, 88, 89, 90, 91, 92, 93, 94, 95, 96, 97, 98, 99, 100, 101] (by decide +kernel) (by decide +kernel)
set_option maxRecDepth 20000 in
theorem gX9_fresh_X9_triedOn : GoodIn wsX9_fresh (wsV RX9 234 RX9 yX9_triedOn wsX9_triedOn) := goodIn_app (goodIn_of _ (by decide +kernel)) ggX9_fresh_X9_triedOn
theorem dX9_fresh_0 : decode cX9_fresh 0 = .ok (.aload_n 0, 1) := by decide +kernel
theorem dX9_fresh_1 : decode cX9_fresh 1 = .ok (.iload_n 1, 1) := by decide +kernel
theorem dX9_fresh_2 : decode cX9_fresh 2 = .ok (.invokevirtual 182, 3) := by decide +kernel
theorem dX9_fresh_5 : decode cX9_fresh 5 = .ok (.ifCond .eq 5, 3) := by decide +kernel
theorem dX9_fresh_8 : decode cX9_fresh 8 = .ok (.iconst (-1), 1) := by decide +kernel
theorem dX9_fresh_9 : decode cX9_fresh 9 = .ok (.ireturn, 1) := by decide +kernel
theorem dX9_fresh_10 : decode cX9_fresh 10 = .ok (.iload_n 2, 1) := by decide +kernel
theorem dX9_fresh_11 : decode cX9_fresh 11 = .ok (.i2l, 1) := by decide +kernel
theorem dX9_fresh_12 : decode cX9_fresh 12 = .ok (.lconst 1, 1) := by decide +kernel
theorem dX9_fresh_13 : decode cX9_fresh 13 = .ok (.ldc2_w 196, 3) := by decide +kernel
theorem dX9_fresh_16 : decode cX9_fresh 16 = .ok (.invokestatic 106, 3) := by decide +kernel
theorem dX9_fresh_19 : decode cX9_fresh 19 = .ok (.ifCond .eq 13, 3) := by decide +kernel
theorem dX9_fresh_22 : decode cX9_fresh 22 = .ok (.iload_n 3, 1) := by decide +kernel
theorem dX9_fresh_23 : decode cX9_fresh 23 = .ok (.i2l, 1) := by decide +kernel
theorem dX9_fresh_24 : decode cX9_fresh 24 = .ok (.lconst 0, 1) := by decide +kernel
theorem dX9_fresh_25 : decode cX9_fresh 25 = .ok (.lconst 1, 1) := by decide +kernel
theorem dX9_fresh_26 : decode cX9_fresh 26 = .ok (.invokestatic 106, 3) := by decide +kernel
theorem dX9_fresh_29 : decode cX9_fresh 29 = .ok (.ifCond .ne 6, 3) := by decide +kernel
theorem dX9_fresh_32 : decode cX9_fresh 32 = .ok (.bipush (-2), 2) := by decide +kernel
theorem dX9_fresh_34 : decode cX9_fresh 34 = .ok (.ireturn, 1) := by decide +kernel
theorem dX9_fresh_35 : decode cX9_fresh 35 = .ok (.aload_n 0, 1) := by decide +kernel
theorem dX9_fresh_36 : decode cX9_fresh 36 = .ok (.getfield 13, 3) := by decide +kernel
theorem dX9_fresh_39 : decode cX9_fresh 39 = .ok (.iload_n 1, 1) := by decide +kernel
theorem dX9_fresh_40 : decode cX9_fresh 40 = .ok (.iaload, 1) := by decide +kernel
theorem dX9_fresh_41 : decode cX9_fresh 41 = .ok (.ifCond .gt 12, 3) := by decide +kernel
theorem dX9_fresh_44 : decode cX9_fresh 44 = .ok (.aload_n 0, 1) := by decide +kernel
theorem dX9_fresh_45 : decode cX9_fresh 45 = .ok (.getfield 16, 3) := by decide +kernel
theorem dX9_fresh_48 : decode cX9_fresh 48 = .ok (.iload_n 1, 1) := by decide +kernel
theorem dX9_fresh_49 : decode cX9_fresh 49 = .ok (.iaload, 1) := by decide +kernel
theorem dX9_fresh_50 : decode cX9_fresh 50 = .ok (.ifCond .le 6, 3) := by decide +kernel
theorem dX9_fresh_53 : decode cX9_fresh 53 = .ok (.bipush (-3), 2) := by decide +kernel
theorem dX9_fresh_55 : decode cX9_fresh 55 = .ok (.ireturn, 1) := by decide +kernel
theorem dX9_fresh_56 : decode cX9_fresh 56 = .ok (.aload_n 0, 1) := by decide +kernel
theorem dX9_fresh_57 : decode cX9_fresh 57 = .ok (.iload_n 1, 1) := by decide +kernel
theorem dX9_fresh_58 : decode cX9_fresh 58 = .ok (.iload_n 2, 1) := by decide +kernel
theorem dX9_fresh_59 : decode cX9_fresh 59 = .ok (.invokevirtual 234, 3) := by decide +kernel
theorem dX9_fresh_62 : decode cX9_fresh 62 = .ok (.istore 4, 2) := by decide +kernel
theorem dX9_fresh_64 : decode cX9_fresh 64 = .ok (.iload_n 3, 1) := by decide +kernel
theorem dX9_fresh_65 : decode cX9_fresh 65 = .ok (.ifCond .ne 8, 3) := by decide +kernel
theorem dX9_fresh_68 : decode cX9_fresh 68 = .ok (.iload 4, 2) := by decide +kernel
theorem dX9_fresh_70 : decode cX9_fresh 70 = .ok (.goto 7, 3) := by decide +kernel
theorem dX9_fresh_73 : decode cX9_fresh 73 = .ok (.aload_n 0, 1) := by decide +kernel
theorem dX9_fresh_74 : decode cX9_fresh 74 = .ok (.getfield 231, 3) := by decide +kernel
theorem dX9_fresh_77 : decode cX9_fresh 77 = .ok (.ireturn, 1) := by decide +kernel
set_option maxRecDepth 20000 in
theorem ggX9_free_X9_in : GoodIn wsX9_free wsX9_in := goodIn_r _ [9] (by decide +kernel) (by decide +kernel)
set_option maxRecDepth 20000 in
theorem gX9_free_X9_in : GoodIn wsX9_free (va_wsS RX9 106 yX9_in wsX9_in) := goodIn_app (goodIn_of _ (by decide +kernel)) ggX9_free_X9_in
set_option maxRecDepth 20000 in
theorem ggX9_free_X9_lost : GoodIn wsX9_free wsX9_lost := goodIn_r _ [12, 13] (by decide +kernel) (by decide +kernel)
set_option maxRecDepth 20000 in
theorem gX9_free_X9_lost : GoodIn wsX9_free (va_wsS RX9 92 yX9_lost wsX9_lost) := goodIn_app (goodIn_of _ (by decide +kernel)) ggX9_free_X9_lost
set_option maxRecDepth 20000 in
theorem ggX9_free_X9_cells : GoodIn wsX9_free wsX9_cells := goodIn_r _ [17, 3, 18, 62, 63, 64, 65, 66, 67, 68, 69, 70, 71, 72, 73, 74, 75, 76, 77, 78, 79, 80, 81, 82, 83, 84, 85, 86, 87, 88, 89, 90, 91, 92, 93, 94, 95, 96, 97, 98, 99, 100, 101, 102] (by decide +kernel) (by decide +kernel)
set_option maxRecDepth 20000 in
theorem gX9_free_X9_cells : GoodIn wsX9_free (wsV RX9 102 RX9 yX9_cells wsX9_cells) := goodIn_app (goodIn_of _ (by decide +kernel)) ggX9_free_X9_cells
set_option maxRecDepth 20000 in
theorem ggX9_free_X9_triedOn : GoodIn wsX9_free wsX9_triedOn := goodIn_r _ [22, 23, 24, 25, 26, 27, 28, 4, 29, 30, 31, 32, 8, 33, 34, 35, 36, 37, 18, 38, 39, 40, 41, 42, 43, 44, 45, 46, 47, 48, 5, 49, 50, 51, 52, 53, 54, 55, 56, 57, 58, 59, 60, 61, 62, 63, 64, 65, 66, 67, 68, 69, 70, 71, 72, 73, 74, 75, 76, 77, 78, 79, 80, 81, 82, 83, 84, 85, 86, 87, 88, 89, 90, 91, 92, 93, 94, 95, 96, 97, 98, 99, 100, 101, 102] (by decide +kernel) (by decide +kernel)
set_option maxRecDepth 20000 in
theorem gX9_free_X9_triedOn : GoodIn wsX9_free (wsV RX9 234 RX9 yX9_triedOn wsX9_triedOn) := goodIn_app (goodIn_of _ (by decide +kernel)) ggX9_free_X9_triedOn
theorem dX9_free_0 : decode cX9_free 0 = .ok (.iload_n 1, 1) := by decide +kernel
theorem dX9_free_1 : decode cX9_free 1 = .ok (.i2l, 1) := by decide +kernel
theorem dX9_free_2 : decode cX9_free 2 = .ok (.lconst 1, 1) := by decide +kernel
theorem dX9_free_3 : decode cX9_free 3 = .ok (.ldc2_w 196, 3) := by decide +kernel
theorem dX9_free_6 : decode cX9_free 6 = .ok (.invokestatic 106, 3) := by decide +kernel
theorem dX9_free_9 : decode cX9_free 9 = .ok (.ifCond .eq 22, 3) := by decide +kernel
theorem dX9_free_12 : decode cX9_free 12 = .ok (.iload_n 2, 1) := by decide +kernel
theorem dX9_free_13 : decode cX9_free 13 = .ok (.i2l, 1) := by decide +kernel
theorem dX9_free_14 : decode cX9_free 14 = .ok (.lconst 0, 1) := by decide +kernel
theorem dX9_free_15 : decode cX9_free 15 = .ok (.ldc2_w 237, 3) := by decide +kernel
theorem dX9_free_18 : decode cX9_free 18 = .ok (.invokestatic 106, 3) := by decide +kernel
theorem dX9_free_21 : decode cX9_free 21 = .ok (.ifCond .eq 10, 3) := by decide +kernel
theorem dX9_free_24 : decode cX9_free 24 = .ok (.aload_n 0, 1) := by decide +kernel
theorem dX9_free_25 : decode cX9_free 25 = .ok (.getfield 96, 3) := by decide +kernel
theorem dX9_free_28 : decode cX9_free 28 = .ok (.ifCond .ne 7, 3) := by decide +kernel
theorem dX9_free_31 : decode cX9_free 31 = .ok (.invokestatic 92, 3) := by decide +kernel
theorem dX9_free_34 : decode cX9_free 34 = .ok (.lreturn, 1) := by decide +kernel
theorem dX9_free_35 : decode cX9_free 35 = .ok (.lconst 0, 1) := by decide +kernel
theorem dX9_free_36 : decode cX9_free 36 = .ok (.lstore_n 3, 1) := by decide +kernel
theorem dX9_free_37 : decode cX9_free 37 = .ok (.iconst 0, 1) := by decide +kernel
theorem dX9_free_38 : decode cX9_free 38 = .ok (.istore 5, 2) := by decide +kernel
theorem dX9_free_40 : decode cX9_free 40 = .ok (.iload 5, 2) := by decide +kernel
theorem dX9_free_42 : decode cX9_free 42 = .ok (.aload_n 0, 1) := by decide +kernel
theorem dX9_free_43 : decode cX9_free 43 = .ok (.invokevirtual 102, 3) := by decide +kernel
theorem dX9_free_46 : decode cX9_free 46 = .ok (.if_icmp .ge 51, 3) := by decide +kernel
theorem dX9_free_49 : decode cX9_free 49 = .ok (.aload_n 0, 1) := by decide +kernel
theorem dX9_free_50 : decode cX9_free 50 = .ok (.getfield 13, 3) := by decide +kernel
theorem dX9_free_53 : decode cX9_free 53 = .ok (.iload 5, 2) := by decide +kernel
theorem dX9_free_55 : decode cX9_free 55 = .ok (.iaload, 1) := by decide +kernel
theorem dX9_free_56 : decode cX9_free 56 = .ok (.ifCond .ne 35, 3) := by decide +kernel
theorem dX9_free_59 : decode cX9_free 59 = .ok (.aload_n 0, 1) := by decide +kernel
theorem dX9_free_60 : decode cX9_free 60 = .ok (.getfield 16, 3) := by decide +kernel
theorem dX9_free_63 : decode cX9_free 63 = .ok (.iload 5, 2) := by decide +kernel
theorem dX9_free_65 : decode cX9_free 65 = .ok (.iaload, 1) := by decide +kernel
theorem dX9_free_66 : decode cX9_free 66 = .ok (.ifCond .ne 25, 3) := by decide +kernel
theorem dX9_free_69 : decode cX9_free 69 = .ok (.lload_n 3, 1) := by decide +kernel
theorem dX9_free_70 : decode cX9_free 70 = .ok (.aload_n 0, 1) := by decide +kernel
theorem dX9_free_71 : decode cX9_free 71 = .ok (.iload 5, 2) := by decide +kernel
theorem dX9_free_73 : decode cX9_free 73 = .ok (.iload_n 1, 1) := by decide +kernel
theorem dX9_free_74 : decode cX9_free 74 = .ok (.invokevirtual 234, 3) := by decide +kernel
theorem dX9_free_77 : decode cX9_free 77 = .ok (.iload_n 2, 1) := by decide +kernel
theorem dX9_free_78 : decode cX9_free 78 = .ok (.if_icmp .ne 10, 3) := by decide +kernel
theorem dX9_free_81 : decode cX9_free 81 = .ok (.lconst 1, 1) := by decide +kernel
theorem dX9_free_82 : decode cX9_free 82 = .ok (.iload 5, 2) := by decide +kernel
theorem dX9_free_84 : decode cX9_free 84 = .ok (.lshl, 1) := by decide +kernel
theorem dX9_free_85 : decode cX9_free 85 = .ok (.goto 4, 3) := by decide +kernel
theorem dX9_free_88 : decode cX9_free 88 = .ok (.lconst 0, 1) := by decide +kernel
theorem dX9_free_89 : decode cX9_free 89 = .ok (.lor, 1) := by decide +kernel
theorem dX9_free_90 : decode cX9_free 90 = .ok (.lstore_n 3, 1) := by decide +kernel
theorem dX9_free_91 : decode cX9_free 91 = .ok (.iinc 5 1, 3) := by decide +kernel
theorem dX9_free_94 : decode cX9_free 94 = .ok (.goto (-54), 3) := by decide +kernel
theorem dX9_free_97 : decode cX9_free 97 = .ok (.lload_n 3, 1) := by decide +kernel
theorem dX9_free_98 : decode cX9_free 98 = .ok (.lreturn, 1) := by decide +kernel
set_option maxRecDepth 20000 in
theorem ggX9_change_X9_noHouse : GoodIn wsX9_change wsX9_noHouse := goodIn_r _ [6, 7, 8, 9, 5, 10, 49, 50, 51, 52, 53, 54, 55, 56, 57, 58, 59, 60, 61, 62, 63, 64, 65, 66, 67, 68, 69, 70, 71, 72, 73, 74, 75, 76, 77, 78, 79, 80, 81, 82, 83, 84, 85, 86, 87, 88, 89] (by decide +kernel) (by decide +kernel)
set_option maxRecDepth 20000 in
theorem gX9_change_X9_noHouse : GoodIn wsX9_change (wsV RX9 188 RX9 yX9_noHouse wsX9_noHouse) := goodIn_app (goodIn_of _ (by decide +kernel)) ggX9_change_X9_noHouse
set_option maxRecDepth 20000 in
theorem ggX9_change_X9_numberOf : GoodIn wsX9_change wsX9_numberOf := goodIn_r _ [14, 7, 15, 16, 17, 5, 18, 19, 20, 21, 22, 23, 24, 25, 26, 27, 28, 29, 30, 31, 32, 33, 34, 35, 36, 37, 38, 39, 40, 41, 42, 43, 44, 45, 46, 47, 48, 1, 49, 50, 51, 52, 53, 54, 55, 56, 57, 58, 59, 60, 61, 62, 63, 64, 65, 66, 67, 68, 69, 70, 71, 72, 73, 74, 75, 76, 77, 78, 79, 80, 81, 82, 83, 84, 85, 86, 87, 88, 89] (by decide +kernel) (by decide +kernel)
set_option maxRecDepth 20000 in
theorem gX9_change_X9_numberOf : GoodIn wsX9_change (wsV RX9 207 RX9 yX9_numberOf wsX9_numberOf) := goodIn_app (goodIn_of _ (by decide +kernel)) ggX9_change_X9_numberOf
theorem dX9_change_0 : decode cX9_change 0 = .ok (.aload_n 0, 1) := by decide +kernel
theorem dX9_change_1 : decode cX9_change 1 = .ok (.iload_n 1, 1) := by decide +kernel
theorem dX9_change_2 : decode cX9_change 2 = .ok (.invokevirtual 188, 3) := by decide +kernel
theorem dX9_change_5 : decode cX9_change 5 = .ok (.ifCond .eq 5, 3) := by decide +kernel
theorem dX9_change_8 : decode cX9_change 8 = .ok (.iconst (-1), 1) := by decide +kernel
theorem dX9_change_9 : decode cX9_change 9 = .ok (.ireturn, 1) := by decide +kernel
theorem dX9_change_10 : decode cX9_change 10 = .ok (.aload_n 0, 1) := by decide +kernel
theorem dX9_change_11 : decode cX9_change 11 = .ok (.getfield 164, 3) := by decide +kernel
theorem dX9_change_14 : decode cX9_change 14 = .ok (.istore_n 2, 1) := by decide +kernel
theorem dX9_change_15 : decode cX9_change 15 = .ok (.aload_n 0, 1) := by decide +kernel
theorem dX9_change_16 : decode cX9_change 16 = .ok (.iload_n 1, 1) := by decide +kernel
theorem dX9_change_17 : decode cX9_change 17 = .ok (.invokevirtual 207, 3) := by decide +kernel
theorem dX9_change_20 : decode cX9_change 20 = .ok (.istore_n 3, 1) := by decide +kernel
theorem dX9_change_21 : decode cX9_change 21 = .ok (.bipush (-9), 2) := by decide +kernel
theorem dX9_change_23 : decode cX9_change 23 = .ok (.istore 4, 2) := by decide +kernel
theorem dX9_change_25 : decode cX9_change 25 = .ok (.iload_n 2, 1) := by decide +kernel
theorem dX9_change_26 : decode cX9_change 26 = .ok (.iconst 1, 1) := by decide +kernel
theorem dX9_change_27 : decode cX9_change 27 = .ok (.iadd, 1) := by decide +kernel
theorem dX9_change_28 : decode cX9_change 28 = .ok (.istore 5, 2) := by decide +kernel
theorem dX9_change_30 : decode cX9_change 30 = .ok (.iload 5, 2) := by decide +kernel
theorem dX9_change_32 : decode cX9_change 32 = .ok (.bipush 30, 2) := by decide +kernel
theorem dX9_change_34 : decode cX9_change 34 = .ok (.if_icmp .gt 38, 3) := by decide +kernel
theorem dX9_change_37 : decode cX9_change 37 = .ok (.iload 4, 2) := by decide +kernel
theorem dX9_change_39 : decode cX9_change 39 = .ok (.ifCond .ge 33, 3) := by decide +kernel
theorem dX9_change_42 : decode cX9_change 42 = .ok (.aload_n 0, 1) := by decide +kernel
theorem dX9_change_43 : decode cX9_change 43 = .ok (.iload 5, 2) := by decide +kernel
theorem dX9_change_45 : decode cX9_change 45 = .ok (.putfield 164, 3) := by decide +kernel
theorem dX9_change_48 : decode cX9_change 48 = .ok (.aload_n 0, 1) := by decide +kernel
theorem dX9_change_49 : decode cX9_change 49 = .ok (.iload_n 1, 1) := by decide +kernel
theorem dX9_change_50 : decode cX9_change 50 = .ok (.invokevirtual 207, 3) := by decide +kernel
theorem dX9_change_53 : decode cX9_change 53 = .ok (.iload_n 3, 1) := by decide +kernel
theorem dX9_change_54 : decode cX9_change 54 = .ok (.if_icmp .ne 8, 3) := by decide +kernel
theorem dX9_change_57 : decode cX9_change 57 = .ok (.bipush (-9), 2) := by decide +kernel
theorem dX9_change_59 : decode cX9_change 59 = .ok (.goto 5, 3) := by decide +kernel
theorem dX9_change_62 : decode cX9_change 62 = .ok (.iload 5, 2) := by decide +kernel
theorem dX9_change_64 : decode cX9_change 64 = .ok (.istore 4, 2) := by decide +kernel
theorem dX9_change_66 : decode cX9_change 66 = .ok (.iinc 5 1, 3) := by decide +kernel
theorem dX9_change_69 : decode cX9_change 69 = .ok (.goto (-39), 3) := by decide +kernel
theorem dX9_change_72 : decode cX9_change 72 = .ok (.aload_n 0, 1) := by decide +kernel
theorem dX9_change_73 : decode cX9_change 73 = .ok (.iload_n 2, 1) := by decide +kernel
theorem dX9_change_74 : decode cX9_change 74 = .ok (.putfield 164, 3) := by decide +kernel
theorem dX9_change_77 : decode cX9_change 77 = .ok (.iload 4, 2) := by decide +kernel
theorem dX9_change_79 : decode cX9_change 79 = .ok (.ireturn, 1) := by decide +kernel
set_option maxRecDepth 20000 in
theorem ggX9_reading_X9_noHouse : GoodIn wsX9_reading wsX9_noHouse := goodIn_r _ [10, 11, 12, 13, 9, 14, 19, 20, 21, 22, 23, 24, 25, 26, 27, 28, 29, 30, 31, 32, 33, 34, 35, 36, 37, 38, 39, 40, 41, 42, 43, 44, 45, 46, 47, 48, 49, 50, 51, 52, 53, 54, 55, 56, 57, 58, 59] (by decide +kernel) (by decide +kernel)
set_option maxRecDepth 20000 in
theorem gX9_reading_X9_noHouse : GoodIn wsX9_reading (wsV RX9 188 RX9 yX9_noHouse wsX9_noHouse) := goodIn_app (goodIn_of _ (by decide +kernel)) ggX9_reading_X9_noHouse
set_option maxRecDepth 20000 in
theorem ggX9_reading_X9_in : GoodIn wsX9_reading wsX9_in := goodIn_r _ [14] (by decide +kernel) (by decide +kernel)
set_option maxRecDepth 20000 in
theorem gX9_reading_X9_in : GoodIn wsX9_reading (va_wsS RX9 106 yX9_in wsX9_in) := goodIn_app (goodIn_of _ (by decide +kernel)) ggX9_reading_X9_in
set_option maxRecDepth 20000 in
theorem ggX9_reading_X9_isNumber : GoodIn wsX9_reading wsX9_isNumber := goodIn_r _ [17, 18, 12, 13, 9, 14] (by decide +kernel) (by decide +kernel)
set_option maxRecDepth 20000 in
theorem gX9_reading_X9_isNumber : GoodIn wsX9_reading (va_wsS RX9 212 yX9_isNumber wsX9_isNumber) := goodIn_app (goodIn_of _ (by decide +kernel)) ggX9_reading_X9_isNumber
theorem dX9_reading_0 : decode cX9_reading 0 = .ok (.aload_n 0, 1) := by decide +kernel
theorem dX9_reading_1 : decode cX9_reading 1 = .ok (.iload_n 1, 1) := by decide +kernel
theorem dX9_reading_2 : decode cX9_reading 2 = .ok (.invokevirtual 188, 3) := by decide +kernel
theorem dX9_reading_5 : decode cX9_reading 5 = .ok (.ifCond .eq 5, 3) := by decide +kernel
theorem dX9_reading_8 : decode cX9_reading 8 = .ok (.iconst (-1), 1) := by decide +kernel
theorem dX9_reading_9 : decode cX9_reading 9 = .ok (.ireturn, 1) := by decide +kernel
theorem dX9_reading_10 : decode cX9_reading 10 = .ok (.iload_n 2, 1) := by decide +kernel
theorem dX9_reading_11 : decode cX9_reading 11 = .ok (.i2l, 1) := by decide +kernel
theorem dX9_reading_12 : decode cX9_reading 12 = .ok (.lconst 0, 1) := by decide +kernel
theorem dX9_reading_13 : decode cX9_reading 13 = .ok (.ldc2_w 194, 3) := by decide +kernel
theorem dX9_reading_16 : decode cX9_reading 16 = .ok (.invokestatic 106, 3) := by decide +kernel
theorem dX9_reading_19 : decode cX9_reading 19 = .ok (.ifCond .eq 10, 3) := by decide +kernel
theorem dX9_reading_22 : decode cX9_reading 22 = .ok (.iload_n 3, 1) := by decide +kernel
theorem dX9_reading_23 : decode cX9_reading 23 = .ok (.invokestatic 212, 3) := by decide +kernel
theorem dX9_reading_26 : decode cX9_reading 26 = .ok (.ifCond .ne 6, 3) := by decide +kernel
theorem dX9_reading_29 : decode cX9_reading 29 = .ok (.bipush (-2), 2) := by decide +kernel
theorem dX9_reading_31 : decode cX9_reading 31 = .ok (.ireturn, 1) := by decide +kernel
theorem dX9_reading_32 : decode cX9_reading 32 = .ok (.aload_n 0, 1) := by decide +kernel
theorem dX9_reading_33 : decode cX9_reading 33 = .ok (.getfield 173, 3) := by decide +kernel
theorem dX9_reading_36 : decode cX9_reading 36 = .ok (.bipush 8, 2) := by decide +kernel
theorem dX9_reading_38 : decode cX9_reading 38 = .ok (.if_icmp .ne 6, 3) := by decide +kernel
theorem dX9_reading_41 : decode cX9_reading 41 = .ok (.bipush (-4), 2) := by decide +kernel
theorem dX9_reading_43 : decode cX9_reading 43 = .ok (.ireturn, 1) := by decide +kernel
theorem dX9_reading_44 : decode cX9_reading 44 = .ok (.aload_n 0, 1) := by decide +kernel
theorem dX9_reading_45 : decode cX9_reading 45 = .ok (.getfield 65, 3) := by decide +kernel
theorem dX9_reading_48 : decode cX9_reading 48 = .ok (.aload_n 0, 1) := by decide +kernel
theorem dX9_reading_49 : decode cX9_reading 49 = .ok (.getfield 173, 3) := by decide +kernel
theorem dX9_reading_52 : decode cX9_reading 52 = .ok (.iload_n 1, 1) := by decide +kernel
theorem dX9_reading_53 : decode cX9_reading 53 = .ok (.iastore, 1) := by decide +kernel
theorem dX9_reading_54 : decode cX9_reading 54 = .ok (.aload_n 0, 1) := by decide +kernel
theorem dX9_reading_55 : decode cX9_reading 55 = .ok (.getfield 68, 3) := by decide +kernel
theorem dX9_reading_58 : decode cX9_reading 58 = .ok (.aload_n 0, 1) := by decide +kernel
theorem dX9_reading_59 : decode cX9_reading 59 = .ok (.getfield 173, 3) := by decide +kernel
theorem dX9_reading_62 : decode cX9_reading 62 = .ok (.iload_n 2, 1) := by decide +kernel
theorem dX9_reading_63 : decode cX9_reading 63 = .ok (.iastore, 1) := by decide +kernel
theorem dX9_reading_64 : decode cX9_reading 64 = .ok (.aload_n 0, 1) := by decide +kernel
theorem dX9_reading_65 : decode cX9_reading 65 = .ok (.getfield 71, 3) := by decide +kernel
theorem dX9_reading_68 : decode cX9_reading 68 = .ok (.aload_n 0, 1) := by decide +kernel
theorem dX9_reading_69 : decode cX9_reading 69 = .ok (.getfield 173, 3) := by decide +kernel
theorem dX9_reading_72 : decode cX9_reading 72 = .ok (.iload_n 3, 1) := by decide +kernel
theorem dX9_reading_73 : decode cX9_reading 73 = .ok (.iastore, 1) := by decide +kernel
theorem dX9_reading_74 : decode cX9_reading 74 = .ok (.aload_n 0, 1) := by decide +kernel
theorem dX9_reading_75 : decode cX9_reading 75 = .ok (.dup, 1) := by decide +kernel
theorem dX9_reading_76 : decode cX9_reading 76 = .ok (.getfield 173, 3) := by decide +kernel
theorem dX9_reading_79 : decode cX9_reading 79 = .ok (.iconst 1, 1) := by decide +kernel
theorem dX9_reading_80 : decode cX9_reading 80 = .ok (.iadd, 1) := by decide +kernel
theorem dX9_reading_81 : decode cX9_reading 81 = .ok (.putfield 173, 3) := by decide +kernel
theorem dX9_reading_84 : decode cX9_reading 84 = .ok (.aload_n 0, 1) := by decide +kernel
theorem dX9_reading_85 : decode cX9_reading 85 = .ok (.getfield 173, 3) := by decide +kernel
theorem dX9_reading_88 : decode cX9_reading 88 = .ok (.iconst 1, 1) := by decide +kernel
theorem dX9_reading_89 : decode cX9_reading 89 = .ok (.isub, 1) := by decide +kernel
theorem dX9_reading_90 : decode cX9_reading 90 = .ok (.ireturn, 1) := by decide +kernel
set_option maxRecDepth 20000 in
theorem ggX9_back_X9_in : GoodIn wsX9_back wsX9_in := goodIn_r _ [5] (by decide +kernel) (by decide +kernel)
set_option maxRecDepth 20000 in
theorem gX9_back_X9_in : GoodIn wsX9_back (va_wsS RX9 106 yX9_in wsX9_in) := goodIn_app (goodIn_of _ (by decide +kernel)) ggX9_back_X9_in
theorem dX9_back_0 : decode cX9_back 0 = .ok (.iload_n 1, 1) := by decide +kernel
theorem dX9_back_1 : decode cX9_back 1 = .ok (.i2l, 1) := by decide +kernel
theorem dX9_back_2 : decode cX9_back 2 = .ok (.lconst 0, 1) := by decide +kernel
theorem dX9_back_3 : decode cX9_back 3 = .ok (.aload_n 0, 1) := by decide +kernel
theorem dX9_back_4 : decode cX9_back 4 = .ok (.getfield 173, 3) := by decide +kernel
theorem dX9_back_7 : decode cX9_back 7 = .ok (.i2l, 1) := by decide +kernel
theorem dX9_back_8 : decode cX9_back 8 = .ok (.invokestatic 106, 3) := by decide +kernel
theorem dX9_back_11 : decode cX9_back 11 = .ok (.ifCond .ne 6, 3) := by decide +kernel
theorem dX9_back_14 : decode cX9_back 14 = .ok (.bipush (-2), 2) := by decide +kernel
theorem dX9_back_16 : decode cX9_back 16 = .ok (.ireturn, 1) := by decide +kernel
theorem dX9_back_17 : decode cX9_back 17 = .ok (.aload_n 0, 1) := by decide +kernel
theorem dX9_back_18 : decode cX9_back 18 = .ok (.dup, 1) := by decide +kernel
theorem dX9_back_19 : decode cX9_back 19 = .ok (.getfield 173, 3) := by decide +kernel
theorem dX9_back_22 : decode cX9_back 22 = .ok (.iload_n 1, 1) := by decide +kernel
theorem dX9_back_23 : decode cX9_back 23 = .ok (.isub, 1) := by decide +kernel
theorem dX9_back_24 : decode cX9_back 24 = .ok (.putfield 173, 3) := by decide +kernel
theorem dX9_back_27 : decode cX9_back 27 = .ok (.aload_n 0, 1) := by decide +kernel
theorem dX9_back_28 : decode cX9_back 28 = .ok (.getfield 173, 3) := by decide +kernel
theorem dX9_back_31 : decode cX9_back 31 = .ok (.ireturn, 1) := by decide +kernel
set_option maxRecDepth 20000 in
theorem ggX9_areSo_X9_numberOf : GoodIn wsX9_areSo wsX9_numberOf := goodIn_r _ [10, 11, 12, 13, 14, 9, 15, 16, 17, 18, 19, 20, 21, 22, 23, 24, 25, 26, 27, 28, 29, 30, 31, 32, 33, 34, 35, 36, 37, 38, 39, 40, 41, 42, 43, 44, 45, 1, 46, 47, 48, 49, 50, 51, 52, 53, 54, 55, 56, 57, 58, 59, 60, 61, 62, 63, 64, 65, 66, 67, 68, 69, 70, 71, 72, 73, 74, 75, 76, 77, 78, 79, 80, 81, 82, 83, 84, 85, 86] (by decide +kernel) (by decide +kernel)
set_option maxRecDepth 20000 in
theorem gX9_areSo_X9_numberOf : GoodIn wsX9_areSo (wsV RX9 207 RX9 yX9_numberOf wsX9_numberOf) := goodIn_app (goodIn_of _ (by decide +kernel)) ggX9_areSo_X9_numberOf
theorem dX9_areSo_0 : decode cX9_areSo 0 = .ok (.aload_n 0, 1) := by decide +kernel
theorem dX9_areSo_1 : decode cX9_areSo 1 = .ok (.getfield 164, 3) := by decide +kernel
theorem dX9_areSo_4 : decode cX9_areSo 4 = .ok (.istore_n 1, 1) := by decide +kernel
theorem dX9_areSo_5 : decode cX9_areSo 5 = .ok (.iconst 1, 1) := by decide +kernel
theorem dX9_areSo_6 : decode cX9_areSo 6 = .ok (.istore_n 2, 1) := by decide +kernel
theorem dX9_areSo_7 : decode cX9_areSo 7 = .ok (.iconst 0, 1) := by decide +kernel
theorem dX9_areSo_8 : decode cX9_areSo 8 = .ok (.istore_n 3, 1) := by decide +kernel
theorem dX9_areSo_9 : decode cX9_areSo 9 = .ok (.iload_n 3, 1) := by decide +kernel
theorem dX9_areSo_10 : decode cX9_areSo 10 = .ok (.aload_n 0, 1) := by decide +kernel
theorem dX9_areSo_11 : decode cX9_areSo 11 = .ok (.getfield 173, 3) := by decide +kernel
theorem dX9_areSo_14 : decode cX9_areSo 14 = .ok (.if_icmp .ge 48, 3) := by decide +kernel
theorem dX9_areSo_17 : decode cX9_areSo 17 = .ok (.iload_n 2, 1) := by decide +kernel
theorem dX9_areSo_18 : decode cX9_areSo 18 = .ok (.ifCond .eq 44, 3) := by decide +kernel
theorem dX9_areSo_21 : decode cX9_areSo 21 = .ok (.aload_n 0, 1) := by decide +kernel
theorem dX9_areSo_22 : decode cX9_areSo 22 = .ok (.aload_n 0, 1) := by decide +kernel
theorem dX9_areSo_23 : decode cX9_areSo 23 = .ok (.getfield 68, 3) := by decide +kernel
theorem dX9_areSo_26 : decode cX9_areSo 26 = .ok (.iload_n 3, 1) := by decide +kernel
theorem dX9_areSo_27 : decode cX9_areSo 27 = .ok (.iaload, 1) := by decide +kernel
theorem dX9_areSo_28 : decode cX9_areSo 28 = .ok (.putfield 164, 3) := by decide +kernel
theorem dX9_areSo_31 : decode cX9_areSo 31 = .ok (.aload_n 0, 1) := by decide +kernel
theorem dX9_areSo_32 : decode cX9_areSo 32 = .ok (.aload_n 0, 1) := by decide +kernel
theorem dX9_areSo_33 : decode cX9_areSo 33 = .ok (.getfield 65, 3) := by decide +kernel
theorem dX9_areSo_36 : decode cX9_areSo 36 = .ok (.iload_n 3, 1) := by decide +kernel
theorem dX9_areSo_37 : decode cX9_areSo 37 = .ok (.iaload, 1) := by decide +kernel
theorem dX9_areSo_38 : decode cX9_areSo 38 = .ok (.invokevirtual 207, 3) := by decide +kernel
theorem dX9_areSo_41 : decode cX9_areSo 41 = .ok (.aload_n 0, 1) := by decide +kernel
theorem dX9_areSo_42 : decode cX9_areSo 42 = .ok (.getfield 71, 3) := by decide +kernel
theorem dX9_areSo_45 : decode cX9_areSo 45 = .ok (.iload_n 3, 1) := by decide +kernel
theorem dX9_areSo_46 : decode cX9_areSo 46 = .ok (.iaload, 1) := by decide +kernel
theorem dX9_areSo_47 : decode cX9_areSo 47 = .ok (.if_icmp .ne 7, 3) := by decide +kernel
theorem dX9_areSo_50 : decode cX9_areSo 50 = .ok (.iconst 1, 1) := by decide +kernel
theorem dX9_areSo_51 : decode cX9_areSo 51 = .ok (.goto 4, 3) := by decide +kernel
theorem dX9_areSo_54 : decode cX9_areSo 54 = .ok (.iconst 0, 1) := by decide +kernel
theorem dX9_areSo_55 : decode cX9_areSo 55 = .ok (.istore_n 2, 1) := by decide +kernel
theorem dX9_areSo_56 : decode cX9_areSo 56 = .ok (.iinc 3 1, 3) := by decide +kernel
theorem dX9_areSo_59 : decode cX9_areSo 59 = .ok (.goto (-50), 3) := by decide +kernel
theorem dX9_areSo_62 : decode cX9_areSo 62 = .ok (.aload_n 0, 1) := by decide +kernel
theorem dX9_areSo_63 : decode cX9_areSo 63 = .ok (.iload_n 1, 1) := by decide +kernel
theorem dX9_areSo_64 : decode cX9_areSo 64 = .ok (.putfield 164, 3) := by decide +kernel
theorem dX9_areSo_67 : decode cX9_areSo 67 = .ok (.iload_n 2, 1) := by decide +kernel
theorem dX9_areSo_68 : decode cX9_areSo 68 = .ok (.ireturn, 1) := by decide +kernel
set_option maxRecDepth 20000 in
theorem ggX9_fogs_X9_areSo : GoodIn wsX9_fogs wsX9_areSo := goodIn_r _ [7, 8, 9, 10, 11, 12, 13, 14, 15, 6, 16, 17, 18, 19, 20, 21, 22, 23, 2, 24, 25, 26, 27, 28, 29, 30, 31, 32, 33, 34, 35, 36, 37, 38, 39, 40, 41, 42, 43, 44, 45, 46, 47, 48, 49, 50, 51, 52, 53, 54, 55, 56, 57, 58, 59, 60, 61, 62, 63, 64, 65, 66, 67, 68, 69, 70, 71, 72, 73, 74, 75, 76, 77, 78, 79, 80, 81, 82, 83, 84, 85, 86, 87, 88, 89, 90, 91] (by decide +kernel) (by decide +kernel)
set_option maxRecDepth 20000 in
theorem gX9_fogs_X9_areSo : GoodIn wsX9_fogs (wsV RX9 239 RX9 yX9_areSo wsX9_areSo) := goodIn_app (goodIn_of _ (by decide +kernel)) ggX9_fogs_X9_areSo
theorem dX9_fogs_0 : decode cX9_fogs 0 = .ok (.aload_n 0, 1) := by decide +kernel
theorem dX9_fogs_1 : decode cX9_fogs 1 = .ok (.getfield 96, 3) := by decide +kernel
theorem dX9_fogs_4 : decode cX9_fogs 4 = .ok (.ifCond .ne 6, 3) := by decide +kernel
theorem dX9_fogs_7 : decode cX9_fogs 7 = .ok (.bipush (-3), 2) := by decide +kernel
theorem dX9_fogs_9 : decode cX9_fogs 9 = .ok (.ireturn, 1) := by decide +kernel
theorem dX9_fogs_10 : decode cX9_fogs 10 = .ok (.aload_n 0, 1) := by decide +kernel
theorem dX9_fogs_11 : decode cX9_fogs 11 = .ok (.getfield 167, 3) := by decide +kernel
theorem dX9_fogs_14 : decode cX9_fogs 14 = .ok (.istore_n 1, 1) := by decide +kernel
theorem dX9_fogs_15 : decode cX9_fogs 15 = .ok (.iconst 0, 1) := by decide +kernel
theorem dX9_fogs_16 : decode cX9_fogs 16 = .ok (.istore_n 2, 1) := by decide +kernel
theorem dX9_fogs_17 : decode cX9_fogs 17 = .ok (.iconst 1, 1) := by decide +kernel
theorem dX9_fogs_18 : decode cX9_fogs 18 = .ok (.istore_n 3, 1) := by decide +kernel
theorem dX9_fogs_19 : decode cX9_fogs 19 = .ok (.iload_n 3, 1) := by decide +kernel
theorem dX9_fogs_20 : decode cX9_fogs 20 = .ok (.bipush 10, 2) := by decide +kernel
theorem dX9_fogs_22 : decode cX9_fogs 22 = .ok (.if_icmp .ge 31, 3) := by decide +kernel
theorem dX9_fogs_25 : decode cX9_fogs 25 = .ok (.aload_n 0, 1) := by decide +kernel
theorem dX9_fogs_26 : decode cX9_fogs 26 = .ok (.iload_n 3, 1) := by decide +kernel
theorem dX9_fogs_27 : decode cX9_fogs 27 = .ok (.putfield 167, 3) := by decide +kernel
theorem dX9_fogs_30 : decode cX9_fogs 30 = .ok (.iload_n 2, 1) := by decide +kernel
theorem dX9_fogs_31 : decode cX9_fogs 31 = .ok (.aload_n 0, 1) := by decide +kernel
theorem dX9_fogs_32 : decode cX9_fogs 32 = .ok (.invokevirtual 239, 3) := by decide +kernel
theorem dX9_fogs_35 : decode cX9_fogs 35 = .ok (.ifCond .eq 9, 3) := by decide +kernel
theorem dX9_fogs_38 : decode cX9_fogs 38 = .ok (.iconst 1, 1) := by decide +kernel
theorem dX9_fogs_39 : decode cX9_fogs 39 = .ok (.iload_n 3, 1) := by decide +kernel
theorem dX9_fogs_40 : decode cX9_fogs 40 = .ok (.ishl, 1) := by decide +kernel
theorem dX9_fogs_41 : decode cX9_fogs 41 = .ok (.goto 4, 3) := by decide +kernel
theorem dX9_fogs_44 : decode cX9_fogs 44 = .ok (.iconst 0, 1) := by decide +kernel
theorem dX9_fogs_45 : decode cX9_fogs 45 = .ok (.ior, 1) := by decide +kernel
theorem dX9_fogs_46 : decode cX9_fogs 46 = .ok (.istore_n 2, 1) := by decide +kernel
theorem dX9_fogs_47 : decode cX9_fogs 47 = .ok (.iinc 3 1, 3) := by decide +kernel
theorem dX9_fogs_50 : decode cX9_fogs 50 = .ok (.goto (-31), 3) := by decide +kernel
theorem dX9_fogs_53 : decode cX9_fogs 53 = .ok (.aload_n 0, 1) := by decide +kernel
theorem dX9_fogs_54 : decode cX9_fogs 54 = .ok (.iload_n 1, 1) := by decide +kernel
theorem dX9_fogs_55 : decode cX9_fogs 55 = .ok (.putfield 167, 3) := by decide +kernel
theorem dX9_fogs_58 : decode cX9_fogs 58 = .ok (.iload_n 2, 1) := by decide +kernel
theorem dX9_fogs_59 : decode cX9_fogs 59 = .ok (.ireturn, 1) := by decide +kernel
set_option maxRecDepth 20000 in
theorem ggX9_stood_X9_in : GoodIn wsX9_stood wsX9_in := goodIn_r _ [6] (by decide +kernel) (by decide +kernel)
set_option maxRecDepth 20000 in
theorem gX9_stood_X9_in : GoodIn wsX9_stood (va_wsS RX9 106 yX9_in wsX9_in) := goodIn_app (goodIn_of _ (by decide +kernel)) ggX9_stood_X9_in
set_option maxRecDepth 20000 in
theorem ggX9_stood_X9_felledNow : GoodIn wsX9_stood wsX9_felledNow := goodIn_r _ [10, 2, 11, 66, 67, 68, 69, 70, 71, 72, 73, 74, 75, 76, 77, 78, 79, 80, 81, 82, 83, 84, 85, 86, 87, 88, 89, 90, 91, 92, 93, 94, 95, 96, 97, 98, 99, 100, 101, 102, 103, 104, 105, 106] (by decide +kernel) (by decide +kernel)
set_option maxRecDepth 20000 in
theorem gX9_stood_X9_felledNow : GoodIn wsX9_stood (wsV RX9 224 RX9 yX9_felledNow wsX9_felledNow) := goodIn_app (goodIn_of _ (by decide +kernel)) ggX9_stood_X9_felledNow
set_option maxRecDepth 20000 in
theorem ggX9_stood_X9_fellAll : GoodIn wsX9_stood wsX9_fellAll := goodIn_r _ [15, 2, 11, 16, 17, 5, 18, 66, 67, 68, 69, 70, 71, 72, 73, 74, 75, 76, 77, 78, 79, 80, 81, 82, 83, 84, 85, 86, 87, 88, 89, 90, 91, 92, 93, 94, 95, 96, 97, 98, 99, 100, 101, 102, 103, 104, 105, 106] (by decide +kernel) (by decide +kernel)
set_option maxRecDepth 20000 in
theorem gX9_stood_X9_fellAll : GoodIn wsX9_stood (wsV RX9 227 RX9 yX9_fellAll wsX9_fellAll) := goodIn_app (goodIn_of _ (by decide +kernel)) ggX9_stood_X9_fellAll
set_option maxRecDepth 20000 in
theorem ggX9_stood_X9_areSo : GoodIn wsX9_stood wsX9_areSo := goodIn_r _ [22, 23, 24, 25, 26, 27, 28, 29, 30, 5, 31, 32, 33, 34, 35, 36, 37, 38, 39, 40, 41, 42, 43, 44, 45, 46, 47, 48, 49, 50, 51, 52, 53, 54, 55, 56, 57, 58, 59, 60, 61, 62, 63, 64, 11, 65, 66, 67, 68, 69, 70, 71, 72, 73, 74, 75, 76, 77, 78, 79, 80, 81, 82, 83, 84, 85, 86, 87, 88, 89, 90, 91, 92, 93, 94, 95, 96, 97, 98, 99, 100, 101, 102, 103, 104, 105, 106] (by decide +kernel) (by decide +kernel)
set_option maxRecDepth 20000 in
theorem gX9_stood_X9_areSo : GoodIn wsX9_stood (wsV RX9 239 RX9 yX9_areSo wsX9_areSo) := goodIn_app (goodIn_of _ (by decide +kernel)) ggX9_stood_X9_areSo
theorem dX9_stood_0 : decode cX9_stood 0 = .ok (.iload_n 1, 1) := by decide +kernel
theorem dX9_stood_1 : decode cX9_stood 1 = .ok (.i2l, 1) := by decide +kernel
theorem dX9_stood_2 : decode cX9_stood 2 = .ok (.lconst 0, 1) := by decide +kernel
theorem dX9_stood_3 : decode cX9_stood 3 = .ok (.lconst 1, 1) := by decide +kernel
theorem dX9_stood_4 : decode cX9_stood 4 = .ok (.invokestatic 106, 3) := by decide +kernel
theorem dX9_stood_7 : decode cX9_stood 7 = .ok (.ifCond .ne 6, 3) := by decide +kernel
theorem dX9_stood_10 : decode cX9_stood 10 = .ok (.bipush (-2), 2) := by decide +kernel
theorem dX9_stood_12 : decode cX9_stood 12 = .ok (.ireturn, 1) := by decide +kernel
theorem dX9_stood_13 : decode cX9_stood 13 = .ok (.aload_n 0, 1) := by decide +kernel
theorem dX9_stood_14 : decode cX9_stood 14 = .ok (.getfield 96, 3) := by decide +kernel
theorem dX9_stood_17 : decode cX9_stood 17 = .ok (.ifCond .ne 6, 3) := by decide +kernel
theorem dX9_stood_20 : decode cX9_stood 20 = .ok (.bipush (-3), 2) := by decide +kernel
theorem dX9_stood_22 : decode cX9_stood 22 = .ok (.ireturn, 1) := by decide +kernel
theorem dX9_stood_23 : decode cX9_stood 23 = .ok (.aload_n 0, 1) := by decide +kernel
theorem dX9_stood_24 : decode cX9_stood 24 = .ok (.invokevirtual 224, 3) := by decide +kernel
theorem dX9_stood_27 : decode cX9_stood 27 = .ok (.istore_n 2, 1) := by decide +kernel
theorem dX9_stood_28 : decode cX9_stood 28 = .ok (.iconst 1, 1) := by decide +kernel
theorem dX9_stood_29 : decode cX9_stood 29 = .ok (.aload_n 0, 1) := by decide +kernel
theorem dX9_stood_30 : decode cX9_stood 30 = .ok (.getfield 113, 3) := by decide +kernel
theorem dX9_stood_33 : decode cX9_stood 33 = .ok (.ishl, 1) := by decide +kernel
theorem dX9_stood_34 : decode cX9_stood 34 = .ok (.iconst 1, 1) := by decide +kernel
theorem dX9_stood_35 : decode cX9_stood 35 = .ok (.isub, 1) := by decide +kernel
theorem dX9_stood_36 : decode cX9_stood 36 = .ok (.istore_n 3, 1) := by decide +kernel
theorem dX9_stood_37 : decode cX9_stood 37 = .ok (.iconst 0, 1) := by decide +kernel
theorem dX9_stood_38 : decode cX9_stood 38 = .ok (.istore 4, 2) := by decide +kernel
theorem dX9_stood_40 : decode cX9_stood 40 = .ok (.bipush (-9), 2) := by decide +kernel
theorem dX9_stood_42 : decode cX9_stood 42 = .ok (.istore 5, 2) := by decide +kernel
theorem dX9_stood_44 : decode cX9_stood 44 = .ok (.iconst 0, 1) := by decide +kernel
theorem dX9_stood_45 : decode cX9_stood 45 = .ok (.istore 6, 2) := by decide +kernel
theorem dX9_stood_47 : decode cX9_stood 47 = .ok (.iload 6, 2) := by decide +kernel
theorem dX9_stood_49 : decode cX9_stood 49 = .ok (.iload_n 3, 1) := by decide +kernel
theorem dX9_stood_50 : decode cX9_stood 50 = .ok (.if_icmp .gt 46, 3) := by decide +kernel
theorem dX9_stood_53 : decode cX9_stood 53 = .ok (.aload_n 0, 1) := by decide +kernel
theorem dX9_stood_54 : decode cX9_stood 54 = .ok (.iload_n 3, 1) := by decide +kernel
theorem dX9_stood_55 : decode cX9_stood 55 = .ok (.iconst 1, 1) := by decide +kernel
theorem dX9_stood_56 : decode cX9_stood 56 = .ok (.invokevirtual 227, 3) := by decide +kernel
theorem dX9_stood_59 : decode cX9_stood 59 = .ok (.aload_n 0, 1) := by decide +kernel
theorem dX9_stood_60 : decode cX9_stood 60 = .ok (.iload 6, 2) := by decide +kernel
theorem dX9_stood_62 : decode cX9_stood 62 = .ok (.iconst 0, 1) := by decide +kernel
theorem dX9_stood_63 : decode cX9_stood 63 = .ok (.invokevirtual 227, 3) := by decide +kernel
theorem dX9_stood_66 : decode cX9_stood 66 = .ok (.aload_n 0, 1) := by decide +kernel
theorem dX9_stood_67 : decode cX9_stood 67 = .ok (.invokevirtual 239, 3) := by decide +kernel
theorem dX9_stood_70 : decode cX9_stood 70 = .ok (.ifCond .eq 20, 3) := by decide +kernel
theorem dX9_stood_73 : decode cX9_stood 73 = .ok (.iload 4, 2) := by decide +kernel
theorem dX9_stood_75 : decode cX9_stood 75 = .ok (.ifCond .ne 8, 3) := by decide +kernel
theorem dX9_stood_78 : decode cX9_stood 78 = .ok (.iload 6, 2) := by decide +kernel
theorem dX9_stood_80 : decode cX9_stood 80 = .ok (.goto 5, 3) := by decide +kernel
theorem dX9_stood_83 : decode cX9_stood 83 = .ok (.iload 5, 2) := by decide +kernel
theorem dX9_stood_85 : decode cX9_stood 85 = .ok (.istore 5, 2) := by decide +kernel
theorem dX9_stood_87 : decode cX9_stood 87 = .ok (.iinc 4 1, 3) := by decide +kernel
theorem dX9_stood_90 : decode cX9_stood 90 = .ok (.iinc 6 1, 3) := by decide +kernel
theorem dX9_stood_93 : decode cX9_stood 93 = .ok (.goto (-46), 3) := by decide +kernel
theorem dX9_stood_96 : decode cX9_stood 96 = .ok (.aload_n 0, 1) := by decide +kernel
theorem dX9_stood_97 : decode cX9_stood 97 = .ok (.iload_n 3, 1) := by decide +kernel
theorem dX9_stood_98 : decode cX9_stood 98 = .ok (.iconst 0, 1) := by decide +kernel
theorem dX9_stood_99 : decode cX9_stood 99 = .ok (.invokevirtual 227, 3) := by decide +kernel
theorem dX9_stood_102 : decode cX9_stood 102 = .ok (.aload_n 0, 1) := by decide +kernel
theorem dX9_stood_103 : decode cX9_stood 103 = .ok (.iload_n 2, 1) := by decide +kernel
theorem dX9_stood_104 : decode cX9_stood 104 = .ok (.iconst 1, 1) := by decide +kernel
theorem dX9_stood_105 : decode cX9_stood 105 = .ok (.invokevirtual 227, 3) := by decide +kernel
theorem dX9_stood_108 : decode cX9_stood 108 = .ok (.iload_n 1, 1) := by decide +kernel
theorem dX9_stood_109 : decode cX9_stood 109 = .ok (.ifCond .ne 8, 3) := by decide +kernel
theorem dX9_stood_112 : decode cX9_stood 112 = .ok (.iload 4, 2) := by decide +kernel
theorem dX9_stood_114 : decode cX9_stood 114 = .ok (.goto 5, 3) := by decide +kernel
theorem dX9_stood_117 : decode cX9_stood 117 = .ok (.iload 5, 2) := by decide +kernel
theorem dX9_stood_119 : decode cX9_stood 119 = .ok (.ireturn, 1) := by decide +kernel
set_option maxRecDepth 20000 in
theorem ggX9_noSheet_X9_in : GoodIn wsX9_noSheet wsX9_in := goodIn_r _ [5] (by decide +kernel) (by decide +kernel)
set_option maxRecDepth 20000 in
theorem gX9_noSheet_X9_in : GoodIn wsX9_noSheet (va_wsS RX9 106 yX9_in wsX9_in) := goodIn_app (goodIn_of _ (by decide +kernel)) ggX9_noSheet_X9_in
theorem dX9_noSheet_0 : decode cX9_noSheet 0 = .ok (.iload_n 0, 1) := by decide +kernel
theorem dX9_noSheet_1 : decode cX9_noSheet 1 = .ok (.i2l, 1) := by decide +kernel
theorem dX9_noSheet_2 : decode cX9_noSheet 2 = .ok (.lconst 0, 1) := by decide +kernel
theorem dX9_noSheet_3 : decode cX9_noSheet 3 = .ok (.ldc2_w 243, 3) := by decide +kernel
theorem dX9_noSheet_6 : decode cX9_noSheet 6 = .ok (.invokestatic 106, 3) := by decide +kernel
theorem dX9_noSheet_9 : decode cX9_noSheet 9 = .ok (.ifCond .ne 7, 3) := by decide +kernel
theorem dX9_noSheet_12 : decode cX9_noSheet 12 = .ok (.iconst 1, 1) := by decide +kernel
theorem dX9_noSheet_13 : decode cX9_noSheet 13 = .ok (.goto 4, 3) := by decide +kernel
theorem dX9_noSheet_16 : decode cX9_noSheet 16 = .ok (.iconst 0, 1) := by decide +kernel
theorem dX9_noSheet_17 : decode cX9_noSheet 17 = .ok (.ireturn, 1) := by decide +kernel
set_option maxRecDepth 20000 in
theorem ggX9_sheet_X9_noSheet : GoodIn wsX9_sheet wsX9_noSheet := goodIn_r _ [8, 9, 10, 11, 7, 12] (by decide +kernel) (by decide +kernel)
set_option maxRecDepth 20000 in
theorem gX9_sheet_X9_noSheet : GoodIn wsX9_sheet (va_wsS RX9 143 yX9_noSheet wsX9_noSheet) := goodIn_app (goodIn_of _ (by decide +kernel)) ggX9_sheet_X9_noSheet
set_option maxRecDepth 20000 in
theorem ggX9_sheet_X9_refused : GoodIn wsX9_sheet wsX9_refused := goodIn_r _ [16, 17, 22, 23, 24, 25, 26, 27, 28, 29, 30, 31, 32, 33, 34, 35, 36, 37, 38, 39, 40, 41, 42, 43, 44, 45, 46, 47, 48, 49, 50, 51, 52, 53, 54, 55, 56, 57, 58, 59, 60, 61, 62] (by decide +kernel) (by decide +kernel)
set_option maxRecDepth 20000 in
theorem gX9_sheet_X9_refused : GoodIn wsX9_sheet (wsV RX9 147 RX9 yX9_refused wsX9_refused) := goodIn_app (goodIn_of _ (by decide +kernel)) ggX9_sheet_X9_refused
set_option maxRecDepth 20000 in
theorem ggX9_sheet_X9_in : GoodIn wsX9_sheet wsX9_in := goodIn_r _ [12] (by decide +kernel) (by decide +kernel)
set_option maxRecDepth 20000 in
theorem gX9_sheet_X9_in : GoodIn wsX9_sheet (va_wsS RX9 106 yX9_in wsX9_in) := goodIn_app (goodIn_of _ (by decide +kernel)) ggX9_sheet_X9_in
set_option maxRecDepth 20000 in
theorem ggX9_sheet_X9_failed : GoodIn wsX9_sheet wsX9_failed := goodIn_r _ [21, 17, 22, 23, 24, 25, 26, 27, 28, 29, 30, 31, 32, 33, 34, 35, 36, 37, 38, 39, 40, 41, 42, 43, 44, 45, 46, 47, 48, 49, 50, 51, 52, 53, 54, 55, 56, 57, 58, 59, 60, 61, 62] (by decide +kernel) (by decide +kernel)
set_option maxRecDepth 20000 in
theorem gX9_sheet_X9_failed : GoodIn wsX9_sheet (wsV RX9 153 RX9 yX9_failed wsX9_failed) := goodIn_app (goodIn_of _ (by decide +kernel)) ggX9_sheet_X9_failed
theorem dX9_sheet_0 : decode cX9_sheet 0 = .ok (.iload_n 1, 1) := by decide +kernel
theorem dX9_sheet_1 : decode cX9_sheet 1 = .ok (.invokestatic 143, 3) := by decide +kernel
theorem dX9_sheet_4 : decode cX9_sheet 4 = .ok (.ifCond .eq 9, 3) := by decide +kernel
theorem dX9_sheet_7 : decode cX9_sheet 7 = .ok (.aload_n 0, 1) := by decide +kernel
theorem dX9_sheet_8 : decode cX9_sheet 8 = .ok (.iconst (-1), 1) := by decide +kernel
theorem dX9_sheet_9 : decode cX9_sheet 9 = .ok (.invokevirtual 147, 3) := by decide +kernel
theorem dX9_sheet_12 : decode cX9_sheet 12 = .ok (.ireturn, 1) := by decide +kernel
theorem dX9_sheet_13 : decode cX9_sheet 13 = .ok (.iload_n 2, 1) := by decide +kernel
theorem dX9_sheet_14 : decode cX9_sheet 14 = .ok (.i2l, 1) := by decide +kernel
theorem dX9_sheet_15 : decode cX9_sheet 15 = .ok (.lconst 0, 1) := by decide +kernel
theorem dX9_sheet_16 : decode cX9_sheet 16 = .ok (.ldc2_w 151, 3) := by decide +kernel
theorem dX9_sheet_19 : decode cX9_sheet 19 = .ok (.invokestatic 106, 3) := by decide +kernel
theorem dX9_sheet_22 : decode cX9_sheet 22 = .ok (.ifCond .eq 9, 3) := by decide +kernel
theorem dX9_sheet_25 : decode cX9_sheet 25 = .ok (.iload_n 3, 1) := by decide +kernel
theorem dX9_sheet_26 : decode cX9_sheet 26 = .ok (.bipush 100, 2) := by decide +kernel
theorem dX9_sheet_28 : decode cX9_sheet 28 = .ok (.if_icmp .le 10, 3) := by decide +kernel
theorem dX9_sheet_31 : decode cX9_sheet 31 = .ok (.aload_n 0, 1) := by decide +kernel
theorem dX9_sheet_32 : decode cX9_sheet 32 = .ok (.bipush (-2), 2) := by decide +kernel
theorem dX9_sheet_34 : decode cX9_sheet 34 = .ok (.invokevirtual 147, 3) := by decide +kernel
theorem dX9_sheet_37 : decode cX9_sheet 37 = .ok (.ireturn, 1) := by decide +kernel
theorem dX9_sheet_38 : decode cX9_sheet 38 = .ok (.iload_n 3, 1) := by decide +kernel
theorem dX9_sheet_39 : decode cX9_sheet 39 = .ok (.ifCond .ge 9, 3) := by decide +kernel
theorem dX9_sheet_42 : decode cX9_sheet 42 = .ok (.aload_n 0, 1) := by decide +kernel
theorem dX9_sheet_43 : decode cX9_sheet 43 = .ok (.iconst 4, 1) := by decide +kernel
theorem dX9_sheet_44 : decode cX9_sheet 44 = .ok (.invokevirtual 153, 3) := by decide +kernel
theorem dX9_sheet_47 : decode cX9_sheet 47 = .ok (.ireturn, 1) := by decide +kernel
theorem dX9_sheet_48 : decode cX9_sheet 48 = .ok (.aload_n 0, 1) := by decide +kernel
theorem dX9_sheet_49 : decode cX9_sheet 49 = .ok (.getfield 74, 3) := by decide +kernel
theorem dX9_sheet_52 : decode cX9_sheet 52 = .ok (.iload_n 1, 1) := by decide +kernel
theorem dX9_sheet_53 : decode cX9_sheet 53 = .ok (.iload_n 3, 1) := by decide +kernel
theorem dX9_sheet_54 : decode cX9_sheet 54 = .ok (.iastore, 1) := by decide +kernel
theorem dX9_sheet_55 : decode cX9_sheet 55 = .ok (.aload_n 0, 1) := by decide +kernel
theorem dX9_sheet_56 : decode cX9_sheet 56 = .ok (.getfield 77, 3) := by decide +kernel
theorem dX9_sheet_59 : decode cX9_sheet 59 = .ok (.iload_n 1, 1) := by decide +kernel
theorem dX9_sheet_60 : decode cX9_sheet 60 = .ok (.iload_n 2, 1) := by decide +kernel
theorem dX9_sheet_61 : decode cX9_sheet 61 = .ok (.iastore, 1) := by decide +kernel
theorem dX9_sheet_62 : decode cX9_sheet 62 = .ok (.iconst 0, 1) := by decide +kernel
theorem dX9_sheet_63 : decode cX9_sheet 63 = .ok (.istore 4, 2) := by decide +kernel
theorem dX9_sheet_65 : decode cX9_sheet 65 = .ok (.iload 4, 2) := by decide +kernel
theorem dX9_sheet_67 : decode cX9_sheet 67 = .ok (.iload_n 3, 1) := by decide +kernel
theorem dX9_sheet_68 : decode cX9_sheet 68 = .ok (.if_icmp .ge 22, 3) := by decide +kernel
theorem dX9_sheet_71 : decode cX9_sheet 71 = .ok (.aload_n 0, 1) := by decide +kernel
theorem dX9_sheet_72 : decode cX9_sheet 72 = .ok (.getfield 80, 3) := by decide +kernel
theorem dX9_sheet_75 : decode cX9_sheet 75 = .ok (.bipush 100, 2) := by decide +kernel
theorem dX9_sheet_77 : decode cX9_sheet 77 = .ok (.iload_n 1, 1) := by decide +kernel
theorem dX9_sheet_78 : decode cX9_sheet 78 = .ok (.imul, 1) := by decide +kernel
theorem dX9_sheet_79 : decode cX9_sheet 79 = .ok (.iload 4, 2) := by decide +kernel
theorem dX9_sheet_81 : decode cX9_sheet 81 = .ok (.iadd, 1) := by decide +kernel
theorem dX9_sheet_82 : decode cX9_sheet 82 = .ok (.iconst 0, 1) := by decide +kernel
theorem dX9_sheet_83 : decode cX9_sheet 83 = .ok (.iastore, 1) := by decide +kernel
theorem dX9_sheet_84 : decode cX9_sheet 84 = .ok (.iinc 4 1, 3) := by decide +kernel
theorem dX9_sheet_87 : decode cX9_sheet 87 = .ok (.goto (-22), 3) := by decide +kernel
theorem dX9_sheet_90 : decode cX9_sheet 90 = .ok (.aload_n 0, 1) := by decide +kernel
theorem dX9_sheet_91 : decode cX9_sheet 91 = .ok (.iconst 1, 1) := by decide +kernel
theorem dX9_sheet_92 : decode cX9_sheet 92 = .ok (.invokevirtual 147, 3) := by decide +kernel
theorem dX9_sheet_95 : decode cX9_sheet 95 = .ok (.ireturn, 1) := by decide +kernel
set_option maxRecDepth 20000 in
theorem ggX9_lose_X9_noSheet : GoodIn wsX9_lose wsX9_noSheet := goodIn_r _ [5, 6, 7, 8, 4, 9] (by decide +kernel) (by decide +kernel)
set_option maxRecDepth 20000 in
theorem gX9_lose_X9_noSheet : GoodIn wsX9_lose (va_wsS RX9 143 yX9_noSheet wsX9_noSheet) := goodIn_app (goodIn_of _ (by decide +kernel)) ggX9_lose_X9_noSheet
theorem dX9_lose_0 : decode cX9_lose 0 = .ok (.iload_n 1, 1) := by decide +kernel
theorem dX9_lose_1 : decode cX9_lose 1 = .ok (.invokestatic 143, 3) := by decide +kernel
theorem dX9_lose_4 : decode cX9_lose 4 = .ok (.ifCond .eq 5, 3) := by decide +kernel
theorem dX9_lose_7 : decode cX9_lose 7 = .ok (.iconst (-1), 1) := by decide +kernel
theorem dX9_lose_8 : decode cX9_lose 8 = .ok (.ireturn, 1) := by decide +kernel
theorem dX9_lose_9 : decode cX9_lose 9 = .ok (.aload_n 0, 1) := by decide +kernel
theorem dX9_lose_10 : decode cX9_lose 10 = .ok (.getfield 74, 3) := by decide +kernel
theorem dX9_lose_13 : decode cX9_lose 13 = .ok (.iload_n 1, 1) := by decide +kernel
theorem dX9_lose_14 : decode cX9_lose 14 = .ok (.iaload, 1) := by decide +kernel
theorem dX9_lose_15 : decode cX9_lose 15 = .ok (.ifCond .ge 7, 3) := by decide +kernel
theorem dX9_lose_18 : decode cX9_lose 18 = .ok (.iconst 0, 1) := by decide +kernel
theorem dX9_lose_19 : decode cX9_lose 19 = .ok (.goto 4, 3) := by decide +kernel
theorem dX9_lose_22 : decode cX9_lose 22 = .ok (.iconst 1, 1) := by decide +kernel
theorem dX9_lose_23 : decode cX9_lose 23 = .ok (.istore_n 2, 1) := by decide +kernel
theorem dX9_lose_24 : decode cX9_lose 24 = .ok (.aload_n 0, 1) := by decide +kernel
theorem dX9_lose_25 : decode cX9_lose 25 = .ok (.getfield 74, 3) := by decide +kernel
theorem dX9_lose_28 : decode cX9_lose 28 = .ok (.iload_n 1, 1) := by decide +kernel
theorem dX9_lose_29 : decode cX9_lose 29 = .ok (.iconst (-1), 1) := by decide +kernel
theorem dX9_lose_30 : decode cX9_lose 30 = .ok (.iastore, 1) := by decide +kernel
theorem dX9_lose_31 : decode cX9_lose 31 = .ok (.iload_n 2, 1) := by decide +kernel
theorem dX9_lose_32 : decode cX9_lose 32 = .ok (.ireturn, 1) := by decide +kernel
set_option maxRecDepth 20000 in
theorem ggX9_noCell__X9_in : GoodIn wsX9_noCell_ wsX9_in := goodIn_r _ [5] (by decide +kernel) (by decide +kernel)
set_option maxRecDepth 20000 in
theorem gX9_noCell__X9_in : GoodIn wsX9_noCell_ (va_wsS RX9 106 yX9_in wsX9_in) := goodIn_app (goodIn_of _ (by decide +kernel)) ggX9_noCell__X9_in
theorem dX9_noCell__0 : decode cX9_noCell_ 0 = .ok (.aload_n 0, 1) := by decide +kernel
theorem dX9_noCell__1 : decode cX9_noCell_ 1 = .ok (.getfield 74, 3) := by decide +kernel
theorem dX9_noCell__4 : decode cX9_noCell_ 4 = .ok (.iload_n 1, 1) := by decide +kernel
theorem dX9_noCell__5 : decode cX9_noCell_ 5 = .ok (.iaload, 1) := by decide +kernel
theorem dX9_noCell__6 : decode cX9_noCell_ 6 = .ok (.ifCond .ge 7, 3) := by decide +kernel
theorem dX9_noCell__9 : decode cX9_noCell_ 9 = .ok (.iconst 1, 1) := by decide +kernel
theorem dX9_noCell__10 : decode cX9_noCell_ 10 = .ok (.goto 26, 3) := by decide +kernel
theorem dX9_noCell__13 : decode cX9_noCell_ 13 = .ok (.iload_n 2, 1) := by decide +kernel
theorem dX9_noCell__14 : decode cX9_noCell_ 14 = .ok (.i2l, 1) := by decide +kernel
theorem dX9_noCell__15 : decode cX9_noCell_ 15 = .ok (.lconst 0, 1) := by decide +kernel
theorem dX9_noCell__16 : decode cX9_noCell_ 16 = .ok (.aload_n 0, 1) := by decide +kernel
theorem dX9_noCell__17 : decode cX9_noCell_ 17 = .ok (.getfield 74, 3) := by decide +kernel
theorem dX9_noCell__20 : decode cX9_noCell_ 20 = .ok (.iload_n 1, 1) := by decide +kernel
theorem dX9_noCell__21 : decode cX9_noCell_ 21 = .ok (.iaload, 1) := by decide +kernel
theorem dX9_noCell__22 : decode cX9_noCell_ 22 = .ok (.i2l, 1) := by decide +kernel
theorem dX9_noCell__23 : decode cX9_noCell_ 23 = .ok (.lconst 1, 1) := by decide +kernel
theorem dX9_noCell__24 : decode cX9_noCell_ 24 = .ok (.lsub, 1) := by decide +kernel
theorem dX9_noCell__25 : decode cX9_noCell_ 25 = .ok (.invokestatic 106, 3) := by decide +kernel
theorem dX9_noCell__28 : decode cX9_noCell_ 28 = .ok (.ifCond .eq 7, 3) := by decide +kernel
theorem dX9_noCell__31 : decode cX9_noCell_ 31 = .ok (.iconst 0, 1) := by decide +kernel
theorem dX9_noCell__32 : decode cX9_noCell_ 32 = .ok (.goto 4, 3) := by decide +kernel
theorem dX9_noCell__35 : decode cX9_noCell_ 35 = .ok (.iconst 3, 1) := by decide +kernel
theorem dX9_noCell__36 : decode cX9_noCell_ 36 = .ok (.ireturn, 1) := by decide +kernel
set_option maxRecDepth 20000 in
theorem ggX9_put_X9_noSheet : GoodIn wsX9_put wsX9_noSheet := goodIn_r _ [6, 7, 8, 9, 5, 10] (by decide +kernel) (by decide +kernel)
set_option maxRecDepth 20000 in
theorem gX9_put_X9_noSheet : GoodIn wsX9_put (va_wsS RX9 143 yX9_noSheet wsX9_noSheet) := goodIn_app (goodIn_of _ (by decide +kernel)) ggX9_put_X9_noSheet
set_option maxRecDepth 20000 in
theorem ggX9_put_X9_refused : GoodIn wsX9_put wsX9_refused := goodIn_r _ [14, 15, 25, 26, 27, 28, 29, 30, 31, 32, 33, 34, 35, 36, 37, 38, 39, 40, 41, 42, 43, 44, 45, 46, 47, 48, 49, 50, 51, 52, 53, 54, 55, 56, 57, 58, 59, 60, 61, 62, 63, 64, 65] (by decide +kernel) (by decide +kernel)
set_option maxRecDepth 20000 in
theorem gX9_put_X9_refused : GoodIn wsX9_put (wsV RX9 147 RX9 yX9_refused wsX9_refused) := goodIn_app (goodIn_of _ (by decide +kernel)) ggX9_put_X9_refused
set_option maxRecDepth 20000 in
theorem ggX9_put_X9_noCell_ : GoodIn wsX9_put wsX9_noCell_ := goodIn_r _ [19, 20, 8, 9, 5, 10, 25, 26, 27, 28, 29, 30, 31, 32, 33, 34, 35, 36, 37, 38, 39, 40, 41, 42, 43, 44, 45, 46, 47, 48, 49, 50, 51, 52, 53, 54, 55, 56, 57, 58, 59, 60, 61, 62, 63, 64, 65] (by decide +kernel) (by decide +kernel)
set_option maxRecDepth 20000 in
theorem gX9_put_X9_noCell_ : GoodIn wsX9_put (wsV RX9 245 RX9 yX9_noCell_ wsX9_noCell_) := goodIn_app (goodIn_of _ (by decide +kernel)) ggX9_put_X9_noCell_
set_option maxRecDepth 20000 in
theorem ggX9_put_X9_failed : GoodIn wsX9_put wsX9_failed := goodIn_r _ [24, 15, 25, 26, 27, 28, 29, 30, 31, 32, 33, 34, 35, 36, 37, 38, 39, 40, 41, 42, 43, 44, 45, 46, 47, 48, 49, 50, 51, 52, 53, 54, 55, 56, 57, 58, 59, 60, 61, 62, 63, 64, 65] (by decide +kernel) (by decide +kernel)
set_option maxRecDepth 20000 in
theorem gX9_put_X9_failed : GoodIn wsX9_put (wsV RX9 153 RX9 yX9_failed wsX9_failed) := goodIn_app (goodIn_of _ (by decide +kernel)) ggX9_put_X9_failed
theorem dX9_put_0 : decode cX9_put 0 = .ok (.iload_n 1, 1) := by decide +kernel
theorem dX9_put_1 : decode cX9_put 1 = .ok (.invokestatic 143, 3) := by decide +kernel
theorem dX9_put_4 : decode cX9_put 4 = .ok (.ifCond .eq 9, 3) := by decide +kernel
theorem dX9_put_7 : decode cX9_put 7 = .ok (.aload_n 0, 1) := by decide +kernel
theorem dX9_put_8 : decode cX9_put 8 = .ok (.iconst (-1), 1) := by decide +kernel
theorem dX9_put_9 : decode cX9_put 9 = .ok (.invokevirtual 147, 3) := by decide +kernel
theorem dX9_put_12 : decode cX9_put 12 = .ok (.ireturn, 1) := by decide +kernel
theorem dX9_put_13 : decode cX9_put 13 = .ok (.aload_n 0, 1) := by decide +kernel
theorem dX9_put_14 : decode cX9_put 14 = .ok (.iload_n 1, 1) := by decide +kernel
theorem dX9_put_15 : decode cX9_put 15 = .ok (.iload_n 2, 1) := by decide +kernel
theorem dX9_put_16 : decode cX9_put 16 = .ok (.invokevirtual 245, 3) := by decide +kernel
theorem dX9_put_19 : decode cX9_put 19 = .ok (.ifCond .le 14, 3) := by decide +kernel
theorem dX9_put_22 : decode cX9_put 22 = .ok (.aload_n 0, 1) := by decide +kernel
theorem dX9_put_23 : decode cX9_put 23 = .ok (.aload_n 0, 1) := by decide +kernel
theorem dX9_put_24 : decode cX9_put 24 = .ok (.iload_n 1, 1) := by decide +kernel
theorem dX9_put_25 : decode cX9_put 25 = .ok (.iload_n 2, 1) := by decide +kernel
theorem dX9_put_26 : decode cX9_put 26 = .ok (.invokevirtual 245, 3) := by decide +kernel
theorem dX9_put_29 : decode cX9_put 29 = .ok (.invokevirtual 153, 3) := by decide +kernel
theorem dX9_put_32 : decode cX9_put 32 = .ok (.ireturn, 1) := by decide +kernel
theorem dX9_put_33 : decode cX9_put 33 = .ok (.aload_n 0, 1) := by decide +kernel
theorem dX9_put_34 : decode cX9_put 34 = .ok (.getfield 80, 3) := by decide +kernel
theorem dX9_put_37 : decode cX9_put 37 = .ok (.bipush 100, 2) := by decide +kernel
theorem dX9_put_39 : decode cX9_put 39 = .ok (.iload_n 1, 1) := by decide +kernel
theorem dX9_put_40 : decode cX9_put 40 = .ok (.imul, 1) := by decide +kernel
theorem dX9_put_41 : decode cX9_put 41 = .ok (.iload_n 2, 1) := by decide +kernel
theorem dX9_put_42 : decode cX9_put 42 = .ok (.iadd, 1) := by decide +kernel
theorem dX9_put_43 : decode cX9_put 43 = .ok (.aload_n 0, 1) := by decide +kernel
theorem dX9_put_44 : decode cX9_put 44 = .ok (.getfield 77, 3) := by decide +kernel
theorem dX9_put_47 : decode cX9_put 47 = .ok (.iload_n 1, 1) := by decide +kernel
theorem dX9_put_48 : decode cX9_put 48 = .ok (.iaload, 1) := by decide +kernel
theorem dX9_put_49 : decode cX9_put 49 = .ok (.ifCond .ne 8, 3) := by decide +kernel
theorem dX9_put_52 : decode cX9_put 52 = .ok (.iload_n 3, 1) := by decide +kernel
theorem dX9_put_53 : decode cX9_put 53 = .ok (.i2b, 1) := by decide +kernel
theorem dX9_put_54 : decode cX9_put 54 = .ok (.goto 19, 3) := by decide +kernel
theorem dX9_put_57 : decode cX9_put 57 = .ok (.aload_n 0, 1) := by decide +kernel
theorem dX9_put_58 : decode cX9_put 58 = .ok (.getfield 77, 3) := by decide +kernel
theorem dX9_put_61 : decode cX9_put 61 = .ok (.iload_n 1, 1) := by decide +kernel
theorem dX9_put_62 : decode cX9_put 62 = .ok (.iaload, 1) := by decide +kernel
theorem dX9_put_63 : decode cX9_put 63 = .ok (.iconst 1, 1) := by decide +kernel
theorem dX9_put_64 : decode cX9_put 64 = .ok (.if_icmp .ne 8, 3) := by decide +kernel
theorem dX9_put_67 : decode cX9_put 67 = .ok (.iload_n 3, 1) := by decide +kernel
theorem dX9_put_68 : decode cX9_put 68 = .ok (.i2s, 1) := by decide +kernel
theorem dX9_put_69 : decode cX9_put 69 = .ok (.goto 4, 3) := by decide +kernel
theorem dX9_put_72 : decode cX9_put 72 = .ok (.iload_n 3, 1) := by decide +kernel
theorem dX9_put_73 : decode cX9_put 73 = .ok (.iastore, 1) := by decide +kernel
theorem dX9_put_74 : decode cX9_put 74 = .ok (.aload_n 0, 1) := by decide +kernel
theorem dX9_put_75 : decode cX9_put 75 = .ok (.iconst 1, 1) := by decide +kernel
theorem dX9_put_76 : decode cX9_put 76 = .ok (.invokevirtual 147, 3) := by decide +kernel
theorem dX9_put_79 : decode cX9_put 79 = .ok (.ireturn, 1) := by decide +kernel
set_option maxRecDepth 20000 in
theorem ggX9_cell_X9_noSheet : GoodIn wsX9_cell wsX9_noSheet := goodIn_r _ [9, 10, 11, 12, 8, 13] (by decide +kernel) (by decide +kernel)
set_option maxRecDepth 20000 in
theorem gX9_cell_X9_noSheet : GoodIn wsX9_cell (va_wsS RX9 143 yX9_noSheet wsX9_noSheet) := goodIn_app (goodIn_of _ (by decide +kernel)) ggX9_cell_X9_noSheet
set_option maxRecDepth 20000 in
theorem ggX9_cell_X9_in : GoodIn wsX9_cell wsX9_in := goodIn_r _ [13] (by decide +kernel) (by decide +kernel)
set_option maxRecDepth 20000 in
theorem gX9_cell_X9_in : GoodIn wsX9_cell (va_wsS RX9 106 yX9_in wsX9_in) := goodIn_app (goodIn_of _ (by decide +kernel)) ggX9_cell_X9_in
set_option maxRecDepth 20000 in
theorem ggX9_cell_X9_lost : GoodIn wsX9_cell wsX9_lost := goodIn_r _ [16, 17] (by decide +kernel) (by decide +kernel)
set_option maxRecDepth 20000 in
theorem gX9_cell_X9_lost : GoodIn wsX9_cell (va_wsS RX9 92 yX9_lost wsX9_lost) := goodIn_app (goodIn_of _ (by decide +kernel)) ggX9_cell_X9_lost
set_option maxRecDepth 20000 in
theorem ggX9_cell_X9_failedLong : GoodIn wsX9_cell wsX9_failedLong := goodIn_r _ [21, 1, 14, 15, 8, 16, 17, 26, 27, 28, 29, 30, 31, 32, 33, 34, 35, 36, 37, 38, 39, 40, 41, 42, 43, 44, 45, 46, 47, 48, 49, 50, 51, 52, 53, 54, 55, 56, 57, 58, 59, 60, 61, 62, 63, 64, 65, 66] (by decide +kernel) (by decide +kernel)
set_option maxRecDepth 20000 in
theorem gX9_cell_X9_failedLong : GoodIn wsX9_cell (wsV RX9 247 RX9 yX9_failedLong wsX9_failedLong) := goodIn_app (goodIn_of _ (by decide +kernel)) ggX9_cell_X9_failedLong
set_option maxRecDepth 20000 in
theorem ggX9_cell_X9_noCell_ : GoodIn wsX9_cell wsX9_noCell_ := goodIn_r _ [25, 3, 11, 12, 8, 13, 26, 27, 28, 29, 30, 31, 32, 33, 34, 35, 36, 37, 38, 39, 40, 41, 42, 43, 44, 45, 46, 47, 48, 49, 50, 51, 52, 53, 54, 55, 56, 57, 58, 59, 60, 61, 62, 63, 64, 65, 66] (by decide +kernel) (by decide +kernel)
set_option maxRecDepth 20000 in
theorem gX9_cell_X9_noCell_ : GoodIn wsX9_cell (wsV RX9 245 RX9 yX9_noCell_ wsX9_noCell_) := goodIn_app (goodIn_of _ (by decide +kernel)) ggX9_cell_X9_noCell_
theorem dX9_cell_0 : decode cX9_cell 0 = .ok (.aload_n 0, 1) := by decide +kernel
theorem dX9_cell_1 : decode cX9_cell 1 = .ok (.iconst 0, 1) := by decide +kernel
theorem dX9_cell_2 : decode cX9_cell 2 = .ok (.putfield 88, 3) := by decide +kernel
theorem dX9_cell_5 : decode cX9_cell 5 = .ok (.iload_n 1, 1) := by decide +kernel
theorem dX9_cell_6 : decode cX9_cell 6 = .ok (.invokestatic 143, 3) := by decide +kernel
theorem dX9_cell_9 : decode cX9_cell 9 = .ok (.ifCond .ne 15, 3) := by decide +kernel
theorem dX9_cell_12 : decode cX9_cell 12 = .ok (.iload_n 3, 1) := by decide +kernel
theorem dX9_cell_13 : decode cX9_cell 13 = .ok (.i2l, 1) := by decide +kernel
theorem dX9_cell_14 : decode cX9_cell 14 = .ok (.lconst 0, 1) := by decide +kernel
theorem dX9_cell_15 : decode cX9_cell 15 = .ok (.ldc2_w 151, 3) := by decide +kernel
theorem dX9_cell_18 : decode cX9_cell 18 = .ok (.invokestatic 106, 3) := by decide +kernel
theorem dX9_cell_21 : decode cX9_cell 21 = .ok (.ifCond .ne 7, 3) := by decide +kernel
theorem dX9_cell_24 : decode cX9_cell 24 = .ok (.invokestatic 92, 3) := by decide +kernel
theorem dX9_cell_27 : decode cX9_cell 27 = .ok (.lreturn, 1) := by decide +kernel
theorem dX9_cell_28 : decode cX9_cell 28 = .ok (.aload_n 0, 1) := by decide +kernel
theorem dX9_cell_29 : decode cX9_cell 29 = .ok (.getfield 74, 3) := by decide +kernel
theorem dX9_cell_32 : decode cX9_cell 32 = .ok (.iload_n 1, 1) := by decide +kernel
theorem dX9_cell_33 : decode cX9_cell 33 = .ok (.iaload, 1) := by decide +kernel
theorem dX9_cell_34 : decode cX9_cell 34 = .ok (.ifCond .lt 19, 3) := by decide +kernel
theorem dX9_cell_37 : decode cX9_cell 37 = .ok (.aload_n 0, 1) := by decide +kernel
theorem dX9_cell_38 : decode cX9_cell 38 = .ok (.getfield 77, 3) := by decide +kernel
theorem dX9_cell_41 : decode cX9_cell 41 = .ok (.iload_n 1, 1) := by decide +kernel
theorem dX9_cell_42 : decode cX9_cell 42 = .ok (.iaload, 1) := by decide +kernel
theorem dX9_cell_43 : decode cX9_cell 43 = .ok (.iload_n 3, 1) := by decide +kernel
theorem dX9_cell_44 : decode cX9_cell 44 = .ok (.if_icmp .eq 9, 3) := by decide +kernel
theorem dX9_cell_47 : decode cX9_cell 47 = .ok (.aload_n 0, 1) := by decide +kernel
theorem dX9_cell_48 : decode cX9_cell 48 = .ok (.iconst 2, 1) := by decide +kernel
theorem dX9_cell_49 : decode cX9_cell 49 = .ok (.invokevirtual 247, 3) := by decide +kernel
theorem dX9_cell_52 : decode cX9_cell 52 = .ok (.lreturn, 1) := by decide +kernel
theorem dX9_cell_53 : decode cX9_cell 53 = .ok (.aload_n 0, 1) := by decide +kernel
theorem dX9_cell_54 : decode cX9_cell 54 = .ok (.iload_n 1, 1) := by decide +kernel
theorem dX9_cell_55 : decode cX9_cell 55 = .ok (.iload_n 2, 1) := by decide +kernel
theorem dX9_cell_56 : decode cX9_cell 56 = .ok (.invokevirtual 245, 3) := by decide +kernel
theorem dX9_cell_59 : decode cX9_cell 59 = .ok (.ifCond .le 16, 3) := by decide +kernel
theorem dX9_cell_62 : decode cX9_cell 62 = .ok (.aload_n 0, 1) := by decide +kernel
theorem dX9_cell_63 : decode cX9_cell 63 = .ok (.aload_n 0, 1) := by decide +kernel
theorem dX9_cell_64 : decode cX9_cell 64 = .ok (.iload_n 1, 1) := by decide +kernel
theorem dX9_cell_65 : decode cX9_cell 65 = .ok (.iload_n 2, 1) := by decide +kernel
theorem dX9_cell_66 : decode cX9_cell 66 = .ok (.invokevirtual 245, 3) := by decide +kernel
theorem dX9_cell_69 : decode cX9_cell 69 = .ok (.invokevirtual 247, 3) := by decide +kernel
theorem dX9_cell_72 : decode cX9_cell 72 = .ok (.goto 15, 3) := by decide +kernel
theorem dX9_cell_75 : decode cX9_cell 75 = .ok (.aload_n 0, 1) := by decide +kernel
theorem dX9_cell_76 : decode cX9_cell 76 = .ok (.getfield 80, 3) := by decide +kernel
theorem dX9_cell_79 : decode cX9_cell 79 = .ok (.bipush 100, 2) := by decide +kernel
theorem dX9_cell_81 : decode cX9_cell 81 = .ok (.iload_n 1, 1) := by decide +kernel
theorem dX9_cell_82 : decode cX9_cell 82 = .ok (.imul, 1) := by decide +kernel
theorem dX9_cell_83 : decode cX9_cell 83 = .ok (.iload_n 2, 1) := by decide +kernel
theorem dX9_cell_84 : decode cX9_cell 84 = .ok (.iadd, 1) := by decide +kernel
theorem dX9_cell_85 : decode cX9_cell 85 = .ok (.iaload, 1) := by decide +kernel
theorem dX9_cell_86 : decode cX9_cell 86 = .ok (.i2l, 1) := by decide +kernel
theorem dX9_cell_87 : decode cX9_cell 87 = .ok (.lreturn, 1) := by decide +kernel
theorem dX9_isBeyond_0 : decode cX9_isBeyond 0 = .ok (.iload_n 0, 1) := by decide +kernel
theorem dX9_isBeyond_1 : decode cX9_isBeyond 1 = .ok (.ifCond .lt 19, 3) := by decide +kernel
theorem dX9_isBeyond_4 : decode cX9_isBeyond 4 = .ok (.lload_n 1, 1) := by decide +kernel
theorem dX9_isBeyond_5 : decode cX9_isBeyond 5 = .ok (.lconst 0, 1) := by decide +kernel
theorem dX9_isBeyond_6 : decode cX9_isBeyond 6 = .ok (.lcmp, 1) := by decide +kernel
theorem dX9_isBeyond_7 : decode cX9_isBeyond 7 = .ok (.ifCond .lt 13, 3) := by decide +kernel
theorem dX9_isBeyond_10 : decode cX9_isBeyond 10 = .ok (.iload_n 0, 1) := by decide +kernel
theorem dX9_isBeyond_11 : decode cX9_isBeyond 11 = .ok (.i2l, 1) := by decide +kernel
theorem dX9_isBeyond_12 : decode cX9_isBeyond 12 = .ok (.lload_n 1, 1) := by decide +kernel
theorem dX9_isBeyond_13 : decode cX9_isBeyond 13 = .ok (.ladd, 1) := by decide +kernel
theorem dX9_isBeyond_14 : decode cX9_isBeyond 14 = .ok (.iload_n 3, 1) := by decide +kernel
theorem dX9_isBeyond_15 : decode cX9_isBeyond 15 = .ok (.i2l, 1) := by decide +kernel
theorem dX9_isBeyond_16 : decode cX9_isBeyond 16 = .ok (.lcmp, 1) := by decide +kernel
theorem dX9_isBeyond_17 : decode cX9_isBeyond 17 = .ok (.ifCond .le 7, 3) := by decide +kernel
theorem dX9_isBeyond_20 : decode cX9_isBeyond 20 = .ok (.iconst 1, 1) := by decide +kernel
theorem dX9_isBeyond_21 : decode cX9_isBeyond 21 = .ok (.goto 4, 3) := by decide +kernel
theorem dX9_isBeyond_24 : decode cX9_isBeyond 24 = .ok (.iconst 0, 1) := by decide +kernel
theorem dX9_isBeyond_25 : decode cX9_isBeyond 25 = .ok (.ireturn, 1) := by decide +kernel
set_option maxRecDepth 20000 in
theorem ggX9_copy_X9_noSheet : GoodIn wsX9_copy wsX9_noSheet := goodIn_r _ [8, 9, 10, 11, 7, 12] (by decide +kernel) (by decide +kernel)
set_option maxRecDepth 20000 in
theorem gX9_copy_X9_noSheet : GoodIn wsX9_copy (va_wsS RX9 143 yX9_noSheet wsX9_noSheet) := goodIn_app (goodIn_of _ (by decide +kernel)) ggX9_copy_X9_noSheet
set_option maxRecDepth 20000 in
theorem ggX9_copy_X9_refused : GoodIn wsX9_copy wsX9_refused := goodIn_r _ [16, 17, 25, 26, 27, 28, 29, 30, 31, 32, 33, 34, 35, 36, 37, 38, 39, 40, 41, 42, 43, 44, 45, 46, 47, 48, 49, 50, 51, 52, 53, 54, 55, 56, 57, 58, 59, 60, 61, 62, 63, 64, 65] (by decide +kernel) (by decide +kernel)
set_option maxRecDepth 20000 in
theorem gX9_copy_X9_refused : GoodIn wsX9_copy (wsV RX9 147 RX9 yX9_refused wsX9_refused) := goodIn_app (goodIn_of _ (by decide +kernel)) ggX9_copy_X9_refused
set_option maxRecDepth 20000 in
theorem ggX9_copy_X9_failed : GoodIn wsX9_copy wsX9_failed := goodIn_r _ [21, 17, 25, 26, 27, 28, 29, 30, 31, 32, 33, 34, 35, 36, 37, 38, 39, 40, 41, 42, 43, 44, 45, 46, 47, 48, 49, 50, 51, 52, 53, 54, 55, 56, 57, 58, 59, 60, 61, 62, 63, 64, 65] (by decide +kernel) (by decide +kernel)
set_option maxRecDepth 20000 in
theorem gX9_copy_X9_failed : GoodIn wsX9_copy (wsV RX9 153 RX9 yX9_failed wsX9_failed) := goodIn_app (goodIn_of _ (by decide +kernel)) ggX9_copy_X9_failed
set_option maxRecDepth 20000 in
theorem ggX9_copy_X9_isBeyond : GoodIn wsX9_copy wsX9_isBeyond := goodIn_r _ [24] (by decide +kernel) (by decide +kernel)
set_option maxRecDepth 20000 in
theorem gX9_copy_X9_isBeyond : GoodIn wsX9_copy (va_wsS RX9 156 yX9_isBeyond wsX9_isBeyond) := goodIn_app (goodIn_of _ (by decide +kernel)) ggX9_copy_X9_isBeyond
theorem dX9_copy_0 : decode cX9_copy 0 = .ok (.iload_n 1, 1) := by decide +kernel
theorem dX9_copy_1 : decode cX9_copy 1 = .ok (.invokestatic 143, 3) := by decide +kernel
theorem dX9_copy_4 : decode cX9_copy 4 = .ok (.ifCond .ne 10, 3) := by decide +kernel
theorem dX9_copy_7 : decode cX9_copy 7 = .ok (.iload_n 3, 1) := by decide +kernel
theorem dX9_copy_8 : decode cX9_copy 8 = .ok (.invokestatic 143, 3) := by decide +kernel
theorem dX9_copy_11 : decode cX9_copy 11 = .ok (.ifCond .eq 9, 3) := by decide +kernel
theorem dX9_copy_14 : decode cX9_copy 14 = .ok (.aload_n 0, 1) := by decide +kernel
theorem dX9_copy_15 : decode cX9_copy 15 = .ok (.iconst (-1), 1) := by decide +kernel
theorem dX9_copy_16 : decode cX9_copy 16 = .ok (.invokevirtual 147, 3) := by decide +kernel
theorem dX9_copy_19 : decode cX9_copy 19 = .ok (.ireturn, 1) := by decide +kernel
theorem dX9_copy_20 : decode cX9_copy 20 = .ok (.aload_n 0, 1) := by decide +kernel
theorem dX9_copy_21 : decode cX9_copy 21 = .ok (.getfield 74, 3) := by decide +kernel
theorem dX9_copy_24 : decode cX9_copy 24 = .ok (.iload_n 1, 1) := by decide +kernel
theorem dX9_copy_25 : decode cX9_copy 25 = .ok (.iaload, 1) := by decide +kernel
theorem dX9_copy_26 : decode cX9_copy 26 = .ok (.ifCond .lt 12, 3) := by decide +kernel
theorem dX9_copy_29 : decode cX9_copy 29 = .ok (.aload_n 0, 1) := by decide +kernel
theorem dX9_copy_30 : decode cX9_copy 30 = .ok (.getfield 74, 3) := by decide +kernel
theorem dX9_copy_33 : decode cX9_copy 33 = .ok (.iload_n 3, 1) := by decide +kernel
theorem dX9_copy_34 : decode cX9_copy 34 = .ok (.iaload, 1) := by decide +kernel
theorem dX9_copy_35 : decode cX9_copy 35 = .ok (.ifCond .ge 9, 3) := by decide +kernel
theorem dX9_copy_38 : decode cX9_copy 38 = .ok (.aload_n 0, 1) := by decide +kernel
theorem dX9_copy_39 : decode cX9_copy 39 = .ok (.iconst 1, 1) := by decide +kernel
theorem dX9_copy_40 : decode cX9_copy 40 = .ok (.invokevirtual 153, 3) := by decide +kernel
theorem dX9_copy_43 : decode cX9_copy 43 = .ok (.ireturn, 1) := by decide +kernel
theorem dX9_copy_44 : decode cX9_copy 44 = .ok (.aload_n 0, 1) := by decide +kernel
theorem dX9_copy_45 : decode cX9_copy 45 = .ok (.getfield 77, 3) := by decide +kernel
theorem dX9_copy_48 : decode cX9_copy 48 = .ok (.iload_n 1, 1) := by decide +kernel
theorem dX9_copy_49 : decode cX9_copy 49 = .ok (.iaload, 1) := by decide +kernel
theorem dX9_copy_50 : decode cX9_copy 50 = .ok (.aload_n 0, 1) := by decide +kernel
theorem dX9_copy_51 : decode cX9_copy 51 = .ok (.getfield 77, 3) := by decide +kernel
theorem dX9_copy_54 : decode cX9_copy 54 = .ok (.iload_n 3, 1) := by decide +kernel
theorem dX9_copy_55 : decode cX9_copy 55 = .ok (.iaload, 1) := by decide +kernel
theorem dX9_copy_56 : decode cX9_copy 56 = .ok (.if_icmp .eq 9, 3) := by decide +kernel
theorem dX9_copy_59 : decode cX9_copy 59 = .ok (.aload_n 0, 1) := by decide +kernel
theorem dX9_copy_60 : decode cX9_copy 60 = .ok (.iconst 2, 1) := by decide +kernel
theorem dX9_copy_61 : decode cX9_copy 61 = .ok (.invokevirtual 153, 3) := by decide +kernel
theorem dX9_copy_64 : decode cX9_copy 64 = .ok (.ireturn, 1) := by decide +kernel
theorem dX9_copy_65 : decode cX9_copy 65 = .ok (.iload_n 2, 1) := by decide +kernel
theorem dX9_copy_66 : decode cX9_copy 66 = .ok (.iload 5, 2) := by decide +kernel
theorem dX9_copy_68 : decode cX9_copy 68 = .ok (.i2l, 1) := by decide +kernel
theorem dX9_copy_69 : decode cX9_copy 69 = .ok (.aload_n 0, 1) := by decide +kernel
theorem dX9_copy_70 : decode cX9_copy 70 = .ok (.getfield 74, 3) := by decide +kernel
theorem dX9_copy_73 : decode cX9_copy 73 = .ok (.iload_n 1, 1) := by decide +kernel
theorem dX9_copy_74 : decode cX9_copy 74 = .ok (.iaload, 1) := by decide +kernel
theorem dX9_copy_75 : decode cX9_copy 75 = .ok (.invokestatic 156, 3) := by decide +kernel
theorem dX9_copy_78 : decode cX9_copy 78 = .ok (.ifCond .ne 20, 3) := by decide +kernel
theorem dX9_copy_81 : decode cX9_copy 81 = .ok (.iload 4, 2) := by decide +kernel
theorem dX9_copy_83 : decode cX9_copy 83 = .ok (.iload 5, 2) := by decide +kernel
theorem dX9_copy_85 : decode cX9_copy 85 = .ok (.i2l, 1) := by decide +kernel
theorem dX9_copy_86 : decode cX9_copy 86 = .ok (.aload_n 0, 1) := by decide +kernel
theorem dX9_copy_87 : decode cX9_copy 87 = .ok (.getfield 74, 3) := by decide +kernel
theorem dX9_copy_90 : decode cX9_copy 90 = .ok (.iload_n 3, 1) := by decide +kernel
theorem dX9_copy_91 : decode cX9_copy 91 = .ok (.iaload, 1) := by decide +kernel
theorem dX9_copy_92 : decode cX9_copy 92 = .ok (.invokestatic 156, 3) := by decide +kernel
theorem dX9_copy_95 : decode cX9_copy 95 = .ok (.ifCond .eq 9, 3) := by decide +kernel
theorem dX9_copy_98 : decode cX9_copy 98 = .ok (.aload_n 0, 1) := by decide +kernel
theorem dX9_copy_99 : decode cX9_copy 99 = .ok (.iconst 3, 1) := by decide +kernel
theorem dX9_copy_100 : decode cX9_copy 100 = .ok (.invokevirtual 153, 3) := by decide +kernel
theorem dX9_copy_103 : decode cX9_copy 103 = .ok (.ireturn, 1) := by decide +kernel
theorem dX9_copy_104 : decode cX9_copy 104 = .ok (.iconst 0, 1) := by decide +kernel
theorem dX9_copy_105 : decode cX9_copy 105 = .ok (.istore 6, 2) := by decide +kernel
theorem dX9_copy_107 : decode cX9_copy 107 = .ok (.iload 6, 2) := by decide +kernel
theorem dX9_copy_109 : decode cX9_copy 109 = .ok (.iload 5, 2) := by decide +kernel
theorem dX9_copy_111 : decode cX9_copy 111 = .ok (.if_icmp .ge 30, 3) := by decide +kernel
theorem dX9_copy_114 : decode cX9_copy 114 = .ok (.aload_n 0, 1) := by decide +kernel
theorem dX9_copy_115 : decode cX9_copy 115 = .ok (.getfield 83, 3) := by decide +kernel
theorem dX9_copy_118 : decode cX9_copy 118 = .ok (.iload 6, 2) := by decide +kernel
theorem dX9_copy_120 : decode cX9_copy 120 = .ok (.aload_n 0, 1) := by decide +kernel
theorem dX9_copy_121 : decode cX9_copy 121 = .ok (.getfield 80, 3) := by decide +kernel
theorem dX9_copy_124 : decode cX9_copy 124 = .ok (.bipush 100, 2) := by decide +kernel
theorem dX9_copy_126 : decode cX9_copy 126 = .ok (.iload_n 1, 1) := by decide +kernel
theorem dX9_copy_127 : decode cX9_copy 127 = .ok (.imul, 1) := by decide +kernel
theorem dX9_copy_128 : decode cX9_copy 128 = .ok (.iload_n 2, 1) := by decide +kernel
theorem dX9_copy_129 : decode cX9_copy 129 = .ok (.iadd, 1) := by decide +kernel
theorem dX9_copy_130 : decode cX9_copy 130 = .ok (.iload 6, 2) := by decide +kernel
theorem dX9_copy_132 : decode cX9_copy 132 = .ok (.iadd, 1) := by decide +kernel
theorem dX9_copy_133 : decode cX9_copy 133 = .ok (.iaload, 1) := by decide +kernel
theorem dX9_copy_134 : decode cX9_copy 134 = .ok (.iastore, 1) := by decide +kernel
theorem dX9_copy_135 : decode cX9_copy 135 = .ok (.iinc 6 1, 3) := by decide +kernel
theorem dX9_copy_138 : decode cX9_copy 138 = .ok (.goto (-31), 3) := by decide +kernel
theorem dX9_copy_141 : decode cX9_copy 141 = .ok (.iconst 0, 1) := by decide +kernel
theorem dX9_copy_142 : decode cX9_copy 142 = .ok (.istore 6, 2) := by decide +kernel
theorem dX9_copy_144 : decode cX9_copy 144 = .ok (.iload 6, 2) := by decide +kernel
theorem dX9_copy_146 : decode cX9_copy 146 = .ok (.iload 5, 2) := by decide +kernel
theorem dX9_copy_148 : decode cX9_copy 148 = .ok (.if_icmp .ge 31, 3) := by decide +kernel
theorem dX9_copy_151 : decode cX9_copy 151 = .ok (.aload_n 0, 1) := by decide +kernel
theorem dX9_copy_152 : decode cX9_copy 152 = .ok (.getfield 80, 3) := by decide +kernel
theorem dX9_copy_155 : decode cX9_copy 155 = .ok (.bipush 100, 2) := by decide +kernel
theorem dX9_copy_157 : decode cX9_copy 157 = .ok (.iload_n 3, 1) := by decide +kernel
theorem dX9_copy_158 : decode cX9_copy 158 = .ok (.imul, 1) := by decide +kernel
theorem dX9_copy_159 : decode cX9_copy 159 = .ok (.iload 4, 2) := by decide +kernel
theorem dX9_copy_161 : decode cX9_copy 161 = .ok (.iadd, 1) := by decide +kernel
theorem dX9_copy_162 : decode cX9_copy 162 = .ok (.iload 6, 2) := by decide +kernel
theorem dX9_copy_164 : decode cX9_copy 164 = .ok (.iadd, 1) := by decide +kernel
theorem dX9_copy_165 : decode cX9_copy 165 = .ok (.aload_n 0, 1) := by decide +kernel
theorem dX9_copy_166 : decode cX9_copy 166 = .ok (.getfield 83, 3) := by decide +kernel
theorem dX9_copy_169 : decode cX9_copy 169 = .ok (.iload 6, 2) := by decide +kernel
theorem dX9_copy_171 : decode cX9_copy 171 = .ok (.iaload, 1) := by decide +kernel
theorem dX9_copy_172 : decode cX9_copy 172 = .ok (.iastore, 1) := by decide +kernel
theorem dX9_copy_173 : decode cX9_copy 173 = .ok (.iinc 6 1, 3) := by decide +kernel
theorem dX9_copy_176 : decode cX9_copy 176 = .ok (.goto (-32), 3) := by decide +kernel
theorem dX9_copy_179 : decode cX9_copy 179 = .ok (.aload_n 0, 1) := by decide +kernel
theorem dX9_copy_180 : decode cX9_copy 180 = .ok (.iload 5, 2) := by decide +kernel
theorem dX9_copy_182 : decode cX9_copy 182 = .ok (.invokevirtual 147, 3) := by decide +kernel
theorem dX9_copy_185 : decode cX9_copy 185 = .ok (.ireturn, 1) := by decide +kernel
theorem dX9_traced_0 : decode cX9_traced 0 = .ok (.aload_n 0, 1) := by decide +kernel
theorem dX9_traced_1 : decode cX9_traced 1 = .ok (.bipush 31, 2) := by decide +kernel
theorem dX9_traced_3 : decode cX9_traced 3 = .ok (.aload_n 0, 1) := by decide +kernel
theorem dX9_traced_4 : decode cX9_traced 4 = .ok (.getfield 251, 3) := by decide +kernel
theorem dX9_traced_7 : decode cX9_traced 7 = .ok (.imul, 1) := by decide +kernel
theorem dX9_traced_8 : decode cX9_traced 8 = .ok (.iload_n 1, 1) := by decide +kernel
theorem dX9_traced_9 : decode cX9_traced 9 = .ok (.iadd, 1) := by decide +kernel
theorem dX9_traced_10 : decode cX9_traced 10 = .ok (.putfield 251, 3) := by decide +kernel
theorem dX9_traced_13 : decode cX9_traced 13 = .ok (.return_, 1) := by decide +kernel
set_option maxRecDepth 20000 in
theorem ggX9_tell_X9_noHouse : GoodIn wsX9_tell wsX9_noHouse := goodIn_r _ [7, 8, 9, 10, 6, 11, 17, 18, 19, 20, 21, 22, 23, 24, 25, 26, 27, 28, 29, 30, 31, 32, 33, 34, 35, 36, 37, 38, 39, 40, 41, 42, 43, 44, 45, 46, 47, 48, 49, 50, 51, 52, 53, 54, 55, 56, 57] (by decide +kernel) (by decide +kernel)
set_option maxRecDepth 20000 in
theorem gX9_tell_X9_noHouse : GoodIn wsX9_tell (wsV RX9 188 RX9 yX9_noHouse wsX9_noHouse) := goodIn_app (goodIn_of _ (by decide +kernel)) ggX9_tell_X9_noHouse
set_option maxRecDepth 20000 in
theorem ggX9_tell_X9_traced : GoodIn wsX9_tell wsX9_traced := goodIn_r _ [15, 16, 17, 18, 19, 20, 21, 22, 23, 24, 25, 26, 27, 28, 29, 30, 31, 32, 33, 34, 35, 36, 37, 38, 39, 40, 41, 42, 43, 44, 45, 46, 47, 48, 49, 50, 51, 52, 53, 54, 55, 56, 57] (by decide +kernel) (by decide +kernel)
set_option maxRecDepth 20000 in
theorem gX9_tell_X9_traced : GoodIn wsX9_tell (wsV RX9 254 RX9 yX9_traced wsX9_traced) := goodIn_app (goodIn_of _ (by decide +kernel)) ggX9_tell_X9_traced
theorem dX9_tell_0 : decode cX9_tell 0 = .ok (.aload_n 0, 1) := by decide +kernel
theorem dX9_tell_1 : decode cX9_tell 1 = .ok (.iload_n 1, 1) := by decide +kernel
theorem dX9_tell_2 : decode cX9_tell 2 = .ok (.invokevirtual 188, 3) := by decide +kernel
theorem dX9_tell_5 : decode cX9_tell 5 = .ok (.ifCond .eq 5, 3) := by decide +kernel
theorem dX9_tell_8 : decode cX9_tell 8 = .ok (.iconst (-1), 1) := by decide +kernel
theorem dX9_tell_9 : decode cX9_tell 9 = .ok (.ireturn, 1) := by decide +kernel
theorem dX9_tell_10 : decode cX9_tell 10 = .ok (.aload_n 0, 1) := by decide +kernel
theorem dX9_tell_11 : decode cX9_tell 11 = .ok (.getfield 19, 3) := by decide +kernel
theorem dX9_tell_14 : decode cX9_tell 14 = .ok (.iload_n 1, 1) := by decide +kernel
theorem dX9_tell_15 : decode cX9_tell 15 = .ok (.iaload, 1) := by decide +kernel
theorem dX9_tell_16 : decode cX9_tell 16 = .ok (.istore_n 2, 1) := by decide +kernel
theorem dX9_tell_17 : decode cX9_tell 17 = .ok (.iload_n 2, 1) := by decide +kernel
theorem dX9_tell_18 : decode cX9_tell 18 = .ok (.iconst 2, 1) := by decide +kernel
theorem dX9_tell_19 : decode cX9_tell 19 = .ok (.if_icmp .ne 8, 3) := by decide +kernel
theorem dX9_tell_22 : decode cX9_tell 22 = .ok (.aload_n 0, 1) := by decide +kernel
theorem dX9_tell_23 : decode cX9_tell 23 = .ok (.iconst 3, 1) := by decide +kernel
theorem dX9_tell_24 : decode cX9_tell 24 = .ok (.invokevirtual 254, 3) := by decide +kernel
theorem dX9_tell_27 : decode cX9_tell 27 = .ok (.iload_n 2, 1) := by decide +kernel
theorem dX9_tell_28 : decode cX9_tell 28 = .ok (.ifCond .le 8, 3) := by decide +kernel
theorem dX9_tell_31 : decode cX9_tell 31 = .ok (.aload_n 0, 1) := by decide +kernel
theorem dX9_tell_32 : decode cX9_tell 32 = .ok (.iconst 2, 1) := by decide +kernel
theorem dX9_tell_33 : decode cX9_tell 33 = .ok (.invokevirtual 254, 3) := by decide +kernel
theorem dX9_tell_36 : decode cX9_tell 36 = .ok (.aload_n 0, 1) := by decide +kernel
theorem dX9_tell_37 : decode cX9_tell 37 = .ok (.iconst 1, 1) := by decide +kernel
theorem dX9_tell_38 : decode cX9_tell 38 = .ok (.invokevirtual 254, 3) := by decide +kernel
theorem dX9_tell_41 : decode cX9_tell 41 = .ok (.iload_n 2, 1) := by decide +kernel
theorem dX9_tell_42 : decode cX9_tell 42 = .ok (.iconst 2, 1) := by decide +kernel
theorem dX9_tell_43 : decode cX9_tell 43 = .ok (.if_icmp .ne 8, 3) := by decide +kernel
theorem dX9_tell_46 : decode cX9_tell 46 = .ok (.aload_n 0, 1) := by decide +kernel
theorem dX9_tell_47 : decode cX9_tell 47 = .ok (.iconst 1, 1) := by decide +kernel
theorem dX9_tell_48 : decode cX9_tell 48 = .ok (.invokevirtual 254, 3) := by decide +kernel
theorem dX9_tell_51 : decode cX9_tell 51 = .ok (.aload_n 0, 1) := by decide +kernel
theorem dX9_tell_52 : decode cX9_tell 52 = .ok (.getfield 25, 3) := by decide +kernel
theorem dX9_tell_55 : decode cX9_tell 55 = .ok (.iload_n 1, 1) := by decide +kernel
theorem dX9_tell_56 : decode cX9_tell 56 = .ok (.iaload, 1) := by decide +kernel
theorem dX9_tell_57 : decode cX9_tell 57 = .ok (.istore_n 3, 1) := by decide +kernel
theorem dX9_tell_58 : decode cX9_tell 58 = .ok (.iload_n 2, 1) := by decide +kernel
theorem dX9_tell_59 : decode cX9_tell 59 = .ok (.ifCond .ne 7, 3) := by decide +kernel
theorem dX9_tell_62 : decode cX9_tell 62 = .ok (.iload_n 3, 1) := by decide +kernel
theorem dX9_tell_63 : decode cX9_tell 63 = .ok (.goto 21, 3) := by decide +kernel
theorem dX9_tell_66 : decode cX9_tell 66 = .ok (.iload_n 2, 1) := by decide +kernel
theorem dX9_tell_67 : decode cX9_tell 67 = .ok (.iconst 1, 1) := by decide +kernel
theorem dX9_tell_68 : decode cX9_tell 68 = .ok (.if_icmp .ne 10, 3) := by decide +kernel
theorem dX9_tell_71 : decode cX9_tell 71 = .ok (.iload_n 3, 1) := by decide +kernel
theorem dX9_tell_72 : decode cX9_tell 72 = .ok (.bipush 100, 2) := by decide +kernel
theorem dX9_tell_74 : decode cX9_tell 74 = .ok (.iadd, 1) := by decide +kernel
theorem dX9_tell_75 : decode cX9_tell 75 = .ok (.goto 9, 3) := by decide +kernel
theorem dX9_tell_78 : decode cX9_tell 78 = .ok (.iconst 2, 1) := by decide +kernel
theorem dX9_tell_79 : decode cX9_tell 79 = .ok (.iload_n 3, 1) := by decide +kernel
theorem dX9_tell_80 : decode cX9_tell 80 = .ok (.imul, 1) := by decide +kernel
theorem dX9_tell_81 : decode cX9_tell 81 = .ok (.bipush 100, 2) := by decide +kernel
theorem dX9_tell_83 : decode cX9_tell 83 = .ok (.iadd, 1) := by decide +kernel
theorem dX9_tell_84 : decode cX9_tell 84 = .ok (.ireturn, 1) := by decide +kernel
set_option maxRecDepth 20000 in
theorem ggX9_rent_X9_noHouse : GoodIn wsX9_rent wsX9_noHouse := goodIn_r _ [6, 7, 8, 9, 5, 10, 16, 17, 18, 19, 20, 21, 22, 23, 24, 25, 26, 27, 28, 29, 30, 31, 32, 33, 34, 35, 36, 37, 38, 39, 40, 41, 42, 43, 44, 45, 46, 47, 48, 49, 50, 51, 52, 53, 54, 55, 56] (by decide +kernel) (by decide +kernel)
set_option maxRecDepth 20000 in
theorem gX9_rent_X9_noHouse : GoodIn wsX9_rent (wsV RX9 188 RX9 yX9_noHouse wsX9_noHouse) := goodIn_app (goodIn_of _ (by decide +kernel)) ggX9_rent_X9_noHouse
set_option maxRecDepth 20000 in
theorem ggX9_rent_X9_traced : GoodIn wsX9_rent wsX9_traced := goodIn_r _ [14, 15, 16, 17, 18, 19, 20, 21, 22, 23, 24, 25, 26, 27, 28, 29, 30, 31, 32, 33, 34, 35, 36, 37, 38, 39, 40, 41, 42, 43, 44, 45, 46, 47, 48, 49, 50, 51, 52, 53, 54, 55, 56] (by decide +kernel) (by decide +kernel)
set_option maxRecDepth 20000 in
theorem gX9_rent_X9_traced : GoodIn wsX9_rent (wsV RX9 254 RX9 yX9_traced wsX9_traced) := goodIn_app (goodIn_of _ (by decide +kernel)) ggX9_rent_X9_traced
theorem dX9_rent_0 : decode cX9_rent 0 = .ok (.aload_n 0, 1) := by decide +kernel
theorem dX9_rent_1 : decode cX9_rent 1 = .ok (.iload_n 1, 1) := by decide +kernel
theorem dX9_rent_2 : decode cX9_rent 2 = .ok (.invokevirtual 188, 3) := by decide +kernel
theorem dX9_rent_5 : decode cX9_rent 5 = .ok (.ifCond .eq 5, 3) := by decide +kernel
theorem dX9_rent_8 : decode cX9_rent 8 = .ok (.iconst (-1), 1) := by decide +kernel
theorem dX9_rent_9 : decode cX9_rent 9 = .ok (.ireturn, 1) := by decide +kernel
theorem dX9_rent_10 : decode cX9_rent 10 = .ok (.aload_n 0, 1) := by decide +kernel
theorem dX9_rent_11 : decode cX9_rent 11 = .ok (.aload_n 0, 1) := by decide +kernel
theorem dX9_rent_12 : decode cX9_rent 12 = .ok (.getfield 19, 3) := by decide +kernel
theorem dX9_rent_15 : decode cX9_rent 15 = .ok (.iload_n 1, 1) := by decide +kernel
theorem dX9_rent_16 : decode cX9_rent 16 = .ok (.iaload, 1) := by decide +kernel
theorem dX9_rent_17 : decode cX9_rent 17 = .ok (.iconst 2, 1) := by decide +kernel
theorem dX9_rent_18 : decode cX9_rent 18 = .ok (.if_icmp .ne 7, 3) := by decide +kernel
theorem dX9_rent_21 : decode cX9_rent 21 = .ok (.iconst 5, 1) := by decide +kernel
theorem dX9_rent_22 : decode cX9_rent 22 = .ok (.goto 4, 3) := by decide +kernel
theorem dX9_rent_25 : decode cX9_rent 25 = .ok (.iconst 4, 1) := by decide +kernel
theorem dX9_rent_26 : decode cX9_rent 26 = .ok (.invokevirtual 254, 3) := by decide +kernel
theorem dX9_rent_29 : decode cX9_rent 29 = .ok (.aload_n 0, 1) := by decide +kernel
theorem dX9_rent_30 : decode cX9_rent 30 = .ok (.getfield 19, 3) := by decide +kernel
theorem dX9_rent_33 : decode cX9_rent 33 = .ok (.iload_n 1, 1) := by decide +kernel
theorem dX9_rent_34 : decode cX9_rent 34 = .ok (.iaload, 1) := by decide +kernel
theorem dX9_rent_35 : decode cX9_rent 35 = .ok (.iconst 2, 1) := by decide +kernel
theorem dX9_rent_36 : decode cX9_rent 36 = .ok (.if_icmp .ne 8, 3) := by decide +kernel
theorem dX9_rent_39 : decode cX9_rent 39 = .ok (.bipush 70, 2) := by decide +kernel
theorem dX9_rent_41 : decode cX9_rent 41 = .ok (.goto 4, 3) := by decide +kernel
theorem dX9_rent_44 : decode cX9_rent 44 = .ok (.iload_n 1, 1) := by decide +kernel
theorem dX9_rent_45 : decode cX9_rent 45 = .ok (.ireturn, 1) := by decide +kernel
set_option maxRecDepth 20000 in
theorem ggX9_as_X9_noHouse : GoodIn wsX9_as wsX9_noHouse := goodIn_r _ [7, 8, 9, 10, 6, 11, 21, 22, 23, 24, 25, 26, 27, 28, 29, 30, 31, 32, 33, 34, 35, 36, 37, 38, 39, 40, 41, 42, 43, 44, 45, 46, 47, 48, 49, 50, 51, 52, 53, 54, 55, 56, 57, 58, 59, 60, 61] (by decide +kernel) (by decide +kernel)
set_option maxRecDepth 20000 in
theorem gX9_as_X9_noHouse : GoodIn wsX9_as (wsV RX9 188 RX9 yX9_noHouse wsX9_noHouse) := goodIn_app (goodIn_of _ (by decide +kernel)) ggX9_as_X9_noHouse
set_option maxRecDepth 20000 in
theorem ggX9_as_X9_refused : GoodIn wsX9_as wsX9_refused := goodIn_r _ [15, 16, 21, 22, 23, 24, 25, 26, 27, 28, 29, 30, 31, 32, 33, 34, 35, 36, 37, 38, 39, 40, 41, 42, 43, 44, 45, 46, 47, 48, 49, 50, 51, 52, 53, 54, 55, 56, 57, 58, 59, 60, 61] (by decide +kernel) (by decide +kernel)
set_option maxRecDepth 20000 in
theorem gX9_as_X9_refused : GoodIn wsX9_as (wsV RX9 147 RX9 yX9_refused wsX9_refused) := goodIn_app (goodIn_of _ (by decide +kernel)) ggX9_as_X9_refused
set_option maxRecDepth 20000 in
theorem ggX9_as_X9_in : GoodIn wsX9_as wsX9_in := goodIn_r _ [11] (by decide +kernel) (by decide +kernel)
set_option maxRecDepth 20000 in
theorem gX9_as_X9_in : GoodIn wsX9_as (va_wsS RX9 106 yX9_in wsX9_in) := goodIn_app (goodIn_of _ (by decide +kernel)) ggX9_as_X9_in
set_option maxRecDepth 20000 in
theorem ggX9_as_X9_failed : GoodIn wsX9_as wsX9_failed := goodIn_r _ [20, 16, 21, 22, 23, 24, 25, 26, 27, 28, 29, 30, 31, 32, 33, 34, 35, 36, 37, 38, 39, 40, 41, 42, 43, 44, 45, 46, 47, 48, 49, 50, 51, 52, 53, 54, 55, 56, 57, 58, 59, 60, 61] (by decide +kernel) (by decide +kernel)
set_option maxRecDepth 20000 in
theorem gX9_as_X9_failed : GoodIn wsX9_as (wsV RX9 153 RX9 yX9_failed wsX9_failed) := goodIn_app (goodIn_of _ (by decide +kernel)) ggX9_as_X9_failed
theorem dX9_as_0 : decode cX9_as 0 = .ok (.aload_n 0, 1) := by decide +kernel
theorem dX9_as_1 : decode cX9_as 1 = .ok (.iload_n 1, 1) := by decide +kernel
theorem dX9_as_2 : decode cX9_as 2 = .ok (.invokevirtual 188, 3) := by decide +kernel
theorem dX9_as_5 : decode cX9_as 5 = .ok (.ifCond .eq 9, 3) := by decide +kernel
theorem dX9_as_8 : decode cX9_as 8 = .ok (.aload_n 0, 1) := by decide +kernel
theorem dX9_as_9 : decode cX9_as 9 = .ok (.iconst (-1), 1) := by decide +kernel
theorem dX9_as_10 : decode cX9_as 10 = .ok (.invokevirtual 147, 3) := by decide +kernel
theorem dX9_as_13 : decode cX9_as 13 = .ok (.ireturn, 1) := by decide +kernel
theorem dX9_as_14 : decode cX9_as 14 = .ok (.iload_n 2, 1) := by decide +kernel
theorem dX9_as_15 : decode cX9_as 15 = .ok (.i2l, 1) := by decide +kernel
theorem dX9_as_16 : decode cX9_as 16 = .ok (.lconst 0, 1) := by decide +kernel
theorem dX9_as_17 : decode cX9_as 17 = .ok (.ldc2_w 151, 3) := by decide +kernel
theorem dX9_as_20 : decode cX9_as 20 = .ok (.invokestatic 106, 3) := by decide +kernel
theorem dX9_as_23 : decode cX9_as 23 = .ok (.ifCond .ne 10, 3) := by decide +kernel
theorem dX9_as_26 : decode cX9_as 26 = .ok (.aload_n 0, 1) := by decide +kernel
theorem dX9_as_27 : decode cX9_as 27 = .ok (.bipush (-2), 2) := by decide +kernel
theorem dX9_as_29 : decode cX9_as 29 = .ok (.invokevirtual 147, 3) := by decide +kernel
theorem dX9_as_32 : decode cX9_as 32 = .ok (.ireturn, 1) := by decide +kernel
theorem dX9_as_33 : decode cX9_as 33 = .ok (.aload_n 0, 1) := by decide +kernel
theorem dX9_as_34 : decode cX9_as 34 = .ok (.getfield 19, 3) := by decide +kernel
theorem dX9_as_37 : decode cX9_as 37 = .ok (.iload_n 1, 1) := by decide +kernel
theorem dX9_as_38 : decode cX9_as 38 = .ok (.iaload, 1) := by decide +kernel
theorem dX9_as_39 : decode cX9_as 39 = .ok (.iload_n 2, 1) := by decide +kernel
theorem dX9_as_40 : decode cX9_as 40 = .ok (.if_icmp .lt 11, 3) := by decide +kernel
theorem dX9_as_43 : decode cX9_as 43 = .ok (.aload_n 0, 1) := by decide +kernel
theorem dX9_as_44 : decode cX9_as 44 = .ok (.iconst 1, 1) := by decide +kernel
theorem dX9_as_45 : decode cX9_as 45 = .ok (.invokevirtual 147, 3) := by decide +kernel
theorem dX9_as_48 : decode cX9_as 48 = .ok (.goto 8, 3) := by decide +kernel
theorem dX9_as_51 : decode cX9_as 51 = .ok (.aload_n 0, 1) := by decide +kernel
theorem dX9_as_52 : decode cX9_as 52 = .ok (.iconst 2, 1) := by decide +kernel
theorem dX9_as_53 : decode cX9_as 53 = .ok (.invokevirtual 153, 3) := by decide +kernel
theorem dX9_as_56 : decode cX9_as 56 = .ok (.ireturn, 1) := by decide +kernel
theorem dX9_trace_0 : decode cX9_trace 0 = .ok (.aload_n 0, 1) := by decide +kernel
theorem dX9_trace_1 : decode cX9_trace 1 = .ok (.getfield 251, 3) := by decide +kernel
theorem dX9_trace_4 : decode cX9_trace 4 = .ok (.ireturn, 1) := by decide +kernel
theorem dX9_fault_0 : decode cX9_fault 0 = .ok (.aload_n 0, 1) := by decide +kernel
theorem dX9_fault_1 : decode cX9_fault 1 = .ok (.getfield 88, 3) := by decide +kernel
theorem dX9_fault_4 : decode cX9_fault 4 = .ok (.ireturn, 1) := by decide +kernel
set_option maxRecDepth 20000 in
theorem ggX9_many_X9_cells : GoodIn wsX9_many wsX9_cells := goodIn_r _ [11, 12, 1, 13, 14, 15, 16, 17, 18, 19, 20, 21, 22, 23, 24, 25, 26, 27, 28, 29, 30, 31, 32, 33, 34, 35, 36, 37, 38, 39, 40, 41, 42, 43, 44, 45, 46, 47, 48, 49, 50, 51, 52, 53] (by decide +kernel) (by decide +kernel)
set_option maxRecDepth 20000 in
theorem gX9_many_X9_cells : GoodIn wsX9_many (wsV RX9 102 RX9 yX9_cells wsX9_cells) := goodIn_app (goodIn_of _ (by decide +kernel)) ggX9_many_X9_cells
theorem dX9_many_0 : decode cX9_many 0 = .ok (.iload_n 1, 1) := by decide +kernel
theorem dX9_many_1 : decode cX9_many 1 = .ok (.tableswitch 78 0 6 #[43, 48, 53, 58, 63, 68, 73], 43) := by decide +kernel
theorem dX9_many_44 : decode cX9_many 44 = .ok (.aload_n 0, 1) := by decide +kernel
theorem dX9_many_45 : decode cX9_many 45 = .ok (.invokevirtual 102, 3) := by decide +kernel
theorem dX9_many_48 : decode cX9_many 48 = .ok (.ireturn, 1) := by decide +kernel
theorem dX9_many_49 : decode cX9_many 49 = .ok (.aload_n 0, 1) := by decide +kernel
theorem dX9_many_50 : decode cX9_many 50 = .ok (.getfield 99, 3) := by decide +kernel
theorem dX9_many_53 : decode cX9_many 53 = .ok (.ireturn, 1) := by decide +kernel
theorem dX9_many_54 : decode cX9_many 54 = .ok (.aload_n 0, 1) := by decide +kernel
theorem dX9_many_55 : decode cX9_many 55 = .ok (.getfield 110, 3) := by decide +kernel
theorem dX9_many_58 : decode cX9_many 58 = .ok (.ireturn, 1) := by decide +kernel
theorem dX9_many_59 : decode cX9_many 59 = .ok (.aload_n 0, 1) := by decide +kernel
theorem dX9_many_60 : decode cX9_many 60 = .ok (.getfield 113, 3) := by decide +kernel
theorem dX9_many_63 : decode cX9_many 63 = .ok (.ireturn, 1) := by decide +kernel
theorem dX9_many_64 : decode cX9_many 64 = .ok (.aload_n 0, 1) := by decide +kernel
theorem dX9_many_65 : decode cX9_many 65 = .ok (.getfield 173, 3) := by decide +kernel
theorem dX9_many_68 : decode cX9_many 68 = .ok (.ireturn, 1) := by decide +kernel
theorem dX9_many_69 : decode cX9_many 69 = .ok (.aload_n 0, 1) := by decide +kernel
theorem dX9_many_70 : decode cX9_many 70 = .ok (.getfield 164, 3) := by decide +kernel
theorem dX9_many_73 : decode cX9_many 73 = .ok (.ireturn, 1) := by decide +kernel
theorem dX9_many_74 : decode cX9_many 74 = .ok (.aload_n 0, 1) := by decide +kernel
theorem dX9_many_75 : decode cX9_many 75 = .ok (.getfield 167, 3) := by decide +kernel
theorem dX9_many_78 : decode cX9_many 78 = .ok (.ireturn, 1) := by decide +kernel
theorem dX9_many_79 : decode cX9_many 79 = .ok (.bipush (-2), 2) := by decide +kernel
theorem dX9_many_81 : decode cX9_many 81 = .ok (.ireturn, 1) := by decide +kernel
