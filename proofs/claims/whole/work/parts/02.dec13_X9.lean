theorem dX9_clear_36 : decode cX9_clear 36 = .ok (.istore 5, 2) := by decide +kernel
theorem dX9_clear_38 : decode cX9_clear 38 = .ok (.iload 5, 2) := by decide +kernel
theorem dX9_clear_40 : decode cX9_clear 40 = .ok (.aload_n 0, 1) := by decide +kernel
theorem dX9_clear_41 : decode cX9_clear 41 = .ok (.invokevirtual 145, 3) := by decide +kernel
theorem dX9_clear_44 : decode cX9_clear 44 = .ok (.if_icmp .ge 42, 3) := by decide +kernel
theorem dX9_clear_47 : decode cX9_clear 47 = .ok (.iload 4, 2) := by decide +kernel
theorem dX9_clear_49 : decode cX9_clear 49 = .ok (.iload 5, 2) := by decide +kernel
theorem dX9_clear_51 : decode cX9_clear 51 = .ok (.iload_n 1, 1) := by decide +kernel
theorem dX9_clear_52 : decode cX9_clear 52 = .ok (.if_icmp .eq 24, 3) := by decide +kernel
theorem dX9_clear_55 : decode cX9_clear 55 = .ok (.aload_n 0, 1) := by decide +kernel
theorem dX9_clear_56 : decode cX9_clear 56 = .ok (.getfield 7, 3) := by decide +kernel
theorem dX9_clear_59 : decode cX9_clear 59 = .ok (.iload_n 1, 1) := by decide +kernel
theorem dX9_clear_60 : decode cX9_clear 60 = .ok (.iload 5, 2) := by decide +kernel
theorem dX9_clear_62 : decode cX9_clear 62 = .ok (.invokestatic 158, 3) := by decide +kernel
theorem dX9_clear_65 : decode cX9_clear 65 = .ok (.iaload, 1) := by decide +kernel
theorem dX9_clear_66 : decode cX9_clear 66 = .ok (.ifCond .le 10, 3) := by decide +kernel
theorem dX9_clear_69 : decode cX9_clear 69 = .ok (.iconst 1, 1) := by decide +kernel
theorem dX9_clear_70 : decode cX9_clear 70 = .ok (.iload 5, 2) := by decide +kernel
theorem dX9_clear_72 : decode cX9_clear 72 = .ok (.ishl, 1) := by decide +kernel
theorem dX9_clear_73 : decode cX9_clear 73 = .ok (.goto 4, 3) := by decide +kernel
theorem dX9_clear_76 : decode cX9_clear 76 = .ok (.iconst 0, 1) := by decide +kernel
theorem dX9_clear_77 : decode cX9_clear 77 = .ok (.ior, 1) := by decide +kernel
theorem dX9_clear_78 : decode cX9_clear 78 = .ok (.istore 4, 2) := by decide +kernel
theorem dX9_clear_80 : decode cX9_clear 80 = .ok (.iinc 5 1, 3) := by decide +kernel
theorem dX9_clear_83 : decode cX9_clear 83 = .ok (.goto (-45), 3) := by decide +kernel
theorem dX9_clear_86 : decode cX9_clear 86 = .ok (.bipush (-4), 2) := by decide +kernel
theorem dX9_clear_88 : decode cX9_clear 88 = .ok (.istore 5, 2) := by decide +kernel
theorem dX9_clear_90 : decode cX9_clear 90 = .ok (.iconst 0, 1) := by decide +kernel
theorem dX9_clear_91 : decode cX9_clear 91 = .ok (.istore 6, 2) := by decide +kernel
theorem dX9_clear_93 : decode cX9_clear 93 = .ok (.iconst 0, 1) := by decide +kernel
theorem dX9_clear_94 : decode cX9_clear 94 = .ok (.istore 7, 2) := by decide +kernel
theorem dX9_clear_96 : decode cX9_clear 96 = .ok (.iload 7, 2) := by decide +kernel
theorem dX9_clear_98 : decode cX9_clear 98 = .ok (.iconst 1, 1) := by decide +kernel
theorem dX9_clear_99 : decode cX9_clear 99 = .ok (.aload_n 0, 1) := by decide +kernel
theorem dX9_clear_100 : decode cX9_clear 100 = .ok (.invokevirtual 145, 3) := by decide +kernel
theorem dX9_clear_103 : decode cX9_clear 103 = .ok (.ishl, 1) := by decide +kernel
theorem dX9_clear_104 : decode cX9_clear 104 = .ok (.if_icmp .ge 150, 3) := by decide +kernel
theorem dX9_clear_107 : decode cX9_clear 107 = .ok (.iload 7, 2) := by decide +kernel
theorem dX9_clear_109 : decode cX9_clear 109 = .ok (.iload 4, 2) := by decide +kernel
theorem dX9_clear_111 : decode cX9_clear 111 = .ok (.iconst (-1), 1) := by decide +kernel
theorem dX9_clear_112 : decode cX9_clear 112 = .ok (.ixor, 1) := by decide +kernel
theorem dX9_clear_113 : decode cX9_clear 113 = .ok (.iand, 1) := by decide +kernel
theorem dX9_clear_114 : decode cX9_clear 114 = .ok (.ifCond .ne 134, 3) := by decide +kernel
theorem dX9_clear_117 : decode cX9_clear 117 = .ok (.aload_n 0, 1) := by decide +kernel
theorem dX9_clear_118 : decode cX9_clear 118 = .ok (.iconst 0, 1) := by decide +kernel
theorem dX9_clear_119 : decode cX9_clear 119 = .ok (.sipush 282, 3) := by decide +kernel
theorem dX9_clear_122 : decode cX9_clear 122 = .ok (.invokevirtual 200, 3) := by decide +kernel
theorem dX9_clear_125 : decode cX9_clear 125 = .ok (.iconst 0, 1) := by decide +kernel
theorem dX9_clear_126 : decode cX9_clear 126 = .ok (.istore 8, 2) := by decide +kernel
theorem dX9_clear_128 : decode cX9_clear 128 = .ok (.iconst 0, 1) := by decide +kernel
theorem dX9_clear_129 : decode cX9_clear 129 = .ok (.istore 9, 2) := by decide +kernel
theorem dX9_clear_131 : decode cX9_clear 131 = .ok (.iload 9, 2) := by decide +kernel
theorem dX9_clear_133 : decode cX9_clear 133 = .ok (.aload_n 0, 1) := by decide +kernel
theorem dX9_clear_134 : decode cX9_clear 134 = .ok (.invokevirtual 145, 3) := by decide +kernel
theorem dX9_clear_137 : decode cX9_clear 137 = .ok (.if_icmp .ge 39, 3) := by decide +kernel
theorem dX9_clear_140 : decode cX9_clear 140 = .ok (.iload 8, 2) := by decide +kernel
theorem dX9_clear_142 : decode cX9_clear 142 = .ok (.iload 7, 2) := by decide +kernel
theorem dX9_clear_144 : decode cX9_clear 144 = .ok (.iload 9, 2) := by decide +kernel
theorem dX9_clear_146 : decode cX9_clear 146 = .ok (.ishr, 1) := by decide +kernel
theorem dX9_clear_147 : decode cX9_clear 147 = .ok (.iconst 1, 1) := by decide +kernel
theorem dX9_clear_148 : decode cX9_clear 148 = .ok (.iand, 1) := by decide +kernel
theorem dX9_clear_149 : decode cX9_clear 149 = .ok (.iconst 1, 1) := by decide +kernel
theorem dX9_clear_150 : decode cX9_clear 150 = .ok (.if_icmp .ne 16, 3) := by decide +kernel
theorem dX9_clear_153 : decode cX9_clear 153 = .ok (.aload_n 0, 1) := by decide +kernel
theorem dX9_clear_154 : decode cX9_clear 154 = .ok (.sipush 282, 3) := by decide +kernel
theorem dX9_clear_157 : decode cX9_clear 157 = .ok (.iload_n 1, 1) := by decide +kernel
theorem dX9_clear_158 : decode cX9_clear 158 = .ok (.iload 9, 2) := by decide +kernel
theorem dX9_clear_160 : decode cX9_clear 160 = .ok (.invokevirtual 182, 3) := by decide +kernel
theorem dX9_clear_163 : decode cX9_clear 163 = .ok (.goto 4, 3) := by decide +kernel
theorem dX9_clear_166 : decode cX9_clear 166 = .ok (.iconst 0, 1) := by decide +kernel
theorem dX9_clear_167 : decode cX9_clear 167 = .ok (.iadd, 1) := by decide +kernel
theorem dX9_clear_168 : decode cX9_clear 168 = .ok (.istore 8, 2) := by decide +kernel
theorem dX9_clear_170 : decode cX9_clear 170 = .ok (.iinc 9 1, 3) := by decide +kernel
theorem dX9_clear_173 : decode cX9_clear 173 = .ok (.goto (-42), 3) := by decide +kernel
theorem dX9_clear_176 : decode cX9_clear 176 = .ok (.iload 8, 2) := by decide +kernel
theorem dX9_clear_178 : decode cX9_clear 178 = .ok (.aload_n 0, 1) := by decide +kernel
theorem dX9_clear_179 : decode cX9_clear 179 = .ok (.getfield 7, 3) := by decide +kernel
theorem dX9_clear_182 : decode cX9_clear 182 = .ok (.bipush 6, 2) := by decide +kernel
theorem dX9_clear_184 : decode cX9_clear 184 = .ok (.iload_n 1, 1) := by decide +kernel
theorem dX9_clear_185 : decode cX9_clear 185 = .ok (.imul, 1) := by decide +kernel
theorem dX9_clear_186 : decode cX9_clear 186 = .ok (.iconst 4, 1) := by decide +kernel
theorem dX9_clear_187 : decode cX9_clear 187 = .ok (.iadd, 1) := by decide +kernel
theorem dX9_clear_188 : decode cX9_clear 188 = .ok (.iaload, 1) := by decide +kernel
theorem dX9_clear_189 : decode cX9_clear 189 = .ok (.if_icmp .gt 59, 3) := by decide +kernel
theorem dX9_clear_192 : decode cX9_clear 192 = .ok (.iload 5, 2) := by decide +kernel
theorem dX9_clear_194 : decode cX9_clear 194 = .ok (.bipush (-4), 2) := by decide +kernel
theorem dX9_clear_196 : decode cX9_clear 196 = .ok (.if_icmp .eq 10, 3) := by decide +kernel
theorem dX9_clear_199 : decode cX9_clear 199 = .ok (.iload 8, 2) := by decide +kernel
theorem dX9_clear_201 : decode cX9_clear 201 = .ok (.iload 6, 2) := by decide +kernel
theorem dX9_clear_203 : decode cX9_clear 203 = .ok (.if_icmp .ge 45, 3) := by decide +kernel
theorem dX9_clear_206 : decode cX9_clear 206 = .ok (.aload_n 0, 1) := by decide +kernel
theorem dX9_clear_207 : decode cX9_clear 207 = .ok (.sipush 130, 3) := by decide +kernel
theorem dX9_clear_210 : decode cX9_clear 210 = .ok (.invokevirtual 204, 3) := by decide +kernel
theorem dX9_clear_213 : decode cX9_clear 213 = .ok (.aload_n 0, 1) := by decide +kernel
theorem dX9_clear_214 : decode cX9_clear 214 = .ok (.getfield 31, 3) := by decide +kernel
theorem dX9_clear_217 : decode cX9_clear 217 = .ok (.iload_n 1, 1) := by decide +kernel
theorem dX9_clear_218 : decode cX9_clear 218 = .ok (.iaload, 1) := by decide +kernel
theorem dX9_clear_219 : decode cX9_clear 219 = .ok (.iload_n 2, 1) := by decide +kernel
theorem dX9_clear_220 : decode cX9_clear 220 = .ok (.if_icmp .gt 8, 3) := by decide +kernel
theorem dX9_clear_223 : decode cX9_clear 223 = .ok (.iload 7, 2) := by decide +kernel
theorem dX9_clear_225 : decode cX9_clear 225 = .ok (.goto 5, 3) := by decide +kernel
theorem dX9_clear_228 : decode cX9_clear 228 = .ok (.iload 5, 2) := by decide +kernel
theorem dX9_clear_230 : decode cX9_clear 230 = .ok (.istore 5, 2) := by decide +kernel
theorem dX9_clear_232 : decode cX9_clear 232 = .ok (.iload 5, 2) := by decide +kernel
theorem dX9_clear_234 : decode cX9_clear 234 = .ok (.iload 7, 2) := by decide +kernel
theorem dX9_clear_236 : decode cX9_clear 236 = .ok (.if_icmp .ne 8, 3) := by decide +kernel
theorem dX9_clear_239 : decode cX9_clear 239 = .ok (.iload 8, 2) := by decide +kernel
theorem dX9_clear_241 : decode cX9_clear 241 = .ok (.goto 5, 3) := by decide +kernel
theorem dX9_clear_244 : decode cX9_clear 244 = .ok (.iload 6, 2) := by decide +kernel
theorem dX9_clear_246 : decode cX9_clear 246 = .ok (.istore 6, 2) := by decide +kernel
theorem dX9_clear_248 : decode cX9_clear 248 = .ok (.iinc 7 1, 3) := by decide +kernel
theorem dX9_clear_251 : decode cX9_clear 251 = .ok (.goto (-155), 3) := by decide +kernel
theorem dX9_clear_254 : decode cX9_clear 254 = .ok (.iload 5, 2) := by decide +kernel
theorem dX9_clear_256 : decode cX9_clear 256 = .ok (.bipush (-4), 2) := by decide +kernel
theorem dX9_clear_258 : decode cX9_clear 258 = .ok (.if_icmp .eq 8, 3) := by decide +kernel
theorem dX9_clear_261 : decode cX9_clear 261 = .ok (.iload_n 3, 1) := by decide +kernel
theorem dX9_clear_262 : decode cX9_clear 262 = .ok (.iconst 1, 1) := by decide +kernel
theorem dX9_clear_263 : decode cX9_clear 263 = .ok (.if_icmp .ne 8, 3) := by decide +kernel
theorem dX9_clear_266 : decode cX9_clear 266 = .ok (.iload 5, 2) := by decide +kernel
theorem dX9_clear_268 : decode cX9_clear 268 = .ok (.goto 5, 3) := by decide +kernel
theorem dX9_clear_271 : decode cX9_clear 271 = .ok (.iload 6, 2) := by decide +kernel
theorem dX9_clear_273 : decode cX9_clear 273 = .ok (.ireturn, 1) := by decide +kernel
set_option maxRecDepth 20000 in
theorem ggX9_tries_X9_runsTo : GoodIn wsX9_tries wsX9_runsTo := goodIn_r _ [8, 9, 10, 11, 12, 13, 14, 15, 16, 7, 17, 18, 19, 20, 21, 22, 23, 24, 25, 26, 27, 28, 29, 30, 31, 32, 33, 34, 35, 36, 37, 38, 39, 40, 41, 46, 47, 48, 49, 50, 51, 52, 53, 54, 55, 56, 57, 58, 59, 60, 61, 62, 63, 64, 65, 66, 67, 68, 69, 70, 71, 72, 73, 74, 75, 76, 77, 78, 79] (by decide +kernel) (by decide +kernel)
set_option maxRecDepth 20000 in
theorem gX9_tries_X9_runsTo : GoodIn wsX9_tries (wsV RX9 204 RX9 yX9_runsTo wsX9_runsTo) := goodIn_app (goodIn_of _ (by decide +kernel)) ggX9_tries_X9_runsTo
set_option maxRecDepth 20000 in
theorem ggX9_tries_X9_waitOf : GoodIn wsX9_tries wsX9_waitOf := goodIn_r _ [45, 12, 13, 46, 47, 48, 49, 50, 51, 52, 53, 54, 55, 56, 57, 58, 59, 60, 61, 62, 63, 64, 65, 66, 67, 68, 69, 70, 71, 72, 73, 74, 75, 76, 77, 78, 79] (by decide +kernel) (by decide +kernel)
set_option maxRecDepth 20000 in
theorem gX9_tries_X9_waitOf : GoodIn wsX9_tries (wsV RX9 210 RX9 yX9_waitOf wsX9_waitOf) := goodIn_app (goodIn_of _ (by decide +kernel)) ggX9_tries_X9_waitOf
theorem dX9_tries_0 : decode cX9_tries 0 = .ok (.aload_n 0, 1) := by decide +kernel
theorem dX9_tries_1 : decode cX9_tries 1 = .ok (.sipush 130, 3) := by decide +kernel
theorem dX9_tries_4 : decode cX9_tries 4 = .ok (.invokevirtual 204, 3) := by decide +kernel
theorem dX9_tries_7 : decode cX9_tries 7 = .ok (.aload_n 0, 1) := by decide +kernel
theorem dX9_tries_8 : decode cX9_tries 8 = .ok (.iload_n 1, 1) := by decide +kernel
theorem dX9_tries_9 : decode cX9_tries 9 = .ok (.invokevirtual 210, 3) := by decide +kernel
theorem dX9_tries_12 : decode cX9_tries 12 = .ok (.istore 4, 2) := by decide +kernel
theorem dX9_tries_14 : decode cX9_tries 14 = .ok (.iload 4, 2) := by decide +kernel
theorem dX9_tries_16 : decode cX9_tries 16 = .ok (.aload_n 0, 1) := by decide +kernel
theorem dX9_tries_17 : decode cX9_tries 17 = .ok (.getfield 242, 3) := by decide +kernel
theorem dX9_tries_20 : decode cX9_tries 20 = .ok (.if_icmp .lt 45, 3) := by decide +kernel
theorem dX9_tries_23 : decode cX9_tries 23 = .ok (.iload 4, 2) := by decide +kernel
theorem dX9_tries_25 : decode cX9_tries 25 = .ok (.aload_n 0, 1) := by decide +kernel
theorem dX9_tries_26 : decode cX9_tries 26 = .ok (.getfield 242, 3) := by decide +kernel
theorem dX9_tries_29 : decode cX9_tries 29 = .ok (.if_icmp .ne 52, 3) := by decide +kernel
theorem dX9_tries_32 : decode cX9_tries 32 = .ok (.aload_n 0, 1) := by decide +kernel
theorem dX9_tries_33 : decode cX9_tries 33 = .ok (.getfield 245, 3) := by decide +kernel
theorem dX9_tries_36 : decode cX9_tries 36 = .ok (.bipush (-4), 2) := by decide +kernel
theorem dX9_tries_38 : decode cX9_tries 38 = .ok (.if_icmp .eq 43, 3) := by decide +kernel
theorem dX9_tries_41 : decode cX9_tries 41 = .ok (.iload_n 3, 1) := by decide +kernel
theorem dX9_tries_42 : decode cX9_tries 42 = .ok (.aload_n 0, 1) := by decide +kernel
theorem dX9_tries_43 : decode cX9_tries 43 = .ok (.getfield 248, 3) := by decide +kernel
theorem dX9_tries_46 : decode cX9_tries 46 = .ok (.if_icmp .lt 19, 3) := by decide +kernel
theorem dX9_tries_49 : decode cX9_tries 49 = .ok (.iload_n 3, 1) := by decide +kernel
theorem dX9_tries_50 : decode cX9_tries 50 = .ok (.aload_n 0, 1) := by decide +kernel
theorem dX9_tries_51 : decode cX9_tries 51 = .ok (.getfield 248, 3) := by decide +kernel
theorem dX9_tries_54 : decode cX9_tries 54 = .ok (.if_icmp .ne 27, 3) := by decide +kernel
theorem dX9_tries_57 : decode cX9_tries 57 = .ok (.iload_n 2, 1) := by decide +kernel
theorem dX9_tries_58 : decode cX9_tries 58 = .ok (.aload_n 0, 1) := by decide +kernel
theorem dX9_tries_59 : decode cX9_tries 59 = .ok (.getfield 245, 3) := by decide +kernel
theorem dX9_tries_62 : decode cX9_tries 62 = .ok (.if_icmp .ge 19, 3) := by decide +kernel
theorem dX9_tries_65 : decode cX9_tries 65 = .ok (.aload_n 0, 1) := by decide +kernel
theorem dX9_tries_66 : decode cX9_tries 66 = .ok (.iload 4, 2) := by decide +kernel
theorem dX9_tries_68 : decode cX9_tries 68 = .ok (.putfield 242, 3) := by decide +kernel
theorem dX9_tries_71 : decode cX9_tries 71 = .ok (.aload_n 0, 1) := by decide +kernel
theorem dX9_tries_72 : decode cX9_tries 72 = .ok (.iload_n 2, 1) := by decide +kernel
theorem dX9_tries_73 : decode cX9_tries 73 = .ok (.putfield 245, 3) := by decide +kernel
theorem dX9_tries_76 : decode cX9_tries 76 = .ok (.aload_n 0, 1) := by decide +kernel
theorem dX9_tries_77 : decode cX9_tries 77 = .ok (.iload_n 3, 1) := by decide +kernel
theorem dX9_tries_78 : decode cX9_tries 78 = .ok (.putfield 248, 3) := by decide +kernel
theorem dX9_tries_81 : decode cX9_tries 81 = .ok (.return_, 1) := by decide +kernel
theorem dX9_best_0 : decode cX9_best 0 = .ok (.aload_n 0, 1) := by decide +kernel
theorem dX9_best_1 : decode cX9_best 1 = .ok (.getfield 245, 3) := by decide +kernel
theorem dX9_best_4 : decode cX9_best 4 = .ok (.bipush (-4), 2) := by decide +kernel
theorem dX9_best_6 : decode cX9_best 6 = .ok (.if_icmp .ne 8, 3) := by decide +kernel
theorem dX9_best_9 : decode cX9_best 9 = .ok (.bipush (-4), 2) := by decide +kernel
theorem dX9_best_11 : decode cX9_best 11 = .ok (.goto 30, 3) := by decide +kernel
theorem dX9_best_14 : decode cX9_best 14 = .ok (.iload_n 1, 1) := by decide +kernel
theorem dX9_best_15 : decode cX9_best 15 = .ok (.ifCond .ne 10, 3) := by decide +kernel
theorem dX9_best_18 : decode cX9_best 18 = .ok (.aload_n 0, 1) := by decide +kernel
theorem dX9_best_19 : decode cX9_best 19 = .ok (.getfield 242, 3) := by decide +kernel
theorem dX9_best_22 : decode cX9_best 22 = .ok (.goto 19, 3) := by decide +kernel
theorem dX9_best_25 : decode cX9_best 25 = .ok (.iload_n 1, 1) := by decide +kernel
theorem dX9_best_26 : decode cX9_best 26 = .ok (.iconst 1, 1) := by decide +kernel
theorem dX9_best_27 : decode cX9_best 27 = .ok (.if_icmp .ne 10, 3) := by decide +kernel
theorem dX9_best_30 : decode cX9_best 30 = .ok (.aload_n 0, 1) := by decide +kernel
theorem dX9_best_31 : decode cX9_best 31 = .ok (.getfield 245, 3) := by decide +kernel
theorem dX9_best_34 : decode cX9_best 34 = .ok (.goto 7, 3) := by decide +kernel
theorem dX9_best_37 : decode cX9_best 37 = .ok (.aload_n 0, 1) := by decide +kernel
theorem dX9_best_38 : decode cX9_best 38 = .ok (.getfield 248, 3) := by decide +kernel
theorem dX9_best_41 : decode cX9_best 41 = .ok (.ireturn, 1) := by decide +kernel
set_option maxRecDepth 20000 in
theorem ggX9_door_X9_isOne : GoodIn wsX9_door wsX9_isOne := goodIn_r _ [9, 10, 11, 12, 8, 13, 4, 14, 15, 16, 74, 75, 76, 77, 78, 79, 80, 81, 82, 83, 84, 85, 86, 87, 88, 89, 90, 91, 92, 93, 94, 95, 96, 97, 98, 99, 100, 101, 102, 103, 104, 105, 106, 107] (by decide +kernel) (by decide +kernel)
set_option maxRecDepth 20000 in
theorem gX9_door_X9_isOne : GoodIn wsX9_door (wsV RX9 148 RX9 yX9_isOne wsX9_isOne) := goodIn_app (goodIn_of _ (by decide +kernel)) ggX9_door_X9_isOne
set_option maxRecDepth 20000 in
theorem ggX9_door_X9_in : GoodIn wsX9_door wsX9_in := goodIn_r _ [16] (by decide +kernel) (by decide +kernel)
set_option maxRecDepth 20000 in
theorem gX9_door_X9_in : GoodIn wsX9_door (va_wsS RX9 63 yX9_in wsX9_in) := goodIn_app (goodIn_of _ (by decide +kernel)) ggX9_door_X9_in
set_option maxRecDepth 20000 in
theorem ggX9_door_X9_runsAll : GoodIn wsX9_door wsX9_runsAll := goodIn_r _ [20, 21, 22, 23, 8, 24, 4, 25, 26, 27, 28, 29, 30, 31, 32, 33, 34, 35, 36, 37, 38, 39, 40, 41, 42, 43, 44, 45, 46, 47, 48, 49, 50, 51, 52, 53, 54, 55, 56, 57, 58, 59, 60, 74, 75, 76, 77, 78, 79, 80, 81, 82, 83, 84, 85, 86, 87, 88, 89, 90, 91, 92, 93, 94, 95, 96, 97, 98, 99, 100, 101, 102, 103, 104, 105, 106, 107] (by decide +kernel) (by decide +kernel)
set_option maxRecDepth 20000 in
theorem gX9_door_X9_runsAll : GoodIn wsX9_door (wsV RX9 207 RX9 yX9_runsAll wsX9_runsAll) := goodIn_app (goodIn_of _ (by decide +kernel)) ggX9_door_X9_runsAll
set_option maxRecDepth 20000 in
theorem ggX9_door_X9_waitOf : GoodIn wsX9_door wsX9_waitOf := goodIn_r _ [64, 32, 4, 74, 75, 76, 77, 78, 79, 80, 81, 82, 83, 84, 85, 86, 87, 88, 89, 90, 91, 92, 93, 94, 95, 96, 97, 98, 99, 100, 101, 102, 103, 104, 105, 106, 107] (by decide +kernel) (by decide +kernel)
set_option maxRecDepth 20000 in
theorem gX9_door_X9_waitOf : GoodIn wsX9_door (wsV RX9 210 RX9 yX9_waitOf wsX9_waitOf) := goodIn_app (goodIn_of _ (by decide +kernel)) ggX9_door_X9_waitOf
set_option maxRecDepth 20000 in
theorem ggX9_door_X9_many : GoodIn wsX9_door wsX9_many := goodIn_r _ [13, 4, 74, 75, 76, 77, 78, 79, 80, 81, 82, 83, 84, 85, 86, 87, 88, 89, 90, 91, 92, 93, 94, 95, 96, 97, 98, 99, 100, 101, 102, 103, 104, 105, 106, 107] (by decide +kernel) (by decide +kernel)
set_option maxRecDepth 20000 in
theorem gX9_door_X9_many : GoodIn wsX9_door (wsV RX9 145 RX9 yX9_many wsX9_many) := goodIn_app (goodIn_of _ (by decide +kernel)) ggX9_door_X9_many
set_option maxRecDepth 20000 in
theorem ggX9_door_X9_debtAt : GoodIn wsX9_door wsX9_debtAt := goodIn_r _ [48] (by decide +kernel) (by decide +kernel)
set_option maxRecDepth 20000 in
theorem gX9_door_X9_debtAt : GoodIn wsX9_door (va_wsS RX9 158 yX9_debtAt wsX9_debtAt) := goodIn_app (goodIn_of _ (by decide +kernel)) ggX9_door_X9_debtAt
set_option maxRecDepth 20000 in
theorem ggX9_door_X9_copies : GoodIn wsX9_door wsX9_copies := goodIn_r _ [24, 4, 74, 75, 76, 77, 78, 79, 80, 81, 82, 83, 84, 85, 86, 87, 88, 89, 90, 91, 92, 93, 94, 95, 96, 97, 98, 99, 100, 101, 102, 103, 104, 105, 106, 107] (by decide +kernel) (by decide +kernel)
set_option maxRecDepth 20000 in
theorem gX9_door_X9_copies : GoodIn wsX9_door (wsV RX9 200 RX9 yX9_copies wsX9_copies) := goodIn_app (goodIn_of _ (by decide +kernel)) ggX9_door_X9_copies
set_option maxRecDepth 20000 in
theorem ggX9_door_X9_gives : GoodIn wsX9_door wsX9_gives := goodIn_r _ [56, 4, 74, 75, 76, 77, 78, 79, 80, 81, 82, 83, 84, 85, 86, 87, 88, 89, 90, 91, 92, 93, 94, 95, 96, 97, 98, 99, 100, 101, 102, 103, 104, 105, 106, 107] (by decide +kernel) (by decide +kernel)
set_option maxRecDepth 20000 in
theorem gX9_door_X9_gives : GoodIn wsX9_door (wsV RX9 178 RX9 yX9_gives wsX9_gives) := goodIn_app (goodIn_of _ (by decide +kernel)) ggX9_door_X9_gives
set_option maxRecDepth 20000 in
theorem ggX9_door_X9_tries : GoodIn wsX9_door wsX9_tries := goodIn_r _ [68, 2, 3, 69, 25, 26, 27, 8, 28, 29, 30, 31, 32, 4, 33, 34, 35, 36, 37, 38, 39, 40, 41, 42, 43, 44, 45, 46, 47, 48, 49, 50, 51, 52, 53, 54, 55, 56, 57, 58, 59, 60, 61, 62, 63, 64, 74, 75, 76, 77, 78, 79, 80, 81, 82, 83, 84, 85, 86, 87, 88, 89, 90, 91, 92, 93, 94, 95, 96, 97, 98, 99, 100, 101, 102, 103, 104, 105, 106, 107] (by decide +kernel) (by decide +kernel)
set_option maxRecDepth 20000 in
theorem gX9_door_X9_tries : GoodIn wsX9_door (wsV RX9 251 RX9 yX9_tries wsX9_tries) := goodIn_app (goodIn_of _ (by decide +kernel)) ggX9_door_X9_tries
set_option maxRecDepth 20000 in
theorem ggX9_door_X9_best : GoodIn wsX9_door wsX9_best := goodIn_r _ [73, 3, 2, 69, 74, 75, 76, 77, 78, 79, 80, 81, 82, 83, 84, 85, 86, 87, 88, 89, 90, 91, 92, 93, 94, 95, 96, 97, 98, 99, 100, 101, 102, 103, 104, 105, 106, 107] (by decide +kernel) (by decide +kernel)
set_option maxRecDepth 20000 in
theorem gX9_door_X9_best : GoodIn wsX9_door (wsV RX9 255 RX9 yX9_best wsX9_best) := goodIn_app (goodIn_of _ (by decide +kernel)) ggX9_door_X9_best
theorem dX9_door_0 : decode cX9_door 0 = .ok (.aload_n 0, 1) := by decide +kernel
theorem dX9_door_1 : decode cX9_door 1 = .ok (.iload_n 1, 1) := by decide +kernel
theorem dX9_door_2 : decode cX9_door 2 = .ok (.invokevirtual 148, 3) := by decide +kernel
theorem dX9_door_5 : decode cX9_door 5 = .ok (.ifCond .eq 15, 3) := by decide +kernel
theorem dX9_door_8 : decode cX9_door 8 = .ok (.iload_n 2, 1) := by decide +kernel
theorem dX9_door_9 : decode cX9_door 9 = .ok (.i2l, 1) := by decide +kernel
theorem dX9_door_10 : decode cX9_door 10 = .ok (.lconst 0, 1) := by decide +kernel
theorem dX9_door_11 : decode cX9_door 11 = .ok (.ldc2_w 169, 3) := by decide +kernel
theorem dX9_door_14 : decode cX9_door 14 = .ok (.invokestatic 63, 3) := by decide +kernel
theorem dX9_door_17 : decode cX9_door 17 = .ok (.ifCond .ne 5, 3) := by decide +kernel
theorem dX9_door_20 : decode cX9_door 20 = .ok (.iconst (-1), 1) := by decide +kernel
theorem dX9_door_21 : decode cX9_door 21 = .ok (.ireturn, 1) := by decide +kernel
theorem dX9_door_22 : decode cX9_door 22 = .ok (.aload_n 0, 1) := by decide +kernel
theorem dX9_door_23 : decode cX9_door 23 = .ok (.invokevirtual 207, 3) := by decide +kernel
theorem dX9_door_26 : decode cX9_door 26 = .ok (.aload_n 0, 1) := by decide +kernel
theorem dX9_door_27 : decode cX9_door 27 = .ok (.aload_n 0, 1) := by decide +kernel
theorem dX9_door_28 : decode cX9_door 28 = .ok (.iload_n 1, 1) := by decide +kernel
theorem dX9_door_29 : decode cX9_door 29 = .ok (.invokevirtual 210, 3) := by decide +kernel
theorem dX9_door_32 : decode cX9_door 32 = .ok (.putfield 242, 3) := by decide +kernel
theorem dX9_door_35 : decode cX9_door 35 = .ok (.aload_n 0, 1) := by decide +kernel
theorem dX9_door_36 : decode cX9_door 36 = .ok (.bipush (-4), 2) := by decide +kernel
theorem dX9_door_38 : decode cX9_door 38 = .ok (.putfield 245, 3) := by decide +kernel
theorem dX9_door_41 : decode cX9_door 41 = .ok (.iconst 0, 1) := by decide +kernel
theorem dX9_door_42 : decode cX9_door 42 = .ok (.istore_n 3, 1) := by decide +kernel
theorem dX9_door_43 : decode cX9_door 43 = .ok (.iload_n 3, 1) := by decide +kernel
theorem dX9_door_44 : decode cX9_door 44 = .ok (.aload_n 0, 1) := by decide +kernel
theorem dX9_door_45 : decode cX9_door 45 = .ok (.invokevirtual 145, 3) := by decide +kernel
theorem dX9_door_48 : decode cX9_door 48 = .ok (.if_icmp .ge 111, 3) := by decide +kernel
theorem dX9_door_51 : decode cX9_door 51 = .ok (.iconst 1, 1) := by decide +kernel
theorem dX9_door_52 : decode cX9_door 52 = .ok (.istore 4, 2) := by decide +kernel
theorem dX9_door_54 : decode cX9_door 54 = .ok (.iload 4, 2) := by decide +kernel
theorem dX9_door_56 : decode cX9_door 56 = .ok (.bipush 50, 2) := by decide +kernel
theorem dX9_door_58 : decode cX9_door 58 = .ok (.if_icmp .gt 95, 3) := by decide +kernel
theorem dX9_door_61 : decode cX9_door 61 = .ok (.iload 4, 2) := by decide +kernel
theorem dX9_door_63 : decode cX9_door 63 = .ok (.aload_n 0, 1) := by decide +kernel
theorem dX9_door_64 : decode cX9_door 64 = .ok (.getfield 7, 3) := by decide +kernel
theorem dX9_door_67 : decode cX9_door 67 = .ok (.bipush 6, 2) := by decide +kernel
theorem dX9_door_69 : decode cX9_door 69 = .ok (.iload_n 1, 1) := by decide +kernel
theorem dX9_door_70 : decode cX9_door 70 = .ok (.imul, 1) := by decide +kernel
theorem dX9_door_71 : decode cX9_door 71 = .ok (.iconst 4, 1) := by decide +kernel
theorem dX9_door_72 : decode cX9_door 72 = .ok (.iadd, 1) := by decide +kernel
theorem dX9_door_73 : decode cX9_door 73 = .ok (.iaload, 1) := by decide +kernel
theorem dX9_door_74 : decode cX9_door 74 = .ok (.if_icmp .gt 79, 3) := by decide +kernel
theorem dX9_door_77 : decode cX9_door 77 = .ok (.iload_n 3, 1) := by decide +kernel
theorem dX9_door_78 : decode cX9_door 78 = .ok (.iload_n 1, 1) := by decide +kernel
theorem dX9_door_79 : decode cX9_door 79 = .ok (.if_icmp .eq 74, 3) := by decide +kernel
theorem dX9_door_82 : decode cX9_door 82 = .ok (.aload_n 0, 1) := by decide +kernel
theorem dX9_door_83 : decode cX9_door 83 = .ok (.getfield 7, 3) := by decide +kernel
theorem dX9_door_86 : decode cX9_door 86 = .ok (.iload_n 3, 1) := by decide +kernel
theorem dX9_door_87 : decode cX9_door 87 = .ok (.iload_n 1, 1) := by decide +kernel
theorem dX9_door_88 : decode cX9_door 88 = .ok (.invokestatic 158, 3) := by decide +kernel
theorem dX9_door_91 : decode cX9_door 91 = .ok (.iaload, 1) := by decide +kernel
theorem dX9_door_92 : decode cX9_door 92 = .ok (.iload 4, 2) := by decide +kernel
theorem dX9_door_94 : decode cX9_door 94 = .ok (.iadd, 1) := by decide +kernel
theorem dX9_door_95 : decode cX9_door 95 = .ok (.sipush 999, 3) := by decide +kernel
theorem dX9_door_98 : decode cX9_door 98 = .ok (.if_icmp .gt 55, 3) := by decide +kernel
theorem dX9_door_101 : decode cX9_door 101 = .ok (.aload_n 0, 1) := by decide +kernel
theorem dX9_door_102 : decode cX9_door 102 = .ok (.iconst 0, 1) := by decide +kernel
theorem dX9_door_103 : decode cX9_door 103 = .ok (.sipush 282, 3) := by decide +kernel
theorem dX9_door_106 : decode cX9_door 106 = .ok (.invokevirtual 200, 3) := by decide +kernel
theorem dX9_door_109 : decode cX9_door 109 = .ok (.aload_n 0, 1) := by decide +kernel
theorem dX9_door_110 : decode cX9_door 110 = .ok (.sipush 282, 3) := by decide +kernel
theorem dX9_door_113 : decode cX9_door 113 = .ok (.iload_n 1, 1) := by decide +kernel
theorem dX9_door_114 : decode cX9_door 114 = .ok (.iload_n 3, 1) := by decide +kernel
theorem dX9_door_115 : decode cX9_door 115 = .ok (.iload 4, 2) := by decide +kernel
theorem dX9_door_117 : decode cX9_door 117 = .ok (.invokevirtual 178, 3) := by decide +kernel
theorem dX9_door_120 : decode cX9_door 120 = .ok (.aload_n 0, 1) := by decide +kernel
theorem dX9_door_121 : decode cX9_door 121 = .ok (.getfield 7, 3) := by decide +kernel
theorem dX9_door_124 : decode cX9_door 124 = .ok (.sipush 282, 3) := by decide +kernel
theorem dX9_door_127 : decode cX9_door 127 = .ok (.iload_n 3, 1) := by decide +kernel
theorem dX9_door_128 : decode cX9_door 128 = .ok (.iload_n 1, 1) := by decide +kernel
theorem dX9_door_129 : decode cX9_door 129 = .ok (.invokestatic 158, 3) := by decide +kernel
theorem dX9_door_132 : decode cX9_door 132 = .ok (.iadd, 1) := by decide +kernel
theorem dX9_door_133 : decode cX9_door 133 = .ok (.dup2, 1) := by decide +kernel
theorem dX9_door_134 : decode cX9_door 134 = .ok (.iaload, 1) := by decide +kernel
theorem dX9_door_135 : decode cX9_door 135 = .ok (.iload 4, 2) := by decide +kernel
theorem dX9_door_137 : decode cX9_door 137 = .ok (.iadd, 1) := by decide +kernel
theorem dX9_door_138 : decode cX9_door 138 = .ok (.iastore, 1) := by decide +kernel
theorem dX9_door_139 : decode cX9_door 139 = .ok (.aload_n 0, 1) := by decide +kernel
theorem dX9_door_140 : decode cX9_door 140 = .ok (.iload_n 1, 1) := by decide +kernel
theorem dX9_door_141 : decode cX9_door 141 = .ok (.iload_n 3, 1) := by decide +kernel
theorem dX9_door_142 : decode cX9_door 142 = .ok (.iload 4, 2) := by decide +kernel
theorem dX9_door_144 : decode cX9_door 144 = .ok (.invokevirtual 251, 3) := by decide +kernel
theorem dX9_door_147 : decode cX9_door 147 = .ok (.iinc 4 1, 3) := by decide +kernel
theorem dX9_door_150 : decode cX9_door 150 = .ok (.goto (-96), 3) := by decide +kernel
theorem dX9_door_153 : decode cX9_door 153 = .ok (.iinc 3 1, 3) := by decide +kernel
theorem dX9_door_156 : decode cX9_door 156 = .ok (.goto (-113), 3) := by decide +kernel
theorem dX9_door_159 : decode cX9_door 159 = .ok (.aload_n 0, 1) := by decide +kernel
theorem dX9_door_160 : decode cX9_door 160 = .ok (.iload_n 2, 1) := by decide +kernel
theorem dX9_door_161 : decode cX9_door 161 = .ok (.invokevirtual 255, 3) := by decide +kernel
theorem dX9_door_164 : decode cX9_door 164 = .ok (.ireturn, 1) := by decide +kernel
set_option maxRecDepth 20000 in
theorem ggX9_buy_X9_isOne : GoodIn wsX9_buy wsX9_isOne := goodIn_r _ [9, 10, 11, 12, 8, 13, 4, 14, 15, 16, 74, 75, 76, 77, 78, 79, 80, 81, 82, 83, 84, 85, 86, 87, 88, 89, 90, 91, 92, 93, 94, 95, 96, 97, 98, 99, 100, 101, 102, 103, 104, 105, 106, 107] (by decide +kernel) (by decide +kernel)
set_option maxRecDepth 20000 in
theorem gX9_buy_X9_isOne : GoodIn wsX9_buy (wsV RX9 148 RX9 yX9_isOne wsX9_isOne) := goodIn_app (goodIn_of _ (by decide +kernel)) ggX9_buy_X9_isOne
set_option maxRecDepth 20000 in
theorem ggX9_buy_X9_in : GoodIn wsX9_buy wsX9_in := goodIn_r _ [16] (by decide +kernel) (by decide +kernel)
set_option maxRecDepth 20000 in
theorem gX9_buy_X9_in : GoodIn wsX9_buy (va_wsS RX9 63 yX9_in wsX9_in) := goodIn_app (goodIn_of _ (by decide +kernel)) ggX9_buy_X9_in
set_option maxRecDepth 20000 in
theorem ggX9_buy_X9_runsAll : GoodIn wsX9_buy wsX9_runsAll := goodIn_r _ [20, 21, 22, 23, 8, 24, 4, 25, 26, 27, 28, 29, 30, 31, 32, 33, 34, 35, 36, 37, 38, 39, 40, 41, 42, 43, 44, 45, 46, 47, 48, 49, 50, 51, 52, 53, 54, 55, 56, 57, 58, 59, 60, 74, 75, 76, 77, 78, 79, 80, 81, 82, 83, 84, 85, 86, 87, 88, 89, 90, 91, 92, 93, 94, 95, 96, 97, 98, 99, 100, 101, 102, 103, 104, 105, 106, 107] (by decide +kernel) (by decide +kernel)
set_option maxRecDepth 20000 in
theorem gX9_buy_X9_runsAll : GoodIn wsX9_buy (wsV RX9 207 RX9 yX9_runsAll wsX9_runsAll) := goodIn_app (goodIn_of _ (by decide +kernel)) ggX9_buy_X9_runsAll
set_option maxRecDepth 20000 in
theorem ggX9_buy_X9_waitOf : GoodIn wsX9_buy wsX9_waitOf := goodIn_r _ [64, 32, 4, 74, 75, 76, 77, 78, 79, 80, 81, 82, 83, 84, 85, 86, 87, 88, 89, 90, 91, 92, 93, 94, 95, 96, 97, 98, 99, 100, 101, 102, 103, 104, 105, 106, 107] (by decide +kernel) (by decide +kernel)
set_option maxRecDepth 20000 in
theorem gX9_buy_X9_waitOf : GoodIn wsX9_buy (wsV RX9 210 RX9 yX9_waitOf wsX9_waitOf) := goodIn_app (goodIn_of _ (by decide +kernel)) ggX9_buy_X9_waitOf
set_option maxRecDepth 20000 in
theorem ggX9_buy_X9_many : GoodIn wsX9_buy wsX9_many := goodIn_r _ [13, 4, 74, 75, 76, 77, 78, 79, 80, 81, 82, 83, 84, 85, 86, 87, 88, 89, 90, 91, 92, 93, 94, 95, 96, 97, 98, 99, 100, 101, 102, 103, 104, 105, 106, 107] (by decide +kernel) (by decide +kernel)
set_option maxRecDepth 20000 in
theorem gX9_buy_X9_many : GoodIn wsX9_buy (wsV RX9 145 RX9 yX9_many wsX9_many) := goodIn_app (goodIn_of _ (by decide +kernel)) ggX9_buy_X9_many
set_option maxRecDepth 20000 in
theorem ggX9_buy_X9_debtAt : GoodIn wsX9_buy wsX9_debtAt := goodIn_r _ [48] (by decide +kernel) (by decide +kernel)
set_option maxRecDepth 20000 in
theorem gX9_buy_X9_debtAt : GoodIn wsX9_buy (va_wsS RX9 158 yX9_debtAt wsX9_debtAt) := goodIn_app (goodIn_of _ (by decide +kernel)) ggX9_buy_X9_debtAt
set_option maxRecDepth 20000 in
theorem ggX9_buy_X9_copies : GoodIn wsX9_buy wsX9_copies := goodIn_r _ [24, 4, 74, 75, 76, 77, 78, 79, 80, 81, 82, 83, 84, 85, 86, 87, 88, 89, 90, 91, 92, 93, 94, 95, 96, 97, 98, 99, 100, 101, 102, 103, 104, 105, 106, 107] (by decide +kernel) (by decide +kernel)
set_option maxRecDepth 20000 in
theorem gX9_buy_X9_copies : GoodIn wsX9_buy (wsV RX9 200 RX9 yX9_copies wsX9_copies) := goodIn_app (goodIn_of _ (by decide +kernel)) ggX9_buy_X9_copies
set_option maxRecDepth 20000 in
theorem ggX9_buy_X9_gives : GoodIn wsX9_buy wsX9_gives := goodIn_r _ [56, 4, 74, 75, 76, 77, 78, 79, 80, 81, 82, 83, 84, 85, 86, 87, 88, 89, 90, 91, 92, 93, 94, 95, 96, 97, 98, 99, 100, 101, 102, 103, 104, 105, 106, 107] (by decide +kernel) (by decide +kernel)
set_option maxRecDepth 20000 in
theorem gX9_buy_X9_gives : GoodIn wsX9_buy (wsV RX9 178 RX9 yX9_gives wsX9_gives) := goodIn_app (goodIn_of _ (by decide +kernel)) ggX9_buy_X9_gives
set_option maxRecDepth 20000 in
theorem ggX9_buy_X9_tries : GoodIn wsX9_buy wsX9_tries := goodIn_r _ [68, 2, 3, 69, 25, 26, 27, 8, 28, 29, 30, 31, 32, 4, 33, 34, 35, 36, 37, 38, 39, 40, 41, 42, 43, 44, 45, 46, 47, 48, 49, 50, 51, 52, 53, 54, 55, 56, 57, 58, 59, 60, 61, 62, 63, 64, 74, 75, 76, 77, 78, 79, 80, 81, 82, 83, 84, 85, 86, 87, 88, 89, 90, 91, 92, 93, 94, 95, 96, 97, 98, 99, 100, 101, 102, 103, 104, 105, 106, 107] (by decide +kernel) (by decide +kernel)
set_option maxRecDepth 20000 in
theorem gX9_buy_X9_tries : GoodIn wsX9_buy (wsV RX9 251 RX9 yX9_tries wsX9_tries) := goodIn_app (goodIn_of _ (by decide +kernel)) ggX9_buy_X9_tries
set_option maxRecDepth 20000 in
theorem ggX9_buy_X9_best : GoodIn wsX9_buy wsX9_best := goodIn_r _ [73, 3, 2, 69, 74, 75, 76, 77, 78, 79, 80, 81, 82, 83, 84, 85, 86, 87, 88, 89, 90, 91, 92, 93, 94, 95, 96, 97, 98, 99, 100, 101, 102, 103, 104, 105, 106, 107] (by decide +kernel) (by decide +kernel)
set_option maxRecDepth 20000 in
theorem gX9_buy_X9_best : GoodIn wsX9_buy (wsV RX9 255 RX9 yX9_best wsX9_best) := goodIn_app (goodIn_of _ (by decide +kernel)) ggX9_buy_X9_best
theorem dX9_buy_0 : decode cX9_buy 0 = .ok (.aload_n 0, 1) := by decide +kernel
theorem dX9_buy_1 : decode cX9_buy 1 = .ok (.iload_n 1, 1) := by decide +kernel
theorem dX9_buy_2 : decode cX9_buy 2 = .ok (.invokevirtual 148, 3) := by decide +kernel
theorem dX9_buy_5 : decode cX9_buy 5 = .ok (.ifCond .eq 15, 3) := by decide +kernel
theorem dX9_buy_8 : decode cX9_buy 8 = .ok (.iload_n 2, 1) := by decide +kernel
theorem dX9_buy_9 : decode cX9_buy 9 = .ok (.i2l, 1) := by decide +kernel
theorem dX9_buy_10 : decode cX9_buy 10 = .ok (.lconst 0, 1) := by decide +kernel
theorem dX9_buy_11 : decode cX9_buy 11 = .ok (.ldc2_w 169, 3) := by decide +kernel
theorem dX9_buy_14 : decode cX9_buy 14 = .ok (.invokestatic 63, 3) := by decide +kernel
theorem dX9_buy_17 : decode cX9_buy 17 = .ok (.ifCond .ne 5, 3) := by decide +kernel
theorem dX9_buy_20 : decode cX9_buy 20 = .ok (.iconst (-1), 1) := by decide +kernel
theorem dX9_buy_21 : decode cX9_buy 21 = .ok (.ireturn, 1) := by decide +kernel
theorem dX9_buy_22 : decode cX9_buy 22 = .ok (.aload_n 0, 1) := by decide +kernel
theorem dX9_buy_23 : decode cX9_buy 23 = .ok (.invokevirtual 207, 3) := by decide +kernel
theorem dX9_buy_26 : decode cX9_buy 26 = .ok (.aload_n 0, 1) := by decide +kernel
theorem dX9_buy_27 : decode cX9_buy 27 = .ok (.aload_n 0, 1) := by decide +kernel
theorem dX9_buy_28 : decode cX9_buy 28 = .ok (.iload_n 1, 1) := by decide +kernel
theorem dX9_buy_29 : decode cX9_buy 29 = .ok (.invokevirtual 210, 3) := by decide +kernel
theorem dX9_buy_32 : decode cX9_buy 32 = .ok (.putfield 242, 3) := by decide +kernel
theorem dX9_buy_35 : decode cX9_buy 35 = .ok (.aload_n 0, 1) := by decide +kernel
theorem dX9_buy_36 : decode cX9_buy 36 = .ok (.bipush (-4), 2) := by decide +kernel
theorem dX9_buy_38 : decode cX9_buy 38 = .ok (.putfield 245, 3) := by decide +kernel
theorem dX9_buy_41 : decode cX9_buy 41 = .ok (.iconst 0, 1) := by decide +kernel
theorem dX9_buy_42 : decode cX9_buy 42 = .ok (.istore_n 3, 1) := by decide +kernel
theorem dX9_buy_43 : decode cX9_buy 43 = .ok (.iload_n 3, 1) := by decide +kernel
theorem dX9_buy_44 : decode cX9_buy 44 = .ok (.bipush 7, 2) := by decide +kernel
theorem dX9_buy_46 : decode cX9_buy 46 = .ok (.aload_n 0, 1) := by decide +kernel
theorem dX9_buy_47 : decode cX9_buy 47 = .ok (.invokevirtual 145, 3) := by decide +kernel
theorem dX9_buy_50 : decode cX9_buy 50 = .ok (.imul, 1) := by decide +kernel
theorem dX9_buy_51 : decode cX9_buy 51 = .ok (.if_icmp .ge 176, 3) := by decide +kernel
theorem dX9_buy_54 : decode cX9_buy 54 = .ok (.iload_n 3, 1) := by decide +kernel
theorem dX9_buy_55 : decode cX9_buy 55 = .ok (.bipush 7, 2) := by decide +kernel
theorem dX9_buy_57 : decode cX9_buy 57 = .ok (.idiv, 1) := by decide +kernel
theorem dX9_buy_58 : decode cX9_buy 58 = .ok (.istore 4, 2) := by decide +kernel
theorem dX9_buy_60 : decode cX9_buy 60 = .ok (.iload_n 3, 1) := by decide +kernel
theorem dX9_buy_61 : decode cX9_buy 61 = .ok (.bipush 7, 2) := by decide +kernel
theorem dX9_buy_63 : decode cX9_buy 63 = .ok (.irem, 1) := by decide +kernel
theorem dX9_buy_64 : decode cX9_buy 64 = .ok (.istore 5, 2) := by decide +kernel
theorem dX9_buy_66 : decode cX9_buy 66 = .ok (.iload 5, 2) := by decide +kernel
theorem dX9_buy_68 : decode cX9_buy 68 = .ok (.aload_n 0, 1) := by decide +kernel
theorem dX9_buy_69 : decode cX9_buy 69 = .ok (.invokevirtual 145, 3) := by decide +kernel
theorem dX9_buy_72 : decode cX9_buy 72 = .ok (.if_icmp .ge 149, 3) := by decide +kernel
theorem dX9_buy_75 : decode cX9_buy 75 = .ok (.iload 4, 2) := by decide +kernel
theorem dX9_buy_77 : decode cX9_buy 77 = .ok (.iload 5, 2) := by decide +kernel
theorem dX9_buy_79 : decode cX9_buy 79 = .ok (.if_icmp .eq 142, 3) := by decide +kernel
theorem dX9_buy_82 : decode cX9_buy 82 = .ok (.iload 4, 2) := by decide +kernel
theorem dX9_buy_84 : decode cX9_buy 84 = .ok (.iload_n 1, 1) := by decide +kernel
theorem dX9_buy_85 : decode cX9_buy 85 = .ok (.if_icmp .eq 136, 3) := by decide +kernel
theorem dX9_buy_88 : decode cX9_buy 88 = .ok (.iload 5, 2) := by decide +kernel
theorem dX9_buy_90 : decode cX9_buy 90 = .ok (.iload_n 1, 1) := by decide +kernel
theorem dX9_buy_91 : decode cX9_buy 91 = .ok (.if_icmp .eq 130, 3) := by decide +kernel
theorem dX9_buy_94 : decode cX9_buy 94 = .ok (.aload_n 0, 1) := by decide +kernel
theorem dX9_buy_95 : decode cX9_buy 95 = .ok (.getfield 7, 3) := by decide +kernel
theorem dX9_buy_98 : decode cX9_buy 98 = .ok (.iload 4, 2) := by decide +kernel
theorem dX9_buy_100 : decode cX9_buy 100 = .ok (.iload 5, 2) := by decide +kernel
theorem dX9_buy_102 : decode cX9_buy 102 = .ok (.invokestatic 158, 3) := by decide +kernel
theorem dX9_buy_105 : decode cX9_buy 105 = .ok (.iaload, 1) := by decide +kernel
theorem dX9_buy_106 : decode cX9_buy 106 = .ok (.istore 6, 2) := by decide +kernel
theorem dX9_buy_108 : decode cX9_buy 108 = .ok (.iload 6, 2) := by decide +kernel
theorem dX9_buy_110 : decode cX9_buy 110 = .ok (.ifCond .le 111, 3) := by decide +kernel
theorem dX9_buy_113 : decode cX9_buy 113 = .ok (.iload 6, 2) := by decide +kernel
theorem dX9_buy_115 : decode cX9_buy 115 = .ok (.aload_n 0, 1) := by decide +kernel
theorem dX9_buy_116 : decode cX9_buy 116 = .ok (.getfield 7, 3) := by decide +kernel
theorem dX9_buy_119 : decode cX9_buy 119 = .ok (.bipush 6, 2) := by decide +kernel
theorem dX9_buy_121 : decode cX9_buy 121 = .ok (.iload_n 1, 1) := by decide +kernel
theorem dX9_buy_122 : decode cX9_buy 122 = .ok (.imul, 1) := by decide +kernel
theorem dX9_buy_123 : decode cX9_buy 123 = .ok (.iconst 4, 1) := by decide +kernel
theorem dX9_buy_124 : decode cX9_buy 124 = .ok (.iadd, 1) := by decide +kernel
theorem dX9_buy_125 : decode cX9_buy 125 = .ok (.iaload, 1) := by decide +kernel
theorem dX9_buy_126 : decode cX9_buy 126 = .ok (.if_icmp .gt 95, 3) := by decide +kernel
theorem dX9_buy_129 : decode cX9_buy 129 = .ok (.aload_n 0, 1) := by decide +kernel
theorem dX9_buy_130 : decode cX9_buy 130 = .ok (.getfield 7, 3) := by decide +kernel
theorem dX9_buy_133 : decode cX9_buy 133 = .ok (.iload 4, 2) := by decide +kernel
theorem dX9_buy_135 : decode cX9_buy 135 = .ok (.iload_n 1, 1) := by decide +kernel
theorem dX9_buy_136 : decode cX9_buy 136 = .ok (.invokestatic 158, 3) := by decide +kernel
theorem dX9_buy_139 : decode cX9_buy 139 = .ok (.iaload, 1) := by decide +kernel
theorem dX9_buy_140 : decode cX9_buy 140 = .ok (.iload 6, 2) := by decide +kernel
theorem dX9_buy_142 : decode cX9_buy 142 = .ok (.iadd, 1) := by decide +kernel
theorem dX9_buy_143 : decode cX9_buy 143 = .ok (.sipush 999, 3) := by decide +kernel
theorem dX9_buy_146 : decode cX9_buy 146 = .ok (.if_icmp .gt 75, 3) := by decide +kernel
theorem dX9_buy_149 : decode cX9_buy 149 = .ok (.aload_n 0, 1) := by decide +kernel
theorem dX9_buy_150 : decode cX9_buy 150 = .ok (.iconst 0, 1) := by decide +kernel
theorem dX9_buy_151 : decode cX9_buy 151 = .ok (.sipush 282, 3) := by decide +kernel
theorem dX9_buy_154 : decode cX9_buy 154 = .ok (.invokevirtual 200, 3) := by decide +kernel
theorem dX9_buy_157 : decode cX9_buy 157 = .ok (.aload_n 0, 1) := by decide +kernel
theorem dX9_buy_158 : decode cX9_buy 158 = .ok (.sipush 282, 3) := by decide +kernel
theorem dX9_buy_161 : decode cX9_buy 161 = .ok (.iload_n 1, 1) := by decide +kernel
theorem dX9_buy_162 : decode cX9_buy 162 = .ok (.iload 5, 2) := by decide +kernel
theorem dX9_buy_164 : decode cX9_buy 164 = .ok (.iload 6, 2) := by decide +kernel
theorem dX9_buy_166 : decode cX9_buy 166 = .ok (.invokevirtual 178, 3) := by decide +kernel
theorem dX9_buy_169 : decode cX9_buy 169 = .ok (.aload_n 0, 1) := by decide +kernel
theorem dX9_buy_170 : decode cX9_buy 170 = .ok (.getfield 7, 3) := by decide +kernel
theorem dX9_buy_173 : decode cX9_buy 173 = .ok (.sipush 282, 3) := by decide +kernel
theorem dX9_buy_176 : decode cX9_buy 176 = .ok (.iload 4, 2) := by decide +kernel
theorem dX9_buy_178 : decode cX9_buy 178 = .ok (.iload 5, 2) := by decide +kernel
theorem dX9_buy_180 : decode cX9_buy 180 = .ok (.invokestatic 158, 3) := by decide +kernel
theorem dX9_buy_183 : decode cX9_buy 183 = .ok (.iadd, 1) := by decide +kernel
theorem dX9_buy_184 : decode cX9_buy 184 = .ok (.iconst 0, 1) := by decide +kernel
theorem dX9_buy_185 : decode cX9_buy 185 = .ok (.iastore, 1) := by decide +kernel
theorem dX9_buy_186 : decode cX9_buy 186 = .ok (.aload_n 0, 1) := by decide +kernel
theorem dX9_buy_187 : decode cX9_buy 187 = .ok (.getfield 7, 3) := by decide +kernel
theorem dX9_buy_190 : decode cX9_buy 190 = .ok (.sipush 282, 3) := by decide +kernel
theorem dX9_buy_193 : decode cX9_buy 193 = .ok (.iload 4, 2) := by decide +kernel
theorem dX9_buy_195 : decode cX9_buy 195 = .ok (.iload_n 1, 1) := by decide +kernel
theorem dX9_buy_196 : decode cX9_buy 196 = .ok (.invokestatic 158, 3) := by decide +kernel
theorem dX9_buy_199 : decode cX9_buy 199 = .ok (.iadd, 1) := by decide +kernel
theorem dX9_buy_200 : decode cX9_buy 200 = .ok (.dup2, 1) := by decide +kernel
theorem dX9_buy_201 : decode cX9_buy 201 = .ok (.iaload, 1) := by decide +kernel
theorem dX9_buy_202 : decode cX9_buy 202 = .ok (.iload 6, 2) := by decide +kernel
theorem dX9_buy_204 : decode cX9_buy 204 = .ok (.iadd, 1) := by decide +kernel
theorem dX9_buy_205 : decode cX9_buy 205 = .ok (.iastore, 1) := by decide +kernel
theorem dX9_buy_206 : decode cX9_buy 206 = .ok (.aload_n 0, 1) := by decide +kernel
theorem dX9_buy_207 : decode cX9_buy 207 = .ok (.iload_n 1, 1) := by decide +kernel
theorem dX9_buy_208 : decode cX9_buy 208 = .ok (.bipush 10, 2) := by decide +kernel
theorem dX9_buy_210 : decode cX9_buy 210 = .ok (.iload 4, 2) := by decide +kernel
theorem dX9_buy_212 : decode cX9_buy 212 = .ok (.imul, 1) := by decide +kernel
theorem dX9_buy_213 : decode cX9_buy 213 = .ok (.iload 5, 2) := by decide +kernel
theorem dX9_buy_215 : decode cX9_buy 215 = .ok (.iadd, 1) := by decide +kernel
theorem dX9_buy_216 : decode cX9_buy 216 = .ok (.iload 6, 2) := by decide +kernel
theorem dX9_buy_218 : decode cX9_buy 218 = .ok (.invokevirtual 251, 3) := by decide +kernel
theorem dX9_buy_221 : decode cX9_buy 221 = .ok (.iinc 3 1, 3) := by decide +kernel
theorem dX9_buy_224 : decode cX9_buy 224 = .ok (.goto (-181), 3) := by decide +kernel
theorem dX9_buy_227 : decode cX9_buy 227 = .ok (.aload_n 0, 1) := by decide +kernel
theorem dX9_buy_228 : decode cX9_buy 228 = .ok (.iload_n 2, 1) := by decide +kernel
theorem dX9_buy_229 : decode cX9_buy 229 = .ok (.invokevirtual 255, 3) := by decide +kernel
theorem dX9_buy_232 : decode cX9_buy 232 = .ok (.ireturn, 1) := by decide +kernel
theorem dX9_seenAt_0 : decode cX9_seenAt 0 = .ok (.iconst 0, 1) := by decide +kernel
theorem dX9_seenAt_1 : decode cX9_seenAt 1 = .ok (.istore_n 2, 1) := by decide +kernel
theorem dX9_seenAt_2 : decode cX9_seenAt 2 = .ok (.iload_n 2, 1) := by decide +kernel
theorem dX9_seenAt_3 : decode cX9_seenAt 3 = .ok (.aload_n 0, 1) := by decide +kernel
theorem dX9_seenAt_4 : decode cX9_seenAt 4 = .ok (.getfield 142, 3) := by decide +kernel
theorem dX9_seenAt_7 : decode cX9_seenAt 7 = .ok (.if_icmp .ge 21, 3) := by decide +kernel
theorem dX9_seenAt_10 : decode cX9_seenAt 10 = .ok (.aload_n 0, 1) := by decide +kernel
theorem dX9_seenAt_11 : decode cX9_seenAt 11 = .ok (.getfield 43, 3) := by decide +kernel
theorem dX9_seenAt_14 : decode cX9_seenAt 14 = .ok (.iload_n 2, 1) := by decide +kernel
theorem dX9_seenAt_15 : decode cX9_seenAt 15 = .ok (.iaload, 1) := by decide +kernel
theorem dX9_seenAt_16 : decode cX9_seenAt 16 = .ok (.iload_n 1, 1) := by decide +kernel
theorem dX9_seenAt_17 : decode cX9_seenAt 17 = .ok (.if_icmp .ne 5, 3) := by decide +kernel
theorem dX9_seenAt_20 : decode cX9_seenAt 20 = .ok (.iload_n 2, 1) := by decide +kernel
theorem dX9_seenAt_21 : decode cX9_seenAt 21 = .ok (.ireturn, 1) := by decide +kernel
theorem dX9_seenAt_22 : decode cX9_seenAt 22 = .ok (.iinc 2 1, 3) := by decide +kernel
theorem dX9_seenAt_25 : decode cX9_seenAt 25 = .ok (.goto (-23), 3) := by decide +kernel
theorem dX9_seenAt_28 : decode cX9_seenAt 28 = .ok (.bipush (-4), 2) := by decide +kernel
theorem dX9_seenAt_30 : decode cX9_seenAt 30 = .ok (.ireturn, 1) := by decide +kernel
set_option maxRecDepth 20000 in
theorem ggX9_see_X9_isOne : GoodIn wsX9_see wsX9_isOne := goodIn_r _ [7, 8, 9, 10, 6, 11, 12, 13, 14, 15, 20, 21, 22, 23, 24, 25, 26, 27, 28, 29, 30, 31, 32, 33, 34, 35, 36, 37, 38, 39, 40, 41, 42, 43, 44, 45, 46, 47, 48, 49, 50, 51, 52, 53] (by decide +kernel) (by decide +kernel)
set_option maxRecDepth 20000 in
theorem gX9_see_X9_isOne : GoodIn wsX9_see (wsV RX9 148 RX9 yX9_isOne wsX9_isOne) := goodIn_app (goodIn_of _ (by decide +kernel)) ggX9_see_X9_isOne
set_option maxRecDepth 20000 in
theorem ggX9_see_X9_seenAt : GoodIn wsX9_see wsX9_seenAt := goodIn_r _ [19, 2, 1, 20, 21, 22, 23, 24, 25, 26, 27, 28, 29, 30, 31, 32, 33, 34, 35, 36, 37, 38, 39, 40, 41, 42, 43, 44, 45, 46, 47, 48, 49, 50, 51, 52, 53] (by decide +kernel) (by decide +kernel)
set_option maxRecDepth 20000 in
theorem gX9_see_X9_seenAt : GoodIn wsX9_see (wsV RX9 258 RX9 yX9_seenAt wsX9_seenAt) := goodIn_app (goodIn_of _ (by decide +kernel)) ggX9_see_X9_seenAt
theorem dX9_see_0 : decode cX9_see 0 = .ok (.aload_n 0, 1) := by decide +kernel
theorem dX9_see_1 : decode cX9_see 1 = .ok (.iload_n 1, 1) := by decide +kernel
theorem dX9_see_2 : decode cX9_see 2 = .ok (.invokevirtual 148, 3) := by decide +kernel
theorem dX9_see_5 : decode cX9_see 5 = .ok (.ifCond .ne 5, 3) := by decide +kernel
theorem dX9_see_8 : decode cX9_see 8 = .ok (.iconst (-1), 1) := by decide +kernel
theorem dX9_see_9 : decode cX9_see 9 = .ok (.ireturn, 1) := by decide +kernel
theorem dX9_see_10 : decode cX9_see 10 = .ok (.aload_n 0, 1) := by decide +kernel
theorem dX9_see_11 : decode cX9_see 11 = .ok (.iload_n 1, 1) := by decide +kernel
theorem dX9_see_12 : decode cX9_see 12 = .ok (.invokevirtual 258, 3) := by decide +kernel
theorem dX9_see_15 : decode cX9_see 15 = .ok (.bipush (-4), 2) := by decide +kernel
theorem dX9_see_17 : decode cX9_see 17 = .ok (.if_icmp .eq 6, 3) := by decide +kernel
theorem dX9_see_20 : decode cX9_see 20 = .ok (.bipush (-2), 2) := by decide +kernel
theorem dX9_see_22 : decode cX9_see 22 = .ok (.ireturn, 1) := by decide +kernel
theorem dX9_see_23 : decode cX9_see 23 = .ok (.aload_n 0, 1) := by decide +kernel
theorem dX9_see_24 : decode cX9_see 24 = .ok (.getfield 43, 3) := by decide +kernel
theorem dX9_see_27 : decode cX9_see 27 = .ok (.aload_n 0, 1) := by decide +kernel
theorem dX9_see_28 : decode cX9_see 28 = .ok (.getfield 142, 3) := by decide +kernel
theorem dX9_see_31 : decode cX9_see 31 = .ok (.iload_n 1, 1) := by decide +kernel
theorem dX9_see_32 : decode cX9_see 32 = .ok (.iastore, 1) := by decide +kernel
theorem dX9_see_33 : decode cX9_see 33 = .ok (.aload_n 0, 1) := by decide +kernel
theorem dX9_see_34 : decode cX9_see 34 = .ok (.dup, 1) := by decide +kernel
theorem dX9_see_35 : decode cX9_see 35 = .ok (.getfield 142, 3) := by decide +kernel
theorem dX9_see_38 : decode cX9_see 38 = .ok (.iconst 1, 1) := by decide +kernel
theorem dX9_see_39 : decode cX9_see 39 = .ok (.iadd, 1) := by decide +kernel
theorem dX9_see_40 : decode cX9_see 40 = .ok (.putfield 142, 3) := by decide +kernel
theorem dX9_see_43 : decode cX9_see 43 = .ok (.aload_n 0, 1) := by decide +kernel
theorem dX9_see_44 : decode cX9_see 44 = .ok (.getfield 142, 3) := by decide +kernel
theorem dX9_see_47 : decode cX9_see 47 = .ok (.ireturn, 1) := by decide +kernel
theorem dX9_forget_0 : decode cX9_forget 0 = .ok (.aload_n 0, 1) := by decide +kernel
theorem dX9_forget_1 : decode cX9_forget 1 = .ok (.getfield 142, 3) := by decide +kernel
theorem dX9_forget_4 : decode cX9_forget 4 = .ok (.istore_n 1, 1) := by decide +kernel
theorem dX9_forget_5 : decode cX9_forget 5 = .ok (.aload_n 0, 1) := by decide +kernel
theorem dX9_forget_6 : decode cX9_forget 6 = .ok (.iconst 0, 1) := by decide +kernel
theorem dX9_forget_7 : decode cX9_forget 7 = .ok (.putfield 142, 3) := by decide +kernel
theorem dX9_forget_10 : decode cX9_forget 10 = .ok (.iload_n 1, 1) := by decide +kernel
theorem dX9_forget_11 : decode cX9_forget 11 = .ok (.ireturn, 1) := by decide +kernel
theorem dX9_cameFirst_0 : decode cX9_cameFirst 0 = .ok (.aload_n 0, 1) := by decide +kernel
theorem dX9_cameFirst_1 : decode cX9_cameFirst 1 = .ok (.getfield 7, 3) := by decide +kernel
theorem dX9_cameFirst_4 : decode cX9_cameFirst 4 = .ok (.bipush 6, 2) := by decide +kernel
theorem dX9_cameFirst_6 : decode cX9_cameFirst 6 = .ok (.iload_n 1, 1) := by decide +kernel
theorem dX9_cameFirst_7 : decode cX9_cameFirst 7 = .ok (.imul, 1) := by decide +kernel
theorem dX9_cameFirst_8 : decode cX9_cameFirst 8 = .ok (.iconst 1, 1) := by decide +kernel
theorem dX9_cameFirst_9 : decode cX9_cameFirst 9 = .ok (.iadd, 1) := by decide +kernel
theorem dX9_cameFirst_10 : decode cX9_cameFirst 10 = .ok (.iaload, 1) := by decide +kernel
theorem dX9_cameFirst_11 : decode cX9_cameFirst 11 = .ok (.istore_n 3, 1) := by decide +kernel
theorem dX9_cameFirst_12 : decode cX9_cameFirst 12 = .ok (.aload_n 0, 1) := by decide +kernel
theorem dX9_cameFirst_13 : decode cX9_cameFirst 13 = .ok (.getfield 7, 3) := by decide +kernel
theorem dX9_cameFirst_16 : decode cX9_cameFirst 16 = .ok (.bipush 6, 2) := by decide +kernel
theorem dX9_cameFirst_18 : decode cX9_cameFirst 18 = .ok (.iload_n 2, 1) := by decide +kernel
theorem dX9_cameFirst_19 : decode cX9_cameFirst 19 = .ok (.imul, 1) := by decide +kernel
theorem dX9_cameFirst_20 : decode cX9_cameFirst 20 = .ok (.iconst 1, 1) := by decide +kernel
theorem dX9_cameFirst_21 : decode cX9_cameFirst 21 = .ok (.iadd, 1) := by decide +kernel
theorem dX9_cameFirst_22 : decode cX9_cameFirst 22 = .ok (.iaload, 1) := by decide +kernel
theorem dX9_cameFirst_23 : decode cX9_cameFirst 23 = .ok (.istore 4, 2) := by decide +kernel
theorem dX9_cameFirst_25 : decode cX9_cameFirst 25 = .ok (.iload_n 3, 1) := by decide +kernel
theorem dX9_cameFirst_26 : decode cX9_cameFirst 26 = .ok (.iload 4, 2) := by decide +kernel
theorem dX9_cameFirst_28 : decode cX9_cameFirst 28 = .ok (.if_icmp .lt 14, 3) := by decide +kernel
theorem dX9_cameFirst_31 : decode cX9_cameFirst 31 = .ok (.iload_n 3, 1) := by decide +kernel
theorem dX9_cameFirst_32 : decode cX9_cameFirst 32 = .ok (.iload 4, 2) := by decide +kernel
theorem dX9_cameFirst_34 : decode cX9_cameFirst 34 = .ok (.if_icmp .ne 12, 3) := by decide +kernel
theorem dX9_cameFirst_37 : decode cX9_cameFirst 37 = .ok (.iload_n 1, 1) := by decide +kernel
theorem dX9_cameFirst_38 : decode cX9_cameFirst 38 = .ok (.iload_n 2, 1) := by decide +kernel
theorem dX9_cameFirst_39 : decode cX9_cameFirst 39 = .ok (.if_icmp .ge 7, 3) := by decide +kernel
theorem dX9_cameFirst_42 : decode cX9_cameFirst 42 = .ok (.iconst 1, 1) := by decide +kernel
theorem dX9_cameFirst_43 : decode cX9_cameFirst 43 = .ok (.goto 4, 3) := by decide +kernel
theorem dX9_cameFirst_46 : decode cX9_cameFirst 46 = .ok (.iconst 0, 1) := by decide +kernel
theorem dX9_cameFirst_47 : decode cX9_cameFirst 47 = .ok (.ireturn, 1) := by decide +kernel
set_option maxRecDepth 20000 in
theorem ggX9_told_X9_areTwo : GoodIn wsX9_told wsX9_areTwo := goodIn_r _ [6, 7, 8, 9, 5, 10, 11, 12, 13, 14, 15, 16, 17, 18, 28, 29, 30, 31, 32, 33, 34, 35, 36, 37, 38, 39, 40, 41, 42, 43, 44, 45, 46, 47, 48, 49, 50, 51, 52, 53, 54, 55, 56, 57, 58, 59, 60, 61] (by decide +kernel) (by decide +kernel)
set_option maxRecDepth 20000 in
theorem gX9_told_X9_areTwo : GoodIn wsX9_told (wsV RX9 154 RX9 yX9_areTwo wsX9_areTwo) := goodIn_app (goodIn_of _ (by decide +kernel)) ggX9_told_X9_areTwo
set_option maxRecDepth 20000 in
theorem ggX9_told_X9_seenAt : GoodIn wsX9_told wsX9_seenAt := goodIn_r _ [22, 23, 1, 28, 29, 30, 31, 32, 33, 34, 35, 36, 37, 38, 39, 40, 41, 42, 43, 44, 45, 46, 47, 48, 49, 50, 51, 52, 53, 54, 55, 56, 57, 58, 59, 60, 61] (by decide +kernel) (by decide +kernel)
set_option maxRecDepth 20000 in
theorem gX9_told_X9_seenAt : GoodIn wsX9_told (wsV RX9 258 RX9 yX9_seenAt wsX9_seenAt) := goodIn_app (goodIn_of _ (by decide +kernel)) ggX9_told_X9_seenAt
set_option maxRecDepth 20000 in
theorem ggX9_told_X9_cameFirst : GoodIn wsX9_told wsX9_cameFirst := goodIn_r _ [27, 15, 28, 29, 30, 31, 32, 33, 34, 35, 36, 37, 38, 39, 40, 41, 42, 43, 44, 45, 46, 47, 48, 49, 50, 51, 52, 53, 54, 55, 56, 57, 58, 59, 60, 61] (by decide +kernel) (by decide +kernel)
set_option maxRecDepth 20000 in
theorem gX9_told_X9_cameFirst : GoodIn wsX9_told (wsV RX9 261 RX9 yX9_cameFirst wsX9_cameFirst) := goodIn_app (goodIn_of _ (by decide +kernel)) ggX9_told_X9_cameFirst
theorem dX9_told_0 : decode cX9_told 0 = .ok (.aload_n 0, 1) := by decide +kernel
theorem dX9_told_1 : decode cX9_told 1 = .ok (.iload_n 1, 1) := by decide +kernel
theorem dX9_told_2 : decode cX9_told 2 = .ok (.iload_n 2, 1) := by decide +kernel
theorem dX9_told_3 : decode cX9_told 3 = .ok (.invokevirtual 154, 3) := by decide +kernel
theorem dX9_told_6 : decode cX9_told 6 = .ok (.ifCond .ne 5, 3) := by decide +kernel
theorem dX9_told_9 : decode cX9_told 9 = .ok (.iconst (-1), 1) := by decide +kernel
theorem dX9_told_10 : decode cX9_told 10 = .ok (.ireturn, 1) := by decide +kernel
theorem dX9_told_11 : decode cX9_told 11 = .ok (.aload_n 0, 1) := by decide +kernel
theorem dX9_told_12 : decode cX9_told 12 = .ok (.iload_n 1, 1) := by decide +kernel
theorem dX9_told_13 : decode cX9_told 13 = .ok (.invokevirtual 258, 3) := by decide +kernel
theorem dX9_told_16 : decode cX9_told 16 = .ok (.istore_n 3, 1) := by decide +kernel
theorem dX9_told_17 : decode cX9_told 17 = .ok (.aload_n 0, 1) := by decide +kernel
theorem dX9_told_18 : decode cX9_told 18 = .ok (.iload_n 2, 1) := by decide +kernel
theorem dX9_told_19 : decode cX9_told 19 = .ok (.invokevirtual 258, 3) := by decide +kernel
theorem dX9_told_22 : decode cX9_told 22 = .ok (.istore 4, 2) := by decide +kernel
theorem dX9_told_24 : decode cX9_told 24 = .ok (.iload_n 3, 1) := by decide +kernel
theorem dX9_told_25 : decode cX9_told 25 = .ok (.bipush (-4), 2) := by decide +kernel
theorem dX9_told_27 : decode cX9_told 27 = .ok (.if_icmp .eq 19, 3) := by decide +kernel
theorem dX9_told_30 : decode cX9_told 30 = .ok (.iload 4, 2) := by decide +kernel
theorem dX9_told_32 : decode cX9_told 32 = .ok (.bipush (-4), 2) := by decide +kernel
theorem dX9_told_34 : decode cX9_told 34 = .ok (.if_icmp .eq 12, 3) := by decide +kernel
theorem dX9_told_37 : decode cX9_told 37 = .ok (.aload_n 0, 1) := by decide +kernel
theorem dX9_told_38 : decode cX9_told 38 = .ok (.iload_n 1, 1) := by decide +kernel
theorem dX9_told_39 : decode cX9_told 39 = .ok (.iload_n 2, 1) := by decide +kernel
theorem dX9_told_40 : decode cX9_told 40 = .ok (.invokevirtual 261, 3) := by decide +kernel
theorem dX9_told_43 : decode cX9_told 43 = .ok (.ifCond .ne 6, 3) := by decide +kernel
theorem dX9_told_46 : decode cX9_told 46 = .ok (.bipush (-4), 2) := by decide +kernel
theorem dX9_told_48 : decode cX9_told 48 = .ok (.ireturn, 1) := by decide +kernel
theorem dX9_told_49 : decode cX9_told 49 = .ok (.iload_n 3, 1) := by decide +kernel
theorem dX9_told_50 : decode cX9_told 50 = .ok (.iload 4, 2) := by decide +kernel
theorem dX9_told_52 : decode cX9_told 52 = .ok (.if_icmp .le 5, 3) := by decide +kernel
theorem dX9_told_55 : decode cX9_told 55 = .ok (.iconst 1, 1) := by decide +kernel
theorem dX9_told_56 : decode cX9_told 56 = .ok (.ireturn, 1) := by decide +kernel
theorem dX9_told_57 : decode cX9_told 57 = .ok (.iload_n 3, 1) := by decide +kernel
theorem dX9_told_58 : decode cX9_told 58 = .ok (.iconst 1, 1) := by decide +kernel
theorem dX9_told_59 : decode cX9_told 59 = .ok (.iadd, 1) := by decide +kernel
theorem dX9_told_60 : decode cX9_told 60 = .ok (.istore 5, 2) := by decide +kernel
theorem dX9_told_62 : decode cX9_told 62 = .ok (.iload 5, 2) := by decide +kernel
theorem dX9_told_64 : decode cX9_told 64 = .ok (.iload 4, 2) := by decide +kernel
theorem dX9_told_66 : decode cX9_told 66 = .ok (.if_icmp .ge 27, 3) := by decide +kernel
theorem dX9_told_69 : decode cX9_told 69 = .ok (.aload_n 0, 1) := by decide +kernel
theorem dX9_told_70 : decode cX9_told 70 = .ok (.aload_n 0, 1) := by decide +kernel
theorem dX9_told_71 : decode cX9_told 71 = .ok (.getfield 43, 3) := by decide +kernel
theorem dX9_told_74 : decode cX9_told 74 = .ok (.iload 5, 2) := by decide +kernel
theorem dX9_told_76 : decode cX9_told 76 = .ok (.iaload, 1) := by decide +kernel
theorem dX9_told_77 : decode cX9_told 77 = .ok (.iload_n 2, 1) := by decide +kernel
theorem dX9_told_78 : decode cX9_told 78 = .ok (.invokevirtual 261, 3) := by decide +kernel
theorem dX9_told_81 : decode cX9_told 81 = .ok (.ifCond .eq 6, 3) := by decide +kernel
theorem dX9_told_84 : decode cX9_told 84 = .ok (.bipush (-4), 2) := by decide +kernel
theorem dX9_told_86 : decode cX9_told 86 = .ok (.ireturn, 1) := by decide +kernel
theorem dX9_told_87 : decode cX9_told 87 = .ok (.iinc 5 1, 3) := by decide +kernel
theorem dX9_told_90 : decode cX9_told 90 = .ok (.goto (-28), 3) := by decide +kernel
theorem dX9_told_93 : decode cX9_told 93 = .ok (.iconst 0, 1) := by decide +kernel
theorem dX9_told_94 : decode cX9_told 94 = .ok (.ireturn, 1) := by decide +kernel
set_option maxRecDepth 20000 in
theorem ggX9_judge_X9_layRow : GoodIn wsX9_judge wsX9_layRow := goodIn_r _ [8, 9, 10, 11, 12, 13, 7, 14, 15, 16, 17, 18, 3, 19, 20, 21, 22, 23, 24, 25, 26, 27, 28, 29, 30, 31, 32, 33, 34, 35, 36, 37, 38, 39, 40, 41, 42, 43, 44, 45, 46, 47, 48, 49, 50, 51, 52, 53, 54, 55, 56, 57, 58, 59, 60, 61, 62, 63, 64, 65, 66, 67, 68, 69, 70, 71, 72] (by decide +kernel) (by decide +kernel)
set_option maxRecDepth 20000 in
theorem gX9_judge_X9_layRow : GoodIn wsX9_judge (wsV RX9 220 RX9 yX9_layRow wsX9_layRow) := goodIn_app (goodIn_of _ (by decide +kernel)) ggX9_judge_X9_layRow
theorem dX9_judge_0 : decode cX9_judge 0 = .ok (.iconst 0, 1) := by decide +kernel
theorem dX9_judge_1 : decode cX9_judge 1 = .ok (.istore_n 1, 1) := by decide +kernel
theorem dX9_judge_2 : decode cX9_judge 2 = .ok (.iconst 0, 1) := by decide +kernel
theorem dX9_judge_3 : decode cX9_judge 3 = .ok (.istore_n 2, 1) := by decide +kernel
theorem dX9_judge_4 : decode cX9_judge 4 = .ok (.iload_n 2, 1) := by decide +kernel
theorem dX9_judge_5 : decode cX9_judge 5 = .ok (.aload_n 0, 1) := by decide +kernel
theorem dX9_judge_6 : decode cX9_judge 6 = .ok (.getfield 142, 3) := by decide +kernel
theorem dX9_judge_9 : decode cX9_judge 9 = .ok (.if_icmp .ge 20, 3) := by decide +kernel
theorem dX9_judge_12 : decode cX9_judge 12 = .ok (.iload_n 1, 1) := by decide +kernel
theorem dX9_judge_13 : decode cX9_judge 13 = .ok (.iconst 1, 1) := by decide +kernel
theorem dX9_judge_14 : decode cX9_judge 14 = .ok (.aload_n 0, 1) := by decide +kernel
theorem dX9_judge_15 : decode cX9_judge 15 = .ok (.getfield 43, 3) := by decide +kernel
theorem dX9_judge_18 : decode cX9_judge 18 = .ok (.iload_n 2, 1) := by decide +kernel
theorem dX9_judge_19 : decode cX9_judge 19 = .ok (.iaload, 1) := by decide +kernel
theorem dX9_judge_20 : decode cX9_judge 20 = .ok (.ishl, 1) := by decide +kernel
theorem dX9_judge_21 : decode cX9_judge 21 = .ok (.ior, 1) := by decide +kernel
theorem dX9_judge_22 : decode cX9_judge 22 = .ok (.istore_n 1, 1) := by decide +kernel
theorem dX9_judge_23 : decode cX9_judge 23 = .ok (.iinc 2 1, 3) := by decide +kernel
theorem dX9_judge_26 : decode cX9_judge 26 = .ok (.goto (-22), 3) := by decide +kernel
theorem dX9_judge_29 : decode cX9_judge 29 = .ok (.aload_n 0, 1) := by decide +kernel
theorem dX9_judge_30 : decode cX9_judge 30 = .ok (.iload_n 1, 1) := by decide +kernel
theorem dX9_judge_31 : decode cX9_judge 31 = .ok (.invokevirtual 220, 3) := by decide +kernel
theorem dX9_judge_34 : decode cX9_judge 34 = .ok (.iconst 0, 1) := by decide +kernel
theorem dX9_judge_35 : decode cX9_judge 35 = .ok (.istore_n 2, 1) := by decide +kernel
theorem dX9_judge_36 : decode cX9_judge 36 = .ok (.iload_n 2, 1) := by decide +kernel
theorem dX9_judge_37 : decode cX9_judge 37 = .ok (.aload_n 0, 1) := by decide +kernel
theorem dX9_judge_38 : decode cX9_judge 38 = .ok (.getfield 142, 3) := by decide +kernel
theorem dX9_judge_41 : decode cX9_judge 41 = .ok (.if_icmp .ge 26, 3) := by decide +kernel
theorem dX9_judge_44 : decode cX9_judge 44 = .ok (.aload_n 0, 1) := by decide +kernel
theorem dX9_judge_45 : decode cX9_judge 45 = .ok (.getfield 25, 3) := by decide +kernel
theorem dX9_judge_48 : decode cX9_judge 48 = .ok (.iload_n 2, 1) := by decide +kernel
theorem dX9_judge_49 : decode cX9_judge 49 = .ok (.iaload, 1) := by decide +kernel
theorem dX9_judge_50 : decode cX9_judge 50 = .ok (.aload_n 0, 1) := by decide +kernel
theorem dX9_judge_51 : decode cX9_judge 51 = .ok (.getfield 43, 3) := by decide +kernel
theorem dX9_judge_54 : decode cX9_judge 54 = .ok (.iload_n 2, 1) := by decide +kernel
theorem dX9_judge_55 : decode cX9_judge 55 = .ok (.iaload, 1) := by decide +kernel
theorem dX9_judge_56 : decode cX9_judge 56 = .ok (.if_icmp .eq 5, 3) := by decide +kernel
theorem dX9_judge_59 : decode cX9_judge 59 = .ok (.iload_n 2, 1) := by decide +kernel
theorem dX9_judge_60 : decode cX9_judge 60 = .ok (.ireturn, 1) := by decide +kernel
theorem dX9_judge_61 : decode cX9_judge 61 = .ok (.iinc 2 1, 3) := by decide +kernel
theorem dX9_judge_64 : decode cX9_judge 64 = .ok (.goto (-28), 3) := by decide +kernel
theorem dX9_judge_67 : decode cX9_judge 67 = .ok (.bipush (-4), 2) := by decide +kernel
theorem dX9_judge_69 : decode cX9_judge 69 = .ok (.ireturn, 1) := by decide +kernel
set_option maxRecDepth 20000 in
theorem ggX9_day_X9_in : GoodIn wsX9_day wsX9_in := goodIn_r _ [7] (by decide +kernel) (by decide +kernel)
set_option maxRecDepth 20000 in
theorem gX9_day_X9_in : GoodIn wsX9_day (va_wsS RX9 63 yX9_in wsX9_in) := goodIn_app (goodIn_of _ (by decide +kernel)) ggX9_day_X9_in
set_option maxRecDepth 20000 in
theorem ggX9_day_X9_copies : GoodIn wsX9_day wsX9_copies := goodIn_r _ [11, 3, 60, 61, 62, 63, 64, 65, 66, 67, 68, 69, 70, 71, 72, 73, 74, 75, 76, 77, 78, 79, 80, 81, 82, 83, 84, 85, 86, 87, 88, 89, 90, 91, 92, 93] (by decide +kernel) (by decide +kernel)
set_option maxRecDepth 20000 in
theorem gX9_day_X9_copies : GoodIn wsX9_day (wsV RX9 200 RX9 yX9_copies wsX9_copies) := goodIn_app (goodIn_of _ (by decide +kernel)) ggX9_day_X9_copies
set_option maxRecDepth 20000 in
theorem ggX9_day_X9_many : GoodIn wsX9_day wsX9_many := goodIn_r _ [15, 3, 60, 61, 62, 63, 64, 65, 66, 67, 68, 69, 70, 71, 72, 73, 74, 75, 76, 77, 78, 79, 80, 81, 82, 83, 84, 85, 86, 87, 88, 89, 90, 91, 92, 93] (by decide +kernel) (by decide +kernel)
set_option maxRecDepth 20000 in
theorem gX9_day_X9_many : GoodIn wsX9_day (wsV RX9 145 RX9 yX9_many wsX9_many) := goodIn_app (goodIn_of _ (by decide +kernel)) ggX9_day_X9_many
set_option maxRecDepth 20000 in
theorem ggX9_day_X9_runsTo : GoodIn wsX9_day wsX9_runsTo := goodIn_r _ [19, 20, 21, 22, 23, 3, 24, 25, 26, 6, 27, 28, 29, 30, 31, 32, 33, 34, 35, 36, 37, 38, 39, 40, 41, 42, 43, 44, 45, 46, 47, 48, 49, 50, 51, 60, 61, 62, 63, 64, 65, 66, 67, 68, 69, 70, 71, 72, 73, 74, 75, 76, 77, 78, 79, 80, 81, 82, 83, 84, 85, 86, 87, 88, 89, 90, 91, 92, 93] (by decide +kernel) (by decide +kernel)
set_option maxRecDepth 20000 in
theorem gX9_day_X9_runsTo : GoodIn wsX9_day (wsV RX9 204 RX9 yX9_runsTo wsX9_runsTo) := goodIn_app (goodIn_of _ (by decide +kernel)) ggX9_day_X9_runsTo
set_option maxRecDepth 20000 in
theorem ggX9_day_X9_allOf : GoodIn wsX9_day wsX9_allOf := goodIn_r _ [55, 3, 23, 21, 12, 13, 14, 6, 15, 56, 57, 58, 59, 60, 61, 62, 63, 64, 65, 66, 67, 68, 69, 70, 71, 72, 73, 74, 75, 76, 77, 78, 79, 80, 81, 82, 83, 84, 85, 86, 87, 88, 89, 90, 91, 92, 93] (by decide +kernel) (by decide +kernel)
set_option maxRecDepth 20000 in
theorem gX9_day_X9_allOf : GoodIn wsX9_day (wsV RX9 217 RX9 yX9_allOf wsX9_allOf) := goodIn_app (goodIn_of _ (by decide +kernel)) ggX9_day_X9_allOf
theorem dX9_day_0 : decode cX9_day 0 = .ok (.iload_n 2, 1) := by decide +kernel
theorem dX9_day_1 : decode cX9_day 1 = .ok (.i2l, 1) := by decide +kernel
theorem dX9_day_2 : decode cX9_day 2 = .ok (.lconst 0, 1) := by decide +kernel
theorem dX9_day_3 : decode cX9_day 3 = .ok (.ldc2_w 121, 3) := by decide +kernel
theorem dX9_day_6 : decode cX9_day 6 = .ok (.invokestatic 63, 3) := by decide +kernel
theorem dX9_day_9 : decode cX9_day 9 = .ok (.ifCond .ne 5, 3) := by decide +kernel
theorem dX9_day_12 : decode cX9_day 12 = .ok (.iconst (-1), 1) := by decide +kernel
theorem dX9_day_13 : decode cX9_day 13 = .ok (.ireturn, 1) := by decide +kernel
theorem dX9_day_14 : decode cX9_day 14 = .ok (.aload_n 0, 1) := by decide +kernel
theorem dX9_day_15 : decode cX9_day 15 = .ok (.iconst 0, 1) := by decide +kernel
theorem dX9_day_16 : decode cX9_day 16 = .ok (.sipush 282, 3) := by decide +kernel
theorem dX9_day_19 : decode cX9_day 19 = .ok (.invokevirtual 200, 3) := by decide +kernel
theorem dX9_day_22 : decode cX9_day 22 = .ok (.iload_n 1, 1) := by decide +kernel
theorem dX9_day_23 : decode cX9_day 23 = .ok (.istore_n 3, 1) := by decide +kernel
theorem dX9_day_24 : decode cX9_day 24 = .ok (.iconst 0, 1) := by decide +kernel
theorem dX9_day_25 : decode cX9_day 25 = .ok (.istore 4, 2) := by decide +kernel
theorem dX9_day_27 : decode cX9_day 27 = .ok (.iload 4, 2) := by decide +kernel
theorem dX9_day_29 : decode cX9_day 29 = .ok (.aload_n 0, 1) := by decide +kernel
theorem dX9_day_30 : decode cX9_day 30 = .ok (.invokevirtual 145, 3) := by decide +kernel
theorem dX9_day_33 : decode cX9_day 33 = .ok (.if_icmp .ge 46, 3) := by decide +kernel
theorem dX9_day_36 : decode cX9_day 36 = .ok (.iload_n 3, 1) := by decide +kernel
theorem dX9_day_37 : decode cX9_day 37 = .ok (.ldc_w 264, 3) := by decide +kernel
theorem dX9_day_40 : decode cX9_day 40 = .ok (.imul, 1) := by decide +kernel
theorem dX9_day_41 : decode cX9_day 41 = .ok (.sipush 12345, 3) := by decide +kernel
theorem dX9_day_44 : decode cX9_day 44 = .ok (.iadd, 1) := by decide +kernel
theorem dX9_day_45 : decode cX9_day 45 = .ok (.istore_n 3, 1) := by decide +kernel
theorem dX9_day_46 : decode cX9_day 46 = .ok (.aload_n 0, 1) := by decide +kernel
theorem dX9_day_47 : decode cX9_day 47 = .ok (.getfield 7, 3) := by decide +kernel
theorem dX9_day_50 : decode cX9_day 50 = .ok (.sipush 282, 3) := by decide +kernel
theorem dX9_day_53 : decode cX9_day 53 = .ok (.bipush 6, 2) := by decide +kernel
theorem dX9_day_55 : decode cX9_day 55 = .ok (.iload 4, 2) := by decide +kernel
theorem dX9_day_57 : decode cX9_day 57 = .ok (.imul, 1) := by decide +kernel
theorem dX9_day_58 : decode cX9_day 58 = .ok (.iadd, 1) := by decide +kernel
theorem dX9_day_59 : decode cX9_day 59 = .ok (.iconst 1, 1) := by decide +kernel
theorem dX9_day_60 : decode cX9_day 60 = .ok (.iadd, 1) := by decide +kernel
theorem dX9_day_61 : decode cX9_day 61 = .ok (.iload_n 3, 1) := by decide +kernel
theorem dX9_day_62 : decode cX9_day 62 = .ok (.bipush 16, 2) := by decide +kernel
theorem dX9_day_64 : decode cX9_day 64 = .ok (.ishr, 1) := by decide +kernel
theorem dX9_day_65 : decode cX9_day 65 = .ok (.sipush 32767, 3) := by decide +kernel
theorem dX9_day_68 : decode cX9_day 68 = .ok (.iand, 1) := by decide +kernel
theorem dX9_day_69 : decode cX9_day 69 = .ok (.bipush 61, 2) := by decide +kernel
theorem dX9_day_71 : decode cX9_day 71 = .ok (.irem, 1) := by decide +kernel
theorem dX9_day_72 : decode cX9_day 72 = .ok (.iastore, 1) := by decide +kernel
theorem dX9_day_73 : decode cX9_day 73 = .ok (.iinc 4 1, 3) := by decide +kernel
theorem dX9_day_76 : decode cX9_day 76 = .ok (.goto (-49), 3) := by decide +kernel
theorem dX9_day_79 : decode cX9_day 79 = .ok (.aload_n 0, 1) := by decide +kernel
theorem dX9_day_80 : decode cX9_day 80 = .ok (.sipush 130, 3) := by decide +kernel
theorem dX9_day_83 : decode cX9_day 83 = .ok (.invokevirtual 204, 3) := by decide +kernel
theorem dX9_day_86 : decode cX9_day 86 = .ok (.aload_n 0, 1) := by decide +kernel
theorem dX9_day_87 : decode cX9_day 87 = .ok (.iload_n 2, 1) := by decide +kernel
theorem dX9_day_88 : decode cX9_day 88 = .ok (.invokevirtual 217, 3) := by decide +kernel
theorem dX9_day_91 : decode cX9_day 91 = .ok (.ireturn, 1) := by decide +kernel
set_option maxRecDepth 20000 in
theorem ggX9_keep_X9_in : GoodIn wsX9_keep wsX9_in := goodIn_r _ [5] (by decide +kernel) (by decide +kernel)
set_option maxRecDepth 20000 in
theorem gX9_keep_X9_in : GoodIn wsX9_keep (va_wsS RX9 63 yX9_in wsX9_in) := goodIn_app (goodIn_of _ (by decide +kernel)) ggX9_keep_X9_in
set_option maxRecDepth 20000 in
theorem ggX9_keep_X9_copies : GoodIn wsX9_keep wsX9_copies := goodIn_r _ [9, 10, 11, 12, 13, 14, 15, 16, 17, 18, 19, 20, 21, 22, 23, 24, 25, 26, 27, 28, 29, 30, 31, 32, 33, 34, 35, 36, 37, 38, 39, 40, 41, 42, 43, 44] (by decide +kernel) (by decide +kernel)
set_option maxRecDepth 20000 in
theorem gX9_keep_X9_copies : GoodIn wsX9_keep (wsV RX9 200 RX9 yX9_copies wsX9_copies) := goodIn_app (goodIn_of _ (by decide +kernel)) ggX9_keep_X9_copies
theorem dX9_keep_0 : decode cX9_keep 0 = .ok (.iload_n 1, 1) := by decide +kernel
theorem dX9_keep_1 : decode cX9_keep 1 = .ok (.i2l, 1) := by decide +kernel
theorem dX9_keep_2 : decode cX9_keep 2 = .ok (.lconst 0, 1) := by decide +kernel
theorem dX9_keep_3 : decode cX9_keep 3 = .ok (.lconst 1, 1) := by decide +kernel
theorem dX9_keep_4 : decode cX9_keep 4 = .ok (.invokestatic 63, 3) := by decide +kernel
theorem dX9_keep_7 : decode cX9_keep 7 = .ok (.ifCond .ne 5, 3) := by decide +kernel
theorem dX9_keep_10 : decode cX9_keep 10 = .ok (.iconst (-1), 1) := by decide +kernel
theorem dX9_keep_11 : decode cX9_keep 11 = .ok (.ireturn, 1) := by decide +kernel
theorem dX9_keep_12 : decode cX9_keep 12 = .ok (.aload_n 0, 1) := by decide +kernel
theorem dX9_keep_13 : decode cX9_keep 13 = .ok (.iconst 0, 1) := by decide +kernel
theorem dX9_keep_14 : decode cX9_keep 14 = .ok (.bipush 94, 2) := by decide +kernel
theorem dX9_keep_16 : decode cX9_keep 16 = .ok (.iload_n 1, 1) := by decide +kernel
theorem dX9_keep_17 : decode cX9_keep 17 = .ok (.iconst 1, 1) := by decide +kernel
theorem dX9_keep_18 : decode cX9_keep 18 = .ok (.iadd, 1) := by decide +kernel
theorem dX9_keep_19 : decode cX9_keep 19 = .ok (.imul, 1) := by decide +kernel
theorem dX9_keep_20 : decode cX9_keep 20 = .ok (.invokevirtual 200, 3) := by decide +kernel
theorem dX9_keep_23 : decode cX9_keep 23 = .ok (.aload_n 0, 1) := by decide +kernel
theorem dX9_keep_24 : decode cX9_keep 24 = .ok (.getfield 46, 3) := by decide +kernel
theorem dX9_keep_27 : decode cX9_keep 27 = .ok (.iload_n 1, 1) := by decide +kernel
theorem dX9_keep_28 : decode cX9_keep 28 = .ok (.baload, 1) := by decide +kernel
theorem dX9_keep_29 : decode cX9_keep 29 = .ok (.ifCond .eq 7, 3) := by decide +kernel
theorem dX9_keep_32 : decode cX9_keep 32 = .ok (.iconst 1, 1) := by decide +kernel
theorem dX9_keep_33 : decode cX9_keep 33 = .ok (.goto 4, 3) := by decide +kernel
theorem dX9_keep_36 : decode cX9_keep 36 = .ok (.iconst 0, 1) := by decide +kernel
theorem dX9_keep_37 : decode cX9_keep 37 = .ok (.istore_n 2, 1) := by decide +kernel
theorem dX9_keep_38 : decode cX9_keep 38 = .ok (.aload_n 0, 1) := by decide +kernel
theorem dX9_keep_39 : decode cX9_keep 39 = .ok (.getfield 46, 3) := by decide +kernel
theorem dX9_keep_42 : decode cX9_keep 42 = .ok (.iload_n 1, 1) := by decide +kernel
theorem dX9_keep_43 : decode cX9_keep 43 = .ok (.iconst 1, 1) := by decide +kernel
theorem dX9_keep_44 : decode cX9_keep 44 = .ok (.bastore, 1) := by decide +kernel
theorem dX9_keep_45 : decode cX9_keep 45 = .ok (.iload_n 2, 1) := by decide +kernel
theorem dX9_keep_46 : decode cX9_keep 46 = .ok (.ireturn, 1) := by decide +kernel
set_option maxRecDepth 20000 in
theorem ggX9_back_X9_in : GoodIn wsX9_back wsX9_in := goodIn_r _ [5] (by decide +kernel) (by decide +kernel)
set_option maxRecDepth 20000 in
theorem gX9_back_X9_in : GoodIn wsX9_back (va_wsS RX9 63 yX9_in wsX9_in) := goodIn_app (goodIn_of _ (by decide +kernel)) ggX9_back_X9_in
set_option maxRecDepth 20000 in
theorem ggX9_back_X9_copies : GoodIn wsX9_back wsX9_copies := goodIn_r _ [9, 10, 15, 16, 17, 18, 19, 20, 21, 22, 23, 24, 25, 26, 27, 28, 29, 30, 31, 32, 33, 34, 35, 36, 37, 38, 39, 40, 41, 42, 43, 44, 45, 46, 47, 48] (by decide +kernel) (by decide +kernel)
set_option maxRecDepth 20000 in
theorem gX9_back_X9_copies : GoodIn wsX9_back (wsV RX9 200 RX9 yX9_copies wsX9_copies) := goodIn_app (goodIn_of _ (by decide +kernel)) ggX9_back_X9_copies
set_option maxRecDepth 20000 in
theorem ggX9_back_X9_many : GoodIn wsX9_back wsX9_many := goodIn_r _ [14, 10, 15, 16, 17, 18, 19, 20, 21, 22, 23, 24, 25, 26, 27, 28, 29, 30, 31, 32, 33, 34, 35, 36, 37, 38, 39, 40, 41, 42, 43, 44, 45, 46, 47, 48] (by decide +kernel) (by decide +kernel)
set_option maxRecDepth 20000 in
theorem gX9_back_X9_many : GoodIn wsX9_back (wsV RX9 145 RX9 yX9_many wsX9_many) := goodIn_app (goodIn_of _ (by decide +kernel)) ggX9_back_X9_many
theorem dX9_back_0 : decode cX9_back 0 = .ok (.iload_n 1, 1) := by decide +kernel
theorem dX9_back_1 : decode cX9_back 1 = .ok (.i2l, 1) := by decide +kernel
theorem dX9_back_2 : decode cX9_back 2 = .ok (.lconst 0, 1) := by decide +kernel
theorem dX9_back_3 : decode cX9_back 3 = .ok (.lconst 1, 1) := by decide +kernel
theorem dX9_back_4 : decode cX9_back 4 = .ok (.invokestatic 63, 3) := by decide +kernel
theorem dX9_back_7 : decode cX9_back 7 = .ok (.ifCond .ne 5, 3) := by decide +kernel
theorem dX9_back_10 : decode cX9_back 10 = .ok (.iconst (-1), 1) := by decide +kernel
theorem dX9_back_11 : decode cX9_back 11 = .ok (.ireturn, 1) := by decide +kernel
theorem dX9_back_12 : decode cX9_back 12 = .ok (.aload_n 0, 1) := by decide +kernel
theorem dX9_back_13 : decode cX9_back 13 = .ok (.getfield 46, 3) := by decide +kernel
theorem dX9_back_16 : decode cX9_back 16 = .ok (.iload_n 1, 1) := by decide +kernel
theorem dX9_back_17 : decode cX9_back 17 = .ok (.baload, 1) := by decide +kernel
theorem dX9_back_18 : decode cX9_back 18 = .ok (.ifCond .ne 6, 3) := by decide +kernel
theorem dX9_back_21 : decode cX9_back 21 = .ok (.bipush (-2), 2) := by decide +kernel
theorem dX9_back_23 : decode cX9_back 23 = .ok (.ireturn, 1) := by decide +kernel
theorem dX9_back_24 : decode cX9_back 24 = .ok (.aload_n 0, 1) := by decide +kernel
theorem dX9_back_25 : decode cX9_back 25 = .ok (.bipush 94, 2) := by decide +kernel
theorem dX9_back_27 : decode cX9_back 27 = .ok (.iload_n 1, 1) := by decide +kernel
theorem dX9_back_28 : decode cX9_back 28 = .ok (.iconst 1, 1) := by decide +kernel
theorem dX9_back_29 : decode cX9_back 29 = .ok (.iadd, 1) := by decide +kernel
theorem dX9_back_30 : decode cX9_back 30 = .ok (.imul, 1) := by decide +kernel
theorem dX9_back_31 : decode cX9_back 31 = .ok (.iconst 0, 1) := by decide +kernel
theorem dX9_back_32 : decode cX9_back 32 = .ok (.invokevirtual 200, 3) := by decide +kernel
theorem dX9_back_35 : decode cX9_back 35 = .ok (.aload_n 0, 1) := by decide +kernel
theorem dX9_back_36 : decode cX9_back 36 = .ok (.invokevirtual 145, 3) := by decide +kernel
theorem dX9_back_39 : decode cX9_back 39 = .ok (.ireturn, 1) := by decide +kernel
set_option maxRecDepth 20000 in
theorem ggX9_sheet_X9_in : GoodIn wsX9_sheet wsX9_in := goodIn_r _ [9] (by decide +kernel) (by decide +kernel)
set_option maxRecDepth 20000 in
theorem gX9_sheet_X9_in : GoodIn wsX9_sheet (va_wsS RX9 63 yX9_in wsX9_in) := goodIn_app (goodIn_of _ (by decide +kernel)) ggX9_sheet_X9_in
theorem dX9_sheet_0 : decode cX9_sheet 0 = .ok (.iload_n 1, 1) := by decide +kernel
theorem dX9_sheet_1 : decode cX9_sheet 1 = .ok (.i2l, 1) := by decide +kernel
theorem dX9_sheet_2 : decode cX9_sheet 2 = .ok (.lconst 0, 1) := by decide +kernel
theorem dX9_sheet_3 : decode cX9_sheet 3 = .ok (.ldc2_w 121, 3) := by decide +kernel
theorem dX9_sheet_6 : decode cX9_sheet 6 = .ok (.invokestatic 63, 3) := by decide +kernel
theorem dX9_sheet_9 : decode cX9_sheet 9 = .ok (.ifCond .eq 21, 3) := by decide +kernel
theorem dX9_sheet_12 : decode cX9_sheet 12 = .ok (.iload_n 2, 1) := by decide +kernel
theorem dX9_sheet_13 : decode cX9_sheet 13 = .ok (.i2l, 1) := by decide +kernel
theorem dX9_sheet_14 : decode cX9_sheet 14 = .ok (.lconst 0, 1) := by decide +kernel
theorem dX9_sheet_15 : decode cX9_sheet 15 = .ok (.ldc2_w 169, 3) := by decide +kernel
theorem dX9_sheet_18 : decode cX9_sheet 18 = .ok (.invokestatic 63, 3) := by decide +kernel
theorem dX9_sheet_21 : decode cX9_sheet 21 = .ok (.ifCond .eq 9, 3) := by decide +kernel
theorem dX9_sheet_24 : decode cX9_sheet 24 = .ok (.iload_n 3, 1) := by decide +kernel
theorem dX9_sheet_25 : decode cX9_sheet 25 = .ok (.bipush 40, 2) := by decide +kernel
theorem dX9_sheet_27 : decode cX9_sheet 27 = .ok (.if_icmp .le 5, 3) := by decide +kernel
theorem dX9_sheet_30 : decode cX9_sheet 30 = .ok (.iconst (-1), 1) := by decide +kernel
theorem dX9_sheet_31 : decode cX9_sheet 31 = .ok (.ireturn, 1) := by decide +kernel
theorem dX9_sheet_32 : decode cX9_sheet 32 = .ok (.iload_n 3, 1) := by decide +kernel
theorem dX9_sheet_33 : decode cX9_sheet 33 = .ok (.ifCond .ge 6, 3) := by decide +kernel
theorem dX9_sheet_36 : decode cX9_sheet 36 = .ok (.bipush (-14), 2) := by decide +kernel
theorem dX9_sheet_38 : decode cX9_sheet 38 = .ok (.ireturn, 1) := by decide +kernel
theorem dX9_sheet_39 : decode cX9_sheet 39 = .ok (.aload_n 0, 1) := by decide +kernel
theorem dX9_sheet_40 : decode cX9_sheet 40 = .ok (.getfield 50, 3) := by decide +kernel
theorem dX9_sheet_43 : decode cX9_sheet 43 = .ok (.iload_n 1, 1) := by decide +kernel
theorem dX9_sheet_44 : decode cX9_sheet 44 = .ok (.iload_n 2, 1) := by decide +kernel
theorem dX9_sheet_45 : decode cX9_sheet 45 = .ok (.iastore, 1) := by decide +kernel
theorem dX9_sheet_46 : decode cX9_sheet 46 = .ok (.aload_n 0, 1) := by decide +kernel
theorem dX9_sheet_47 : decode cX9_sheet 47 = .ok (.getfield 53, 3) := by decide +kernel
theorem dX9_sheet_50 : decode cX9_sheet 50 = .ok (.iload_n 1, 1) := by decide +kernel
theorem dX9_sheet_51 : decode cX9_sheet 51 = .ok (.iload_n 3, 1) := by decide +kernel
theorem dX9_sheet_52 : decode cX9_sheet 52 = .ok (.iastore, 1) := by decide +kernel
theorem dX9_sheet_53 : decode cX9_sheet 53 = .ok (.iconst 0, 1) := by decide +kernel
theorem dX9_sheet_54 : decode cX9_sheet 54 = .ok (.istore 4, 2) := by decide +kernel
theorem dX9_sheet_56 : decode cX9_sheet 56 = .ok (.iload 4, 2) := by decide +kernel
theorem dX9_sheet_58 : decode cX9_sheet 58 = .ok (.bipush 40, 2) := by decide +kernel
theorem dX9_sheet_60 : decode cX9_sheet 60 = .ok (.if_icmp .ge 22, 3) := by decide +kernel
theorem dX9_sheet_63 : decode cX9_sheet 63 = .ok (.aload_n 0, 1) := by decide +kernel
theorem dX9_sheet_64 : decode cX9_sheet 64 = .ok (.getfield 56, 3) := by decide +kernel
theorem dX9_sheet_67 : decode cX9_sheet 67 = .ok (.bipush 40, 2) := by decide +kernel
theorem dX9_sheet_69 : decode cX9_sheet 69 = .ok (.iload_n 1, 1) := by decide +kernel
theorem dX9_sheet_70 : decode cX9_sheet 70 = .ok (.imul, 1) := by decide +kernel
theorem dX9_sheet_71 : decode cX9_sheet 71 = .ok (.iload 4, 2) := by decide +kernel
theorem dX9_sheet_73 : decode cX9_sheet 73 = .ok (.iadd, 1) := by decide +kernel
theorem dX9_sheet_74 : decode cX9_sheet 74 = .ok (.iconst 0, 1) := by decide +kernel
theorem dX9_sheet_75 : decode cX9_sheet 75 = .ok (.iastore, 1) := by decide +kernel
theorem dX9_sheet_76 : decode cX9_sheet 76 = .ok (.iinc 4 1, 3) := by decide +kernel
theorem dX9_sheet_79 : decode cX9_sheet 79 = .ok (.goto (-23), 3) := by decide +kernel
theorem dX9_sheet_82 : decode cX9_sheet 82 = .ok (.iconst 1, 1) := by decide +kernel
theorem dX9_sheet_83 : decode cX9_sheet 83 = .ok (.ireturn, 1) := by decide +kernel
set_option maxRecDepth 20000 in
theorem ggX9_lay_X9_in : GoodIn wsX9_lay wsX9_in := goodIn_r _ [8] (by decide +kernel) (by decide +kernel)
set_option maxRecDepth 20000 in
theorem gX9_lay_X9_in : GoodIn wsX9_lay (va_wsS RX9 63 yX9_in wsX9_in) := goodIn_app (goodIn_of _ (by decide +kernel)) ggX9_lay_X9_in
theorem dX9_lay_0 : decode cX9_lay 0 = .ok (.iload_n 1, 1) := by decide +kernel
theorem dX9_lay_1 : decode cX9_lay 1 = .ok (.i2l, 1) := by decide +kernel
theorem dX9_lay_2 : decode cX9_lay 2 = .ok (.lconst 0, 1) := by decide +kernel
theorem dX9_lay_3 : decode cX9_lay 3 = .ok (.ldc2_w 121, 3) := by decide +kernel
theorem dX9_lay_6 : decode cX9_lay 6 = .ok (.invokestatic 63, 3) := by decide +kernel
theorem dX9_lay_9 : decode cX9_lay 9 = .ok (.ifCond .ne 5, 3) := by decide +kernel
theorem dX9_lay_12 : decode cX9_lay 12 = .ok (.iconst (-1), 1) := by decide +kernel
theorem dX9_lay_13 : decode cX9_lay 13 = .ok (.ireturn, 1) := by decide +kernel
theorem dX9_lay_14 : decode cX9_lay 14 = .ok (.aload_n 0, 1) := by decide +kernel
theorem dX9_lay_15 : decode cX9_lay 15 = .ok (.getfield 50, 3) := by decide +kernel
theorem dX9_lay_18 : decode cX9_lay 18 = .ok (.iload_n 1, 1) := by decide +kernel
theorem dX9_lay_19 : decode cX9_lay 19 = .ok (.iaload, 1) := by decide +kernel
theorem dX9_lay_20 : decode cX9_lay 20 = .ok (.bipush (-4), 2) := by decide +kernel
theorem dX9_lay_22 : decode cX9_lay 22 = .ok (.if_icmp .ne 6, 3) := by decide +kernel
theorem dX9_lay_25 : decode cX9_lay 25 = .ok (.bipush (-11), 2) := by decide +kernel
theorem dX9_lay_27 : decode cX9_lay 27 = .ok (.ireturn, 1) := by decide +kernel
theorem dX9_lay_28 : decode cX9_lay 28 = .ok (.iload_n 2, 1) := by decide +kernel
theorem dX9_lay_29 : decode cX9_lay 29 = .ok (.i2l, 1) := by decide +kernel
theorem dX9_lay_30 : decode cX9_lay 30 = .ok (.lconst 0, 1) := by decide +kernel
theorem dX9_lay_31 : decode cX9_lay 31 = .ok (.aload_n 0, 1) := by decide +kernel
theorem dX9_lay_32 : decode cX9_lay 32 = .ok (.getfield 53, 3) := by decide +kernel
theorem dX9_lay_35 : decode cX9_lay 35 = .ok (.iload_n 1, 1) := by decide +kernel
theorem dX9_lay_36 : decode cX9_lay 36 = .ok (.iaload, 1) := by decide +kernel
theorem dX9_lay_37 : decode cX9_lay 37 = .ok (.iconst 1, 1) := by decide +kernel
theorem dX9_lay_38 : decode cX9_lay 38 = .ok (.isub, 1) := by decide +kernel
theorem dX9_lay_39 : decode cX9_lay 39 = .ok (.i2l, 1) := by decide +kernel
theorem dX9_lay_40 : decode cX9_lay 40 = .ok (.invokestatic 63, 3) := by decide +kernel
theorem dX9_lay_43 : decode cX9_lay 43 = .ok (.ifCond .ne 6, 3) := by decide +kernel
theorem dX9_lay_46 : decode cX9_lay 46 = .ok (.bipush (-12), 2) := by decide +kernel
theorem dX9_lay_48 : decode cX9_lay 48 = .ok (.ireturn, 1) := by decide +kernel
theorem dX9_lay_49 : decode cX9_lay 49 = .ok (.aload_n 0, 1) := by decide +kernel
theorem dX9_lay_50 : decode cX9_lay 50 = .ok (.getfield 56, 3) := by decide +kernel
theorem dX9_lay_53 : decode cX9_lay 53 = .ok (.bipush 40, 2) := by decide +kernel
theorem dX9_lay_55 : decode cX9_lay 55 = .ok (.iload_n 1, 1) := by decide +kernel
theorem dX9_lay_56 : decode cX9_lay 56 = .ok (.imul, 1) := by decide +kernel
theorem dX9_lay_57 : decode cX9_lay 57 = .ok (.iload_n 2, 1) := by decide +kernel
theorem dX9_lay_58 : decode cX9_lay 58 = .ok (.iadd, 1) := by decide +kernel
theorem dX9_lay_59 : decode cX9_lay 59 = .ok (.aload_n 0, 1) := by decide +kernel
theorem dX9_lay_60 : decode cX9_lay 60 = .ok (.getfield 50, 3) := by decide +kernel
theorem dX9_lay_63 : decode cX9_lay 63 = .ok (.iload_n 1, 1) := by decide +kernel
theorem dX9_lay_64 : decode cX9_lay 64 = .ok (.iaload, 1) := by decide +kernel
theorem dX9_lay_65 : decode cX9_lay 65 = .ok (.ifCond .ne 13, 3) := by decide +kernel
theorem dX9_lay_68 : decode cX9_lay 68 = .ok (.iload_n 3, 1) := by decide +kernel
theorem dX9_lay_69 : decode cX9_lay 69 = .ok (.bipush 24, 2) := by decide +kernel
theorem dX9_lay_71 : decode cX9_lay 71 = .ok (.ishl, 1) := by decide +kernel
theorem dX9_lay_72 : decode cX9_lay 72 = .ok (.bipush 24, 2) := by decide +kernel
theorem dX9_lay_74 : decode cX9_lay 74 = .ok (.ishr, 1) := by decide +kernel
theorem dX9_lay_75 : decode cX9_lay 75 = .ok (.goto 24, 3) := by decide +kernel
theorem dX9_lay_78 : decode cX9_lay 78 = .ok (.aload_n 0, 1) := by decide +kernel
theorem dX9_lay_79 : decode cX9_lay 79 = .ok (.getfield 50, 3) := by decide +kernel
theorem dX9_lay_82 : decode cX9_lay 82 = .ok (.iload_n 1, 1) := by decide +kernel
theorem dX9_lay_83 : decode cX9_lay 83 = .ok (.iaload, 1) := by decide +kernel
theorem dX9_lay_84 : decode cX9_lay 84 = .ok (.iconst 1, 1) := by decide +kernel
theorem dX9_lay_85 : decode cX9_lay 85 = .ok (.if_icmp .ne 13, 3) := by decide +kernel
theorem dX9_lay_88 : decode cX9_lay 88 = .ok (.iload_n 3, 1) := by decide +kernel
theorem dX9_lay_89 : decode cX9_lay 89 = .ok (.bipush 16, 2) := by decide +kernel
theorem dX9_lay_91 : decode cX9_lay 91 = .ok (.ishl, 1) := by decide +kernel
theorem dX9_lay_92 : decode cX9_lay 92 = .ok (.bipush 16, 2) := by decide +kernel
theorem dX9_lay_94 : decode cX9_lay 94 = .ok (.ishr, 1) := by decide +kernel
theorem dX9_lay_95 : decode cX9_lay 95 = .ok (.goto 4, 3) := by decide +kernel
theorem dX9_lay_98 : decode cX9_lay 98 = .ok (.iload_n 3, 1) := by decide +kernel
theorem dX9_lay_99 : decode cX9_lay 99 = .ok (.iastore, 1) := by decide +kernel
theorem dX9_lay_100 : decode cX9_lay 100 = .ok (.iconst 1, 1) := by decide +kernel
theorem dX9_lay_101 : decode cX9_lay 101 = .ok (.ireturn, 1) := by decide +kernel
set_option maxRecDepth 20000 in
theorem ggX9_read_X9_in : GoodIn wsX9_read wsX9_in := goodIn_r _ [11] (by decide +kernel) (by decide +kernel)
set_option maxRecDepth 20000 in
theorem gX9_read_X9_in : GoodIn wsX9_read (va_wsS RX9 63 yX9_in wsX9_in) := goodIn_app (goodIn_of _ (by decide +kernel)) ggX9_read_X9_in
set_option maxRecDepth 20000 in
theorem ggX9_read_X9_copies : GoodIn wsX9_read wsX9_copies := goodIn_r _ [15, 16, 37, 38, 39, 40, 41, 42, 43, 44, 45, 46, 47, 48, 49, 50, 51, 52, 53, 54, 55, 56, 57, 58, 59, 60, 61, 62, 63, 64, 65, 66, 67, 68, 69, 70] (by decide +kernel) (by decide +kernel)
set_option maxRecDepth 20000 in
theorem gX9_read_X9_copies : GoodIn wsX9_read (wsV RX9 200 RX9 yX9_copies wsX9_copies) := goodIn_app (goodIn_of _ (by decide +kernel)) ggX9_read_X9_copies
set_option maxRecDepth 20000 in
theorem ggX9_read_X9_debts : GoodIn wsX9_read wsX9_debts := goodIn_r _ [20, 21, 16, 22, 23, 24, 10, 25, 26, 27, 28, 29, 30, 31, 32, 33, 8, 9, 11, 34, 35, 36, 37, 38, 39, 40, 41, 42, 43, 44, 45, 46, 47, 48, 49, 50, 51, 52, 53, 54, 55, 56, 57, 58, 59, 60, 61, 62, 63, 64, 65, 66, 67, 68, 69, 70] (by decide +kernel) (by decide +kernel)
set_option maxRecDepth 20000 in
theorem gX9_read_X9_debts : GoodIn wsX9_read (wsV RX9 175 RX9 yX9_debts wsX9_debts) := goodIn_app (goodIn_of _ (by decide +kernel)) ggX9_read_X9_debts
theorem dX9_read_0 : decode cX9_read 0 = .ok (.iload_n 1, 1) := by decide +kernel
theorem dX9_read_1 : decode cX9_read 1 = .ok (.i2l, 1) := by decide +kernel
theorem dX9_read_2 : decode cX9_read 2 = .ok (.lconst 0, 1) := by decide +kernel
theorem dX9_read_3 : decode cX9_read 3 = .ok (.ldc2_w 121, 3) := by decide +kernel
theorem dX9_read_6 : decode cX9_read 6 = .ok (.invokestatic 63, 3) := by decide +kernel
theorem dX9_read_9 : decode cX9_read 9 = .ok (.ifCond .eq 28, 3) := by decide +kernel
theorem dX9_read_12 : decode cX9_read 12 = .ok (.iload_n 2, 1) := by decide +kernel
theorem dX9_read_13 : decode cX9_read 13 = .ok (.i2l, 1) := by decide +kernel
theorem dX9_read_14 : decode cX9_read 14 = .ok (.lconst 0, 1) := by decide +kernel
theorem dX9_read_15 : decode cX9_read 15 = .ok (.ldc2_w 169, 3) := by decide +kernel
theorem dX9_read_18 : decode cX9_read 18 = .ok (.invokestatic 63, 3) := by decide +kernel
theorem dX9_read_21 : decode cX9_read 21 = .ok (.ifCond .eq 16, 3) := by decide +kernel
theorem dX9_read_24 : decode cX9_read 24 = .ok (.iload 4, 2) := by decide +kernel
theorem dX9_read_26 : decode cX9_read 26 = .ok (.i2l, 1) := by decide +kernel
theorem dX9_read_27 : decode cX9_read 27 = .ok (.lconst 0, 1) := by decide +kernel
theorem dX9_read_28 : decode cX9_read 28 = .ok (.ldc2_w 265, 3) := by decide +kernel
theorem dX9_read_31 : decode cX9_read 31 = .ok (.invokestatic 63, 3) := by decide +kernel
theorem dX9_read_34 : decode cX9_read 34 = .ok (.ifCond .ne 5, 3) := by decide +kernel
theorem dX9_read_37 : decode cX9_read 37 = .ok (.iconst (-1), 1) := by decide +kernel
theorem dX9_read_38 : decode cX9_read 38 = .ok (.ireturn, 1) := by decide +kernel
theorem dX9_read_39 : decode cX9_read 39 = .ok (.aload_n 0, 1) := by decide +kernel
theorem dX9_read_40 : decode cX9_read 40 = .ok (.iconst 0, 1) := by decide +kernel
theorem dX9_read_41 : decode cX9_read 41 = .ok (.sipush 376, 3) := by decide +kernel
theorem dX9_read_44 : decode cX9_read 44 = .ok (.invokevirtual 200, 3) := by decide +kernel
theorem dX9_read_47 : decode cX9_read 47 = .ok (.iconst 0, 1) := by decide +kernel
theorem dX9_read_48 : decode cX9_read 48 = .ok (.istore 5, 2) := by decide +kernel
theorem dX9_read_50 : decode cX9_read 50 = .ok (.iconst 0, 1) := by decide +kernel
theorem dX9_read_51 : decode cX9_read 51 = .ok (.istore 6, 2) := by decide +kernel
theorem dX9_read_53 : decode cX9_read 53 = .ok (.iconst 0, 1) := by decide +kernel
theorem dX9_read_54 : decode cX9_read 54 = .ok (.istore 7, 2) := by decide +kernel
theorem dX9_read_56 : decode cX9_read 56 = .ok (.iload 7, 2) := by decide +kernel
theorem dX9_read_58 : decode cX9_read 58 = .ok (.iconst 3, 1) := by decide +kernel
theorem dX9_read_59 : decode cX9_read 59 = .ok (.iload 4, 2) := by decide +kernel
theorem dX9_read_61 : decode cX9_read 61 = .ok (.imul, 1) := by decide +kernel
theorem dX9_read_62 : decode cX9_read 62 = .ok (.if_icmp .ge 145, 3) := by decide +kernel
theorem dX9_read_65 : decode cX9_read 65 = .ok (.iload 5, 2) := by decide +kernel
theorem dX9_read_67 : decode cX9_read 67 = .ok (.ifCond .ne 140, 3) := by decide +kernel
theorem dX9_read_70 : decode cX9_read 70 = .ok (.aload_n 0, 1) := by decide +kernel
theorem dX9_read_71 : decode cX9_read 71 = .ok (.getfield 50, 3) := by decide +kernel
theorem dX9_read_74 : decode cX9_read 74 = .ok (.iload_n 1, 1) := by decide +kernel
theorem dX9_read_75 : decode cX9_read 75 = .ok (.iaload, 1) := by decide +kernel
theorem dX9_read_76 : decode cX9_read 76 = .ok (.bipush (-4), 2) := by decide +kernel
theorem dX9_read_78 : decode cX9_read 78 = .ok (.if_icmp .ne 7, 3) := by decide +kernel
theorem dX9_read_81 : decode cX9_read 81 = .ok (.iconst 1, 1) := by decide +kernel
theorem dX9_read_82 : decode cX9_read 82 = .ok (.goto 44, 3) := by decide +kernel
theorem dX9_read_85 : decode cX9_read 85 = .ok (.aload_n 0, 1) := by decide +kernel
theorem dX9_read_86 : decode cX9_read 86 = .ok (.getfield 50, 3) := by decide +kernel
theorem dX9_read_89 : decode cX9_read 89 = .ok (.iload_n 1, 1) := by decide +kernel
theorem dX9_read_90 : decode cX9_read 90 = .ok (.iaload, 1) := by decide +kernel
theorem dX9_read_91 : decode cX9_read 91 = .ok (.iload_n 2, 1) := by decide +kernel
theorem dX9_read_92 : decode cX9_read 92 = .ok (.if_icmp .eq 7, 3) := by decide +kernel
theorem dX9_read_95 : decode cX9_read 95 = .ok (.iconst 3, 1) := by decide +kernel
theorem dX9_read_96 : decode cX9_read 96 = .ok (.goto 30, 3) := by decide +kernel
theorem dX9_read_99 : decode cX9_read 99 = .ok (.iload_n 3, 1) := by decide +kernel
theorem dX9_read_100 : decode cX9_read 100 = .ok (.i2l, 1) := by decide +kernel
theorem dX9_read_101 : decode cX9_read 101 = .ok (.iload 7, 2) := by decide +kernel
theorem dX9_read_103 : decode cX9_read 103 = .ok (.i2l, 1) := by decide +kernel
theorem dX9_read_104 : decode cX9_read 104 = .ok (.ladd, 1) := by decide +kernel
theorem dX9_read_105 : decode cX9_read 105 = .ok (.lconst 0, 1) := by decide +kernel
theorem dX9_read_106 : decode cX9_read 106 = .ok (.aload_n 0, 1) := by decide +kernel
theorem dX9_read_107 : decode cX9_read 107 = .ok (.getfield 53, 3) := by decide +kernel
theorem dX9_read_110 : decode cX9_read 110 = .ok (.iload_n 1, 1) := by decide +kernel
theorem dX9_read_111 : decode cX9_read 111 = .ok (.iaload, 1) := by decide +kernel
theorem dX9_read_112 : decode cX9_read 112 = .ok (.iconst 1, 1) := by decide +kernel
theorem dX9_read_113 : decode cX9_read 113 = .ok (.isub, 1) := by decide +kernel
theorem dX9_read_114 : decode cX9_read 114 = .ok (.i2l, 1) := by decide +kernel
theorem dX9_read_115 : decode cX9_read 115 = .ok (.invokestatic 63, 3) := by decide +kernel
theorem dX9_read_118 : decode cX9_read 118 = .ok (.ifCond .ne 7, 3) := by decide +kernel
theorem dX9_read_121 : decode cX9_read 121 = .ok (.iconst 2, 1) := by decide +kernel
theorem dX9_read_122 : decode cX9_read 122 = .ok (.goto 4, 3) := by decide +kernel
theorem dX9_read_125 : decode cX9_read 125 = .ok (.iconst 0, 1) := by decide +kernel
theorem dX9_read_126 : decode cX9_read 126 = .ok (.istore 5, 2) := by decide +kernel
theorem dX9_read_128 : decode cX9_read 128 = .ok (.iload 5, 2) := by decide +kernel
theorem dX9_read_130 : decode cX9_read 130 = .ok (.ifCond .ne 71, 3) := by decide +kernel
theorem dX9_read_133 : decode cX9_read 133 = .ok (.iload 7, 2) := by decide +kernel
theorem dX9_read_135 : decode cX9_read 135 = .ok (.iconst 3, 1) := by decide +kernel
theorem dX9_read_136 : decode cX9_read 136 = .ok (.irem, 1) := by decide +kernel
theorem dX9_read_137 : decode cX9_read 137 = .ok (.iconst 2, 1) := by decide +kernel
theorem dX9_read_138 : decode cX9_read 138 = .ok (.if_icmp .ne 63, 3) := by decide +kernel
theorem dX9_read_141 : decode cX9_read 141 = .ok (.bipush 40, 2) := by decide +kernel
theorem dX9_read_143 : decode cX9_read 143 = .ok (.iload_n 1, 1) := by decide +kernel
theorem dX9_read_144 : decode cX9_read 144 = .ok (.imul, 1) := by decide +kernel
theorem dX9_read_145 : decode cX9_read 145 = .ok (.iload_n 3, 1) := by decide +kernel
theorem dX9_read_146 : decode cX9_read 146 = .ok (.iadd, 1) := by decide +kernel
theorem dX9_read_147 : decode cX9_read 147 = .ok (.iload 7, 2) := by decide +kernel
theorem dX9_read_149 : decode cX9_read 149 = .ok (.iadd, 1) := by decide +kernel
theorem dX9_read_150 : decode cX9_read 150 = .ok (.istore 8, 2) := by decide +kernel
theorem dX9_read_152 : decode cX9_read 152 = .ok (.aload_n 0, 1) := by decide +kernel
theorem dX9_read_153 : decode cX9_read 153 = .ok (.aload_n 0, 1) := by decide +kernel
theorem dX9_read_154 : decode cX9_read 154 = .ok (.getfield 56, 3) := by decide +kernel
theorem dX9_read_157 : decode cX9_read 157 = .ok (.iload 8, 2) := by decide +kernel
theorem dX9_read_159 : decode cX9_read 159 = .ok (.iconst 2, 1) := by decide +kernel
theorem dX9_read_160 : decode cX9_read 160 = .ok (.isub, 1) := by decide +kernel
theorem dX9_read_161 : decode cX9_read 161 = .ok (.iaload, 1) := by decide +kernel
theorem dX9_read_162 : decode cX9_read 162 = .ok (.aload_n 0, 1) := by decide +kernel
theorem dX9_read_163 : decode cX9_read 163 = .ok (.getfield 56, 3) := by decide +kernel
theorem dX9_read_166 : decode cX9_read 166 = .ok (.iload 8, 2) := by decide +kernel
theorem dX9_read_168 : decode cX9_read 168 = .ok (.iconst 1, 1) := by decide +kernel
theorem dX9_read_169 : decode cX9_read 169 = .ok (.isub, 1) := by decide +kernel
theorem dX9_read_170 : decode cX9_read 170 = .ok (.iaload, 1) := by decide +kernel
theorem dX9_read_171 : decode cX9_read 171 = .ok (.aload_n 0, 1) := by decide +kernel
theorem dX9_read_172 : decode cX9_read 172 = .ok (.getfield 56, 3) := by decide +kernel
theorem dX9_read_175 : decode cX9_read 175 = .ok (.iload 8, 2) := by decide +kernel
theorem dX9_read_177 : decode cX9_read 177 = .ok (.iaload, 1) := by decide +kernel
theorem dX9_read_178 : decode cX9_read 178 = .ok (.invokevirtual 175, 3) := by decide +kernel
theorem dX9_read_181 : decode cX9_read 181 = .ok (.ifCond .ge 17, 3) := by decide +kernel
theorem dX9_read_184 : decode cX9_read 184 = .ok (.aload_n 0, 1) := by decide +kernel
theorem dX9_read_185 : decode cX9_read 185 = .ok (.sipush 376, 3) := by decide +kernel
theorem dX9_read_188 : decode cX9_read 188 = .ok (.iconst 0, 1) := by decide +kernel
theorem dX9_read_189 : decode cX9_read 189 = .ok (.invokevirtual 200, 3) := by decide +kernel
theorem dX9_read_192 : decode cX9_read 192 = .ok (.bipush (-20), 2) := by decide +kernel
theorem dX9_read_194 : decode cX9_read 194 = .ok (.iload 6, 2) := by decide +kernel
theorem dX9_read_196 : decode cX9_read 196 = .ok (.isub, 1) := by decide +kernel
theorem dX9_read_197 : decode cX9_read 197 = .ok (.ireturn, 1) := by decide +kernel
theorem dX9_read_198 : decode cX9_read 198 = .ok (.iinc 6 1, 3) := by decide +kernel
theorem dX9_read_201 : decode cX9_read 201 = .ok (.iinc 7 1, 3) := by decide +kernel
theorem dX9_read_204 : decode cX9_read 204 = .ok (.goto (-148), 3) := by decide +kernel
theorem dX9_read_207 : decode cX9_read 207 = .ok (.aload_n 0, 1) := by decide +kernel
theorem dX9_read_208 : decode cX9_read 208 = .ok (.iload 5, 2) := by decide +kernel
theorem dX9_read_210 : decode cX9_read 210 = .ok (.putfield 267, 3) := by decide +kernel
theorem dX9_read_213 : decode cX9_read 213 = .ok (.iload 6, 2) := by decide +kernel
theorem dX9_read_215 : decode cX9_read 215 = .ok (.ireturn, 1) := by decide +kernel
theorem dX9_torn_0 : decode cX9_torn 0 = .ok (.aload_n 0, 1) := by decide +kernel
theorem dX9_torn_1 : decode cX9_torn 1 = .ok (.getfield 267, 3) := by decide +kernel
theorem dX9_torn_4 : decode cX9_torn 4 = .ok (.ireturn, 1) := by decide +kernel
theorem dX9_count_0 : decode cX9_count 0 = .ok (.iconst 0, 1) := by decide +kernel
theorem dX9_count_1 : decode cX9_count 1 = .ok (.istore_n 2, 1) := by decide +kernel
theorem dX9_count_2 : decode cX9_count 2 = .ok (.iconst 0, 1) := by decide +kernel
theorem dX9_count_3 : decode cX9_count 3 = .ok (.istore_n 3, 1) := by decide +kernel
theorem dX9_count_4 : decode cX9_count 4 = .ok (.iconst 0, 1) := by decide +kernel
theorem dX9_count_5 : decode cX9_count 5 = .ok (.istore 4, 2) := by decide +kernel
theorem dX9_count_7 : decode cX9_count 7 = .ok (.iload 4, 2) := by decide +kernel
theorem dX9_count_9 : decode cX9_count 9 = .ok (.bipush 49, 2) := by decide +kernel
theorem dX9_count_11 : decode cX9_count 11 = .ok (.if_icmp .ge 43, 3) := by decide +kernel
theorem dX9_count_14 : decode cX9_count 14 = .ok (.iload_n 2, 1) := by decide +kernel
theorem dX9_count_15 : decode cX9_count 15 = .ok (.aload_n 0, 1) := by decide +kernel
theorem dX9_count_16 : decode cX9_count 16 = .ok (.getfield 7, 3) := by decide +kernel
theorem dX9_count_19 : decode cX9_count 19 = .ok (.bipush 42, 2) := by decide +kernel
theorem dX9_count_21 : decode cX9_count 21 = .ok (.iload 4, 2) := by decide +kernel
theorem dX9_count_23 : decode cX9_count 23 = .ok (.iadd, 1) := by decide +kernel
theorem dX9_count_24 : decode cX9_count 24 = .ok (.iaload, 1) := by decide +kernel
theorem dX9_count_25 : decode cX9_count 25 = .ok (.ifCond .le 7, 3) := by decide +kernel
theorem dX9_count_28 : decode cX9_count 28 = .ok (.iconst 1, 1) := by decide +kernel
theorem dX9_count_29 : decode cX9_count 29 = .ok (.goto 4, 3) := by decide +kernel
theorem dX9_count_32 : decode cX9_count 32 = .ok (.iconst 0, 1) := by decide +kernel
theorem dX9_count_33 : decode cX9_count 33 = .ok (.iadd, 1) := by decide +kernel
theorem dX9_count_34 : decode cX9_count 34 = .ok (.istore_n 2, 1) := by decide +kernel
theorem dX9_count_35 : decode cX9_count 35 = .ok (.iload_n 3, 1) := by decide +kernel
theorem dX9_count_36 : decode cX9_count 36 = .ok (.aload_n 0, 1) := by decide +kernel
theorem dX9_count_37 : decode cX9_count 37 = .ok (.getfield 7, 3) := by decide +kernel
theorem dX9_count_40 : decode cX9_count 40 = .ok (.bipush 42, 2) := by decide +kernel
theorem dX9_count_42 : decode cX9_count 42 = .ok (.iload 4, 2) := by decide +kernel
theorem dX9_count_44 : decode cX9_count 44 = .ok (.iadd, 1) := by decide +kernel
theorem dX9_count_45 : decode cX9_count 45 = .ok (.iaload, 1) := by decide +kernel
theorem dX9_count_46 : decode cX9_count 46 = .ok (.iadd, 1) := by decide +kernel
theorem dX9_count_47 : decode cX9_count 47 = .ok (.istore_n 3, 1) := by decide +kernel
theorem dX9_count_48 : decode cX9_count 48 = .ok (.iinc 4 1, 3) := by decide +kernel
theorem dX9_count_51 : decode cX9_count 51 = .ok (.goto (-44), 3) := by decide +kernel
theorem dX9_count_54 : decode cX9_count 54 = .ok (.iload_n 1, 1) := by decide +kernel
theorem dX9_count_55 : decode cX9_count 55 = .ok (.tableswitch 104 0 5 #[37, 39, 41, 46, 76, 81], 37) := by decide +kernel
theorem dX9_count_92 : decode cX9_count 92 = .ok (.iload_n 2, 1) := by decide +kernel
theorem dX9_count_93 : decode cX9_count 93 = .ok (.ireturn, 1) := by decide +kernel
theorem dX9_count_94 : decode cX9_count 94 = .ok (.iload_n 3, 1) := by decide +kernel
theorem dX9_count_95 : decode cX9_count 95 = .ok (.ireturn, 1) := by decide +kernel
theorem dX9_count_96 : decode cX9_count 96 = .ok (.aload_n 0, 1) := by decide +kernel
theorem dX9_count_97 : decode cX9_count 97 = .ok (.getfield 142, 3) := by decide +kernel
theorem dX9_count_100 : decode cX9_count 100 = .ok (.ireturn, 1) := by decide +kernel
theorem dX9_count_101 : decode cX9_count 101 = .ok (.aload_n 0, 1) := by decide +kernel
theorem dX9_count_102 : decode cX9_count 102 = .ok (.getfield 46, 3) := by decide +kernel
theorem dX9_count_105 : decode cX9_count 105 = .ok (.iconst 0, 1) := by decide +kernel
theorem dX9_count_106 : decode cX9_count 106 = .ok (.baload, 1) := by decide +kernel
theorem dX9_count_107 : decode cX9_count 107 = .ok (.ifCond .eq 7, 3) := by decide +kernel
theorem dX9_count_110 : decode cX9_count 110 = .ok (.iconst 1, 1) := by decide +kernel
theorem dX9_count_111 : decode cX9_count 111 = .ok (.goto 4, 3) := by decide +kernel
theorem dX9_count_114 : decode cX9_count 114 = .ok (.iconst 0, 1) := by decide +kernel
theorem dX9_count_115 : decode cX9_count 115 = .ok (.aload_n 0, 1) := by decide +kernel
theorem dX9_count_116 : decode cX9_count 116 = .ok (.getfield 46, 3) := by decide +kernel
theorem dX9_count_119 : decode cX9_count 119 = .ok (.iconst 1, 1) := by decide +kernel
theorem dX9_count_120 : decode cX9_count 120 = .ok (.baload, 1) := by decide +kernel
theorem dX9_count_121 : decode cX9_count 121 = .ok (.ifCond .eq 7, 3) := by decide +kernel
theorem dX9_count_124 : decode cX9_count 124 = .ok (.iconst 1, 1) := by decide +kernel
theorem dX9_count_125 : decode cX9_count 125 = .ok (.goto 4, 3) := by decide +kernel
theorem dX9_count_128 : decode cX9_count 128 = .ok (.iconst 0, 1) := by decide +kernel
theorem dX9_count_129 : decode cX9_count 129 = .ok (.iadd, 1) := by decide +kernel
theorem dX9_count_130 : decode cX9_count 130 = .ok (.ireturn, 1) := by decide +kernel
theorem dX9_count_131 : decode cX9_count 131 = .ok (.aload_n 0, 1) := by decide +kernel
theorem dX9_count_132 : decode cX9_count 132 = .ok (.getfield 59, 3) := by decide +kernel
theorem dX9_count_135 : decode cX9_count 135 = .ok (.ireturn, 1) := by decide +kernel
theorem dX9_count_136 : decode cX9_count 136 = .ok (.aload_n 0, 1) := by decide +kernel
theorem dX9_count_137 : decode cX9_count 137 = .ok (.getfield 50, 3) := by decide +kernel
theorem dX9_count_140 : decode cX9_count 140 = .ok (.iconst 0, 1) := by decide +kernel
theorem dX9_count_141 : decode cX9_count 141 = .ok (.iaload, 1) := by decide +kernel
theorem dX9_count_142 : decode cX9_count 142 = .ok (.bipush (-4), 2) := by decide +kernel
theorem dX9_count_144 : decode cX9_count 144 = .ok (.if_icmp .ne 8, 3) := by decide +kernel
theorem dX9_count_147 : decode cX9_count 147 = .ok (.bipush (-4), 2) := by decide +kernel
theorem dX9_count_149 : decode cX9_count 149 = .ok (.goto 9, 3) := by decide +kernel
theorem dX9_count_152 : decode cX9_count 152 = .ok (.aload_n 0, 1) := by decide +kernel
theorem dX9_count_153 : decode cX9_count 153 = .ok (.getfield 53, 3) := by decide +kernel
theorem dX9_count_156 : decode cX9_count 156 = .ok (.iconst 0, 1) := by decide +kernel
theorem dX9_count_157 : decode cX9_count 157 = .ok (.iaload, 1) := by decide +kernel
theorem dX9_count_158 : decode cX9_count 158 = .ok (.ireturn, 1) := by decide +kernel
theorem dX9_count_159 : decode cX9_count 159 = .ok (.iconst (-1), 1) := by decide +kernel
theorem dX9_count_160 : decode cX9_count 160 = .ok (.ireturn, 1) := by decide +kernel
