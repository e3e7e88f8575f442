theorem dX8_read_39 : decode cX8_read 39 = .ok (.iconst 0, 1) := by decide +kernel
theorem dX8_read_40 : decode cX8_read 40 = .ok (.istore 7, 2) := by decide +kernel
theorem dX8_read_42 : decode cX8_read 42 = .ok (.iload 6, 2) := by decide +kernel
theorem dX8_read_44 : decode cX8_read 44 = .ok (.ifCond .ne 84, 3) := by decide +kernel
theorem dX8_read_47 : decode cX8_read 47 = .ok (.iload 7, 2) := by decide +kernel
theorem dX8_read_49 : decode cX8_read 49 = .ok (.iload 4, 2) := by decide +kernel
theorem dX8_read_51 : decode cX8_read 51 = .ok (.if_icmp .ge 77, 3) := by decide +kernel
theorem dX8_read_54 : decode cX8_read 54 = .ok (.iload_n 3, 1) := by decide +kernel
theorem dX8_read_55 : decode cX8_read 55 = .ok (.iconst 3, 1) := by decide +kernel
theorem dX8_read_56 : decode cX8_read 56 = .ok (.iload 7, 2) := by decide +kernel
theorem dX8_read_58 : decode cX8_read 58 = .ok (.imul, 1) := by decide +kernel
theorem dX8_read_59 : decode cX8_read 59 = .ok (.iadd, 1) := by decide +kernel
theorem dX8_read_60 : decode cX8_read 60 = .ok (.istore 8, 2) := by decide +kernel
theorem dX8_read_62 : decode cX8_read 62 = .ok (.aload 5, 2) := by decide +kernel
theorem dX8_read_64 : decode cX8_read 64 = .ok (.iload_n 2, 1) := by decide +kernel
theorem dX8_read_65 : decode cX8_read 65 = .ok (.iload 8, 2) := by decide +kernel
theorem dX8_read_67 : decode cX8_read 67 = .ok (.iconst 3, 1) := by decide +kernel
theorem dX8_read_68 : decode cX8_read 68 = .ok (.invokevirtual 276, 3) := by decide +kernel
theorem dX8_read_71 : decode cX8_read 71 = .ok (.istore 6, 2) := by decide +kernel
theorem dX8_read_73 : decode cX8_read 73 = .ok (.iload 6, 2) := by decide +kernel
theorem dX8_read_75 : decode cX8_read 75 = .ok (.ifCond .ne 50, 3) := by decide +kernel
theorem dX8_read_78 : decode cX8_read 78 = .ok (.aload_n 0, 1) := by decide +kernel
theorem dX8_read_79 : decode cX8_read 79 = .ok (.getfield 24, 3) := by decide +kernel
theorem dX8_read_82 : decode cX8_read 82 = .ok (.aload 5, 2) := by decide +kernel
theorem dX8_read_84 : decode cX8_read 84 = .ok (.getfield 280, 3) := by decide +kernel
theorem dX8_read_87 : decode cX8_read 87 = .ok (.iload 8, 2) := by decide +kernel
theorem dX8_read_89 : decode cX8_read 89 = .ok (.iaload, 1) := by decide +kernel
theorem dX8_read_90 : decode cX8_read 90 = .ok (.aload 5, 2) := by decide +kernel
theorem dX8_read_92 : decode cX8_read 92 = .ok (.getfield 280, 3) := by decide +kernel
theorem dX8_read_95 : decode cX8_read 95 = .ok (.iload 8, 2) := by decide +kernel
theorem dX8_read_97 : decode cX8_read 97 = .ok (.iconst 1, 1) := by decide +kernel
theorem dX8_read_98 : decode cX8_read 98 = .ok (.iadd, 1) := by decide +kernel
theorem dX8_read_99 : decode cX8_read 99 = .ok (.iaload, 1) := by decide +kernel
theorem dX8_read_100 : decode cX8_read 100 = .ok (.aload 5, 2) := by decide +kernel
theorem dX8_read_102 : decode cX8_read 102 = .ok (.getfield 280, 3) := by decide +kernel
theorem dX8_read_105 : decode cX8_read 105 = .ok (.iload 8, 2) := by decide +kernel
theorem dX8_read_107 : decode cX8_read 107 = .ok (.iconst 2, 1) := by decide +kernel
theorem dX8_read_108 : decode cX8_read 108 = .ok (.iadd, 1) := by decide +kernel
theorem dX8_read_109 : decode cX8_read 109 = .ok (.iaload, 1) := by decide +kernel
theorem dX8_read_110 : decode cX8_read 110 = .ok (.invokevirtual 145, 3) := by decide +kernel
theorem dX8_read_113 : decode cX8_read 113 = .ok (.ifCond .ne 9, 3) := by decide +kernel
theorem dX8_read_116 : decode cX8_read 116 = .ok (.bipush (-20), 2) := by decide +kernel
theorem dX8_read_118 : decode cX8_read 118 = .ok (.iload 7, 2) := by decide +kernel
theorem dX8_read_120 : decode cX8_read 120 = .ok (.isub, 1) := by decide +kernel
theorem dX8_read_121 : decode cX8_read 121 = .ok (.ireturn, 1) := by decide +kernel
theorem dX8_read_122 : decode cX8_read 122 = .ok (.iinc 7 1, 3) := by decide +kernel
theorem dX8_read_125 : decode cX8_read 125 = .ok (.goto (-83), 3) := by decide +kernel
theorem dX8_read_128 : decode cX8_read 128 = .ok (.iconst 0, 1) := by decide +kernel
theorem dX8_read_129 : decode cX8_read 129 = .ok (.istore 8, 2) := by decide +kernel
theorem dX8_read_131 : decode cX8_read 131 = .ok (.iload 8, 2) := by decide +kernel
theorem dX8_read_133 : decode cX8_read 133 = .ok (.iload 7, 2) := by decide +kernel
theorem dX8_read_135 : decode cX8_read 135 = .ok (.if_icmp .ge 52, 3) := by decide +kernel
theorem dX8_read_138 : decode cX8_read 138 = .ok (.iload_n 3, 1) := by decide +kernel
theorem dX8_read_139 : decode cX8_read 139 = .ok (.iconst 3, 1) := by decide +kernel
theorem dX8_read_140 : decode cX8_read 140 = .ok (.iload 8, 2) := by decide +kernel
theorem dX8_read_142 : decode cX8_read 142 = .ok (.imul, 1) := by decide +kernel
theorem dX8_read_143 : decode cX8_read 143 = .ok (.iadd, 1) := by decide +kernel
theorem dX8_read_144 : decode cX8_read 144 = .ok (.istore 9, 2) := by decide +kernel
theorem dX8_read_146 : decode cX8_read 146 = .ok (.aload_n 0, 1) := by decide +kernel
theorem dX8_read_147 : decode cX8_read 147 = .ok (.getfield 24, 3) := by decide +kernel
theorem dX8_read_150 : decode cX8_read 150 = .ok (.aload 5, 2) := by decide +kernel
theorem dX8_read_152 : decode cX8_read 152 = .ok (.getfield 280, 3) := by decide +kernel
theorem dX8_read_155 : decode cX8_read 155 = .ok (.iload 9, 2) := by decide +kernel
theorem dX8_read_157 : decode cX8_read 157 = .ok (.iaload, 1) := by decide +kernel
theorem dX8_read_158 : decode cX8_read 158 = .ok (.aload 5, 2) := by decide +kernel
theorem dX8_read_160 : decode cX8_read 160 = .ok (.getfield 280, 3) := by decide +kernel
theorem dX8_read_163 : decode cX8_read 163 = .ok (.iload 9, 2) := by decide +kernel
theorem dX8_read_165 : decode cX8_read 165 = .ok (.iconst 1, 1) := by decide +kernel
theorem dX8_read_166 : decode cX8_read 166 = .ok (.iadd, 1) := by decide +kernel
theorem dX8_read_167 : decode cX8_read 167 = .ok (.iaload, 1) := by decide +kernel
theorem dX8_read_168 : decode cX8_read 168 = .ok (.aload 5, 2) := by decide +kernel
theorem dX8_read_170 : decode cX8_read 170 = .ok (.getfield 280, 3) := by decide +kernel
theorem dX8_read_173 : decode cX8_read 173 = .ok (.iload 9, 2) := by decide +kernel
theorem dX8_read_175 : decode cX8_read 175 = .ok (.iconst 2, 1) := by decide +kernel
theorem dX8_read_176 : decode cX8_read 176 = .ok (.iadd, 1) := by decide +kernel
theorem dX8_read_177 : decode cX8_read 177 = .ok (.iaload, 1) := by decide +kernel
theorem dX8_read_178 : decode cX8_read 178 = .ok (.invokevirtual 149, 3) := by decide +kernel
theorem dX8_read_181 : decode cX8_read 181 = .ok (.iinc 8 1, 3) := by decide +kernel
theorem dX8_read_184 : decode cX8_read 184 = .ok (.goto (-53), 3) := by decide +kernel
theorem dX8_read_187 : decode cX8_read 187 = .ok (.aload_n 0, 1) := by decide +kernel
theorem dX8_read_188 : decode cX8_read 188 = .ok (.iload 6, 2) := by decide +kernel
theorem dX8_read_190 : decode cX8_read 190 = .ok (.putfield 283, 3) := by decide +kernel
theorem dX8_read_193 : decode cX8_read 193 = .ok (.iload 7, 2) := by decide +kernel
theorem dX8_read_195 : decode cX8_read 195 = .ok (.ireturn, 1) := by decide +kernel
theorem dX8_torn_0 : decode cX8_torn 0 = .ok (.aload_n 0, 1) := by decide +kernel
theorem dX8_torn_1 : decode cX8_torn 1 = .ok (.getfield 283, 3) := by decide +kernel
theorem dX8_torn_4 : decode cX8_torn 4 = .ok (.ireturn, 1) := by decide +kernel
set_option maxRecDepth 20000 in
theorem ggX8_count_X7_debtsAboveNothing : GoodIn wsX8_count wsX7_debtsAboveNothing := goodIn_r _ [13, 14, 44, 45, 46, 47, 48, 49, 50, 51, 52, 53] (by decide +kernel) (by decide +kernel)
set_option maxRecDepth 20000 in
theorem gX8_count_X7_debtsAboveNothing : GoodIn wsX8_count (wsV RX8 286 RX7 yX7_debtsAboveNothing wsX7_debtsAboveNothing) := goodIn_app (goodIn_of _ (by decide +kernel)) ggX8_count_X7_debtsAboveNothing
set_option maxRecDepth 20000 in
theorem ggX8_count_X7_debtsSummed : GoodIn wsX8_count wsX7_debtsSummed := goodIn_r _ [18, 14, 44, 45, 46, 47, 48, 49, 50, 51, 52, 53] (by decide +kernel) (by decide +kernel)
set_option maxRecDepth 20000 in
theorem gX8_count_X7_debtsSummed : GoodIn wsX8_count (wsV RX8 289 RX7 yX7_debtsSummed wsX7_debtsSummed) := goodIn_app (goodIn_of _ (by decide +kernel)) ggX8_count_X7_debtsSummed
set_option maxRecDepth 20000 in
theorem ggX8_count_X5_isThere : GoodIn wsX8_count wsX5_isThere := goodIn_r _ [23, 24, 41, 42, 43] (by decide +kernel) (by decide +kernel)
set_option maxRecDepth 20000 in
theorem gX8_count_X5_isThere : GoodIn wsX8_count (wsV RX8 292 RX5 yX5_isThere wsX5_isThere) := goodIn_app (goodIn_of _ (by decide +kernel)) ggX8_count_X5_isThere
theorem dX8_count_0 : decode cX8_count 0 = .ok (.iload_n 1, 1) := by decide +kernel
theorem dX8_count_1 : decode cX8_count 1 = .ok (.tableswitch 128 0 5 #[39, 47, 55, 63, 93, 101], 39) := by decide +kernel
theorem dX8_count_40 : decode cX8_count 40 = .ok (.aload_n 0, 1) := by decide +kernel
theorem dX8_count_41 : decode cX8_count 41 = .ok (.getfield 24, 3) := by decide +kernel
theorem dX8_count_44 : decode cX8_count 44 = .ok (.invokevirtual 286, 3) := by decide +kernel
theorem dX8_count_47 : decode cX8_count 47 = .ok (.ireturn, 1) := by decide +kernel
theorem dX8_count_48 : decode cX8_count 48 = .ok (.aload_n 0, 1) := by decide +kernel
theorem dX8_count_49 : decode cX8_count 49 = .ok (.getfield 24, 3) := by decide +kernel
theorem dX8_count_52 : decode cX8_count 52 = .ok (.invokevirtual 289, 3) := by decide +kernel
theorem dX8_count_55 : decode cX8_count 55 = .ok (.ireturn, 1) := by decide +kernel
theorem dX8_count_56 : decode cX8_count 56 = .ok (.aload_n 0, 1) := by decide +kernel
theorem dX8_count_57 : decode cX8_count 57 = .ok (.getfield 64, 3) := by decide +kernel
theorem dX8_count_60 : decode cX8_count 60 = .ok (.getfield 98, 3) := by decide +kernel
theorem dX8_count_63 : decode cX8_count 63 = .ok (.ireturn, 1) := by decide +kernel
theorem dX8_count_64 : decode cX8_count 64 = .ok (.aload_n 0, 1) := by decide +kernel
theorem dX8_count_65 : decode cX8_count 65 = .ok (.getfield 32, 3) := by decide +kernel
theorem dX8_count_68 : decode cX8_count 68 = .ok (.iconst 0, 1) := by decide +kernel
theorem dX8_count_69 : decode cX8_count 69 = .ok (.baload, 1) := by decide +kernel
theorem dX8_count_70 : decode cX8_count 70 = .ok (.ifCond .eq 7, 3) := by decide +kernel
theorem dX8_count_73 : decode cX8_count 73 = .ok (.iconst 1, 1) := by decide +kernel
theorem dX8_count_74 : decode cX8_count 74 = .ok (.goto 4, 3) := by decide +kernel
theorem dX8_count_77 : decode cX8_count 77 = .ok (.iconst 0, 1) := by decide +kernel
theorem dX8_count_78 : decode cX8_count 78 = .ok (.aload_n 0, 1) := by decide +kernel
theorem dX8_count_79 : decode cX8_count 79 = .ok (.getfield 32, 3) := by decide +kernel
theorem dX8_count_82 : decode cX8_count 82 = .ok (.iconst 1, 1) := by decide +kernel
theorem dX8_count_83 : decode cX8_count 83 = .ok (.baload, 1) := by decide +kernel
theorem dX8_count_84 : decode cX8_count 84 = .ok (.ifCond .eq 7, 3) := by decide +kernel
theorem dX8_count_87 : decode cX8_count 87 = .ok (.iconst 1, 1) := by decide +kernel
theorem dX8_count_88 : decode cX8_count 88 = .ok (.goto 4, 3) := by decide +kernel
theorem dX8_count_91 : decode cX8_count 91 = .ok (.iconst 0, 1) := by decide +kernel
theorem dX8_count_92 : decode cX8_count 92 = .ok (.iadd, 1) := by decide +kernel
theorem dX8_count_93 : decode cX8_count 93 = .ok (.ireturn, 1) := by decide +kernel
theorem dX8_count_94 : decode cX8_count 94 = .ok (.aload_n 0, 1) := by decide +kernel
theorem dX8_count_95 : decode cX8_count 95 = .ok (.getfield 20, 3) := by decide +kernel
theorem dX8_count_98 : decode cX8_count 98 = .ok (.getfield 80, 3) := by decide +kernel
theorem dX8_count_101 : decode cX8_count 101 = .ok (.ireturn, 1) := by decide +kernel
theorem dX8_count_102 : decode cX8_count 102 = .ok (.aload_n 0, 1) := by decide +kernel
theorem dX8_count_103 : decode cX8_count 103 = .ok (.getfield 69, 3) := by decide +kernel
theorem dX8_count_106 : decode cX8_count 106 = .ok (.iconst 0, 1) := by decide +kernel
theorem dX8_count_107 : decode cX8_count 107 = .ok (.aaload, 1) := by decide +kernel
theorem dX8_count_108 : decode cX8_count 108 = .ok (.invokevirtual 292, 3) := by decide +kernel
theorem dX8_count_111 : decode cX8_count 111 = .ok (.ifCond .eq 15, 3) := by decide +kernel
theorem dX8_count_114 : decode cX8_count 114 = .ok (.aload_n 0, 1) := by decide +kernel
theorem dX8_count_115 : decode cX8_count 115 = .ok (.getfield 69, 3) := by decide +kernel
theorem dX8_count_118 : decode cX8_count 118 = .ok (.iconst 0, 1) := by decide +kernel
theorem dX8_count_119 : decode cX8_count 119 = .ok (.aaload, 1) := by decide +kernel
theorem dX8_count_120 : decode cX8_count 120 = .ok (.getfield 295, 3) := by decide +kernel
theorem dX8_count_123 : decode cX8_count 123 = .ok (.goto 5, 3) := by decide +kernel
theorem dX8_count_126 : decode cX8_count 126 = .ok (.bipush (-4), 2) := by decide +kernel
theorem dX8_count_128 : decode cX8_count 128 = .ok (.ireturn, 1) := by decide +kernel
theorem dX8_count_129 : decode cX8_count 129 = .ok (.iconst (-1), 1) := by decide +kernel
theorem dX8_count_130 : decode cX8_count 130 = .ok (.ireturn, 1) := by decide +kernel
set_option maxRecDepth 20000 in
theorem ggX8_runUntil_X4_load : GoodIn wsX8_runUntil wsX4_load := goodIn_r _ [7, 8, 9, 10, 11, 12, 13, 14, 15, 16, 17, 18, 19, 20, 21, 22, 23, 24, 25, 26, 27, 28, 29, 30, 31, 100, 101, 102, 103, 104, 105, 106, 107, 108, 109, 110, 111, 112, 113, 114, 115, 116] (by decide +kernel) (by decide +kernel)
set_option maxRecDepth 20000 in
theorem gX8_runUntil_X4_load : GoodIn wsX8_runUntil (wsV RX8 188 RX4 yX4_load wsX4_load) := goodIn_app (goodIn_of _ (by decide +kernel)) ggX8_runUntil_X4_load
set_option maxRecDepth 20000 in
theorem ggX8_runUntil_X4_go : GoodIn wsX8_runUntil wsX4_go := goodIn_r _ [35, 8, 36, 37, 12, 9, 38, 39, 40, 41, 42, 43, 44, 45, 46, 47, 16, 48, 21, 19, 49, 50, 51, 52, 31, 26, 53, 54, 55, 56, 30, 57, 58, 59, 60, 61, 62, 63, 64, 65, 66, 67, 68, 69, 70, 71, 6, 72, 73, 11, 10, 74, 75, 76, 77, 78, 79, 80, 81, 82, 83, 84, 85, 86, 87, 100, 101, 102, 103, 104, 107, 108, 109, 110, 111, 112, 113, 114, 115, 116, 105, 106] (by decide +kernel) (by decide +kernel)
set_option maxRecDepth 20000 in
theorem gX8_runUntil_X4_go : GoodIn wsX8_runUntil (wsV RX8 192 RX4 yX4_go wsX4_go) := goodIn_app (goodIn_of _ (by decide +kernel)) ggX8_runUntil_X4_go
theorem dX8_runUntil_0 : decode cX8_runUntil 0 = .ok (.aload_n 0, 1) := by decide +kernel
theorem dX8_runUntil_1 : decode cX8_runUntil 1 = .ok (.getfield 39, 3) := by decide +kernel
theorem dX8_runUntil_4 : decode cX8_runUntil 4 = .ok (.aload_n 0, 1) := by decide +kernel
theorem dX8_runUntil_5 : decode cX8_runUntil 5 = .ok (.getfield 24, 3) := by decide +kernel
theorem dX8_runUntil_8 : decode cX8_runUntil 8 = .ok (.invokevirtual 188, 3) := by decide +kernel
theorem dX8_runUntil_11 : decode cX8_runUntil 11 = .ok (.aload_n 0, 1) := by decide +kernel
theorem dX8_runUntil_12 : decode cX8_runUntil 12 = .ok (.getfield 39, 3) := by decide +kernel
theorem dX8_runUntil_15 : decode cX8_runUntil 15 = .ok (.iload_n 1, 1) := by decide +kernel
theorem dX8_runUntil_16 : decode cX8_runUntil 16 = .ok (.invokevirtual 192, 3) := by decide +kernel
theorem dX8_runUntil_19 : decode cX8_runUntil 19 = .ok (.return_, 1) := by decide +kernel
theorem dX8_everybody_0 : decode cX8_everybody 0 = .ok (.iconst 1, 1) := by decide +kernel
theorem dX8_everybody_1 : decode cX8_everybody 1 = .ok (.aload_n 0, 1) := by decide +kernel
theorem dX8_everybody_2 : decode cX8_everybody 2 = .ok (.getfield 24, 3) := by decide +kernel
theorem dX8_everybody_5 : decode cX8_everybody 5 = .ok (.getfield 99, 3) := by decide +kernel
theorem dX8_everybody_8 : decode cX8_everybody 8 = .ok (.ishl, 1) := by decide +kernel
theorem dX8_everybody_9 : decode cX8_everybody 9 = .ok (.iconst 1, 1) := by decide +kernel
theorem dX8_everybody_10 : decode cX8_everybody 10 = .ok (.isub, 1) := by decide +kernel
theorem dX8_everybody_11 : decode cX8_everybody 11 = .ok (.ireturn, 1) := by decide +kernel
theorem dX8_isPlace_0 : decode cX8_isPlace 0 = .ok (.iload_n 1, 1) := by decide +kernel
theorem dX8_isPlace_1 : decode cX8_isPlace 1 = .ok (.ifCond .lt 18, 3) := by decide +kernel
theorem dX8_isPlace_4 : decode cX8_isPlace 4 = .ok (.iload_n 1, 1) := by decide +kernel
theorem dX8_isPlace_5 : decode cX8_isPlace 5 = .ok (.aload_n 0, 1) := by decide +kernel
theorem dX8_isPlace_6 : decode cX8_isPlace 6 = .ok (.getfield 24, 3) := by decide +kernel
theorem dX8_isPlace_9 : decode cX8_isPlace 9 = .ok (.getfield 99, 3) := by decide +kernel
theorem dX8_isPlace_12 : decode cX8_isPlace 12 = .ok (.if_icmp .ge 7, 3) := by decide +kernel
theorem dX8_isPlace_15 : decode cX8_isPlace 15 = .ok (.iconst 1, 1) := by decide +kernel
theorem dX8_isPlace_16 : decode cX8_isPlace 16 = .ok (.goto 4, 3) := by decide +kernel
theorem dX8_isPlace_19 : decode cX8_isPlace 19 = .ok (.iconst 0, 1) := by decide +kernel
theorem dX8_isPlace_20 : decode cX8_isPlace 20 = .ok (.ireturn, 1) := by decide +kernel
theorem dX8_isMinute_0 : decode cX8_isMinute 0 = .ok (.iload_n 0, 1) := by decide +kernel
theorem dX8_isMinute_1 : decode cX8_isMinute 1 = .ok (.ifCond .lt 14, 3) := by decide +kernel
theorem dX8_isMinute_4 : decode cX8_isMinute 4 = .ok (.iload_n 0, 1) := by decide +kernel
theorem dX8_isMinute_5 : decode cX8_isMinute 5 = .ok (.sipush 130, 3) := by decide +kernel
theorem dX8_isMinute_8 : decode cX8_isMinute 8 = .ok (.if_icmp .gt 7, 3) := by decide +kernel
theorem dX8_isMinute_11 : decode cX8_isMinute 11 = .ok (.iconst 1, 1) := by decide +kernel
theorem dX8_isMinute_12 : decode cX8_isMinute 12 = .ok (.goto 4, 3) := by decide +kernel
theorem dX8_isMinute_15 : decode cX8_isMinute 15 = .ok (.iconst 0, 1) := by decide +kernel
theorem dX8_isMinute_16 : decode cX8_isMinute 16 = .ok (.ireturn, 1) := by decide +kernel
theorem dX8_isLaw_0 : decode cX8_isLaw 0 = .ok (.iload_n 0, 1) := by decide +kernel
theorem dX8_isLaw_1 : decode cX8_isLaw 1 = .ok (.ifCond .eq 8, 3) := by decide +kernel
theorem dX8_isLaw_4 : decode cX8_isLaw 4 = .ok (.iload_n 0, 1) := by decide +kernel
theorem dX8_isLaw_5 : decode cX8_isLaw 5 = .ok (.iconst 1, 1) := by decide +kernel
theorem dX8_isLaw_6 : decode cX8_isLaw 6 = .ok (.if_icmp .ne 7, 3) := by decide +kernel
theorem dX8_isLaw_9 : decode cX8_isLaw 9 = .ok (.iconst 1, 1) := by decide +kernel
theorem dX8_isLaw_10 : decode cX8_isLaw 10 = .ok (.goto 4, 3) := by decide +kernel
theorem dX8_isLaw_13 : decode cX8_isLaw 13 = .ok (.iconst 0, 1) := by decide +kernel
theorem dX8_isLaw_14 : decode cX8_isLaw 14 = .ok (.ireturn, 1) := by decide +kernel
theorem dX8_isSum_0 : decode cX8_isSum 0 = .ok (.iload_n 0, 1) := by decide +kernel
theorem dX8_isSum_1 : decode cX8_isSum 1 = .ok (.ifCond .lt 12, 3) := by decide +kernel
theorem dX8_isSum_4 : decode cX8_isSum 4 = .ok (.iload_n 0, 1) := by decide +kernel
theorem dX8_isSum_5 : decode cX8_isSum 5 = .ok (.iconst 3, 1) := by decide +kernel
theorem dX8_isSum_6 : decode cX8_isSum 6 = .ok (.if_icmp .gt 7, 3) := by decide +kernel
theorem dX8_isSum_9 : decode cX8_isSum 9 = .ok (.iconst 1, 1) := by decide +kernel
theorem dX8_isSum_10 : decode cX8_isSum 10 = .ok (.goto 4, 3) := by decide +kernel
theorem dX8_isSum_13 : decode cX8_isSum 13 = .ok (.iconst 0, 1) := by decide +kernel
theorem dX8_isSum_14 : decode cX8_isSum 14 = .ok (.ireturn, 1) := by decide +kernel
theorem dX8_isSheet_0 : decode cX8_isSheet 0 = .ok (.iload_n 0, 1) := by decide +kernel
theorem dX8_isSheet_1 : decode cX8_isSheet 1 = .ok (.ifCond .lt 12, 3) := by decide +kernel
theorem dX8_isSheet_4 : decode cX8_isSheet 4 = .ok (.iload_n 0, 1) := by decide +kernel
theorem dX8_isSheet_5 : decode cX8_isSheet 5 = .ok (.iconst 4, 1) := by decide +kernel
theorem dX8_isSheet_6 : decode cX8_isSheet 6 = .ok (.if_icmp .ge 7, 3) := by decide +kernel
theorem dX8_isSheet_9 : decode cX8_isSheet 9 = .ok (.iconst 1, 1) := by decide +kernel
theorem dX8_isSheet_10 : decode cX8_isSheet 10 = .ok (.goto 4, 3) := by decide +kernel
theorem dX8_isSheet_13 : decode cX8_isSheet 13 = .ok (.iconst 0, 1) := by decide +kernel
theorem dX8_isSheet_14 : decode cX8_isSheet 14 = .ok (.ireturn, 1) := by decide +kernel
theorem dX8_isLane_0 : decode cX8_isLane 0 = .ok (.iload_n 0, 1) := by decide +kernel
theorem dX8_isLane_1 : decode cX8_isLane 1 = .ok (.ifCond .lt 12, 3) := by decide +kernel
theorem dX8_isLane_4 : decode cX8_isLane 4 = .ok (.iload_n 0, 1) := by decide +kernel
theorem dX8_isLane_5 : decode cX8_isLane 5 = .ok (.iconst 3, 1) := by decide +kernel
theorem dX8_isLane_6 : decode cX8_isLane 6 = .ok (.if_icmp .ge 7, 3) := by decide +kernel
theorem dX8_isLane_9 : decode cX8_isLane 9 = .ok (.iconst 1, 1) := by decide +kernel
theorem dX8_isLane_10 : decode cX8_isLane 10 = .ok (.goto 4, 3) := by decide +kernel
theorem dX8_isLane_13 : decode cX8_isLane 13 = .ok (.iconst 0, 1) := by decide +kernel
theorem dX8_isLane_14 : decode cX8_isLane 14 = .ok (.ireturn, 1) := by decide +kernel
