set_option maxRecDepth 20000 in
theorem ggX8_init_X2_init : GoodIn wsX8_init wsX2_init := goodIn_r _ [39, 40, 2, 3, 41, 42, 43, 44, 45, 11, 12, 46, 47, 48, 49, 50, 51, 52, 53, 54, 55, 56, 57, 58, 59, 60, 61, 62, 63, 143, 144, 93, 94, 95, 96, 97, 98, 99, 100, 101, 114, 115, 116, 117, 118, 119, 120, 121, 122, 123] (by decide +kernel) (by decide +kernel)
set_option maxRecDepth 20000 in
theorem gX8_init_X2_init_n9 : GoodIn wsX8_init (wsX2_init) := ggX8_init_X2_init
set_option maxRecDepth 20000 in
theorem ggX8_init_X7_init : GoodIn wsX8_init wsX7_init := goodIn_r _ [53, 54, 2, 3, 55, 56, 57, 58, 59, 60, 61, 62, 63, 114, 115, 116, 117, 118, 119, 120, 121, 122, 123] (by decide +kernel) (by decide +kernel)
set_option maxRecDepth 20000 in
theorem gX8_init_X7_init_n23 : GoodIn wsX8_init (wsX7_init) := ggX8_init_X7_init
set_option maxRecDepth 20000 in
theorem ggX8_init_X4_init : GoodIn wsX8_init wsX4_init := goodIn_r _ [65, 66, 2, 3, 67, 11, 12, 68, 69, 30, 31, 70, 56, 71, 72, 52, 53, 54, 55, 57, 58, 59, 60, 61, 62, 63, 73, 74, 75, 76, 114, 115, 116, 117, 118, 119, 120, 121, 122, 123, 124, 125, 126, 127, 128, 138, 139] (by decide +kernel) (by decide +kernel)
set_option maxRecDepth 20000 in
theorem gX8_init_X4_init_n38 : GoodIn wsX8_init (wsX4_init) := ggX8_init_X4_init
set_option maxRecDepth 20000 in
theorem ggX8_init_X0_init : GoodIn wsX8_init wsX0_init := goodIn_r _ [78, 79, 2, 3] (by decide +kernel) (by decide +kernel)
set_option maxRecDepth 20000 in
theorem gX8_init_X0_init_n45 : GoodIn wsX8_init (wsX0_init) := ggX8_init_X0_init
set_option maxRecDepth 20000 in
theorem ggX8_init_X1_init : GoodIn wsX8_init wsX1_init := goodIn_r _ [81, 82, 2, 3, 56, 83, 84, 85, 86, 30, 31, 87, 73, 74, 75, 76, 133, 134, 135, 136, 137, 138, 139] (by decide +kernel) (by decide +kernel)
set_option maxRecDepth 20000 in
theorem gX8_init_X1_init_n52 : GoodIn wsX8_init (wsX1_init) := ggX8_init_X1_init
set_option maxRecDepth 20000 in
theorem ggX8_init_X3_init : GoodIn wsX8_init wsX3_init := goodIn_r _ [74, 75, 2, 3, 56, 76, 138, 139] (by decide +kernel) (by decide +kernel)
set_option maxRecDepth 20000 in
theorem gX8_init_X3_init_n59 : GoodIn wsX8_init (wsX3_init) := ggX8_init_X3_init
set_option maxRecDepth 20000 in
theorem ggX8_init_X5_init : GoodIn wsX8_init wsX5_init := goodIn_r _ [89, 90, 2, 3, 56, 91, 92, 140, 141, 142] (by decide +kernel) (by decide +kernel)
set_option maxRecDepth 20000 in
theorem gX8_init_X5_init_n73 : GoodIn wsX8_init (wsX5_init) := ggX8_init_X5_init
theorem dX8_init_0 : decode cX8_init 0 = .ok (.aload_n 0, 1) := by decide +kernel
theorem dX8_init_1 : decode cX8_init 1 = .ok (.invokespecial 1, 3) := by decide +kernel
theorem dX8_init_4 : decode cX8_init 4 = .ok (.aload_n 0, 1) := by decide +kernel
theorem dX8_init_5 : decode cX8_init 5 = .ok (.new 7, 3) := by decide +kernel
theorem dX8_init_8 : decode cX8_init 8 = .ok (.dup, 1) := by decide +kernel
theorem dX8_init_9 : decode cX8_init 9 = .ok (.invokespecial 9, 3) := by decide +kernel
theorem dX8_init_12 : decode cX8_init 12 = .ok (.putfield 10, 3) := by decide +kernel
theorem dX8_init_15 : decode cX8_init 15 = .ok (.aload_n 0, 1) := by decide +kernel
theorem dX8_init_16 : decode cX8_init 16 = .ok (.aload_n 0, 1) := by decide +kernel
theorem dX8_init_17 : decode cX8_init 17 = .ok (.getfield 10, 3) := by decide +kernel
theorem dX8_init_20 : decode cX8_init 20 = .ok (.getfield 16, 3) := by decide +kernel
theorem dX8_init_23 : decode cX8_init 23 = .ok (.putfield 20, 3) := by decide +kernel
theorem dX8_init_26 : decode cX8_init 26 = .ok (.aload_n 0, 1) := by decide +kernel
theorem dX8_init_27 : decode cX8_init 27 = .ok (.new 21, 3) := by decide +kernel
theorem dX8_init_30 : decode cX8_init 30 = .ok (.dup, 1) := by decide +kernel
theorem dX8_init_31 : decode cX8_init 31 = .ok (.invokespecial 23, 3) := by decide +kernel
theorem dX8_init_34 : decode cX8_init 34 = .ok (.putfield 24, 3) := by decide +kernel
theorem dX8_init_37 : decode cX8_init 37 = .ok (.aload_n 0, 1) := by decide +kernel
theorem dX8_init_38 : decode cX8_init 38 = .ok (.iconst 2, 1) := by decide +kernel
theorem dX8_init_39 : decode cX8_init 39 = .ok (.anewarray 21, 3) := by decide +kernel
theorem dX8_init_42 : decode cX8_init 42 = .ok (.putfield 28, 3) := by decide +kernel
theorem dX8_init_45 : decode cX8_init 45 = .ok (.aload_n 0, 1) := by decide +kernel
theorem dX8_init_46 : decode cX8_init 46 = .ok (.iconst 2, 1) := by decide +kernel
theorem dX8_init_47 : decode cX8_init 47 = .ok (.newarray .boolean, 2) := by decide +kernel
theorem dX8_init_49 : decode cX8_init 49 = .ok (.putfield 32, 3) := by decide +kernel
theorem dX8_init_52 : decode cX8_init 52 = .ok (.aload_n 0, 1) := by decide +kernel
theorem dX8_init_53 : decode cX8_init 53 = .ok (.new 36, 3) := by decide +kernel
theorem dX8_init_56 : decode cX8_init 56 = .ok (.dup, 1) := by decide +kernel
theorem dX8_init_57 : decode cX8_init 57 = .ok (.invokespecial 38, 3) := by decide +kernel
theorem dX8_init_60 : decode cX8_init 60 = .ok (.putfield 39, 3) := by decide +kernel
theorem dX8_init_63 : decode cX8_init 63 = .ok (.aload_n 0, 1) := by decide +kernel
theorem dX8_init_64 : decode cX8_init 64 = .ok (.new 43, 3) := by decide +kernel
theorem dX8_init_67 : decode cX8_init 67 = .ok (.dup, 1) := by decide +kernel
theorem dX8_init_68 : decode cX8_init 68 = .ok (.invokespecial 45, 3) := by decide +kernel
theorem dX8_init_71 : decode cX8_init 71 = .ok (.putfield 46, 3) := by decide +kernel
theorem dX8_init_74 : decode cX8_init 74 = .ok (.aload_n 0, 1) := by decide +kernel
theorem dX8_init_75 : decode cX8_init 75 = .ok (.new 50, 3) := by decide +kernel
theorem dX8_init_78 : decode cX8_init 78 = .ok (.dup, 1) := by decide +kernel
theorem dX8_init_79 : decode cX8_init 79 = .ok (.invokespecial 52, 3) := by decide +kernel
theorem dX8_init_82 : decode cX8_init 82 = .ok (.putfield 53, 3) := by decide +kernel
theorem dX8_init_85 : decode cX8_init 85 = .ok (.aload_n 0, 1) := by decide +kernel
theorem dX8_init_86 : decode cX8_init 86 = .ok (.new 57, 3) := by decide +kernel
theorem dX8_init_89 : decode cX8_init 89 = .ok (.dup, 1) := by decide +kernel
theorem dX8_init_90 : decode cX8_init 90 = .ok (.invokespecial 59, 3) := by decide +kernel
theorem dX8_init_93 : decode cX8_init 93 = .ok (.putfield 60, 3) := by decide +kernel
theorem dX8_init_96 : decode cX8_init 96 = .ok (.aload_n 0, 1) := by decide +kernel
theorem dX8_init_97 : decode cX8_init 97 = .ok (.new 57, 3) := by decide +kernel
theorem dX8_init_100 : decode cX8_init 100 = .ok (.dup, 1) := by decide +kernel
theorem dX8_init_101 : decode cX8_init 101 = .ok (.invokespecial 59, 3) := by decide +kernel
theorem dX8_init_104 : decode cX8_init 104 = .ok (.putfield 64, 3) := by decide +kernel
theorem dX8_init_107 : decode cX8_init 107 = .ok (.aload_n 0, 1) := by decide +kernel
theorem dX8_init_108 : decode cX8_init 108 = .ok (.iconst 4, 1) := by decide +kernel
theorem dX8_init_109 : decode cX8_init 109 = .ok (.anewarray 67, 3) := by decide +kernel
theorem dX8_init_112 : decode cX8_init 112 = .ok (.putfield 69, 3) := by decide +kernel
theorem dX8_init_115 : decode cX8_init 115 = .ok (.iconst 0, 1) := by decide +kernel
theorem dX8_init_116 : decode cX8_init 116 = .ok (.istore_n 1, 1) := by decide +kernel
theorem dX8_init_117 : decode cX8_init 117 = .ok (.iload_n 1, 1) := by decide +kernel
theorem dX8_init_118 : decode cX8_init 118 = .ok (.iconst 2, 1) := by decide +kernel
theorem dX8_init_119 : decode cX8_init 119 = .ok (.if_icmp .ge 22, 3) := by decide +kernel
theorem dX8_init_122 : decode cX8_init 122 = .ok (.aload_n 0, 1) := by decide +kernel
theorem dX8_init_123 : decode cX8_init 123 = .ok (.getfield 28, 3) := by decide +kernel
theorem dX8_init_126 : decode cX8_init 126 = .ok (.iload_n 1, 1) := by decide +kernel
theorem dX8_init_127 : decode cX8_init 127 = .ok (.new 21, 3) := by decide +kernel
theorem dX8_init_130 : decode cX8_init 130 = .ok (.dup, 1) := by decide +kernel
theorem dX8_init_131 : decode cX8_init 131 = .ok (.invokespecial 23, 3) := by decide +kernel
theorem dX8_init_134 : decode cX8_init 134 = .ok (.aastore, 1) := by decide +kernel
theorem dX8_init_135 : decode cX8_init 135 = .ok (.iinc 1 1, 3) := by decide +kernel
theorem dX8_init_138 : decode cX8_init 138 = .ok (.goto (-21), 3) := by decide +kernel
theorem dX8_init_141 : decode cX8_init 141 = .ok (.iconst 0, 1) := by decide +kernel
theorem dX8_init_142 : decode cX8_init 142 = .ok (.istore_n 1, 1) := by decide +kernel
theorem dX8_init_143 : decode cX8_init 143 = .ok (.iload_n 1, 1) := by decide +kernel
theorem dX8_init_144 : decode cX8_init 144 = .ok (.iconst 4, 1) := by decide +kernel
theorem dX8_init_145 : decode cX8_init 145 = .ok (.if_icmp .ge 22, 3) := by decide +kernel
theorem dX8_init_148 : decode cX8_init 148 = .ok (.aload_n 0, 1) := by decide +kernel
theorem dX8_init_149 : decode cX8_init 149 = .ok (.getfield 69, 3) := by decide +kernel
theorem dX8_init_152 : decode cX8_init 152 = .ok (.iload_n 1, 1) := by decide +kernel
theorem dX8_init_153 : decode cX8_init 153 = .ok (.new 67, 3) := by decide +kernel
theorem dX8_init_156 : decode cX8_init 156 = .ok (.dup, 1) := by decide +kernel
theorem dX8_init_157 : decode cX8_init 157 = .ok (.invokespecial 73, 3) := by decide +kernel
theorem dX8_init_160 : decode cX8_init 160 = .ok (.aastore, 1) := by decide +kernel
theorem dX8_init_161 : decode cX8_init 161 = .ok (.iinc 1 1, 3) := by decide +kernel
theorem dX8_init_164 : decode cX8_init 164 = .ok (.goto (-21), 3) := by decide +kernel
theorem dX8_init_167 : decode cX8_init 167 = .ok (.return_, 1) := by decide +kernel
set_option maxRecDepth 20000 in
theorem ggX8_feed_X6_append : GoodIn wsX8_feed wsX6_append := goodIn_r _ [7, 8, 9, 22, 23] (by decide +kernel) (by decide +kernel)
set_option maxRecDepth 20000 in
theorem gX8_feed_X6_append : GoodIn wsX8_feed (wsV RX8 74 RX6 yX6_append wsX6_append) := goodIn_app (goodIn_of _ (by decide +kernel)) ggX8_feed_X6_append
theorem dX8_feed_0 : decode cX8_feed 0 = .ok (.aload_n 0, 1) := by decide +kernel
theorem dX8_feed_1 : decode cX8_feed 1 = .ok (.getfield 20, 3) := by decide +kernel
theorem dX8_feed_4 : decode cX8_feed 4 = .ok (.lload_n 1, 1) := by decide +kernel
theorem dX8_feed_5 : decode cX8_feed 5 = .ok (.invokevirtual 74, 3) := by decide +kernel
theorem dX8_feed_8 : decode cX8_feed 8 = .ok (.ifCond .eq 13, 3) := by decide +kernel
theorem dX8_feed_11 : decode cX8_feed 11 = .ok (.aload_n 0, 1) := by decide +kernel
theorem dX8_feed_12 : decode cX8_feed 12 = .ok (.getfield 20, 3) := by decide +kernel
theorem dX8_feed_15 : decode cX8_feed 15 = .ok (.getfield 80, 3) := by decide +kernel
theorem dX8_feed_18 : decode cX8_feed 18 = .ok (.goto 5, 3) := by decide +kernel
theorem dX8_feed_21 : decode cX8_feed 21 = .ok (.bipush (-3), 2) := by decide +kernel
theorem dX8_feed_23 : decode cX8_feed 23 = .ok (.ireturn, 1) := by decide +kernel
theorem dX8_end_0 : decode cX8_end 0 = .ok (.iload_n 1, 1) := by decide +kernel
theorem dX8_end_1 : decode cX8_end 1 = .ok (.ifCond .lt 14, 3) := by decide +kernel
theorem dX8_end_4 : decode cX8_end 4 = .ok (.iload_n 1, 1) := by decide +kernel
theorem dX8_end_5 : decode cX8_end 5 = .ok (.aload_n 0, 1) := by decide +kernel
theorem dX8_end_6 : decode cX8_end 6 = .ok (.getfield 20, 3) := by decide +kernel
theorem dX8_end_9 : decode cX8_end 9 = .ok (.getfield 80, 3) := by decide +kernel
theorem dX8_end_12 : decode cX8_end 12 = .ok (.if_icmp .le 5, 3) := by decide +kernel
theorem dX8_end_15 : decode cX8_end 15 = .ok (.iconst (-1), 1) := by decide +kernel
theorem dX8_end_16 : decode cX8_end 16 = .ok (.ireturn, 1) := by decide +kernel
theorem dX8_end_17 : decode cX8_end 17 = .ok (.aload_n 0, 1) := by decide +kernel
theorem dX8_end_18 : decode cX8_end 18 = .ok (.getfield 20, 3) := by decide +kernel
theorem dX8_end_21 : decode cX8_end 21 = .ok (.getfield 80, 3) := by decide +kernel
theorem dX8_end_24 : decode cX8_end 24 = .ok (.istore_n 2, 1) := by decide +kernel
theorem dX8_end_25 : decode cX8_end 25 = .ok (.aload_n 0, 1) := by decide +kernel
theorem dX8_end_26 : decode cX8_end 26 = .ok (.getfield 20, 3) := by decide +kernel
theorem dX8_end_29 : decode cX8_end 29 = .ok (.iload_n 1, 1) := by decide +kernel
theorem dX8_end_30 : decode cX8_end 30 = .ok (.putfield 80, 3) := by decide +kernel
theorem dX8_end_33 : decode cX8_end 33 = .ok (.iload_n 2, 1) := by decide +kernel
theorem dX8_end_34 : decode cX8_end 34 = .ok (.ireturn, 1) := by decide +kernel
set_option maxRecDepth 20000 in
theorem ggX8_town_X2_readTown : GoodIn wsX8_town wsX2_readTown := goodIn_r _ [14, 15, 16, 17, 18, 19, 20, 21, 22, 23, 24, 25, 26, 27, 28, 29, 30, 31, 32, 33, 13, 34, 35, 36, 37, 38, 39, 40, 41, 42, 43, 44, 45, 46, 47, 48, 49, 50, 51, 52, 53, 54, 55, 56, 57, 58, 59, 60, 61, 62, 63, 64, 65, 66, 67, 68, 69, 70, 71, 72, 73, 74, 75, 76, 77, 78, 79, 80, 81, 82, 83, 84, 85, 86, 87, 88, 89, 90, 91, 92, 93, 94, 95, 96, 97, 98, 99, 100, 101, 102, 103, 104, 105, 106, 107, 108, 109, 110, 111, 112, 113, 114, 115, 116, 117, 118, 119, 120, 121, 122, 123, 124, 125, 126, 127, 128, 129, 130, 131, 132, 133, 134, 135, 136, 137, 138, 139, 140, 141, 142, 143, 144, 145, 146, 147, 148, 149, 150, 151, 152, 153, 154, 155, 156, 157, 158, 159, 160, 161, 162, 163, 164, 165, 166, 167, 168, 169, 170, 171, 172, 173, 174, 175, 204, 205, 206, 207, 208, 209, 210, 211, 212, 215, 216, 217, 218, 219, 220, 221, 222, 223, 224, 202, 203] (by decide +kernel) (by decide +kernel)
set_option maxRecDepth 20000 in
theorem gX8_town_X2_readTown : GoodIn wsX8_town (wsV RX8 84 RX2 yX2_readTown wsX2_readTown) := goodIn_app (goodIn_of _ (by decide +kernel)) ggX8_town_X2_readTown
set_option maxRecDepth 20000 in
theorem ggX8_town_X7_copyOf : GoodIn wsX8_town wsX7_copyOf := goodIn_r _ [179, 27, 28, 29, 180, 181, 182, 183, 184, 185, 186, 187, 188, 189, 30, 215, 216, 217, 218, 219, 220, 221, 222, 223, 224] (by decide +kernel) (by decide +kernel)
set_option maxRecDepth 20000 in
theorem gX8_town_X7_copyOf : GoodIn wsX8_town (wsV RX8 94 RX7 yX7_copyOf wsX7_copyOf) := goodIn_app (goodIn_of _ (by decide +kernel)) ggX8_town_X7_copyOf
theorem dX8_town_0 : decode cX8_town 0 = .ok (.aload_n 0, 1) := by decide +kernel
theorem dX8_town_1 : decode cX8_town 1 = .ok (.getfield 10, 3) := by decide +kernel
theorem dX8_town_4 : decode cX8_town 4 = .ok (.invokevirtual 84, 3) := by decide +kernel
theorem dX8_town_7 : decode cX8_town 7 = .ok (.istore_n 1, 1) := by decide +kernel
theorem dX8_town_8 : decode cX8_town 8 = .ok (.aload_n 0, 1) := by decide +kernel
theorem dX8_town_9 : decode cX8_town 9 = .ok (.getfield 20, 3) := by decide +kernel
theorem dX8_town_12 : decode cX8_town 12 = .ok (.iconst 0, 1) := by decide +kernel
theorem dX8_town_13 : decode cX8_town 13 = .ok (.putfield 80, 3) := by decide +kernel
theorem dX8_town_16 : decode cX8_town 16 = .ok (.aload_n 0, 1) := by decide +kernel
theorem dX8_town_17 : decode cX8_town 17 = .ok (.getfield 10, 3) := by decide +kernel
theorem dX8_town_20 : decode cX8_town 20 = .ok (.getfield 88, 3) := by decide +kernel
theorem dX8_town_23 : decode cX8_town 23 = .ok (.ifCond .ne 45, 3) := by decide +kernel
theorem dX8_town_26 : decode cX8_town 26 = .ok (.aload_n 0, 1) := by decide +kernel
theorem dX8_town_27 : decode cX8_town 27 = .ok (.getfield 24, 3) := by decide +kernel
theorem dX8_town_30 : decode cX8_town 30 = .ok (.aload_n 0, 1) := by decide +kernel
theorem dX8_town_31 : decode cX8_town 31 = .ok (.getfield 10, 3) := by decide +kernel
theorem dX8_town_34 : decode cX8_town 34 = .ok (.getfield 91, 3) := by decide +kernel
theorem dX8_town_37 : decode cX8_town 37 = .ok (.invokevirtual 94, 3) := by decide +kernel
theorem dX8_town_40 : decode cX8_town 40 = .ok (.aload_n 0, 1) := by decide +kernel
theorem dX8_town_41 : decode cX8_town 41 = .ok (.getfield 64, 3) := by decide +kernel
theorem dX8_town_44 : decode cX8_town 44 = .ok (.iconst 0, 1) := by decide +kernel
theorem dX8_town_45 : decode cX8_town 45 = .ok (.putfield 98, 3) := by decide +kernel
theorem dX8_town_48 : decode cX8_town 48 = .ok (.iconst 0, 1) := by decide +kernel
theorem dX8_town_49 : decode cX8_town 49 = .ok (.istore_n 2, 1) := by decide +kernel
theorem dX8_town_50 : decode cX8_town 50 = .ok (.iload_n 2, 1) := by decide +kernel
theorem dX8_town_51 : decode cX8_town 51 = .ok (.iconst 2, 1) := by decide +kernel
theorem dX8_town_52 : decode cX8_town 52 = .ok (.if_icmp .ge 16, 3) := by decide +kernel
theorem dX8_town_55 : decode cX8_town 55 = .ok (.aload_n 0, 1) := by decide +kernel
theorem dX8_town_56 : decode cX8_town 56 = .ok (.getfield 32, 3) := by decide +kernel
theorem dX8_town_59 : decode cX8_town 59 = .ok (.iload_n 2, 1) := by decide +kernel
theorem dX8_town_60 : decode cX8_town 60 = .ok (.iconst 0, 1) := by decide +kernel
theorem dX8_town_61 : decode cX8_town 61 = .ok (.bastore, 1) := by decide +kernel
theorem dX8_town_62 : decode cX8_town 62 = .ok (.iinc 2 1, 3) := by decide +kernel
theorem dX8_town_65 : decode cX8_town 65 = .ok (.goto (-15), 3) := by decide +kernel
theorem dX8_town_68 : decode cX8_town 68 = .ok (.iload_n 1, 1) := by decide +kernel
theorem dX8_town_69 : decode cX8_town 69 = .ok (.ireturn, 1) := by decide +kernel
theorem dX8_fault_0 : decode cX8_fault 0 = .ok (.aload_n 0, 1) := by decide +kernel
theorem dX8_fault_1 : decode cX8_fault 1 = .ok (.getfield 10, 3) := by decide +kernel
theorem dX8_fault_4 : decode cX8_fault 4 = .ok (.getfield 88, 3) := by decide +kernel
theorem dX8_fault_7 : decode cX8_fault 7 = .ok (.ireturn, 1) := by decide +kernel
theorem dX8_rule_0 : decode cX8_rule 0 = .ok (.iload_n 1, 1) := by decide +kernel
theorem dX8_rule_1 : decode cX8_rule 1 = .ok (.tableswitch 51 0 2 #[27, 35, 43], 27) := by decide +kernel
theorem dX8_rule_28 : decode cX8_rule 28 = .ok (.aload_n 0, 1) := by decide +kernel
theorem dX8_rule_29 : decode cX8_rule 29 = .ok (.getfield 24, 3) := by decide +kernel
theorem dX8_rule_32 : decode cX8_rule 32 = .ok (.getfield 99, 3) := by decide +kernel
theorem dX8_rule_35 : decode cX8_rule 35 = .ok (.ireturn, 1) := by decide +kernel
theorem dX8_rule_36 : decode cX8_rule 36 = .ok (.aload_n 0, 1) := by decide +kernel
theorem dX8_rule_37 : decode cX8_rule 37 = .ok (.getfield 24, 3) := by decide +kernel
theorem dX8_rule_40 : decode cX8_rule 40 = .ok (.getfield 102, 3) := by decide +kernel
theorem dX8_rule_43 : decode cX8_rule 43 = .ok (.ireturn, 1) := by decide +kernel
theorem dX8_rule_44 : decode cX8_rule 44 = .ok (.aload_n 0, 1) := by decide +kernel
theorem dX8_rule_45 : decode cX8_rule 45 = .ok (.getfield 24, 3) := by decide +kernel
theorem dX8_rule_48 : decode cX8_rule 48 = .ok (.getfield 105, 3) := by decide +kernel
theorem dX8_rule_51 : decode cX8_rule 51 = .ok (.ireturn, 1) := by decide +kernel
theorem dX8_rule_52 : decode cX8_rule 52 = .ok (.iconst (-1), 1) := by decide +kernel
theorem dX8_rule_53 : decode cX8_rule 53 = .ok (.ireturn, 1) := by decide +kernel
set_option maxRecDepth 20000 in
theorem ggX8_one_X7_isOne : GoodIn wsX8_one wsX7_isOne := goodIn_r _ [12, 13, 26, 27, 28, 29, 30, 31, 32, 33, 34, 35] (by decide +kernel) (by decide +kernel)
set_option maxRecDepth 20000 in
theorem gX8_one_X7_isOne : GoodIn wsX8_one (wsV RX8 108 RX7 yX7_isOne wsX7_isOne) := goodIn_app (goodIn_of _ (by decide +kernel)) ggX8_one_X7_isOne
theorem dX8_one_0 : decode cX8_one 0 = .ok (.aload_n 0, 1) := by decide +kernel
theorem dX8_one_1 : decode cX8_one 1 = .ok (.getfield 24, 3) := by decide +kernel
theorem dX8_one_4 : decode cX8_one 4 = .ok (.iload_n 1, 1) := by decide +kernel
theorem dX8_one_5 : decode cX8_one 5 = .ok (.invokevirtual 108, 3) := by decide +kernel
theorem dX8_one_8 : decode cX8_one 8 = .ok (.ifCond .ne 5, 3) := by decide +kernel
theorem dX8_one_11 : decode cX8_one 11 = .ok (.iconst (-1), 1) := by decide +kernel
theorem dX8_one_12 : decode cX8_one 12 = .ok (.ireturn, 1) := by decide +kernel
theorem dX8_one_13 : decode cX8_one 13 = .ok (.iload_n 2, 1) := by decide +kernel
theorem dX8_one_14 : decode cX8_one 14 = .ok (.tableswitch 116 0 5 #[38, 48, 58, 68, 78, 88], 38) := by decide +kernel
theorem dX8_one_52 : decode cX8_one 52 = .ok (.aload_n 0, 1) := by decide +kernel
theorem dX8_one_53 : decode cX8_one 53 = .ok (.getfield 24, 3) := by decide +kernel
theorem dX8_one_56 : decode cX8_one 56 = .ok (.getfield 112, 3) := by decide +kernel
theorem dX8_one_59 : decode cX8_one 59 = .ok (.iload_n 1, 1) := by decide +kernel
theorem dX8_one_60 : decode cX8_one 60 = .ok (.iaload, 1) := by decide +kernel
theorem dX8_one_61 : decode cX8_one 61 = .ok (.ireturn, 1) := by decide +kernel
theorem dX8_one_62 : decode cX8_one 62 = .ok (.aload_n 0, 1) := by decide +kernel
theorem dX8_one_63 : decode cX8_one 63 = .ok (.getfield 24, 3) := by decide +kernel
theorem dX8_one_66 : decode cX8_one 66 = .ok (.getfield 116, 3) := by decide +kernel
theorem dX8_one_69 : decode cX8_one 69 = .ok (.iload_n 1, 1) := by decide +kernel
theorem dX8_one_70 : decode cX8_one 70 = .ok (.iaload, 1) := by decide +kernel
theorem dX8_one_71 : decode cX8_one 71 = .ok (.ireturn, 1) := by decide +kernel
theorem dX8_one_72 : decode cX8_one 72 = .ok (.aload_n 0, 1) := by decide +kernel
theorem dX8_one_73 : decode cX8_one 73 = .ok (.getfield 24, 3) := by decide +kernel
theorem dX8_one_76 : decode cX8_one 76 = .ok (.getfield 119, 3) := by decide +kernel
theorem dX8_one_79 : decode cX8_one 79 = .ok (.iload_n 1, 1) := by decide +kernel
theorem dX8_one_80 : decode cX8_one 80 = .ok (.iaload, 1) := by decide +kernel
theorem dX8_one_81 : decode cX8_one 81 = .ok (.ireturn, 1) := by decide +kernel
theorem dX8_one_82 : decode cX8_one 82 = .ok (.aload_n 0, 1) := by decide +kernel
theorem dX8_one_83 : decode cX8_one 83 = .ok (.getfield 24, 3) := by decide +kernel
theorem dX8_one_86 : decode cX8_one 86 = .ok (.getfield 122, 3) := by decide +kernel
theorem dX8_one_89 : decode cX8_one 89 = .ok (.iload_n 1, 1) := by decide +kernel
theorem dX8_one_90 : decode cX8_one 90 = .ok (.iaload, 1) := by decide +kernel
theorem dX8_one_91 : decode cX8_one 91 = .ok (.ireturn, 1) := by decide +kernel
theorem dX8_one_92 : decode cX8_one 92 = .ok (.aload_n 0, 1) := by decide +kernel
theorem dX8_one_93 : decode cX8_one 93 = .ok (.getfield 24, 3) := by decide +kernel
theorem dX8_one_96 : decode cX8_one 96 = .ok (.getfield 125, 3) := by decide +kernel
theorem dX8_one_99 : decode cX8_one 99 = .ok (.iload_n 1, 1) := by decide +kernel
theorem dX8_one_100 : decode cX8_one 100 = .ok (.iaload, 1) := by decide +kernel
theorem dX8_one_101 : decode cX8_one 101 = .ok (.ireturn, 1) := by decide +kernel
theorem dX8_one_102 : decode cX8_one 102 = .ok (.aload_n 0, 1) := by decide +kernel
theorem dX8_one_103 : decode cX8_one 103 = .ok (.getfield 24, 3) := by decide +kernel
theorem dX8_one_106 : decode cX8_one 106 = .ok (.getfield 112, 3) := by decide +kernel
theorem dX8_one_109 : decode cX8_one 109 = .ok (.iload_n 1, 1) := by decide +kernel
theorem dX8_one_110 : decode cX8_one 110 = .ok (.iaload, 1) := by decide +kernel
theorem dX8_one_111 : decode cX8_one 111 = .ok (.iconst 4, 1) := by decide +kernel
theorem dX8_one_112 : decode cX8_one 112 = .ok (.if_icmp .ne 15, 3) := by decide +kernel
theorem dX8_one_115 : decode cX8_one 115 = .ok (.aload_n 0, 1) := by decide +kernel
theorem dX8_one_116 : decode cX8_one 116 = .ok (.getfield 24, 3) := by decide +kernel
theorem dX8_one_119 : decode cX8_one 119 = .ok (.getfield 128, 3) := by decide +kernel
theorem dX8_one_122 : decode cX8_one 122 = .ok (.iload_n 1, 1) := by decide +kernel
theorem dX8_one_123 : decode cX8_one 123 = .ok (.iaload, 1) := by decide +kernel
theorem dX8_one_124 : decode cX8_one 124 = .ok (.goto 5, 3) := by decide +kernel
theorem dX8_one_127 : decode cX8_one 127 = .ok (.bipush (-4), 2) := by decide +kernel
theorem dX8_one_129 : decode cX8_one 129 = .ok (.ireturn, 1) := by decide +kernel
theorem dX8_one_130 : decode cX8_one 130 = .ok (.iconst (-1), 1) := by decide +kernel
theorem dX8_one_131 : decode cX8_one 131 = .ok (.ireturn, 1) := by decide +kernel
set_option maxRecDepth 20000 in
theorem ggX8_owes_X7_areTwo : GoodIn wsX8_owes wsX7_areTwo := goodIn_r _ [6, 7, 8, 9, 5, 10, 11, 29, 30, 31, 32, 33, 34, 35, 36, 37, 38] (by decide +kernel) (by decide +kernel)
set_option maxRecDepth 20000 in
theorem gX8_owes_X7_areTwo : GoodIn wsX8_owes (wsV RX8 131 RX7 yX7_areTwo wsX7_areTwo) := goodIn_app (goodIn_of _ (by decide +kernel)) ggX8_owes_X7_areTwo
set_option maxRecDepth 20000 in
theorem ggX8_owes_X7_owed : GoodIn wsX8_owes wsX7_owed := goodIn_r _ [15, 16, 29, 30, 31, 32, 33, 34, 35, 36, 37, 38] (by decide +kernel) (by decide +kernel)
set_option maxRecDepth 20000 in
theorem gX8_owes_X7_owed : GoodIn wsX8_owes (wsV RX8 135 RX7 yX7_owed wsX7_owed) := goodIn_app (goodIn_of _ (by decide +kernel)) ggX8_owes_X7_owed
theorem dX8_owes_0 : decode cX8_owes 0 = .ok (.aload_n 0, 1) := by decide +kernel
theorem dX8_owes_1 : decode cX8_owes 1 = .ok (.getfield 24, 3) := by decide +kernel
theorem dX8_owes_4 : decode cX8_owes 4 = .ok (.iload_n 1, 1) := by decide +kernel
theorem dX8_owes_5 : decode cX8_owes 5 = .ok (.iload_n 2, 1) := by decide +kernel
theorem dX8_owes_6 : decode cX8_owes 6 = .ok (.invokevirtual 131, 3) := by decide +kernel
theorem dX8_owes_9 : decode cX8_owes 9 = .ok (.ifCond .eq 15, 3) := by decide +kernel
theorem dX8_owes_12 : decode cX8_owes 12 = .ok (.aload_n 0, 1) := by decide +kernel
theorem dX8_owes_13 : decode cX8_owes 13 = .ok (.getfield 24, 3) := by decide +kernel
theorem dX8_owes_16 : decode cX8_owes 16 = .ok (.iload_n 1, 1) := by decide +kernel
theorem dX8_owes_17 : decode cX8_owes 17 = .ok (.iload_n 2, 1) := by decide +kernel
theorem dX8_owes_18 : decode cX8_owes 18 = .ok (.invokevirtual 135, 3) := by decide +kernel
theorem dX8_owes_21 : decode cX8_owes 21 = .ok (.goto 4, 3) := by decide +kernel
theorem dX8_owes_24 : decode cX8_owes 24 = .ok (.iconst (-1), 1) := by decide +kernel
theorem dX8_owes_25 : decode cX8_owes 25 = .ok (.ireturn, 1) := by decide +kernel
set_option maxRecDepth 20000 in
theorem ggX8_must_X7_areTwo : GoodIn wsX8_must wsX7_areTwo := goodIn_r _ [6, 7, 8, 9, 5, 10, 11, 36, 37, 38, 39, 40, 41, 42, 43, 44, 45] (by decide +kernel) (by decide +kernel)
set_option maxRecDepth 20000 in
theorem gX8_must_X7_areTwo : GoodIn wsX8_must (wsV RX8 131 RX7 yX7_areTwo wsX7_areTwo) := goodIn_app (goodIn_of _ (by decide +kernel)) ggX8_must_X7_areTwo
set_option maxRecDepth 20000 in
theorem ggX8_must_X7_mustLet : GoodIn wsX8_must wsX7_mustLet := goodIn_r _ [15, 16, 17, 18, 19, 20, 5, 21, 22, 23, 36, 37, 38, 39, 40, 41, 42, 43, 44, 45] (by decide +kernel) (by decide +kernel)
set_option maxRecDepth 20000 in
theorem gX8_must_X7_mustLet : GoodIn wsX8_must (wsV RX8 139 RX7 yX7_mustLet wsX7_mustLet) := goodIn_app (goodIn_of _ (by decide +kernel)) ggX8_must_X7_mustLet
theorem dX8_must_0 : decode cX8_must 0 = .ok (.aload_n 0, 1) := by decide +kernel
theorem dX8_must_1 : decode cX8_must 1 = .ok (.getfield 24, 3) := by decide +kernel
theorem dX8_must_4 : decode cX8_must 4 = .ok (.iload_n 1, 1) := by decide +kernel
theorem dX8_must_5 : decode cX8_must 5 = .ok (.iload_n 2, 1) := by decide +kernel
theorem dX8_must_6 : decode cX8_must 6 = .ok (.invokevirtual 131, 3) := by decide +kernel
theorem dX8_must_9 : decode cX8_must 9 = .ok (.ifCond .ne 5, 3) := by decide +kernel
theorem dX8_must_12 : decode cX8_must 12 = .ok (.iconst (-1), 1) := by decide +kernel
theorem dX8_must_13 : decode cX8_must 13 = .ok (.ireturn, 1) := by decide +kernel
theorem dX8_must_14 : decode cX8_must 14 = .ok (.aload_n 0, 1) := by decide +kernel
theorem dX8_must_15 : decode cX8_must 15 = .ok (.getfield 24, 3) := by decide +kernel
theorem dX8_must_18 : decode cX8_must 18 = .ok (.iload_n 1, 1) := by decide +kernel
theorem dX8_must_19 : decode cX8_must 19 = .ok (.iload_n 2, 1) := by decide +kernel
theorem dX8_must_20 : decode cX8_must 20 = .ok (.invokevirtual 139, 3) := by decide +kernel
theorem dX8_must_23 : decode cX8_must 23 = .ok (.ifCond .eq 7, 3) := by decide +kernel
theorem dX8_must_26 : decode cX8_must 26 = .ok (.iconst 1, 1) := by decide +kernel
theorem dX8_must_27 : decode cX8_must 27 = .ok (.goto 4, 3) := by decide +kernel
theorem dX8_must_30 : decode cX8_must 30 = .ok (.iconst 0, 1) := by decide +kernel
theorem dX8_must_31 : decode cX8_must 31 = .ok (.ireturn, 1) := by decide +kernel
set_option maxRecDepth 20000 in
theorem ggX8_law_X8_isLaw : GoodIn wsX8_law wsX8_isLaw := goodIn_r _ [6] (by decide +kernel) (by decide +kernel)
set_option maxRecDepth 20000 in
theorem gX8_law_X8_isLaw : GoodIn wsX8_law (va_wsS RX8 142 yX8_isLaw wsX8_isLaw) := goodIn_app (goodIn_of _ (by decide +kernel)) ggX8_law_X8_isLaw
theorem dX8_law_0 : decode cX8_law 0 = .ok (.iload_n 1, 1) := by decide +kernel
theorem dX8_law_1 : decode cX8_law 1 = .ok (.invokestatic 142, 3) := by decide +kernel
theorem dX8_law_4 : decode cX8_law 4 = .ok (.ifCond .ne 5, 3) := by decide +kernel
theorem dX8_law_7 : decode cX8_law 7 = .ok (.iconst (-1), 1) := by decide +kernel
theorem dX8_law_8 : decode cX8_law 8 = .ok (.ireturn, 1) := by decide +kernel
theorem dX8_law_9 : decode cX8_law 9 = .ok (.aload_n 0, 1) := by decide +kernel
theorem dX8_law_10 : decode cX8_law 10 = .ok (.getfield 24, 3) := by decide +kernel
theorem dX8_law_13 : decode cX8_law 13 = .ok (.getfield 102, 3) := by decide +kernel
theorem dX8_law_16 : decode cX8_law 16 = .ok (.istore_n 2, 1) := by decide +kernel
theorem dX8_law_17 : decode cX8_law 17 = .ok (.aload_n 0, 1) := by decide +kernel
theorem dX8_law_18 : decode cX8_law 18 = .ok (.getfield 24, 3) := by decide +kernel
theorem dX8_law_21 : decode cX8_law 21 = .ok (.iload_n 1, 1) := by decide +kernel
theorem dX8_law_22 : decode cX8_law 22 = .ok (.putfield 102, 3) := by decide +kernel
theorem dX8_law_25 : decode cX8_law 25 = .ok (.iload_n 2, 1) := by decide +kernel
theorem dX8_law_26 : decode cX8_law 26 = .ok (.ireturn, 1) := by decide +kernel
theorem dX8_counters_0 : decode cX8_counters 0 = .ok (.iload_n 1, 1) := by decide +kernel
theorem dX8_counters_1 : decode cX8_counters 1 = .ok (.iconst 1, 1) := by decide +kernel
theorem dX8_counters_2 : decode cX8_counters 2 = .ok (.if_icmp .lt 8, 3) := by decide +kernel
theorem dX8_counters_5 : decode cX8_counters 5 = .ok (.iload_n 1, 1) := by decide +kernel
theorem dX8_counters_6 : decode cX8_counters 6 = .ok (.iconst 2, 1) := by decide +kernel
theorem dX8_counters_7 : decode cX8_counters 7 = .ok (.if_icmp .le 5, 3) := by decide +kernel
theorem dX8_counters_10 : decode cX8_counters 10 = .ok (.iconst (-1), 1) := by decide +kernel
theorem dX8_counters_11 : decode cX8_counters 11 = .ok (.ireturn, 1) := by decide +kernel
theorem dX8_counters_12 : decode cX8_counters 12 = .ok (.aload_n 0, 1) := by decide +kernel
theorem dX8_counters_13 : decode cX8_counters 13 = .ok (.getfield 24, 3) := by decide +kernel
theorem dX8_counters_16 : decode cX8_counters 16 = .ok (.getfield 105, 3) := by decide +kernel
theorem dX8_counters_19 : decode cX8_counters 19 = .ok (.istore_n 2, 1) := by decide +kernel
theorem dX8_counters_20 : decode cX8_counters 20 = .ok (.aload_n 0, 1) := by decide +kernel
theorem dX8_counters_21 : decode cX8_counters 21 = .ok (.getfield 24, 3) := by decide +kernel
theorem dX8_counters_24 : decode cX8_counters 24 = .ok (.iload_n 1, 1) := by decide +kernel
theorem dX8_counters_25 : decode cX8_counters 25 = .ok (.putfield 105, 3) := by decide +kernel
theorem dX8_counters_28 : decode cX8_counters 28 = .ok (.iload_n 2, 1) := by decide +kernel
theorem dX8_counters_29 : decode cX8_counters 29 = .ok (.ireturn, 1) := by decide +kernel
set_option maxRecDepth 20000 in
theorem ggX8_comes_X7_isOne : GoodIn wsX8_comes wsX7_isOne := goodIn_r _ [7, 8, 21, 22, 23, 24, 25, 26, 27, 28, 29, 30] (by decide +kernel) (by decide +kernel)
set_option maxRecDepth 20000 in
theorem gX8_comes_X7_isOne : GoodIn wsX8_comes (wsV RX8 108 RX7 yX7_isOne wsX7_isOne) := goodIn_app (goodIn_of _ (by decide +kernel)) ggX8_comes_X7_isOne
theorem dX8_comes_0 : decode cX8_comes 0 = .ok (.aload_n 0, 1) := by decide +kernel
theorem dX8_comes_1 : decode cX8_comes 1 = .ok (.getfield 24, 3) := by decide +kernel
theorem dX8_comes_4 : decode cX8_comes 4 = .ok (.iload_n 1, 1) := by decide +kernel
theorem dX8_comes_5 : decode cX8_comes 5 = .ok (.invokevirtual 108, 3) := by decide +kernel
theorem dX8_comes_8 : decode cX8_comes 8 = .ok (.ifCond .eq 13, 3) := by decide +kernel
theorem dX8_comes_11 : decode cX8_comes 11 = .ok (.iload_n 2, 1) := by decide +kernel
theorem dX8_comes_12 : decode cX8_comes 12 = .ok (.ifCond .lt 9, 3) := by decide +kernel
theorem dX8_comes_15 : decode cX8_comes 15 = .ok (.iload_n 2, 1) := by decide +kernel
theorem dX8_comes_16 : decode cX8_comes 16 = .ok (.bipush 60, 2) := by decide +kernel
theorem dX8_comes_18 : decode cX8_comes 18 = .ok (.if_icmp .le 5, 3) := by decide +kernel
theorem dX8_comes_21 : decode cX8_comes 21 = .ok (.iconst (-1), 1) := by decide +kernel
theorem dX8_comes_22 : decode cX8_comes 22 = .ok (.ireturn, 1) := by decide +kernel
theorem dX8_comes_23 : decode cX8_comes 23 = .ok (.aload_n 0, 1) := by decide +kernel
theorem dX8_comes_24 : decode cX8_comes 24 = .ok (.getfield 24, 3) := by decide +kernel
theorem dX8_comes_27 : decode cX8_comes 27 = .ok (.getfield 116, 3) := by decide +kernel
theorem dX8_comes_30 : decode cX8_comes 30 = .ok (.iload_n 1, 1) := by decide +kernel
theorem dX8_comes_31 : decode cX8_comes 31 = .ok (.iaload, 1) := by decide +kernel
theorem dX8_comes_32 : decode cX8_comes 32 = .ok (.istore_n 3, 1) := by decide +kernel
theorem dX8_comes_33 : decode cX8_comes 33 = .ok (.aload_n 0, 1) := by decide +kernel
theorem dX8_comes_34 : decode cX8_comes 34 = .ok (.getfield 24, 3) := by decide +kernel
theorem dX8_comes_37 : decode cX8_comes 37 = .ok (.getfield 116, 3) := by decide +kernel
theorem dX8_comes_40 : decode cX8_comes 40 = .ok (.iload_n 1, 1) := by decide +kernel
theorem dX8_comes_41 : decode cX8_comes 41 = .ok (.iload_n 2, 1) := by decide +kernel
theorem dX8_comes_42 : decode cX8_comes 42 = .ok (.iastore, 1) := by decide +kernel
theorem dX8_comes_43 : decode cX8_comes 43 = .ok (.iload_n 3, 1) := by decide +kernel
theorem dX8_comes_44 : decode cX8_comes 44 = .ok (.ireturn, 1) := by decide +kernel
set_option maxRecDepth 20000 in
theorem ggX8_debt_X7_canBeDebt : GoodIn wsX8_debt wsX7_canBeDebt := goodIn_r _ [6, 7, 8, 9, 5, 10, 11, 12, 13, 14, 15, 37, 38, 39, 40, 41, 42, 43, 44, 45, 46] (by decide +kernel) (by decide +kernel)
set_option maxRecDepth 20000 in
theorem gX8_debt_X7_canBeDebt : GoodIn wsX8_debt (wsV RX8 145 RX7 yX7_canBeDebt wsX7_canBeDebt) := goodIn_app (goodIn_of _ (by decide +kernel)) ggX8_debt_X7_canBeDebt
set_option maxRecDepth 20000 in
theorem ggX8_debt_X7_owed : GoodIn wsX8_debt wsX7_owed := goodIn_r _ [19, 20, 37, 38, 39, 40, 41, 42, 43, 44, 45, 46] (by decide +kernel) (by decide +kernel)
set_option maxRecDepth 20000 in
theorem gX8_debt_X7_owed : GoodIn wsX8_debt (wsV RX8 135 RX7 yX7_owed wsX7_owed) := goodIn_app (goodIn_of _ (by decide +kernel)) ggX8_debt_X7_owed
set_option maxRecDepth 20000 in
theorem ggX8_debt_X7_setDebt : GoodIn wsX8_debt wsX7_setDebt := goodIn_r _ [24, 20, 37, 38, 39, 40, 41, 42, 43, 44, 45, 46] (by decide +kernel) (by decide +kernel)
set_option maxRecDepth 20000 in
theorem gX8_debt_X7_setDebt : GoodIn wsX8_debt (wsV RX8 149 RX7 yX7_setDebt wsX7_setDebt) := goodIn_app (goodIn_of _ (by decide +kernel)) ggX8_debt_X7_setDebt
theorem dX8_debt_0 : decode cX8_debt 0 = .ok (.aload_n 0, 1) := by decide +kernel
theorem dX8_debt_1 : decode cX8_debt 1 = .ok (.getfield 24, 3) := by decide +kernel
theorem dX8_debt_4 : decode cX8_debt 4 = .ok (.iload_n 1, 1) := by decide +kernel
theorem dX8_debt_5 : decode cX8_debt 5 = .ok (.iload_n 2, 1) := by decide +kernel
theorem dX8_debt_6 : decode cX8_debt 6 = .ok (.iload_n 3, 1) := by decide +kernel
theorem dX8_debt_7 : decode cX8_debt 7 = .ok (.invokevirtual 145, 3) := by decide +kernel
theorem dX8_debt_10 : decode cX8_debt 10 = .ok (.ifCond .ne 5, 3) := by decide +kernel
theorem dX8_debt_13 : decode cX8_debt 13 = .ok (.iconst (-1), 1) := by decide +kernel
theorem dX8_debt_14 : decode cX8_debt 14 = .ok (.ireturn, 1) := by decide +kernel
theorem dX8_debt_15 : decode cX8_debt 15 = .ok (.aload_n 0, 1) := by decide +kernel
theorem dX8_debt_16 : decode cX8_debt 16 = .ok (.getfield 24, 3) := by decide +kernel
theorem dX8_debt_19 : decode cX8_debt 19 = .ok (.iload_n 1, 1) := by decide +kernel
theorem dX8_debt_20 : decode cX8_debt 20 = .ok (.iload_n 2, 1) := by decide +kernel
theorem dX8_debt_21 : decode cX8_debt 21 = .ok (.invokevirtual 135, 3) := by decide +kernel
theorem dX8_debt_24 : decode cX8_debt 24 = .ok (.istore 4, 2) := by decide +kernel
theorem dX8_debt_26 : decode cX8_debt 26 = .ok (.aload_n 0, 1) := by decide +kernel
theorem dX8_debt_27 : decode cX8_debt 27 = .ok (.getfield 24, 3) := by decide +kernel
theorem dX8_debt_30 : decode cX8_debt 30 = .ok (.iload_n 1, 1) := by decide +kernel
theorem dX8_debt_31 : decode cX8_debt 31 = .ok (.iload_n 2, 1) := by decide +kernel
theorem dX8_debt_32 : decode cX8_debt 32 = .ok (.iload_n 3, 1) := by decide +kernel
theorem dX8_debt_33 : decode cX8_debt 33 = .ok (.invokevirtual 149, 3) := by decide +kernel
theorem dX8_debt_36 : decode cX8_debt 36 = .ok (.iload 4, 2) := by decide +kernel
theorem dX8_debt_38 : decode cX8_debt 38 = .ok (.ireturn, 1) := by decide +kernel
set_option maxRecDepth 20000 in
theorem ggX8_pay_X7_areTwo : GoodIn wsX8_pay wsX7_areTwo := goodIn_r _ [7, 8, 9, 10, 6, 11, 12, 40, 41, 42, 43, 44, 45, 46, 47, 48, 49] (by decide +kernel) (by decide +kernel)
set_option maxRecDepth 20000 in
theorem gX8_pay_X7_areTwo : GoodIn wsX8_pay (wsV RX8 131 RX7 yX7_areTwo wsX7_areTwo) := goodIn_app (goodIn_of _ (by decide +kernel)) ggX8_pay_X7_areTwo
set_option maxRecDepth 20000 in
theorem ggX8_pay_X7_owed : GoodIn wsX8_pay wsX7_owed := goodIn_r _ [16, 17, 40, 41, 42, 43, 44, 45, 46, 47, 48, 49] (by decide +kernel) (by decide +kernel)
set_option maxRecDepth 20000 in
theorem gX8_pay_X7_owed : GoodIn wsX8_pay (wsV RX8 135 RX7 yX7_owed wsX7_owed) := goodIn_app (goodIn_of _ (by decide +kernel)) ggX8_pay_X7_owed
set_option maxRecDepth 20000 in
theorem ggX8_pay_X7_payOff : GoodIn wsX8_pay wsX7_payOff := goodIn_r _ [21, 22, 23, 14, 15, 6, 16, 17, 24, 25, 26, 27, 40, 41, 42, 43, 44, 45, 46, 47, 48, 49] (by decide +kernel) (by decide +kernel)
set_option maxRecDepth 20000 in
theorem gX8_pay_X7_payOff : GoodIn wsX8_pay (wsV RX8 153 RX7 yX7_payOff wsX7_payOff) := goodIn_app (goodIn_of _ (by decide +kernel)) ggX8_pay_X7_payOff
theorem dX8_pay_0 : decode cX8_pay 0 = .ok (.aload_n 0, 1) := by decide +kernel
theorem dX8_pay_1 : decode cX8_pay 1 = .ok (.getfield 24, 3) := by decide +kernel
theorem dX8_pay_4 : decode cX8_pay 4 = .ok (.iload_n 1, 1) := by decide +kernel
theorem dX8_pay_5 : decode cX8_pay 5 = .ok (.iload_n 2, 1) := by decide +kernel
theorem dX8_pay_6 : decode cX8_pay 6 = .ok (.invokevirtual 131, 3) := by decide +kernel
theorem dX8_pay_9 : decode cX8_pay 9 = .ok (.ifCond .ne 5, 3) := by decide +kernel
theorem dX8_pay_12 : decode cX8_pay 12 = .ok (.iconst (-1), 1) := by decide +kernel
theorem dX8_pay_13 : decode cX8_pay 13 = .ok (.ireturn, 1) := by decide +kernel
theorem dX8_pay_14 : decode cX8_pay 14 = .ok (.aload_n 0, 1) := by decide +kernel
theorem dX8_pay_15 : decode cX8_pay 15 = .ok (.getfield 24, 3) := by decide +kernel
theorem dX8_pay_18 : decode cX8_pay 18 = .ok (.iload_n 1, 1) := by decide +kernel
theorem dX8_pay_19 : decode cX8_pay 19 = .ok (.iload_n 2, 1) := by decide +kernel
theorem dX8_pay_20 : decode cX8_pay 20 = .ok (.invokevirtual 135, 3) := by decide +kernel
theorem dX8_pay_23 : decode cX8_pay 23 = .ok (.istore_n 3, 1) := by decide +kernel
theorem dX8_pay_24 : decode cX8_pay 24 = .ok (.aload_n 0, 1) := by decide +kernel
theorem dX8_pay_25 : decode cX8_pay 25 = .ok (.getfield 24, 3) := by decide +kernel
theorem dX8_pay_28 : decode cX8_pay 28 = .ok (.getfield 125, 3) := by decide +kernel
theorem dX8_pay_31 : decode cX8_pay 31 = .ok (.iload_n 1, 1) := by decide +kernel
theorem dX8_pay_32 : decode cX8_pay 32 = .ok (.iaload, 1) := by decide +kernel
theorem dX8_pay_33 : decode cX8_pay 33 = .ok (.iload_n 3, 1) := by decide +kernel
theorem dX8_pay_34 : decode cX8_pay 34 = .ok (.if_icmp .ge 6, 3) := by decide +kernel
theorem dX8_pay_37 : decode cX8_pay 37 = .ok (.bipush (-2), 2) := by decide +kernel
theorem dX8_pay_39 : decode cX8_pay 39 = .ok (.ireturn, 1) := by decide +kernel
theorem dX8_pay_40 : decode cX8_pay 40 = .ok (.iload_n 3, 1) := by decide +kernel
theorem dX8_pay_41 : decode cX8_pay 41 = .ok (.ifCond .ne 8, 3) := by decide +kernel
theorem dX8_pay_44 : decode cX8_pay 44 = .ok (.bipush (-4), 2) := by decide +kernel
theorem dX8_pay_46 : decode cX8_pay 46 = .ok (.goto 12, 3) := by decide +kernel
theorem dX8_pay_49 : decode cX8_pay 49 = .ok (.aload_n 0, 1) := by decide +kernel
theorem dX8_pay_50 : decode cX8_pay 50 = .ok (.getfield 24, 3) := by decide +kernel
theorem dX8_pay_53 : decode cX8_pay 53 = .ok (.iload_n 1, 1) := by decide +kernel
theorem dX8_pay_54 : decode cX8_pay 54 = .ok (.iload_n 2, 1) := by decide +kernel
theorem dX8_pay_55 : decode cX8_pay 55 = .ok (.invokevirtual 153, 3) := by decide +kernel
theorem dX8_pay_58 : decode cX8_pay 58 = .ok (.ireturn, 1) := by decide +kernel
set_option maxRecDepth 20000 in
theorem ggX8_lend_X7_areTwo : GoodIn wsX8_lend wsX7_areTwo := goodIn_r _ [7, 8, 9, 10, 6, 11, 12, 40, 41, 42, 43, 44, 45, 46, 47, 48, 49] (by decide +kernel) (by decide +kernel)
set_option maxRecDepth 20000 in
theorem gX8_lend_X7_areTwo : GoodIn wsX8_lend (wsV RX8 131 RX7 yX7_areTwo wsX7_areTwo) := goodIn_app (goodIn_of _ (by decide +kernel)) ggX8_lend_X7_areTwo
set_option maxRecDepth 20000 in
theorem ggX8_lend_X7_owed : GoodIn wsX8_lend wsX7_owed := goodIn_r _ [16, 17, 40, 41, 42, 43, 44, 45, 46, 47, 48, 49] (by decide +kernel) (by decide +kernel)
set_option maxRecDepth 20000 in
theorem gX8_lend_X7_owed : GoodIn wsX8_lend (wsV RX8 135 RX7 yX7_owed wsX7_owed) := goodIn_app (goodIn_of _ (by decide +kernel)) ggX8_lend_X7_owed
set_option maxRecDepth 20000 in
theorem ggX8_lend_X7_lendCoins : GoodIn wsX8_lend wsX7_lendCoins := goodIn_r _ [21, 22, 23, 14, 15, 6, 16, 17, 24, 25, 26, 27, 40, 41, 42, 43, 44, 45, 46, 47, 48, 49] (by decide +kernel) (by decide +kernel)
set_option maxRecDepth 20000 in
theorem gX8_lend_X7_lendCoins : GoodIn wsX8_lend (wsV RX8 156 RX7 yX7_lendCoins wsX7_lendCoins) := goodIn_app (goodIn_of _ (by decide +kernel)) ggX8_lend_X7_lendCoins
theorem dX8_lend_0 : decode cX8_lend 0 = .ok (.aload_n 0, 1) := by decide +kernel
theorem dX8_lend_1 : decode cX8_lend 1 = .ok (.getfield 24, 3) := by decide +kernel
theorem dX8_lend_4 : decode cX8_lend 4 = .ok (.iload_n 1, 1) := by decide +kernel
theorem dX8_lend_5 : decode cX8_lend 5 = .ok (.iload_n 2, 1) := by decide +kernel
theorem dX8_lend_6 : decode cX8_lend 6 = .ok (.invokevirtual 131, 3) := by decide +kernel
theorem dX8_lend_9 : decode cX8_lend 9 = .ok (.ifCond .eq 14, 3) := by decide +kernel
theorem dX8_lend_12 : decode cX8_lend 12 = .ok (.iload_n 3, 1) := by decide +kernel
theorem dX8_lend_13 : decode cX8_lend 13 = .ok (.iconst 1, 1) := by decide +kernel
theorem dX8_lend_14 : decode cX8_lend 14 = .ok (.if_icmp .lt 9, 3) := by decide +kernel
theorem dX8_lend_17 : decode cX8_lend 17 = .ok (.iload_n 3, 1) := by decide +kernel
theorem dX8_lend_18 : decode cX8_lend 18 = .ok (.bipush 50, 2) := by decide +kernel
theorem dX8_lend_20 : decode cX8_lend 20 = .ok (.if_icmp .le 5, 3) := by decide +kernel
theorem dX8_lend_23 : decode cX8_lend 23 = .ok (.iconst (-1), 1) := by decide +kernel
theorem dX8_lend_24 : decode cX8_lend 24 = .ok (.ireturn, 1) := by decide +kernel
theorem dX8_lend_25 : decode cX8_lend 25 = .ok (.aload_n 0, 1) := by decide +kernel
theorem dX8_lend_26 : decode cX8_lend 26 = .ok (.getfield 24, 3) := by decide +kernel
theorem dX8_lend_29 : decode cX8_lend 29 = .ok (.getfield 125, 3) := by decide +kernel
theorem dX8_lend_32 : decode cX8_lend 32 = .ok (.iload_n 1, 1) := by decide +kernel
theorem dX8_lend_33 : decode cX8_lend 33 = .ok (.iaload, 1) := by decide +kernel
theorem dX8_lend_34 : decode cX8_lend 34 = .ok (.iload_n 3, 1) := by decide +kernel
theorem dX8_lend_35 : decode cX8_lend 35 = .ok (.if_icmp .ge 6, 3) := by decide +kernel
theorem dX8_lend_38 : decode cX8_lend 38 = .ok (.bipush (-2), 2) := by decide +kernel
theorem dX8_lend_40 : decode cX8_lend 40 = .ok (.ireturn, 1) := by decide +kernel
theorem dX8_lend_41 : decode cX8_lend 41 = .ok (.aload_n 0, 1) := by decide +kernel
theorem dX8_lend_42 : decode cX8_lend 42 = .ok (.getfield 24, 3) := by decide +kernel
theorem dX8_lend_45 : decode cX8_lend 45 = .ok (.iload_n 2, 1) := by decide +kernel
theorem dX8_lend_46 : decode cX8_lend 46 = .ok (.iload_n 1, 1) := by decide +kernel
theorem dX8_lend_47 : decode cX8_lend 47 = .ok (.invokevirtual 135, 3) := by decide +kernel
theorem dX8_lend_50 : decode cX8_lend 50 = .ok (.iload_n 3, 1) := by decide +kernel
theorem dX8_lend_51 : decode cX8_lend 51 = .ok (.iadd, 1) := by decide +kernel
theorem dX8_lend_52 : decode cX8_lend 52 = .ok (.sipush 999, 3) := by decide +kernel
theorem dX8_lend_55 : decode cX8_lend 55 = .ok (.if_icmp .le 6, 3) := by decide +kernel
theorem dX8_lend_58 : decode cX8_lend 58 = .ok (.bipush (-3), 2) := by decide +kernel
theorem dX8_lend_60 : decode cX8_lend 60 = .ok (.ireturn, 1) := by decide +kernel
theorem dX8_lend_61 : decode cX8_lend 61 = .ok (.aload_n 0, 1) := by decide +kernel
theorem dX8_lend_62 : decode cX8_lend 62 = .ok (.getfield 24, 3) := by decide +kernel
theorem dX8_lend_65 : decode cX8_lend 65 = .ok (.iload_n 1, 1) := by decide +kernel
theorem dX8_lend_66 : decode cX8_lend 66 = .ok (.iload_n 2, 1) := by decide +kernel
theorem dX8_lend_67 : decode cX8_lend 67 = .ok (.iload_n 3, 1) := by decide +kernel
theorem dX8_lend_68 : decode cX8_lend 68 = .ok (.invokevirtual 156, 3) := by decide +kernel
theorem dX8_lend_71 : decode cX8_lend 71 = .ok (.aload_n 0, 1) := by decide +kernel
theorem dX8_lend_72 : decode cX8_lend 72 = .ok (.getfield 24, 3) := by decide +kernel
theorem dX8_lend_75 : decode cX8_lend 75 = .ok (.iload_n 2, 1) := by decide +kernel
theorem dX8_lend_76 : decode cX8_lend 76 = .ok (.iload_n 1, 1) := by decide +kernel
theorem dX8_lend_77 : decode cX8_lend 77 = .ok (.invokevirtual 135, 3) := by decide +kernel
theorem dX8_lend_80 : decode cX8_lend 80 = .ok (.ireturn, 1) := by decide +kernel
set_option maxRecDepth 20000 in
theorem ggX8_sell_X7_areTwo : GoodIn wsX8_sell wsX7_areTwo := goodIn_r _ [6, 7, 8, 9, 5, 10, 11, 34, 35, 36, 37, 38, 39, 40, 41, 42, 43] (by decide +kernel) (by decide +kernel)
set_option maxRecDepth 20000 in
theorem gX8_sell_X7_areTwo : GoodIn wsX8_sell (wsV RX8 131 RX7 yX7_areTwo wsX7_areTwo) := goodIn_app (goodIn_of _ (by decide +kernel)) ggX8_sell_X7_areTwo
set_option maxRecDepth 20000 in
theorem ggX8_sell_X7_isOne : GoodIn wsX8_sell wsX7_isOne := goodIn_r _ [10, 11, 34, 35, 36, 37, 38, 39, 40, 41, 42, 43] (by decide +kernel) (by decide +kernel)
set_option maxRecDepth 20000 in
theorem gX8_sell_X7_isOne : GoodIn wsX8_sell (wsV RX8 108 RX7 yX7_isOne wsX7_isOne) := goodIn_app (goodIn_of _ (by decide +kernel)) ggX8_sell_X7_isOne
set_option maxRecDepth 20000 in
theorem ggX8_sell_X7_owed : GoodIn wsX8_sell wsX7_owed := goodIn_r _ [16, 17, 34, 35, 36, 37, 38, 39, 40, 41, 42, 43] (by decide +kernel) (by decide +kernel)
set_option maxRecDepth 20000 in
theorem gX8_sell_X7_owed : GoodIn wsX8_sell (wsV RX8 135 RX7 yX7_owed wsX7_owed) := goodIn_app (goodIn_of _ (by decide +kernel)) ggX8_sell_X7_owed
set_option maxRecDepth 20000 in
theorem ggX8_sell_X7_setDebt : GoodIn wsX8_sell wsX7_setDebt := goodIn_r _ [21, 17, 34, 35, 36, 37, 38, 39, 40, 41, 42, 43] (by decide +kernel) (by decide +kernel)
set_option maxRecDepth 20000 in
theorem gX8_sell_X7_setDebt : GoodIn wsX8_sell (wsV RX8 149 RX7 yX7_setDebt wsX7_setDebt) := goodIn_app (goodIn_of _ (by decide +kernel)) ggX8_sell_X7_setDebt
theorem dX8_sell_0 : decode cX8_sell 0 = .ok (.aload_n 0, 1) := by decide +kernel
theorem dX8_sell_1 : decode cX8_sell 1 = .ok (.getfield 24, 3) := by decide +kernel
theorem dX8_sell_4 : decode cX8_sell 4 = .ok (.iload_n 1, 1) := by decide +kernel
theorem dX8_sell_5 : decode cX8_sell 5 = .ok (.iload_n 2, 1) := by decide +kernel
theorem dX8_sell_6 : decode cX8_sell 6 = .ok (.invokevirtual 131, 3) := by decide +kernel
theorem dX8_sell_9 : decode cX8_sell 9 = .ok (.ifCond .eq 19, 3) := by decide +kernel
theorem dX8_sell_12 : decode cX8_sell 12 = .ok (.aload_n 0, 1) := by decide +kernel
theorem dX8_sell_13 : decode cX8_sell 13 = .ok (.getfield 24, 3) := by decide +kernel
theorem dX8_sell_16 : decode cX8_sell 16 = .ok (.iload_n 3, 1) := by decide +kernel
theorem dX8_sell_17 : decode cX8_sell 17 = .ok (.invokevirtual 108, 3) := by decide +kernel
theorem dX8_sell_20 : decode cX8_sell 20 = .ok (.ifCond .eq 8, 3) := by decide +kernel
theorem dX8_sell_23 : decode cX8_sell 23 = .ok (.iload_n 2, 1) := by decide +kernel
theorem dX8_sell_24 : decode cX8_sell 24 = .ok (.iload_n 3, 1) := by decide +kernel
theorem dX8_sell_25 : decode cX8_sell 25 = .ok (.if_icmp .ne 5, 3) := by decide +kernel
theorem dX8_sell_28 : decode cX8_sell 28 = .ok (.iconst (-1), 1) := by decide +kernel
theorem dX8_sell_29 : decode cX8_sell 29 = .ok (.ireturn, 1) := by decide +kernel
theorem dX8_sell_30 : decode cX8_sell 30 = .ok (.aload_n 0, 1) := by decide +kernel
theorem dX8_sell_31 : decode cX8_sell 31 = .ok (.getfield 24, 3) := by decide +kernel
theorem dX8_sell_34 : decode cX8_sell 34 = .ok (.iload_n 1, 1) := by decide +kernel
theorem dX8_sell_35 : decode cX8_sell 35 = .ok (.iload_n 2, 1) := by decide +kernel
theorem dX8_sell_36 : decode cX8_sell 36 = .ok (.invokevirtual 135, 3) := by decide +kernel
theorem dX8_sell_39 : decode cX8_sell 39 = .ok (.istore 4, 2) := by decide +kernel
theorem dX8_sell_41 : decode cX8_sell 41 = .ok (.iload 4, 2) := by decide +kernel
theorem dX8_sell_43 : decode cX8_sell 43 = .ok (.ifCond .ne 6, 3) := by decide +kernel
theorem dX8_sell_46 : decode cX8_sell 46 = .ok (.bipush (-4), 2) := by decide +kernel
theorem dX8_sell_48 : decode cX8_sell 48 = .ok (.ireturn, 1) := by decide +kernel
theorem dX8_sell_49 : decode cX8_sell 49 = .ok (.iload_n 3, 1) := by decide +kernel
theorem dX8_sell_50 : decode cX8_sell 50 = .ok (.iload_n 1, 1) := by decide +kernel
theorem dX8_sell_51 : decode cX8_sell 51 = .ok (.if_icmp .ne 7, 3) := by decide +kernel
theorem dX8_sell_54 : decode cX8_sell 54 = .ok (.iconst 0, 1) := by decide +kernel
theorem dX8_sell_55 : decode cX8_sell 55 = .ok (.goto 15, 3) := by decide +kernel
theorem dX8_sell_58 : decode cX8_sell 58 = .ok (.aload_n 0, 1) := by decide +kernel
theorem dX8_sell_59 : decode cX8_sell 59 = .ok (.getfield 24, 3) := by decide +kernel
theorem dX8_sell_62 : decode cX8_sell 62 = .ok (.iload_n 1, 1) := by decide +kernel
theorem dX8_sell_63 : decode cX8_sell 63 = .ok (.iload_n 3, 1) := by decide +kernel
theorem dX8_sell_64 : decode cX8_sell 64 = .ok (.invokevirtual 135, 3) := by decide +kernel
theorem dX8_sell_67 : decode cX8_sell 67 = .ok (.iload 4, 2) := by decide +kernel
theorem dX8_sell_69 : decode cX8_sell 69 = .ok (.iadd, 1) := by decide +kernel
theorem dX8_sell_70 : decode cX8_sell 70 = .ok (.istore 5, 2) := by decide +kernel
theorem dX8_sell_72 : decode cX8_sell 72 = .ok (.iload 5, 2) := by decide +kernel
theorem dX8_sell_74 : decode cX8_sell 74 = .ok (.sipush 999, 3) := by decide +kernel
theorem dX8_sell_77 : decode cX8_sell 77 = .ok (.if_icmp .le 6, 3) := by decide +kernel
theorem dX8_sell_80 : decode cX8_sell 80 = .ok (.bipush (-3), 2) := by decide +kernel
theorem dX8_sell_82 : decode cX8_sell 82 = .ok (.ireturn, 1) := by decide +kernel
theorem dX8_sell_83 : decode cX8_sell 83 = .ok (.aload_n 0, 1) := by decide +kernel
theorem dX8_sell_84 : decode cX8_sell 84 = .ok (.getfield 24, 3) := by decide +kernel
theorem dX8_sell_87 : decode cX8_sell 87 = .ok (.iload_n 1, 1) := by decide +kernel
theorem dX8_sell_88 : decode cX8_sell 88 = .ok (.iload_n 2, 1) := by decide +kernel
theorem dX8_sell_89 : decode cX8_sell 89 = .ok (.iconst 0, 1) := by decide +kernel
theorem dX8_sell_90 : decode cX8_sell 90 = .ok (.invokevirtual 149, 3) := by decide +kernel
theorem dX8_sell_93 : decode cX8_sell 93 = .ok (.aload_n 0, 1) := by decide +kernel
theorem dX8_sell_94 : decode cX8_sell 94 = .ok (.getfield 24, 3) := by decide +kernel
theorem dX8_sell_97 : decode cX8_sell 97 = .ok (.iload_n 1, 1) := by decide +kernel
theorem dX8_sell_98 : decode cX8_sell 98 = .ok (.iload_n 3, 1) := by decide +kernel
theorem dX8_sell_99 : decode cX8_sell 99 = .ok (.iload 5, 2) := by decide +kernel
theorem dX8_sell_101 : decode cX8_sell 101 = .ok (.invokevirtual 149, 3) := by decide +kernel
theorem dX8_sell_104 : decode cX8_sell 104 = .ok (.iload 5, 2) := by decide +kernel
theorem dX8_sell_106 : decode cX8_sell 106 = .ok (.ireturn, 1) := by decide +kernel
set_option maxRecDepth 20000 in
theorem ggX8_served_X7_isOne : GoodIn wsX8_served wsX7_isOne := goodIn_r _ [8, 9, 115, 116, 117, 118, 119, 120, 121, 122, 123, 124] (by decide +kernel) (by decide +kernel)
set_option maxRecDepth 20000 in
theorem gX8_served_X7_isOne : GoodIn wsX8_served (wsV RX8 108 RX7 yX7_isOne wsX7_isOne) := goodIn_app (goodIn_of _ (by decide +kernel)) ggX8_served_X7_isOne
set_option maxRecDepth 20000 in
theorem ggX8_served_X8_runUntil : GoodIn wsX8_served wsX8_runUntil := goodIn_r _ [14, 2, 1, 15, 16, 17, 18, 19, 20, 21, 22, 23, 24, 25, 26, 27, 7, 28, 9, 29, 30, 31, 32, 33, 34, 35, 36, 37, 38, 39, 40, 41, 42, 43, 44, 45, 46, 47, 48, 49, 50, 51, 52, 53, 54, 55, 56, 57, 58, 59, 60, 61, 62, 63, 64, 65, 66, 67, 68, 69, 70, 71, 72, 73, 74, 75, 76, 77, 78, 79, 80, 81, 82, 83, 84, 85, 86, 87, 88, 89, 90, 91, 92, 93, 94, 95, 96, 97, 98, 99, 100, 101, 102, 103, 104, 105, 106, 107, 108, 109, 110, 111, 112, 113, 114, 125, 126, 115, 116, 117, 118, 119, 120, 121, 122, 123, 124] (by decide +kernel) (by decide +kernel)
set_option maxRecDepth 20000 in
theorem gX8_served_X8_runUntil : GoodIn wsX8_served (wsV RX8 159 RX8 yX8_runUntil wsX8_runUntil) := goodIn_app (goodIn_of _ (by decide +kernel)) ggX8_served_X8_runUntil
theorem dX8_served_0 : decode cX8_served 0 = .ok (.aload_n 0, 1) := by decide +kernel
theorem dX8_served_1 : decode cX8_served 1 = .ok (.getfield 24, 3) := by decide +kernel
theorem dX8_served_4 : decode cX8_served 4 = .ok (.iload_n 1, 1) := by decide +kernel
theorem dX8_served_5 : decode cX8_served 5 = .ok (.invokevirtual 108, 3) := by decide +kernel
theorem dX8_served_8 : decode cX8_served 8 = .ok (.ifCond .ne 5, 3) := by decide +kernel
theorem dX8_served_11 : decode cX8_served 11 = .ok (.iconst (-1), 1) := by decide +kernel
theorem dX8_served_12 : decode cX8_served 12 = .ok (.ireturn, 1) := by decide +kernel
theorem dX8_served_13 : decode cX8_served 13 = .ok (.aload_n 0, 1) := by decide +kernel
theorem dX8_served_14 : decode cX8_served 14 = .ok (.sipush 130, 3) := by decide +kernel
theorem dX8_served_17 : decode cX8_served 17 = .ok (.invokevirtual 159, 3) := by decide +kernel
theorem dX8_served_20 : decode cX8_served 20 = .ok (.aload_n 0, 1) := by decide +kernel
theorem dX8_served_21 : decode cX8_served 21 = .ok (.getfield 39, 3) := by decide +kernel
theorem dX8_served_24 : decode cX8_served 24 = .ok (.getfield 163, 3) := by decide +kernel
theorem dX8_served_27 : decode cX8_served 27 = .ok (.iload_n 1, 1) := by decide +kernel
theorem dX8_served_28 : decode cX8_served 28 = .ok (.iaload, 1) := by decide +kernel
theorem dX8_served_29 : decode cX8_served 29 = .ok (.ireturn, 1) := by decide +kernel
set_option maxRecDepth 20000 in
theorem ggX8_waits_X7_isOne : GoodIn wsX8_waits wsX7_isOne := goodIn_r _ [7, 8, 113, 114, 115, 116, 117, 118, 119, 120, 121, 122] (by decide +kernel) (by decide +kernel)
set_option maxRecDepth 20000 in
theorem gX8_waits_X7_isOne : GoodIn wsX8_waits (wsV RX8 108 RX7 yX7_isOne wsX7_isOne) := goodIn_app (goodIn_of _ (by decide +kernel)) ggX8_waits_X7_isOne
set_option maxRecDepth 20000 in
theorem ggX8_waits_X8_runUntil : GoodIn wsX8_waits wsX8_runUntil := goodIn_r _ [13, 2, 1, 14, 15, 16, 17, 18, 19, 20, 21, 22, 23, 24, 25, 26, 6, 27, 8, 28, 29, 30, 31, 32, 33, 34, 35, 36, 37, 38, 39, 40, 41, 42, 43, 44, 45, 46, 47, 48, 49, 50, 51, 52, 53, 54, 55, 56, 57, 58, 59, 60, 61, 62, 63, 64, 65, 66, 67, 68, 69, 70, 71, 72, 73, 74, 75, 76, 77, 78, 79, 80, 81, 82, 83, 84, 85, 86, 87, 88, 89, 90, 91, 92, 93, 94, 95, 96, 101, 102, 103, 104, 105, 106, 107, 108, 109, 110, 111, 112, 123, 124, 125, 126, 127, 128, 129, 113, 114, 115, 116, 117, 118, 119, 120, 121, 122] (by decide +kernel) (by decide +kernel)
set_option maxRecDepth 20000 in
theorem gX8_waits_X8_runUntil : GoodIn wsX8_waits (wsV RX8 159 RX8 yX8_runUntil wsX8_runUntil) := goodIn_app (goodIn_of _ (by decide +kernel)) ggX8_waits_X8_runUntil
set_option maxRecDepth 20000 in
theorem ggX8_waits_X4_waitOf : GoodIn wsX8_waits wsX4_waitOf := goodIn_r _ [100, 83, 19, 46, 123, 124, 125, 126, 127, 113, 114, 115, 116, 117, 118, 119, 120, 121, 122] (by decide +kernel) (by decide +kernel)
set_option maxRecDepth 20000 in
theorem gX8_waits_X4_waitOf : GoodIn wsX8_waits (wsV RX8 166 RX4 yX4_waitOf wsX4_waitOf) := goodIn_app (goodIn_of _ (by decide +kernel)) ggX8_waits_X4_waitOf
theorem dX8_waits_0 : decode cX8_waits 0 = .ok (.aload_n 0, 1) := by decide +kernel
theorem dX8_waits_1 : decode cX8_waits 1 = .ok (.getfield 24, 3) := by decide +kernel
theorem dX8_waits_4 : decode cX8_waits 4 = .ok (.iload_n 1, 1) := by decide +kernel
theorem dX8_waits_5 : decode cX8_waits 5 = .ok (.invokevirtual 108, 3) := by decide +kernel
theorem dX8_waits_8 : decode cX8_waits 8 = .ok (.ifCond .ne 5, 3) := by decide +kernel
theorem dX8_waits_11 : decode cX8_waits 11 = .ok (.iconst (-1), 1) := by decide +kernel
theorem dX8_waits_12 : decode cX8_waits 12 = .ok (.ireturn, 1) := by decide +kernel
theorem dX8_waits_13 : decode cX8_waits 13 = .ok (.aload_n 0, 1) := by decide +kernel
theorem dX8_waits_14 : decode cX8_waits 14 = .ok (.sipush 130, 3) := by decide +kernel
theorem dX8_waits_17 : decode cX8_waits 17 = .ok (.invokevirtual 159, 3) := by decide +kernel
theorem dX8_waits_20 : decode cX8_waits 20 = .ok (.aload_n 0, 1) := by decide +kernel
theorem dX8_waits_21 : decode cX8_waits 21 = .ok (.getfield 39, 3) := by decide +kernel
theorem dX8_waits_24 : decode cX8_waits 24 = .ok (.iload_n 1, 1) := by decide +kernel
theorem dX8_waits_25 : decode cX8_waits 25 = .ok (.invokevirtual 166, 3) := by decide +kernel
theorem dX8_waits_28 : decode cX8_waits 28 = .ok (.ireturn, 1) := by decide +kernel
set_option maxRecDepth 20000 in
theorem ggX8_place_X7_isOne : GoodIn wsX8_place wsX7_isOne := goodIn_r _ [8, 9, 122, 123, 124, 125, 126, 127, 128, 129, 130, 131] (by decide +kernel) (by decide +kernel)
set_option maxRecDepth 20000 in
theorem gX8_place_X7_isOne : GoodIn wsX8_place (wsV RX8 108 RX7 yX7_isOne wsX7_isOne) := goodIn_app (goodIn_of _ (by decide +kernel)) ggX8_place_X7_isOne
set_option maxRecDepth 20000 in
theorem ggX8_place_X8_isMinute : GoodIn wsX8_place wsX8_isMinute := goodIn_r _ [13] (by decide +kernel) (by decide +kernel)
set_option maxRecDepth 20000 in
theorem gX8_place_X8_isMinute : GoodIn wsX8_place (va_wsS RX8 170 yX8_isMinute wsX8_isMinute) := goodIn_app (goodIn_of _ (by decide +kernel)) ggX8_place_X8_isMinute
set_option maxRecDepth 20000 in
theorem ggX8_place_X8_runUntil : GoodIn wsX8_place wsX8_runUntil := goodIn_r _ [17, 2, 1, 18, 19, 20, 21, 22, 23, 24, 25, 26, 27, 28, 29, 30, 7, 31, 9, 32, 33, 34, 35, 36, 37, 38, 39, 40, 41, 42, 43, 44, 45, 46, 47, 48, 49, 50, 51, 52, 53, 54, 55, 56, 57, 58, 59, 60, 61, 62, 63, 64, 65, 66, 67, 68, 69, 70, 71, 72, 73, 74, 75, 76, 77, 78, 79, 80, 81, 82, 83, 84, 85, 86, 87, 88, 89, 90, 91, 92, 93, 94, 95, 96, 97, 98, 99, 100, 105, 106, 107, 108, 109, 110, 111, 112, 113, 114, 115, 116, 117, 118, 119, 120, 121, 132, 133, 122, 123, 124, 125, 126, 127, 128, 129, 130, 131] (by decide +kernel) (by decide +kernel)
set_option maxRecDepth 20000 in
theorem gX8_place_X8_runUntil : GoodIn wsX8_place (wsV RX8 159 RX8 yX8_runUntil wsX8_runUntil) := goodIn_app (goodIn_of _ (by decide +kernel)) ggX8_place_X8_runUntil
set_option maxRecDepth 20000 in
theorem ggX8_place_X3_placeOf : GoodIn wsX8_place wsX3_placeOf := goodIn_r _ [104, 56, 57, 132, 133] (by decide +kernel) (by decide +kernel)
set_option maxRecDepth 20000 in
theorem gX8_place_X3_placeOf : GoodIn wsX8_place (wsV RX8 176 RX3 yX3_placeOf wsX3_placeOf) := goodIn_app (goodIn_of _ (by decide +kernel)) ggX8_place_X3_placeOf
theorem dX8_place_0 : decode cX8_place 0 = .ok (.aload_n 0, 1) := by decide +kernel
theorem dX8_place_1 : decode cX8_place 1 = .ok (.getfield 24, 3) := by decide +kernel
theorem dX8_place_4 : decode cX8_place 4 = .ok (.iload_n 1, 1) := by decide +kernel
theorem dX8_place_5 : decode cX8_place 5 = .ok (.invokevirtual 108, 3) := by decide +kernel
theorem dX8_place_8 : decode cX8_place 8 = .ok (.ifCond .eq 10, 3) := by decide +kernel
theorem dX8_place_11 : decode cX8_place 11 = .ok (.iload_n 2, 1) := by decide +kernel
theorem dX8_place_12 : decode cX8_place 12 = .ok (.invokestatic 170, 3) := by decide +kernel
theorem dX8_place_15 : decode cX8_place 15 = .ok (.ifCond .ne 5, 3) := by decide +kernel
theorem dX8_place_18 : decode cX8_place 18 = .ok (.iconst (-1), 1) := by decide +kernel
theorem dX8_place_19 : decode cX8_place 19 = .ok (.ireturn, 1) := by decide +kernel
theorem dX8_place_20 : decode cX8_place 20 = .ok (.aload_n 0, 1) := by decide +kernel
theorem dX8_place_21 : decode cX8_place 21 = .ok (.iload_n 2, 1) := by decide +kernel
theorem dX8_place_22 : decode cX8_place 22 = .ok (.invokevirtual 159, 3) := by decide +kernel
theorem dX8_place_25 : decode cX8_place 25 = .ok (.aload_n 0, 1) := by decide +kernel
theorem dX8_place_26 : decode cX8_place 26 = .ok (.getfield 39, 3) := by decide +kernel
theorem dX8_place_29 : decode cX8_place 29 = .ok (.getfield 173, 3) := by decide +kernel
theorem dX8_place_32 : decode cX8_place 32 = .ok (.iload_n 1, 1) := by decide +kernel
theorem dX8_place_33 : decode cX8_place 33 = .ok (.invokevirtual 176, 3) := by decide +kernel
theorem dX8_place_36 : decode cX8_place 36 = .ok (.ireturn, 1) := by decide +kernel
set_option maxRecDepth 20000 in
theorem ggX8_row_X8_isMinute : GoodIn wsX8_row wsX8_isMinute := goodIn_r _ [6] (by decide +kernel) (by decide +kernel)
set_option maxRecDepth 20000 in
theorem gX8_row_X8_isMinute : GoodIn wsX8_row (va_wsS RX8 170 yX8_isMinute wsX8_isMinute) := goodIn_app (goodIn_of _ (by decide +kernel)) ggX8_row_X8_isMinute
set_option maxRecDepth 20000 in
theorem ggX8_row_X8_runUntil : GoodIn wsX8_row wsX8_runUntil := goodIn_r _ [10, 1, 11, 12, 13, 14, 15, 16, 17, 18, 19, 20, 21, 22, 23, 24, 25, 26, 27, 28, 29, 30, 31, 32, 33, 34, 35, 36, 37, 38, 39, 40, 41, 42, 43, 44, 45, 46, 47, 48, 49, 50, 51, 52, 53, 54, 55, 56, 57, 58, 59, 60, 61, 62, 63, 64, 65, 66, 67, 68, 69, 70, 71, 72, 73, 74, 75, 76, 77, 78, 79, 80, 81, 82, 83, 84, 85, 86, 87, 88, 89, 90, 91, 92, 93, 94, 95, 96, 101, 102, 103, 104, 105, 106, 107, 108, 109, 110, 111, 112, 113, 114, 115, 116, 117, 118, 119, 120, 121, 122, 123, 124, 125, 126, 127, 128, 129] (by decide +kernel) (by decide +kernel)
set_option maxRecDepth 20000 in
theorem gX8_row_X8_runUntil : GoodIn wsX8_row (wsV RX8 159 RX8 yX8_runUntil wsX8_runUntil) := goodIn_app (goodIn_of _ (by decide +kernel)) ggX8_row_X8_runUntil
set_option maxRecDepth 20000 in
theorem ggX8_row_X3_oneAt : GoodIn wsX8_row wsX3_oneAt := goodIn_r _ [100, 52, 53, 118, 119] (by decide +kernel) (by decide +kernel)
set_option maxRecDepth 20000 in
theorem gX8_row_X3_oneAt : GoodIn wsX8_row (wsV RX8 179 RX3 yX3_oneAt wsX3_oneAt) := goodIn_app (goodIn_of _ (by decide +kernel)) ggX8_row_X3_oneAt
theorem dX8_row_0 : decode cX8_row 0 = .ok (.iload_n 1, 1) := by decide +kernel
theorem dX8_row_1 : decode cX8_row 1 = .ok (.invokestatic 170, 3) := by decide +kernel
theorem dX8_row_4 : decode cX8_row 4 = .ok (.ifCond .eq 13, 3) := by decide +kernel
theorem dX8_row_7 : decode cX8_row 7 = .ok (.iload_n 2, 1) := by decide +kernel
theorem dX8_row_8 : decode cX8_row 8 = .ok (.ifCond .lt 9, 3) := by decide +kernel
theorem dX8_row_11 : decode cX8_row 11 = .ok (.iload_n 2, 1) := by decide +kernel
theorem dX8_row_12 : decode cX8_row 12 = .ok (.bipush 7, 2) := by decide +kernel
theorem dX8_row_14 : decode cX8_row 14 = .ok (.if_icmp .lt 5, 3) := by decide +kernel
theorem dX8_row_17 : decode cX8_row 17 = .ok (.iconst (-1), 1) := by decide +kernel
theorem dX8_row_18 : decode cX8_row 18 = .ok (.ireturn, 1) := by decide +kernel
theorem dX8_row_19 : decode cX8_row 19 = .ok (.aload_n 0, 1) := by decide +kernel
theorem dX8_row_20 : decode cX8_row 20 = .ok (.iload_n 1, 1) := by decide +kernel
theorem dX8_row_21 : decode cX8_row 21 = .ok (.invokevirtual 159, 3) := by decide +kernel
theorem dX8_row_24 : decode cX8_row 24 = .ok (.aload_n 0, 1) := by decide +kernel
theorem dX8_row_25 : decode cX8_row 25 = .ok (.getfield 39, 3) := by decide +kernel
theorem dX8_row_28 : decode cX8_row 28 = .ok (.getfield 173, 3) := by decide +kernel
theorem dX8_row_31 : decode cX8_row 31 = .ok (.iload_n 2, 1) := by decide +kernel
theorem dX8_row_32 : decode cX8_row 32 = .ok (.invokevirtual 179, 3) := by decide +kernel
theorem dX8_row_35 : decode cX8_row 35 = .ok (.ireturn, 1) := by decide +kernel
set_option maxRecDepth 20000 in
theorem ggX8_all_X8_isSum : GoodIn wsX8_all wsX8_isSum := goodIn_r _ [5] (by decide +kernel) (by decide +kernel)
set_option maxRecDepth 20000 in
theorem gX8_all_X8_isSum : GoodIn wsX8_all (va_wsS RX8 182 yX8_isSum wsX8_isSum) := goodIn_app (goodIn_of _ (by decide +kernel)) ggX8_all_X8_isSum
set_option maxRecDepth 20000 in
theorem ggX8_all_X8_runUntil : GoodIn wsX8_all wsX8_runUntil := goodIn_r _ [9, 1, 10, 11, 12, 13, 14, 15, 16, 17, 18, 19, 20, 21, 22, 23, 24, 25, 26, 27, 28, 29, 30, 31, 32, 33, 34, 35, 36, 37, 38, 39, 40, 41, 42, 43, 44, 45, 46, 47, 48, 49, 50, 51, 52, 53, 54, 55, 56, 57, 58, 59, 60, 61, 62, 63, 64, 65, 66, 67, 68, 69, 70, 71, 72, 73, 74, 75, 76, 77, 78, 79, 80, 81, 82, 83, 84, 85, 86, 87, 88, 89, 90, 91, 92, 93, 94, 95, 108, 109, 110, 111, 112, 113, 114, 115, 116, 117, 118, 119, 120, 121, 122, 123, 124, 125, 126, 127, 128, 129, 130, 131, 132, 133, 134, 135, 136] (by decide +kernel) (by decide +kernel)
set_option maxRecDepth 20000 in
theorem gX8_all_X8_runUntil : GoodIn wsX8_all (wsV RX8 159 RX8 yX8_runUntil wsX8_runUntil) := goodIn_app (goodIn_of _ (by decide +kernel)) ggX8_all_X8_runUntil
set_option maxRecDepth 20000 in
theorem ggX8_all_X4_sum : GoodIn wsX8_all wsX4_sum := goodIn_r _ [99, 16, 44, 100, 82, 83, 101, 102, 94, 103, 20, 104, 105, 106, 14, 107, 45, 120, 121, 122, 123, 124, 127, 128, 129, 130, 131, 132, 133, 134, 135, 136] (by decide +kernel) (by decide +kernel)
set_option maxRecDepth 20000 in
theorem gX8_all_X4_sum : GoodIn wsX8_all (wsV RX8 185 RX4 yX4_sum wsX4_sum) := goodIn_app (goodIn_of _ (by decide +kernel)) ggX8_all_X4_sum
theorem dX8_all_0 : decode cX8_all 0 = .ok (.iload_n 1, 1) := by decide +kernel
theorem dX8_all_1 : decode cX8_all 1 = .ok (.invokestatic 182, 3) := by decide +kernel
theorem dX8_all_4 : decode cX8_all 4 = .ok (.ifCond .ne 5, 3) := by decide +kernel
theorem dX8_all_7 : decode cX8_all 7 = .ok (.iconst (-1), 1) := by decide +kernel
theorem dX8_all_8 : decode cX8_all 8 = .ok (.ireturn, 1) := by decide +kernel
theorem dX8_all_9 : decode cX8_all 9 = .ok (.aload_n 0, 1) := by decide +kernel
theorem dX8_all_10 : decode cX8_all 10 = .ok (.sipush 130, 3) := by decide +kernel
theorem dX8_all_13 : decode cX8_all 13 = .ok (.invokevirtual 159, 3) := by decide +kernel
theorem dX8_all_16 : decode cX8_all 16 = .ok (.aload_n 0, 1) := by decide +kernel
theorem dX8_all_17 : decode cX8_all 17 = .ok (.getfield 39, 3) := by decide +kernel
theorem dX8_all_20 : decode cX8_all 20 = .ok (.iload_n 1, 1) := by decide +kernel
theorem dX8_all_21 : decode cX8_all 21 = .ok (.invokevirtual 185, 3) := by decide +kernel
theorem dX8_all_24 : decode cX8_all 24 = .ok (.ireturn, 1) := by decide +kernel
set_option maxRecDepth 20000 in
theorem ggX8_poor_X8_isLaw : GoodIn wsX8_poor wsX8_isLaw := goodIn_r _ [10] (by decide +kernel) (by decide +kernel)
set_option maxRecDepth 20000 in
theorem gX8_poor_X8_isLaw : GoodIn wsX8_poor (va_wsS RX8 142 yX8_isLaw wsX8_isLaw) := goodIn_app (goodIn_of _ (by decide +kernel)) ggX8_poor_X8_isLaw
set_option maxRecDepth 20000 in
theorem ggX8_poor_X4_load : GoodIn wsX8_poor wsX4_load := goodIn_r _ [15, 16, 17, 18, 19, 20, 21, 22, 23, 24, 25, 26, 27, 28, 29, 30, 31, 32, 33, 34, 35, 36, 37, 38, 39, 112, 113, 114, 115, 116, 127, 128, 117, 118, 119, 120, 121, 122, 123, 124, 125, 126] (by decide +kernel) (by decide +kernel)
set_option maxRecDepth 20000 in
theorem gX8_poor_X4_load : GoodIn wsX8_poor (wsV RX8 188 RX4 yX4_load wsX4_load) := goodIn_app (goodIn_of _ (by decide +kernel)) ggX8_poor_X4_load
set_option maxRecDepth 20000 in
theorem ggX8_poor_X4_go : GoodIn wsX8_poor wsX4_go := goodIn_r _ [43, 16, 44, 45, 20, 17, 46, 47, 48, 49, 50, 51, 52, 53, 54, 55, 24, 56, 29, 27, 57, 58, 59, 60, 39, 34, 61, 62, 63, 64, 38, 65, 66, 67, 68, 69, 70, 71, 72, 73, 74, 75, 76, 77, 78, 79, 14, 80, 81, 19, 18, 82, 83, 84, 85, 86, 87, 88, 89, 90, 91, 92, 93, 94, 95, 112, 113, 114, 115, 116, 117, 118, 119, 120, 121, 122, 123, 124, 125, 126, 127, 128] (by decide +kernel) (by decide +kernel)
set_option maxRecDepth 20000 in
theorem gX8_poor_X4_go : GoodIn wsX8_poor (wsV RX8 192 RX4 yX4_go wsX4_go) := goodIn_app (goodIn_of _ (by decide +kernel)) ggX8_poor_X4_go
set_option maxRecDepth 20000 in
theorem ggX8_poor_X4_waitOf : GoodIn wsX8_poor wsX4_waitOf := goodIn_r _ [99, 82, 16, 45, 112, 113, 114, 115, 116, 117, 118, 119, 120, 121, 122, 123, 124, 125, 126] (by decide +kernel) (by decide +kernel)
set_option maxRecDepth 20000 in
theorem gX8_poor_X4_waitOf : GoodIn wsX8_poor (wsV RX8 166 RX4 yX4_waitOf wsX4_waitOf) := goodIn_app (goodIn_of _ (by decide +kernel)) ggX8_poor_X4_waitOf
theorem dX8_poor_0 : decode cX8_poor 0 = .ok (.iload_n 1, 1) := by decide +kernel
theorem dX8_poor_1 : decode cX8_poor 1 = .ok (.ifCond .lt 16, 3) := by decide +kernel
theorem dX8_poor_4 : decode cX8_poor 4 = .ok (.iload_n 1, 1) := by decide +kernel
theorem dX8_poor_5 : decode cX8_poor 5 = .ok (.bipush 99, 2) := by decide +kernel
theorem dX8_poor_7 : decode cX8_poor 7 = .ok (.if_icmp .gt 10, 3) := by decide +kernel
theorem dX8_poor_10 : decode cX8_poor 10 = .ok (.iload_n 2, 1) := by decide +kernel
theorem dX8_poor_11 : decode cX8_poor 11 = .ok (.invokestatic 142, 3) := by decide +kernel
theorem dX8_poor_14 : decode cX8_poor 14 = .ok (.ifCond .ne 5, 3) := by decide +kernel
theorem dX8_poor_17 : decode cX8_poor 17 = .ok (.iconst (-1), 1) := by decide +kernel
theorem dX8_poor_18 : decode cX8_poor 18 = .ok (.ireturn, 1) := by decide +kernel
theorem dX8_poor_19 : decode cX8_poor 19 = .ok (.aload_n 0, 1) := by decide +kernel
theorem dX8_poor_20 : decode cX8_poor 20 = .ok (.getfield 39, 3) := by decide +kernel
theorem dX8_poor_23 : decode cX8_poor 23 = .ok (.aload_n 0, 1) := by decide +kernel
theorem dX8_poor_24 : decode cX8_poor 24 = .ok (.getfield 24, 3) := by decide +kernel
theorem dX8_poor_27 : decode cX8_poor 27 = .ok (.invokevirtual 188, 3) := by decide +kernel
theorem dX8_poor_30 : decode cX8_poor 30 = .ok (.aload_n 0, 1) := by decide +kernel
theorem dX8_poor_31 : decode cX8_poor 31 = .ok (.getfield 39, 3) := by decide +kernel
theorem dX8_poor_34 : decode cX8_poor 34 = .ok (.getfield 191, 3) := by decide +kernel
theorem dX8_poor_37 : decode cX8_poor 37 = .ok (.iload_n 2, 1) := by decide +kernel
theorem dX8_poor_38 : decode cX8_poor 38 = .ok (.putfield 102, 3) := by decide +kernel
theorem dX8_poor_41 : decode cX8_poor 41 = .ok (.aload_n 0, 1) := by decide +kernel
theorem dX8_poor_42 : decode cX8_poor 42 = .ok (.getfield 39, 3) := by decide +kernel
theorem dX8_poor_45 : decode cX8_poor 45 = .ok (.sipush 130, 3) := by decide +kernel
theorem dX8_poor_48 : decode cX8_poor 48 = .ok (.invokevirtual 192, 3) := by decide +kernel
theorem dX8_poor_51 : decode cX8_poor 51 = .ok (.iconst 0, 1) := by decide +kernel
theorem dX8_poor_52 : decode cX8_poor 52 = .ok (.istore_n 3, 1) := by decide +kernel
theorem dX8_poor_53 : decode cX8_poor 53 = .ok (.iconst 0, 1) := by decide +kernel
theorem dX8_poor_54 : decode cX8_poor 54 = .ok (.istore 4, 2) := by decide +kernel
theorem dX8_poor_56 : decode cX8_poor 56 = .ok (.iload 4, 2) := by decide +kernel
theorem dX8_poor_58 : decode cX8_poor 58 = .ok (.aload_n 0, 1) := by decide +kernel
theorem dX8_poor_59 : decode cX8_poor 59 = .ok (.getfield 24, 3) := by decide +kernel
theorem dX8_poor_62 : decode cX8_poor 62 = .ok (.getfield 99, 3) := by decide +kernel
theorem dX8_poor_65 : decode cX8_poor 65 = .ok (.if_icmp .ge 35, 3) := by decide +kernel
theorem dX8_poor_68 : decode cX8_poor 68 = .ok (.aload_n 0, 1) := by decide +kernel
theorem dX8_poor_69 : decode cX8_poor 69 = .ok (.getfield 24, 3) := by decide +kernel
theorem dX8_poor_72 : decode cX8_poor 72 = .ok (.getfield 125, 3) := by decide +kernel
theorem dX8_poor_75 : decode cX8_poor 75 = .ok (.iload 4, 2) := by decide +kernel
theorem dX8_poor_77 : decode cX8_poor 77 = .ok (.iaload, 1) := by decide +kernel
theorem dX8_poor_78 : decode cX8_poor 78 = .ok (.iload_n 1, 1) := by decide +kernel
theorem dX8_poor_79 : decode cX8_poor 79 = .ok (.if_icmp .gt 15, 3) := by decide +kernel
theorem dX8_poor_82 : decode cX8_poor 82 = .ok (.iload_n 3, 1) := by decide +kernel
theorem dX8_poor_83 : decode cX8_poor 83 = .ok (.aload_n 0, 1) := by decide +kernel
theorem dX8_poor_84 : decode cX8_poor 84 = .ok (.getfield 39, 3) := by decide +kernel
theorem dX8_poor_87 : decode cX8_poor 87 = .ok (.iload 4, 2) := by decide +kernel
theorem dX8_poor_89 : decode cX8_poor 89 = .ok (.invokevirtual 166, 3) := by decide +kernel
theorem dX8_poor_92 : decode cX8_poor 92 = .ok (.iadd, 1) := by decide +kernel
theorem dX8_poor_93 : decode cX8_poor 93 = .ok (.istore_n 3, 1) := by decide +kernel
theorem dX8_poor_94 : decode cX8_poor 94 = .ok (.iinc 4 1, 3) := by decide +kernel
theorem dX8_poor_97 : decode cX8_poor 97 = .ok (.goto (-41), 3) := by decide +kernel
theorem dX8_poor_100 : decode cX8_poor 100 = .ok (.iload_n 3, 1) := by decide +kernel
theorem dX8_poor_101 : decode cX8_poor 101 = .ok (.ireturn, 1) := by decide +kernel
set_option maxRecDepth 20000 in
theorem ggX8_stands_X8_isPlace : GoodIn wsX8_stands wsX8_isPlace := goodIn_r _ [7, 2, 8, 64, 65, 66, 67, 68, 69, 70, 71, 72, 73, 74, 75, 76, 77, 78, 79, 80, 81, 82, 83, 84, 85] (by decide +kernel) (by decide +kernel)
set_option maxRecDepth 20000 in
theorem gX8_stands_X8_isPlace : GoodIn wsX8_stands (wsV RX8 195 RX8 yX8_isPlace wsX8_isPlace) := goodIn_app (goodIn_of _ (by decide +kernel)) ggX8_stands_X8_isPlace
set_option maxRecDepth 20000 in
theorem ggX8_stands_X8_everybody : GoodIn wsX8_stands wsX8_everybody := goodIn_r _ [12, 2, 8, 64, 65, 66, 67, 68, 69, 70, 71, 72, 73, 74, 75, 76, 77, 78, 79, 80, 81, 82, 83, 84, 85] (by decide +kernel) (by decide +kernel)
set_option maxRecDepth 20000 in
theorem gX8_stands_X8_everybody : GoodIn wsX8_stands (wsV RX8 198 RX8 yX8_everybody wsX8_everybody) := goodIn_app (goodIn_of _ (by decide +kernel)) ggX8_stands_X8_everybody
set_option maxRecDepth 20000 in
theorem ggX8_stands_X3_fillAsTheyCome : GoodIn wsX8_stands wsX3_fillAsTheyCome := goodIn_r _ [17, 18, 19, 20, 21, 22, 23, 24, 25, 26, 27, 28, 16, 29, 30, 31, 32, 33, 34, 35, 36, 37, 38, 39, 40, 41, 42, 43, 44, 45, 46, 47, 48, 49, 50, 51, 52, 53, 54, 55, 56, 57, 58, 59, 86, 87, 76, 77, 78, 79, 80, 81, 82, 83, 84, 85] (by decide +kernel) (by decide +kernel)
set_option maxRecDepth 20000 in
theorem gX8_stands_X3_fillAsTheyCome : GoodIn wsX8_stands (wsV RX8 201 RX3 yX3_fillAsTheyCome wsX3_fillAsTheyCome) := goodIn_app (goodIn_of _ (by decide +kernel)) ggX8_stands_X3_fillAsTheyCome
set_option maxRecDepth 20000 in
theorem ggX8_stands_X3_oneAt : GoodIn wsX8_stands wsX3_oneAt := goodIn_r _ [63, 18, 30, 86, 87] (by decide +kernel) (by decide +kernel)
set_option maxRecDepth 20000 in
theorem gX8_stands_X3_oneAt : GoodIn wsX8_stands (wsV RX8 179 RX3 yX3_oneAt wsX3_oneAt) := goodIn_app (goodIn_of _ (by decide +kernel)) ggX8_stands_X3_oneAt
theorem dX8_stands_0 : decode cX8_stands 0 = .ok (.aload_n 0, 1) := by decide +kernel
theorem dX8_stands_1 : decode cX8_stands 1 = .ok (.iload_n 1, 1) := by decide +kernel
theorem dX8_stands_2 : decode cX8_stands 2 = .ok (.invokevirtual 195, 3) := by decide +kernel
theorem dX8_stands_5 : decode cX8_stands 5 = .ok (.ifCond .ne 5, 3) := by decide +kernel
theorem dX8_stands_8 : decode cX8_stands 8 = .ok (.iconst (-1), 1) := by decide +kernel
theorem dX8_stands_9 : decode cX8_stands 9 = .ok (.ireturn, 1) := by decide +kernel
theorem dX8_stands_10 : decode cX8_stands 10 = .ok (.aload_n 0, 1) := by decide +kernel
theorem dX8_stands_11 : decode cX8_stands 11 = .ok (.getfield 60, 3) := by decide +kernel
theorem dX8_stands_14 : decode cX8_stands 14 = .ok (.aload_n 0, 1) := by decide +kernel
theorem dX8_stands_15 : decode cX8_stands 15 = .ok (.getfield 24, 3) := by decide +kernel
theorem dX8_stands_18 : decode cX8_stands 18 = .ok (.aload_n 0, 1) := by decide +kernel
theorem dX8_stands_19 : decode cX8_stands 19 = .ok (.invokevirtual 198, 3) := by decide +kernel
theorem dX8_stands_22 : decode cX8_stands 22 = .ok (.invokevirtual 201, 3) := by decide +kernel
theorem dX8_stands_25 : decode cX8_stands 25 = .ok (.aload_n 0, 1) := by decide +kernel
theorem dX8_stands_26 : decode cX8_stands 26 = .ok (.getfield 60, 3) := by decide +kernel
theorem dX8_stands_29 : decode cX8_stands 29 = .ok (.iload_n 1, 1) := by decide +kernel
theorem dX8_stands_30 : decode cX8_stands 30 = .ok (.invokevirtual 179, 3) := by decide +kernel
theorem dX8_stands_33 : decode cX8_stands 33 = .ok (.ireturn, 1) := by decide +kernel
set_option maxRecDepth 20000 in
theorem ggX8_order_X8_isPlace : GoodIn wsX8_order wsX8_isPlace := goodIn_r _ [8, 2, 9, 57, 58, 59, 60, 61, 62, 63, 64, 65, 66, 67, 68, 74, 75, 76, 77, 78, 79, 80, 81, 82, 83] (by decide +kernel) (by decide +kernel)
set_option maxRecDepth 20000 in
theorem gX8_order_X8_isPlace : GoodIn wsX8_order (wsV RX8 195 RX8 yX8_isPlace wsX8_isPlace) := goodIn_app (goodIn_of _ (by decide +kernel)) ggX8_order_X8_isPlace
set_option maxRecDepth 20000 in
theorem ggX8_order_X1_ask : GoodIn wsX8_order wsX1_ask := goodIn_r _ [14, 15, 16, 17, 18, 19, 20, 21, 22, 23, 24, 25, 26, 27, 28, 29, 30, 74, 75, 76, 77, 78, 79, 80, 81, 82, 83, 69, 70, 71, 72, 73] (by decide +kernel) (by decide +kernel)
set_option maxRecDepth 20000 in
theorem gX8_order_X1_ask : GoodIn wsX8_order (wsV RX8 205 RX1 yX1_ask wsX1_ask) := goodIn_app (goodIn_of _ (by decide +kernel)) ggX8_order_X1_ask
set_option maxRecDepth 20000 in
theorem ggX8_order_X1_number : GoodIn wsX8_order wsX1_number := goodIn_r _ [34, 16, 35, 36, 37, 38, 13, 39, 17, 69, 70, 71, 72, 73] (by decide +kernel) (by decide +kernel)
set_option maxRecDepth 20000 in
theorem gX8_order_X1_number : GoodIn wsX8_order (wsV RX8 208 RX1 yX1_number wsX1_number) := goodIn_app (goodIn_of _ (by decide +kernel)) ggX8_order_X1_number
set_option maxRecDepth 20000 in
theorem ggX8_order_X1_findFirst : GoodIn wsX8_order wsX1_findFirst := goodIn_r _ [43, 44, 45, 16, 36, 37, 38, 13, 39, 17, 46, 47, 48, 49, 50, 51, 52, 69, 70, 71, 72, 73, 84, 85] (by decide +kernel) (by decide +kernel)
set_option maxRecDepth 20000 in
theorem gX8_order_X1_findFirst : GoodIn wsX8_order (wsV RX8 211 RX1 yX1_findFirst wsX1_findFirst) := goodIn_app (goodIn_of _ (by decide +kernel)) ggX8_order_X1_findFirst
set_option maxRecDepth 20000 in
theorem ggX8_order_X3_oneAt : GoodIn wsX8_order wsX3_oneAt := goodIn_r _ [56, 51, 52, 84, 85] (by decide +kernel) (by decide +kernel)
set_option maxRecDepth 20000 in
theorem gX8_order_X3_oneAt : GoodIn wsX8_order (wsV RX8 179 RX3 yX3_oneAt wsX3_oneAt) := goodIn_app (goodIn_of _ (by decide +kernel)) ggX8_order_X3_oneAt
theorem dX8_order_0 : decode cX8_order 0 = .ok (.iload_n 1, 1) := by decide +kernel
theorem dX8_order_1 : decode cX8_order 1 = .ok (.ifCond .eq 16, 3) := by decide +kernel
theorem dX8_order_4 : decode cX8_order 4 = .ok (.aload_n 0, 1) := by decide +kernel
theorem dX8_order_5 : decode cX8_order 5 = .ok (.iload_n 1, 1) := by decide +kernel
theorem dX8_order_6 : decode cX8_order 6 = .ok (.bipush 10, 2) := by decide +kernel
theorem dX8_order_8 : decode cX8_order 8 = .ok (.isub, 1) := by decide +kernel
theorem dX8_order_9 : decode cX8_order 9 = .ok (.invokevirtual 195, 3) := by decide +kernel
theorem dX8_order_12 : decode cX8_order 12 = .ok (.ifCond .ne 5, 3) := by decide +kernel
theorem dX8_order_15 : decode cX8_order 15 = .ok (.iconst (-1), 1) := by decide +kernel
theorem dX8_order_16 : decode cX8_order 16 = .ok (.ireturn, 1) := by decide +kernel
theorem dX8_order_17 : decode cX8_order 17 = .ok (.aload_n 0, 1) := by decide +kernel
theorem dX8_order_18 : decode cX8_order 18 = .ok (.getfield 53, 3) := by decide +kernel
theorem dX8_order_21 : decode cX8_order 21 = .ok (.aload_n 0, 1) := by decide +kernel
theorem dX8_order_22 : decode cX8_order 22 = .ok (.getfield 24, 3) := by decide +kernel
theorem dX8_order_25 : decode cX8_order 25 = .ok (.invokevirtual 205, 3) := by decide +kernel
theorem dX8_order_28 : decode cX8_order 28 = .ok (.iload_n 1, 1) := by decide +kernel
theorem dX8_order_29 : decode cX8_order 29 = .ok (.ifCond .ne 11, 3) := by decide +kernel
theorem dX8_order_32 : decode cX8_order 32 = .ok (.aload_n 0, 1) := by decide +kernel
theorem dX8_order_33 : decode cX8_order 33 = .ok (.getfield 53, 3) := by decide +kernel
theorem dX8_order_36 : decode cX8_order 36 = .ok (.invokevirtual 208, 3) := by decide +kernel
theorem dX8_order_39 : decode cX8_order 39 = .ok (.ireturn, 1) := by decide +kernel
theorem dX8_order_40 : decode cX8_order 40 = .ok (.aload_n 0, 1) := by decide +kernel
theorem dX8_order_41 : decode cX8_order 41 = .ok (.getfield 53, 3) := by decide +kernel
theorem dX8_order_44 : decode cX8_order 44 = .ok (.invokevirtual 211, 3) := by decide +kernel
theorem dX8_order_47 : decode cX8_order 47 = .ok (.ifCond .eq 20, 3) := by decide +kernel
theorem dX8_order_50 : decode cX8_order 50 = .ok (.aload_n 0, 1) := by decide +kernel
theorem dX8_order_51 : decode cX8_order 51 = .ok (.getfield 53, 3) := by decide +kernel
theorem dX8_order_54 : decode cX8_order 54 = .ok (.getfield 215, 3) := by decide +kernel
theorem dX8_order_57 : decode cX8_order 57 = .ok (.iload_n 1, 1) := by decide +kernel
theorem dX8_order_58 : decode cX8_order 58 = .ok (.bipush 10, 2) := by decide +kernel
theorem dX8_order_60 : decode cX8_order 60 = .ok (.isub, 1) := by decide +kernel
theorem dX8_order_61 : decode cX8_order 61 = .ok (.invokevirtual 179, 3) := by decide +kernel
theorem dX8_order_64 : decode cX8_order 64 = .ok (.goto 5, 3) := by decide +kernel
theorem dX8_order_67 : decode cX8_order 67 = .ok (.bipush (-4), 2) := by decide +kernel
theorem dX8_order_69 : decode cX8_order 69 = .ok (.ireturn, 1) := by decide +kernel
set_option maxRecDepth 20000 in
theorem ggX8_rings_X1_ask : GoodIn wsX8_rings wsX1_ask := goodIn_r _ [7, 8, 9, 10, 11, 12, 13, 14, 15, 16, 17, 18, 19, 20, 21, 22, 23, 40, 41, 42, 43, 44, 45, 46, 47, 48, 49, 50, 51, 52, 53, 54] (by decide +kernel) (by decide +kernel)
set_option maxRecDepth 20000 in
theorem gX8_rings_X1_ask : GoodIn wsX8_rings (wsV RX8 205 RX1 yX1_ask wsX1_ask) := goodIn_app (goodIn_of _ (by decide +kernel)) ggX8_rings_X1_ask
set_option maxRecDepth 20000 in
theorem ggX8_rings_X1_ringed : GoodIn wsX8_rings wsX1_ringed := goodIn_r _ [27, 9, 10, 50, 51, 52, 53, 54] (by decide +kernel) (by decide +kernel)
set_option maxRecDepth 20000 in
theorem gX8_rings_X1_ringed : GoodIn wsX8_rings (wsV RX8 218 RX1 yX1_ringed wsX1_ringed) := goodIn_app (goodIn_of _ (by decide +kernel)) ggX8_rings_X1_ringed
theorem dX8_rings_0 : decode cX8_rings 0 = .ok (.aload_n 0, 1) := by decide +kernel
theorem dX8_rings_1 : decode cX8_rings 1 = .ok (.getfield 53, 3) := by decide +kernel
theorem dX8_rings_4 : decode cX8_rings 4 = .ok (.aload_n 0, 1) := by decide +kernel
theorem dX8_rings_5 : decode cX8_rings 5 = .ok (.getfield 24, 3) := by decide +kernel
theorem dX8_rings_8 : decode cX8_rings 8 = .ok (.invokevirtual 205, 3) := by decide +kernel
theorem dX8_rings_11 : decode cX8_rings 11 = .ok (.aload_n 0, 1) := by decide +kernel
theorem dX8_rings_12 : decode cX8_rings 12 = .ok (.getfield 53, 3) := by decide +kernel
theorem dX8_rings_15 : decode cX8_rings 15 = .ok (.invokevirtual 218, 3) := by decide +kernel
theorem dX8_rings_18 : decode cX8_rings 18 = .ok (.ireturn, 1) := by decide +kernel
set_option maxRecDepth 20000 in
theorem ggX8_shop_X8_isPlace : GoodIn wsX8_shop wsX8_isPlace := goodIn_r _ [8, 2, 9, 71, 72, 73, 74, 75, 76, 77, 78, 79, 80, 81, 82, 88, 89, 90, 91, 92, 93, 94, 95, 96, 97] (by decide +kernel) (by decide +kernel)
set_option maxRecDepth 20000 in
theorem gX8_shop_X8_isPlace : GoodIn wsX8_shop (wsV RX8 195 RX8 yX8_isPlace wsX8_isPlace) := goodIn_app (goodIn_of _ (by decide +kernel)) ggX8_shop_X8_isPlace
set_option maxRecDepth 20000 in
theorem ggX8_shop_X1_ask : GoodIn wsX8_shop wsX1_ask := goodIn_r _ [14, 15, 16, 17, 18, 19, 20, 21, 22, 23, 24, 25, 26, 27, 28, 29, 30, 88, 89, 90, 91, 92, 93, 94, 95, 96, 97, 83, 84, 85, 86, 87] (by decide +kernel) (by decide +kernel)
set_option maxRecDepth 20000 in
theorem gX8_shop_X1_ask : GoodIn wsX8_shop (wsV RX8 205 RX1 yX1_ask wsX1_ask) := goodIn_app (goodIn_of _ (by decide +kernel)) ggX8_shop_X1_ask
set_option maxRecDepth 20000 in
theorem ggX8_shop_X1_findBest : GoodIn wsX8_shop wsX1_findBest := goodIn_r _ [34, 35, 36, 37, 16, 38, 39, 40, 13, 41, 42, 43, 44, 45, 46, 47, 48, 49, 50, 51, 52, 53, 54, 55, 17, 56, 57, 58, 59, 60, 61, 62, 83, 84, 85, 86, 87, 98, 99, 88, 89, 90, 91, 92, 93, 94, 95, 96, 97] (by decide +kernel) (by decide +kernel)
set_option maxRecDepth 20000 in
theorem gX8_shop_X1_findBest : GoodIn wsX8_shop (wsV RX8 221 RX1 yX1_findBest wsX1_findBest) := goodIn_app (goodIn_of _ (by decide +kernel)) ggX8_shop_X1_findBest
set_option maxRecDepth 20000 in
theorem ggX8_shop_X1_leastCost : GoodIn wsX8_shop wsX1_leastCost := goodIn_r _ [66, 35, 83, 84, 85, 86, 87] (by decide +kernel) (by decide +kernel)
set_option maxRecDepth 20000 in
theorem gX8_shop_X1_leastCost : GoodIn wsX8_shop (wsV RX8 225 RX1 yX1_leastCost wsX1_leastCost) := goodIn_app (goodIn_of _ (by decide +kernel)) ggX8_shop_X1_leastCost
set_option maxRecDepth 20000 in
theorem ggX8_shop_X3_oneAt : GoodIn wsX8_shop wsX3_oneAt := goodIn_r _ [70, 61, 62, 98, 99] (by decide +kernel) (by decide +kernel)
set_option maxRecDepth 20000 in
theorem gX8_shop_X3_oneAt : GoodIn wsX8_shop (wsV RX8 179 RX3 yX3_oneAt wsX3_oneAt) := goodIn_app (goodIn_of _ (by decide +kernel)) ggX8_shop_X3_oneAt
theorem dX8_shop_0 : decode cX8_shop 0 = .ok (.iload_n 1, 1) := by decide +kernel
theorem dX8_shop_1 : decode cX8_shop 1 = .ok (.ifCond .eq 16, 3) := by decide +kernel
theorem dX8_shop_4 : decode cX8_shop 4 = .ok (.aload_n 0, 1) := by decide +kernel
theorem dX8_shop_5 : decode cX8_shop 5 = .ok (.iload_n 1, 1) := by decide +kernel
theorem dX8_shop_6 : decode cX8_shop 6 = .ok (.bipush 10, 2) := by decide +kernel
theorem dX8_shop_8 : decode cX8_shop 8 = .ok (.isub, 1) := by decide +kernel
theorem dX8_shop_9 : decode cX8_shop 9 = .ok (.invokevirtual 195, 3) := by decide +kernel
theorem dX8_shop_12 : decode cX8_shop 12 = .ok (.ifCond .ne 5, 3) := by decide +kernel
theorem dX8_shop_15 : decode cX8_shop 15 = .ok (.iconst (-1), 1) := by decide +kernel
theorem dX8_shop_16 : decode cX8_shop 16 = .ok (.ireturn, 1) := by decide +kernel
theorem dX8_shop_17 : decode cX8_shop 17 = .ok (.aload_n 0, 1) := by decide +kernel
theorem dX8_shop_18 : decode cX8_shop 18 = .ok (.getfield 53, 3) := by decide +kernel
theorem dX8_shop_21 : decode cX8_shop 21 = .ok (.aload_n 0, 1) := by decide +kernel
theorem dX8_shop_22 : decode cX8_shop 22 = .ok (.getfield 24, 3) := by decide +kernel
theorem dX8_shop_25 : decode cX8_shop 25 = .ok (.invokevirtual 205, 3) := by decide +kernel
theorem dX8_shop_28 : decode cX8_shop 28 = .ok (.aload_n 0, 1) := by decide +kernel
theorem dX8_shop_29 : decode cX8_shop 29 = .ok (.getfield 53, 3) := by decide +kernel
theorem dX8_shop_32 : decode cX8_shop 32 = .ok (.aload_n 0, 1) := by decide +kernel
theorem dX8_shop_33 : decode cX8_shop 33 = .ok (.getfield 24, 3) := by decide +kernel
theorem dX8_shop_36 : decode cX8_shop 36 = .ok (.invokevirtual 221, 3) := by decide +kernel
theorem dX8_shop_39 : decode cX8_shop 39 = .ok (.ifCond .ne 6, 3) := by decide +kernel
theorem dX8_shop_42 : decode cX8_shop 42 = .ok (.bipush (-4), 2) := by decide +kernel
theorem dX8_shop_44 : decode cX8_shop 44 = .ok (.ireturn, 1) := by decide +kernel
theorem dX8_shop_45 : decode cX8_shop 45 = .ok (.iload_n 1, 1) := by decide +kernel
theorem dX8_shop_46 : decode cX8_shop 46 = .ok (.ifCond .ne 13, 3) := by decide +kernel
theorem dX8_shop_49 : decode cX8_shop 49 = .ok (.aload_n 0, 1) := by decide +kernel
theorem dX8_shop_50 : decode cX8_shop 50 = .ok (.getfield 53, 3) := by decide +kernel
theorem dX8_shop_53 : decode cX8_shop 53 = .ok (.invokevirtual 225, 3) := by decide +kernel
theorem dX8_shop_56 : decode cX8_shop 56 = .ok (.goto 17, 3) := by decide +kernel
theorem dX8_shop_59 : decode cX8_shop 59 = .ok (.aload_n 0, 1) := by decide +kernel
theorem dX8_shop_60 : decode cX8_shop 60 = .ok (.getfield 53, 3) := by decide +kernel
theorem dX8_shop_63 : decode cX8_shop 63 = .ok (.getfield 215, 3) := by decide +kernel
theorem dX8_shop_66 : decode cX8_shop 66 = .ok (.iload_n 1, 1) := by decide +kernel
theorem dX8_shop_67 : decode cX8_shop 67 = .ok (.bipush 10, 2) := by decide +kernel
theorem dX8_shop_69 : decode cX8_shop 69 = .ok (.isub, 1) := by decide +kernel
theorem dX8_shop_70 : decode cX8_shop 70 = .ok (.invokevirtual 179, 3) := by decide +kernel
theorem dX8_shop_73 : decode cX8_shop 73 = .ok (.ireturn, 1) := by decide +kernel
set_option maxRecDepth 20000 in
theorem ggX8_clear_X7_isOne : GoodIn wsX8_clear wsX7_isOne := goodIn_r _ [11, 12, 134, 135, 136, 137, 138, 139, 140, 141, 142, 143] (by decide +kernel) (by decide +kernel)
set_option maxRecDepth 20000 in
theorem gX8_clear_X7_isOne : GoodIn wsX8_clear (wsV RX8 108 RX7 yX7_isOne wsX7_isOne) := goodIn_app (goodIn_of _ (by decide +kernel)) ggX8_clear_X7_isOne
set_option maxRecDepth 20000 in
theorem ggX8_clear_X8_isMinute : GoodIn wsX8_clear wsX8_isMinute := goodIn_r _ [16] (by decide +kernel) (by decide +kernel)
set_option maxRecDepth 20000 in
theorem gX8_clear_X8_isMinute : GoodIn wsX8_clear (va_wsS RX8 170 yX8_isMinute wsX8_isMinute) := goodIn_app (goodIn_of _ (by decide +kernel)) ggX8_clear_X8_isMinute
set_option maxRecDepth 20000 in
theorem ggX8_clear_X0_seekPayOff : GoodIn wsX8_clear wsX0_seekPayOff := goodIn_r _ [21, 22, 23, 24, 25, 26, 10, 27, 28, 29, 30, 31, 20, 32, 33, 34, 35, 36, 37, 38, 39, 40, 41, 42, 43, 44, 45, 46, 47, 48, 49, 50, 51, 12, 52, 53, 54, 55, 56, 57, 58, 59, 60, 61, 62, 63, 64, 65, 66, 67, 68, 69, 70, 71, 72, 73, 74, 75, 76, 77, 78, 79, 80, 81, 82, 83, 84, 85, 86, 87, 88, 89, 90, 91, 92, 93, 94, 95, 96, 97, 98, 99, 100, 101, 102, 103, 104, 105, 106, 107, 108, 109, 110, 111, 112, 113, 114, 115, 116, 117, 130, 131, 132, 133, 134, 135, 136, 137, 138, 139, 140, 141, 142, 143, 144, 145, 146, 147, 148, 149, 150] (by decide +kernel) (by decide +kernel)
set_option maxRecDepth 20000 in
theorem gX8_clear_X0_seekPayOff : GoodIn wsX8_clear (wsV RX8 228 RX0 yX0_seekPayOff wsX0_seekPayOff) := goodIn_app (goodIn_of _ (by decide +kernel)) ggX8_clear_X0_seekPayOff
theorem dX8_clear_0 : decode cX8_clear 0 = .ok (.aload_n 0, 1) := by decide +kernel
theorem dX8_clear_1 : decode cX8_clear 1 = .ok (.getfield 24, 3) := by decide +kernel
theorem dX8_clear_4 : decode cX8_clear 4 = .ok (.iload_n 1, 1) := by decide +kernel
theorem dX8_clear_5 : decode cX8_clear 5 = .ok (.invokevirtual 108, 3) := by decide +kernel
theorem dX8_clear_8 : decode cX8_clear 8 = .ok (.ifCond .eq 19, 3) := by decide +kernel
theorem dX8_clear_11 : decode cX8_clear 11 = .ok (.iload_n 2, 1) := by decide +kernel
theorem dX8_clear_12 : decode cX8_clear 12 = .ok (.invokestatic 170, 3) := by decide +kernel
theorem dX8_clear_15 : decode cX8_clear 15 = .ok (.ifCond .eq 12, 3) := by decide +kernel
theorem dX8_clear_18 : decode cX8_clear 18 = .ok (.iload_n 3, 1) := by decide +kernel
theorem dX8_clear_19 : decode cX8_clear 19 = .ok (.ifCond .lt 8, 3) := by decide +kernel
theorem dX8_clear_22 : decode cX8_clear 22 = .ok (.iload_n 3, 1) := by decide +kernel
theorem dX8_clear_23 : decode cX8_clear 23 = .ok (.iconst 1, 1) := by decide +kernel
theorem dX8_clear_24 : decode cX8_clear 24 = .ok (.if_icmp .le 5, 3) := by decide +kernel
theorem dX8_clear_27 : decode cX8_clear 27 = .ok (.iconst (-1), 1) := by decide +kernel
theorem dX8_clear_28 : decode cX8_clear 28 = .ok (.ireturn, 1) := by decide +kernel
theorem dX8_clear_29 : decode cX8_clear 29 = .ok (.aload_n 0, 1) := by decide +kernel
theorem dX8_clear_30 : decode cX8_clear 30 = .ok (.getfield 46, 3) := by decide +kernel
theorem dX8_clear_33 : decode cX8_clear 33 = .ok (.aload_n 0, 1) := by decide +kernel
theorem dX8_clear_34 : decode cX8_clear 34 = .ok (.getfield 39, 3) := by decide +kernel
theorem dX8_clear_37 : decode cX8_clear 37 = .ok (.aload_n 0, 1) := by decide +kernel
theorem dX8_clear_38 : decode cX8_clear 38 = .ok (.getfield 24, 3) := by decide +kernel
theorem dX8_clear_41 : decode cX8_clear 41 = .ok (.iload_n 1, 1) := by decide +kernel
theorem dX8_clear_42 : decode cX8_clear 42 = .ok (.iload_n 2, 1) := by decide +kernel
theorem dX8_clear_43 : decode cX8_clear 43 = .ok (.invokevirtual 228, 3) := by decide +kernel
theorem dX8_clear_46 : decode cX8_clear 46 = .ok (.aload_n 0, 1) := by decide +kernel
theorem dX8_clear_47 : decode cX8_clear 47 = .ok (.getfield 46, 3) := by decide +kernel
theorem dX8_clear_50 : decode cX8_clear 50 = .ok (.getfield 232, 3) := by decide +kernel
theorem dX8_clear_53 : decode cX8_clear 53 = .ok (.ifCond .ne 6, 3) := by decide +kernel
theorem dX8_clear_56 : decode cX8_clear 56 = .ok (.bipush (-4), 2) := by decide +kernel
theorem dX8_clear_58 : decode cX8_clear 58 = .ok (.ireturn, 1) := by decide +kernel
theorem dX8_clear_59 : decode cX8_clear 59 = .ok (.iload_n 3, 1) := by decide +kernel
theorem dX8_clear_60 : decode cX8_clear 60 = .ok (.ifCond .ne 13, 3) := by decide +kernel
theorem dX8_clear_63 : decode cX8_clear 63 = .ok (.aload_n 0, 1) := by decide +kernel
theorem dX8_clear_64 : decode cX8_clear 64 = .ok (.getfield 46, 3) := by decide +kernel
theorem dX8_clear_67 : decode cX8_clear 67 = .ok (.getfield 235, 3) := by decide +kernel
theorem dX8_clear_70 : decode cX8_clear 70 = .ok (.goto 10, 3) := by decide +kernel
theorem dX8_clear_73 : decode cX8_clear 73 = .ok (.aload_n 0, 1) := by decide +kernel
theorem dX8_clear_74 : decode cX8_clear 74 = .ok (.getfield 46, 3) := by decide +kernel
theorem dX8_clear_77 : decode cX8_clear 77 = .ok (.getfield 237, 3) := by decide +kernel
theorem dX8_clear_80 : decode cX8_clear 80 = .ok (.ireturn, 1) := by decide +kernel
set_option maxRecDepth 20000 in
theorem ggX8_door_X7_isOne : GoodIn wsX8_door wsX7_isOne := goodIn_r _ [8, 9, 139, 140, 141, 142, 143, 144, 145, 146, 147, 148] (by decide +kernel) (by decide +kernel)
set_option maxRecDepth 20000 in
theorem gX8_door_X7_isOne : GoodIn wsX8_door (wsV RX8 108 RX7 yX7_isOne wsX7_isOne) := goodIn_app (goodIn_of _ (by decide +kernel)) ggX8_door_X7_isOne
set_option maxRecDepth 20000 in
theorem ggX8_door_X0_seekLoan : GoodIn wsX8_door wsX0_seekLoan := goodIn_r _ [14, 15, 16, 17, 18, 19, 20, 21, 22, 23, 24, 25, 13, 26, 27, 28, 29, 30, 31, 32, 33, 34, 35, 36, 37, 38, 39, 40, 7, 41, 9, 42, 43, 44, 45, 46, 47, 48, 49, 50, 51, 52, 53, 54, 55, 56, 57, 58, 59, 60, 61, 62, 63, 64, 65, 66, 67, 68, 69, 70, 71, 72, 73, 74, 75, 76, 77, 78, 79, 80, 81, 82, 83, 84, 85, 86, 87, 88, 89, 90, 91, 92, 93, 94, 95, 96, 97, 98, 99, 100, 101, 102, 103, 104, 105, 106, 107, 108, 109, 110, 111, 112, 113, 114, 115, 116, 117, 118, 119, 120, 121, 122, 139, 140, 141, 142, 143, 144, 145, 146, 147, 148, 149, 150, 151, 152, 153, 154, 155, 156, 157, 158, 159] (by decide +kernel) (by decide +kernel)
set_option maxRecDepth 20000 in
theorem gX8_door_X0_seekLoan : GoodIn wsX8_door (wsV RX8 240 RX0 yX0_seekLoan wsX0_seekLoan) := goodIn_app (goodIn_of _ (by decide +kernel)) ggX8_door_X0_seekLoan
set_option maxRecDepth 20000 in
theorem ggX8_door_X0_answer : GoodIn wsX8_door wsX0_answer := goodIn_r _ [126, 27, 20, 122, 121, 149, 150, 151, 152] (by decide +kernel) (by decide +kernel)
set_option maxRecDepth 20000 in
theorem gX8_door_X0_answer : GoodIn wsX8_door (wsV RX8 244 RX0 yX0_answer wsX0_answer) := goodIn_app (goodIn_of _ (by decide +kernel)) ggX8_door_X0_answer
theorem dX8_door_0 : decode cX8_door 0 = .ok (.aload_n 0, 1) := by decide +kernel
theorem dX8_door_1 : decode cX8_door 1 = .ok (.getfield 24, 3) := by decide +kernel
theorem dX8_door_4 : decode cX8_door 4 = .ok (.iload_n 1, 1) := by decide +kernel
theorem dX8_door_5 : decode cX8_door 5 = .ok (.invokevirtual 108, 3) := by decide +kernel
theorem dX8_door_8 : decode cX8_door 8 = .ok (.ifCond .eq 12, 3) := by decide +kernel
theorem dX8_door_11 : decode cX8_door 11 = .ok (.iload_n 2, 1) := by decide +kernel
theorem dX8_door_12 : decode cX8_door 12 = .ok (.ifCond .lt 8, 3) := by decide +kernel
theorem dX8_door_15 : decode cX8_door 15 = .ok (.iload_n 2, 1) := by decide +kernel
theorem dX8_door_16 : decode cX8_door 16 = .ok (.iconst 2, 1) := by decide +kernel
theorem dX8_door_17 : decode cX8_door 17 = .ok (.if_icmp .le 5, 3) := by decide +kernel
theorem dX8_door_20 : decode cX8_door 20 = .ok (.iconst (-1), 1) := by decide +kernel
theorem dX8_door_21 : decode cX8_door 21 = .ok (.ireturn, 1) := by decide +kernel
theorem dX8_door_22 : decode cX8_door 22 = .ok (.aload_n 0, 1) := by decide +kernel
theorem dX8_door_23 : decode cX8_door 23 = .ok (.getfield 46, 3) := by decide +kernel
theorem dX8_door_26 : decode cX8_door 26 = .ok (.aload_n 0, 1) := by decide +kernel
theorem dX8_door_27 : decode cX8_door 27 = .ok (.getfield 39, 3) := by decide +kernel
theorem dX8_door_30 : decode cX8_door 30 = .ok (.aload_n 0, 1) := by decide +kernel
theorem dX8_door_31 : decode cX8_door 31 = .ok (.getfield 24, 3) := by decide +kernel
theorem dX8_door_34 : decode cX8_door 34 = .ok (.iload_n 1, 1) := by decide +kernel
theorem dX8_door_35 : decode cX8_door 35 = .ok (.invokevirtual 240, 3) := by decide +kernel
theorem dX8_door_38 : decode cX8_door 38 = .ok (.aload_n 0, 1) := by decide +kernel
theorem dX8_door_39 : decode cX8_door 39 = .ok (.getfield 46, 3) := by decide +kernel
theorem dX8_door_42 : decode cX8_door 42 = .ok (.iload_n 2, 1) := by decide +kernel
theorem dX8_door_43 : decode cX8_door 43 = .ok (.invokevirtual 244, 3) := by decide +kernel
theorem dX8_door_46 : decode cX8_door 46 = .ok (.ireturn, 1) := by decide +kernel
set_option maxRecDepth 20000 in
theorem ggX8_buy_X7_isOne : GoodIn wsX8_buy wsX7_isOne := goodIn_r _ [8, 9, 138, 139, 140, 141, 142, 143, 144, 145, 146, 147] (by decide +kernel) (by decide +kernel)
set_option maxRecDepth 20000 in
theorem gX8_buy_X7_isOne : GoodIn wsX8_buy (wsV RX8 108 RX7 yX7_isOne wsX7_isOne) := goodIn_app (goodIn_of _ (by decide +kernel)) ggX8_buy_X7_isOne
set_option maxRecDepth 20000 in
theorem ggX8_buy_X0_seekDebt : GoodIn wsX8_buy wsX0_seekDebt := goodIn_r _ [14, 15, 16, 17, 18, 19, 20, 13, 21, 22, 23, 24, 25, 26, 27, 28, 29, 30, 31, 32, 33, 34, 35, 36, 7, 37, 9, 38, 39, 40, 41, 42, 43, 44, 45, 46, 47, 48, 49, 50, 51, 52, 53, 54, 55, 56, 57, 58, 59, 60, 61, 62, 63, 64, 65, 66, 67, 68, 69, 70, 71, 72, 73, 74, 75, 76, 77, 78, 79, 80, 81, 82, 83, 84, 85, 86, 87, 88, 89, 90, 91, 92, 93, 94, 95, 96, 97, 98, 99, 100, 101, 102, 103, 104, 105, 106, 107, 108, 109, 110, 111, 112, 113, 114, 115, 116, 117, 118, 119, 120, 121, 138, 139, 140, 141, 142, 143, 144, 145, 146, 147, 148, 149, 150, 151, 152, 153, 154, 155, 156, 157, 158] (by decide +kernel) (by decide +kernel)
set_option maxRecDepth 20000 in
theorem gX8_buy_X0_seekDebt : GoodIn wsX8_buy (wsV RX8 247 RX0 yX0_seekDebt wsX0_seekDebt) := goodIn_app (goodIn_of _ (by decide +kernel)) ggX8_buy_X0_seekDebt
set_option maxRecDepth 20000 in
theorem ggX8_buy_X0_answer : GoodIn wsX8_buy wsX0_answer := goodIn_r _ [125, 22, 23, 121, 120, 153, 154, 155, 156] (by decide +kernel) (by decide +kernel)
set_option maxRecDepth 20000 in
theorem gX8_buy_X0_answer : GoodIn wsX8_buy (wsV RX8 244 RX0 yX0_answer wsX0_answer) := goodIn_app (goodIn_of _ (by decide +kernel)) ggX8_buy_X0_answer
theorem dX8_buy_0 : decode cX8_buy 0 = .ok (.aload_n 0, 1) := by decide +kernel
theorem dX8_buy_1 : decode cX8_buy 1 = .ok (.getfield 24, 3) := by decide +kernel
theorem dX8_buy_4 : decode cX8_buy 4 = .ok (.iload_n 1, 1) := by decide +kernel
theorem dX8_buy_5 : decode cX8_buy 5 = .ok (.invokevirtual 108, 3) := by decide +kernel
theorem dX8_buy_8 : decode cX8_buy 8 = .ok (.ifCond .eq 12, 3) := by decide +kernel
theorem dX8_buy_11 : decode cX8_buy 11 = .ok (.iload_n 2, 1) := by decide +kernel
theorem dX8_buy_12 : decode cX8_buy 12 = .ok (.ifCond .lt 8, 3) := by decide +kernel
theorem dX8_buy_15 : decode cX8_buy 15 = .ok (.iload_n 2, 1) := by decide +kernel
theorem dX8_buy_16 : decode cX8_buy 16 = .ok (.iconst 2, 1) := by decide +kernel
theorem dX8_buy_17 : decode cX8_buy 17 = .ok (.if_icmp .le 5, 3) := by decide +kernel
theorem dX8_buy_20 : decode cX8_buy 20 = .ok (.iconst (-1), 1) := by decide +kernel
theorem dX8_buy_21 : decode cX8_buy 21 = .ok (.ireturn, 1) := by decide +kernel
theorem dX8_buy_22 : decode cX8_buy 22 = .ok (.aload_n 0, 1) := by decide +kernel
theorem dX8_buy_23 : decode cX8_buy 23 = .ok (.getfield 46, 3) := by decide +kernel
theorem dX8_buy_26 : decode cX8_buy 26 = .ok (.aload_n 0, 1) := by decide +kernel
theorem dX8_buy_27 : decode cX8_buy 27 = .ok (.getfield 39, 3) := by decide +kernel
theorem dX8_buy_30 : decode cX8_buy 30 = .ok (.aload_n 0, 1) := by decide +kernel
theorem dX8_buy_31 : decode cX8_buy 31 = .ok (.getfield 24, 3) := by decide +kernel
theorem dX8_buy_34 : decode cX8_buy 34 = .ok (.iload_n 1, 1) := by decide +kernel
theorem dX8_buy_35 : decode cX8_buy 35 = .ok (.invokevirtual 247, 3) := by decide +kernel
theorem dX8_buy_38 : decode cX8_buy 38 = .ok (.aload_n 0, 1) := by decide +kernel
theorem dX8_buy_39 : decode cX8_buy 39 = .ok (.getfield 46, 3) := by decide +kernel
theorem dX8_buy_42 : decode cX8_buy 42 = .ok (.iload_n 2, 1) := by decide +kernel
theorem dX8_buy_43 : decode cX8_buy 43 = .ok (.invokevirtual 244, 3) := by decide +kernel
theorem dX8_buy_46 : decode cX8_buy 46 = .ok (.ireturn, 1) := by decide +kernel
set_option maxRecDepth 20000 in
theorem ggX8_see_X7_isOne : GoodIn wsX8_see wsX7_isOne := goodIn_r _ [8, 9, 35, 36, 37, 38, 39, 40, 41, 42, 43, 44] (by decide +kernel) (by decide +kernel)
set_option maxRecDepth 20000 in
theorem gX8_see_X7_isOne : GoodIn wsX8_see (wsV RX8 108 RX7 yX7_isOne wsX7_isOne) := goodIn_app (goodIn_of _ (by decide +kernel)) ggX8_see_X7_isOne
set_option maxRecDepth 20000 in
theorem ggX8_see_X3_placeOf : GoodIn wsX8_see wsX3_placeOf := goodIn_r _ [14, 15, 16, 33, 34] (by decide +kernel) (by decide +kernel)
set_option maxRecDepth 20000 in
theorem gX8_see_X3_placeOf : GoodIn wsX8_see (wsV RX8 176 RX3 yX3_placeOf wsX3_placeOf) := goodIn_app (goodIn_of _ (by decide +kernel)) ggX8_see_X3_placeOf
set_option maxRecDepth 20000 in
theorem ggX8_see_X3_add : GoodIn wsX8_see wsX3_add := goodIn_r _ [20, 15, 16, 33, 34] (by decide +kernel) (by decide +kernel)
set_option maxRecDepth 20000 in
theorem gX8_see_X3_add : GoodIn wsX8_see (wsV RX8 250 RX3 yX3_add wsX3_add) := goodIn_app (goodIn_of _ (by decide +kernel)) ggX8_see_X3_add
theorem dX8_see_0 : decode cX8_see 0 = .ok (.aload_n 0, 1) := by decide +kernel
theorem dX8_see_1 : decode cX8_see 1 = .ok (.getfield 24, 3) := by decide +kernel
theorem dX8_see_4 : decode cX8_see 4 = .ok (.iload_n 1, 1) := by decide +kernel
theorem dX8_see_5 : decode cX8_see 5 = .ok (.invokevirtual 108, 3) := by decide +kernel
theorem dX8_see_8 : decode cX8_see 8 = .ok (.ifCond .ne 5, 3) := by decide +kernel
theorem dX8_see_11 : decode cX8_see 11 = .ok (.iconst (-1), 1) := by decide +kernel
theorem dX8_see_12 : decode cX8_see 12 = .ok (.ireturn, 1) := by decide +kernel
theorem dX8_see_13 : decode cX8_see 13 = .ok (.aload_n 0, 1) := by decide +kernel
theorem dX8_see_14 : decode cX8_see 14 = .ok (.getfield 64, 3) := by decide +kernel
theorem dX8_see_17 : decode cX8_see 17 = .ok (.iload_n 1, 1) := by decide +kernel
theorem dX8_see_18 : decode cX8_see 18 = .ok (.invokevirtual 176, 3) := by decide +kernel
theorem dX8_see_21 : decode cX8_see 21 = .ok (.ifCond .lt 6, 3) := by decide +kernel
theorem dX8_see_24 : decode cX8_see 24 = .ok (.bipush (-2), 2) := by decide +kernel
theorem dX8_see_26 : decode cX8_see 26 = .ok (.ireturn, 1) := by decide +kernel
theorem dX8_see_27 : decode cX8_see 27 = .ok (.aload_n 0, 1) := by decide +kernel
theorem dX8_see_28 : decode cX8_see 28 = .ok (.getfield 64, 3) := by decide +kernel
theorem dX8_see_31 : decode cX8_see 31 = .ok (.iload_n 1, 1) := by decide +kernel
theorem dX8_see_32 : decode cX8_see 32 = .ok (.invokevirtual 250, 3) := by decide +kernel
theorem dX8_see_35 : decode cX8_see 35 = .ok (.aload_n 0, 1) := by decide +kernel
theorem dX8_see_36 : decode cX8_see 36 = .ok (.getfield 64, 3) := by decide +kernel
theorem dX8_see_39 : decode cX8_see 39 = .ok (.getfield 98, 3) := by decide +kernel
theorem dX8_see_42 : decode cX8_see 42 = .ok (.ireturn, 1) := by decide +kernel
theorem dX8_forget_0 : decode cX8_forget 0 = .ok (.aload_n 0, 1) := by decide +kernel
theorem dX8_forget_1 : decode cX8_forget 1 = .ok (.getfield 64, 3) := by decide +kernel
theorem dX8_forget_4 : decode cX8_forget 4 = .ok (.getfield 98, 3) := by decide +kernel
theorem dX8_forget_7 : decode cX8_forget 7 = .ok (.istore_n 1, 1) := by decide +kernel
theorem dX8_forget_8 : decode cX8_forget 8 = .ok (.aload_n 0, 1) := by decide +kernel
theorem dX8_forget_9 : decode cX8_forget 9 = .ok (.getfield 64, 3) := by decide +kernel
theorem dX8_forget_12 : decode cX8_forget 12 = .ok (.iconst 0, 1) := by decide +kernel
theorem dX8_forget_13 : decode cX8_forget 13 = .ok (.putfield 98, 3) := by decide +kernel
theorem dX8_forget_16 : decode cX8_forget 16 = .ok (.iload_n 1, 1) := by decide +kernel
theorem dX8_forget_17 : decode cX8_forget 17 = .ok (.ireturn, 1) := by decide +kernel
set_option maxRecDepth 20000 in
theorem ggX8_told_X7_areTwo : GoodIn wsX8_told wsX7_areTwo := goodIn_r _ [7, 8, 9, 10, 6, 11, 12, 41, 42, 43, 44, 45, 46, 47, 48, 49, 50] (by decide +kernel) (by decide +kernel)
set_option maxRecDepth 20000 in
theorem gX8_told_X7_areTwo : GoodIn wsX8_told (wsV RX8 131 RX7 yX7_areTwo wsX7_areTwo) := goodIn_app (goodIn_of _ (by decide +kernel)) ggX8_told_X7_areTwo
set_option maxRecDepth 20000 in
theorem ggX8_told_X3_placeOf : GoodIn wsX8_told wsX3_placeOf := goodIn_r _ [17, 18, 19, 51, 52] (by decide +kernel) (by decide +kernel)
set_option maxRecDepth 20000 in
theorem gX8_told_X3_placeOf : GoodIn wsX8_told (wsV RX8 176 RX3 yX3_placeOf wsX3_placeOf) := goodIn_app (goodIn_of _ (by decide +kernel)) ggX8_told_X3_placeOf
set_option maxRecDepth 20000 in
theorem ggX8_told_X7_comesAhead : GoodIn wsX8_told wsX7_comesAhead := goodIn_r _ [23, 24, 41, 42, 43, 44, 45, 46, 47, 48, 49, 50] (by decide +kernel) (by decide +kernel)
set_option maxRecDepth 20000 in
theorem gX8_told_X7_comesAhead : GoodIn wsX8_told (wsV RX8 253 RX7 yX7_comesAhead wsX7_comesAhead) := goodIn_app (goodIn_of _ (by decide +kernel)) ggX8_told_X7_comesAhead
set_option maxRecDepth 20000 in
theorem ggX8_told_X3_oneAt : GoodIn wsX8_told wsX3_oneAt := goodIn_r _ [28, 18, 19, 51, 52] (by decide +kernel) (by decide +kernel)
set_option maxRecDepth 20000 in
theorem gX8_told_X3_oneAt : GoodIn wsX8_told (wsV RX8 179 RX3 yX3_oneAt wsX3_oneAt) := goodIn_app (goodIn_of _ (by decide +kernel)) ggX8_told_X3_oneAt
theorem dX8_told_0 : decode cX8_told 0 = .ok (.aload_n 0, 1) := by decide +kernel
theorem dX8_told_1 : decode cX8_told 1 = .ok (.getfield 24, 3) := by decide +kernel
theorem dX8_told_4 : decode cX8_told 4 = .ok (.iload_n 1, 1) := by decide +kernel
theorem dX8_told_5 : decode cX8_told 5 = .ok (.iload_n 2, 1) := by decide +kernel
theorem dX8_told_6 : decode cX8_told 6 = .ok (.invokevirtual 131, 3) := by decide +kernel
theorem dX8_told_9 : decode cX8_told 9 = .ok (.ifCond .ne 5, 3) := by decide +kernel
theorem dX8_told_12 : decode cX8_told 12 = .ok (.iconst (-1), 1) := by decide +kernel
theorem dX8_told_13 : decode cX8_told 13 = .ok (.ireturn, 1) := by decide +kernel
theorem dX8_told_14 : decode cX8_told 14 = .ok (.aload_n 0, 1) := by decide +kernel
theorem dX8_told_15 : decode cX8_told 15 = .ok (.getfield 64, 3) := by decide +kernel
theorem dX8_told_18 : decode cX8_told 18 = .ok (.iload_n 1, 1) := by decide +kernel
theorem dX8_told_19 : decode cX8_told 19 = .ok (.invokevirtual 176, 3) := by decide +kernel
theorem dX8_told_22 : decode cX8_told 22 = .ok (.istore_n 3, 1) := by decide +kernel
theorem dX8_told_23 : decode cX8_told 23 = .ok (.aload_n 0, 1) := by decide +kernel
theorem dX8_told_24 : decode cX8_told 24 = .ok (.getfield 64, 3) := by decide +kernel
theorem dX8_told_27 : decode cX8_told 27 = .ok (.iload_n 2, 1) := by decide +kernel
theorem dX8_told_28 : decode cX8_told 28 = .ok (.invokevirtual 176, 3) := by decide +kernel
theorem dX8_told_31 : decode cX8_told 31 = .ok (.istore 4, 2) := by decide +kernel
theorem dX8_told_33 : decode cX8_told 33 = .ok (.iload_n 3, 1) := by decide +kernel
theorem dX8_told_34 : decode cX8_told 34 = .ok (.ifCond .lt 20, 3) := by decide +kernel
theorem dX8_told_37 : decode cX8_told 37 = .ok (.iload 4, 2) := by decide +kernel
theorem dX8_told_39 : decode cX8_told 39 = .ok (.ifCond .lt 15, 3) := by decide +kernel
theorem dX8_told_42 : decode cX8_told 42 = .ok (.aload_n 0, 1) := by decide +kernel
theorem dX8_told_43 : decode cX8_told 43 = .ok (.getfield 24, 3) := by decide +kernel
theorem dX8_told_46 : decode cX8_told 46 = .ok (.iload_n 1, 1) := by decide +kernel
theorem dX8_told_47 : decode cX8_told 47 = .ok (.iload_n 2, 1) := by decide +kernel
theorem dX8_told_48 : decode cX8_told 48 = .ok (.invokevirtual 253, 3) := by decide +kernel
theorem dX8_told_51 : decode cX8_told 51 = .ok (.ifCond .ne 6, 3) := by decide +kernel
theorem dX8_told_54 : decode cX8_told 54 = .ok (.bipush (-4), 2) := by decide +kernel
theorem dX8_told_56 : decode cX8_told 56 = .ok (.ireturn, 1) := by decide +kernel
theorem dX8_told_57 : decode cX8_told 57 = .ok (.iload 4, 2) := by decide +kernel
theorem dX8_told_59 : decode cX8_told 59 = .ok (.iload_n 3, 1) := by decide +kernel
theorem dX8_told_60 : decode cX8_told 60 = .ok (.if_icmp .ge 5, 3) := by decide +kernel
theorem dX8_told_63 : decode cX8_told 63 = .ok (.iconst 1, 1) := by decide +kernel
theorem dX8_told_64 : decode cX8_told 64 = .ok (.ireturn, 1) := by decide +kernel
theorem dX8_told_65 : decode cX8_told 65 = .ok (.iload 4, 2) := by decide +kernel
theorem dX8_told_67 : decode cX8_told 67 = .ok (.iconst 1, 1) := by decide +kernel
theorem dX8_told_68 : decode cX8_told 68 = .ok (.isub, 1) := by decide +kernel
theorem dX8_told_69 : decode cX8_told 69 = .ok (.istore 5, 2) := by decide +kernel
theorem dX8_told_71 : decode cX8_told 71 = .ok (.iload 5, 2) := by decide +kernel
theorem dX8_told_73 : decode cX8_told 73 = .ok (.iload_n 3, 1) := by decide +kernel
theorem dX8_told_74 : decode cX8_told 74 = .ok (.if_icmp .le 29, 3) := by decide +kernel
theorem dX8_told_77 : decode cX8_told 77 = .ok (.aload_n 0, 1) := by decide +kernel
theorem dX8_told_78 : decode cX8_told 78 = .ok (.getfield 24, 3) := by decide +kernel
theorem dX8_told_81 : decode cX8_told 81 = .ok (.aload_n 0, 1) := by decide +kernel
theorem dX8_told_82 : decode cX8_told 82 = .ok (.getfield 64, 3) := by decide +kernel
theorem dX8_told_85 : decode cX8_told 85 = .ok (.iload 5, 2) := by decide +kernel
theorem dX8_told_87 : decode cX8_told 87 = .ok (.invokevirtual 179, 3) := by decide +kernel
theorem dX8_told_90 : decode cX8_told 90 = .ok (.iload_n 2, 1) := by decide +kernel
theorem dX8_told_91 : decode cX8_told 91 = .ok (.invokevirtual 253, 3) := by decide +kernel
theorem dX8_told_94 : decode cX8_told 94 = .ok (.ifCond .ne 9, 3) := by decide +kernel
theorem dX8_told_97 : decode cX8_told 97 = .ok (.iinc 5 (-1), 3) := by decide +kernel
theorem dX8_told_100 : decode cX8_told 100 = .ok (.goto (-29), 3) := by decide +kernel
theorem dX8_told_103 : decode cX8_told 103 = .ok (.iload 5, 2) := by decide +kernel
theorem dX8_told_105 : decode cX8_told 105 = .ok (.iload_n 3, 1) := by decide +kernel
theorem dX8_told_106 : decode cX8_told 106 = .ok (.if_icmp .ne 7, 3) := by decide +kernel
theorem dX8_told_109 : decode cX8_told 109 = .ok (.iconst 0, 1) := by decide +kernel
theorem dX8_told_110 : decode cX8_told 110 = .ok (.goto 5, 3) := by decide +kernel
theorem dX8_told_113 : decode cX8_told 113 = .ok (.bipush (-4), 2) := by decide +kernel
theorem dX8_told_115 : decode cX8_told 115 = .ok (.ireturn, 1) := by decide +kernel
set_option maxRecDepth 20000 in
theorem ggX8_judge_X3_bits : GoodIn wsX8_judge wsX3_bits := goodIn_r _ [9, 10, 11, 72, 73] (by decide +kernel) (by decide +kernel)
set_option maxRecDepth 20000 in
theorem gX8_judge_X3_bits : GoodIn wsX8_judge (wsV RX8 256 RX3 yX3_bits wsX3_bits) := goodIn_app (goodIn_of _ (by decide +kernel)) ggX8_judge_X3_bits
set_option maxRecDepth 20000 in
theorem ggX8_judge_X3_fillAsTheyCome : GoodIn wsX8_judge wsX3_fillAsTheyCome := goodIn_r _ [15, 10, 16, 17, 18, 19, 20, 21, 22, 23, 24, 25, 8, 26, 11, 27, 28, 29, 30, 31, 32, 33, 34, 35, 36, 37, 38, 39, 40, 41, 42, 43, 44, 45, 46, 47, 48, 49, 50, 51, 52, 53, 54, 55, 72, 73, 74, 75, 76, 77, 78, 79, 80, 81, 82, 83] (by decide +kernel) (by decide +kernel)
set_option maxRecDepth 20000 in
theorem gX8_judge_X3_fillAsTheyCome : GoodIn wsX8_judge (wsV RX8 201 RX3 yX3_fillAsTheyCome wsX3_fillAsTheyCome) := goodIn_app (goodIn_of _ (by decide +kernel)) ggX8_judge_X3_fillAsTheyCome
set_option maxRecDepth 20000 in
theorem ggX8_judge_X3_oneAt : GoodIn wsX8_judge wsX3_oneAt := goodIn_r _ [59, 10, 11, 72, 73] (by decide +kernel) (by decide +kernel)
set_option maxRecDepth 20000 in
theorem gX8_judge_X3_oneAt : GoodIn wsX8_judge (wsV RX8 179 RX3 yX3_oneAt wsX3_oneAt) := goodIn_app (goodIn_of _ (by decide +kernel)) ggX8_judge_X3_oneAt
theorem dX8_judge_0 : decode cX8_judge 0 = .ok (.aload_n 0, 1) := by decide +kernel
theorem dX8_judge_1 : decode cX8_judge 1 = .ok (.getfield 60, 3) := by decide +kernel
theorem dX8_judge_4 : decode cX8_judge 4 = .ok (.aload_n 0, 1) := by decide +kernel
theorem dX8_judge_5 : decode cX8_judge 5 = .ok (.getfield 24, 3) := by decide +kernel
theorem dX8_judge_8 : decode cX8_judge 8 = .ok (.aload_n 0, 1) := by decide +kernel
theorem dX8_judge_9 : decode cX8_judge 9 = .ok (.getfield 64, 3) := by decide +kernel
theorem dX8_judge_12 : decode cX8_judge 12 = .ok (.invokevirtual 256, 3) := by decide +kernel
theorem dX8_judge_15 : decode cX8_judge 15 = .ok (.invokevirtual 201, 3) := by decide +kernel
theorem dX8_judge_18 : decode cX8_judge 18 = .ok (.iconst 0, 1) := by decide +kernel
theorem dX8_judge_19 : decode cX8_judge 19 = .ok (.istore_n 1, 1) := by decide +kernel
theorem dX8_judge_20 : decode cX8_judge 20 = .ok (.iload_n 1, 1) := by decide +kernel
theorem dX8_judge_21 : decode cX8_judge 21 = .ok (.aload_n 0, 1) := by decide +kernel
theorem dX8_judge_22 : decode cX8_judge 22 = .ok (.getfield 64, 3) := by decide +kernel
theorem dX8_judge_25 : decode cX8_judge 25 = .ok (.getfield 98, 3) := by decide +kernel
theorem dX8_judge_28 : decode cX8_judge 28 = .ok (.if_icmp .ge 30, 3) := by decide +kernel
theorem dX8_judge_31 : decode cX8_judge 31 = .ok (.aload_n 0, 1) := by decide +kernel
theorem dX8_judge_32 : decode cX8_judge 32 = .ok (.getfield 64, 3) := by decide +kernel
theorem dX8_judge_35 : decode cX8_judge 35 = .ok (.iload_n 1, 1) := by decide +kernel
theorem dX8_judge_36 : decode cX8_judge 36 = .ok (.invokevirtual 179, 3) := by decide +kernel
theorem dX8_judge_39 : decode cX8_judge 39 = .ok (.aload_n 0, 1) := by decide +kernel
theorem dX8_judge_40 : decode cX8_judge 40 = .ok (.getfield 60, 3) := by decide +kernel
theorem dX8_judge_43 : decode cX8_judge 43 = .ok (.iload_n 1, 1) := by decide +kernel
theorem dX8_judge_44 : decode cX8_judge 44 = .ok (.invokevirtual 179, 3) := by decide +kernel
theorem dX8_judge_47 : decode cX8_judge 47 = .ok (.if_icmp .eq 5, 3) := by decide +kernel
theorem dX8_judge_50 : decode cX8_judge 50 = .ok (.iload_n 1, 1) := by decide +kernel
theorem dX8_judge_51 : decode cX8_judge 51 = .ok (.ireturn, 1) := by decide +kernel
theorem dX8_judge_52 : decode cX8_judge 52 = .ok (.iinc 1 1, 3) := by decide +kernel
theorem dX8_judge_55 : decode cX8_judge 55 = .ok (.goto (-35), 3) := by decide +kernel
theorem dX8_judge_58 : decode cX8_judge 58 = .ok (.bipush (-4), 2) := by decide +kernel
theorem dX8_judge_60 : decode cX8_judge 60 = .ok (.ireturn, 1) := by decide +kernel
set_option maxRecDepth 20000 in
theorem ggX8_day_X8_isSum : GoodIn wsX8_day wsX8_isSum := goodIn_r _ [10] (by decide +kernel) (by decide +kernel)
set_option maxRecDepth 20000 in
theorem gX8_day_X8_isSum : GoodIn wsX8_day (va_wsS RX8 182 yX8_isSum wsX8_isSum) := goodIn_app (goodIn_of _ (by decide +kernel)) ggX8_day_X8_isSum
set_option maxRecDepth 20000 in
theorem ggX8_day_X4_load : GoodIn wsX8_day wsX4_load := goodIn_r _ [15, 16, 17, 18, 19, 20, 21, 22, 23, 24, 25, 26, 27, 28, 29, 30, 31, 32, 33, 34, 35, 36, 37, 38, 39, 130, 131, 132, 133, 134, 135, 136, 120, 121, 122, 123, 124, 125, 126, 127, 128, 129] (by decide +kernel) (by decide +kernel)
set_option maxRecDepth 20000 in
theorem gX8_day_X4_load : GoodIn wsX8_day (wsV RX8 188 RX4 yX4_load wsX4_load) := goodIn_app (goodIn_of _ (by decide +kernel)) ggX8_day_X4_load
set_option maxRecDepth 20000 in
theorem ggX8_day_X4_go : GoodIn wsX8_day wsX4_go := goodIn_r _ [43, 16, 44, 45, 20, 17, 46, 47, 48, 49, 50, 51, 52, 53, 54, 55, 24, 56, 29, 27, 57, 58, 59, 60, 39, 34, 61, 62, 63, 64, 38, 65, 66, 67, 68, 69, 70, 71, 72, 73, 74, 75, 76, 77, 78, 79, 14, 80, 81, 19, 18, 82, 83, 84, 85, 86, 87, 88, 89, 90, 91, 92, 93, 94, 95, 130, 131, 132, 133, 134, 120, 121, 122, 123, 124, 125, 126, 127, 128, 129, 135, 136] (by decide +kernel) (by decide +kernel)
set_option maxRecDepth 20000 in
theorem gX8_day_X4_go : GoodIn wsX8_day (wsV RX8 192 RX4 yX4_go wsX4_go) := goodIn_app (goodIn_of _ (by decide +kernel)) ggX8_day_X4_go
set_option maxRecDepth 20000 in
theorem ggX8_day_X4_sum : GoodIn wsX8_day wsX4_sum := goodIn_r _ [99, 16, 44, 100, 82, 83, 101, 102, 94, 103, 20, 104, 105, 106, 14, 107, 45, 130, 131, 132, 133, 134, 120, 121, 122, 123, 124, 125, 126, 127, 128, 129] (by decide +kernel) (by decide +kernel)
set_option maxRecDepth 20000 in
theorem gX8_day_X4_sum : GoodIn wsX8_day (wsV RX8 185 RX4 yX4_sum wsX4_sum) := goodIn_app (goodIn_of _ (by decide +kernel)) ggX8_day_X4_sum
theorem dX8_day_0 : decode cX8_day 0 = .ok (.iload_n 2, 1) := by decide +kernel
theorem dX8_day_1 : decode cX8_day 1 = .ok (.invokestatic 182, 3) := by decide +kernel
theorem dX8_day_4 : decode cX8_day 4 = .ok (.ifCond .ne 5, 3) := by decide +kernel
theorem dX8_day_7 : decode cX8_day 7 = .ok (.iconst (-1), 1) := by decide +kernel
theorem dX8_day_8 : decode cX8_day 8 = .ok (.ireturn, 1) := by decide +kernel
theorem dX8_day_9 : decode cX8_day 9 = .ok (.aload_n 0, 1) := by decide +kernel
theorem dX8_day_10 : decode cX8_day 10 = .ok (.getfield 39, 3) := by decide +kernel
theorem dX8_day_13 : decode cX8_day 13 = .ok (.aload_n 0, 1) := by decide +kernel
theorem dX8_day_14 : decode cX8_day 14 = .ok (.getfield 24, 3) := by decide +kernel
theorem dX8_day_17 : decode cX8_day 17 = .ok (.invokevirtual 188, 3) := by decide +kernel
theorem dX8_day_20 : decode cX8_day 20 = .ok (.iload_n 1, 1) := by decide +kernel
theorem dX8_day_21 : decode cX8_day 21 = .ok (.istore_n 3, 1) := by decide +kernel
theorem dX8_day_22 : decode cX8_day 22 = .ok (.iconst 0, 1) := by decide +kernel
theorem dX8_day_23 : decode cX8_day 23 = .ok (.istore 4, 2) := by decide +kernel
theorem dX8_day_25 : decode cX8_day 25 = .ok (.iload 4, 2) := by decide +kernel
theorem dX8_day_27 : decode cX8_day 27 = .ok (.aload_n 0, 1) := by decide +kernel
theorem dX8_day_28 : decode cX8_day 28 = .ok (.getfield 24, 3) := by decide +kernel
theorem dX8_day_31 : decode cX8_day 31 = .ok (.getfield 99, 3) := by decide +kernel
theorem dX8_day_34 : decode cX8_day 34 = .ok (.if_icmp .ge 43, 3) := by decide +kernel
theorem dX8_day_37 : decode cX8_day 37 = .ok (.iload_n 3, 1) := by decide +kernel
theorem dX8_day_38 : decode cX8_day 38 = .ok (.ldc_w 259, 3) := by decide +kernel
theorem dX8_day_41 : decode cX8_day 41 = .ok (.imul, 1) := by decide +kernel
theorem dX8_day_42 : decode cX8_day 42 = .ok (.sipush 12345, 3) := by decide +kernel
theorem dX8_day_45 : decode cX8_day 45 = .ok (.iadd, 1) := by decide +kernel
theorem dX8_day_46 : decode cX8_day 46 = .ok (.istore_n 3, 1) := by decide +kernel
theorem dX8_day_47 : decode cX8_day 47 = .ok (.aload_n 0, 1) := by decide +kernel
theorem dX8_day_48 : decode cX8_day 48 = .ok (.getfield 39, 3) := by decide +kernel
theorem dX8_day_51 : decode cX8_day 51 = .ok (.getfield 191, 3) := by decide +kernel
theorem dX8_day_54 : decode cX8_day 54 = .ok (.getfield 116, 3) := by decide +kernel
theorem dX8_day_57 : decode cX8_day 57 = .ok (.iload 4, 2) := by decide +kernel
theorem dX8_day_59 : decode cX8_day 59 = .ok (.iload_n 3, 1) := by decide +kernel
theorem dX8_day_60 : decode cX8_day 60 = .ok (.bipush 16, 2) := by decide +kernel
theorem dX8_day_62 : decode cX8_day 62 = .ok (.iushr, 1) := by decide +kernel
theorem dX8_day_63 : decode cX8_day 63 = .ok (.sipush 32767, 3) := by decide +kernel
theorem dX8_day_66 : decode cX8_day 66 = .ok (.iand, 1) := by decide +kernel
theorem dX8_day_67 : decode cX8_day 67 = .ok (.bipush 61, 2) := by decide +kernel
theorem dX8_day_69 : decode cX8_day 69 = .ok (.irem, 1) := by decide +kernel
theorem dX8_day_70 : decode cX8_day 70 = .ok (.iastore, 1) := by decide +kernel
theorem dX8_day_71 : decode cX8_day 71 = .ok (.iinc 4 1, 3) := by decide +kernel
theorem dX8_day_74 : decode cX8_day 74 = .ok (.goto (-49), 3) := by decide +kernel
theorem dX8_day_77 : decode cX8_day 77 = .ok (.aload_n 0, 1) := by decide +kernel
theorem dX8_day_78 : decode cX8_day 78 = .ok (.getfield 39, 3) := by decide +kernel
theorem dX8_day_81 : decode cX8_day 81 = .ok (.sipush 130, 3) := by decide +kernel
theorem dX8_day_84 : decode cX8_day 84 = .ok (.invokevirtual 192, 3) := by decide +kernel
theorem dX8_day_87 : decode cX8_day 87 = .ok (.aload_n 0, 1) := by decide +kernel
theorem dX8_day_88 : decode cX8_day 88 = .ok (.getfield 39, 3) := by decide +kernel
theorem dX8_day_91 : decode cX8_day 91 = .ok (.iload_n 2, 1) := by decide +kernel
theorem dX8_day_92 : decode cX8_day 92 = .ok (.invokevirtual 185, 3) := by decide +kernel
theorem dX8_day_95 : decode cX8_day 95 = .ok (.ireturn, 1) := by decide +kernel
set_option maxRecDepth 20000 in
theorem ggX8_keep_X7_copyOf : GoodIn wsX8_keep wsX7_copyOf := goodIn_r _ [8, 9, 10, 11, 12, 13, 14, 15, 16, 17, 18, 19, 20, 21, 22, 35, 36, 37, 38, 39, 40, 41, 42, 43, 44] (by decide +kernel) (by decide +kernel)
set_option maxRecDepth 20000 in
theorem gX8_keep_X7_copyOf : GoodIn wsX8_keep (wsV RX8 94 RX7 yX7_copyOf wsX7_copyOf) := goodIn_app (goodIn_of _ (by decide +kernel)) ggX8_keep_X7_copyOf
theorem dX8_keep_0 : decode cX8_keep 0 = .ok (.iload_n 1, 1) := by decide +kernel
theorem dX8_keep_1 : decode cX8_keep 1 = .ok (.ifCond .lt 8, 3) := by decide +kernel
theorem dX8_keep_4 : decode cX8_keep 4 = .ok (.iload_n 1, 1) := by decide +kernel
theorem dX8_keep_5 : decode cX8_keep 5 = .ok (.iconst 2, 1) := by decide +kernel
theorem dX8_keep_6 : decode cX8_keep 6 = .ok (.if_icmp .lt 5, 3) := by decide +kernel
theorem dX8_keep_9 : decode cX8_keep 9 = .ok (.iconst (-1), 1) := by decide +kernel
theorem dX8_keep_10 : decode cX8_keep 10 = .ok (.ireturn, 1) := by decide +kernel
theorem dX8_keep_11 : decode cX8_keep 11 = .ok (.aload_n 0, 1) := by decide +kernel
theorem dX8_keep_12 : decode cX8_keep 12 = .ok (.getfield 32, 3) := by decide +kernel
theorem dX8_keep_15 : decode cX8_keep 15 = .ok (.iload_n 1, 1) := by decide +kernel
theorem dX8_keep_16 : decode cX8_keep 16 = .ok (.baload, 1) := by decide +kernel
theorem dX8_keep_17 : decode cX8_keep 17 = .ok (.ifCond .eq 7, 3) := by decide +kernel
theorem dX8_keep_20 : decode cX8_keep 20 = .ok (.iconst 1, 1) := by decide +kernel
theorem dX8_keep_21 : decode cX8_keep 21 = .ok (.goto 4, 3) := by decide +kernel
theorem dX8_keep_24 : decode cX8_keep 24 = .ok (.iconst 0, 1) := by decide +kernel
theorem dX8_keep_25 : decode cX8_keep 25 = .ok (.istore_n 2, 1) := by decide +kernel
theorem dX8_keep_26 : decode cX8_keep 26 = .ok (.aload_n 0, 1) := by decide +kernel
theorem dX8_keep_27 : decode cX8_keep 27 = .ok (.getfield 28, 3) := by decide +kernel
theorem dX8_keep_30 : decode cX8_keep 30 = .ok (.iload_n 1, 1) := by decide +kernel
theorem dX8_keep_31 : decode cX8_keep 31 = .ok (.aaload, 1) := by decide +kernel
theorem dX8_keep_32 : decode cX8_keep 32 = .ok (.aload_n 0, 1) := by decide +kernel
theorem dX8_keep_33 : decode cX8_keep 33 = .ok (.getfield 24, 3) := by decide +kernel
theorem dX8_keep_36 : decode cX8_keep 36 = .ok (.invokevirtual 94, 3) := by decide +kernel
theorem dX8_keep_39 : decode cX8_keep 39 = .ok (.aload_n 0, 1) := by decide +kernel
theorem dX8_keep_40 : decode cX8_keep 40 = .ok (.getfield 32, 3) := by decide +kernel
theorem dX8_keep_43 : decode cX8_keep 43 = .ok (.iload_n 1, 1) := by decide +kernel
theorem dX8_keep_44 : decode cX8_keep 44 = .ok (.iconst 1, 1) := by decide +kernel
theorem dX8_keep_45 : decode cX8_keep 45 = .ok (.bastore, 1) := by decide +kernel
theorem dX8_keep_46 : decode cX8_keep 46 = .ok (.iload_n 2, 1) := by decide +kernel
theorem dX8_keep_47 : decode cX8_keep 47 = .ok (.ireturn, 1) := by decide +kernel
set_option maxRecDepth 20000 in
theorem ggX8_back_X7_copyOf : GoodIn wsX8_back wsX7_copyOf := goodIn_r _ [9, 10, 11, 12, 13, 14, 15, 16, 17, 18, 19, 20, 21, 22, 23, 36, 37, 38, 39, 40, 41, 42, 43, 44, 45] (by decide +kernel) (by decide +kernel)
set_option maxRecDepth 20000 in
theorem gX8_back_X7_copyOf : GoodIn wsX8_back (wsV RX8 94 RX7 yX7_copyOf wsX7_copyOf) := goodIn_app (goodIn_of _ (by decide +kernel)) ggX8_back_X7_copyOf
theorem dX8_back_0 : decode cX8_back 0 = .ok (.iload_n 1, 1) := by decide +kernel
theorem dX8_back_1 : decode cX8_back 1 = .ok (.ifCond .lt 8, 3) := by decide +kernel
theorem dX8_back_4 : decode cX8_back 4 = .ok (.iload_n 1, 1) := by decide +kernel
theorem dX8_back_5 : decode cX8_back 5 = .ok (.iconst 2, 1) := by decide +kernel
theorem dX8_back_6 : decode cX8_back 6 = .ok (.if_icmp .lt 5, 3) := by decide +kernel
theorem dX8_back_9 : decode cX8_back 9 = .ok (.iconst (-1), 1) := by decide +kernel
theorem dX8_back_10 : decode cX8_back 10 = .ok (.ireturn, 1) := by decide +kernel
theorem dX8_back_11 : decode cX8_back 11 = .ok (.aload_n 0, 1) := by decide +kernel
theorem dX8_back_12 : decode cX8_back 12 = .ok (.getfield 32, 3) := by decide +kernel
theorem dX8_back_15 : decode cX8_back 15 = .ok (.iload_n 1, 1) := by decide +kernel
theorem dX8_back_16 : decode cX8_back 16 = .ok (.baload, 1) := by decide +kernel
theorem dX8_back_17 : decode cX8_back 17 = .ok (.ifCond .ne 6, 3) := by decide +kernel
theorem dX8_back_20 : decode cX8_back 20 = .ok (.bipush (-2), 2) := by decide +kernel
theorem dX8_back_22 : decode cX8_back 22 = .ok (.ireturn, 1) := by decide +kernel
theorem dX8_back_23 : decode cX8_back 23 = .ok (.aload_n 0, 1) := by decide +kernel
theorem dX8_back_24 : decode cX8_back 24 = .ok (.getfield 24, 3) := by decide +kernel
theorem dX8_back_27 : decode cX8_back 27 = .ok (.aload_n 0, 1) := by decide +kernel
theorem dX8_back_28 : decode cX8_back 28 = .ok (.getfield 28, 3) := by decide +kernel
theorem dX8_back_31 : decode cX8_back 31 = .ok (.iload_n 1, 1) := by decide +kernel
theorem dX8_back_32 : decode cX8_back 32 = .ok (.aaload, 1) := by decide +kernel
theorem dX8_back_33 : decode cX8_back 33 = .ok (.invokevirtual 94, 3) := by decide +kernel
theorem dX8_back_36 : decode cX8_back 36 = .ok (.aload_n 0, 1) := by decide +kernel
theorem dX8_back_37 : decode cX8_back 37 = .ok (.getfield 24, 3) := by decide +kernel
theorem dX8_back_40 : decode cX8_back 40 = .ok (.getfield 99, 3) := by decide +kernel
theorem dX8_back_43 : decode cX8_back 43 = .ok (.ireturn, 1) := by decide +kernel
set_option maxRecDepth 20000 in
theorem ggX8_sheet_X8_isSheet : GoodIn wsX8_sheet wsX8_isSheet := goodIn_r _ [5] (by decide +kernel) (by decide +kernel)
set_option maxRecDepth 20000 in
theorem gX8_sheet_X8_isSheet : GoodIn wsX8_sheet (va_wsS RX8 260 yX8_isSheet wsX8_isSheet) := goodIn_app (goodIn_of _ (by decide +kernel)) ggX8_sheet_X8_isSheet
set_option maxRecDepth 20000 in
theorem ggX8_sheet_X8_isLane : GoodIn wsX8_sheet wsX8_isLane := goodIn_r _ [8] (by decide +kernel) (by decide +kernel)
set_option maxRecDepth 20000 in
theorem gX8_sheet_X8_isLane : GoodIn wsX8_sheet (va_wsS RX8 263 yX8_isLane wsX8_isLane) := goodIn_app (goodIn_of _ (by decide +kernel)) ggX8_sheet_X8_isLane
set_option maxRecDepth 20000 in
theorem ggX8_sheet_X5_renew : GoodIn wsX8_sheet wsX5_renew := goodIn_r _ [13, 14, 15, 16, 29, 30, 31] (by decide +kernel) (by decide +kernel)
set_option maxRecDepth 20000 in
theorem gX8_sheet_X5_renew : GoodIn wsX8_sheet (wsV RX8 266 RX5 yX5_renew wsX5_renew) := goodIn_app (goodIn_of _ (by decide +kernel)) ggX8_sheet_X5_renew
theorem dX8_sheet_0 : decode cX8_sheet 0 = .ok (.iload_n 1, 1) := by decide +kernel
theorem dX8_sheet_1 : decode cX8_sheet 1 = .ok (.invokestatic 260, 3) := by decide +kernel
theorem dX8_sheet_4 : decode cX8_sheet 4 = .ok (.ifCond .eq 16, 3) := by decide +kernel
theorem dX8_sheet_7 : decode cX8_sheet 7 = .ok (.iload_n 2, 1) := by decide +kernel
theorem dX8_sheet_8 : decode cX8_sheet 8 = .ok (.invokestatic 263, 3) := by decide +kernel
theorem dX8_sheet_11 : decode cX8_sheet 11 = .ok (.ifCond .eq 9, 3) := by decide +kernel
theorem dX8_sheet_14 : decode cX8_sheet 14 = .ok (.iload_n 3, 1) := by decide +kernel
theorem dX8_sheet_15 : decode cX8_sheet 15 = .ok (.bipush 40, 2) := by decide +kernel
theorem dX8_sheet_17 : decode cX8_sheet 17 = .ok (.if_icmp .le 5, 3) := by decide +kernel
theorem dX8_sheet_20 : decode cX8_sheet 20 = .ok (.iconst (-1), 1) := by decide +kernel
theorem dX8_sheet_21 : decode cX8_sheet 21 = .ok (.ireturn, 1) := by decide +kernel
theorem dX8_sheet_22 : decode cX8_sheet 22 = .ok (.iload_n 3, 1) := by decide +kernel
theorem dX8_sheet_23 : decode cX8_sheet 23 = .ok (.ifCond .ge 6, 3) := by decide +kernel
theorem dX8_sheet_26 : decode cX8_sheet 26 = .ok (.bipush (-14), 2) := by decide +kernel
theorem dX8_sheet_28 : decode cX8_sheet 28 = .ok (.ireturn, 1) := by decide +kernel
theorem dX8_sheet_29 : decode cX8_sheet 29 = .ok (.aload_n 0, 1) := by decide +kernel
theorem dX8_sheet_30 : decode cX8_sheet 30 = .ok (.getfield 69, 3) := by decide +kernel
theorem dX8_sheet_33 : decode cX8_sheet 33 = .ok (.iload_n 1, 1) := by decide +kernel
theorem dX8_sheet_34 : decode cX8_sheet 34 = .ok (.aaload, 1) := by decide +kernel
theorem dX8_sheet_35 : decode cX8_sheet 35 = .ok (.iload_n 2, 1) := by decide +kernel
theorem dX8_sheet_36 : decode cX8_sheet 36 = .ok (.iload_n 3, 1) := by decide +kernel
theorem dX8_sheet_37 : decode cX8_sheet 37 = .ok (.invokevirtual 266, 3) := by decide +kernel
theorem dX8_sheet_40 : decode cX8_sheet 40 = .ok (.iconst 1, 1) := by decide +kernel
theorem dX8_sheet_41 : decode cX8_sheet 41 = .ok (.ireturn, 1) := by decide +kernel
set_option maxRecDepth 20000 in
theorem ggX8_lay_X8_isSheet : GoodIn wsX8_lay wsX8_isSheet := goodIn_r _ [5] (by decide +kernel) (by decide +kernel)
set_option maxRecDepth 20000 in
theorem gX8_lay_X8_isSheet : GoodIn wsX8_lay (va_wsS RX8 260 yX8_isSheet wsX8_isSheet) := goodIn_app (goodIn_of _ (by decide +kernel)) ggX8_lay_X8_isSheet
set_option maxRecDepth 20000 in
theorem ggX8_lay_X5_faultOfCells : GoodIn wsX8_lay wsX5_faultOfCells := goodIn_r _ [10, 11, 12, 13, 14, 9, 15, 34, 35, 36] (by decide +kernel) (by decide +kernel)
set_option maxRecDepth 20000 in
theorem gX8_lay_X5_faultOfCells : GoodIn wsX8_lay (wsV RX8 270 RX5 yX5_faultOfCells wsX5_faultOfCells) := goodIn_app (goodIn_of _ (by decide +kernel)) ggX8_lay_X5_faultOfCells
set_option maxRecDepth 20000 in
theorem ggX8_lay_X5_put : GoodIn wsX8_lay wsX5_put := goodIn_r _ [19, 20, 21, 34, 35, 36] (by decide +kernel) (by decide +kernel)
set_option maxRecDepth 20000 in
theorem gX8_lay_X5_put : GoodIn wsX8_lay (wsV RX8 273 RX5 yX5_put wsX5_put) := goodIn_app (goodIn_of _ (by decide +kernel)) ggX8_lay_X5_put
theorem dX8_lay_0 : decode cX8_lay 0 = .ok (.iload_n 1, 1) := by decide +kernel
theorem dX8_lay_1 : decode cX8_lay 1 = .ok (.invokestatic 260, 3) := by decide +kernel
theorem dX8_lay_4 : decode cX8_lay 4 = .ok (.ifCond .ne 5, 3) := by decide +kernel
theorem dX8_lay_7 : decode cX8_lay 7 = .ok (.iconst (-1), 1) := by decide +kernel
theorem dX8_lay_8 : decode cX8_lay 8 = .ok (.ireturn, 1) := by decide +kernel
theorem dX8_lay_9 : decode cX8_lay 9 = .ok (.aload_n 0, 1) := by decide +kernel
theorem dX8_lay_10 : decode cX8_lay 10 = .ok (.getfield 69, 3) := by decide +kernel
theorem dX8_lay_13 : decode cX8_lay 13 = .ok (.iload_n 1, 1) := by decide +kernel
theorem dX8_lay_14 : decode cX8_lay 14 = .ok (.aaload, 1) := by decide +kernel
theorem dX8_lay_15 : decode cX8_lay 15 = .ok (.iload_n 2, 1) := by decide +kernel
theorem dX8_lay_16 : decode cX8_lay 16 = .ok (.iconst 1, 1) := by decide +kernel
theorem dX8_lay_17 : decode cX8_lay 17 = .ok (.invokevirtual 270, 3) := by decide +kernel
theorem dX8_lay_20 : decode cX8_lay 20 = .ok (.istore 4, 2) := by decide +kernel
theorem dX8_lay_22 : decode cX8_lay 22 = .ok (.iload 4, 2) := by decide +kernel
theorem dX8_lay_24 : decode cX8_lay 24 = .ok (.ifCond .eq 9, 3) := by decide +kernel
theorem dX8_lay_27 : decode cX8_lay 27 = .ok (.bipush (-10), 2) := by decide +kernel
theorem dX8_lay_29 : decode cX8_lay 29 = .ok (.iload 4, 2) := by decide +kernel
theorem dX8_lay_31 : decode cX8_lay 31 = .ok (.isub, 1) := by decide +kernel
theorem dX8_lay_32 : decode cX8_lay 32 = .ok (.ireturn, 1) := by decide +kernel
theorem dX8_lay_33 : decode cX8_lay 33 = .ok (.aload_n 0, 1) := by decide +kernel
theorem dX8_lay_34 : decode cX8_lay 34 = .ok (.getfield 69, 3) := by decide +kernel
theorem dX8_lay_37 : decode cX8_lay 37 = .ok (.iload_n 1, 1) := by decide +kernel
theorem dX8_lay_38 : decode cX8_lay 38 = .ok (.aaload, 1) := by decide +kernel
theorem dX8_lay_39 : decode cX8_lay 39 = .ok (.iload_n 2, 1) := by decide +kernel
theorem dX8_lay_40 : decode cX8_lay 40 = .ok (.iload_n 3, 1) := by decide +kernel
theorem dX8_lay_41 : decode cX8_lay 41 = .ok (.invokevirtual 273, 3) := by decide +kernel
theorem dX8_lay_44 : decode cX8_lay 44 = .ok (.iconst 1, 1) := by decide +kernel
theorem dX8_lay_45 : decode cX8_lay 45 = .ok (.ireturn, 1) := by decide +kernel
set_option maxRecDepth 20000 in
theorem ggX8_read_X8_isSheet : GoodIn wsX8_read wsX8_isSheet := goodIn_r _ [8] (by decide +kernel) (by decide +kernel)
set_option maxRecDepth 20000 in
theorem gX8_read_X8_isSheet : GoodIn wsX8_read (va_wsS RX8 260 yX8_isSheet wsX8_isSheet) := goodIn_app (goodIn_of _ (by decide +kernel)) ggX8_read_X8_isSheet
set_option maxRecDepth 20000 in
theorem ggX8_read_X8_isLane : GoodIn wsX8_read wsX8_isLane := goodIn_r _ [11] (by decide +kernel) (by decide +kernel)
set_option maxRecDepth 20000 in
theorem gX8_read_X8_isLane : GoodIn wsX8_read (va_wsS RX8 263 yX8_isLane wsX8_isLane) := goodIn_app (goodIn_of _ (by decide +kernel)) ggX8_read_X8_isLane
set_option maxRecDepth 20000 in
theorem ggX8_read_X5_faultAsOf : GoodIn wsX8_read wsX5_faultAsOf := goodIn_r _ [16, 17, 18, 19, 20, 15, 21, 22, 23, 24, 25, 26, 58, 59, 60] (by decide +kernel) (by decide +kernel)
set_option maxRecDepth 20000 in
theorem gX8_read_X5_faultAsOf : GoodIn wsX8_read (wsV RX8 276 RX5 yX5_faultAsOf wsX5_faultAsOf) := goodIn_app (goodIn_of _ (by decide +kernel)) ggX8_read_X5_faultAsOf
set_option maxRecDepth 20000 in
theorem ggX8_read_X7_canBeDebt : GoodIn wsX8_read wsX7_canBeDebt := goodIn_r _ [31, 32, 33, 34, 30, 35, 36, 37, 38, 39, 40, 61, 62, 63, 64, 65, 66, 67, 68, 69, 70] (by decide +kernel) (by decide +kernel)
set_option maxRecDepth 20000 in
theorem gX8_read_X7_canBeDebt : GoodIn wsX8_read (wsV RX8 145 RX7 yX7_canBeDebt wsX7_canBeDebt) := goodIn_app (goodIn_of _ (by decide +kernel)) ggX8_read_X7_canBeDebt
set_option maxRecDepth 20000 in
theorem ggX8_read_X7_setDebt : GoodIn wsX8_read wsX7_setDebt := goodIn_r _ [44, 45, 61, 62, 63, 64, 65, 66, 67, 68, 69, 70] (by decide +kernel) (by decide +kernel)
set_option maxRecDepth 20000 in
theorem gX8_read_X7_setDebt : GoodIn wsX8_read (wsV RX8 149 RX7 yX7_setDebt wsX7_setDebt) := goodIn_app (goodIn_of _ (by decide +kernel)) ggX8_read_X7_setDebt
theorem dX8_read_0 : decode cX8_read 0 = .ok (.iload_n 1, 1) := by decide +kernel
theorem dX8_read_1 : decode cX8_read 1 = .ok (.invokestatic 260, 3) := by decide +kernel
theorem dX8_read_4 : decode cX8_read 4 = .ok (.ifCond .eq 22, 3) := by decide +kernel
theorem dX8_read_7 : decode cX8_read 7 = .ok (.iload_n 2, 1) := by decide +kernel
theorem dX8_read_8 : decode cX8_read 8 = .ok (.invokestatic 263, 3) := by decide +kernel
theorem dX8_read_11 : decode cX8_read 11 = .ok (.ifCond .eq 15, 3) := by decide +kernel
theorem dX8_read_14 : decode cX8_read 14 = .ok (.iload 4, 2) := by decide +kernel
theorem dX8_read_16 : decode cX8_read 16 = .ok (.ifCond .lt 10, 3) := by decide +kernel
theorem dX8_read_19 : decode cX8_read 19 = .ok (.iload 4, 2) := by decide +kernel
theorem dX8_read_21 : decode cX8_read 21 = .ok (.bipush 13, 2) := by decide +kernel
theorem dX8_read_23 : decode cX8_read 23 = .ok (.if_icmp .le 5, 3) := by decide +kernel
theorem dX8_read_26 : decode cX8_read 26 = .ok (.iconst (-1), 1) := by decide +kernel
theorem dX8_read_27 : decode cX8_read 27 = .ok (.ireturn, 1) := by decide +kernel
theorem dX8_read_28 : decode cX8_read 28 = .ok (.aload_n 0, 1) := by decide +kernel
theorem dX8_read_29 : decode cX8_read 29 = .ok (.getfield 69, 3) := by decide +kernel
theorem dX8_read_32 : decode cX8_read 32 = .ok (.iload_n 1, 1) := by decide +kernel
theorem dX8_read_33 : decode cX8_read 33 = .ok (.aaload, 1) := by decide +kernel
theorem dX8_read_34 : decode cX8_read 34 = .ok (.astore 5, 2) := by decide +kernel
theorem dX8_read_36 : decode cX8_read 36 = .ok (.iconst 0, 1) := by decide +kernel
theorem dX8_read_37 : decode cX8_read 37 = .ok (.istore 6, 2) := by decide +kernel
