theorem dX0_init_0 : decode cX0_init 0 = .ok (.aload_n 0, 1) := by decide +kernel
theorem dX0_init_1 : decode cX0_init 1 = .ok (.invokespecial 3, 3) := by decide +kernel
theorem dX0_init_4 : decode cX0_init 4 = .ok (.return_, 1) := by decide +kernel
theorem dX0_answer_0 : decode cX0_answer 0 = .ok (.aload_n 0, 1) := by decide +kernel
theorem dX0_answer_1 : decode cX0_answer 1 = .ok (.getfield 9, 3) := by decide +kernel
theorem dX0_answer_4 : decode cX0_answer 4 = .ok (.ifCond .ne 6, 3) := by decide +kernel
theorem dX0_answer_7 : decode cX0_answer 7 = .ok (.bipush (-4), 2) := by decide +kernel
theorem dX0_answer_9 : decode cX0_answer 9 = .ok (.ireturn, 1) := by decide +kernel
theorem dX0_answer_10 : decode cX0_answer 10 = .ok (.iload_n 1, 1) := by decide +kernel
theorem dX0_answer_11 : decode cX0_answer 11 = .ok (.lookupswitch 35 #[(0, 25), (1, 30)], 25) := by decide +kernel
theorem dX0_answer_36 : decode cX0_answer 36 = .ok (.aload_n 0, 1) := by decide +kernel
theorem dX0_answer_37 : decode cX0_answer 37 = .ok (.getfield 15, 3) := by decide +kernel
theorem dX0_answer_40 : decode cX0_answer 40 = .ok (.ireturn, 1) := by decide +kernel
theorem dX0_answer_41 : decode cX0_answer 41 = .ok (.aload_n 0, 1) := by decide +kernel
theorem dX0_answer_42 : decode cX0_answer 42 = .ok (.getfield 19, 3) := by decide +kernel
theorem dX0_answer_45 : decode cX0_answer 45 = .ok (.ireturn, 1) := by decide +kernel
theorem dX0_answer_46 : decode cX0_answer 46 = .ok (.aload_n 0, 1) := by decide +kernel
theorem dX0_answer_47 : decode cX0_answer 47 = .ok (.getfield 22, 3) := by decide +kernel
theorem dX0_answer_50 : decode cX0_answer 50 = .ok (.ireturn, 1) := by decide +kernel
set_option maxRecDepth 20000 in
theorem ggX0_seekPayOff_X7_owed : GoodIn wsX0_seekPayOff wsX7_owed := goodIn_r _ [7, 8, 104, 105, 106, 107, 108, 109, 110, 111, 112, 113] (by decide +kernel) (by decide +kernel)
set_option maxRecDepth 20000 in
theorem gX0_seekPayOff_X7_owed : GoodIn wsX0_seekPayOff (wsV RX0 30 RX7 yX7_owed wsX7_owed) := goodIn_app (goodIn_of _ (by decide +kernel)) ggX0_seekPayOff_X7_owed
set_option maxRecDepth 20000 in
theorem ggX0_seekPayOff_X0_tryPayOff : GoodIn wsX0_seekPayOff wsX0_tryPayOff := goodIn_r _ [13, 2, 14, 15, 1, 16, 17, 18, 19, 20, 21, 22, 23, 24, 25, 26, 27, 28, 29, 30, 31, 6, 32, 33, 34, 35, 36, 37, 38, 39, 40, 41, 42, 43, 44, 45, 8, 46, 47, 48, 49, 50, 4, 5, 7, 51, 52, 53, 54, 55, 56, 57, 58, 59, 60, 61, 62, 63, 64, 65, 66, 67, 68, 69, 70, 71, 72, 73, 74, 75, 76, 77, 78, 79, 80, 81, 82, 83, 84, 85, 86, 87, 88, 89, 90, 91, 92, 93, 94, 95, 96, 97, 98, 99, 104, 105, 106, 107, 108, 109, 110, 111, 112, 113, 114, 115, 116, 117, 118, 100, 101, 102, 103, 119, 120] (by decide +kernel) (by decide +kernel)
set_option maxRecDepth 20000 in
theorem gX0_seekPayOff_X0_tryPayOff : GoodIn wsX0_seekPayOff (wsV RX0 34 RX0 yX0_tryPayOff wsX0_tryPayOff) := goodIn_app (goodIn_of _ (by decide +kernel)) ggX0_seekPayOff_X0_tryPayOff
theorem dX0_seekPayOff_0 : decode cX0_seekPayOff 0 = .ok (.aload_n 0, 1) := by decide +kernel
theorem dX0_seekPayOff_1 : decode cX0_seekPayOff 1 = .ok (.iconst 0, 1) := by decide +kernel
theorem dX0_seekPayOff_2 : decode cX0_seekPayOff 2 = .ok (.putfield 9, 3) := by decide +kernel
theorem dX0_seekPayOff_5 : decode cX0_seekPayOff 5 = .ok (.iconst 0, 1) := by decide +kernel
theorem dX0_seekPayOff_6 : decode cX0_seekPayOff 6 = .ok (.istore 5, 2) := by decide +kernel
theorem dX0_seekPayOff_8 : decode cX0_seekPayOff 8 = .ok (.iconst 0, 1) := by decide +kernel
theorem dX0_seekPayOff_9 : decode cX0_seekPayOff 9 = .ok (.istore 6, 2) := by decide +kernel
theorem dX0_seekPayOff_11 : decode cX0_seekPayOff 11 = .ok (.iload 6, 2) := by decide +kernel
theorem dX0_seekPayOff_13 : decode cX0_seekPayOff 13 = .ok (.aload_n 2, 1) := by decide +kernel
theorem dX0_seekPayOff_14 : decode cX0_seekPayOff 14 = .ok (.getfield 25, 3) := by decide +kernel
theorem dX0_seekPayOff_17 : decode cX0_seekPayOff 17 = .ok (.if_icmp .ge 32, 3) := by decide +kernel
theorem dX0_seekPayOff_20 : decode cX0_seekPayOff 20 = .ok (.iload 5, 2) := by decide +kernel
theorem dX0_seekPayOff_22 : decode cX0_seekPayOff 22 = .ok (.aload_n 2, 1) := by decide +kernel
theorem dX0_seekPayOff_23 : decode cX0_seekPayOff 23 = .ok (.iload_n 3, 1) := by decide +kernel
theorem dX0_seekPayOff_24 : decode cX0_seekPayOff 24 = .ok (.iload 6, 2) := by decide +kernel
theorem dX0_seekPayOff_26 : decode cX0_seekPayOff 26 = .ok (.invokevirtual 30, 3) := by decide +kernel
theorem dX0_seekPayOff_29 : decode cX0_seekPayOff 29 = .ok (.ifCond .le 10, 3) := by decide +kernel
theorem dX0_seekPayOff_32 : decode cX0_seekPayOff 32 = .ok (.iconst 1, 1) := by decide +kernel
theorem dX0_seekPayOff_33 : decode cX0_seekPayOff 33 = .ok (.iload 6, 2) := by decide +kernel
theorem dX0_seekPayOff_35 : decode cX0_seekPayOff 35 = .ok (.ishl, 1) := by decide +kernel
theorem dX0_seekPayOff_36 : decode cX0_seekPayOff 36 = .ok (.goto 4, 3) := by decide +kernel
theorem dX0_seekPayOff_39 : decode cX0_seekPayOff 39 = .ok (.iconst 0, 1) := by decide +kernel
theorem dX0_seekPayOff_40 : decode cX0_seekPayOff 40 = .ok (.ior, 1) := by decide +kernel
theorem dX0_seekPayOff_41 : decode cX0_seekPayOff 41 = .ok (.istore 5, 2) := by decide +kernel
theorem dX0_seekPayOff_43 : decode cX0_seekPayOff 43 = .ok (.iinc 6 1, 3) := by decide +kernel
theorem dX0_seekPayOff_46 : decode cX0_seekPayOff 46 = .ok (.goto (-35), 3) := by decide +kernel
theorem dX0_seekPayOff_49 : decode cX0_seekPayOff 49 = .ok (.iconst 0, 1) := by decide +kernel
theorem dX0_seekPayOff_50 : decode cX0_seekPayOff 50 = .ok (.istore 6, 2) := by decide +kernel
theorem dX0_seekPayOff_52 : decode cX0_seekPayOff 52 = .ok (.iload 6, 2) := by decide +kernel
theorem dX0_seekPayOff_54 : decode cX0_seekPayOff 54 = .ok (.iload 5, 2) := by decide +kernel
theorem dX0_seekPayOff_56 : decode cX0_seekPayOff 56 = .ok (.if_icmp .gt 30, 3) := by decide +kernel
theorem dX0_seekPayOff_59 : decode cX0_seekPayOff 59 = .ok (.iload 6, 2) := by decide +kernel
theorem dX0_seekPayOff_61 : decode cX0_seekPayOff 61 = .ok (.iload 5, 2) := by decide +kernel
theorem dX0_seekPayOff_63 : decode cX0_seekPayOff 63 = .ok (.iconst (-1), 1) := by decide +kernel
theorem dX0_seekPayOff_64 : decode cX0_seekPayOff 64 = .ok (.ixor, 1) := by decide +kernel
theorem dX0_seekPayOff_65 : decode cX0_seekPayOff 65 = .ok (.iand, 1) := by decide +kernel
theorem dX0_seekPayOff_66 : decode cX0_seekPayOff 66 = .ok (.ifCond .ne 14, 3) := by decide +kernel
theorem dX0_seekPayOff_69 : decode cX0_seekPayOff 69 = .ok (.aload_n 0, 1) := by decide +kernel
theorem dX0_seekPayOff_70 : decode cX0_seekPayOff 70 = .ok (.aload_n 1, 1) := by decide +kernel
theorem dX0_seekPayOff_71 : decode cX0_seekPayOff 71 = .ok (.aload_n 2, 1) := by decide +kernel
theorem dX0_seekPayOff_72 : decode cX0_seekPayOff 72 = .ok (.iload_n 3, 1) := by decide +kernel
theorem dX0_seekPayOff_73 : decode cX0_seekPayOff 73 = .ok (.iload 4, 2) := by decide +kernel
theorem dX0_seekPayOff_75 : decode cX0_seekPayOff 75 = .ok (.iload 6, 2) := by decide +kernel
theorem dX0_seekPayOff_77 : decode cX0_seekPayOff 77 = .ok (.invokevirtual 34, 3) := by decide +kernel
theorem dX0_seekPayOff_80 : decode cX0_seekPayOff 80 = .ok (.iinc 6 1, 3) := by decide +kernel
theorem dX0_seekPayOff_83 : decode cX0_seekPayOff 83 = .ok (.goto (-31), 3) := by decide +kernel
theorem dX0_seekPayOff_86 : decode cX0_seekPayOff 86 = .ok (.return_, 1) := by decide +kernel
set_option maxRecDepth 20000 in
theorem ggX0_tryPayOff_X4_load : GoodIn wsX0_tryPayOff wsX4_load := goodIn_r _ [12, 13, 14, 15, 16, 17, 18, 19, 20, 21, 22, 23, 24, 25, 26, 27, 28, 29, 30, 31, 32, 33, 34, 35, 36, 104, 105, 106, 107, 108, 113, 114, 94, 95, 96, 97, 98, 99, 100, 101, 102, 103] (by decide +kernel) (by decide +kernel)
set_option maxRecDepth 20000 in
theorem gX0_tryPayOff_X4_load : GoodIn wsX0_tryPayOff (wsV RX0 38 RX4 yX4_load wsX4_load) := goodIn_app (goodIn_of _ (by decide +kernel)) ggX0_tryPayOff_X4_load
set_option maxRecDepth 20000 in
theorem ggX0_tryPayOff_X7_payOff : GoodIn wsX0_tryPayOff wsX7_payOff := goodIn_r _ [40, 35, 41, 42, 43, 21, 44, 36, 45, 46, 47, 48, 94, 95, 96, 97, 98, 99, 100, 101, 102, 103] (by decide +kernel) (by decide +kernel)
set_option maxRecDepth 20000 in
theorem gX0_tryPayOff_X7_payOff : GoodIn wsX0_tryPayOff (wsV RX0 48 RX7 yX7_payOff wsX7_payOff) := goodIn_app (goodIn_of _ (by decide +kernel)) ggX0_tryPayOff_X7_payOff
set_option maxRecDepth 20000 in
theorem ggX0_tryPayOff_X4_go : GoodIn wsX0_tryPayOff wsX4_go := goodIn_r _ [52, 13, 53, 54, 17, 14, 55, 56, 57, 58, 59, 60, 61, 62, 63, 64, 21, 65, 26, 24, 66, 67, 68, 69, 36, 31, 70, 71, 72, 73, 35, 41, 42, 43, 44, 74, 38, 39, 40, 45, 46, 47, 48, 75, 76, 77, 11, 78, 79, 16, 15, 80, 81, 82, 83, 84, 85, 86, 87, 88, 89, 90, 91, 92, 93, 104, 105, 106, 107, 108, 94, 95, 96, 97, 98, 99, 100, 101, 102, 103, 113, 114] (by decide +kernel) (by decide +kernel)
set_option maxRecDepth 20000 in
theorem gX0_tryPayOff_X4_go : GoodIn wsX0_tryPayOff (wsV RX0 54 RX4 yX4_go wsX4_go) := goodIn_app (goodIn_of _ (by decide +kernel)) ggX0_tryPayOff_X4_go
theorem dX0_tryPayOff_0 : decode cX0_tryPayOff 0 = .ok (.aload_n 1, 1) := by decide +kernel
theorem dX0_tryPayOff_1 : decode cX0_tryPayOff 1 = .ok (.aload_n 2, 1) := by decide +kernel
theorem dX0_tryPayOff_2 : decode cX0_tryPayOff 2 = .ok (.invokevirtual 38, 3) := by decide +kernel
theorem dX0_tryPayOff_5 : decode cX0_tryPayOff 5 = .ok (.iconst 0, 1) := by decide +kernel
theorem dX0_tryPayOff_6 : decode cX0_tryPayOff 6 = .ok (.istore 6, 2) := by decide +kernel
theorem dX0_tryPayOff_8 : decode cX0_tryPayOff 8 = .ok (.iconst 0, 1) := by decide +kernel
theorem dX0_tryPayOff_9 : decode cX0_tryPayOff 9 = .ok (.istore 7, 2) := by decide +kernel
theorem dX0_tryPayOff_11 : decode cX0_tryPayOff 11 = .ok (.iload 7, 2) := by decide +kernel
theorem dX0_tryPayOff_13 : decode cX0_tryPayOff 13 = .ok (.aload_n 2, 1) := by decide +kernel
theorem dX0_tryPayOff_14 : decode cX0_tryPayOff 14 = .ok (.getfield 25, 3) := by decide +kernel
theorem dX0_tryPayOff_17 : decode cX0_tryPayOff 17 = .ok (.if_icmp .ge 34, 3) := by decide +kernel
theorem dX0_tryPayOff_20 : decode cX0_tryPayOff 20 = .ok (.iload 5, 2) := by decide +kernel
theorem dX0_tryPayOff_22 : decode cX0_tryPayOff 22 = .ok (.iload 7, 2) := by decide +kernel
theorem dX0_tryPayOff_24 : decode cX0_tryPayOff 24 = .ok (.ishr, 1) := by decide +kernel
theorem dX0_tryPayOff_25 : decode cX0_tryPayOff 25 = .ok (.iconst 1, 1) := by decide +kernel
theorem dX0_tryPayOff_26 : decode cX0_tryPayOff 26 = .ok (.iand, 1) := by decide +kernel
theorem dX0_tryPayOff_27 : decode cX0_tryPayOff 27 = .ok (.ifCond .eq 18, 3) := by decide +kernel
theorem dX0_tryPayOff_30 : decode cX0_tryPayOff 30 = .ok (.iload 6, 2) := by decide +kernel
theorem dX0_tryPayOff_32 : decode cX0_tryPayOff 32 = .ok (.aload_n 1, 1) := by decide +kernel
theorem dX0_tryPayOff_33 : decode cX0_tryPayOff 33 = .ok (.getfield 44, 3) := by decide +kernel
theorem dX0_tryPayOff_36 : decode cX0_tryPayOff 36 = .ok (.iload_n 3, 1) := by decide +kernel
theorem dX0_tryPayOff_37 : decode cX0_tryPayOff 37 = .ok (.iload 7, 2) := by decide +kernel
theorem dX0_tryPayOff_39 : decode cX0_tryPayOff 39 = .ok (.invokevirtual 48, 3) := by decide +kernel
theorem dX0_tryPayOff_42 : decode cX0_tryPayOff 42 = .ok (.iadd, 1) := by decide +kernel
theorem dX0_tryPayOff_43 : decode cX0_tryPayOff 43 = .ok (.istore 6, 2) := by decide +kernel
theorem dX0_tryPayOff_45 : decode cX0_tryPayOff 45 = .ok (.iinc 7 1, 3) := by decide +kernel
theorem dX0_tryPayOff_48 : decode cX0_tryPayOff 48 = .ok (.goto (-37), 3) := by decide +kernel
theorem dX0_tryPayOff_51 : decode cX0_tryPayOff 51 = .ok (.iload 6, 2) := by decide +kernel
theorem dX0_tryPayOff_53 : decode cX0_tryPayOff 53 = .ok (.aload_n 2, 1) := by decide +kernel
theorem dX0_tryPayOff_54 : decode cX0_tryPayOff 54 = .ok (.getfield 51, 3) := by decide +kernel
theorem dX0_tryPayOff_57 : decode cX0_tryPayOff 57 = .ok (.iload_n 3, 1) := by decide +kernel
theorem dX0_tryPayOff_58 : decode cX0_tryPayOff 58 = .ok (.iaload, 1) := by decide +kernel
theorem dX0_tryPayOff_59 : decode cX0_tryPayOff 59 = .ok (.if_icmp .gt 19, 3) := by decide +kernel
theorem dX0_tryPayOff_62 : decode cX0_tryPayOff 62 = .ok (.aload_n 0, 1) := by decide +kernel
theorem dX0_tryPayOff_63 : decode cX0_tryPayOff 63 = .ok (.getfield 9, 3) := by decide +kernel
theorem dX0_tryPayOff_66 : decode cX0_tryPayOff 66 = .ok (.ifCond .eq 13, 3) := by decide +kernel
theorem dX0_tryPayOff_69 : decode cX0_tryPayOff 69 = .ok (.iload 6, 2) := by decide +kernel
theorem dX0_tryPayOff_71 : decode cX0_tryPayOff 71 = .ok (.aload_n 0, 1) := by decide +kernel
theorem dX0_tryPayOff_72 : decode cX0_tryPayOff 72 = .ok (.getfield 22, 3) := by decide +kernel
theorem dX0_tryPayOff_75 : decode cX0_tryPayOff 75 = .ok (.if_icmp .lt 4, 3) := by decide +kernel
theorem dX0_tryPayOff_78 : decode cX0_tryPayOff 78 = .ok (.return_, 1) := by decide +kernel
theorem dX0_tryPayOff_79 : decode cX0_tryPayOff 79 = .ok (.aload_n 1, 1) := by decide +kernel
theorem dX0_tryPayOff_80 : decode cX0_tryPayOff 80 = .ok (.sipush 130, 3) := by decide +kernel
theorem dX0_tryPayOff_83 : decode cX0_tryPayOff 83 = .ok (.invokevirtual 54, 3) := by decide +kernel
theorem dX0_tryPayOff_86 : decode cX0_tryPayOff 86 = .ok (.aload_n 1, 1) := by decide +kernel
theorem dX0_tryPayOff_87 : decode cX0_tryPayOff 87 = .ok (.getfield 58, 3) := by decide +kernel
theorem dX0_tryPayOff_90 : decode cX0_tryPayOff 90 = .ok (.iload_n 3, 1) := by decide +kernel
theorem dX0_tryPayOff_91 : decode cX0_tryPayOff 91 = .ok (.iaload, 1) := by decide +kernel
theorem dX0_tryPayOff_92 : decode cX0_tryPayOff 92 = .ok (.iload 4, 2) := by decide +kernel
theorem dX0_tryPayOff_94 : decode cX0_tryPayOff 94 = .ok (.if_icmp .gt 20, 3) := by decide +kernel
theorem dX0_tryPayOff_97 : decode cX0_tryPayOff 97 = .ok (.aload_n 0, 1) := by decide +kernel
theorem dX0_tryPayOff_98 : decode cX0_tryPayOff 98 = .ok (.iconst 1, 1) := by decide +kernel
theorem dX0_tryPayOff_99 : decode cX0_tryPayOff 99 = .ok (.putfield 9, 3) := by decide +kernel
theorem dX0_tryPayOff_102 : decode cX0_tryPayOff 102 = .ok (.aload_n 0, 1) := by decide +kernel
theorem dX0_tryPayOff_103 : decode cX0_tryPayOff 103 = .ok (.iload 6, 2) := by decide +kernel
theorem dX0_tryPayOff_105 : decode cX0_tryPayOff 105 = .ok (.putfield 22, 3) := by decide +kernel
theorem dX0_tryPayOff_108 : decode cX0_tryPayOff 108 = .ok (.aload_n 0, 1) := by decide +kernel
theorem dX0_tryPayOff_109 : decode cX0_tryPayOff 109 = .ok (.iload 5, 2) := by decide +kernel
theorem dX0_tryPayOff_111 : decode cX0_tryPayOff 111 = .ok (.putfield 19, 3) := by decide +kernel
theorem dX0_tryPayOff_114 : decode cX0_tryPayOff 114 = .ok (.return_, 1) := by decide +kernel
set_option maxRecDepth 20000 in
theorem ggX0_seekLoan_X0_startFromNow : GoodIn wsX0_seekLoan wsX0_startFromNow := goodIn_r _ [13, 14, 6, 15, 16, 17, 18, 19, 20, 21, 22, 23, 24, 25, 26, 27, 28, 29, 30, 31, 32, 33, 34, 35, 36, 37, 38, 39, 40, 41, 42, 43, 44, 45, 46, 47, 48, 49, 50, 51, 52, 53, 54, 55, 56, 57, 58, 59, 60, 61, 62, 63, 64, 65, 66, 67, 68, 69, 70, 71, 72, 73, 74, 75, 76, 77, 78, 79, 80, 81, 82, 83, 84, 85, 86, 87, 88, 89, 90, 91, 92, 93, 94, 95, 96, 3, 4, 5, 97, 98, 99, 100, 122, 123, 124, 125, 126, 127, 128, 129, 130, 131, 132, 112, 113, 114, 115, 116, 117, 118, 119, 120, 121] (by decide +kernel) (by decide +kernel)
set_option maxRecDepth 20000 in
theorem gX0_seekLoan_X0_startFromNow : GoodIn wsX0_seekLoan (wsV RX0 61 RX0 yX0_startFromNow wsX0_startFromNow) := goodIn_app (goodIn_of _ (by decide +kernel)) ggX0_seekLoan_X0_startFromNow
set_option maxRecDepth 20000 in
theorem ggX0_seekLoan_X7_owed : GoodIn wsX0_seekLoan wsX7_owed := goodIn_r _ [72, 43, 112, 113, 114, 115, 116, 117, 118, 119, 120, 121] (by decide +kernel) (by decide +kernel)
set_option maxRecDepth 20000 in
theorem gX0_seekLoan_X7_owed : GoodIn wsX0_seekLoan (wsV RX0 30 RX7 yX7_owed wsX7_owed) := goodIn_app (goodIn_of _ (by decide +kernel)) ggX0_seekLoan_X7_owed
set_option maxRecDepth 20000 in
theorem ggX0_seekLoan_X4_load : GoodIn wsX0_seekLoan wsX4_load := goodIn_r _ [19, 20, 21, 22, 23, 24, 25, 26, 27, 28, 29, 30, 31, 32, 33, 34, 35, 36, 37, 38, 39, 40, 41, 42, 43, 126, 127, 128, 129, 130, 131, 132, 112, 113, 114, 115, 116, 117, 118, 119, 120, 121] (by decide +kernel) (by decide +kernel)
set_option maxRecDepth 20000 in
theorem gX0_seekLoan_X4_load : GoodIn wsX0_seekLoan (wsV RX0 38 RX4 yX4_load wsX4_load) := goodIn_app (goodIn_of _ (by decide +kernel)) ggX0_seekLoan_X4_load
set_option maxRecDepth 20000 in
theorem ggX0_seekLoan_X7_lendCoins : GoodIn wsX0_seekLoan wsX7_lendCoins := goodIn_r _ [105, 42, 69, 70, 71, 28, 72, 43, 77, 78, 79, 80, 112, 113, 114, 115, 116, 117, 118, 119, 120, 121] (by decide +kernel) (by decide +kernel)
set_option maxRecDepth 20000 in
theorem gX0_seekLoan_X7_lendCoins : GoodIn wsX0_seekLoan (wsV RX0 70 RX7 yX7_lendCoins wsX7_lendCoins) := goodIn_app (goodIn_of _ (by decide +kernel)) ggX0_seekLoan_X7_lendCoins
set_option maxRecDepth 20000 in
theorem ggX0_seekLoan_X0_weigh : GoodIn wsX0_seekLoan wsX0_weigh := goodIn_r _ [109, 6, 14, 110, 111, 44, 45, 46, 18, 47, 20, 48, 49, 24, 21, 50, 51, 52, 53, 54, 55, 56, 57, 58, 59, 28, 60, 33, 31, 61, 62, 63, 64, 43, 38, 65, 66, 67, 68, 42, 69, 70, 71, 72, 73, 74, 75, 76, 77, 78, 79, 80, 81, 82, 83, 84, 85, 23, 22, 86, 87, 88, 89, 90, 91, 92, 93, 94, 95, 96, 3, 4, 5, 97, 98, 99, 100, 122, 123, 124, 125, 126, 127, 128, 129, 130, 112, 113, 114, 115, 116, 117, 118, 119, 120, 121, 131, 132] (by decide +kernel) (by decide +kernel)
set_option maxRecDepth 20000 in
theorem gX0_seekLoan_X0_weigh : GoodIn wsX0_seekLoan (wsV RX0 74 RX0 yX0_weigh wsX0_weigh) := goodIn_app (goodIn_of _ (by decide +kernel)) ggX0_seekLoan_X0_weigh
theorem dX0_seekLoan_0 : decode cX0_seekLoan 0 = .ok (.aload_n 0, 1) := by decide +kernel
theorem dX0_seekLoan_1 : decode cX0_seekLoan 1 = .ok (.aload_n 1, 1) := by decide +kernel
theorem dX0_seekLoan_2 : decode cX0_seekLoan 2 = .ok (.aload_n 2, 1) := by decide +kernel
theorem dX0_seekLoan_3 : decode cX0_seekLoan 3 = .ok (.iload_n 3, 1) := by decide +kernel
theorem dX0_seekLoan_4 : decode cX0_seekLoan 4 = .ok (.invokevirtual 61, 3) := by decide +kernel
theorem dX0_seekLoan_7 : decode cX0_seekLoan 7 = .ok (.bipush 50, 2) := by decide +kernel
theorem dX0_seekLoan_9 : decode cX0_seekLoan 9 = .ok (.aload_n 2, 1) := by decide +kernel
theorem dX0_seekLoan_10 : decode cX0_seekLoan 10 = .ok (.getfield 51, 3) := by decide +kernel
theorem dX0_seekLoan_13 : decode cX0_seekLoan 13 = .ok (.iload_n 3, 1) := by decide +kernel
theorem dX0_seekLoan_14 : decode cX0_seekLoan 14 = .ok (.iaload, 1) := by decide +kernel
theorem dX0_seekLoan_15 : decode cX0_seekLoan 15 = .ok (.invokestatic 65, 3) := by decide +kernel
theorem dX0_seekLoan_18 : decode cX0_seekLoan 18 = .ok (.istore 4, 2) := by decide +kernel
theorem dX0_seekLoan_20 : decode cX0_seekLoan 20 = .ok (.iconst 1, 1) := by decide +kernel
theorem dX0_seekLoan_21 : decode cX0_seekLoan 21 = .ok (.istore 5, 2) := by decide +kernel
theorem dX0_seekLoan_23 : decode cX0_seekLoan 23 = .ok (.iload 5, 2) := by decide +kernel
theorem dX0_seekLoan_25 : decode cX0_seekLoan 25 = .ok (.iload 4, 2) := by decide +kernel
theorem dX0_seekLoan_27 : decode cX0_seekLoan 27 = .ok (.if_icmp .gt 83, 3) := by decide +kernel
theorem dX0_seekLoan_30 : decode cX0_seekLoan 30 = .ok (.aload_n 0, 1) := by decide +kernel
theorem dX0_seekLoan_31 : decode cX0_seekLoan 31 = .ok (.getfield 15, 3) := by decide +kernel
theorem dX0_seekLoan_34 : decode cX0_seekLoan 34 = .ok (.ifCond .le 76, 3) := by decide +kernel
theorem dX0_seekLoan_37 : decode cX0_seekLoan 37 = .ok (.iconst 0, 1) := by decide +kernel
theorem dX0_seekLoan_38 : decode cX0_seekLoan 38 = .ok (.istore 6, 2) := by decide +kernel
theorem dX0_seekLoan_40 : decode cX0_seekLoan 40 = .ok (.iload 6, 2) := by decide +kernel
theorem dX0_seekLoan_42 : decode cX0_seekLoan 42 = .ok (.aload_n 2, 1) := by decide +kernel
theorem dX0_seekLoan_43 : decode cX0_seekLoan 43 = .ok (.getfield 25, 3) := by decide +kernel
theorem dX0_seekLoan_46 : decode cX0_seekLoan 46 = .ok (.if_icmp .ge 58, 3) := by decide +kernel
theorem dX0_seekLoan_49 : decode cX0_seekLoan 49 = .ok (.iload 6, 2) := by decide +kernel
theorem dX0_seekLoan_51 : decode cX0_seekLoan 51 = .ok (.iload_n 3, 1) := by decide +kernel
theorem dX0_seekLoan_52 : decode cX0_seekLoan 52 = .ok (.if_icmp .eq 46, 3) := by decide +kernel
theorem dX0_seekLoan_55 : decode cX0_seekLoan 55 = .ok (.aload_n 2, 1) := by decide +kernel
theorem dX0_seekLoan_56 : decode cX0_seekLoan 56 = .ok (.iload 6, 2) := by decide +kernel
theorem dX0_seekLoan_58 : decode cX0_seekLoan 58 = .ok (.iload_n 3, 1) := by decide +kernel
theorem dX0_seekLoan_59 : decode cX0_seekLoan 59 = .ok (.invokevirtual 30, 3) := by decide +kernel
theorem dX0_seekLoan_62 : decode cX0_seekLoan 62 = .ok (.iload 5, 2) := by decide +kernel
theorem dX0_seekLoan_64 : decode cX0_seekLoan 64 = .ok (.iadd, 1) := by decide +kernel
theorem dX0_seekLoan_65 : decode cX0_seekLoan 65 = .ok (.sipush 999, 3) := by decide +kernel
theorem dX0_seekLoan_68 : decode cX0_seekLoan 68 = .ok (.if_icmp .gt 30, 3) := by decide +kernel
theorem dX0_seekLoan_71 : decode cX0_seekLoan 71 = .ok (.aload_n 1, 1) := by decide +kernel
theorem dX0_seekLoan_72 : decode cX0_seekLoan 72 = .ok (.aload_n 2, 1) := by decide +kernel
theorem dX0_seekLoan_73 : decode cX0_seekLoan 73 = .ok (.invokevirtual 38, 3) := by decide +kernel
theorem dX0_seekLoan_76 : decode cX0_seekLoan 76 = .ok (.aload_n 1, 1) := by decide +kernel
theorem dX0_seekLoan_77 : decode cX0_seekLoan 77 = .ok (.getfield 44, 3) := by decide +kernel
theorem dX0_seekLoan_80 : decode cX0_seekLoan 80 = .ok (.iload_n 3, 1) := by decide +kernel
theorem dX0_seekLoan_81 : decode cX0_seekLoan 81 = .ok (.iload 6, 2) := by decide +kernel
theorem dX0_seekLoan_83 : decode cX0_seekLoan 83 = .ok (.iload 5, 2) := by decide +kernel
theorem dX0_seekLoan_85 : decode cX0_seekLoan 85 = .ok (.invokevirtual 70, 3) := by decide +kernel
theorem dX0_seekLoan_88 : decode cX0_seekLoan 88 = .ok (.aload_n 0, 1) := by decide +kernel
theorem dX0_seekLoan_89 : decode cX0_seekLoan 89 = .ok (.aload_n 1, 1) := by decide +kernel
theorem dX0_seekLoan_90 : decode cX0_seekLoan 90 = .ok (.iload_n 3, 1) := by decide +kernel
theorem dX0_seekLoan_91 : decode cX0_seekLoan 91 = .ok (.iload 6, 2) := by decide +kernel
theorem dX0_seekLoan_93 : decode cX0_seekLoan 93 = .ok (.iload 5, 2) := by decide +kernel
theorem dX0_seekLoan_95 : decode cX0_seekLoan 95 = .ok (.invokevirtual 74, 3) := by decide +kernel
theorem dX0_seekLoan_98 : decode cX0_seekLoan 98 = .ok (.iinc 6 1, 3) := by decide +kernel
theorem dX0_seekLoan_101 : decode cX0_seekLoan 101 = .ok (.goto (-61), 3) := by decide +kernel
theorem dX0_seekLoan_104 : decode cX0_seekLoan 104 = .ok (.iinc 5 1, 3) := by decide +kernel
theorem dX0_seekLoan_107 : decode cX0_seekLoan 107 = .ok (.goto (-84), 3) := by decide +kernel
theorem dX0_seekLoan_110 : decode cX0_seekLoan 110 = .ok (.return_, 1) := by decide +kernel
set_option maxRecDepth 20000 in
theorem ggX0_seekDebt_X0_startFromNow : GoodIn wsX0_seekDebt wsX0_startFromNow := goodIn_r _ [8, 9, 10, 11, 12, 13, 14, 15, 16, 17, 18, 19, 20, 21, 22, 23, 24, 25, 26, 27, 28, 29, 30, 31, 32, 33, 34, 35, 36, 37, 38, 39, 40, 41, 42, 43, 44, 45, 46, 47, 48, 49, 50, 51, 52, 53, 54, 55, 56, 57, 58, 59, 60, 61, 62, 63, 64, 65, 66, 67, 68, 69, 70, 71, 72, 73, 74, 75, 76, 77, 78, 79, 80, 81, 82, 83, 84, 85, 86, 87, 88, 89, 90, 91, 92, 93, 94, 95, 96, 97, 98, 99, 126, 127, 128, 129, 121, 122, 123, 124, 125, 130, 131, 111, 112, 113, 114, 115, 116, 117, 118, 119, 120] (by decide +kernel) (by decide +kernel)
set_option maxRecDepth 20000 in
theorem gX0_seekDebt_X0_startFromNow : GoodIn wsX0_seekDebt (wsV RX0 61 RX0 yX0_startFromNow wsX0_startFromNow) := goodIn_app (goodIn_of _ (by decide +kernel)) ggX0_seekDebt_X0_startFromNow
set_option maxRecDepth 20000 in
theorem ggX0_seekDebt_X7_owed : GoodIn wsX0_seekDebt wsX7_owed := goodIn_r _ [68, 39, 111, 112, 113, 114, 115, 116, 117, 118, 119, 120] (by decide +kernel) (by decide +kernel)
set_option maxRecDepth 20000 in
theorem gX0_seekDebt_X7_owed : GoodIn wsX0_seekDebt (wsV RX0 30 RX7 yX7_owed wsX7_owed) := goodIn_app (goodIn_of _ (by decide +kernel)) ggX0_seekDebt_X7_owed
set_option maxRecDepth 20000 in
theorem ggX0_seekDebt_X4_load : GoodIn wsX0_seekDebt wsX4_load := goodIn_r _ [15, 16, 17, 18, 19, 20, 21, 22, 23, 24, 25, 26, 27, 28, 29, 30, 31, 32, 33, 34, 35, 36, 37, 38, 39, 121, 122, 123, 124, 125, 130, 131, 111, 112, 113, 114, 115, 116, 117, 118, 119, 120] (by decide +kernel) (by decide +kernel)
set_option maxRecDepth 20000 in
theorem gX0_seekDebt_X4_load : GoodIn wsX0_seekDebt (wsV RX0 38 RX4 yX4_load wsX4_load) := goodIn_app (goodIn_of _ (by decide +kernel)) ggX0_seekDebt_X4_load
set_option maxRecDepth 20000 in
theorem ggX0_seekDebt_X7_buyDebt : GoodIn wsX0_seekDebt wsX7_buyDebt := goodIn_r _ [104, 38, 65, 66, 67, 24, 68, 39, 73, 74, 75, 76, 111, 112, 113, 114, 115, 116, 117, 118, 119, 120] (by decide +kernel) (by decide +kernel)
set_option maxRecDepth 20000 in
theorem gX0_seekDebt_X7_buyDebt : GoodIn wsX0_seekDebt (wsV RX0 78 RX7 yX7_buyDebt wsX7_buyDebt) := goodIn_app (goodIn_of _ (by decide +kernel)) ggX0_seekDebt_X7_buyDebt
set_option maxRecDepth 20000 in
theorem ggX0_seekDebt_X0_weigh : GoodIn wsX0_seekDebt wsX0_weigh := goodIn_r _ [108, 10, 9, 109, 110, 40, 41, 42, 14, 43, 16, 44, 45, 20, 17, 46, 47, 48, 49, 50, 51, 52, 53, 54, 55, 24, 56, 29, 27, 57, 58, 59, 60, 39, 34, 61, 62, 63, 64, 38, 65, 66, 67, 68, 69, 70, 71, 72, 73, 74, 75, 76, 77, 78, 79, 80, 81, 19, 18, 82, 83, 84, 85, 86, 87, 88, 89, 90, 91, 92, 93, 94, 95, 96, 97, 98, 99, 126, 127, 128, 129, 121, 122, 123, 124, 125, 111, 112, 113, 114, 115, 116, 117, 118, 119, 120, 130, 131] (by decide +kernel) (by decide +kernel)
set_option maxRecDepth 20000 in
theorem gX0_seekDebt_X0_weigh : GoodIn wsX0_seekDebt (wsV RX0 74 RX0 yX0_weigh wsX0_weigh) := goodIn_app (goodIn_of _ (by decide +kernel)) ggX0_seekDebt_X0_weigh
theorem dX0_seekDebt_0 : decode cX0_seekDebt 0 = .ok (.aload_n 0, 1) := by decide +kernel
theorem dX0_seekDebt_1 : decode cX0_seekDebt 1 = .ok (.aload_n 1, 1) := by decide +kernel
theorem dX0_seekDebt_2 : decode cX0_seekDebt 2 = .ok (.aload_n 2, 1) := by decide +kernel
theorem dX0_seekDebt_3 : decode cX0_seekDebt 3 = .ok (.iload_n 3, 1) := by decide +kernel
theorem dX0_seekDebt_4 : decode cX0_seekDebt 4 = .ok (.invokevirtual 61, 3) := by decide +kernel
theorem dX0_seekDebt_7 : decode cX0_seekDebt 7 = .ok (.iconst 0, 1) := by decide +kernel
theorem dX0_seekDebt_8 : decode cX0_seekDebt 8 = .ok (.istore 4, 2) := by decide +kernel
theorem dX0_seekDebt_10 : decode cX0_seekDebt 10 = .ok (.iload 4, 2) := by decide +kernel
theorem dX0_seekDebt_12 : decode cX0_seekDebt 12 = .ok (.aload_n 2, 1) := by decide +kernel
theorem dX0_seekDebt_13 : decode cX0_seekDebt 13 = .ok (.getfield 25, 3) := by decide +kernel
theorem dX0_seekDebt_16 : decode cX0_seekDebt 16 = .ok (.if_icmp .ge 126, 3) := by decide +kernel
theorem dX0_seekDebt_19 : decode cX0_seekDebt 19 = .ok (.iconst 0, 1) := by decide +kernel
theorem dX0_seekDebt_20 : decode cX0_seekDebt 20 = .ok (.istore 5, 2) := by decide +kernel
theorem dX0_seekDebt_22 : decode cX0_seekDebt 22 = .ok (.iload 5, 2) := by decide +kernel
theorem dX0_seekDebt_24 : decode cX0_seekDebt 24 = .ok (.aload_n 2, 1) := by decide +kernel
theorem dX0_seekDebt_25 : decode cX0_seekDebt 25 = .ok (.getfield 25, 3) := by decide +kernel
theorem dX0_seekDebt_28 : decode cX0_seekDebt 28 = .ok (.if_icmp .ge 108, 3) := by decide +kernel
theorem dX0_seekDebt_31 : decode cX0_seekDebt 31 = .ok (.aload_n 2, 1) := by decide +kernel
theorem dX0_seekDebt_32 : decode cX0_seekDebt 32 = .ok (.iload 4, 2) := by decide +kernel
theorem dX0_seekDebt_34 : decode cX0_seekDebt 34 = .ok (.iload 5, 2) := by decide +kernel
theorem dX0_seekDebt_36 : decode cX0_seekDebt 36 = .ok (.invokevirtual 30, 3) := by decide +kernel
theorem dX0_seekDebt_39 : decode cX0_seekDebt 39 = .ok (.istore 6, 2) := by decide +kernel
theorem dX0_seekDebt_41 : decode cX0_seekDebt 41 = .ok (.iload 4, 2) := by decide +kernel
theorem dX0_seekDebt_43 : decode cX0_seekDebt 43 = .ok (.iload_n 3, 1) := by decide +kernel
theorem dX0_seekDebt_44 : decode cX0_seekDebt 44 = .ok (.if_icmp .eq 18, 3) := by decide +kernel
theorem dX0_seekDebt_47 : decode cX0_seekDebt 47 = .ok (.iload 5, 2) := by decide +kernel
theorem dX0_seekDebt_49 : decode cX0_seekDebt 49 = .ok (.iload_n 3, 1) := by decide +kernel
theorem dX0_seekDebt_50 : decode cX0_seekDebt 50 = .ok (.if_icmp .eq 12, 3) := by decide +kernel
theorem dX0_seekDebt_53 : decode cX0_seekDebt 53 = .ok (.iload 6, 2) := by decide +kernel
theorem dX0_seekDebt_55 : decode cX0_seekDebt 55 = .ok (.ifCond .le 7, 3) := by decide +kernel
theorem dX0_seekDebt_58 : decode cX0_seekDebt 58 = .ok (.iconst 1, 1) := by decide +kernel
theorem dX0_seekDebt_59 : decode cX0_seekDebt 59 = .ok (.goto 4, 3) := by decide +kernel
theorem dX0_seekDebt_62 : decode cX0_seekDebt 62 = .ok (.iconst 0, 1) := by decide +kernel
theorem dX0_seekDebt_63 : decode cX0_seekDebt 63 = .ok (.istore 7, 2) := by decide +kernel
theorem dX0_seekDebt_65 : decode cX0_seekDebt 65 = .ok (.iload 7, 2) := by decide +kernel
theorem dX0_seekDebt_67 : decode cX0_seekDebt 67 = .ok (.ifCond .eq 63, 3) := by decide +kernel
theorem dX0_seekDebt_70 : decode cX0_seekDebt 70 = .ok (.iload 6, 2) := by decide +kernel
theorem dX0_seekDebt_72 : decode cX0_seekDebt 72 = .ok (.aload_n 2, 1) := by decide +kernel
theorem dX0_seekDebt_73 : decode cX0_seekDebt 73 = .ok (.getfield 51, 3) := by decide +kernel
theorem dX0_seekDebt_76 : decode cX0_seekDebt 76 = .ok (.iload_n 3, 1) := by decide +kernel
theorem dX0_seekDebt_77 : decode cX0_seekDebt 77 = .ok (.iaload, 1) := by decide +kernel
theorem dX0_seekDebt_78 : decode cX0_seekDebt 78 = .ok (.if_icmp .gt 52, 3) := by decide +kernel
theorem dX0_seekDebt_81 : decode cX0_seekDebt 81 = .ok (.aload_n 2, 1) := by decide +kernel
theorem dX0_seekDebt_82 : decode cX0_seekDebt 82 = .ok (.iload 4, 2) := by decide +kernel
theorem dX0_seekDebt_84 : decode cX0_seekDebt 84 = .ok (.iload_n 3, 1) := by decide +kernel
theorem dX0_seekDebt_85 : decode cX0_seekDebt 85 = .ok (.invokevirtual 30, 3) := by decide +kernel
theorem dX0_seekDebt_88 : decode cX0_seekDebt 88 = .ok (.iload 6, 2) := by decide +kernel
theorem dX0_seekDebt_90 : decode cX0_seekDebt 90 = .ok (.iadd, 1) := by decide +kernel
theorem dX0_seekDebt_91 : decode cX0_seekDebt 91 = .ok (.sipush 999, 3) := by decide +kernel
theorem dX0_seekDebt_94 : decode cX0_seekDebt 94 = .ok (.if_icmp .gt 36, 3) := by decide +kernel
theorem dX0_seekDebt_97 : decode cX0_seekDebt 97 = .ok (.aload_n 1, 1) := by decide +kernel
theorem dX0_seekDebt_98 : decode cX0_seekDebt 98 = .ok (.aload_n 2, 1) := by decide +kernel
theorem dX0_seekDebt_99 : decode cX0_seekDebt 99 = .ok (.invokevirtual 38, 3) := by decide +kernel
theorem dX0_seekDebt_102 : decode cX0_seekDebt 102 = .ok (.aload_n 1, 1) := by decide +kernel
theorem dX0_seekDebt_103 : decode cX0_seekDebt 103 = .ok (.getfield 44, 3) := by decide +kernel
theorem dX0_seekDebt_106 : decode cX0_seekDebt 106 = .ok (.iload_n 3, 1) := by decide +kernel
theorem dX0_seekDebt_107 : decode cX0_seekDebt 107 = .ok (.iload 4, 2) := by decide +kernel
theorem dX0_seekDebt_109 : decode cX0_seekDebt 109 = .ok (.iload 5, 2) := by decide +kernel
theorem dX0_seekDebt_111 : decode cX0_seekDebt 111 = .ok (.invokevirtual 78, 3) := by decide +kernel
theorem dX0_seekDebt_114 : decode cX0_seekDebt 114 = .ok (.aload_n 0, 1) := by decide +kernel
theorem dX0_seekDebt_115 : decode cX0_seekDebt 115 = .ok (.aload_n 1, 1) := by decide +kernel
theorem dX0_seekDebt_116 : decode cX0_seekDebt 116 = .ok (.iload_n 3, 1) := by decide +kernel
theorem dX0_seekDebt_117 : decode cX0_seekDebt 117 = .ok (.bipush 10, 2) := by decide +kernel
theorem dX0_seekDebt_119 : decode cX0_seekDebt 119 = .ok (.iload 4, 2) := by decide +kernel
theorem dX0_seekDebt_121 : decode cX0_seekDebt 121 = .ok (.imul, 1) := by decide +kernel
theorem dX0_seekDebt_122 : decode cX0_seekDebt 122 = .ok (.iload 5, 2) := by decide +kernel
theorem dX0_seekDebt_124 : decode cX0_seekDebt 124 = .ok (.iadd, 1) := by decide +kernel
theorem dX0_seekDebt_125 : decode cX0_seekDebt 125 = .ok (.iload 6, 2) := by decide +kernel
theorem dX0_seekDebt_127 : decode cX0_seekDebt 127 = .ok (.invokevirtual 74, 3) := by decide +kernel
theorem dX0_seekDebt_130 : decode cX0_seekDebt 130 = .ok (.iinc 5 1, 3) := by decide +kernel
theorem dX0_seekDebt_133 : decode cX0_seekDebt 133 = .ok (.goto (-111), 3) := by decide +kernel
theorem dX0_seekDebt_136 : decode cX0_seekDebt 136 = .ok (.iinc 4 1, 3) := by decide +kernel
theorem dX0_seekDebt_139 : decode cX0_seekDebt 139 = .ok (.goto (-129), 3) := by decide +kernel
theorem dX0_seekDebt_142 : decode cX0_seekDebt 142 = .ok (.return_, 1) := by decide +kernel
set_option maxRecDepth 20000 in
theorem ggX0_startFromNow_X4_load : GoodIn wsX0_startFromNow wsX4_load := goodIn_r _ [7, 8, 9, 10, 11, 12, 13, 14, 15, 16, 17, 18, 19, 20, 21, 22, 23, 24, 25, 26, 27, 28, 29, 30, 31, 96, 97, 98, 99, 100, 101, 102, 103, 104, 105, 106, 107, 108, 109, 110, 111, 112] (by decide +kernel) (by decide +kernel)
set_option maxRecDepth 20000 in
theorem gX0_startFromNow_X4_load : GoodIn wsX0_startFromNow (wsV RX0 38 RX4 yX4_load wsX4_load) := goodIn_app (goodIn_of _ (by decide +kernel)) ggX0_startFromNow_X4_load
set_option maxRecDepth 20000 in
theorem ggX0_startFromNow_X4_go : GoodIn wsX0_startFromNow wsX4_go := goodIn_r _ [35, 8, 36, 37, 12, 9, 38, 39, 40, 41, 42, 43, 44, 45, 46, 47, 16, 48, 21, 19, 49, 50, 51, 52, 31, 26, 53, 54, 55, 56, 30, 57, 58, 59, 60, 61, 62, 63, 64, 65, 66, 67, 68, 69, 70, 71, 6, 72, 73, 11, 10, 74, 75, 76, 77, 78, 79, 80, 81, 82, 83, 84, 85, 86, 87, 96, 97, 98, 99, 100, 103, 104, 105, 106, 107, 108, 109, 110, 111, 112, 101, 102] (by decide +kernel) (by decide +kernel)
set_option maxRecDepth 20000 in
theorem gX0_startFromNow_X4_go : GoodIn wsX0_startFromNow (wsV RX0 54 RX4 yX4_go wsX4_go) := goodIn_app (goodIn_of _ (by decide +kernel)) ggX0_startFromNow_X4_go
set_option maxRecDepth 20000 in
theorem ggX0_startFromNow_X4_waitOf : GoodIn wsX0_startFromNow wsX4_waitOf := goodIn_r _ [91, 74, 8, 37, 96, 97, 98, 99, 100, 103, 104, 105, 106, 107, 108, 109, 110, 111, 112] (by decide +kernel) (by decide +kernel)
set_option maxRecDepth 20000 in
theorem gX0_startFromNow_X4_waitOf : GoodIn wsX0_startFromNow (wsV RX0 81 RX4 yX4_waitOf wsX4_waitOf) := goodIn_app (goodIn_of _ (by decide +kernel)) ggX0_startFromNow_X4_waitOf
theorem dX0_startFromNow_0 : decode cX0_startFromNow 0 = .ok (.aload_n 1, 1) := by decide +kernel
theorem dX0_startFromNow_1 : decode cX0_startFromNow 1 = .ok (.aload_n 2, 1) := by decide +kernel
theorem dX0_startFromNow_2 : decode cX0_startFromNow 2 = .ok (.invokevirtual 38, 3) := by decide +kernel
theorem dX0_startFromNow_5 : decode cX0_startFromNow 5 = .ok (.aload_n 1, 1) := by decide +kernel
theorem dX0_startFromNow_6 : decode cX0_startFromNow 6 = .ok (.sipush 130, 3) := by decide +kernel
theorem dX0_startFromNow_9 : decode cX0_startFromNow 9 = .ok (.invokevirtual 54, 3) := by decide +kernel
theorem dX0_startFromNow_12 : decode cX0_startFromNow 12 = .ok (.aload_n 0, 1) := by decide +kernel
theorem dX0_startFromNow_13 : decode cX0_startFromNow 13 = .ok (.iconst 0, 1) := by decide +kernel
theorem dX0_startFromNow_14 : decode cX0_startFromNow 14 = .ok (.putfield 9, 3) := by decide +kernel
theorem dX0_startFromNow_17 : decode cX0_startFromNow 17 = .ok (.aload_n 0, 1) := by decide +kernel
theorem dX0_startFromNow_18 : decode cX0_startFromNow 18 = .ok (.aload_n 1, 1) := by decide +kernel
theorem dX0_startFromNow_19 : decode cX0_startFromNow 19 = .ok (.iload_n 3, 1) := by decide +kernel
theorem dX0_startFromNow_20 : decode cX0_startFromNow 20 = .ok (.invokevirtual 81, 3) := by decide +kernel
theorem dX0_startFromNow_23 : decode cX0_startFromNow 23 = .ok (.putfield 15, 3) := by decide +kernel
theorem dX0_startFromNow_26 : decode cX0_startFromNow 26 = .ok (.return_, 1) := by decide +kernel
set_option maxRecDepth 20000 in
theorem ggX0_weigh_X4_go : GoodIn wsX0_weigh wsX4_go := goodIn_r _ [9, 10, 11, 12, 13, 14, 15, 16, 17, 18, 19, 20, 21, 22, 23, 24, 25, 26, 27, 28, 29, 30, 31, 32, 33, 34, 35, 36, 37, 38, 39, 40, 41, 42, 43, 44, 45, 46, 47, 48, 49, 50, 51, 52, 53, 54, 8, 55, 56, 57, 58, 59, 60, 61, 62, 63, 64, 65, 66, 67, 68, 69, 70, 71, 72, 81, 82, 83, 84, 85, 86, 87, 88, 89, 90, 91, 92, 93, 94, 95, 96, 97] (by decide +kernel) (by decide +kernel)
set_option maxRecDepth 20000 in
theorem gX0_weigh_X4_go : GoodIn wsX0_weigh (wsV RX0 54 RX4 yX4_go wsX4_go) := goodIn_app (goodIn_of _ (by decide +kernel)) ggX0_weigh_X4_go
set_option maxRecDepth 20000 in
theorem ggX0_weigh_X4_waitOf : GoodIn wsX0_weigh wsX4_waitOf := goodIn_r _ [76, 59, 10, 12, 81, 82, 83, 84, 85, 86, 87, 88, 89, 90, 91, 92, 93, 94, 95] (by decide +kernel) (by decide +kernel)
set_option maxRecDepth 20000 in
theorem gX0_weigh_X4_waitOf : GoodIn wsX0_weigh (wsV RX0 81 RX4 yX4_waitOf wsX4_waitOf) := goodIn_app (goodIn_of _ (by decide +kernel)) ggX0_weigh_X4_waitOf
theorem dX0_weigh_0 : decode cX0_weigh 0 = .ok (.aload_n 1, 1) := by decide +kernel
theorem dX0_weigh_1 : decode cX0_weigh 1 = .ok (.sipush 130, 3) := by decide +kernel
theorem dX0_weigh_4 : decode cX0_weigh 4 = .ok (.invokevirtual 54, 3) := by decide +kernel
theorem dX0_weigh_7 : decode cX0_weigh 7 = .ok (.aload_n 1, 1) := by decide +kernel
theorem dX0_weigh_8 : decode cX0_weigh 8 = .ok (.iload_n 2, 1) := by decide +kernel
theorem dX0_weigh_9 : decode cX0_weigh 9 = .ok (.invokevirtual 81, 3) := by decide +kernel
theorem dX0_weigh_12 : decode cX0_weigh 12 = .ok (.istore 5, 2) := by decide +kernel
theorem dX0_weigh_14 : decode cX0_weigh 14 = .ok (.iload 5, 2) := by decide +kernel
theorem dX0_weigh_16 : decode cX0_weigh 16 = .ok (.aload_n 0, 1) := by decide +kernel
theorem dX0_weigh_17 : decode cX0_weigh 17 = .ok (.getfield 15, 3) := by decide +kernel
theorem dX0_weigh_20 : decode cX0_weigh 20 = .ok (.if_icmp .lt 28, 3) := by decide +kernel
theorem dX0_weigh_23 : decode cX0_weigh 23 = .ok (.aload_n 0, 1) := by decide +kernel
theorem dX0_weigh_24 : decode cX0_weigh 24 = .ok (.getfield 9, 3) := by decide +kernel
theorem dX0_weigh_27 : decode cX0_weigh 27 = .ok (.ifCond .eq 43, 3) := by decide +kernel
theorem dX0_weigh_30 : decode cX0_weigh 30 = .ok (.iload 5, 2) := by decide +kernel
theorem dX0_weigh_32 : decode cX0_weigh 32 = .ok (.aload_n 0, 1) := by decide +kernel
theorem dX0_weigh_33 : decode cX0_weigh 33 = .ok (.getfield 15, 3) := by decide +kernel
theorem dX0_weigh_36 : decode cX0_weigh 36 = .ok (.if_icmp .ne 34, 3) := by decide +kernel
theorem dX0_weigh_39 : decode cX0_weigh 39 = .ok (.iload 4, 2) := by decide +kernel
theorem dX0_weigh_41 : decode cX0_weigh 41 = .ok (.aload_n 0, 1) := by decide +kernel
theorem dX0_weigh_42 : decode cX0_weigh 42 = .ok (.getfield 22, 3) := by decide +kernel
theorem dX0_weigh_45 : decode cX0_weigh 45 = .ok (.if_icmp .ge 25, 3) := by decide +kernel
theorem dX0_weigh_48 : decode cX0_weigh 48 = .ok (.aload_n 0, 1) := by decide +kernel
theorem dX0_weigh_49 : decode cX0_weigh 49 = .ok (.iconst 1, 1) := by decide +kernel
theorem dX0_weigh_50 : decode cX0_weigh 50 = .ok (.putfield 9, 3) := by decide +kernel
theorem dX0_weigh_53 : decode cX0_weigh 53 = .ok (.aload_n 0, 1) := by decide +kernel
theorem dX0_weigh_54 : decode cX0_weigh 54 = .ok (.iload 5, 2) := by decide +kernel
theorem dX0_weigh_56 : decode cX0_weigh 56 = .ok (.putfield 15, 3) := by decide +kernel
theorem dX0_weigh_59 : decode cX0_weigh 59 = .ok (.aload_n 0, 1) := by decide +kernel
theorem dX0_weigh_60 : decode cX0_weigh 60 = .ok (.iload 4, 2) := by decide +kernel
theorem dX0_weigh_62 : decode cX0_weigh 62 = .ok (.putfield 22, 3) := by decide +kernel
theorem dX0_weigh_65 : decode cX0_weigh 65 = .ok (.aload_n 0, 1) := by decide +kernel
theorem dX0_weigh_66 : decode cX0_weigh 66 = .ok (.iload_n 3, 1) := by decide +kernel
theorem dX0_weigh_67 : decode cX0_weigh 67 = .ok (.putfield 19, 3) := by decide +kernel
theorem dX0_weigh_70 : decode cX0_weigh 70 = .ok (.return_, 1) := by decide +kernel
