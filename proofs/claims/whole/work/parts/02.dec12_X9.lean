theorem dX9_gives_10 : decode cX9_gives 10 = .ok (.iconst 4, 1) := by decide +kernel
theorem dX9_gives_11 : decode cX9_gives 11 = .ok (.iadd, 1) := by decide +kernel
theorem dX9_gives_12 : decode cX9_gives 12 = .ok (.dup2, 1) := by decide +kernel
theorem dX9_gives_13 : decode cX9_gives 13 = .ok (.iaload, 1) := by decide +kernel
theorem dX9_gives_14 : decode cX9_gives 14 = .ok (.iload 4, 2) := by decide +kernel
theorem dX9_gives_16 : decode cX9_gives 16 = .ok (.isub, 1) := by decide +kernel
theorem dX9_gives_17 : decode cX9_gives 17 = .ok (.iastore, 1) := by decide +kernel
theorem dX9_gives_18 : decode cX9_gives 18 = .ok (.aload_n 0, 1) := by decide +kernel
theorem dX9_gives_19 : decode cX9_gives 19 = .ok (.getfield 7, 3) := by decide +kernel
theorem dX9_gives_22 : decode cX9_gives 22 = .ok (.iload_n 1, 1) := by decide +kernel
theorem dX9_gives_23 : decode cX9_gives 23 = .ok (.bipush 6, 2) := by decide +kernel
theorem dX9_gives_25 : decode cX9_gives 25 = .ok (.iload_n 3, 1) := by decide +kernel
theorem dX9_gives_26 : decode cX9_gives 26 = .ok (.imul, 1) := by decide +kernel
theorem dX9_gives_27 : decode cX9_gives 27 = .ok (.iadd, 1) := by decide +kernel
theorem dX9_gives_28 : decode cX9_gives 28 = .ok (.iconst 4, 1) := by decide +kernel
theorem dX9_gives_29 : decode cX9_gives 29 = .ok (.iadd, 1) := by decide +kernel
theorem dX9_gives_30 : decode cX9_gives 30 = .ok (.dup2, 1) := by decide +kernel
theorem dX9_gives_31 : decode cX9_gives 31 = .ok (.iaload, 1) := by decide +kernel
theorem dX9_gives_32 : decode cX9_gives 32 = .ok (.iload 4, 2) := by decide +kernel
theorem dX9_gives_34 : decode cX9_gives 34 = .ok (.iadd, 1) := by decide +kernel
theorem dX9_gives_35 : decode cX9_gives 35 = .ok (.iastore, 1) := by decide +kernel
theorem dX9_gives_36 : decode cX9_gives 36 = .ok (.return_, 1) := by decide +kernel
set_option maxRecDepth 20000 in
theorem ggX9_paysAll_X9_debtAt : GoodIn wsX9_paysAll wsX9_debtAt := goodIn_r _ [5] (by decide +kernel) (by decide +kernel)
set_option maxRecDepth 20000 in
theorem gX9_paysAll_X9_debtAt : GoodIn wsX9_paysAll (va_wsS RX9 158 yX9_debtAt wsX9_debtAt) := goodIn_app (goodIn_of _ (by decide +kernel)) ggX9_paysAll_X9_debtAt
set_option maxRecDepth 20000 in
theorem ggX9_paysAll_X9_gives : GoodIn wsX9_paysAll wsX9_gives := goodIn_r _ [9, 1, 10, 11, 12, 13, 14, 15, 16, 17, 18, 19, 20, 21, 22, 23, 24, 25, 26, 27, 28, 29, 30, 31, 32, 33, 34, 35, 36, 37, 38, 39, 40, 41, 42, 43] (by decide +kernel) (by decide +kernel)
set_option maxRecDepth 20000 in
theorem gX9_paysAll_X9_gives : GoodIn wsX9_paysAll (wsV RX9 178 RX9 yX9_gives wsX9_gives) := goodIn_app (goodIn_of _ (by decide +kernel)) ggX9_paysAll_X9_gives
theorem dX9_paysAll_0 : decode cX9_paysAll 0 = .ok (.aload_n 0, 1) := by decide +kernel
theorem dX9_paysAll_1 : decode cX9_paysAll 1 = .ok (.getfield 7, 3) := by decide +kernel
theorem dX9_paysAll_4 : decode cX9_paysAll 4 = .ok (.iload_n 1, 1) := by decide +kernel
theorem dX9_paysAll_5 : decode cX9_paysAll 5 = .ok (.iload_n 2, 1) := by decide +kernel
theorem dX9_paysAll_6 : decode cX9_paysAll 6 = .ok (.iload_n 3, 1) := by decide +kernel
theorem dX9_paysAll_7 : decode cX9_paysAll 7 = .ok (.invokestatic 158, 3) := by decide +kernel
theorem dX9_paysAll_10 : decode cX9_paysAll 10 = .ok (.iadd, 1) := by decide +kernel
theorem dX9_paysAll_11 : decode cX9_paysAll 11 = .ok (.iaload, 1) := by decide +kernel
theorem dX9_paysAll_12 : decode cX9_paysAll 12 = .ok (.istore 4, 2) := by decide +kernel
theorem dX9_paysAll_14 : decode cX9_paysAll 14 = .ok (.aload_n 0, 1) := by decide +kernel
theorem dX9_paysAll_15 : decode cX9_paysAll 15 = .ok (.iload_n 1, 1) := by decide +kernel
theorem dX9_paysAll_16 : decode cX9_paysAll 16 = .ok (.iload_n 2, 1) := by decide +kernel
theorem dX9_paysAll_17 : decode cX9_paysAll 17 = .ok (.iload_n 3, 1) := by decide +kernel
theorem dX9_paysAll_18 : decode cX9_paysAll 18 = .ok (.iload 4, 2) := by decide +kernel
theorem dX9_paysAll_20 : decode cX9_paysAll 20 = .ok (.invokevirtual 178, 3) := by decide +kernel
theorem dX9_paysAll_23 : decode cX9_paysAll 23 = .ok (.aload_n 0, 1) := by decide +kernel
theorem dX9_paysAll_24 : decode cX9_paysAll 24 = .ok (.getfield 7, 3) := by decide +kernel
theorem dX9_paysAll_27 : decode cX9_paysAll 27 = .ok (.iload_n 1, 1) := by decide +kernel
theorem dX9_paysAll_28 : decode cX9_paysAll 28 = .ok (.iload_n 2, 1) := by decide +kernel
theorem dX9_paysAll_29 : decode cX9_paysAll 29 = .ok (.iload_n 3, 1) := by decide +kernel
theorem dX9_paysAll_30 : decode cX9_paysAll 30 = .ok (.invokestatic 158, 3) := by decide +kernel
theorem dX9_paysAll_33 : decode cX9_paysAll 33 = .ok (.iadd, 1) := by decide +kernel
theorem dX9_paysAll_34 : decode cX9_paysAll 34 = .ok (.iconst 0, 1) := by decide +kernel
theorem dX9_paysAll_35 : decode cX9_paysAll 35 = .ok (.iastore, 1) := by decide +kernel
theorem dX9_paysAll_36 : decode cX9_paysAll 36 = .ok (.iload 4, 2) := by decide +kernel
theorem dX9_paysAll_38 : decode cX9_paysAll 38 = .ok (.ireturn, 1) := by decide +kernel
set_option maxRecDepth 20000 in
theorem ggX9_pay_X9_areTwo : GoodIn wsX9_pay wsX9_areTwo := goodIn_r _ [6, 7, 8, 9, 5, 10, 11, 12, 13, 14, 1, 15, 16, 17, 29, 30, 31, 32, 33, 34, 35, 36, 37, 38, 39, 40, 41, 42, 43, 44, 45, 46, 47, 48, 49, 50, 51, 52, 53, 54, 55, 56, 57, 58, 59, 60, 61, 62] (by decide +kernel) (by decide +kernel)
set_option maxRecDepth 20000 in
theorem gX9_pay_X9_areTwo : GoodIn wsX9_pay (wsV RX9 154 RX9 yX9_areTwo wsX9_areTwo) := goodIn_app (goodIn_of _ (by decide +kernel)) ggX9_pay_X9_areTwo
set_option maxRecDepth 20000 in
theorem ggX9_pay_X9_debtAt : GoodIn wsX9_pay wsX9_debtAt := goodIn_r _ [20] (by decide +kernel) (by decide +kernel)
set_option maxRecDepth 20000 in
theorem gX9_pay_X9_debtAt : GoodIn wsX9_pay (va_wsS RX9 158 yX9_debtAt wsX9_debtAt) := goodIn_app (goodIn_of _ (by decide +kernel)) ggX9_pay_X9_debtAt
set_option maxRecDepth 20000 in
theorem ggX9_pay_X9_paysAll : GoodIn wsX9_pay wsX9_paysAll := goodIn_r _ [24, 1, 18, 19, 5, 20, 25, 26, 27, 28, 29, 30, 31, 32, 33, 34, 35, 36, 37, 38, 39, 40, 41, 42, 43, 44, 45, 46, 47, 48, 49, 50, 51, 52, 53, 54, 55, 56, 57, 58, 59, 60, 61, 62] (by decide +kernel) (by decide +kernel)
set_option maxRecDepth 20000 in
theorem gX9_pay_X9_paysAll : GoodIn wsX9_pay (wsV RX9 182 RX9 yX9_paysAll wsX9_paysAll) := goodIn_app (goodIn_of _ (by decide +kernel)) ggX9_pay_X9_paysAll
theorem dX9_pay_0 : decode cX9_pay 0 = .ok (.aload_n 0, 1) := by decide +kernel
theorem dX9_pay_1 : decode cX9_pay 1 = .ok (.iload_n 1, 1) := by decide +kernel
theorem dX9_pay_2 : decode cX9_pay 2 = .ok (.iload_n 2, 1) := by decide +kernel
theorem dX9_pay_3 : decode cX9_pay 3 = .ok (.invokevirtual 154, 3) := by decide +kernel
theorem dX9_pay_6 : decode cX9_pay 6 = .ok (.ifCond .ne 5, 3) := by decide +kernel
theorem dX9_pay_9 : decode cX9_pay 9 = .ok (.iconst (-1), 1) := by decide +kernel
theorem dX9_pay_10 : decode cX9_pay 10 = .ok (.ireturn, 1) := by decide +kernel
theorem dX9_pay_11 : decode cX9_pay 11 = .ok (.aload_n 0, 1) := by decide +kernel
theorem dX9_pay_12 : decode cX9_pay 12 = .ok (.getfield 7, 3) := by decide +kernel
theorem dX9_pay_15 : decode cX9_pay 15 = .ok (.iload_n 1, 1) := by decide +kernel
theorem dX9_pay_16 : decode cX9_pay 16 = .ok (.iload_n 2, 1) := by decide +kernel
theorem dX9_pay_17 : decode cX9_pay 17 = .ok (.invokestatic 158, 3) := by decide +kernel
theorem dX9_pay_20 : decode cX9_pay 20 = .ok (.iaload, 1) := by decide +kernel
theorem dX9_pay_21 : decode cX9_pay 21 = .ok (.istore_n 3, 1) := by decide +kernel
theorem dX9_pay_22 : decode cX9_pay 22 = .ok (.iload_n 3, 1) := by decide +kernel
theorem dX9_pay_23 : decode cX9_pay 23 = .ok (.ifCond .ne 6, 3) := by decide +kernel
theorem dX9_pay_26 : decode cX9_pay 26 = .ok (.bipush (-4), 2) := by decide +kernel
theorem dX9_pay_28 : decode cX9_pay 28 = .ok (.ireturn, 1) := by decide +kernel
theorem dX9_pay_29 : decode cX9_pay 29 = .ok (.aload_n 0, 1) := by decide +kernel
theorem dX9_pay_30 : decode cX9_pay 30 = .ok (.getfield 7, 3) := by decide +kernel
theorem dX9_pay_33 : decode cX9_pay 33 = .ok (.bipush 6, 2) := by decide +kernel
theorem dX9_pay_35 : decode cX9_pay 35 = .ok (.iload_n 1, 1) := by decide +kernel
theorem dX9_pay_36 : decode cX9_pay 36 = .ok (.imul, 1) := by decide +kernel
theorem dX9_pay_37 : decode cX9_pay 37 = .ok (.iconst 4, 1) := by decide +kernel
theorem dX9_pay_38 : decode cX9_pay 38 = .ok (.iadd, 1) := by decide +kernel
theorem dX9_pay_39 : decode cX9_pay 39 = .ok (.iaload, 1) := by decide +kernel
theorem dX9_pay_40 : decode cX9_pay 40 = .ok (.iload_n 3, 1) := by decide +kernel
theorem dX9_pay_41 : decode cX9_pay 41 = .ok (.if_icmp .ge 8, 3) := by decide +kernel
theorem dX9_pay_44 : decode cX9_pay 44 = .ok (.bipush (-2), 2) := by decide +kernel
theorem dX9_pay_46 : decode cX9_pay 46 = .ok (.goto 10, 3) := by decide +kernel
theorem dX9_pay_49 : decode cX9_pay 49 = .ok (.aload_n 0, 1) := by decide +kernel
theorem dX9_pay_50 : decode cX9_pay 50 = .ok (.iconst 0, 1) := by decide +kernel
theorem dX9_pay_51 : decode cX9_pay 51 = .ok (.iload_n 1, 1) := by decide +kernel
theorem dX9_pay_52 : decode cX9_pay 52 = .ok (.iload_n 2, 1) := by decide +kernel
theorem dX9_pay_53 : decode cX9_pay 53 = .ok (.invokevirtual 182, 3) := by decide +kernel
theorem dX9_pay_56 : decode cX9_pay 56 = .ok (.ireturn, 1) := by decide +kernel
set_option maxRecDepth 20000 in
theorem ggX9_lend_X9_areTwo : GoodIn wsX9_lend wsX9_areTwo := goodIn_r _ [7, 8, 9, 10, 6, 11, 12, 13, 14, 15, 2, 16, 17, 18, 26, 27, 28, 29, 30, 31, 32, 33, 34, 35, 36, 37, 38, 39, 40, 41, 42, 43, 44, 45, 46, 47, 48, 49, 50, 51, 52, 53, 54, 55, 56, 57, 58, 59] (by decide +kernel) (by decide +kernel)
set_option maxRecDepth 20000 in
theorem gX9_lend_X9_areTwo : GoodIn wsX9_lend (wsV RX9 154 RX9 yX9_areTwo wsX9_areTwo) := goodIn_app (goodIn_of _ (by decide +kernel)) ggX9_lend_X9_areTwo
set_option maxRecDepth 20000 in
theorem ggX9_lend_X9_in : GoodIn wsX9_lend wsX9_in := goodIn_r _ [18] (by decide +kernel) (by decide +kernel)
set_option maxRecDepth 20000 in
theorem gX9_lend_X9_in : GoodIn wsX9_lend (va_wsS RX9 63 yX9_in wsX9_in) := goodIn_app (goodIn_of _ (by decide +kernel)) ggX9_lend_X9_in
set_option maxRecDepth 20000 in
theorem ggX9_lend_X9_debtAt : GoodIn wsX9_lend wsX9_debtAt := goodIn_r _ [21] (by decide +kernel) (by decide +kernel)
set_option maxRecDepth 20000 in
theorem gX9_lend_X9_debtAt : GoodIn wsX9_lend (va_wsS RX9 158 yX9_debtAt wsX9_debtAt) := goodIn_app (goodIn_of _ (by decide +kernel)) ggX9_lend_X9_debtAt
set_option maxRecDepth 20000 in
theorem ggX9_lend_X9_gives : GoodIn wsX9_lend wsX9_gives := goodIn_r _ [25, 2, 26, 27, 28, 29, 30, 31, 32, 33, 34, 35, 36, 37, 38, 39, 40, 41, 42, 43, 44, 45, 46, 47, 48, 49, 50, 51, 52, 53, 54, 55, 56, 57, 58, 59] (by decide +kernel) (by decide +kernel)
set_option maxRecDepth 20000 in
theorem gX9_lend_X9_gives : GoodIn wsX9_lend (wsV RX9 178 RX9 yX9_gives wsX9_gives) := goodIn_app (goodIn_of _ (by decide +kernel)) ggX9_lend_X9_gives
theorem dX9_lend_0 : decode cX9_lend 0 = .ok (.aload_n 0, 1) := by decide +kernel
theorem dX9_lend_1 : decode cX9_lend 1 = .ok (.iload_n 1, 1) := by decide +kernel
theorem dX9_lend_2 : decode cX9_lend 2 = .ok (.iload_n 2, 1) := by decide +kernel
theorem dX9_lend_3 : decode cX9_lend 3 = .ok (.invokevirtual 154, 3) := by decide +kernel
theorem dX9_lend_6 : decode cX9_lend 6 = .ok (.ifCond .eq 15, 3) := by decide +kernel
theorem dX9_lend_9 : decode cX9_lend 9 = .ok (.iload_n 3, 1) := by decide +kernel
theorem dX9_lend_10 : decode cX9_lend 10 = .ok (.i2l, 1) := by decide +kernel
theorem dX9_lend_11 : decode cX9_lend 11 = .ok (.lconst 1, 1) := by decide +kernel
theorem dX9_lend_12 : decode cX9_lend 12 = .ok (.ldc2_w 185, 3) := by decide +kernel
theorem dX9_lend_15 : decode cX9_lend 15 = .ok (.invokestatic 63, 3) := by decide +kernel
theorem dX9_lend_18 : decode cX9_lend 18 = .ok (.ifCond .ne 5, 3) := by decide +kernel
theorem dX9_lend_21 : decode cX9_lend 21 = .ok (.iconst (-1), 1) := by decide +kernel
theorem dX9_lend_22 : decode cX9_lend 22 = .ok (.ireturn, 1) := by decide +kernel
theorem dX9_lend_23 : decode cX9_lend 23 = .ok (.aload_n 0, 1) := by decide +kernel
theorem dX9_lend_24 : decode cX9_lend 24 = .ok (.getfield 7, 3) := by decide +kernel
theorem dX9_lend_27 : decode cX9_lend 27 = .ok (.bipush 6, 2) := by decide +kernel
theorem dX9_lend_29 : decode cX9_lend 29 = .ok (.iload_n 1, 1) := by decide +kernel
theorem dX9_lend_30 : decode cX9_lend 30 = .ok (.imul, 1) := by decide +kernel
theorem dX9_lend_31 : decode cX9_lend 31 = .ok (.iconst 4, 1) := by decide +kernel
theorem dX9_lend_32 : decode cX9_lend 32 = .ok (.iadd, 1) := by decide +kernel
theorem dX9_lend_33 : decode cX9_lend 33 = .ok (.iaload, 1) := by decide +kernel
theorem dX9_lend_34 : decode cX9_lend 34 = .ok (.iload_n 3, 1) := by decide +kernel
theorem dX9_lend_35 : decode cX9_lend 35 = .ok (.if_icmp .ge 6, 3) := by decide +kernel
theorem dX9_lend_38 : decode cX9_lend 38 = .ok (.bipush (-2), 2) := by decide +kernel
theorem dX9_lend_40 : decode cX9_lend 40 = .ok (.ireturn, 1) := by decide +kernel
theorem dX9_lend_41 : decode cX9_lend 41 = .ok (.aload_n 0, 1) := by decide +kernel
theorem dX9_lend_42 : decode cX9_lend 42 = .ok (.getfield 7, 3) := by decide +kernel
theorem dX9_lend_45 : decode cX9_lend 45 = .ok (.iload_n 2, 1) := by decide +kernel
theorem dX9_lend_46 : decode cX9_lend 46 = .ok (.iload_n 1, 1) := by decide +kernel
theorem dX9_lend_47 : decode cX9_lend 47 = .ok (.invokestatic 158, 3) := by decide +kernel
theorem dX9_lend_50 : decode cX9_lend 50 = .ok (.iaload, 1) := by decide +kernel
theorem dX9_lend_51 : decode cX9_lend 51 = .ok (.iload_n 3, 1) := by decide +kernel
theorem dX9_lend_52 : decode cX9_lend 52 = .ok (.iadd, 1) := by decide +kernel
theorem dX9_lend_53 : decode cX9_lend 53 = .ok (.sipush 999, 3) := by decide +kernel
theorem dX9_lend_56 : decode cX9_lend 56 = .ok (.if_icmp .le 6, 3) := by decide +kernel
theorem dX9_lend_59 : decode cX9_lend 59 = .ok (.bipush (-3), 2) := by decide +kernel
theorem dX9_lend_61 : decode cX9_lend 61 = .ok (.ireturn, 1) := by decide +kernel
theorem dX9_lend_62 : decode cX9_lend 62 = .ok (.aload_n 0, 1) := by decide +kernel
theorem dX9_lend_63 : decode cX9_lend 63 = .ok (.iconst 0, 1) := by decide +kernel
theorem dX9_lend_64 : decode cX9_lend 64 = .ok (.iload_n 1, 1) := by decide +kernel
theorem dX9_lend_65 : decode cX9_lend 65 = .ok (.iload_n 2, 1) := by decide +kernel
theorem dX9_lend_66 : decode cX9_lend 66 = .ok (.iload_n 3, 1) := by decide +kernel
theorem dX9_lend_67 : decode cX9_lend 67 = .ok (.invokevirtual 178, 3) := by decide +kernel
theorem dX9_lend_70 : decode cX9_lend 70 = .ok (.aload_n 0, 1) := by decide +kernel
theorem dX9_lend_71 : decode cX9_lend 71 = .ok (.getfield 7, 3) := by decide +kernel
theorem dX9_lend_74 : decode cX9_lend 74 = .ok (.iload_n 2, 1) := by decide +kernel
theorem dX9_lend_75 : decode cX9_lend 75 = .ok (.iload_n 1, 1) := by decide +kernel
theorem dX9_lend_76 : decode cX9_lend 76 = .ok (.invokestatic 158, 3) := by decide +kernel
theorem dX9_lend_79 : decode cX9_lend 79 = .ok (.dup2, 1) := by decide +kernel
theorem dX9_lend_80 : decode cX9_lend 80 = .ok (.iaload, 1) := by decide +kernel
theorem dX9_lend_81 : decode cX9_lend 81 = .ok (.iload_n 3, 1) := by decide +kernel
theorem dX9_lend_82 : decode cX9_lend 82 = .ok (.iadd, 1) := by decide +kernel
theorem dX9_lend_83 : decode cX9_lend 83 = .ok (.iastore, 1) := by decide +kernel
theorem dX9_lend_84 : decode cX9_lend 84 = .ok (.aload_n 0, 1) := by decide +kernel
theorem dX9_lend_85 : decode cX9_lend 85 = .ok (.getfield 7, 3) := by decide +kernel
theorem dX9_lend_88 : decode cX9_lend 88 = .ok (.iload_n 2, 1) := by decide +kernel
theorem dX9_lend_89 : decode cX9_lend 89 = .ok (.iload_n 1, 1) := by decide +kernel
theorem dX9_lend_90 : decode cX9_lend 90 = .ok (.invokestatic 158, 3) := by decide +kernel
theorem dX9_lend_93 : decode cX9_lend 93 = .ok (.iaload, 1) := by decide +kernel
theorem dX9_lend_94 : decode cX9_lend 94 = .ok (.ireturn, 1) := by decide +kernel
set_option maxRecDepth 20000 in
theorem ggX9_sell_X9_areTwo : GoodIn wsX9_sell wsX9_areTwo := goodIn_r _ [6, 7, 8, 9, 5, 10, 11, 12, 13, 14, 1, 15, 16, 17, 21, 22, 23, 24, 25, 26, 27, 28, 29, 30, 31, 32, 33, 34, 35, 36, 37, 38, 39, 40, 41, 42, 43, 44, 45, 46, 47, 48, 49, 50, 51, 52, 53, 54] (by decide +kernel) (by decide +kernel)
set_option maxRecDepth 20000 in
theorem gX9_sell_X9_areTwo : GoodIn wsX9_sell (wsV RX9 154 RX9 yX9_areTwo wsX9_areTwo) := goodIn_app (goodIn_of _ (by decide +kernel)) ggX9_sell_X9_areTwo
set_option maxRecDepth 20000 in
theorem ggX9_sell_X9_isOne : GoodIn wsX9_sell wsX9_isOne := goodIn_r _ [10, 11, 12, 13, 5, 14, 1, 15, 16, 17, 21, 22, 23, 24, 25, 26, 27, 28, 29, 30, 31, 32, 33, 34, 35, 36, 37, 38, 39, 40, 41, 42, 43, 44, 45, 46, 47, 48, 49, 50, 51, 52, 53, 54] (by decide +kernel) (by decide +kernel)
set_option maxRecDepth 20000 in
theorem gX9_sell_X9_isOne : GoodIn wsX9_sell (wsV RX9 148 RX9 yX9_isOne wsX9_isOne) := goodIn_app (goodIn_of _ (by decide +kernel)) ggX9_sell_X9_isOne
set_option maxRecDepth 20000 in
theorem ggX9_sell_X9_debtAt : GoodIn wsX9_sell wsX9_debtAt := goodIn_r _ [20] (by decide +kernel) (by decide +kernel)
set_option maxRecDepth 20000 in
theorem gX9_sell_X9_debtAt : GoodIn wsX9_sell (va_wsS RX9 158 yX9_debtAt wsX9_debtAt) := goodIn_app (goodIn_of _ (by decide +kernel)) ggX9_sell_X9_debtAt
theorem dX9_sell_0 : decode cX9_sell 0 = .ok (.aload_n 0, 1) := by decide +kernel
theorem dX9_sell_1 : decode cX9_sell 1 = .ok (.iload_n 1, 1) := by decide +kernel
theorem dX9_sell_2 : decode cX9_sell 2 = .ok (.iload_n 2, 1) := by decide +kernel
theorem dX9_sell_3 : decode cX9_sell 3 = .ok (.invokevirtual 154, 3) := by decide +kernel
theorem dX9_sell_6 : decode cX9_sell 6 = .ok (.ifCond .eq 16, 3) := by decide +kernel
theorem dX9_sell_9 : decode cX9_sell 9 = .ok (.aload_n 0, 1) := by decide +kernel
theorem dX9_sell_10 : decode cX9_sell 10 = .ok (.iload_n 3, 1) := by decide +kernel
theorem dX9_sell_11 : decode cX9_sell 11 = .ok (.invokevirtual 148, 3) := by decide +kernel
theorem dX9_sell_14 : decode cX9_sell 14 = .ok (.ifCond .eq 8, 3) := by decide +kernel
theorem dX9_sell_17 : decode cX9_sell 17 = .ok (.iload_n 3, 1) := by decide +kernel
theorem dX9_sell_18 : decode cX9_sell 18 = .ok (.iload_n 2, 1) := by decide +kernel
theorem dX9_sell_19 : decode cX9_sell 19 = .ok (.if_icmp .ne 5, 3) := by decide +kernel
theorem dX9_sell_22 : decode cX9_sell 22 = .ok (.iconst (-1), 1) := by decide +kernel
theorem dX9_sell_23 : decode cX9_sell 23 = .ok (.ireturn, 1) := by decide +kernel
theorem dX9_sell_24 : decode cX9_sell 24 = .ok (.aload_n 0, 1) := by decide +kernel
theorem dX9_sell_25 : decode cX9_sell 25 = .ok (.getfield 7, 3) := by decide +kernel
theorem dX9_sell_28 : decode cX9_sell 28 = .ok (.iload_n 1, 1) := by decide +kernel
theorem dX9_sell_29 : decode cX9_sell 29 = .ok (.iload_n 2, 1) := by decide +kernel
theorem dX9_sell_30 : decode cX9_sell 30 = .ok (.invokestatic 158, 3) := by decide +kernel
theorem dX9_sell_33 : decode cX9_sell 33 = .ok (.iaload, 1) := by decide +kernel
theorem dX9_sell_34 : decode cX9_sell 34 = .ok (.istore 4, 2) := by decide +kernel
theorem dX9_sell_36 : decode cX9_sell 36 = .ok (.iload 4, 2) := by decide +kernel
theorem dX9_sell_38 : decode cX9_sell 38 = .ok (.ifCond .ne 6, 3) := by decide +kernel
theorem dX9_sell_41 : decode cX9_sell 41 = .ok (.bipush (-4), 2) := by decide +kernel
theorem dX9_sell_43 : decode cX9_sell 43 = .ok (.ireturn, 1) := by decide +kernel
theorem dX9_sell_44 : decode cX9_sell 44 = .ok (.iload_n 3, 1) := by decide +kernel
theorem dX9_sell_45 : decode cX9_sell 45 = .ok (.iload_n 1, 1) := by decide +kernel
theorem dX9_sell_46 : decode cX9_sell 46 = .ok (.if_icmp .eq 25, 3) := by decide +kernel
theorem dX9_sell_49 : decode cX9_sell 49 = .ok (.aload_n 0, 1) := by decide +kernel
theorem dX9_sell_50 : decode cX9_sell 50 = .ok (.getfield 7, 3) := by decide +kernel
theorem dX9_sell_53 : decode cX9_sell 53 = .ok (.iload_n 1, 1) := by decide +kernel
theorem dX9_sell_54 : decode cX9_sell 54 = .ok (.iload_n 3, 1) := by decide +kernel
theorem dX9_sell_55 : decode cX9_sell 55 = .ok (.invokestatic 158, 3) := by decide +kernel
theorem dX9_sell_58 : decode cX9_sell 58 = .ok (.iaload, 1) := by decide +kernel
theorem dX9_sell_59 : decode cX9_sell 59 = .ok (.iload 4, 2) := by decide +kernel
theorem dX9_sell_61 : decode cX9_sell 61 = .ok (.iadd, 1) := by decide +kernel
theorem dX9_sell_62 : decode cX9_sell 62 = .ok (.sipush 999, 3) := by decide +kernel
theorem dX9_sell_65 : decode cX9_sell 65 = .ok (.if_icmp .le 6, 3) := by decide +kernel
theorem dX9_sell_68 : decode cX9_sell 68 = .ok (.bipush (-3), 2) := by decide +kernel
theorem dX9_sell_70 : decode cX9_sell 70 = .ok (.ireturn, 1) := by decide +kernel
theorem dX9_sell_71 : decode cX9_sell 71 = .ok (.aload_n 0, 1) := by decide +kernel
theorem dX9_sell_72 : decode cX9_sell 72 = .ok (.getfield 7, 3) := by decide +kernel
theorem dX9_sell_75 : decode cX9_sell 75 = .ok (.iload_n 1, 1) := by decide +kernel
theorem dX9_sell_76 : decode cX9_sell 76 = .ok (.iload_n 2, 1) := by decide +kernel
theorem dX9_sell_77 : decode cX9_sell 77 = .ok (.invokestatic 158, 3) := by decide +kernel
theorem dX9_sell_80 : decode cX9_sell 80 = .ok (.iconst 0, 1) := by decide +kernel
theorem dX9_sell_81 : decode cX9_sell 81 = .ok (.iastore, 1) := by decide +kernel
theorem dX9_sell_82 : decode cX9_sell 82 = .ok (.aload_n 0, 1) := by decide +kernel
theorem dX9_sell_83 : decode cX9_sell 83 = .ok (.getfield 7, 3) := by decide +kernel
theorem dX9_sell_86 : decode cX9_sell 86 = .ok (.iload_n 1, 1) := by decide +kernel
theorem dX9_sell_87 : decode cX9_sell 87 = .ok (.iload_n 3, 1) := by decide +kernel
theorem dX9_sell_88 : decode cX9_sell 88 = .ok (.invokestatic 158, 3) := by decide +kernel
theorem dX9_sell_91 : decode cX9_sell 91 = .ok (.dup2, 1) := by decide +kernel
theorem dX9_sell_92 : decode cX9_sell 92 = .ok (.iaload, 1) := by decide +kernel
theorem dX9_sell_93 : decode cX9_sell 93 = .ok (.iload_n 3, 1) := by decide +kernel
theorem dX9_sell_94 : decode cX9_sell 94 = .ok (.iload_n 1, 1) := by decide +kernel
theorem dX9_sell_95 : decode cX9_sell 95 = .ok (.if_icmp .ne 7, 3) := by decide +kernel
theorem dX9_sell_98 : decode cX9_sell 98 = .ok (.iconst 0, 1) := by decide +kernel
theorem dX9_sell_99 : decode cX9_sell 99 = .ok (.goto 5, 3) := by decide +kernel
theorem dX9_sell_102 : decode cX9_sell 102 = .ok (.iload 4, 2) := by decide +kernel
theorem dX9_sell_104 : decode cX9_sell 104 = .ok (.iadd, 1) := by decide +kernel
theorem dX9_sell_105 : decode cX9_sell 105 = .ok (.iastore, 1) := by decide +kernel
theorem dX9_sell_106 : decode cX9_sell 106 = .ok (.iload_n 3, 1) := by decide +kernel
theorem dX9_sell_107 : decode cX9_sell 107 = .ok (.iload_n 1, 1) := by decide +kernel
theorem dX9_sell_108 : decode cX9_sell 108 = .ok (.if_icmp .ne 7, 3) := by decide +kernel
theorem dX9_sell_111 : decode cX9_sell 111 = .ok (.iconst 0, 1) := by decide +kernel
theorem dX9_sell_112 : decode cX9_sell 112 = .ok (.goto 13, 3) := by decide +kernel
theorem dX9_sell_115 : decode cX9_sell 115 = .ok (.aload_n 0, 1) := by decide +kernel
theorem dX9_sell_116 : decode cX9_sell 116 = .ok (.getfield 7, 3) := by decide +kernel
theorem dX9_sell_119 : decode cX9_sell 119 = .ok (.iload_n 1, 1) := by decide +kernel
theorem dX9_sell_120 : decode cX9_sell 120 = .ok (.iload_n 3, 1) := by decide +kernel
theorem dX9_sell_121 : decode cX9_sell 121 = .ok (.invokestatic 158, 3) := by decide +kernel
theorem dX9_sell_124 : decode cX9_sell 124 = .ok (.iaload, 1) := by decide +kernel
theorem dX9_sell_125 : decode cX9_sell 125 = .ok (.ireturn, 1) := by decide +kernel
theorem dX9_copies_0 : decode cX9_copies 0 = .ok (.iconst 0, 1) := by decide +kernel
theorem dX9_copies_1 : decode cX9_copies 1 = .ok (.istore_n 3, 1) := by decide +kernel
theorem dX9_copies_2 : decode cX9_copies 2 = .ok (.iload_n 3, 1) := by decide +kernel
theorem dX9_copies_3 : decode cX9_copies 3 = .ok (.bipush 94, 2) := by decide +kernel
theorem dX9_copies_5 : decode cX9_copies 5 = .ok (.if_icmp .ge 25, 3) := by decide +kernel
theorem dX9_copies_8 : decode cX9_copies 8 = .ok (.aload_n 0, 1) := by decide +kernel
theorem dX9_copies_9 : decode cX9_copies 9 = .ok (.getfield 7, 3) := by decide +kernel
theorem dX9_copies_12 : decode cX9_copies 12 = .ok (.iload_n 2, 1) := by decide +kernel
theorem dX9_copies_13 : decode cX9_copies 13 = .ok (.iload_n 3, 1) := by decide +kernel
theorem dX9_copies_14 : decode cX9_copies 14 = .ok (.iadd, 1) := by decide +kernel
theorem dX9_copies_15 : decode cX9_copies 15 = .ok (.aload_n 0, 1) := by decide +kernel
theorem dX9_copies_16 : decode cX9_copies 16 = .ok (.getfield 7, 3) := by decide +kernel
theorem dX9_copies_19 : decode cX9_copies 19 = .ok (.iload_n 1, 1) := by decide +kernel
theorem dX9_copies_20 : decode cX9_copies 20 = .ok (.iload_n 3, 1) := by decide +kernel
theorem dX9_copies_21 : decode cX9_copies 21 = .ok (.iadd, 1) := by decide +kernel
theorem dX9_copies_22 : decode cX9_copies 22 = .ok (.iaload, 1) := by decide +kernel
theorem dX9_copies_23 : decode cX9_copies 23 = .ok (.iastore, 1) := by decide +kernel
theorem dX9_copies_24 : decode cX9_copies 24 = .ok (.iinc 3 1, 3) := by decide +kernel
theorem dX9_copies_27 : decode cX9_copies 27 = .ok (.goto (-25), 3) := by decide +kernel
theorem dX9_copies_30 : decode cX9_copies 30 = .ok (.return_, 1) := by decide +kernel
set_option maxRecDepth 20000 in
theorem ggX9_comesTo_X9_mustLet : GoodIn wsX9_comesTo wsX9_mustLet := goodIn_r _ [9, 3, 10, 11, 12, 8, 13, 14, 15, 16, 25, 26, 27, 28, 29, 30, 31, 32, 33, 34, 35, 36, 37, 38, 39, 40, 41, 42, 43, 44, 45, 46, 47, 48, 49, 50, 51, 52, 53, 54, 55, 56, 57, 58] (by decide +kernel) (by decide +kernel)
set_option maxRecDepth 20000 in
theorem gX9_comesTo_X9_mustLet : GoodIn wsX9_comesTo (wsV RX9 165 RX9 yX9_mustLet wsX9_mustLet) := goodIn_app (goodIn_of _ (by decide +kernel)) ggX9_comesTo_X9_mustLet
set_option maxRecDepth 20000 in
theorem ggX9_comesTo_X9_debtAt : GoodIn wsX9_comesTo wsX9_debtAt := goodIn_r _ [16] (by decide +kernel) (by decide +kernel)
set_option maxRecDepth 20000 in
theorem gX9_comesTo_X9_debtAt : GoodIn wsX9_comesTo (va_wsS RX9 158 yX9_debtAt wsX9_debtAt) := goodIn_app (goodIn_of _ (by decide +kernel)) ggX9_comesTo_X9_debtAt
set_option maxRecDepth 20000 in
theorem ggX9_comesTo_X9_paysAll : GoodIn wsX9_comesTo wsX9_paysAll := goodIn_r _ [20, 3, 14, 15, 8, 16, 21, 22, 23, 24, 25, 26, 27, 28, 29, 30, 31, 32, 33, 34, 35, 36, 37, 38, 39, 40, 41, 42, 43, 44, 45, 46, 47, 48, 49, 50, 51, 52, 53, 54, 55, 56, 57, 58] (by decide +kernel) (by decide +kernel)
set_option maxRecDepth 20000 in
theorem gX9_comesTo_X9_paysAll : GoodIn wsX9_comesTo (wsV RX9 182 RX9 yX9_paysAll wsX9_paysAll) := goodIn_app (goodIn_of _ (by decide +kernel)) ggX9_comesTo_X9_paysAll
theorem dX9_comesTo_0 : decode cX9_comesTo 0 = .ok (.aload_n 0, 1) := by decide +kernel
theorem dX9_comesTo_1 : decode cX9_comesTo 1 = .ok (.getfield 187, 3) := by decide +kernel
theorem dX9_comesTo_4 : decode cX9_comesTo 4 = .ok (.istore 4, 2) := by decide +kernel
theorem dX9_comesTo_6 : decode cX9_comesTo 6 = .ok (.aload_n 0, 1) := by decide +kernel
theorem dX9_comesTo_7 : decode cX9_comesTo 7 = .ok (.getfield 25, 3) := by decide +kernel
theorem dX9_comesTo_10 : decode cX9_comesTo 10 = .ok (.iload 4, 2) := by decide +kernel
theorem dX9_comesTo_12 : decode cX9_comesTo 12 = .ok (.iload_n 2, 1) := by decide +kernel
theorem dX9_comesTo_13 : decode cX9_comesTo 13 = .ok (.iastore, 1) := by decide +kernel
theorem dX9_comesTo_14 : decode cX9_comesTo 14 = .ok (.aload_n 0, 1) := by decide +kernel
theorem dX9_comesTo_15 : decode cX9_comesTo 15 = .ok (.dup, 1) := by decide +kernel
theorem dX9_comesTo_16 : decode cX9_comesTo 16 = .ok (.getfield 187, 3) := by decide +kernel
theorem dX9_comesTo_19 : decode cX9_comesTo 19 = .ok (.iconst 1, 1) := by decide +kernel
theorem dX9_comesTo_20 : decode cX9_comesTo 20 = .ok (.iadd, 1) := by decide +kernel
theorem dX9_comesTo_21 : decode cX9_comesTo 21 = .ok (.putfield 187, 3) := by decide +kernel
theorem dX9_comesTo_24 : decode cX9_comesTo 24 = .ok (.iload 4, 2) := by decide +kernel
theorem dX9_comesTo_26 : decode cX9_comesTo 26 = .ok (.ifCond .le 166, 3) := by decide +kernel
theorem dX9_comesTo_29 : decode cX9_comesTo 29 = .ok (.aload_n 0, 1) := by decide +kernel
theorem dX9_comesTo_30 : decode cX9_comesTo 30 = .ok (.iload_n 1, 1) := by decide +kernel
theorem dX9_comesTo_31 : decode cX9_comesTo 31 = .ok (.aload_n 0, 1) := by decide +kernel
theorem dX9_comesTo_32 : decode cX9_comesTo 32 = .ok (.getfield 25, 3) := by decide +kernel
theorem dX9_comesTo_35 : decode cX9_comesTo 35 = .ok (.iload 4, 2) := by decide +kernel
theorem dX9_comesTo_37 : decode cX9_comesTo 37 = .ok (.iconst 1, 1) := by decide +kernel
theorem dX9_comesTo_38 : decode cX9_comesTo 38 = .ok (.isub, 1) := by decide +kernel
theorem dX9_comesTo_39 : decode cX9_comesTo 39 = .ok (.iaload, 1) := by decide +kernel
theorem dX9_comesTo_40 : decode cX9_comesTo 40 = .ok (.iload_n 2, 1) := by decide +kernel
theorem dX9_comesTo_41 : decode cX9_comesTo 41 = .ok (.invokevirtual 165, 3) := by decide +kernel
theorem dX9_comesTo_44 : decode cX9_comesTo 44 = .ok (.ifCond .eq 148, 3) := by decide +kernel
theorem dX9_comesTo_47 : decode cX9_comesTo 47 = .ok (.aload_n 0, 1) := by decide +kernel
theorem dX9_comesTo_48 : decode cX9_comesTo 48 = .ok (.getfield 25, 3) := by decide +kernel
theorem dX9_comesTo_51 : decode cX9_comesTo 51 = .ok (.iload 4, 2) := by decide +kernel
theorem dX9_comesTo_53 : decode cX9_comesTo 53 = .ok (.iconst 1, 1) := by decide +kernel
theorem dX9_comesTo_54 : decode cX9_comesTo 54 = .ok (.isub, 1) := by decide +kernel
theorem dX9_comesTo_55 : decode cX9_comesTo 55 = .ok (.iaload, 1) := by decide +kernel
theorem dX9_comesTo_56 : decode cX9_comesTo 56 = .ok (.istore 5, 2) := by decide +kernel
theorem dX9_comesTo_58 : decode cX9_comesTo 58 = .ok (.aload_n 0, 1) := by decide +kernel
theorem dX9_comesTo_59 : decode cX9_comesTo 59 = .ok (.getfield 7, 3) := by decide +kernel
theorem dX9_comesTo_62 : decode cX9_comesTo 62 = .ok (.iload_n 1, 1) := by decide +kernel
theorem dX9_comesTo_63 : decode cX9_comesTo 63 = .ok (.iload 5, 2) := by decide +kernel
theorem dX9_comesTo_65 : decode cX9_comesTo 65 = .ok (.iload_n 2, 1) := by decide +kernel
theorem dX9_comesTo_66 : decode cX9_comesTo 66 = .ok (.invokestatic 158, 3) := by decide +kernel
theorem dX9_comesTo_69 : decode cX9_comesTo 69 = .ok (.iadd, 1) := by decide +kernel
theorem dX9_comesTo_70 : decode cX9_comesTo 70 = .ok (.iaload, 1) := by decide +kernel
theorem dX9_comesTo_71 : decode cX9_comesTo 71 = .ok (.istore 6, 2) := by decide +kernel
theorem dX9_comesTo_73 : decode cX9_comesTo 73 = .ok (.iload_n 3, 1) := by decide +kernel
theorem dX9_comesTo_74 : decode cX9_comesTo 74 = .ok (.ifCond .eq 62, 3) := by decide +kernel
theorem dX9_comesTo_77 : decode cX9_comesTo 77 = .ok (.aload_n 0, 1) := by decide +kernel
theorem dX9_comesTo_78 : decode cX9_comesTo 78 = .ok (.getfield 7, 3) := by decide +kernel
theorem dX9_comesTo_81 : decode cX9_comesTo 81 = .ok (.iload_n 1, 1) := by decide +kernel
theorem dX9_comesTo_82 : decode cX9_comesTo 82 = .ok (.bipush 6, 2) := by decide +kernel
theorem dX9_comesTo_84 : decode cX9_comesTo 84 = .ok (.iload 5, 2) := by decide +kernel
theorem dX9_comesTo_86 : decode cX9_comesTo 86 = .ok (.imul, 1) := by decide +kernel
theorem dX9_comesTo_87 : decode cX9_comesTo 87 = .ok (.iadd, 1) := by decide +kernel
theorem dX9_comesTo_88 : decode cX9_comesTo 88 = .ok (.iaload, 1) := by decide +kernel
theorem dX9_comesTo_89 : decode cX9_comesTo 89 = .ok (.iconst 1, 1) := by decide +kernel
theorem dX9_comesTo_90 : decode cX9_comesTo 90 = .ok (.if_icmp .ne 46, 3) := by decide +kernel
theorem dX9_comesTo_93 : decode cX9_comesTo 93 = .ok (.aload_n 0, 1) := by decide +kernel
theorem dX9_comesTo_94 : decode cX9_comesTo 94 = .ok (.getfield 7, 3) := by decide +kernel
theorem dX9_comesTo_97 : decode cX9_comesTo 97 = .ok (.iload_n 1, 1) := by decide +kernel
theorem dX9_comesTo_98 : decode cX9_comesTo 98 = .ok (.bipush 6, 2) := by decide +kernel
theorem dX9_comesTo_100 : decode cX9_comesTo 100 = .ok (.iload_n 2, 1) := by decide +kernel
theorem dX9_comesTo_101 : decode cX9_comesTo 101 = .ok (.imul, 1) := by decide +kernel
theorem dX9_comesTo_102 : decode cX9_comesTo 102 = .ok (.iadd, 1) := by decide +kernel
theorem dX9_comesTo_103 : decode cX9_comesTo 103 = .ok (.iaload, 1) := by decide +kernel
theorem dX9_comesTo_104 : decode cX9_comesTo 104 = .ok (.iconst 3, 1) := by decide +kernel
theorem dX9_comesTo_105 : decode cX9_comesTo 105 = .ok (.if_icmp .eq 31, 3) := by decide +kernel
theorem dX9_comesTo_108 : decode cX9_comesTo 108 = .ok (.iload 6, 2) := by decide +kernel
theorem dX9_comesTo_110 : decode cX9_comesTo 110 = .ok (.ifCond .le 26, 3) := by decide +kernel
theorem dX9_comesTo_113 : decode cX9_comesTo 113 = .ok (.aload_n 0, 1) := by decide +kernel
theorem dX9_comesTo_114 : decode cX9_comesTo 114 = .ok (.getfield 7, 3) := by decide +kernel
theorem dX9_comesTo_117 : decode cX9_comesTo 117 = .ok (.iload_n 1, 1) := by decide +kernel
theorem dX9_comesTo_118 : decode cX9_comesTo 118 = .ok (.bipush 6, 2) := by decide +kernel
theorem dX9_comesTo_120 : decode cX9_comesTo 120 = .ok (.iload 5, 2) := by decide +kernel
theorem dX9_comesTo_122 : decode cX9_comesTo 122 = .ok (.imul, 1) := by decide +kernel
theorem dX9_comesTo_123 : decode cX9_comesTo 123 = .ok (.iadd, 1) := by decide +kernel
theorem dX9_comesTo_124 : decode cX9_comesTo 124 = .ok (.iconst 4, 1) := by decide +kernel
theorem dX9_comesTo_125 : decode cX9_comesTo 125 = .ok (.iadd, 1) := by decide +kernel
theorem dX9_comesTo_126 : decode cX9_comesTo 126 = .ok (.iaload, 1) := by decide +kernel
theorem dX9_comesTo_127 : decode cX9_comesTo 127 = .ok (.iload 6, 2) := by decide +kernel
theorem dX9_comesTo_129 : decode cX9_comesTo 129 = .ok (.if_icmp .lt 7, 3) := by decide +kernel
theorem dX9_comesTo_132 : decode cX9_comesTo 132 = .ok (.iconst 1, 1) := by decide +kernel
theorem dX9_comesTo_133 : decode cX9_comesTo 133 = .ok (.goto 4, 3) := by decide +kernel
theorem dX9_comesTo_136 : decode cX9_comesTo 136 = .ok (.iconst 0, 1) := by decide +kernel
theorem dX9_comesTo_137 : decode cX9_comesTo 137 = .ok (.istore 7, 2) := by decide +kernel
theorem dX9_comesTo_139 : decode cX9_comesTo 139 = .ok (.iload 7, 2) := by decide +kernel
theorem dX9_comesTo_141 : decode cX9_comesTo 141 = .ok (.ifCond .eq 26, 3) := by decide +kernel
theorem dX9_comesTo_144 : decode cX9_comesTo 144 = .ok (.aload_n 0, 1) := by decide +kernel
theorem dX9_comesTo_145 : decode cX9_comesTo 145 = .ok (.iload_n 1, 1) := by decide +kernel
theorem dX9_comesTo_146 : decode cX9_comesTo 146 = .ok (.iload 5, 2) := by decide +kernel
theorem dX9_comesTo_148 : decode cX9_comesTo 148 = .ok (.iload_n 2, 1) := by decide +kernel
theorem dX9_comesTo_149 : decode cX9_comesTo 149 = .ok (.invokevirtual 182, 3) := by decide +kernel
theorem dX9_comesTo_152 : decode cX9_comesTo 152 = .ok (.pop, 1) := by decide +kernel
theorem dX9_comesTo_153 : decode cX9_comesTo 153 = .ok (.aload_n 0, 1) := by decide +kernel
theorem dX9_comesTo_154 : decode cX9_comesTo 154 = .ok (.dup, 1) := by decide +kernel
theorem dX9_comesTo_155 : decode cX9_comesTo 155 = .ok (.getfield 190, 3) := by decide +kernel
theorem dX9_comesTo_158 : decode cX9_comesTo 158 = .ok (.iload 6, 2) := by decide +kernel
theorem dX9_comesTo_160 : decode cX9_comesTo 160 = .ok (.iadd, 1) := by decide +kernel
theorem dX9_comesTo_161 : decode cX9_comesTo 161 = .ok (.putfield 190, 3) := by decide +kernel
theorem dX9_comesTo_164 : decode cX9_comesTo 164 = .ok (.goto 25, 3) := by decide +kernel
theorem dX9_comesTo_167 : decode cX9_comesTo 167 = .ok (.aload_n 0, 1) := by decide +kernel
theorem dX9_comesTo_168 : decode cX9_comesTo 168 = .ok (.getfield 25, 3) := by decide +kernel
theorem dX9_comesTo_171 : decode cX9_comesTo 171 = .ok (.iload 4, 2) := by decide +kernel
theorem dX9_comesTo_173 : decode cX9_comesTo 173 = .ok (.iload 5, 2) := by decide +kernel
theorem dX9_comesTo_175 : decode cX9_comesTo 175 = .ok (.iastore, 1) := by decide +kernel
theorem dX9_comesTo_176 : decode cX9_comesTo 176 = .ok (.aload_n 0, 1) := by decide +kernel
theorem dX9_comesTo_177 : decode cX9_comesTo 177 = .ok (.getfield 25, 3) := by decide +kernel
theorem dX9_comesTo_180 : decode cX9_comesTo 180 = .ok (.iload 4, 2) := by decide +kernel
theorem dX9_comesTo_182 : decode cX9_comesTo 182 = .ok (.iconst 1, 1) := by decide +kernel
theorem dX9_comesTo_183 : decode cX9_comesTo 183 = .ok (.isub, 1) := by decide +kernel
theorem dX9_comesTo_184 : decode cX9_comesTo 184 = .ok (.iload_n 2, 1) := by decide +kernel
theorem dX9_comesTo_185 : decode cX9_comesTo 185 = .ok (.iastore, 1) := by decide +kernel
theorem dX9_comesTo_186 : decode cX9_comesTo 186 = .ok (.iinc 4 (-1), 3) := by decide +kernel
theorem dX9_comesTo_189 : decode cX9_comesTo 189 = .ok (.goto (-165), 3) := by decide +kernel
theorem dX9_comesTo_192 : decode cX9_comesTo 192 = .ok (.return_, 1) := by decide +kernel
theorem dX9_takesFront_0 : decode cX9_takesFront 0 = .ok (.aload_n 0, 1) := by decide +kernel
theorem dX9_takesFront_1 : decode cX9_takesFront 1 = .ok (.getfield 25, 3) := by decide +kernel
theorem dX9_takesFront_4 : decode cX9_takesFront 4 = .ok (.iconst 0, 1) := by decide +kernel
theorem dX9_takesFront_5 : decode cX9_takesFront 5 = .ok (.iaload, 1) := by decide +kernel
theorem dX9_takesFront_6 : decode cX9_takesFront 6 = .ok (.istore_n 1, 1) := by decide +kernel
theorem dX9_takesFront_7 : decode cX9_takesFront 7 = .ok (.aload_n 0, 1) := by decide +kernel
theorem dX9_takesFront_8 : decode cX9_takesFront 8 = .ok (.dup, 1) := by decide +kernel
theorem dX9_takesFront_9 : decode cX9_takesFront 9 = .ok (.getfield 187, 3) := by decide +kernel
theorem dX9_takesFront_12 : decode cX9_takesFront 12 = .ok (.iconst 1, 1) := by decide +kernel
theorem dX9_takesFront_13 : decode cX9_takesFront 13 = .ok (.isub, 1) := by decide +kernel
theorem dX9_takesFront_14 : decode cX9_takesFront 14 = .ok (.putfield 187, 3) := by decide +kernel
theorem dX9_takesFront_17 : decode cX9_takesFront 17 = .ok (.iconst 0, 1) := by decide +kernel
theorem dX9_takesFront_18 : decode cX9_takesFront 18 = .ok (.istore_n 2, 1) := by decide +kernel
theorem dX9_takesFront_19 : decode cX9_takesFront 19 = .ok (.iload_n 2, 1) := by decide +kernel
theorem dX9_takesFront_20 : decode cX9_takesFront 20 = .ok (.aload_n 0, 1) := by decide +kernel
theorem dX9_takesFront_21 : decode cX9_takesFront 21 = .ok (.getfield 187, 3) := by decide +kernel
theorem dX9_takesFront_24 : decode cX9_takesFront 24 = .ok (.if_icmp .ge 23, 3) := by decide +kernel
theorem dX9_takesFront_27 : decode cX9_takesFront 27 = .ok (.aload_n 0, 1) := by decide +kernel
theorem dX9_takesFront_28 : decode cX9_takesFront 28 = .ok (.getfield 25, 3) := by decide +kernel
theorem dX9_takesFront_31 : decode cX9_takesFront 31 = .ok (.iload_n 2, 1) := by decide +kernel
theorem dX9_takesFront_32 : decode cX9_takesFront 32 = .ok (.aload_n 0, 1) := by decide +kernel
theorem dX9_takesFront_33 : decode cX9_takesFront 33 = .ok (.getfield 25, 3) := by decide +kernel
theorem dX9_takesFront_36 : decode cX9_takesFront 36 = .ok (.iload_n 2, 1) := by decide +kernel
theorem dX9_takesFront_37 : decode cX9_takesFront 37 = .ok (.iconst 1, 1) := by decide +kernel
theorem dX9_takesFront_38 : decode cX9_takesFront 38 = .ok (.iadd, 1) := by decide +kernel
theorem dX9_takesFront_39 : decode cX9_takesFront 39 = .ok (.iaload, 1) := by decide +kernel
theorem dX9_takesFront_40 : decode cX9_takesFront 40 = .ok (.iastore, 1) := by decide +kernel
theorem dX9_takesFront_41 : decode cX9_takesFront 41 = .ok (.iinc 2 1, 3) := by decide +kernel
theorem dX9_takesFront_44 : decode cX9_takesFront 44 = .ok (.goto (-25), 3) := by decide +kernel
theorem dX9_takesFront_47 : decode cX9_takesFront 47 = .ok (.iload_n 1, 1) := by decide +kernel
theorem dX9_takesFront_48 : decode cX9_takesFront 48 = .ok (.ireturn, 1) := by decide +kernel
set_option maxRecDepth 20000 in
theorem ggX9_runsTo_X9_comesTo : GoodIn wsX9_runsTo wsX9_comesTo := goodIn_r _ [10, 1, 11, 5, 2, 12, 13, 14, 9, 15, 16, 17, 18, 19, 20, 21, 22, 23, 24, 25, 26, 27, 28, 29, 30, 35, 36, 37, 38, 39, 40, 41, 42, 43, 44, 45, 46, 47, 48, 49, 50, 51, 52, 53, 54, 55, 56, 57, 58, 59, 60, 61, 62, 63, 64, 65, 66, 67, 68] (by decide +kernel) (by decide +kernel)
set_option maxRecDepth 20000 in
theorem gX9_runsTo_X9_comesTo : GoodIn wsX9_runsTo (wsV RX9 193 RX9 yX9_comesTo wsX9_comesTo) := goodIn_app (goodIn_of _ (by decide +kernel)) ggX9_runsTo_X9_comesTo
set_option maxRecDepth 20000 in
theorem ggX9_runsTo_X9_takesFront : GoodIn wsX9_runsTo wsX9_takesFront := goodIn_r _ [34, 11, 1, 35, 36, 37, 38, 39, 40, 41, 42, 43, 44, 45, 46, 47, 48, 49, 50, 51, 52, 53, 54, 55, 56, 57, 58, 59, 60, 61, 62, 63, 64, 65, 66, 67, 68] (by decide +kernel) (by decide +kernel)
set_option maxRecDepth 20000 in
theorem gX9_runsTo_X9_takesFront : GoodIn wsX9_runsTo (wsV RX9 197 RX9 yX9_takesFront wsX9_takesFront) := goodIn_app (goodIn_of _ (by decide +kernel)) ggX9_runsTo_X9_takesFront
theorem dX9_runsTo_0 : decode cX9_runsTo 0 = .ok (.aload_n 0, 1) := by decide +kernel
theorem dX9_runsTo_1 : decode cX9_runsTo 1 = .ok (.iconst 0, 1) := by decide +kernel
theorem dX9_runsTo_2 : decode cX9_runsTo 2 = .ok (.putfield 187, 3) := by decide +kernel
theorem dX9_runsTo_5 : decode cX9_runsTo 5 = .ok (.aload_n 0, 1) := by decide +kernel
theorem dX9_runsTo_6 : decode cX9_runsTo 6 = .ok (.iconst 0, 1) := by decide +kernel
theorem dX9_runsTo_7 : decode cX9_runsTo 7 = .ok (.putfield 190, 3) := by decide +kernel
theorem dX9_runsTo_10 : decode cX9_runsTo 10 = .ok (.aload_n 0, 1) := by decide +kernel
theorem dX9_runsTo_11 : decode cX9_runsTo 11 = .ok (.getfield 28, 3) := by decide +kernel
theorem dX9_runsTo_14 : decode cX9_runsTo 14 = .ok (.iconst 0, 1) := by decide +kernel
theorem dX9_runsTo_15 : decode cX9_runsTo 15 = .ok (.iconst 0, 1) := by decide +kernel
theorem dX9_runsTo_16 : decode cX9_runsTo 16 = .ok (.iastore, 1) := by decide +kernel
theorem dX9_runsTo_17 : decode cX9_runsTo 17 = .ok (.aload_n 0, 1) := by decide +kernel
theorem dX9_runsTo_18 : decode cX9_runsTo 18 = .ok (.getfield 28, 3) := by decide +kernel
theorem dX9_runsTo_21 : decode cX9_runsTo 21 = .ok (.iconst 1, 1) := by decide +kernel
theorem dX9_runsTo_22 : decode cX9_runsTo 22 = .ok (.iconst 0, 1) := by decide +kernel
theorem dX9_runsTo_23 : decode cX9_runsTo 23 = .ok (.iastore, 1) := by decide +kernel
theorem dX9_runsTo_24 : decode cX9_runsTo 24 = .ok (.iconst 0, 1) := by decide +kernel
theorem dX9_runsTo_25 : decode cX9_runsTo 25 = .ok (.istore_n 2, 1) := by decide +kernel
theorem dX9_runsTo_26 : decode cX9_runsTo 26 = .ok (.iload_n 2, 1) := by decide +kernel
theorem dX9_runsTo_27 : decode cX9_runsTo 27 = .ok (.bipush 7, 2) := by decide +kernel
theorem dX9_runsTo_29 : decode cX9_runsTo 29 = .ok (.if_icmp .ge 17, 3) := by decide +kernel
theorem dX9_runsTo_32 : decode cX9_runsTo 32 = .ok (.aload_n 0, 1) := by decide +kernel
theorem dX9_runsTo_33 : decode cX9_runsTo 33 = .ok (.getfield 31, 3) := by decide +kernel
theorem dX9_runsTo_36 : decode cX9_runsTo 36 = .ok (.iload_n 2, 1) := by decide +kernel
theorem dX9_runsTo_37 : decode cX9_runsTo 37 = .ok (.bipush (-4), 2) := by decide +kernel
theorem dX9_runsTo_39 : decode cX9_runsTo 39 = .ok (.iastore, 1) := by decide +kernel
theorem dX9_runsTo_40 : decode cX9_runsTo 40 = .ok (.iinc 2 1, 3) := by decide +kernel
theorem dX9_runsTo_43 : decode cX9_runsTo 43 = .ok (.goto (-17), 3) := by decide +kernel
theorem dX9_runsTo_46 : decode cX9_runsTo 46 = .ok (.iconst 0, 1) := by decide +kernel
theorem dX9_runsTo_47 : decode cX9_runsTo 47 = .ok (.istore_n 2, 1) := by decide +kernel
theorem dX9_runsTo_48 : decode cX9_runsTo 48 = .ok (.iload_n 2, 1) := by decide +kernel
theorem dX9_runsTo_49 : decode cX9_runsTo 49 = .ok (.iload_n 1, 1) := by decide +kernel
theorem dX9_runsTo_50 : decode cX9_runsTo 50 = .ok (.if_icmp .gt 132, 3) := by decide +kernel
theorem dX9_runsTo_53 : decode cX9_runsTo 53 = .ok (.iconst 0, 1) := by decide +kernel
theorem dX9_runsTo_54 : decode cX9_runsTo 54 = .ok (.istore_n 3, 1) := by decide +kernel
theorem dX9_runsTo_55 : decode cX9_runsTo 55 = .ok (.iload_n 3, 1) := by decide +kernel
theorem dX9_runsTo_56 : decode cX9_runsTo 56 = .ok (.aload_n 0, 1) := by decide +kernel
theorem dX9_runsTo_57 : decode cX9_runsTo 57 = .ok (.getfield 7, 3) := by decide +kernel
theorem dX9_runsTo_60 : decode cX9_runsTo 60 = .ok (.sipush 375, 3) := by decide +kernel
theorem dX9_runsTo_63 : decode cX9_runsTo 63 = .ok (.iaload, 1) := by decide +kernel
theorem dX9_runsTo_64 : decode cX9_runsTo 64 = .ok (.if_icmp .ge 37, 3) := by decide +kernel
theorem dX9_runsTo_67 : decode cX9_runsTo 67 = .ok (.aload_n 0, 1) := by decide +kernel
theorem dX9_runsTo_68 : decode cX9_runsTo 68 = .ok (.getfield 7, 3) := by decide +kernel
theorem dX9_runsTo_71 : decode cX9_runsTo 71 = .ok (.sipush 282, 3) := by decide +kernel
theorem dX9_runsTo_74 : decode cX9_runsTo 74 = .ok (.bipush 6, 2) := by decide +kernel
theorem dX9_runsTo_76 : decode cX9_runsTo 76 = .ok (.iload_n 3, 1) := by decide +kernel
theorem dX9_runsTo_77 : decode cX9_runsTo 77 = .ok (.imul, 1) := by decide +kernel
theorem dX9_runsTo_78 : decode cX9_runsTo 78 = .ok (.iadd, 1) := by decide +kernel
theorem dX9_runsTo_79 : decode cX9_runsTo 79 = .ok (.iconst 1, 1) := by decide +kernel
theorem dX9_runsTo_80 : decode cX9_runsTo 80 = .ok (.iadd, 1) := by decide +kernel
theorem dX9_runsTo_81 : decode cX9_runsTo 81 = .ok (.iaload, 1) := by decide +kernel
theorem dX9_runsTo_82 : decode cX9_runsTo 82 = .ok (.iload_n 2, 1) := by decide +kernel
theorem dX9_runsTo_83 : decode cX9_runsTo 83 = .ok (.if_icmp .ne 12, 3) := by decide +kernel
theorem dX9_runsTo_86 : decode cX9_runsTo 86 = .ok (.aload_n 0, 1) := by decide +kernel
theorem dX9_runsTo_87 : decode cX9_runsTo 87 = .ok (.sipush 282, 3) := by decide +kernel
theorem dX9_runsTo_90 : decode cX9_runsTo 90 = .ok (.iload_n 3, 1) := by decide +kernel
theorem dX9_runsTo_91 : decode cX9_runsTo 91 = .ok (.iconst 1, 1) := by decide +kernel
theorem dX9_runsTo_92 : decode cX9_runsTo 92 = .ok (.invokevirtual 193, 3) := by decide +kernel
theorem dX9_runsTo_95 : decode cX9_runsTo 95 = .ok (.iinc 3 1, 3) := by decide +kernel
theorem dX9_runsTo_98 : decode cX9_runsTo 98 = .ok (.goto (-43), 3) := by decide +kernel
theorem dX9_runsTo_101 : decode cX9_runsTo 101 = .ok (.iconst 0, 1) := by decide +kernel
theorem dX9_runsTo_102 : decode cX9_runsTo 102 = .ok (.istore_n 3, 1) := by decide +kernel
theorem dX9_runsTo_103 : decode cX9_runsTo 103 = .ok (.iload_n 3, 1) := by decide +kernel
theorem dX9_runsTo_104 : decode cX9_runsTo 104 = .ok (.aload_n 0, 1) := by decide +kernel
theorem dX9_runsTo_105 : decode cX9_runsTo 105 = .ok (.getfield 7, 3) := by decide +kernel
theorem dX9_runsTo_108 : decode cX9_runsTo 108 = .ok (.sipush 374, 3) := by decide +kernel
theorem dX9_runsTo_111 : decode cX9_runsTo 111 = .ok (.iaload, 1) := by decide +kernel
theorem dX9_runsTo_112 : decode cX9_runsTo 112 = .ok (.if_icmp .gt 64, 3) := by decide +kernel
theorem dX9_runsTo_115 : decode cX9_runsTo 115 = .ok (.aload_n 0, 1) := by decide +kernel
theorem dX9_runsTo_116 : decode cX9_runsTo 116 = .ok (.getfield 28, 3) := by decide +kernel
theorem dX9_runsTo_119 : decode cX9_runsTo 119 = .ok (.iload_n 3, 1) := by decide +kernel
theorem dX9_runsTo_120 : decode cX9_runsTo 120 = .ok (.iaload, 1) := by decide +kernel
theorem dX9_runsTo_121 : decode cX9_runsTo 121 = .ok (.iload_n 2, 1) := by decide +kernel
theorem dX9_runsTo_122 : decode cX9_runsTo 122 = .ok (.if_icmp .gt 48, 3) := by decide +kernel
theorem dX9_runsTo_125 : decode cX9_runsTo 125 = .ok (.aload_n 0, 1) := by decide +kernel
theorem dX9_runsTo_126 : decode cX9_runsTo 126 = .ok (.getfield 187, 3) := by decide +kernel
theorem dX9_runsTo_129 : decode cX9_runsTo 129 = .ok (.ifCond .le 41, 3) := by decide +kernel
theorem dX9_runsTo_132 : decode cX9_runsTo 132 = .ok (.aload_n 0, 1) := by decide +kernel
theorem dX9_runsTo_133 : decode cX9_runsTo 133 = .ok (.invokevirtual 197, 3) := by decide +kernel
theorem dX9_runsTo_136 : decode cX9_runsTo 136 = .ok (.istore 4, 2) := by decide +kernel
theorem dX9_runsTo_138 : decode cX9_runsTo 138 = .ok (.aload_n 0, 1) := by decide +kernel
theorem dX9_runsTo_139 : decode cX9_runsTo 139 = .ok (.getfield 31, 3) := by decide +kernel
theorem dX9_runsTo_142 : decode cX9_runsTo 142 = .ok (.iload 4, 2) := by decide +kernel
theorem dX9_runsTo_144 : decode cX9_runsTo 144 = .ok (.iload_n 2, 1) := by decide +kernel
theorem dX9_runsTo_145 : decode cX9_runsTo 145 = .ok (.iastore, 1) := by decide +kernel
theorem dX9_runsTo_146 : decode cX9_runsTo 146 = .ok (.aload_n 0, 1) := by decide +kernel
theorem dX9_runsTo_147 : decode cX9_runsTo 147 = .ok (.getfield 28, 3) := by decide +kernel
theorem dX9_runsTo_150 : decode cX9_runsTo 150 = .ok (.iload_n 3, 1) := by decide +kernel
theorem dX9_runsTo_151 : decode cX9_runsTo 151 = .ok (.iload_n 2, 1) := by decide +kernel
theorem dX9_runsTo_152 : decode cX9_runsTo 152 = .ok (.aload_n 0, 1) := by decide +kernel
theorem dX9_runsTo_153 : decode cX9_runsTo 153 = .ok (.getfield 7, 3) := by decide +kernel
theorem dX9_runsTo_156 : decode cX9_runsTo 156 = .ok (.sipush 282, 3) := by decide +kernel
theorem dX9_runsTo_159 : decode cX9_runsTo 159 = .ok (.bipush 6, 2) := by decide +kernel
theorem dX9_runsTo_161 : decode cX9_runsTo 161 = .ok (.iload 4, 2) := by decide +kernel
theorem dX9_runsTo_163 : decode cX9_runsTo 163 = .ok (.imul, 1) := by decide +kernel
theorem dX9_runsTo_164 : decode cX9_runsTo 164 = .ok (.iadd, 1) := by decide +kernel
theorem dX9_runsTo_165 : decode cX9_runsTo 165 = .ok (.iconst 2, 1) := by decide +kernel
theorem dX9_runsTo_166 : decode cX9_runsTo 166 = .ok (.iadd, 1) := by decide +kernel
theorem dX9_runsTo_167 : decode cX9_runsTo 167 = .ok (.iaload, 1) := by decide +kernel
theorem dX9_runsTo_168 : decode cX9_runsTo 168 = .ok (.iadd, 1) := by decide +kernel
theorem dX9_runsTo_169 : decode cX9_runsTo 169 = .ok (.iastore, 1) := by decide +kernel
theorem dX9_runsTo_170 : decode cX9_runsTo 170 = .ok (.iinc 3 1, 3) := by decide +kernel
theorem dX9_runsTo_173 : decode cX9_runsTo 173 = .ok (.goto (-70), 3) := by decide +kernel
theorem dX9_runsTo_176 : decode cX9_runsTo 176 = .ok (.iinc 2 1, 3) := by decide +kernel
theorem dX9_runsTo_179 : decode cX9_runsTo 179 = .ok (.goto (-131), 3) := by decide +kernel
theorem dX9_runsTo_182 : decode cX9_runsTo 182 = .ok (.return_, 1) := by decide +kernel
set_option maxRecDepth 20000 in
theorem ggX9_runsAll_X9_copies : GoodIn wsX9_runsAll wsX9_copies := goodIn_r _ [5, 6, 43, 44, 45, 46, 47, 48, 49, 50, 51, 52, 53, 54, 55, 56, 57, 58, 59, 60, 61, 62, 63, 64, 65, 66, 67, 68, 69, 70, 71, 72, 73, 74, 75, 76] (by decide +kernel) (by decide +kernel)
set_option maxRecDepth 20000 in
theorem gX9_runsAll_X9_copies : GoodIn wsX9_runsAll (wsV RX9 200 RX9 yX9_copies wsX9_copies) := goodIn_app (goodIn_of _ (by decide +kernel)) ggX9_runsAll_X9_copies
set_option maxRecDepth 20000 in
theorem ggX9_runsAll_X9_runsTo : GoodIn wsX9_runsAll wsX9_runsTo := goodIn_r _ [10, 11, 12, 13, 14, 6, 15, 16, 17, 4, 18, 19, 20, 21, 22, 23, 24, 25, 26, 27, 28, 29, 30, 31, 32, 33, 34, 35, 36, 37, 38, 39, 40, 41, 42, 43, 44, 45, 46, 47, 48, 49, 50, 51, 52, 53, 54, 55, 56, 57, 58, 59, 60, 61, 62, 63, 64, 65, 66, 67, 68, 69, 70, 71, 72, 73, 74, 75, 76] (by decide +kernel) (by decide +kernel)
set_option maxRecDepth 20000 in
theorem gX9_runsAll_X9_runsTo : GoodIn wsX9_runsAll (wsV RX9 204 RX9 yX9_runsTo wsX9_runsTo) := goodIn_app (goodIn_of _ (by decide +kernel)) ggX9_runsAll_X9_runsTo
theorem dX9_runsAll_0 : decode cX9_runsAll 0 = .ok (.aload_n 0, 1) := by decide +kernel
theorem dX9_runsAll_1 : decode cX9_runsAll 1 = .ok (.iconst 0, 1) := by decide +kernel
theorem dX9_runsAll_2 : decode cX9_runsAll 2 = .ok (.sipush 282, 3) := by decide +kernel
theorem dX9_runsAll_5 : decode cX9_runsAll 5 = .ok (.invokevirtual 200, 3) := by decide +kernel
theorem dX9_runsAll_8 : decode cX9_runsAll 8 = .ok (.aload_n 0, 1) := by decide +kernel
theorem dX9_runsAll_9 : decode cX9_runsAll 9 = .ok (.sipush 130, 3) := by decide +kernel
theorem dX9_runsAll_12 : decode cX9_runsAll 12 = .ok (.invokevirtual 204, 3) := by decide +kernel
theorem dX9_runsAll_15 : decode cX9_runsAll 15 = .ok (.return_, 1) := by decide +kernel
theorem dX9_waitOf_0 : decode cX9_waitOf 0 = .ok (.aload_n 0, 1) := by decide +kernel
theorem dX9_waitOf_1 : decode cX9_waitOf 1 = .ok (.getfield 31, 3) := by decide +kernel
theorem dX9_waitOf_4 : decode cX9_waitOf 4 = .ok (.iload_n 1, 1) := by decide +kernel
theorem dX9_waitOf_5 : decode cX9_waitOf 5 = .ok (.iaload, 1) := by decide +kernel
theorem dX9_waitOf_6 : decode cX9_waitOf 6 = .ok (.aload_n 0, 1) := by decide +kernel
theorem dX9_waitOf_7 : decode cX9_waitOf 7 = .ok (.getfield 7, 3) := by decide +kernel
theorem dX9_waitOf_10 : decode cX9_waitOf 10 = .ok (.sipush 282, 3) := by decide +kernel
theorem dX9_waitOf_13 : decode cX9_waitOf 13 = .ok (.bipush 6, 2) := by decide +kernel
theorem dX9_waitOf_15 : decode cX9_waitOf 15 = .ok (.iload_n 1, 1) := by decide +kernel
theorem dX9_waitOf_16 : decode cX9_waitOf 16 = .ok (.imul, 1) := by decide +kernel
theorem dX9_waitOf_17 : decode cX9_waitOf 17 = .ok (.iadd, 1) := by decide +kernel
theorem dX9_waitOf_18 : decode cX9_waitOf 18 = .ok (.iconst 1, 1) := by decide +kernel
theorem dX9_waitOf_19 : decode cX9_waitOf 19 = .ok (.iadd, 1) := by decide +kernel
theorem dX9_waitOf_20 : decode cX9_waitOf 20 = .ok (.iaload, 1) := by decide +kernel
theorem dX9_waitOf_21 : decode cX9_waitOf 21 = .ok (.isub, 1) := by decide +kernel
theorem dX9_waitOf_22 : decode cX9_waitOf 22 = .ok (.ireturn, 1) := by decide +kernel
set_option maxRecDepth 20000 in
theorem ggX9_served_X9_isOne : GoodIn wsX9_served wsX9_isOne := goodIn_r _ [6, 7, 8, 9, 5, 10, 11, 12, 13, 14, 58, 59, 60, 61, 62, 63, 64, 65, 66, 67, 68, 69, 70, 71, 72, 73, 74, 75, 76, 77, 78, 79, 80, 81, 82, 83, 84, 85, 86, 87, 88, 89, 90, 91] (by decide +kernel) (by decide +kernel)
set_option maxRecDepth 20000 in
theorem gX9_served_X9_isOne : GoodIn wsX9_served (wsV RX9 148 RX9 yX9_isOne wsX9_isOne) := goodIn_app (goodIn_of _ (by decide +kernel)) ggX9_served_X9_isOne
set_option maxRecDepth 20000 in
theorem ggX9_served_X9_runsAll : GoodIn wsX9_served wsX9_runsAll := goodIn_r _ [18, 19, 20, 21, 5, 22, 11, 23, 24, 25, 26, 27, 28, 29, 1, 30, 31, 32, 33, 34, 35, 36, 37, 38, 39, 40, 41, 42, 43, 44, 45, 46, 47, 48, 49, 50, 51, 52, 53, 54, 55, 56, 57, 58, 59, 60, 61, 62, 63, 64, 65, 66, 67, 68, 69, 70, 71, 72, 73, 74, 75, 76, 77, 78, 79, 80, 81, 82, 83, 84, 85, 86, 87, 88, 89, 90, 91] (by decide +kernel) (by decide +kernel)
set_option maxRecDepth 20000 in
theorem gX9_served_X9_runsAll : GoodIn wsX9_served (wsV RX9 207 RX9 yX9_runsAll wsX9_runsAll) := goodIn_app (goodIn_of _ (by decide +kernel)) ggX9_served_X9_runsAll
theorem dX9_served_0 : decode cX9_served 0 = .ok (.aload_n 0, 1) := by decide +kernel
theorem dX9_served_1 : decode cX9_served 1 = .ok (.iload_n 1, 1) := by decide +kernel
theorem dX9_served_2 : decode cX9_served 2 = .ok (.invokevirtual 148, 3) := by decide +kernel
theorem dX9_served_5 : decode cX9_served 5 = .ok (.ifCond .ne 5, 3) := by decide +kernel
theorem dX9_served_8 : decode cX9_served 8 = .ok (.iconst (-1), 1) := by decide +kernel
theorem dX9_served_9 : decode cX9_served 9 = .ok (.ireturn, 1) := by decide +kernel
theorem dX9_served_10 : decode cX9_served 10 = .ok (.aload_n 0, 1) := by decide +kernel
theorem dX9_served_11 : decode cX9_served 11 = .ok (.invokevirtual 207, 3) := by decide +kernel
theorem dX9_served_14 : decode cX9_served 14 = .ok (.aload_n 0, 1) := by decide +kernel
theorem dX9_served_15 : decode cX9_served 15 = .ok (.getfield 31, 3) := by decide +kernel
theorem dX9_served_18 : decode cX9_served 18 = .ok (.iload_n 1, 1) := by decide +kernel
theorem dX9_served_19 : decode cX9_served 19 = .ok (.iaload, 1) := by decide +kernel
theorem dX9_served_20 : decode cX9_served 20 = .ok (.ireturn, 1) := by decide +kernel
set_option maxRecDepth 20000 in
theorem ggX9_waits_X9_isOne : GoodIn wsX9_waits wsX9_isOne := goodIn_r _ [5, 6, 7, 8, 4, 9, 10, 11, 12, 13, 62, 63, 64, 65, 66, 67, 68, 69, 70, 71, 72, 73, 74, 75, 76, 77, 78, 79, 80, 81, 82, 83, 84, 85, 86, 87, 88, 89, 90, 91, 92, 93, 94, 95] (by decide +kernel) (by decide +kernel)
set_option maxRecDepth 20000 in
theorem gX9_waits_X9_isOne : GoodIn wsX9_waits (wsV RX9 148 RX9 yX9_isOne wsX9_isOne) := goodIn_app (goodIn_of _ (by decide +kernel)) ggX9_waits_X9_isOne
set_option maxRecDepth 20000 in
theorem ggX9_waits_X9_runsAll : GoodIn wsX9_waits wsX9_runsAll := goodIn_r _ [17, 18, 19, 20, 4, 21, 10, 22, 23, 24, 25, 26, 27, 28, 29, 30, 31, 32, 33, 34, 35, 36, 37, 38, 39, 40, 41, 42, 43, 44, 45, 46, 47, 48, 49, 50, 51, 52, 53, 54, 55, 56, 57, 62, 63, 64, 65, 66, 67, 68, 69, 70, 71, 72, 73, 74, 75, 76, 77, 78, 79, 80, 81, 82, 83, 84, 85, 86, 87, 88, 89, 90, 91, 92, 93, 94, 95] (by decide +kernel) (by decide +kernel)
set_option maxRecDepth 20000 in
theorem gX9_waits_X9_runsAll : GoodIn wsX9_waits (wsV RX9 207 RX9 yX9_runsAll wsX9_runsAll) := goodIn_app (goodIn_of _ (by decide +kernel)) ggX9_waits_X9_runsAll
set_option maxRecDepth 20000 in
theorem ggX9_waits_X9_waitOf : GoodIn wsX9_waits wsX9_waitOf := goodIn_r _ [61, 29, 10, 62, 63, 64, 65, 66, 67, 68, 69, 70, 71, 72, 73, 74, 75, 76, 77, 78, 79, 80, 81, 82, 83, 84, 85, 86, 87, 88, 89, 90, 91, 92, 93, 94, 95] (by decide +kernel) (by decide +kernel)
set_option maxRecDepth 20000 in
theorem gX9_waits_X9_waitOf : GoodIn wsX9_waits (wsV RX9 210 RX9 yX9_waitOf wsX9_waitOf) := goodIn_app (goodIn_of _ (by decide +kernel)) ggX9_waits_X9_waitOf
theorem dX9_waits_0 : decode cX9_waits 0 = .ok (.aload_n 0, 1) := by decide +kernel
theorem dX9_waits_1 : decode cX9_waits 1 = .ok (.iload_n 1, 1) := by decide +kernel
theorem dX9_waits_2 : decode cX9_waits 2 = .ok (.invokevirtual 148, 3) := by decide +kernel
theorem dX9_waits_5 : decode cX9_waits 5 = .ok (.ifCond .ne 5, 3) := by decide +kernel
theorem dX9_waits_8 : decode cX9_waits 8 = .ok (.iconst (-1), 1) := by decide +kernel
theorem dX9_waits_9 : decode cX9_waits 9 = .ok (.ireturn, 1) := by decide +kernel
theorem dX9_waits_10 : decode cX9_waits 10 = .ok (.aload_n 0, 1) := by decide +kernel
theorem dX9_waits_11 : decode cX9_waits 11 = .ok (.invokevirtual 207, 3) := by decide +kernel
theorem dX9_waits_14 : decode cX9_waits 14 = .ok (.aload_n 0, 1) := by decide +kernel
theorem dX9_waits_15 : decode cX9_waits 15 = .ok (.iload_n 1, 1) := by decide +kernel
theorem dX9_waits_16 : decode cX9_waits 16 = .ok (.invokevirtual 210, 3) := by decide +kernel
theorem dX9_waits_19 : decode cX9_waits 19 = .ok (.ireturn, 1) := by decide +kernel
set_option maxRecDepth 20000 in
theorem ggX9_place_X9_isOne : GoodIn wsX9_place wsX9_isOne := goodIn_r _ [8, 9, 10, 11, 7, 12, 13, 14, 15, 16, 55, 56, 57, 58, 59, 60, 61, 62, 63, 64, 65, 66, 67, 68, 69, 70, 71, 72, 73, 74, 75, 76, 77, 78, 79, 80, 81, 82, 83, 84, 85, 86, 87, 88] (by decide +kernel) (by decide +kernel)
set_option maxRecDepth 20000 in
theorem gX9_place_X9_isOne : GoodIn wsX9_place (wsV RX9 148 RX9 yX9_isOne wsX9_isOne) := goodIn_app (goodIn_of _ (by decide +kernel)) ggX9_place_X9_isOne
set_option maxRecDepth 20000 in
theorem ggX9_place_X9_in : GoodIn wsX9_place wsX9_in := goodIn_r _ [16] (by decide +kernel) (by decide +kernel)
set_option maxRecDepth 20000 in
theorem gX9_place_X9_in : GoodIn wsX9_place (va_wsS RX9 63 yX9_in wsX9_in) := goodIn_app (goodIn_of _ (by decide +kernel)) ggX9_place_X9_in
set_option maxRecDepth 20000 in
theorem ggX9_place_X9_copies : GoodIn wsX9_place wsX9_copies := goodIn_r _ [20, 13, 55, 56, 57, 58, 59, 60, 61, 62, 63, 64, 65, 66, 67, 68, 69, 70, 71, 72, 73, 74, 75, 76, 77, 78, 79, 80, 81, 82, 83, 84, 85, 86, 87, 88] (by decide +kernel) (by decide +kernel)
set_option maxRecDepth 20000 in
theorem gX9_place_X9_copies : GoodIn wsX9_place (wsV RX9 200 RX9 yX9_copies wsX9_copies) := goodIn_app (goodIn_of _ (by decide +kernel)) ggX9_place_X9_copies
set_option maxRecDepth 20000 in
theorem ggX9_place_X9_runsTo : GoodIn wsX9_place wsX9_runsTo := goodIn_r _ [24, 2, 25, 26, 27, 13, 28, 29, 30, 7, 31, 3, 32, 33, 34, 35, 36, 37, 38, 39, 40, 41, 42, 43, 44, 45, 46, 47, 48, 49, 50, 51, 52, 53, 54, 55, 56, 57, 58, 59, 60, 61, 62, 63, 64, 65, 66, 67, 68, 69, 70, 71, 72, 73, 74, 75, 76, 77, 78, 79, 80, 81, 82, 83, 84, 85, 86, 87, 88] (by decide +kernel) (by decide +kernel)
set_option maxRecDepth 20000 in
theorem gX9_place_X9_runsTo : GoodIn wsX9_place (wsV RX9 204 RX9 yX9_runsTo wsX9_runsTo) := goodIn_app (goodIn_of _ (by decide +kernel)) ggX9_place_X9_runsTo
theorem dX9_place_0 : decode cX9_place 0 = .ok (.aload_n 0, 1) := by decide +kernel
theorem dX9_place_1 : decode cX9_place 1 = .ok (.iload_n 1, 1) := by decide +kernel
theorem dX9_place_2 : decode cX9_place 2 = .ok (.invokevirtual 148, 3) := by decide +kernel
theorem dX9_place_5 : decode cX9_place 5 = .ok (.ifCond .eq 15, 3) := by decide +kernel
theorem dX9_place_8 : decode cX9_place 8 = .ok (.iload_n 2, 1) := by decide +kernel
theorem dX9_place_9 : decode cX9_place 9 = .ok (.i2l, 1) := by decide +kernel
theorem dX9_place_10 : decode cX9_place 10 = .ok (.lconst 0, 1) := by decide +kernel
theorem dX9_place_11 : decode cX9_place 11 = .ok (.ldc2_w 213, 3) := by decide +kernel
theorem dX9_place_14 : decode cX9_place 14 = .ok (.invokestatic 63, 3) := by decide +kernel
theorem dX9_place_17 : decode cX9_place 17 = .ok (.ifCond .ne 5, 3) := by decide +kernel
theorem dX9_place_20 : decode cX9_place 20 = .ok (.iconst (-1), 1) := by decide +kernel
theorem dX9_place_21 : decode cX9_place 21 = .ok (.ireturn, 1) := by decide +kernel
theorem dX9_place_22 : decode cX9_place 22 = .ok (.aload_n 0, 1) := by decide +kernel
theorem dX9_place_23 : decode cX9_place 23 = .ok (.iconst 0, 1) := by decide +kernel
theorem dX9_place_24 : decode cX9_place 24 = .ok (.sipush 282, 3) := by decide +kernel
theorem dX9_place_27 : decode cX9_place 27 = .ok (.invokevirtual 200, 3) := by decide +kernel
theorem dX9_place_30 : decode cX9_place 30 = .ok (.aload_n 0, 1) := by decide +kernel
theorem dX9_place_31 : decode cX9_place 31 = .ok (.iload_n 2, 1) := by decide +kernel
theorem dX9_place_32 : decode cX9_place 32 = .ok (.invokevirtual 204, 3) := by decide +kernel
theorem dX9_place_35 : decode cX9_place 35 = .ok (.iconst 0, 1) := by decide +kernel
theorem dX9_place_36 : decode cX9_place 36 = .ok (.istore_n 3, 1) := by decide +kernel
theorem dX9_place_37 : decode cX9_place 37 = .ok (.iload_n 3, 1) := by decide +kernel
theorem dX9_place_38 : decode cX9_place 38 = .ok (.aload_n 0, 1) := by decide +kernel
theorem dX9_place_39 : decode cX9_place 39 = .ok (.getfield 187, 3) := by decide +kernel
theorem dX9_place_42 : decode cX9_place 42 = .ok (.if_icmp .ge 21, 3) := by decide +kernel
theorem dX9_place_45 : decode cX9_place 45 = .ok (.aload_n 0, 1) := by decide +kernel
theorem dX9_place_46 : decode cX9_place 46 = .ok (.getfield 25, 3) := by decide +kernel
theorem dX9_place_49 : decode cX9_place 49 = .ok (.iload_n 3, 1) := by decide +kernel
theorem dX9_place_50 : decode cX9_place 50 = .ok (.iaload, 1) := by decide +kernel
theorem dX9_place_51 : decode cX9_place 51 = .ok (.iload_n 1, 1) := by decide +kernel
theorem dX9_place_52 : decode cX9_place 52 = .ok (.if_icmp .ne 5, 3) := by decide +kernel
theorem dX9_place_55 : decode cX9_place 55 = .ok (.iload_n 3, 1) := by decide +kernel
theorem dX9_place_56 : decode cX9_place 56 = .ok (.ireturn, 1) := by decide +kernel
theorem dX9_place_57 : decode cX9_place 57 = .ok (.iinc 3 1, 3) := by decide +kernel
theorem dX9_place_60 : decode cX9_place 60 = .ok (.goto (-23), 3) := by decide +kernel
theorem dX9_place_63 : decode cX9_place 63 = .ok (.bipush (-4), 2) := by decide +kernel
theorem dX9_place_65 : decode cX9_place 65 = .ok (.ireturn, 1) := by decide +kernel
set_option maxRecDepth 20000 in
theorem ggX9_row_X9_in : GoodIn wsX9_row wsX9_in := goodIn_r _ [8] (by decide +kernel) (by decide +kernel)
set_option maxRecDepth 20000 in
theorem gX9_row_X9_in : GoodIn wsX9_row (va_wsS RX9 63 yX9_in wsX9_in) := goodIn_app (goodIn_of _ (by decide +kernel)) ggX9_row_X9_in
set_option maxRecDepth 20000 in
theorem ggX9_row_X9_copies : GoodIn wsX9_row wsX9_copies := goodIn_r _ [12, 13, 48, 49, 50, 51, 52, 53, 54, 55, 56, 57, 58, 59, 60, 61, 62, 63, 64, 65, 66, 67, 68, 69, 70, 71, 72, 73, 74, 75, 76, 77, 78, 79, 80, 81] (by decide +kernel) (by decide +kernel)
set_option maxRecDepth 20000 in
theorem gX9_row_X9_copies : GoodIn wsX9_row (wsV RX9 200 RX9 yX9_copies wsX9_copies) := goodIn_app (goodIn_of _ (by decide +kernel)) ggX9_row_X9_copies
set_option maxRecDepth 20000 in
theorem ggX9_row_X9_runsTo : GoodIn wsX9_row wsX9_runsTo := goodIn_r _ [17, 3, 18, 19, 20, 13, 21, 22, 23, 7, 24, 4, 25, 26, 27, 28, 29, 30, 31, 32, 33, 34, 35, 36, 37, 38, 39, 40, 41, 42, 43, 44, 45, 46, 47, 48, 49, 50, 51, 52, 53, 54, 55, 56, 57, 58, 59, 60, 61, 62, 63, 64, 65, 66, 67, 68, 69, 70, 71, 72, 73, 74, 75, 76, 77, 78, 79, 80, 81] (by decide +kernel) (by decide +kernel)
set_option maxRecDepth 20000 in
theorem gX9_row_X9_runsTo : GoodIn wsX9_row (wsV RX9 204 RX9 yX9_runsTo wsX9_runsTo) := goodIn_app (goodIn_of _ (by decide +kernel)) ggX9_row_X9_runsTo
theorem dX9_row_0 : decode cX9_row 0 = .ok (.iload_n 1, 1) := by decide +kernel
theorem dX9_row_1 : decode cX9_row 1 = .ok (.i2l, 1) := by decide +kernel
theorem dX9_row_2 : decode cX9_row 2 = .ok (.lconst 0, 1) := by decide +kernel
theorem dX9_row_3 : decode cX9_row 3 = .ok (.ldc2_w 213, 3) := by decide +kernel
theorem dX9_row_6 : decode cX9_row 6 = .ok (.invokestatic 63, 3) := by decide +kernel
theorem dX9_row_9 : decode cX9_row 9 = .ok (.ifCond .eq 15, 3) := by decide +kernel
theorem dX9_row_12 : decode cX9_row 12 = .ok (.iload_n 2, 1) := by decide +kernel
theorem dX9_row_13 : decode cX9_row 13 = .ok (.i2l, 1) := by decide +kernel
theorem dX9_row_14 : decode cX9_row 14 = .ok (.lconst 0, 1) := by decide +kernel
theorem dX9_row_15 : decode cX9_row 15 = .ok (.ldc2_w 215, 3) := by decide +kernel
theorem dX9_row_18 : decode cX9_row 18 = .ok (.invokestatic 63, 3) := by decide +kernel
theorem dX9_row_21 : decode cX9_row 21 = .ok (.ifCond .ne 5, 3) := by decide +kernel
theorem dX9_row_24 : decode cX9_row 24 = .ok (.iconst (-1), 1) := by decide +kernel
theorem dX9_row_25 : decode cX9_row 25 = .ok (.ireturn, 1) := by decide +kernel
theorem dX9_row_26 : decode cX9_row 26 = .ok (.aload_n 0, 1) := by decide +kernel
theorem dX9_row_27 : decode cX9_row 27 = .ok (.iconst 0, 1) := by decide +kernel
theorem dX9_row_28 : decode cX9_row 28 = .ok (.sipush 282, 3) := by decide +kernel
theorem dX9_row_31 : decode cX9_row 31 = .ok (.invokevirtual 200, 3) := by decide +kernel
theorem dX9_row_34 : decode cX9_row 34 = .ok (.aload_n 0, 1) := by decide +kernel
theorem dX9_row_35 : decode cX9_row 35 = .ok (.iload_n 1, 1) := by decide +kernel
theorem dX9_row_36 : decode cX9_row 36 = .ok (.invokevirtual 204, 3) := by decide +kernel
theorem dX9_row_39 : decode cX9_row 39 = .ok (.iload_n 2, 1) := by decide +kernel
theorem dX9_row_40 : decode cX9_row 40 = .ok (.aload_n 0, 1) := by decide +kernel
theorem dX9_row_41 : decode cX9_row 41 = .ok (.getfield 187, 3) := by decide +kernel
theorem dX9_row_44 : decode cX9_row 44 = .ok (.if_icmp .ge 12, 3) := by decide +kernel
theorem dX9_row_47 : decode cX9_row 47 = .ok (.aload_n 0, 1) := by decide +kernel
theorem dX9_row_48 : decode cX9_row 48 = .ok (.getfield 25, 3) := by decide +kernel
theorem dX9_row_51 : decode cX9_row 51 = .ok (.iload_n 2, 1) := by decide +kernel
theorem dX9_row_52 : decode cX9_row 52 = .ok (.iaload, 1) := by decide +kernel
theorem dX9_row_53 : decode cX9_row 53 = .ok (.goto 5, 3) := by decide +kernel
theorem dX9_row_56 : decode cX9_row 56 = .ok (.bipush (-4), 2) := by decide +kernel
theorem dX9_row_58 : decode cX9_row 58 = .ok (.ireturn, 1) := by decide +kernel
set_option maxRecDepth 20000 in
theorem ggX9_allOf_X9_many : GoodIn wsX9_allOf wsX9_many := goodIn_r _ [8, 1, 13, 14, 15, 16, 17, 18, 19, 20, 21, 22, 23, 24, 25, 26, 27, 28, 29, 30, 31, 32, 33, 34, 35, 36, 37, 38, 39, 40, 41, 42, 43, 44, 45, 46] (by decide +kernel) (by decide +kernel)
set_option maxRecDepth 20000 in
theorem gX9_allOf_X9_many : GoodIn wsX9_allOf (wsV RX9 145 RX9 yX9_many wsX9_many) := goodIn_app (goodIn_of _ (by decide +kernel)) ggX9_allOf_X9_many
set_option maxRecDepth 20000 in
theorem ggX9_allOf_X9_waitOf : GoodIn wsX9_allOf wsX9_waitOf := goodIn_r _ [12, 2, 1, 13, 14, 15, 16, 17, 18, 19, 20, 21, 22, 23, 24, 25, 26, 27, 28, 29, 30, 31, 32, 33, 34, 35, 36, 37, 38, 39, 40, 41, 42, 43, 44, 45, 46] (by decide +kernel) (by decide +kernel)
set_option maxRecDepth 20000 in
theorem gX9_allOf_X9_waitOf : GoodIn wsX9_allOf (wsV RX9 210 RX9 yX9_waitOf wsX9_waitOf) := goodIn_app (goodIn_of _ (by decide +kernel)) ggX9_allOf_X9_waitOf
theorem dX9_allOf_0 : decode cX9_allOf 0 = .ok (.iconst 0, 1) := by decide +kernel
theorem dX9_allOf_1 : decode cX9_allOf 1 = .ok (.istore_n 2, 1) := by decide +kernel
theorem dX9_allOf_2 : decode cX9_allOf 2 = .ok (.iconst 0, 1) := by decide +kernel
theorem dX9_allOf_3 : decode cX9_allOf 3 = .ok (.istore_n 3, 1) := by decide +kernel
theorem dX9_allOf_4 : decode cX9_allOf 4 = .ok (.iconst 0, 1) := by decide +kernel
theorem dX9_allOf_5 : decode cX9_allOf 5 = .ok (.istore 4, 2) := by decide +kernel
theorem dX9_allOf_7 : decode cX9_allOf 7 = .ok (.iload 4, 2) := by decide +kernel
theorem dX9_allOf_9 : decode cX9_allOf 9 = .ok (.aload_n 0, 1) := by decide +kernel
theorem dX9_allOf_10 : decode cX9_allOf 10 = .ok (.invokevirtual 145, 3) := by decide +kernel
theorem dX9_allOf_13 : decode cX9_allOf 13 = .ok (.if_icmp .ge 87, 3) := by decide +kernel
theorem dX9_allOf_16 : decode cX9_allOf 16 = .ok (.iload_n 2, 1) := by decide +kernel
theorem dX9_allOf_17 : decode cX9_allOf 17 = .ok (.iload_n 1, 1) := by decide +kernel
theorem dX9_allOf_18 : decode cX9_allOf 18 = .ok (.ifCond .ne 12, 3) := by decide +kernel
theorem dX9_allOf_21 : decode cX9_allOf 21 = .ok (.aload_n 0, 1) := by decide +kernel
theorem dX9_allOf_22 : decode cX9_allOf 22 = .ok (.iload 4, 2) := by decide +kernel
theorem dX9_allOf_24 : decode cX9_allOf 24 = .ok (.invokevirtual 210, 3) := by decide +kernel
theorem dX9_allOf_27 : decode cX9_allOf 27 = .ok (.goto 26, 3) := by decide +kernel
theorem dX9_allOf_30 : decode cX9_allOf 30 = .ok (.aload_n 0, 1) := by decide +kernel
theorem dX9_allOf_31 : decode cX9_allOf 31 = .ok (.getfield 7, 3) := by decide +kernel
theorem dX9_allOf_34 : decode cX9_allOf 34 = .ok (.sipush 282, 3) := by decide +kernel
theorem dX9_allOf_37 : decode cX9_allOf 37 = .ok (.bipush 6, 2) := by decide +kernel
theorem dX9_allOf_39 : decode cX9_allOf 39 = .ok (.iload 4, 2) := by decide +kernel
theorem dX9_allOf_41 : decode cX9_allOf 41 = .ok (.imul, 1) := by decide +kernel
theorem dX9_allOf_42 : decode cX9_allOf 42 = .ok (.iadd, 1) := by decide +kernel
theorem dX9_allOf_43 : decode cX9_allOf 43 = .ok (.iconst 3, 1) := by decide +kernel
theorem dX9_allOf_44 : decode cX9_allOf 44 = .ok (.iadd, 1) := by decide +kernel
theorem dX9_allOf_45 : decode cX9_allOf 45 = .ok (.iaload, 1) := by decide +kernel
theorem dX9_allOf_46 : decode cX9_allOf 46 = .ok (.aload_n 0, 1) := by decide +kernel
theorem dX9_allOf_47 : decode cX9_allOf 47 = .ok (.iload 4, 2) := by decide +kernel
theorem dX9_allOf_49 : decode cX9_allOf 49 = .ok (.invokevirtual 210, 3) := by decide +kernel
theorem dX9_allOf_52 : decode cX9_allOf 52 = .ok (.imul, 1) := by decide +kernel
theorem dX9_allOf_53 : decode cX9_allOf 53 = .ok (.iadd, 1) := by decide +kernel
theorem dX9_allOf_54 : decode cX9_allOf 54 = .ok (.istore_n 2, 1) := by decide +kernel
theorem dX9_allOf_55 : decode cX9_allOf 55 = .ok (.aload_n 0, 1) := by decide +kernel
theorem dX9_allOf_56 : decode cX9_allOf 56 = .ok (.getfield 31, 3) := by decide +kernel
theorem dX9_allOf_59 : decode cX9_allOf 59 = .ok (.iload 4, 2) := by decide +kernel
theorem dX9_allOf_61 : decode cX9_allOf 61 = .ok (.iaload, 1) := by decide +kernel
theorem dX9_allOf_62 : decode cX9_allOf 62 = .ok (.aload_n 0, 1) := by decide +kernel
theorem dX9_allOf_63 : decode cX9_allOf 63 = .ok (.getfield 7, 3) := by decide +kernel
theorem dX9_allOf_66 : decode cX9_allOf 66 = .ok (.sipush 282, 3) := by decide +kernel
theorem dX9_allOf_69 : decode cX9_allOf 69 = .ok (.bipush 6, 2) := by decide +kernel
theorem dX9_allOf_71 : decode cX9_allOf 71 = .ok (.iload 4, 2) := by decide +kernel
theorem dX9_allOf_73 : decode cX9_allOf 73 = .ok (.imul, 1) := by decide +kernel
theorem dX9_allOf_74 : decode cX9_allOf 74 = .ok (.iadd, 1) := by decide +kernel
theorem dX9_allOf_75 : decode cX9_allOf 75 = .ok (.iconst 2, 1) := by decide +kernel
theorem dX9_allOf_76 : decode cX9_allOf 76 = .ok (.iadd, 1) := by decide +kernel
theorem dX9_allOf_77 : decode cX9_allOf 77 = .ok (.iaload, 1) := by decide +kernel
theorem dX9_allOf_78 : decode cX9_allOf 78 = .ok (.iadd, 1) := by decide +kernel
theorem dX9_allOf_79 : decode cX9_allOf 79 = .ok (.istore 5, 2) := by decide +kernel
theorem dX9_allOf_81 : decode cX9_allOf 81 = .ok (.iload 5, 2) := by decide +kernel
theorem dX9_allOf_83 : decode cX9_allOf 83 = .ok (.iload_n 3, 1) := by decide +kernel
theorem dX9_allOf_84 : decode cX9_allOf 84 = .ok (.if_icmp .le 8, 3) := by decide +kernel
theorem dX9_allOf_87 : decode cX9_allOf 87 = .ok (.iload 5, 2) := by decide +kernel
theorem dX9_allOf_89 : decode cX9_allOf 89 = .ok (.goto 4, 3) := by decide +kernel
theorem dX9_allOf_92 : decode cX9_allOf 92 = .ok (.iload_n 3, 1) := by decide +kernel
theorem dX9_allOf_93 : decode cX9_allOf 93 = .ok (.istore_n 3, 1) := by decide +kernel
theorem dX9_allOf_94 : decode cX9_allOf 94 = .ok (.iinc 4 1, 3) := by decide +kernel
theorem dX9_allOf_97 : decode cX9_allOf 97 = .ok (.goto (-90), 3) := by decide +kernel
theorem dX9_allOf_100 : decode cX9_allOf 100 = .ok (.iload_n 1, 1) := by decide +kernel
theorem dX9_allOf_101 : decode cX9_allOf 101 = .ok (.iconst 3, 1) := by decide +kernel
theorem dX9_allOf_102 : decode cX9_allOf 102 = .ok (.if_icmp .ne 10, 3) := by decide +kernel
theorem dX9_allOf_105 : decode cX9_allOf 105 = .ok (.aload_n 0, 1) := by decide +kernel
theorem dX9_allOf_106 : decode cX9_allOf 106 = .ok (.getfield 190, 3) := by decide +kernel
theorem dX9_allOf_109 : decode cX9_allOf 109 = .ok (.goto 13, 3) := by decide +kernel
theorem dX9_allOf_112 : decode cX9_allOf 112 = .ok (.iload_n 1, 1) := by decide +kernel
theorem dX9_allOf_113 : decode cX9_allOf 113 = .ok (.iconst 2, 1) := by decide +kernel
theorem dX9_allOf_114 : decode cX9_allOf 114 = .ok (.if_icmp .ne 7, 3) := by decide +kernel
theorem dX9_allOf_117 : decode cX9_allOf 117 = .ok (.iload_n 3, 1) := by decide +kernel
theorem dX9_allOf_118 : decode cX9_allOf 118 = .ok (.goto 4, 3) := by decide +kernel
theorem dX9_allOf_121 : decode cX9_allOf 121 = .ok (.iload_n 2, 1) := by decide +kernel
theorem dX9_allOf_122 : decode cX9_allOf 122 = .ok (.ireturn, 1) := by decide +kernel
set_option maxRecDepth 20000 in
theorem ggX9_all_X9_in : GoodIn wsX9_all wsX9_in := goodIn_r _ [5] (by decide +kernel) (by decide +kernel)
set_option maxRecDepth 20000 in
theorem gX9_all_X9_in : GoodIn wsX9_all (va_wsS RX9 63 yX9_in wsX9_in) := goodIn_app (goodIn_of _ (by decide +kernel)) ggX9_all_X9_in
set_option maxRecDepth 20000 in
theorem ggX9_all_X9_runsAll : GoodIn wsX9_all wsX9_runsAll := goodIn_r _ [9, 10, 11, 12, 4, 13, 14, 15, 16, 17, 18, 19, 20, 21, 22, 23, 24, 25, 26, 27, 28, 29, 30, 31, 32, 33, 34, 35, 36, 37, 38, 39, 40, 41, 42, 43, 44, 45, 46, 47, 48, 49, 50, 63, 64, 65, 66, 67, 68, 69, 70, 71, 72, 73, 74, 75, 76, 77, 78, 79, 80, 81, 82, 83, 84, 85, 86, 87, 88, 89, 90, 91, 92, 93, 94, 95, 96] (by decide +kernel) (by decide +kernel)
set_option maxRecDepth 20000 in
theorem gX9_all_X9_runsAll : GoodIn wsX9_all (wsV RX9 207 RX9 yX9_runsAll wsX9_runsAll) := goodIn_app (goodIn_of _ (by decide +kernel)) ggX9_all_X9_runsAll
set_option maxRecDepth 20000 in
theorem ggX9_all_X9_allOf : GoodIn wsX9_all wsX9_allOf := goodIn_r _ [54, 14, 22, 20, 55, 56, 57, 4, 58, 59, 60, 61, 62, 63, 64, 65, 66, 67, 68, 69, 70, 71, 72, 73, 74, 75, 76, 77, 78, 79, 80, 81, 82, 83, 84, 85, 86, 87, 88, 89, 90, 91, 92, 93, 94, 95, 96] (by decide +kernel) (by decide +kernel)
set_option maxRecDepth 20000 in
theorem gX9_all_X9_allOf : GoodIn wsX9_all (wsV RX9 217 RX9 yX9_allOf wsX9_allOf) := goodIn_app (goodIn_of _ (by decide +kernel)) ggX9_all_X9_allOf
theorem dX9_all_0 : decode cX9_all 0 = .ok (.iload_n 1, 1) := by decide +kernel
theorem dX9_all_1 : decode cX9_all 1 = .ok (.i2l, 1) := by decide +kernel
theorem dX9_all_2 : decode cX9_all 2 = .ok (.lconst 0, 1) := by decide +kernel
theorem dX9_all_3 : decode cX9_all 3 = .ok (.ldc2_w 121, 3) := by decide +kernel
theorem dX9_all_6 : decode cX9_all 6 = .ok (.invokestatic 63, 3) := by decide +kernel
theorem dX9_all_9 : decode cX9_all 9 = .ok (.ifCond .ne 5, 3) := by decide +kernel
theorem dX9_all_12 : decode cX9_all 12 = .ok (.iconst (-1), 1) := by decide +kernel
theorem dX9_all_13 : decode cX9_all 13 = .ok (.ireturn, 1) := by decide +kernel
theorem dX9_all_14 : decode cX9_all 14 = .ok (.aload_n 0, 1) := by decide +kernel
theorem dX9_all_15 : decode cX9_all 15 = .ok (.invokevirtual 207, 3) := by decide +kernel
theorem dX9_all_18 : decode cX9_all 18 = .ok (.aload_n 0, 1) := by decide +kernel
theorem dX9_all_19 : decode cX9_all 19 = .ok (.iload_n 1, 1) := by decide +kernel
theorem dX9_all_20 : decode cX9_all 20 = .ok (.invokevirtual 217, 3) := by decide +kernel
theorem dX9_all_23 : decode cX9_all 23 = .ok (.ireturn, 1) := by decide +kernel
set_option maxRecDepth 20000 in
theorem ggX9_poor_X9_in : GoodIn wsX9_poor wsX9_in := goodIn_r _ [6] (by decide +kernel) (by decide +kernel)
set_option maxRecDepth 20000 in
theorem gX9_poor_X9_in : GoodIn wsX9_poor (va_wsS RX9 63 yX9_in wsX9_in) := goodIn_app (goodIn_of _ (by decide +kernel)) ggX9_poor_X9_in
set_option maxRecDepth 20000 in
theorem ggX9_poor_X9_copies : GoodIn wsX9_poor wsX9_copies := goodIn_r _ [10, 2, 55, 56, 57, 58, 59, 60, 61, 62, 63, 64, 65, 66, 67, 68, 69, 70, 71, 72, 73, 74, 75, 76, 77, 78, 79, 80, 81, 82, 83, 84, 85, 86, 87, 88] (by decide +kernel) (by decide +kernel)
set_option maxRecDepth 20000 in
theorem gX9_poor_X9_copies : GoodIn wsX9_poor (wsV RX9 200 RX9 yX9_copies wsX9_copies) := goodIn_app (goodIn_of _ (by decide +kernel)) ggX9_poor_X9_copies
set_option maxRecDepth 20000 in
theorem ggX9_poor_X9_runsTo : GoodIn wsX9_poor wsX9_runsTo := goodIn_r _ [14, 15, 16, 17, 18, 2, 19, 20, 21, 5, 22, 23, 24, 25, 26, 27, 28, 29, 30, 31, 32, 33, 34, 35, 36, 37, 38, 39, 40, 41, 42, 43, 44, 45, 46, 55, 56, 57, 58, 59, 60, 61, 62, 63, 64, 65, 66, 67, 68, 69, 70, 71, 72, 73, 74, 75, 76, 77, 78, 79, 80, 81, 82, 83, 84, 85, 86, 87, 88] (by decide +kernel) (by decide +kernel)
set_option maxRecDepth 20000 in
theorem gX9_poor_X9_runsTo : GoodIn wsX9_poor (wsV RX9 204 RX9 yX9_runsTo wsX9_runsTo) := goodIn_app (goodIn_of _ (by decide +kernel)) ggX9_poor_X9_runsTo
set_option maxRecDepth 20000 in
theorem ggX9_poor_X9_many : GoodIn wsX9_poor wsX9_many := goodIn_r _ [50, 2, 55, 56, 57, 58, 59, 60, 61, 62, 63, 64, 65, 66, 67, 68, 69, 70, 71, 72, 73, 74, 75, 76, 77, 78, 79, 80, 81, 82, 83, 84, 85, 86, 87, 88] (by decide +kernel) (by decide +kernel)
set_option maxRecDepth 20000 in
theorem gX9_poor_X9_many : GoodIn wsX9_poor (wsV RX9 145 RX9 yX9_many wsX9_many) := goodIn_app (goodIn_of _ (by decide +kernel)) ggX9_poor_X9_many
set_option maxRecDepth 20000 in
theorem ggX9_poor_X9_waitOf : GoodIn wsX9_poor wsX9_waitOf := goodIn_r _ [54, 18, 2, 55, 56, 57, 58, 59, 60, 61, 62, 63, 64, 65, 66, 67, 68, 69, 70, 71, 72, 73, 74, 75, 76, 77, 78, 79, 80, 81, 82, 83, 84, 85, 86, 87, 88] (by decide +kernel) (by decide +kernel)
set_option maxRecDepth 20000 in
theorem gX9_poor_X9_waitOf : GoodIn wsX9_poor (wsV RX9 210 RX9 yX9_waitOf wsX9_waitOf) := goodIn_app (goodIn_of _ (by decide +kernel)) ggX9_poor_X9_waitOf
theorem dX9_poor_0 : decode cX9_poor 0 = .ok (.iload_n 1, 1) := by decide +kernel
theorem dX9_poor_1 : decode cX9_poor 1 = .ok (.i2l, 1) := by decide +kernel
theorem dX9_poor_2 : decode cX9_poor 2 = .ok (.lconst 0, 1) := by decide +kernel
theorem dX9_poor_3 : decode cX9_poor 3 = .ok (.ldc2_w 173, 3) := by decide +kernel
theorem dX9_poor_6 : decode cX9_poor 6 = .ok (.invokestatic 63, 3) := by decide +kernel
theorem dX9_poor_9 : decode cX9_poor 9 = .ok (.ifCond .eq 13, 3) := by decide +kernel
theorem dX9_poor_12 : decode cX9_poor 12 = .ok (.iload_n 2, 1) := by decide +kernel
theorem dX9_poor_13 : decode cX9_poor 13 = .ok (.i2l, 1) := by decide +kernel
theorem dX9_poor_14 : decode cX9_poor 14 = .ok (.lconst 0, 1) := by decide +kernel
theorem dX9_poor_15 : decode cX9_poor 15 = .ok (.lconst 1, 1) := by decide +kernel
theorem dX9_poor_16 : decode cX9_poor 16 = .ok (.invokestatic 63, 3) := by decide +kernel
theorem dX9_poor_19 : decode cX9_poor 19 = .ok (.ifCond .ne 5, 3) := by decide +kernel
theorem dX9_poor_22 : decode cX9_poor 22 = .ok (.iconst (-1), 1) := by decide +kernel
theorem dX9_poor_23 : decode cX9_poor 23 = .ok (.ireturn, 1) := by decide +kernel
theorem dX9_poor_24 : decode cX9_poor 24 = .ok (.aload_n 0, 1) := by decide +kernel
theorem dX9_poor_25 : decode cX9_poor 25 = .ok (.iconst 0, 1) := by decide +kernel
theorem dX9_poor_26 : decode cX9_poor 26 = .ok (.sipush 282, 3) := by decide +kernel
theorem dX9_poor_29 : decode cX9_poor 29 = .ok (.invokevirtual 200, 3) := by decide +kernel
theorem dX9_poor_32 : decode cX9_poor 32 = .ok (.aload_n 0, 1) := by decide +kernel
theorem dX9_poor_33 : decode cX9_poor 33 = .ok (.getfield 7, 3) := by decide +kernel
theorem dX9_poor_36 : decode cX9_poor 36 = .ok (.sipush 373, 3) := by decide +kernel
theorem dX9_poor_39 : decode cX9_poor 39 = .ok (.iload_n 2, 1) := by decide +kernel
theorem dX9_poor_40 : decode cX9_poor 40 = .ok (.iastore, 1) := by decide +kernel
theorem dX9_poor_41 : decode cX9_poor 41 = .ok (.aload_n 0, 1) := by decide +kernel
theorem dX9_poor_42 : decode cX9_poor 42 = .ok (.sipush 130, 3) := by decide +kernel
theorem dX9_poor_45 : decode cX9_poor 45 = .ok (.invokevirtual 204, 3) := by decide +kernel
theorem dX9_poor_48 : decode cX9_poor 48 = .ok (.iconst 0, 1) := by decide +kernel
theorem dX9_poor_49 : decode cX9_poor 49 = .ok (.istore_n 3, 1) := by decide +kernel
theorem dX9_poor_50 : decode cX9_poor 50 = .ok (.iconst 0, 1) := by decide +kernel
theorem dX9_poor_51 : decode cX9_poor 51 = .ok (.istore 4, 2) := by decide +kernel
theorem dX9_poor_53 : decode cX9_poor 53 = .ok (.iload 4, 2) := by decide +kernel
theorem dX9_poor_55 : decode cX9_poor 55 = .ok (.aload_n 0, 1) := by decide +kernel
theorem dX9_poor_56 : decode cX9_poor 56 = .ok (.invokevirtual 145, 3) := by decide +kernel
theorem dX9_poor_59 : decode cX9_poor 59 = .ok (.if_icmp .ge 38, 3) := by decide +kernel
theorem dX9_poor_62 : decode cX9_poor 62 = .ok (.iload_n 3, 1) := by decide +kernel
theorem dX9_poor_63 : decode cX9_poor 63 = .ok (.aload_n 0, 1) := by decide +kernel
theorem dX9_poor_64 : decode cX9_poor 64 = .ok (.getfield 7, 3) := by decide +kernel
theorem dX9_poor_67 : decode cX9_poor 67 = .ok (.bipush 6, 2) := by decide +kernel
theorem dX9_poor_69 : decode cX9_poor 69 = .ok (.iload 4, 2) := by decide +kernel
theorem dX9_poor_71 : decode cX9_poor 71 = .ok (.imul, 1) := by decide +kernel
theorem dX9_poor_72 : decode cX9_poor 72 = .ok (.iconst 4, 1) := by decide +kernel
theorem dX9_poor_73 : decode cX9_poor 73 = .ok (.iadd, 1) := by decide +kernel
theorem dX9_poor_74 : decode cX9_poor 74 = .ok (.iaload, 1) := by decide +kernel
theorem dX9_poor_75 : decode cX9_poor 75 = .ok (.iload_n 1, 1) := by decide +kernel
theorem dX9_poor_76 : decode cX9_poor 76 = .ok (.if_icmp .gt 12, 3) := by decide +kernel
theorem dX9_poor_79 : decode cX9_poor 79 = .ok (.aload_n 0, 1) := by decide +kernel
theorem dX9_poor_80 : decode cX9_poor 80 = .ok (.iload 4, 2) := by decide +kernel
theorem dX9_poor_82 : decode cX9_poor 82 = .ok (.invokevirtual 210, 3) := by decide +kernel
theorem dX9_poor_85 : decode cX9_poor 85 = .ok (.goto 4, 3) := by decide +kernel
theorem dX9_poor_88 : decode cX9_poor 88 = .ok (.iconst 0, 1) := by decide +kernel
theorem dX9_poor_89 : decode cX9_poor 89 = .ok (.iadd, 1) := by decide +kernel
theorem dX9_poor_90 : decode cX9_poor 90 = .ok (.istore_n 3, 1) := by decide +kernel
theorem dX9_poor_91 : decode cX9_poor 91 = .ok (.iinc 4 1, 3) := by decide +kernel
theorem dX9_poor_94 : decode cX9_poor 94 = .ok (.goto (-41), 3) := by decide +kernel
theorem dX9_poor_97 : decode cX9_poor 97 = .ok (.iload_n 3, 1) := by decide +kernel
theorem dX9_poor_98 : decode cX9_poor 98 = .ok (.ireturn, 1) := by decide +kernel
set_option maxRecDepth 20000 in
theorem ggX9_layRow_X9_many : GoodIn wsX9_layRow wsX9_many := goodIn_r _ [7, 2, 33, 34, 35, 36, 37, 38, 39, 40, 41, 42, 43, 44, 45, 46, 47, 48, 49, 50, 51, 52, 53, 54, 55, 56, 57, 58, 59, 60, 61, 62, 63, 64, 65, 66] (by decide +kernel) (by decide +kernel)
set_option maxRecDepth 20000 in
theorem gX9_layRow_X9_many : GoodIn wsX9_layRow (wsV RX9 145 RX9 yX9_many wsX9_many) := goodIn_app (goodIn_of _ (by decide +kernel)) ggX9_layRow_X9_many
set_option maxRecDepth 20000 in
theorem ggX9_layRow_X9_comesTo : GoodIn wsX9_layRow wsX9_comesTo := goodIn_r _ [11, 1, 12, 2, 13, 14, 15, 16, 6, 17, 18, 19, 20, 21, 22, 23, 24, 25, 26, 27, 28, 29, 30, 31, 32, 33, 34, 35, 36, 37, 38, 39, 40, 41, 42, 43, 44, 45, 46, 47, 48, 49, 50, 51, 52, 53, 54, 55, 56, 57, 58, 59, 60, 61, 62, 63, 64, 65, 66] (by decide +kernel) (by decide +kernel)
set_option maxRecDepth 20000 in
theorem gX9_layRow_X9_comesTo : GoodIn wsX9_layRow (wsV RX9 193 RX9 yX9_comesTo wsX9_comesTo) := goodIn_app (goodIn_of _ (by decide +kernel)) ggX9_layRow_X9_comesTo
theorem dX9_layRow_0 : decode cX9_layRow 0 = .ok (.aload_n 0, 1) := by decide +kernel
theorem dX9_layRow_1 : decode cX9_layRow 1 = .ok (.iconst 0, 1) := by decide +kernel
theorem dX9_layRow_2 : decode cX9_layRow 2 = .ok (.putfield 187, 3) := by decide +kernel
theorem dX9_layRow_5 : decode cX9_layRow 5 = .ok (.iconst 0, 1) := by decide +kernel
theorem dX9_layRow_6 : decode cX9_layRow 6 = .ok (.istore_n 2, 1) := by decide +kernel
theorem dX9_layRow_7 : decode cX9_layRow 7 = .ok (.iload_n 2, 1) := by decide +kernel
theorem dX9_layRow_8 : decode cX9_layRow 8 = .ok (.bipush 60, 2) := by decide +kernel
theorem dX9_layRow_10 : decode cX9_layRow 10 = .ok (.if_icmp .gt 56, 3) := by decide +kernel
theorem dX9_layRow_13 : decode cX9_layRow 13 = .ok (.iconst 0, 1) := by decide +kernel
theorem dX9_layRow_14 : decode cX9_layRow 14 = .ok (.istore_n 3, 1) := by decide +kernel
theorem dX9_layRow_15 : decode cX9_layRow 15 = .ok (.iload_n 3, 1) := by decide +kernel
theorem dX9_layRow_16 : decode cX9_layRow 16 = .ok (.aload_n 0, 1) := by decide +kernel
theorem dX9_layRow_17 : decode cX9_layRow 17 = .ok (.invokevirtual 145, 3) := by decide +kernel
theorem dX9_layRow_20 : decode cX9_layRow 20 = .ok (.if_icmp .ge 40, 3) := by decide +kernel
theorem dX9_layRow_23 : decode cX9_layRow 23 = .ok (.iload_n 1, 1) := by decide +kernel
theorem dX9_layRow_24 : decode cX9_layRow 24 = .ok (.iload_n 3, 1) := by decide +kernel
theorem dX9_layRow_25 : decode cX9_layRow 25 = .ok (.ishr, 1) := by decide +kernel
theorem dX9_layRow_26 : decode cX9_layRow 26 = .ok (.iconst 1, 1) := by decide +kernel
theorem dX9_layRow_27 : decode cX9_layRow 27 = .ok (.iand, 1) := by decide +kernel
theorem dX9_layRow_28 : decode cX9_layRow 28 = .ok (.iconst 1, 1) := by decide +kernel
theorem dX9_layRow_29 : decode cX9_layRow 29 = .ok (.if_icmp .ne 25, 3) := by decide +kernel
theorem dX9_layRow_32 : decode cX9_layRow 32 = .ok (.aload_n 0, 1) := by decide +kernel
theorem dX9_layRow_33 : decode cX9_layRow 33 = .ok (.getfield 7, 3) := by decide +kernel
theorem dX9_layRow_36 : decode cX9_layRow 36 = .ok (.bipush 6, 2) := by decide +kernel
theorem dX9_layRow_38 : decode cX9_layRow 38 = .ok (.iload_n 3, 1) := by decide +kernel
theorem dX9_layRow_39 : decode cX9_layRow 39 = .ok (.imul, 1) := by decide +kernel
theorem dX9_layRow_40 : decode cX9_layRow 40 = .ok (.iconst 1, 1) := by decide +kernel
theorem dX9_layRow_41 : decode cX9_layRow 41 = .ok (.iadd, 1) := by decide +kernel
theorem dX9_layRow_42 : decode cX9_layRow 42 = .ok (.iaload, 1) := by decide +kernel
theorem dX9_layRow_43 : decode cX9_layRow 43 = .ok (.iload_n 2, 1) := by decide +kernel
theorem dX9_layRow_44 : decode cX9_layRow 44 = .ok (.if_icmp .ne 10, 3) := by decide +kernel
theorem dX9_layRow_47 : decode cX9_layRow 47 = .ok (.aload_n 0, 1) := by decide +kernel
theorem dX9_layRow_48 : decode cX9_layRow 48 = .ok (.iconst 0, 1) := by decide +kernel
theorem dX9_layRow_49 : decode cX9_layRow 49 = .ok (.iload_n 3, 1) := by decide +kernel
theorem dX9_layRow_50 : decode cX9_layRow 50 = .ok (.iconst 0, 1) := by decide +kernel
theorem dX9_layRow_51 : decode cX9_layRow 51 = .ok (.invokevirtual 193, 3) := by decide +kernel
theorem dX9_layRow_54 : decode cX9_layRow 54 = .ok (.iinc 3 1, 3) := by decide +kernel
theorem dX9_layRow_57 : decode cX9_layRow 57 = .ok (.goto (-42), 3) := by decide +kernel
theorem dX9_layRow_60 : decode cX9_layRow 60 = .ok (.iinc 2 1, 3) := by decide +kernel
theorem dX9_layRow_63 : decode cX9_layRow 63 = .ok (.goto (-56), 3) := by decide +kernel
theorem dX9_layRow_66 : decode cX9_layRow 66 = .ok (.return_, 1) := by decide +kernel
set_option maxRecDepth 20000 in
theorem ggX9_stands_X9_isOne : GoodIn wsX9_stands wsX9_isOne := goodIn_r _ [6, 7, 8, 9, 5, 10, 11, 12, 13, 14, 44, 45, 46, 47, 48, 49, 50, 51, 52, 53, 54, 55, 56, 57, 58, 59, 60, 61, 62, 63, 64, 65, 66, 67, 68, 69, 70, 71, 72, 73, 74, 75, 76, 77] (by decide +kernel) (by decide +kernel)
set_option maxRecDepth 20000 in
theorem gX9_stands_X9_isOne : GoodIn wsX9_stands (wsV RX9 148 RX9 yX9_isOne wsX9_isOne) := goodIn_app (goodIn_of _ (by decide +kernel)) ggX9_stands_X9_isOne
set_option maxRecDepth 20000 in
theorem ggX9_stands_X9_many : GoodIn wsX9_stands wsX9_many := goodIn_r _ [10, 11, 44, 45, 46, 47, 48, 49, 50, 51, 52, 53, 54, 55, 56, 57, 58, 59, 60, 61, 62, 63, 64, 65, 66, 67, 68, 69, 70, 71, 72, 73, 74, 75, 76, 77] (by decide +kernel) (by decide +kernel)
set_option maxRecDepth 20000 in
theorem gX9_stands_X9_many : GoodIn wsX9_stands (wsV RX9 145 RX9 yX9_many wsX9_many) := goodIn_app (goodIn_of _ (by decide +kernel)) ggX9_stands_X9_many
set_option maxRecDepth 20000 in
theorem ggX9_stands_X9_layRow : GoodIn wsX9_stands wsX9_layRow := goodIn_r _ [18, 19, 11, 7, 8, 9, 5, 10, 20, 21, 22, 23, 1, 24, 25, 26, 27, 28, 29, 30, 31, 32, 33, 34, 35, 36, 37, 38, 39, 40, 41, 42, 43, 44, 45, 46, 47, 48, 49, 50, 51, 52, 53, 54, 55, 56, 57, 58, 59, 60, 61, 62, 63, 64, 65, 66, 67, 68, 69, 70, 71, 72, 73, 74, 75, 76, 77] (by decide +kernel) (by decide +kernel)
set_option maxRecDepth 20000 in
theorem gX9_stands_X9_layRow : GoodIn wsX9_stands (wsV RX9 220 RX9 yX9_layRow wsX9_layRow) := goodIn_app (goodIn_of _ (by decide +kernel)) ggX9_stands_X9_layRow
theorem dX9_stands_0 : decode cX9_stands 0 = .ok (.aload_n 0, 1) := by decide +kernel
theorem dX9_stands_1 : decode cX9_stands 1 = .ok (.iload_n 1, 1) := by decide +kernel
theorem dX9_stands_2 : decode cX9_stands 2 = .ok (.invokevirtual 148, 3) := by decide +kernel
theorem dX9_stands_5 : decode cX9_stands 5 = .ok (.ifCond .ne 5, 3) := by decide +kernel
theorem dX9_stands_8 : decode cX9_stands 8 = .ok (.iconst (-1), 1) := by decide +kernel
theorem dX9_stands_9 : decode cX9_stands 9 = .ok (.ireturn, 1) := by decide +kernel
theorem dX9_stands_10 : decode cX9_stands 10 = .ok (.aload_n 0, 1) := by decide +kernel
theorem dX9_stands_11 : decode cX9_stands 11 = .ok (.iconst 1, 1) := by decide +kernel
theorem dX9_stands_12 : decode cX9_stands 12 = .ok (.aload_n 0, 1) := by decide +kernel
theorem dX9_stands_13 : decode cX9_stands 13 = .ok (.invokevirtual 145, 3) := by decide +kernel
theorem dX9_stands_16 : decode cX9_stands 16 = .ok (.ishl, 1) := by decide +kernel
theorem dX9_stands_17 : decode cX9_stands 17 = .ok (.iconst 1, 1) := by decide +kernel
theorem dX9_stands_18 : decode cX9_stands 18 = .ok (.isub, 1) := by decide +kernel
theorem dX9_stands_19 : decode cX9_stands 19 = .ok (.invokevirtual 220, 3) := by decide +kernel
theorem dX9_stands_22 : decode cX9_stands 22 = .ok (.aload_n 0, 1) := by decide +kernel
theorem dX9_stands_23 : decode cX9_stands 23 = .ok (.getfield 25, 3) := by decide +kernel
theorem dX9_stands_26 : decode cX9_stands 26 = .ok (.iload_n 1, 1) := by decide +kernel
theorem dX9_stands_27 : decode cX9_stands 27 = .ok (.iaload, 1) := by decide +kernel
theorem dX9_stands_28 : decode cX9_stands 28 = .ok (.ireturn, 1) := by decide +kernel
set_option maxRecDepth 20000 in
theorem ggX9_letsIn_X9_many : GoodIn wsX9_letsIn wsX9_many := goodIn_r _ [5, 6, 18, 19, 20, 21, 22, 23, 24, 25, 26, 27, 28, 29, 30, 31, 32, 33, 34, 35, 36, 37, 38, 39, 40, 41, 42, 43, 44, 45, 46, 47, 48, 49, 50, 51] (by decide +kernel) (by decide +kernel)
set_option maxRecDepth 20000 in
theorem gX9_letsIn_X9_many : GoodIn wsX9_letsIn (wsV RX9 145 RX9 yX9_many wsX9_many) := goodIn_app (goodIn_of _ (by decide +kernel)) ggX9_letsIn_X9_many
set_option maxRecDepth 20000 in
theorem ggX9_letsIn_X9_mustLet : GoodIn wsX9_letsIn wsX9_mustLet := goodIn_r _ [10, 6, 11, 12, 13, 4, 14, 15, 16, 17, 18, 19, 20, 21, 22, 23, 24, 25, 26, 27, 28, 29, 30, 31, 32, 33, 34, 35, 36, 37, 38, 39, 40, 41, 42, 43, 44, 45, 46, 47, 48, 49, 50, 51] (by decide +kernel) (by decide +kernel)
set_option maxRecDepth 20000 in
theorem gX9_letsIn_X9_mustLet : GoodIn wsX9_letsIn (wsV RX9 165 RX9 yX9_mustLet wsX9_mustLet) := goodIn_app (goodIn_of _ (by decide +kernel)) ggX9_letsIn_X9_mustLet
theorem dX9_letsIn_0 : decode cX9_letsIn 0 = .ok (.iconst 0, 1) := by decide +kernel
theorem dX9_letsIn_1 : decode cX9_letsIn 1 = .ok (.istore_n 2, 1) := by decide +kernel
theorem dX9_letsIn_2 : decode cX9_letsIn 2 = .ok (.iconst 0, 1) := by decide +kernel
theorem dX9_letsIn_3 : decode cX9_letsIn 3 = .ok (.istore_n 3, 1) := by decide +kernel
theorem dX9_letsIn_4 : decode cX9_letsIn 4 = .ok (.iload_n 3, 1) := by decide +kernel
theorem dX9_letsIn_5 : decode cX9_letsIn 5 = .ok (.aload_n 0, 1) := by decide +kernel
theorem dX9_letsIn_6 : decode cX9_letsIn 6 = .ok (.invokevirtual 145, 3) := by decide +kernel
theorem dX9_letsIn_9 : decode cX9_letsIn 9 = .ok (.if_icmp .ge 34, 3) := by decide +kernel
theorem dX9_letsIn_12 : decode cX9_letsIn 12 = .ok (.iload_n 2, 1) := by decide +kernel
theorem dX9_letsIn_13 : decode cX9_letsIn 13 = .ok (.iload_n 3, 1) := by decide +kernel
theorem dX9_letsIn_14 : decode cX9_letsIn 14 = .ok (.iload_n 1, 1) := by decide +kernel
theorem dX9_letsIn_15 : decode cX9_letsIn 15 = .ok (.if_icmp .eq 19, 3) := by decide +kernel
theorem dX9_letsIn_18 : decode cX9_letsIn 18 = .ok (.aload_n 0, 1) := by decide +kernel
theorem dX9_letsIn_19 : decode cX9_letsIn 19 = .ok (.iconst 0, 1) := by decide +kernel
theorem dX9_letsIn_20 : decode cX9_letsIn 20 = .ok (.iload_n 1, 1) := by decide +kernel
theorem dX9_letsIn_21 : decode cX9_letsIn 21 = .ok (.iload_n 3, 1) := by decide +kernel
theorem dX9_letsIn_22 : decode cX9_letsIn 22 = .ok (.invokevirtual 165, 3) := by decide +kernel
theorem dX9_letsIn_25 : decode cX9_letsIn 25 = .ok (.ifCond .eq 9, 3) := by decide +kernel
theorem dX9_letsIn_28 : decode cX9_letsIn 28 = .ok (.iconst 1, 1) := by decide +kernel
theorem dX9_letsIn_29 : decode cX9_letsIn 29 = .ok (.iload_n 3, 1) := by decide +kernel
theorem dX9_letsIn_30 : decode cX9_letsIn 30 = .ok (.ishl, 1) := by decide +kernel
theorem dX9_letsIn_31 : decode cX9_letsIn 31 = .ok (.goto 4, 3) := by decide +kernel
theorem dX9_letsIn_34 : decode cX9_letsIn 34 = .ok (.iconst 0, 1) := by decide +kernel
theorem dX9_letsIn_35 : decode cX9_letsIn 35 = .ok (.ior, 1) := by decide +kernel
theorem dX9_letsIn_36 : decode cX9_letsIn 36 = .ok (.istore_n 2, 1) := by decide +kernel
theorem dX9_letsIn_37 : decode cX9_letsIn 37 = .ok (.iinc 3 1, 3) := by decide +kernel
theorem dX9_letsIn_40 : decode cX9_letsIn 40 = .ok (.goto (-36), 3) := by decide +kernel
theorem dX9_letsIn_43 : decode cX9_letsIn 43 = .ok (.iload_n 2, 1) := by decide +kernel
theorem dX9_letsIn_44 : decode cX9_letsIn 44 = .ok (.ireturn, 1) := by decide +kernel
theorem dX9_canNext_0 : decode cX9_canNext 0 = .ok (.iload_n 2, 1) := by decide +kernel
theorem dX9_canNext_1 : decode cX9_canNext 1 = .ok (.iload_n 1, 1) := by decide +kernel
theorem dX9_canNext_2 : decode cX9_canNext 2 = .ok (.ishr, 1) := by decide +kernel
theorem dX9_canNext_3 : decode cX9_canNext 3 = .ok (.iconst 1, 1) := by decide +kernel
theorem dX9_canNext_4 : decode cX9_canNext 4 = .ok (.iand, 1) := by decide +kernel
theorem dX9_canNext_5 : decode cX9_canNext 5 = .ok (.ifCond .ne 20, 3) := by decide +kernel
theorem dX9_canNext_8 : decode cX9_canNext 8 = .ok (.aload_n 0, 1) := by decide +kernel
theorem dX9_canNext_9 : decode cX9_canNext 9 = .ok (.getfield 40, 3) := by decide +kernel
theorem dX9_canNext_12 : decode cX9_canNext 12 = .ok (.iload_n 1, 1) := by decide +kernel
theorem dX9_canNext_13 : decode cX9_canNext 13 = .ok (.iaload, 1) := by decide +kernel
theorem dX9_canNext_14 : decode cX9_canNext 14 = .ok (.iload_n 2, 1) := by decide +kernel
theorem dX9_canNext_15 : decode cX9_canNext 15 = .ok (.iconst (-1), 1) := by decide +kernel
theorem dX9_canNext_16 : decode cX9_canNext 16 = .ok (.ixor, 1) := by decide +kernel
theorem dX9_canNext_17 : decode cX9_canNext 17 = .ok (.iand, 1) := by decide +kernel
theorem dX9_canNext_18 : decode cX9_canNext 18 = .ok (.ifCond .ne 7, 3) := by decide +kernel
theorem dX9_canNext_21 : decode cX9_canNext 21 = .ok (.iconst 1, 1) := by decide +kernel
theorem dX9_canNext_22 : decode cX9_canNext 22 = .ok (.goto 4, 3) := by decide +kernel
theorem dX9_canNext_25 : decode cX9_canNext 25 = .ok (.iconst 0, 1) := by decide +kernel
theorem dX9_canNext_26 : decode cX9_canNext 26 = .ok (.ireturn, 1) := by decide +kernel
set_option maxRecDepth 20000 in
theorem ggX9_takenBy_X9_many : GoodIn wsX9_takenBy wsX9_many := goodIn_r _ [6, 1, 7, 8, 9, 10, 11, 12, 13, 14, 15, 16, 17, 18, 19, 20, 21, 22, 23, 24, 25, 26, 27, 28, 29, 30, 31, 32, 33, 34, 35, 36, 37, 38, 39, 40] (by decide +kernel) (by decide +kernel)
set_option maxRecDepth 20000 in
theorem gX9_takenBy_X9_many : GoodIn wsX9_takenBy (wsV RX9 145 RX9 yX9_many wsX9_many) := goodIn_app (goodIn_of _ (by decide +kernel)) ggX9_takenBy_X9_many
theorem dX9_takenBy_0 : decode cX9_takenBy 0 = .ok (.iconst 0, 1) := by decide +kernel
theorem dX9_takenBy_1 : decode cX9_takenBy 1 = .ok (.istore_n 2, 1) := by decide +kernel
theorem dX9_takenBy_2 : decode cX9_takenBy 2 = .ok (.iconst 0, 1) := by decide +kernel
theorem dX9_takenBy_3 : decode cX9_takenBy 3 = .ok (.istore_n 3, 1) := by decide +kernel
theorem dX9_takenBy_4 : decode cX9_takenBy 4 = .ok (.iload_n 3, 1) := by decide +kernel
theorem dX9_takenBy_5 : decode cX9_takenBy 5 = .ok (.aload_n 0, 1) := by decide +kernel
theorem dX9_takenBy_6 : decode cX9_takenBy 6 = .ok (.invokevirtual 145, 3) := by decide +kernel
theorem dX9_takenBy_9 : decode cX9_takenBy 9 = .ok (.if_icmp .ge 36, 3) := by decide +kernel
theorem dX9_takenBy_12 : decode cX9_takenBy 12 = .ok (.iload_n 2, 1) := by decide +kernel
theorem dX9_takenBy_13 : decode cX9_takenBy 13 = .ok (.iload_n 1, 1) := by decide +kernel
theorem dX9_takenBy_14 : decode cX9_takenBy 14 = .ok (.iload_n 3, 1) := by decide +kernel
theorem dX9_takenBy_15 : decode cX9_takenBy 15 = .ok (.ishr, 1) := by decide +kernel
theorem dX9_takenBy_16 : decode cX9_takenBy 16 = .ok (.iconst 1, 1) := by decide +kernel
theorem dX9_takenBy_17 : decode cX9_takenBy 17 = .ok (.iand, 1) := by decide +kernel
theorem dX9_takenBy_18 : decode cX9_takenBy 18 = .ok (.iconst 1, 1) := by decide +kernel
theorem dX9_takenBy_19 : decode cX9_takenBy 19 = .ok (.if_icmp .ne 17, 3) := by decide +kernel
theorem dX9_takenBy_22 : decode cX9_takenBy 22 = .ok (.aload_n 0, 1) := by decide +kernel
theorem dX9_takenBy_23 : decode cX9_takenBy 23 = .ok (.getfield 7, 3) := by decide +kernel
theorem dX9_takenBy_26 : decode cX9_takenBy 26 = .ok (.bipush 6, 2) := by decide +kernel
theorem dX9_takenBy_28 : decode cX9_takenBy 28 = .ok (.iload_n 3, 1) := by decide +kernel
theorem dX9_takenBy_29 : decode cX9_takenBy 29 = .ok (.imul, 1) := by decide +kernel
theorem dX9_takenBy_30 : decode cX9_takenBy 30 = .ok (.iconst 2, 1) := by decide +kernel
theorem dX9_takenBy_31 : decode cX9_takenBy 31 = .ok (.iadd, 1) := by decide +kernel
theorem dX9_takenBy_32 : decode cX9_takenBy 32 = .ok (.iaload, 1) := by decide +kernel
theorem dX9_takenBy_33 : decode cX9_takenBy 33 = .ok (.goto 4, 3) := by decide +kernel
theorem dX9_takenBy_36 : decode cX9_takenBy 36 = .ok (.iconst 0, 1) := by decide +kernel
theorem dX9_takenBy_37 : decode cX9_takenBy 37 = .ok (.iadd, 1) := by decide +kernel
theorem dX9_takenBy_38 : decode cX9_takenBy 38 = .ok (.istore_n 2, 1) := by decide +kernel
theorem dX9_takenBy_39 : decode cX9_takenBy 39 = .ok (.iinc 3 1, 3) := by decide +kernel
theorem dX9_takenBy_42 : decode cX9_takenBy 42 = .ok (.goto (-38), 3) := by decide +kernel
theorem dX9_takenBy_45 : decode cX9_takenBy 45 = .ok (.iload_n 2, 1) := by decide +kernel
theorem dX9_takenBy_46 : decode cX9_takenBy 46 = .ok (.ireturn, 1) := by decide +kernel
set_option maxRecDepth 20000 in
theorem ggX9_layOrders_X9_many : GoodIn wsX9_layOrders wsX9_many := goodIn_r _ [10, 5, 34, 35, 36, 37, 38, 39, 40, 41, 42, 43, 44, 45, 46, 47, 48, 49, 50, 51, 52, 53, 54, 55, 56, 57, 58, 59, 60, 61, 62, 63, 64, 65, 66, 67] (by decide +kernel) (by decide +kernel)
set_option maxRecDepth 20000 in
theorem gX9_layOrders_X9_many : GoodIn wsX9_layOrders (wsV RX9 145 RX9 yX9_many wsX9_many) := goodIn_app (goodIn_of _ (by decide +kernel)) ggX9_layOrders_X9_many
set_option maxRecDepth 20000 in
theorem ggX9_layOrders_X9_letsIn : GoodIn wsX9_layOrders wsX9_letsIn := goodIn_r _ [14, 6, 7, 8, 9, 10, 5, 15, 16, 17, 18, 19, 20, 21, 22, 23, 24, 25, 34, 35, 36, 37, 38, 39, 40, 41, 42, 43, 44, 45, 46, 47, 48, 49, 50, 51, 52, 53, 54, 55, 56, 57, 58, 59, 60, 61, 62, 63, 64, 65, 66, 67] (by decide +kernel) (by decide +kernel)
set_option maxRecDepth 20000 in
theorem gX9_layOrders_X9_letsIn : GoodIn wsX9_layOrders (wsV RX9 223 RX9 yX9_letsIn wsX9_letsIn) := goodIn_app (goodIn_of _ (by decide +kernel)) ggX9_layOrders_X9_letsIn
set_option maxRecDepth 20000 in
theorem ggX9_layOrders_X9_canNext : GoodIn wsX9_layOrders wsX9_canNext := goodIn_r _ [29, 1, 34, 35, 36, 37, 38, 39, 40, 41, 42, 43, 44, 45, 46, 47, 48, 49, 50, 51, 52, 53, 54, 55, 56, 57, 58, 59, 60, 61, 62, 63, 64, 65, 66, 67] (by decide +kernel) (by decide +kernel)
set_option maxRecDepth 20000 in
theorem gX9_layOrders_X9_canNext : GoodIn wsX9_layOrders (wsV RX9 227 RX9 yX9_canNext wsX9_canNext) := goodIn_app (goodIn_of _ (by decide +kernel)) ggX9_layOrders_X9_canNext
set_option maxRecDepth 20000 in
theorem ggX9_layOrders_X9_takenBy : GoodIn wsX9_layOrders wsX9_takenBy := goodIn_r _ [33, 5, 6, 7, 8, 9, 10, 34, 35, 36, 37, 38, 39, 40, 41, 42, 43, 44, 45, 46, 47, 48, 49, 50, 51, 52, 53, 54, 55, 56, 57, 58, 59, 60, 61, 62, 63, 64, 65, 66, 67] (by decide +kernel) (by decide +kernel)
set_option maxRecDepth 20000 in
theorem gX9_layOrders_X9_takenBy : GoodIn wsX9_layOrders (wsV RX9 230 RX9 yX9_takenBy wsX9_takenBy) := goodIn_app (goodIn_of _ (by decide +kernel)) ggX9_layOrders_X9_takenBy
theorem dX9_layOrders_0 : decode cX9_layOrders 0 = .ok (.iconst 1, 1) := by decide +kernel
theorem dX9_layOrders_1 : decode cX9_layOrders 1 = .ok (.aload_n 0, 1) := by decide +kernel
theorem dX9_layOrders_2 : decode cX9_layOrders 2 = .ok (.invokevirtual 145, 3) := by decide +kernel
theorem dX9_layOrders_5 : decode cX9_layOrders 5 = .ok (.ishl, 1) := by decide +kernel
theorem dX9_layOrders_6 : decode cX9_layOrders 6 = .ok (.iconst 1, 1) := by decide +kernel
theorem dX9_layOrders_7 : decode cX9_layOrders 7 = .ok (.isub, 1) := by decide +kernel
theorem dX9_layOrders_8 : decode cX9_layOrders 8 = .ok (.istore_n 1, 1) := by decide +kernel
theorem dX9_layOrders_9 : decode cX9_layOrders 9 = .ok (.iconst 0, 1) := by decide +kernel
theorem dX9_layOrders_10 : decode cX9_layOrders 10 = .ok (.istore_n 2, 1) := by decide +kernel
theorem dX9_layOrders_11 : decode cX9_layOrders 11 = .ok (.iload_n 2, 1) := by decide +kernel
theorem dX9_layOrders_12 : decode cX9_layOrders 12 = .ok (.aload_n 0, 1) := by decide +kernel
theorem dX9_layOrders_13 : decode cX9_layOrders 13 = .ok (.invokevirtual 145, 3) := by decide +kernel
theorem dX9_layOrders_16 : decode cX9_layOrders 16 = .ok (.if_icmp .ge 20, 3) := by decide +kernel
theorem dX9_layOrders_19 : decode cX9_layOrders 19 = .ok (.aload_n 0, 1) := by decide +kernel
theorem dX9_layOrders_20 : decode cX9_layOrders 20 = .ok (.getfield 40, 3) := by decide +kernel
theorem dX9_layOrders_23 : decode cX9_layOrders 23 = .ok (.iload_n 2, 1) := by decide +kernel
theorem dX9_layOrders_24 : decode cX9_layOrders 24 = .ok (.aload_n 0, 1) := by decide +kernel
theorem dX9_layOrders_25 : decode cX9_layOrders 25 = .ok (.iload_n 2, 1) := by decide +kernel
theorem dX9_layOrders_26 : decode cX9_layOrders 26 = .ok (.invokevirtual 223, 3) := by decide +kernel
theorem dX9_layOrders_29 : decode cX9_layOrders 29 = .ok (.iastore, 1) := by decide +kernel
theorem dX9_layOrders_30 : decode cX9_layOrders 30 = .ok (.iinc 2 1, 3) := by decide +kernel
theorem dX9_layOrders_33 : decode cX9_layOrders 33 = .ok (.goto (-22), 3) := by decide +kernel
theorem dX9_layOrders_36 : decode cX9_layOrders 36 = .ok (.iload_n 1, 1) := by decide +kernel
theorem dX9_layOrders_37 : decode cX9_layOrders 37 = .ok (.istore_n 2, 1) := by decide +kernel
theorem dX9_layOrders_38 : decode cX9_layOrders 38 = .ok (.iload_n 2, 1) := by decide +kernel
theorem dX9_layOrders_39 : decode cX9_layOrders 39 = .ok (.ifCond .lt 144, 3) := by decide +kernel
theorem dX9_layOrders_42 : decode cX9_layOrders 42 = .ok (.aload_n 0, 1) := by decide +kernel
theorem dX9_layOrders_43 : decode cX9_layOrders 43 = .ok (.getfield 34, 3) := by decide +kernel
theorem dX9_layOrders_46 : decode cX9_layOrders 46 = .ok (.iload_n 2, 1) := by decide +kernel
theorem dX9_layOrders_47 : decode cX9_layOrders 47 = .ok (.iload_n 2, 1) := by decide +kernel
theorem dX9_layOrders_48 : decode cX9_layOrders 48 = .ok (.iload_n 1, 1) := by decide +kernel
theorem dX9_layOrders_49 : decode cX9_layOrders 49 = .ok (.if_icmp .ne 7, 3) := by decide +kernel
theorem dX9_layOrders_52 : decode cX9_layOrders 52 = .ok (.iconst 1, 1) := by decide +kernel
theorem dX9_layOrders_53 : decode cX9_layOrders 53 = .ok (.goto 4, 3) := by decide +kernel
theorem dX9_layOrders_56 : decode cX9_layOrders 56 = .ok (.iconst 0, 1) := by decide +kernel
theorem dX9_layOrders_57 : decode cX9_layOrders 57 = .ok (.iastore, 1) := by decide +kernel
theorem dX9_layOrders_58 : decode cX9_layOrders 58 = .ok (.aload_n 0, 1) := by decide +kernel
theorem dX9_layOrders_59 : decode cX9_layOrders 59 = .ok (.getfield 37, 3) := by decide +kernel
theorem dX9_layOrders_62 : decode cX9_layOrders 62 = .ok (.iload_n 2, 1) := by decide +kernel
theorem dX9_layOrders_63 : decode cX9_layOrders 63 = .ok (.iload_n 2, 1) := by decide +kernel
theorem dX9_layOrders_64 : decode cX9_layOrders 64 = .ok (.iload_n 1, 1) := by decide +kernel
theorem dX9_layOrders_65 : decode cX9_layOrders 65 = .ok (.if_icmp .ne 7, 3) := by decide +kernel
theorem dX9_layOrders_68 : decode cX9_layOrders 68 = .ok (.iconst 0, 1) := by decide +kernel
theorem dX9_layOrders_69 : decode cX9_layOrders 69 = .ok (.goto 5, 3) := by decide +kernel
theorem dX9_layOrders_72 : decode cX9_layOrders 72 = .ok (.ldc 226, 2) := by decide +kernel
theorem dX9_layOrders_74 : decode cX9_layOrders 74 = .ok (.iastore, 1) := by decide +kernel
theorem dX9_layOrders_75 : decode cX9_layOrders 75 = .ok (.iconst 0, 1) := by decide +kernel
theorem dX9_layOrders_76 : decode cX9_layOrders 76 = .ok (.istore_n 3, 1) := by decide +kernel
theorem dX9_layOrders_77 : decode cX9_layOrders 77 = .ok (.iload_n 3, 1) := by decide +kernel
theorem dX9_layOrders_78 : decode cX9_layOrders 78 = .ok (.aload_n 0, 1) := by decide +kernel
theorem dX9_layOrders_79 : decode cX9_layOrders 79 = .ok (.invokevirtual 145, 3) := by decide +kernel
theorem dX9_layOrders_82 : decode cX9_layOrders 82 = .ok (.if_icmp .ge 95, 3) := by decide +kernel
theorem dX9_layOrders_85 : decode cX9_layOrders 85 = .ok (.aload_n 0, 1) := by decide +kernel
theorem dX9_layOrders_86 : decode cX9_layOrders 86 = .ok (.iload_n 3, 1) := by decide +kernel
theorem dX9_layOrders_87 : decode cX9_layOrders 87 = .ok (.iload_n 2, 1) := by decide +kernel
theorem dX9_layOrders_88 : decode cX9_layOrders 88 = .ok (.invokevirtual 227, 3) := by decide +kernel
theorem dX9_layOrders_91 : decode cX9_layOrders 91 = .ok (.ifCond .eq 80, 3) := by decide +kernel
theorem dX9_layOrders_94 : decode cX9_layOrders 94 = .ok (.aload_n 0, 1) := by decide +kernel
theorem dX9_layOrders_95 : decode cX9_layOrders 95 = .ok (.getfield 7, 3) := by decide +kernel
theorem dX9_layOrders_98 : decode cX9_layOrders 98 = .ok (.bipush 6, 2) := by decide +kernel
theorem dX9_layOrders_100 : decode cX9_layOrders 100 = .ok (.iload_n 3, 1) := by decide +kernel
theorem dX9_layOrders_101 : decode cX9_layOrders 101 = .ok (.imul, 1) := by decide +kernel
theorem dX9_layOrders_102 : decode cX9_layOrders 102 = .ok (.iconst 3, 1) := by decide +kernel
theorem dX9_layOrders_103 : decode cX9_layOrders 103 = .ok (.iadd, 1) := by decide +kernel
theorem dX9_layOrders_104 : decode cX9_layOrders 104 = .ok (.iaload, 1) := by decide +kernel
theorem dX9_layOrders_105 : decode cX9_layOrders 105 = .ok (.aload_n 0, 1) := by decide +kernel
theorem dX9_layOrders_106 : decode cX9_layOrders 106 = .ok (.iload_n 2, 1) := by decide +kernel
theorem dX9_layOrders_107 : decode cX9_layOrders 107 = .ok (.invokevirtual 230, 3) := by decide +kernel
theorem dX9_layOrders_110 : decode cX9_layOrders 110 = .ok (.imul, 1) := by decide +kernel
theorem dX9_layOrders_111 : decode cX9_layOrders 111 = .ok (.aload_n 0, 1) := by decide +kernel
theorem dX9_layOrders_112 : decode cX9_layOrders 112 = .ok (.getfield 37, 3) := by decide +kernel
theorem dX9_layOrders_115 : decode cX9_layOrders 115 = .ok (.iload_n 2, 1) := by decide +kernel
theorem dX9_layOrders_116 : decode cX9_layOrders 116 = .ok (.iconst 1, 1) := by decide +kernel
theorem dX9_layOrders_117 : decode cX9_layOrders 117 = .ok (.iload_n 3, 1) := by decide +kernel
theorem dX9_layOrders_118 : decode cX9_layOrders 118 = .ok (.ishl, 1) := by decide +kernel
theorem dX9_layOrders_119 : decode cX9_layOrders 119 = .ok (.ior, 1) := by decide +kernel
theorem dX9_layOrders_120 : decode cX9_layOrders 120 = .ok (.iaload, 1) := by decide +kernel
theorem dX9_layOrders_121 : decode cX9_layOrders 121 = .ok (.iadd, 1) := by decide +kernel
theorem dX9_layOrders_122 : decode cX9_layOrders 122 = .ok (.istore 4, 2) := by decide +kernel
theorem dX9_layOrders_124 : decode cX9_layOrders 124 = .ok (.aload_n 0, 1) := by decide +kernel
theorem dX9_layOrders_125 : decode cX9_layOrders 125 = .ok (.getfield 34, 3) := by decide +kernel
theorem dX9_layOrders_128 : decode cX9_layOrders 128 = .ok (.iload_n 2, 1) := by decide +kernel
theorem dX9_layOrders_129 : decode cX9_layOrders 129 = .ok (.dup2, 1) := by decide +kernel
theorem dX9_layOrders_130 : decode cX9_layOrders 130 = .ok (.iaload, 1) := by decide +kernel
theorem dX9_layOrders_131 : decode cX9_layOrders 131 = .ok (.aload_n 0, 1) := by decide +kernel
theorem dX9_layOrders_132 : decode cX9_layOrders 132 = .ok (.getfield 34, 3) := by decide +kernel
theorem dX9_layOrders_135 : decode cX9_layOrders 135 = .ok (.iload_n 2, 1) := by decide +kernel
theorem dX9_layOrders_136 : decode cX9_layOrders 136 = .ok (.iconst 1, 1) := by decide +kernel
theorem dX9_layOrders_137 : decode cX9_layOrders 137 = .ok (.iload_n 3, 1) := by decide +kernel
theorem dX9_layOrders_138 : decode cX9_layOrders 138 = .ok (.ishl, 1) := by decide +kernel
theorem dX9_layOrders_139 : decode cX9_layOrders 139 = .ok (.ior, 1) := by decide +kernel
theorem dX9_layOrders_140 : decode cX9_layOrders 140 = .ok (.iaload, 1) := by decide +kernel
theorem dX9_layOrders_141 : decode cX9_layOrders 141 = .ok (.iadd, 1) := by decide +kernel
theorem dX9_layOrders_142 : decode cX9_layOrders 142 = .ok (.iastore, 1) := by decide +kernel
theorem dX9_layOrders_143 : decode cX9_layOrders 143 = .ok (.aload_n 0, 1) := by decide +kernel
theorem dX9_layOrders_144 : decode cX9_layOrders 144 = .ok (.getfield 37, 3) := by decide +kernel
theorem dX9_layOrders_147 : decode cX9_layOrders 147 = .ok (.iload_n 2, 1) := by decide +kernel
theorem dX9_layOrders_148 : decode cX9_layOrders 148 = .ok (.iload 4, 2) := by decide +kernel
theorem dX9_layOrders_150 : decode cX9_layOrders 150 = .ok (.aload_n 0, 1) := by decide +kernel
theorem dX9_layOrders_151 : decode cX9_layOrders 151 = .ok (.getfield 37, 3) := by decide +kernel
theorem dX9_layOrders_154 : decode cX9_layOrders 154 = .ok (.iload_n 2, 1) := by decide +kernel
theorem dX9_layOrders_155 : decode cX9_layOrders 155 = .ok (.iaload, 1) := by decide +kernel
theorem dX9_layOrders_156 : decode cX9_layOrders 156 = .ok (.if_icmp .ge 8, 3) := by decide +kernel
theorem dX9_layOrders_159 : decode cX9_layOrders 159 = .ok (.iload 4, 2) := by decide +kernel
theorem dX9_layOrders_161 : decode cX9_layOrders 161 = .ok (.goto 9, 3) := by decide +kernel
theorem dX9_layOrders_164 : decode cX9_layOrders 164 = .ok (.aload_n 0, 1) := by decide +kernel
theorem dX9_layOrders_165 : decode cX9_layOrders 165 = .ok (.getfield 37, 3) := by decide +kernel
theorem dX9_layOrders_168 : decode cX9_layOrders 168 = .ok (.iload_n 2, 1) := by decide +kernel
theorem dX9_layOrders_169 : decode cX9_layOrders 169 = .ok (.iaload, 1) := by decide +kernel
theorem dX9_layOrders_170 : decode cX9_layOrders 170 = .ok (.iastore, 1) := by decide +kernel
theorem dX9_layOrders_171 : decode cX9_layOrders 171 = .ok (.iinc 3 1, 3) := by decide +kernel
theorem dX9_layOrders_174 : decode cX9_layOrders 174 = .ok (.goto (-97), 3) := by decide +kernel
theorem dX9_layOrders_177 : decode cX9_layOrders 177 = .ok (.iinc 2 (-1), 3) := by decide +kernel
theorem dX9_layOrders_180 : decode cX9_layOrders 180 = .ok (.goto (-142), 3) := by decide +kernel
theorem dX9_layOrders_183 : decode cX9_layOrders 183 = .ok (.return_, 1) := by decide +kernel
set_option maxRecDepth 20000 in
theorem ggX9_inOrder_X9_canNext : GoodIn wsX9_inOrder wsX9_canNext := goodIn_r _ [8, 9, 18, 19, 20, 21, 22, 23, 24, 25, 26, 27, 28, 29, 30, 31, 32, 33, 34, 35, 36, 37, 38, 39, 40, 41, 42, 43, 44, 45, 46, 47, 48, 49, 50, 51] (by decide +kernel) (by decide +kernel)
set_option maxRecDepth 20000 in
theorem gX9_inOrder_X9_canNext : GoodIn wsX9_inOrder (wsV RX9 227 RX9 yX9_canNext wsX9_canNext) := goodIn_app (goodIn_of _ (by decide +kernel)) ggX9_inOrder_X9_canNext
set_option maxRecDepth 20000 in
theorem ggX9_inOrder_X9_takenBy : GoodIn wsX9_inOrder wsX9_takenBy := goodIn_r _ [13, 2, 14, 15, 16, 7, 17, 18, 19, 20, 21, 22, 23, 24, 25, 26, 27, 28, 29, 30, 31, 32, 33, 34, 35, 36, 37, 38, 39, 40, 41, 42, 43, 44, 45, 46, 47, 48, 49, 50, 51] (by decide +kernel) (by decide +kernel)
set_option maxRecDepth 20000 in
theorem gX9_inOrder_X9_takenBy : GoodIn wsX9_inOrder (wsV RX9 230 RX9 yX9_takenBy wsX9_takenBy) := goodIn_app (goodIn_of _ (by decide +kernel)) ggX9_inOrder_X9_takenBy
theorem dX9_inOrder_0 : decode cX9_inOrder 0 = .ok (.iconst 0, 1) := by decide +kernel
theorem dX9_inOrder_1 : decode cX9_inOrder 1 = .ok (.istore_n 3, 1) := by decide +kernel
theorem dX9_inOrder_2 : decode cX9_inOrder 2 = .ok (.iconst 0, 1) := by decide +kernel
theorem dX9_inOrder_3 : decode cX9_inOrder 3 = .ok (.istore 4, 2) := by decide +kernel
theorem dX9_inOrder_5 : decode cX9_inOrder 5 = .ok (.iconst 0, 1) := by decide +kernel
theorem dX9_inOrder_6 : decode cX9_inOrder 6 = .ok (.istore 5, 2) := by decide +kernel
theorem dX9_inOrder_8 : decode cX9_inOrder 8 = .ok (.iload 5, 2) := by decide +kernel
theorem dX9_inOrder_10 : decode cX9_inOrder 10 = .ok (.iload_n 1, 1) := by decide +kernel
theorem dX9_inOrder_11 : decode cX9_inOrder 11 = .ok (.if_icmp .gt 92, 3) := by decide +kernel
theorem dX9_inOrder_14 : decode cX9_inOrder 14 = .ok (.iconst 0, 1) := by decide +kernel
theorem dX9_inOrder_15 : decode cX9_inOrder 15 = .ok (.istore 4, 2) := by decide +kernel
theorem dX9_inOrder_17 : decode cX9_inOrder 17 = .ok (.aload_n 0, 1) := by decide +kernel
theorem dX9_inOrder_18 : decode cX9_inOrder 18 = .ok (.iload 4, 2) := by decide +kernel
theorem dX9_inOrder_20 : decode cX9_inOrder 20 = .ok (.iload_n 3, 1) := by decide +kernel
theorem dX9_inOrder_21 : decode cX9_inOrder 21 = .ok (.invokevirtual 227, 3) := by decide +kernel
theorem dX9_inOrder_24 : decode cX9_inOrder 24 = .ok (.ifCond .eq 60, 3) := by decide +kernel
theorem dX9_inOrder_27 : decode cX9_inOrder 27 = .ok (.aload_n 0, 1) := by decide +kernel
theorem dX9_inOrder_28 : decode cX9_inOrder 28 = .ok (.getfield 34, 3) := by decide +kernel
theorem dX9_inOrder_31 : decode cX9_inOrder 31 = .ok (.iload_n 3, 1) := by decide +kernel
theorem dX9_inOrder_32 : decode cX9_inOrder 32 = .ok (.iconst 1, 1) := by decide +kernel
theorem dX9_inOrder_33 : decode cX9_inOrder 33 = .ok (.iload 4, 2) := by decide +kernel
theorem dX9_inOrder_35 : decode cX9_inOrder 35 = .ok (.ishl, 1) := by decide +kernel
theorem dX9_inOrder_36 : decode cX9_inOrder 36 = .ok (.ior, 1) := by decide +kernel
theorem dX9_inOrder_37 : decode cX9_inOrder 37 = .ok (.iaload, 1) := by decide +kernel
theorem dX9_inOrder_38 : decode cX9_inOrder 38 = .ok (.ifCond .eq 46, 3) := by decide +kernel
theorem dX9_inOrder_41 : decode cX9_inOrder 41 = .ok (.iload_n 2, 1) := by decide +kernel
theorem dX9_inOrder_42 : decode cX9_inOrder 42 = .ok (.ifCond .eq 48, 3) := by decide +kernel
theorem dX9_inOrder_45 : decode cX9_inOrder 45 = .ok (.aload_n 0, 1) := by decide +kernel
theorem dX9_inOrder_46 : decode cX9_inOrder 46 = .ok (.getfield 7, 3) := by decide +kernel
theorem dX9_inOrder_49 : decode cX9_inOrder 49 = .ok (.bipush 6, 2) := by decide +kernel
theorem dX9_inOrder_51 : decode cX9_inOrder 51 = .ok (.iload 4, 2) := by decide +kernel
theorem dX9_inOrder_53 : decode cX9_inOrder 53 = .ok (.imul, 1) := by decide +kernel
theorem dX9_inOrder_54 : decode cX9_inOrder 54 = .ok (.iconst 3, 1) := by decide +kernel
theorem dX9_inOrder_55 : decode cX9_inOrder 55 = .ok (.iadd, 1) := by decide +kernel
theorem dX9_inOrder_56 : decode cX9_inOrder 56 = .ok (.iaload, 1) := by decide +kernel
theorem dX9_inOrder_57 : decode cX9_inOrder 57 = .ok (.aload_n 0, 1) := by decide +kernel
theorem dX9_inOrder_58 : decode cX9_inOrder 58 = .ok (.iload_n 3, 1) := by decide +kernel
theorem dX9_inOrder_59 : decode cX9_inOrder 59 = .ok (.invokevirtual 230, 3) := by decide +kernel
theorem dX9_inOrder_62 : decode cX9_inOrder 62 = .ok (.imul, 1) := by decide +kernel
theorem dX9_inOrder_63 : decode cX9_inOrder 63 = .ok (.aload_n 0, 1) := by decide +kernel
theorem dX9_inOrder_64 : decode cX9_inOrder 64 = .ok (.getfield 37, 3) := by decide +kernel
theorem dX9_inOrder_67 : decode cX9_inOrder 67 = .ok (.iload_n 3, 1) := by decide +kernel
theorem dX9_inOrder_68 : decode cX9_inOrder 68 = .ok (.iconst 1, 1) := by decide +kernel
theorem dX9_inOrder_69 : decode cX9_inOrder 69 = .ok (.iload 4, 2) := by decide +kernel
theorem dX9_inOrder_71 : decode cX9_inOrder 71 = .ok (.ishl, 1) := by decide +kernel
theorem dX9_inOrder_72 : decode cX9_inOrder 72 = .ok (.ior, 1) := by decide +kernel
theorem dX9_inOrder_73 : decode cX9_inOrder 73 = .ok (.iaload, 1) := by decide +kernel
theorem dX9_inOrder_74 : decode cX9_inOrder 74 = .ok (.iadd, 1) := by decide +kernel
theorem dX9_inOrder_75 : decode cX9_inOrder 75 = .ok (.aload_n 0, 1) := by decide +kernel
theorem dX9_inOrder_76 : decode cX9_inOrder 76 = .ok (.getfield 37, 3) := by decide +kernel
theorem dX9_inOrder_79 : decode cX9_inOrder 79 = .ok (.iload_n 3, 1) := by decide +kernel
theorem dX9_inOrder_80 : decode cX9_inOrder 80 = .ok (.iaload, 1) := by decide +kernel
theorem dX9_inOrder_81 : decode cX9_inOrder 81 = .ok (.if_icmp .eq 9, 3) := by decide +kernel
theorem dX9_inOrder_84 : decode cX9_inOrder 84 = .ok (.iinc 4 1, 3) := by decide +kernel
theorem dX9_inOrder_87 : decode cX9_inOrder 87 = .ok (.goto (-70), 3) := by decide +kernel
theorem dX9_inOrder_90 : decode cX9_inOrder 90 = .ok (.iload_n 3, 1) := by decide +kernel
theorem dX9_inOrder_91 : decode cX9_inOrder 91 = .ok (.iconst 1, 1) := by decide +kernel
theorem dX9_inOrder_92 : decode cX9_inOrder 92 = .ok (.iload 4, 2) := by decide +kernel
theorem dX9_inOrder_94 : decode cX9_inOrder 94 = .ok (.ishl, 1) := by decide +kernel
theorem dX9_inOrder_95 : decode cX9_inOrder 95 = .ok (.ior, 1) := by decide +kernel
theorem dX9_inOrder_96 : decode cX9_inOrder 96 = .ok (.istore_n 3, 1) := by decide +kernel
theorem dX9_inOrder_97 : decode cX9_inOrder 97 = .ok (.iinc 5 1, 3) := by decide +kernel
theorem dX9_inOrder_100 : decode cX9_inOrder 100 = .ok (.goto (-92), 3) := by decide +kernel
theorem dX9_inOrder_103 : decode cX9_inOrder 103 = .ok (.iload 4, 2) := by decide +kernel
theorem dX9_inOrder_105 : decode cX9_inOrder 105 = .ok (.ireturn, 1) := by decide +kernel
set_option maxRecDepth 20000 in
theorem ggX9_order_X9_many : GoodIn wsX9_order wsX9_many := goodIn_r _ [7, 8, 46, 47, 48, 49, 50, 51, 52, 53, 54, 55, 56, 57, 58, 59, 60, 61, 62, 63, 64, 65, 66, 67, 68, 69, 70, 71, 72, 73, 74, 75, 76, 77, 78, 79] (by decide +kernel) (by decide +kernel)
set_option maxRecDepth 20000 in
theorem gX9_order_X9_many : GoodIn wsX9_order (wsV RX9 145 RX9 yX9_many wsX9_many) := goodIn_app (goodIn_of _ (by decide +kernel)) ggX9_order_X9_many
set_option maxRecDepth 20000 in
theorem ggX9_order_X9_in : GoodIn wsX9_order wsX9_in := goodIn_r _ [11] (by decide +kernel) (by decide +kernel)
set_option maxRecDepth 20000 in
theorem gX9_order_X9_in : GoodIn wsX9_order (va_wsS RX9 63 yX9_in wsX9_in) := goodIn_app (goodIn_of _ (by decide +kernel)) ggX9_order_X9_in
set_option maxRecDepth 20000 in
theorem ggX9_order_X9_layOrders : GoodIn wsX9_order wsX9_layOrders := goodIn_r _ [15, 16, 2, 17, 18, 8, 3, 4, 5, 6, 7, 19, 20, 21, 22, 23, 24, 25, 26, 27, 28, 29, 30, 31, 32, 33, 34, 35, 36, 37, 38, 39, 40, 41, 46, 47, 48, 49, 50, 51, 52, 53, 54, 55, 56, 57, 58, 59, 60, 61, 62, 63, 64, 65, 66, 67, 68, 69, 70, 71, 72, 73, 74, 75, 76, 77, 78, 79] (by decide +kernel) (by decide +kernel)
set_option maxRecDepth 20000 in
theorem gX9_order_X9_layOrders : GoodIn wsX9_order (wsV RX9 235 RX9 yX9_layOrders wsX9_layOrders) := goodIn_app (goodIn_of _ (by decide +kernel)) ggX9_order_X9_layOrders
set_option maxRecDepth 20000 in
theorem ggX9_order_X9_inOrder : GoodIn wsX9_order wsX9_inOrder := goodIn_r _ [45, 2, 8, 17, 34, 35, 36, 6, 37, 16, 38, 39, 40, 41, 3, 4, 5, 7, 46, 47, 48, 49, 50, 51, 52, 53, 54, 55, 56, 57, 58, 59, 60, 61, 62, 63, 64, 65, 66, 67, 68, 69, 70, 71, 72, 73, 74, 75, 76, 77, 78, 79] (by decide +kernel) (by decide +kernel)
set_option maxRecDepth 20000 in
theorem gX9_order_X9_inOrder : GoodIn wsX9_order (wsV RX9 238 RX9 yX9_inOrder wsX9_inOrder) := goodIn_app (goodIn_of _ (by decide +kernel)) ggX9_order_X9_inOrder
theorem dX9_order_0 : decode cX9_order 0 = .ok (.iload_n 1, 1) := by decide +kernel
theorem dX9_order_1 : decode cX9_order 1 = .ok (.ifCond .eq 24, 3) := by decide +kernel
theorem dX9_order_4 : decode cX9_order 4 = .ok (.iload_n 1, 1) := by decide +kernel
theorem dX9_order_5 : decode cX9_order 5 = .ok (.i2l, 1) := by decide +kernel
theorem dX9_order_6 : decode cX9_order 6 = .ok (.ldc2_w 233, 3) := by decide +kernel
theorem dX9_order_9 : decode cX9_order 9 = .ok (.bipush 9, 2) := by decide +kernel
theorem dX9_order_11 : decode cX9_order 11 = .ok (.aload_n 0, 1) := by decide +kernel
theorem dX9_order_12 : decode cX9_order 12 = .ok (.invokevirtual 145, 3) := by decide +kernel
theorem dX9_order_15 : decode cX9_order 15 = .ok (.iadd, 1) := by decide +kernel
theorem dX9_order_16 : decode cX9_order 16 = .ok (.i2l, 1) := by decide +kernel
theorem dX9_order_17 : decode cX9_order 17 = .ok (.invokestatic 63, 3) := by decide +kernel
theorem dX9_order_20 : decode cX9_order 20 = .ok (.ifCond .ne 5, 3) := by decide +kernel
theorem dX9_order_23 : decode cX9_order 23 = .ok (.iconst (-1), 1) := by decide +kernel
theorem dX9_order_24 : decode cX9_order 24 = .ok (.ireturn, 1) := by decide +kernel
theorem dX9_order_25 : decode cX9_order 25 = .ok (.aload_n 0, 1) := by decide +kernel
theorem dX9_order_26 : decode cX9_order 26 = .ok (.invokevirtual 235, 3) := by decide +kernel
theorem dX9_order_29 : decode cX9_order 29 = .ok (.iload_n 1, 1) := by decide +kernel
theorem dX9_order_30 : decode cX9_order 30 = .ok (.ifCond .ne 12, 3) := by decide +kernel
theorem dX9_order_33 : decode cX9_order 33 = .ok (.aload_n 0, 1) := by decide +kernel
theorem dX9_order_34 : decode cX9_order 34 = .ok (.getfield 34, 3) := by decide +kernel
theorem dX9_order_37 : decode cX9_order 37 = .ok (.iconst 0, 1) := by decide +kernel
theorem dX9_order_38 : decode cX9_order 38 = .ok (.iaload, 1) := by decide +kernel
theorem dX9_order_39 : decode cX9_order 39 = .ok (.goto 26, 3) := by decide +kernel
theorem dX9_order_42 : decode cX9_order 42 = .ok (.aload_n 0, 1) := by decide +kernel
theorem dX9_order_43 : decode cX9_order 43 = .ok (.getfield 34, 3) := by decide +kernel
theorem dX9_order_46 : decode cX9_order 46 = .ok (.iconst 0, 1) := by decide +kernel
theorem dX9_order_47 : decode cX9_order 47 = .ok (.iaload, 1) := by decide +kernel
theorem dX9_order_48 : decode cX9_order 48 = .ok (.ifCond .ne 8, 3) := by decide +kernel
theorem dX9_order_51 : decode cX9_order 51 = .ok (.bipush (-4), 2) := by decide +kernel
theorem dX9_order_53 : decode cX9_order 53 = .ok (.goto 12, 3) := by decide +kernel
theorem dX9_order_56 : decode cX9_order 56 = .ok (.aload_n 0, 1) := by decide +kernel
theorem dX9_order_57 : decode cX9_order 57 = .ok (.iload_n 1, 1) := by decide +kernel
theorem dX9_order_58 : decode cX9_order 58 = .ok (.bipush 10, 2) := by decide +kernel
theorem dX9_order_60 : decode cX9_order 60 = .ok (.isub, 1) := by decide +kernel
theorem dX9_order_61 : decode cX9_order 61 = .ok (.iconst 0, 1) := by decide +kernel
theorem dX9_order_62 : decode cX9_order 62 = .ok (.invokevirtual 238, 3) := by decide +kernel
theorem dX9_order_65 : decode cX9_order 65 = .ok (.ireturn, 1) := by decide +kernel
set_option maxRecDepth 20000 in
theorem ggX9_rings_X9_many : GoodIn wsX9_rings wsX9_many := goodIn_r _ [5, 6, 22, 23, 24, 25, 26, 27, 28, 29, 30, 31, 32, 33, 34, 35, 36, 37, 38, 39, 40, 41, 42, 43, 44, 45, 46, 47, 48, 49, 50, 51, 52, 53, 54, 55] (by decide +kernel) (by decide +kernel)
set_option maxRecDepth 20000 in
theorem gX9_rings_X9_many : GoodIn wsX9_rings (wsV RX9 145 RX9 yX9_many wsX9_many) := goodIn_app (goodIn_of _ (by decide +kernel)) ggX9_rings_X9_many
set_option maxRecDepth 20000 in
theorem ggX9_rings_X9_letsIn : GoodIn wsX9_rings wsX9_letsIn := goodIn_r _ [10, 1, 2, 3, 4, 5, 6, 11, 12, 13, 14, 15, 16, 17, 18, 19, 20, 21, 22, 23, 24, 25, 26, 27, 28, 29, 30, 31, 32, 33, 34, 35, 36, 37, 38, 39, 40, 41, 42, 43, 44, 45, 46, 47, 48, 49, 50, 51, 52, 53, 54, 55] (by decide +kernel) (by decide +kernel)
set_option maxRecDepth 20000 in
theorem gX9_rings_X9_letsIn : GoodIn wsX9_rings (wsV RX9 223 RX9 yX9_letsIn wsX9_letsIn) := goodIn_app (goodIn_of _ (by decide +kernel)) ggX9_rings_X9_letsIn
theorem dX9_rings_0 : decode cX9_rings 0 = .ok (.iconst 0, 1) := by decide +kernel
theorem dX9_rings_1 : decode cX9_rings 1 = .ok (.istore_n 1, 1) := by decide +kernel
theorem dX9_rings_2 : decode cX9_rings 2 = .ok (.iconst 0, 1) := by decide +kernel
theorem dX9_rings_3 : decode cX9_rings 3 = .ok (.istore_n 2, 1) := by decide +kernel
theorem dX9_rings_4 : decode cX9_rings 4 = .ok (.iload_n 2, 1) := by decide +kernel
theorem dX9_rings_5 : decode cX9_rings 5 = .ok (.aload_n 0, 1) := by decide +kernel
theorem dX9_rings_6 : decode cX9_rings 6 = .ok (.invokevirtual 145, 3) := by decide +kernel
theorem dX9_rings_9 : decode cX9_rings 9 = .ok (.if_icmp .ge 68, 3) := by decide +kernel
theorem dX9_rings_12 : decode cX9_rings 12 = .ok (.aload_n 0, 1) := by decide +kernel
theorem dX9_rings_13 : decode cX9_rings 13 = .ok (.iload_n 2, 1) := by decide +kernel
theorem dX9_rings_14 : decode cX9_rings 14 = .ok (.invokevirtual 223, 3) := by decide +kernel
theorem dX9_rings_17 : decode cX9_rings 17 = .ok (.istore_n 3, 1) := by decide +kernel
theorem dX9_rings_18 : decode cX9_rings 18 = .ok (.iconst 0, 1) := by decide +kernel
theorem dX9_rings_19 : decode cX9_rings 19 = .ok (.istore 4, 2) := by decide +kernel
theorem dX9_rings_21 : decode cX9_rings 21 = .ok (.iload 4, 2) := by decide +kernel
theorem dX9_rings_23 : decode cX9_rings 23 = .ok (.bipush 49, 2) := by decide +kernel
theorem dX9_rings_25 : decode cX9_rings 25 = .ok (.if_icmp .ge 38, 3) := by decide +kernel
theorem dX9_rings_28 : decode cX9_rings 28 = .ok (.iload_n 3, 1) := by decide +kernel
theorem dX9_rings_29 : decode cX9_rings 29 = .ok (.iload_n 3, 1) := by decide +kernel
theorem dX9_rings_30 : decode cX9_rings 30 = .ok (.iload 4, 2) := by decide +kernel
theorem dX9_rings_32 : decode cX9_rings 32 = .ok (.bipush 7, 2) := by decide +kernel
theorem dX9_rings_34 : decode cX9_rings 34 = .ok (.irem, 1) := by decide +kernel
theorem dX9_rings_35 : decode cX9_rings 35 = .ok (.ishr, 1) := by decide +kernel
theorem dX9_rings_36 : decode cX9_rings 36 = .ok (.iconst 1, 1) := by decide +kernel
theorem dX9_rings_37 : decode cX9_rings 37 = .ok (.iand, 1) := by decide +kernel
theorem dX9_rings_38 : decode cX9_rings 38 = .ok (.iconst 1, 1) := by decide +kernel
theorem dX9_rings_39 : decode cX9_rings 39 = .ok (.if_icmp .ne 15, 3) := by decide +kernel
theorem dX9_rings_42 : decode cX9_rings 42 = .ok (.aload_n 0, 1) := by decide +kernel
theorem dX9_rings_43 : decode cX9_rings 43 = .ok (.iload 4, 2) := by decide +kernel
theorem dX9_rings_45 : decode cX9_rings 45 = .ok (.bipush 7, 2) := by decide +kernel
theorem dX9_rings_47 : decode cX9_rings 47 = .ok (.irem, 1) := by decide +kernel
theorem dX9_rings_48 : decode cX9_rings 48 = .ok (.invokevirtual 223, 3) := by decide +kernel
theorem dX9_rings_51 : decode cX9_rings 51 = .ok (.goto 4, 3) := by decide +kernel
theorem dX9_rings_54 : decode cX9_rings 54 = .ok (.iconst 0, 1) := by decide +kernel
theorem dX9_rings_55 : decode cX9_rings 55 = .ok (.ior, 1) := by decide +kernel
theorem dX9_rings_56 : decode cX9_rings 56 = .ok (.istore_n 3, 1) := by decide +kernel
theorem dX9_rings_57 : decode cX9_rings 57 = .ok (.iinc 4 1, 3) := by decide +kernel
theorem dX9_rings_60 : decode cX9_rings 60 = .ok (.goto (-39), 3) := by decide +kernel
theorem dX9_rings_63 : decode cX9_rings 63 = .ok (.iload_n 1, 1) := by decide +kernel
theorem dX9_rings_64 : decode cX9_rings 64 = .ok (.iload_n 3, 1) := by decide +kernel
theorem dX9_rings_65 : decode cX9_rings 65 = .ok (.iconst 1, 1) := by decide +kernel
theorem dX9_rings_66 : decode cX9_rings 66 = .ok (.iload_n 2, 1) := by decide +kernel
theorem dX9_rings_67 : decode cX9_rings 67 = .ok (.ishl, 1) := by decide +kernel
theorem dX9_rings_68 : decode cX9_rings 68 = .ok (.iand, 1) := by decide +kernel
theorem dX9_rings_69 : decode cX9_rings 69 = .ok (.ior, 1) := by decide +kernel
theorem dX9_rings_70 : decode cX9_rings 70 = .ok (.istore_n 1, 1) := by decide +kernel
theorem dX9_rings_71 : decode cX9_rings 71 = .ok (.iinc 2 1, 3) := by decide +kernel
theorem dX9_rings_74 : decode cX9_rings 74 = .ok (.goto (-70), 3) := by decide +kernel
theorem dX9_rings_77 : decode cX9_rings 77 = .ok (.iload_n 1, 1) := by decide +kernel
theorem dX9_rings_78 : decode cX9_rings 78 = .ok (.ireturn, 1) := by decide +kernel
set_option maxRecDepth 20000 in
theorem ggX9_shop_X9_many : GoodIn wsX9_shop wsX9_many := goodIn_r _ [8, 9, 46, 47, 48, 49, 50, 51, 52, 53, 54, 55, 56, 57, 58, 59, 60, 61, 62, 63, 64, 65, 66, 67, 68, 69, 70, 71, 72, 73, 74, 75, 76, 77, 78, 79] (by decide +kernel) (by decide +kernel)
set_option maxRecDepth 20000 in
theorem gX9_shop_X9_many : GoodIn wsX9_shop (wsV RX9 145 RX9 yX9_many wsX9_many) := goodIn_app (goodIn_of _ (by decide +kernel)) ggX9_shop_X9_many
set_option maxRecDepth 20000 in
theorem ggX9_shop_X9_in : GoodIn wsX9_shop wsX9_in := goodIn_r _ [12] (by decide +kernel) (by decide +kernel)
set_option maxRecDepth 20000 in
theorem gX9_shop_X9_in : GoodIn wsX9_shop (va_wsS RX9 63 yX9_in wsX9_in) := goodIn_app (goodIn_of _ (by decide +kernel)) ggX9_shop_X9_in
set_option maxRecDepth 20000 in
theorem ggX9_shop_X9_layOrders : GoodIn wsX9_shop wsX9_layOrders := goodIn_r _ [16, 17, 2, 3, 18, 9, 4, 5, 6, 7, 8, 19, 20, 21, 22, 23, 24, 25, 26, 27, 28, 29, 30, 31, 32, 33, 34, 35, 36, 37, 38, 39, 40, 41, 46, 47, 48, 49, 50, 51, 52, 53, 54, 55, 56, 57, 58, 59, 60, 61, 62, 63, 64, 65, 66, 67, 68, 69, 70, 71, 72, 73, 74, 75, 76, 77, 78, 79] (by decide +kernel) (by decide +kernel)
set_option maxRecDepth 20000 in
theorem gX9_shop_X9_layOrders : GoodIn wsX9_shop (wsV RX9 235 RX9 yX9_layOrders wsX9_layOrders) := goodIn_app (goodIn_of _ (by decide +kernel)) ggX9_shop_X9_layOrders
set_option maxRecDepth 20000 in
theorem ggX9_shop_X9_inOrder : GoodIn wsX9_shop wsX9_inOrder := goodIn_r _ [45, 2, 9, 3, 34, 35, 36, 7, 37, 17, 38, 39, 40, 41, 4, 5, 6, 8, 46, 47, 48, 49, 50, 51, 52, 53, 54, 55, 56, 57, 58, 59, 60, 61, 62, 63, 64, 65, 66, 67, 68, 69, 70, 71, 72, 73, 74, 75, 76, 77, 78, 79] (by decide +kernel) (by decide +kernel)
set_option maxRecDepth 20000 in
theorem gX9_shop_X9_inOrder : GoodIn wsX9_shop (wsV RX9 238 RX9 yX9_inOrder wsX9_inOrder) := goodIn_app (goodIn_of _ (by decide +kernel)) ggX9_shop_X9_inOrder
theorem dX9_shop_0 : decode cX9_shop 0 = .ok (.iload_n 1, 1) := by decide +kernel
theorem dX9_shop_1 : decode cX9_shop 1 = .ok (.ifCond .eq 24, 3) := by decide +kernel
theorem dX9_shop_4 : decode cX9_shop 4 = .ok (.iload_n 1, 1) := by decide +kernel
theorem dX9_shop_5 : decode cX9_shop 5 = .ok (.i2l, 1) := by decide +kernel
theorem dX9_shop_6 : decode cX9_shop 6 = .ok (.ldc2_w 233, 3) := by decide +kernel
theorem dX9_shop_9 : decode cX9_shop 9 = .ok (.bipush 9, 2) := by decide +kernel
theorem dX9_shop_11 : decode cX9_shop 11 = .ok (.aload_n 0, 1) := by decide +kernel
theorem dX9_shop_12 : decode cX9_shop 12 = .ok (.invokevirtual 145, 3) := by decide +kernel
theorem dX9_shop_15 : decode cX9_shop 15 = .ok (.iadd, 1) := by decide +kernel
theorem dX9_shop_16 : decode cX9_shop 16 = .ok (.i2l, 1) := by decide +kernel
theorem dX9_shop_17 : decode cX9_shop 17 = .ok (.invokestatic 63, 3) := by decide +kernel
theorem dX9_shop_20 : decode cX9_shop 20 = .ok (.ifCond .ne 5, 3) := by decide +kernel
theorem dX9_shop_23 : decode cX9_shop 23 = .ok (.iconst (-1), 1) := by decide +kernel
theorem dX9_shop_24 : decode cX9_shop 24 = .ok (.ireturn, 1) := by decide +kernel
theorem dX9_shop_25 : decode cX9_shop 25 = .ok (.aload_n 0, 1) := by decide +kernel
theorem dX9_shop_26 : decode cX9_shop 26 = .ok (.invokevirtual 235, 3) := by decide +kernel
theorem dX9_shop_29 : decode cX9_shop 29 = .ok (.aload_n 0, 1) := by decide +kernel
theorem dX9_shop_30 : decode cX9_shop 30 = .ok (.getfield 34, 3) := by decide +kernel
theorem dX9_shop_33 : decode cX9_shop 33 = .ok (.iconst 0, 1) := by decide +kernel
theorem dX9_shop_34 : decode cX9_shop 34 = .ok (.iaload, 1) := by decide +kernel
theorem dX9_shop_35 : decode cX9_shop 35 = .ok (.ifCond .ne 8, 3) := by decide +kernel
theorem dX9_shop_38 : decode cX9_shop 38 = .ok (.bipush (-4), 2) := by decide +kernel
theorem dX9_shop_40 : decode cX9_shop 40 = .ok (.goto 25, 3) := by decide +kernel
theorem dX9_shop_43 : decode cX9_shop 43 = .ok (.iload_n 1, 1) := by decide +kernel
theorem dX9_shop_44 : decode cX9_shop 44 = .ok (.ifCond .ne 12, 3) := by decide +kernel
theorem dX9_shop_47 : decode cX9_shop 47 = .ok (.aload_n 0, 1) := by decide +kernel
theorem dX9_shop_48 : decode cX9_shop 48 = .ok (.getfield 37, 3) := by decide +kernel
theorem dX9_shop_51 : decode cX9_shop 51 = .ok (.iconst 0, 1) := by decide +kernel
theorem dX9_shop_52 : decode cX9_shop 52 = .ok (.iaload, 1) := by decide +kernel
theorem dX9_shop_53 : decode cX9_shop 53 = .ok (.goto 12, 3) := by decide +kernel
theorem dX9_shop_56 : decode cX9_shop 56 = .ok (.aload_n 0, 1) := by decide +kernel
theorem dX9_shop_57 : decode cX9_shop 57 = .ok (.iload_n 1, 1) := by decide +kernel
theorem dX9_shop_58 : decode cX9_shop 58 = .ok (.bipush 10, 2) := by decide +kernel
theorem dX9_shop_60 : decode cX9_shop 60 = .ok (.isub, 1) := by decide +kernel
theorem dX9_shop_61 : decode cX9_shop 61 = .ok (.iconst 1, 1) := by decide +kernel
theorem dX9_shop_62 : decode cX9_shop 62 = .ok (.invokevirtual 238, 3) := by decide +kernel
theorem dX9_shop_65 : decode cX9_shop 65 = .ok (.ireturn, 1) := by decide +kernel
set_option maxRecDepth 20000 in
theorem ggX9_clear_X9_isOne : GoodIn wsX9_clear wsX9_isOne := goodIn_r _ [8, 9, 10, 11, 7, 12, 2, 13, 14, 15, 55, 56, 57, 58, 59, 60, 61, 62, 63, 64, 65, 66, 67, 68, 69, 70, 71, 72, 73, 74, 75, 76, 77, 78, 79, 80, 81, 82, 83, 84, 85, 86, 87, 88] (by decide +kernel) (by decide +kernel)
set_option maxRecDepth 20000 in
theorem gX9_clear_X9_isOne : GoodIn wsX9_clear (wsV RX9 148 RX9 yX9_isOne wsX9_isOne) := goodIn_app (goodIn_of _ (by decide +kernel)) ggX9_clear_X9_isOne
set_option maxRecDepth 20000 in
theorem ggX9_clear_X9_in : GoodIn wsX9_clear wsX9_in := goodIn_r _ [15] (by decide +kernel) (by decide +kernel)
set_option maxRecDepth 20000 in
theorem gX9_clear_X9_in : GoodIn wsX9_clear (va_wsS RX9 63 yX9_in wsX9_in) := goodIn_app (goodIn_of _ (by decide +kernel)) ggX9_clear_X9_in
set_option maxRecDepth 20000 in
theorem ggX9_clear_X9_many : GoodIn wsX9_clear wsX9_many := goodIn_r _ [12, 2, 55, 56, 57, 58, 59, 60, 61, 62, 63, 64, 65, 66, 67, 68, 69, 70, 71, 72, 73, 74, 75, 76, 77, 78, 79, 80, 81, 82, 83, 84, 85, 86, 87, 88] (by decide +kernel) (by decide +kernel)
set_option maxRecDepth 20000 in
theorem gX9_clear_X9_many : GoodIn wsX9_clear (wsV RX9 145 RX9 yX9_many wsX9_many) := goodIn_app (goodIn_of _ (by decide +kernel)) ggX9_clear_X9_many
set_option maxRecDepth 20000 in
theorem ggX9_clear_X9_debtAt : GoodIn wsX9_clear wsX9_debtAt := goodIn_r _ [18] (by decide +kernel) (by decide +kernel)
set_option maxRecDepth 20000 in
theorem gX9_clear_X9_debtAt : GoodIn wsX9_clear (va_wsS RX9 158 yX9_debtAt wsX9_debtAt) := goodIn_app (goodIn_of _ (by decide +kernel)) ggX9_clear_X9_debtAt
set_option maxRecDepth 20000 in
theorem ggX9_clear_X9_copies : GoodIn wsX9_clear wsX9_copies := goodIn_r _ [22, 2, 55, 56, 57, 58, 59, 60, 61, 62, 63, 64, 65, 66, 67, 68, 69, 70, 71, 72, 73, 74, 75, 76, 77, 78, 79, 80, 81, 82, 83, 84, 85, 86, 87, 88] (by decide +kernel) (by decide +kernel)
set_option maxRecDepth 20000 in
theorem gX9_clear_X9_copies : GoodIn wsX9_clear (wsV RX9 200 RX9 yX9_copies wsX9_copies) := goodIn_app (goodIn_of _ (by decide +kernel)) ggX9_clear_X9_copies
set_option maxRecDepth 20000 in
theorem ggX9_clear_X9_paysAll : GoodIn wsX9_clear wsX9_paysAll := goodIn_r _ [26, 2, 16, 17, 7, 18, 27, 28, 29, 30, 55, 56, 57, 58, 59, 60, 61, 62, 63, 64, 65, 66, 67, 68, 69, 70, 71, 72, 73, 74, 75, 76, 77, 78, 79, 80, 81, 82, 83, 84, 85, 86, 87, 88] (by decide +kernel) (by decide +kernel)
set_option maxRecDepth 20000 in
theorem gX9_clear_X9_paysAll : GoodIn wsX9_clear (wsV RX9 182 RX9 yX9_paysAll wsX9_paysAll) := goodIn_app (goodIn_of _ (by decide +kernel)) ggX9_clear_X9_paysAll
set_option maxRecDepth 20000 in
theorem ggX9_clear_X9_runsTo : GoodIn wsX9_clear wsX9_runsTo := goodIn_r _ [34, 35, 36, 37, 3, 2, 38, 39, 40, 7, 41, 42, 43, 44, 45, 46, 47, 48, 49, 50, 16, 17, 18, 23, 24, 25, 26, 27, 28, 29, 30, 51, 52, 53, 54, 55, 56, 57, 58, 59, 60, 61, 62, 63, 64, 65, 66, 67, 68, 69, 70, 71, 72, 73, 74, 75, 76, 77, 78, 79, 80, 81, 82, 83, 84, 85, 86, 87, 88] (by decide +kernel) (by decide +kernel)
set_option maxRecDepth 20000 in
theorem gX9_clear_X9_runsTo : GoodIn wsX9_clear (wsV RX9 204 RX9 yX9_runsTo wsX9_runsTo) := goodIn_app (goodIn_of _ (by decide +kernel)) ggX9_clear_X9_runsTo
theorem dX9_clear_0 : decode cX9_clear 0 = .ok (.aload_n 0, 1) := by decide +kernel
theorem dX9_clear_1 : decode cX9_clear 1 = .ok (.iload_n 1, 1) := by decide +kernel
theorem dX9_clear_2 : decode cX9_clear 2 = .ok (.invokevirtual 148, 3) := by decide +kernel
theorem dX9_clear_5 : decode cX9_clear 5 = .ok (.ifCond .eq 25, 3) := by decide +kernel
theorem dX9_clear_8 : decode cX9_clear 8 = .ok (.iload_n 2, 1) := by decide +kernel
theorem dX9_clear_9 : decode cX9_clear 9 = .ok (.i2l, 1) := by decide +kernel
theorem dX9_clear_10 : decode cX9_clear 10 = .ok (.lconst 0, 1) := by decide +kernel
theorem dX9_clear_11 : decode cX9_clear 11 = .ok (.ldc2_w 213, 3) := by decide +kernel
theorem dX9_clear_14 : decode cX9_clear 14 = .ok (.invokestatic 63, 3) := by decide +kernel
theorem dX9_clear_17 : decode cX9_clear 17 = .ok (.ifCond .eq 13, 3) := by decide +kernel
theorem dX9_clear_20 : decode cX9_clear 20 = .ok (.iload_n 3, 1) := by decide +kernel
theorem dX9_clear_21 : decode cX9_clear 21 = .ok (.i2l, 1) := by decide +kernel
theorem dX9_clear_22 : decode cX9_clear 22 = .ok (.lconst 0, 1) := by decide +kernel
theorem dX9_clear_23 : decode cX9_clear 23 = .ok (.lconst 1, 1) := by decide +kernel
theorem dX9_clear_24 : decode cX9_clear 24 = .ok (.invokestatic 63, 3) := by decide +kernel
theorem dX9_clear_27 : decode cX9_clear 27 = .ok (.ifCond .ne 5, 3) := by decide +kernel
theorem dX9_clear_30 : decode cX9_clear 30 = .ok (.iconst (-1), 1) := by decide +kernel
theorem dX9_clear_31 : decode cX9_clear 31 = .ok (.ireturn, 1) := by decide +kernel
theorem dX9_clear_32 : decode cX9_clear 32 = .ok (.iconst 0, 1) := by decide +kernel
theorem dX9_clear_33 : decode cX9_clear 33 = .ok (.istore 4, 2) := by decide +kernel
theorem dX9_clear_35 : decode cX9_clear 35 = .ok (.iconst 0, 1) := by decide +kernel
