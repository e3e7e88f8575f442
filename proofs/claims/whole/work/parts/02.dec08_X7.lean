theorem dX7_init_0 : decode cX7_init 0 = .ok (.aload_n 0, 1) := by decide +kernel
theorem dX7_init_1 : decode cX7_init 1 = .ok (.invokespecial 3, 3) := by decide +kernel
theorem dX7_init_4 : decode cX7_init 4 = .ok (.aload_n 0, 1) := by decide +kernel
theorem dX7_init_5 : decode cX7_init 5 = .ok (.iconst 1, 1) := by decide +kernel
theorem dX7_init_6 : decode cX7_init 6 = .ok (.putfield 9, 3) := by decide +kernel
theorem dX7_init_9 : decode cX7_init 9 = .ok (.aload_n 0, 1) := by decide +kernel
theorem dX7_init_10 : decode cX7_init 10 = .ok (.bipush 7, 2) := by decide +kernel
theorem dX7_init_12 : decode cX7_init 12 = .ok (.newarray .int, 2) := by decide +kernel
theorem dX7_init_14 : decode cX7_init 14 = .ok (.putfield 15, 3) := by decide +kernel
theorem dX7_init_17 : decode cX7_init 17 = .ok (.aload_n 0, 1) := by decide +kernel
theorem dX7_init_18 : decode cX7_init 18 = .ok (.bipush 7, 2) := by decide +kernel
theorem dX7_init_20 : decode cX7_init 20 = .ok (.newarray .int, 2) := by decide +kernel
theorem dX7_init_22 : decode cX7_init 22 = .ok (.putfield 19, 3) := by decide +kernel
theorem dX7_init_25 : decode cX7_init 25 = .ok (.aload_n 0, 1) := by decide +kernel
theorem dX7_init_26 : decode cX7_init 26 = .ok (.bipush 7, 2) := by decide +kernel
theorem dX7_init_28 : decode cX7_init 28 = .ok (.newarray .int, 2) := by decide +kernel
theorem dX7_init_30 : decode cX7_init 30 = .ok (.putfield 22, 3) := by decide +kernel
theorem dX7_init_33 : decode cX7_init 33 = .ok (.aload_n 0, 1) := by decide +kernel
theorem dX7_init_34 : decode cX7_init 34 = .ok (.bipush 7, 2) := by decide +kernel
theorem dX7_init_36 : decode cX7_init 36 = .ok (.newarray .int, 2) := by decide +kernel
theorem dX7_init_38 : decode cX7_init 38 = .ok (.putfield 25, 3) := by decide +kernel
theorem dX7_init_41 : decode cX7_init 41 = .ok (.aload_n 0, 1) := by decide +kernel
theorem dX7_init_42 : decode cX7_init 42 = .ok (.bipush 7, 2) := by decide +kernel
theorem dX7_init_44 : decode cX7_init 44 = .ok (.newarray .int, 2) := by decide +kernel
theorem dX7_init_46 : decode cX7_init 46 = .ok (.putfield 28, 3) := by decide +kernel
theorem dX7_init_49 : decode cX7_init 49 = .ok (.aload_n 0, 1) := by decide +kernel
theorem dX7_init_50 : decode cX7_init 50 = .ok (.bipush 7, 2) := by decide +kernel
theorem dX7_init_52 : decode cX7_init 52 = .ok (.newarray .int, 2) := by decide +kernel
theorem dX7_init_54 : decode cX7_init 54 = .ok (.putfield 31, 3) := by decide +kernel
theorem dX7_init_57 : decode cX7_init 57 = .ok (.aload_n 0, 1) := by decide +kernel
theorem dX7_init_58 : decode cX7_init 58 = .ok (.bipush 49, 2) := by decide +kernel
theorem dX7_init_60 : decode cX7_init 60 = .ok (.newarray .int, 2) := by decide +kernel
theorem dX7_init_62 : decode cX7_init 62 = .ok (.putfield 34, 3) := by decide +kernel
theorem dX7_init_65 : decode cX7_init 65 = .ok (.return_, 1) := by decide +kernel
theorem dX7_becomeEmpty_0 : decode cX7_becomeEmpty 0 = .ok (.aload_n 0, 1) := by decide +kernel
theorem dX7_becomeEmpty_1 : decode cX7_becomeEmpty 1 = .ok (.iconst 0, 1) := by decide +kernel
theorem dX7_becomeEmpty_2 : decode cX7_becomeEmpty 2 = .ok (.putfield 37, 3) := by decide +kernel
theorem dX7_becomeEmpty_5 : decode cX7_becomeEmpty 5 = .ok (.aload_n 0, 1) := by decide +kernel
theorem dX7_becomeEmpty_6 : decode cX7_becomeEmpty 6 = .ok (.iconst 0, 1) := by decide +kernel
theorem dX7_becomeEmpty_7 : decode cX7_becomeEmpty 7 = .ok (.putfield 40, 3) := by decide +kernel
theorem dX7_becomeEmpty_10 : decode cX7_becomeEmpty 10 = .ok (.aload_n 0, 1) := by decide +kernel
theorem dX7_becomeEmpty_11 : decode cX7_becomeEmpty 11 = .ok (.iconst 1, 1) := by decide +kernel
theorem dX7_becomeEmpty_12 : decode cX7_becomeEmpty 12 = .ok (.putfield 9, 3) := by decide +kernel
theorem dX7_becomeEmpty_15 : decode cX7_becomeEmpty 15 = .ok (.iconst 0, 1) := by decide +kernel
theorem dX7_becomeEmpty_16 : decode cX7_becomeEmpty 16 = .ok (.istore_n 1, 1) := by decide +kernel
theorem dX7_becomeEmpty_17 : decode cX7_becomeEmpty 17 = .ok (.iload_n 1, 1) := by decide +kernel
theorem dX7_becomeEmpty_18 : decode cX7_becomeEmpty 18 = .ok (.bipush 49, 2) := by decide +kernel
theorem dX7_becomeEmpty_20 : decode cX7_becomeEmpty 20 = .ok (.if_icmp .ge 16, 3) := by decide +kernel
theorem dX7_becomeEmpty_23 : decode cX7_becomeEmpty 23 = .ok (.aload_n 0, 1) := by decide +kernel
theorem dX7_becomeEmpty_24 : decode cX7_becomeEmpty 24 = .ok (.getfield 34, 3) := by decide +kernel
theorem dX7_becomeEmpty_27 : decode cX7_becomeEmpty 27 = .ok (.iload_n 1, 1) := by decide +kernel
theorem dX7_becomeEmpty_28 : decode cX7_becomeEmpty 28 = .ok (.iconst 0, 1) := by decide +kernel
theorem dX7_becomeEmpty_29 : decode cX7_becomeEmpty 29 = .ok (.iastore, 1) := by decide +kernel
theorem dX7_becomeEmpty_30 : decode cX7_becomeEmpty 30 = .ok (.iinc 1 1, 3) := by decide +kernel
theorem dX7_becomeEmpty_33 : decode cX7_becomeEmpty 33 = .ok (.goto (-16), 3) := by decide +kernel
theorem dX7_becomeEmpty_36 : decode cX7_becomeEmpty 36 = .ok (.return_, 1) := by decide +kernel
theorem dX7_copyOf_0 : decode cX7_copyOf 0 = .ok (.aload_n 0, 1) := by decide +kernel
theorem dX7_copyOf_1 : decode cX7_copyOf 1 = .ok (.aload_n 1, 1) := by decide +kernel
theorem dX7_copyOf_2 : decode cX7_copyOf 2 = .ok (.getfield 37, 3) := by decide +kernel
theorem dX7_copyOf_5 : decode cX7_copyOf 5 = .ok (.putfield 37, 3) := by decide +kernel
theorem dX7_copyOf_8 : decode cX7_copyOf 8 = .ok (.aload_n 0, 1) := by decide +kernel
theorem dX7_copyOf_9 : decode cX7_copyOf 9 = .ok (.aload_n 1, 1) := by decide +kernel
theorem dX7_copyOf_10 : decode cX7_copyOf 10 = .ok (.getfield 40, 3) := by decide +kernel
theorem dX7_copyOf_13 : decode cX7_copyOf 13 = .ok (.putfield 40, 3) := by decide +kernel
theorem dX7_copyOf_16 : decode cX7_copyOf 16 = .ok (.aload_n 0, 1) := by decide +kernel
theorem dX7_copyOf_17 : decode cX7_copyOf 17 = .ok (.aload_n 1, 1) := by decide +kernel
theorem dX7_copyOf_18 : decode cX7_copyOf 18 = .ok (.getfield 9, 3) := by decide +kernel
theorem dX7_copyOf_21 : decode cX7_copyOf 21 = .ok (.putfield 9, 3) := by decide +kernel
theorem dX7_copyOf_24 : decode cX7_copyOf 24 = .ok (.aload_n 1, 1) := by decide +kernel
theorem dX7_copyOf_25 : decode cX7_copyOf 25 = .ok (.getfield 15, 3) := by decide +kernel
theorem dX7_copyOf_28 : decode cX7_copyOf 28 = .ok (.iconst 0, 1) := by decide +kernel
theorem dX7_copyOf_29 : decode cX7_copyOf 29 = .ok (.aload_n 0, 1) := by decide +kernel
theorem dX7_copyOf_30 : decode cX7_copyOf 30 = .ok (.getfield 15, 3) := by decide +kernel
theorem dX7_copyOf_33 : decode cX7_copyOf 33 = .ok (.iconst 0, 1) := by decide +kernel
theorem dX7_copyOf_34 : decode cX7_copyOf 34 = .ok (.bipush 7, 2) := by decide +kernel
theorem dX7_copyOf_36 : decode cX7_copyOf 36 = .ok (.invokestatic 43, 3) := by decide +kernel
theorem dX7_copyOf_39 : decode cX7_copyOf 39 = .ok (.aload_n 1, 1) := by decide +kernel
theorem dX7_copyOf_40 : decode cX7_copyOf 40 = .ok (.getfield 19, 3) := by decide +kernel
theorem dX7_copyOf_43 : decode cX7_copyOf 43 = .ok (.iconst 0, 1) := by decide +kernel
theorem dX7_copyOf_44 : decode cX7_copyOf 44 = .ok (.aload_n 0, 1) := by decide +kernel
theorem dX7_copyOf_45 : decode cX7_copyOf 45 = .ok (.getfield 19, 3) := by decide +kernel
theorem dX7_copyOf_48 : decode cX7_copyOf 48 = .ok (.iconst 0, 1) := by decide +kernel
theorem dX7_copyOf_49 : decode cX7_copyOf 49 = .ok (.bipush 7, 2) := by decide +kernel
theorem dX7_copyOf_51 : decode cX7_copyOf 51 = .ok (.invokestatic 43, 3) := by decide +kernel
theorem dX7_copyOf_54 : decode cX7_copyOf 54 = .ok (.aload_n 1, 1) := by decide +kernel
theorem dX7_copyOf_55 : decode cX7_copyOf 55 = .ok (.getfield 22, 3) := by decide +kernel
theorem dX7_copyOf_58 : decode cX7_copyOf 58 = .ok (.iconst 0, 1) := by decide +kernel
theorem dX7_copyOf_59 : decode cX7_copyOf 59 = .ok (.aload_n 0, 1) := by decide +kernel
theorem dX7_copyOf_60 : decode cX7_copyOf 60 = .ok (.getfield 22, 3) := by decide +kernel
theorem dX7_copyOf_63 : decode cX7_copyOf 63 = .ok (.iconst 0, 1) := by decide +kernel
theorem dX7_copyOf_64 : decode cX7_copyOf 64 = .ok (.bipush 7, 2) := by decide +kernel
theorem dX7_copyOf_66 : decode cX7_copyOf 66 = .ok (.invokestatic 43, 3) := by decide +kernel
theorem dX7_copyOf_69 : decode cX7_copyOf 69 = .ok (.aload_n 1, 1) := by decide +kernel
theorem dX7_copyOf_70 : decode cX7_copyOf 70 = .ok (.getfield 25, 3) := by decide +kernel
theorem dX7_copyOf_73 : decode cX7_copyOf 73 = .ok (.iconst 0, 1) := by decide +kernel
theorem dX7_copyOf_74 : decode cX7_copyOf 74 = .ok (.aload_n 0, 1) := by decide +kernel
theorem dX7_copyOf_75 : decode cX7_copyOf 75 = .ok (.getfield 25, 3) := by decide +kernel
theorem dX7_copyOf_78 : decode cX7_copyOf 78 = .ok (.iconst 0, 1) := by decide +kernel
theorem dX7_copyOf_79 : decode cX7_copyOf 79 = .ok (.bipush 7, 2) := by decide +kernel
theorem dX7_copyOf_81 : decode cX7_copyOf 81 = .ok (.invokestatic 43, 3) := by decide +kernel
theorem dX7_copyOf_84 : decode cX7_copyOf 84 = .ok (.aload_n 1, 1) := by decide +kernel
theorem dX7_copyOf_85 : decode cX7_copyOf 85 = .ok (.getfield 28, 3) := by decide +kernel
theorem dX7_copyOf_88 : decode cX7_copyOf 88 = .ok (.iconst 0, 1) := by decide +kernel
theorem dX7_copyOf_89 : decode cX7_copyOf 89 = .ok (.aload_n 0, 1) := by decide +kernel
theorem dX7_copyOf_90 : decode cX7_copyOf 90 = .ok (.getfield 28, 3) := by decide +kernel
theorem dX7_copyOf_93 : decode cX7_copyOf 93 = .ok (.iconst 0, 1) := by decide +kernel
theorem dX7_copyOf_94 : decode cX7_copyOf 94 = .ok (.bipush 7, 2) := by decide +kernel
theorem dX7_copyOf_96 : decode cX7_copyOf 96 = .ok (.invokestatic 43, 3) := by decide +kernel
theorem dX7_copyOf_99 : decode cX7_copyOf 99 = .ok (.aload_n 1, 1) := by decide +kernel
theorem dX7_copyOf_100 : decode cX7_copyOf 100 = .ok (.getfield 31, 3) := by decide +kernel
theorem dX7_copyOf_103 : decode cX7_copyOf 103 = .ok (.iconst 0, 1) := by decide +kernel
theorem dX7_copyOf_104 : decode cX7_copyOf 104 = .ok (.aload_n 0, 1) := by decide +kernel
theorem dX7_copyOf_105 : decode cX7_copyOf 105 = .ok (.getfield 31, 3) := by decide +kernel
theorem dX7_copyOf_108 : decode cX7_copyOf 108 = .ok (.iconst 0, 1) := by decide +kernel
theorem dX7_copyOf_109 : decode cX7_copyOf 109 = .ok (.bipush 7, 2) := by decide +kernel
theorem dX7_copyOf_111 : decode cX7_copyOf 111 = .ok (.invokestatic 43, 3) := by decide +kernel
theorem dX7_copyOf_114 : decode cX7_copyOf 114 = .ok (.aload_n 1, 1) := by decide +kernel
theorem dX7_copyOf_115 : decode cX7_copyOf 115 = .ok (.getfield 34, 3) := by decide +kernel
theorem dX7_copyOf_118 : decode cX7_copyOf 118 = .ok (.iconst 0, 1) := by decide +kernel
theorem dX7_copyOf_119 : decode cX7_copyOf 119 = .ok (.aload_n 0, 1) := by decide +kernel
theorem dX7_copyOf_120 : decode cX7_copyOf 120 = .ok (.getfield 34, 3) := by decide +kernel
theorem dX7_copyOf_123 : decode cX7_copyOf 123 = .ok (.iconst 0, 1) := by decide +kernel
theorem dX7_copyOf_124 : decode cX7_copyOf 124 = .ok (.bipush 49, 2) := by decide +kernel
theorem dX7_copyOf_126 : decode cX7_copyOf 126 = .ok (.invokestatic 43, 3) := by decide +kernel
theorem dX7_copyOf_129 : decode cX7_copyOf 129 = .ok (.return_, 1) := by decide +kernel
theorem dX7_isOne_0 : decode cX7_isOne 0 = .ok (.iload_n 1, 1) := by decide +kernel
theorem dX7_isOne_1 : decode cX7_isOne 1 = .ok (.ifCond .lt 15, 3) := by decide +kernel
theorem dX7_isOne_4 : decode cX7_isOne 4 = .ok (.iload_n 1, 1) := by decide +kernel
theorem dX7_isOne_5 : decode cX7_isOne 5 = .ok (.aload_n 0, 1) := by decide +kernel
theorem dX7_isOne_6 : decode cX7_isOne 6 = .ok (.getfield 37, 3) := by decide +kernel
theorem dX7_isOne_9 : decode cX7_isOne 9 = .ok (.if_icmp .ge 7, 3) := by decide +kernel
theorem dX7_isOne_12 : decode cX7_isOne 12 = .ok (.iconst 1, 1) := by decide +kernel
theorem dX7_isOne_13 : decode cX7_isOne 13 = .ok (.goto 4, 3) := by decide +kernel
theorem dX7_isOne_16 : decode cX7_isOne 16 = .ok (.iconst 0, 1) := by decide +kernel
theorem dX7_isOne_17 : decode cX7_isOne 17 = .ok (.ireturn, 1) := by decide +kernel
set_option maxRecDepth 20000 in
theorem ggX7_areTwo_X7_isOne : GoodIn wsX7_areTwo wsX7_isOne := goodIn_r _ [5, 6, 7, 8, 9, 10, 11, 12, 13, 14, 15, 16] (by decide +kernel) (by decide +kernel)
set_option maxRecDepth 20000 in
theorem gX7_areTwo_X7_isOne : GoodIn wsX7_areTwo (wsV RX7 49 RX7 yX7_isOne wsX7_isOne) := goodIn_app (goodIn_of _ (by decide +kernel)) ggX7_areTwo_X7_isOne
theorem dX7_areTwo_0 : decode cX7_areTwo 0 = .ok (.aload_n 0, 1) := by decide +kernel
theorem dX7_areTwo_1 : decode cX7_areTwo 1 = .ok (.iload_n 1, 1) := by decide +kernel
theorem dX7_areTwo_2 : decode cX7_areTwo 2 = .ok (.invokevirtual 49, 3) := by decide +kernel
theorem dX7_areTwo_5 : decode cX7_areTwo 5 = .ok (.ifCond .eq 20, 3) := by decide +kernel
theorem dX7_areTwo_8 : decode cX7_areTwo 8 = .ok (.aload_n 0, 1) := by decide +kernel
theorem dX7_areTwo_9 : decode cX7_areTwo 9 = .ok (.iload_n 2, 1) := by decide +kernel
theorem dX7_areTwo_10 : decode cX7_areTwo 10 = .ok (.invokevirtual 49, 3) := by decide +kernel
theorem dX7_areTwo_13 : decode cX7_areTwo 13 = .ok (.ifCond .eq 12, 3) := by decide +kernel
theorem dX7_areTwo_16 : decode cX7_areTwo 16 = .ok (.iload_n 1, 1) := by decide +kernel
theorem dX7_areTwo_17 : decode cX7_areTwo 17 = .ok (.iload_n 2, 1) := by decide +kernel
theorem dX7_areTwo_18 : decode cX7_areTwo 18 = .ok (.if_icmp .eq 7, 3) := by decide +kernel
theorem dX7_areTwo_21 : decode cX7_areTwo 21 = .ok (.iconst 1, 1) := by decide +kernel
theorem dX7_areTwo_22 : decode cX7_areTwo 22 = .ok (.goto 4, 3) := by decide +kernel
theorem dX7_areTwo_25 : decode cX7_areTwo 25 = .ok (.iconst 0, 1) := by decide +kernel
theorem dX7_areTwo_26 : decode cX7_areTwo 26 = .ok (.ireturn, 1) := by decide +kernel
set_option maxRecDepth 20000 in
theorem ggX7_canBeDebt_X7_areTwo : GoodIn wsX7_canBeDebt wsX7_areTwo := goodIn_r _ [5, 6, 7, 8, 4, 9, 10, 11, 12, 13, 14, 15, 16, 17, 18, 19, 20] (by decide +kernel) (by decide +kernel)
set_option maxRecDepth 20000 in
theorem gX7_canBeDebt_X7_areTwo : GoodIn wsX7_canBeDebt (wsV RX7 53 RX7 yX7_areTwo wsX7_areTwo) := goodIn_app (goodIn_of _ (by decide +kernel)) ggX7_canBeDebt_X7_areTwo
theorem dX7_canBeDebt_0 : decode cX7_canBeDebt 0 = .ok (.aload_n 0, 1) := by decide +kernel
theorem dX7_canBeDebt_1 : decode cX7_canBeDebt 1 = .ok (.iload_n 1, 1) := by decide +kernel
theorem dX7_canBeDebt_2 : decode cX7_canBeDebt 2 = .ok (.iload_n 2, 1) := by decide +kernel
theorem dX7_canBeDebt_3 : decode cX7_canBeDebt 3 = .ok (.invokevirtual 53, 3) := by decide +kernel
theorem dX7_canBeDebt_6 : decode cX7_canBeDebt 6 = .ok (.ifCond .eq 17, 3) := by decide +kernel
theorem dX7_canBeDebt_9 : decode cX7_canBeDebt 9 = .ok (.iload_n 3, 1) := by decide +kernel
theorem dX7_canBeDebt_10 : decode cX7_canBeDebt 10 = .ok (.ifCond .lt 13, 3) := by decide +kernel
theorem dX7_canBeDebt_13 : decode cX7_canBeDebt 13 = .ok (.iload_n 3, 1) := by decide +kernel
theorem dX7_canBeDebt_14 : decode cX7_canBeDebt 14 = .ok (.bipush 99, 2) := by decide +kernel
theorem dX7_canBeDebt_16 : decode cX7_canBeDebt 16 = .ok (.if_icmp .gt 7, 3) := by decide +kernel
theorem dX7_canBeDebt_19 : decode cX7_canBeDebt 19 = .ok (.iconst 1, 1) := by decide +kernel
theorem dX7_canBeDebt_20 : decode cX7_canBeDebt 20 = .ok (.goto 4, 3) := by decide +kernel
theorem dX7_canBeDebt_23 : decode cX7_canBeDebt 23 = .ok (.iconst 0, 1) := by decide +kernel
theorem dX7_canBeDebt_24 : decode cX7_canBeDebt 24 = .ok (.ireturn, 1) := by decide +kernel
theorem dX7_owed_0 : decode cX7_owed 0 = .ok (.aload_n 0, 1) := by decide +kernel
theorem dX7_owed_1 : decode cX7_owed 1 = .ok (.getfield 34, 3) := by decide +kernel
theorem dX7_owed_4 : decode cX7_owed 4 = .ok (.iload_n 1, 1) := by decide +kernel
theorem dX7_owed_5 : decode cX7_owed 5 = .ok (.bipush 7, 2) := by decide +kernel
theorem dX7_owed_7 : decode cX7_owed 7 = .ok (.imul, 1) := by decide +kernel
theorem dX7_owed_8 : decode cX7_owed 8 = .ok (.iload_n 2, 1) := by decide +kernel
theorem dX7_owed_9 : decode cX7_owed 9 = .ok (.iadd, 1) := by decide +kernel
theorem dX7_owed_10 : decode cX7_owed 10 = .ok (.iaload, 1) := by decide +kernel
theorem dX7_owed_11 : decode cX7_owed 11 = .ok (.ireturn, 1) := by decide +kernel
theorem dX7_setDebt_0 : decode cX7_setDebt 0 = .ok (.aload_n 0, 1) := by decide +kernel
theorem dX7_setDebt_1 : decode cX7_setDebt 1 = .ok (.getfield 34, 3) := by decide +kernel
theorem dX7_setDebt_4 : decode cX7_setDebt 4 = .ok (.iload_n 1, 1) := by decide +kernel
theorem dX7_setDebt_5 : decode cX7_setDebt 5 = .ok (.bipush 7, 2) := by decide +kernel
theorem dX7_setDebt_7 : decode cX7_setDebt 7 = .ok (.imul, 1) := by decide +kernel
theorem dX7_setDebt_8 : decode cX7_setDebt 8 = .ok (.iload_n 2, 1) := by decide +kernel
theorem dX7_setDebt_9 : decode cX7_setDebt 9 = .ok (.iadd, 1) := by decide +kernel
theorem dX7_setDebt_10 : decode cX7_setDebt 10 = .ok (.iload_n 3, 1) := by decide +kernel
theorem dX7_setDebt_11 : decode cX7_setDebt 11 = .ok (.iastore, 1) := by decide +kernel
theorem dX7_setDebt_12 : decode cX7_setDebt 12 = .ok (.return_, 1) := by decide +kernel
theorem dX7_dueOf_0 : decode cX7_dueOf 0 = .ok (.aload_n 0, 1) := by decide +kernel
theorem dX7_dueOf_1 : decode cX7_dueOf 1 = .ok (.getfield 34, 3) := by decide +kernel
theorem dX7_dueOf_4 : decode cX7_dueOf 4 = .ok (.iload_n 1, 1) := by decide +kernel
theorem dX7_dueOf_5 : decode cX7_dueOf 5 = .ok (.bipush 7, 2) := by decide +kernel
theorem dX7_dueOf_7 : decode cX7_dueOf 7 = .ok (.imul, 1) := by decide +kernel
theorem dX7_dueOf_8 : decode cX7_dueOf 8 = .ok (.iload_n 2, 1) := by decide +kernel
theorem dX7_dueOf_9 : decode cX7_dueOf 9 = .ok (.iadd, 1) := by decide +kernel
theorem dX7_dueOf_10 : decode cX7_dueOf 10 = .ok (.iaload, 1) := by decide +kernel
theorem dX7_dueOf_11 : decode cX7_dueOf 11 = .ok (.istore_n 3, 1) := by decide +kernel
theorem dX7_dueOf_12 : decode cX7_dueOf 12 = .ok (.aload_n 0, 1) := by decide +kernel
theorem dX7_dueOf_13 : decode cX7_dueOf 13 = .ok (.getfield 15, 3) := by decide +kernel
theorem dX7_dueOf_16 : decode cX7_dueOf 16 = .ok (.iload_n 1, 1) := by decide +kernel
theorem dX7_dueOf_17 : decode cX7_dueOf 17 = .ok (.iaload, 1) := by decide +kernel
theorem dX7_dueOf_18 : decode cX7_dueOf 18 = .ok (.iconst 4, 1) := by decide +kernel
theorem dX7_dueOf_19 : decode cX7_dueOf 19 = .ok (.if_icmp .ne 24, 3) := by decide +kernel
theorem dX7_dueOf_22 : decode cX7_dueOf 22 = .ok (.iload_n 3, 1) := by decide +kernel
theorem dX7_dueOf_23 : decode cX7_dueOf 23 = .ok (.aload_n 0, 1) := by decide +kernel
theorem dX7_dueOf_24 : decode cX7_dueOf 24 = .ok (.getfield 34, 3) := by decide +kernel
theorem dX7_dueOf_27 : decode cX7_dueOf 27 = .ok (.aload_n 0, 1) := by decide +kernel
theorem dX7_dueOf_28 : decode cX7_dueOf 28 = .ok (.getfield 19, 3) := by decide +kernel
theorem dX7_dueOf_31 : decode cX7_dueOf 31 = .ok (.iload_n 1, 1) := by decide +kernel
theorem dX7_dueOf_32 : decode cX7_dueOf 32 = .ok (.iaload, 1) := by decide +kernel
theorem dX7_dueOf_33 : decode cX7_dueOf 33 = .ok (.bipush 7, 2) := by decide +kernel
theorem dX7_dueOf_35 : decode cX7_dueOf 35 = .ok (.imul, 1) := by decide +kernel
theorem dX7_dueOf_36 : decode cX7_dueOf 36 = .ok (.iload_n 2, 1) := by decide +kernel
theorem dX7_dueOf_37 : decode cX7_dueOf 37 = .ok (.iadd, 1) := by decide +kernel
theorem dX7_dueOf_38 : decode cX7_dueOf 38 = .ok (.iaload, 1) := by decide +kernel
theorem dX7_dueOf_39 : decode cX7_dueOf 39 = .ok (.iadd, 1) := by decide +kernel
theorem dX7_dueOf_40 : decode cX7_dueOf 40 = .ok (.goto 4, 3) := by decide +kernel
theorem dX7_dueOf_43 : decode cX7_dueOf 43 = .ok (.iload_n 3, 1) := by decide +kernel
theorem dX7_dueOf_44 : decode cX7_dueOf 44 = .ok (.ireturn, 1) := by decide +kernel
set_option maxRecDepth 20000 in
theorem ggX7_mustLet_X7_dueOf : GoodIn wsX7_mustLet wsX7_dueOf := goodIn_r _ [7, 8, 1, 9, 10, 11, 12, 13, 14, 15, 16, 17, 18, 19] (by decide +kernel) (by decide +kernel)
set_option maxRecDepth 20000 in
theorem gX7_mustLet_X7_dueOf : GoodIn wsX7_mustLet (wsV RX7 57 RX7 yX7_dueOf wsX7_dueOf) := goodIn_app (goodIn_of _ (by decide +kernel)) ggX7_mustLet_X7_dueOf
theorem dX7_mustLet_0 : decode cX7_mustLet 0 = .ok (.aload_n 0, 1) := by decide +kernel
theorem dX7_mustLet_1 : decode cX7_mustLet 1 = .ok (.getfield 15, 3) := by decide +kernel
theorem dX7_mustLet_4 : decode cX7_mustLet 4 = .ok (.iload_n 2, 1) := by decide +kernel
theorem dX7_mustLet_5 : decode cX7_mustLet 5 = .ok (.iaload, 1) := by decide +kernel
theorem dX7_mustLet_6 : decode cX7_mustLet 6 = .ok (.iconst 3, 1) := by decide +kernel
theorem dX7_mustLet_7 : decode cX7_mustLet 7 = .ok (.if_icmp .ne 5, 3) := by decide +kernel
theorem dX7_mustLet_10 : decode cX7_mustLet 10 = .ok (.iconst 1, 1) := by decide +kernel
theorem dX7_mustLet_11 : decode cX7_mustLet 11 = .ok (.ireturn, 1) := by decide +kernel
theorem dX7_mustLet_12 : decode cX7_mustLet 12 = .ok (.aload_n 0, 1) := by decide +kernel
theorem dX7_mustLet_13 : decode cX7_mustLet 13 = .ok (.getfield 15, 3) := by decide +kernel
theorem dX7_mustLet_16 : decode cX7_mustLet 16 = .ok (.iload_n 2, 1) := by decide +kernel
theorem dX7_mustLet_17 : decode cX7_mustLet 17 = .ok (.iaload, 1) := by decide +kernel
theorem dX7_mustLet_18 : decode cX7_mustLet 18 = .ok (.iconst 2, 1) := by decide +kernel
theorem dX7_mustLet_19 : decode cX7_mustLet 19 = .ok (.if_icmp .ne 5, 3) := by decide +kernel
theorem dX7_mustLet_22 : decode cX7_mustLet 22 = .ok (.iconst 0, 1) := by decide +kernel
theorem dX7_mustLet_23 : decode cX7_mustLet 23 = .ok (.ireturn, 1) := by decide +kernel
theorem dX7_mustLet_24 : decode cX7_mustLet 24 = .ok (.aload_n 0, 1) := by decide +kernel
theorem dX7_mustLet_25 : decode cX7_mustLet 25 = .ok (.iload_n 1, 1) := by decide +kernel
theorem dX7_mustLet_26 : decode cX7_mustLet 26 = .ok (.iload_n 2, 1) := by decide +kernel
theorem dX7_mustLet_27 : decode cX7_mustLet 27 = .ok (.invokevirtual 57, 3) := by decide +kernel
theorem dX7_mustLet_30 : decode cX7_mustLet 30 = .ok (.istore_n 3, 1) := by decide +kernel
theorem dX7_mustLet_31 : decode cX7_mustLet 31 = .ok (.aload_n 0, 1) := by decide +kernel
theorem dX7_mustLet_32 : decode cX7_mustLet 32 = .ok (.getfield 40, 3) := by decide +kernel
theorem dX7_mustLet_35 : decode cX7_mustLet 35 = .ok (.ifCond .ne 15, 3) := by decide +kernel
theorem dX7_mustLet_38 : decode cX7_mustLet 38 = .ok (.iload_n 3, 1) := by decide +kernel
theorem dX7_mustLet_39 : decode cX7_mustLet 39 = .ok (.ifCond .le 7, 3) := by decide +kernel
theorem dX7_mustLet_42 : decode cX7_mustLet 42 = .ok (.iconst 1, 1) := by decide +kernel
theorem dX7_mustLet_43 : decode cX7_mustLet 43 = .ok (.goto 22, 3) := by decide +kernel
theorem dX7_mustLet_46 : decode cX7_mustLet 46 = .ok (.iconst 0, 1) := by decide +kernel
theorem dX7_mustLet_47 : decode cX7_mustLet 47 = .ok (.goto 18, 3) := by decide +kernel
theorem dX7_mustLet_50 : decode cX7_mustLet 50 = .ok (.iload_n 3, 1) := by decide +kernel
theorem dX7_mustLet_51 : decode cX7_mustLet 51 = .ok (.aload_n 0, 1) := by decide +kernel
theorem dX7_mustLet_52 : decode cX7_mustLet 52 = .ok (.iload_n 2, 1) := by decide +kernel
theorem dX7_mustLet_53 : decode cX7_mustLet 53 = .ok (.iload_n 1, 1) := by decide +kernel
theorem dX7_mustLet_54 : decode cX7_mustLet 54 = .ok (.invokevirtual 57, 3) := by decide +kernel
theorem dX7_mustLet_57 : decode cX7_mustLet 57 = .ok (.if_icmp .le 7, 3) := by decide +kernel
theorem dX7_mustLet_60 : decode cX7_mustLet 60 = .ok (.iconst 1, 1) := by decide +kernel
theorem dX7_mustLet_61 : decode cX7_mustLet 61 = .ok (.goto 4, 3) := by decide +kernel
theorem dX7_mustLet_64 : decode cX7_mustLet 64 = .ok (.iconst 0, 1) := by decide +kernel
theorem dX7_mustLet_65 : decode cX7_mustLet 65 = .ok (.ireturn, 1) := by decide +kernel
set_option maxRecDepth 20000 in
theorem ggX7_ratherPays_X7_owed : GoodIn wsX7_ratherPays wsX7_owed := goodIn_r _ [7, 8, 9, 10, 11, 12, 13, 14, 15, 16, 17, 18] (by decide +kernel) (by decide +kernel)
set_option maxRecDepth 20000 in
theorem gX7_ratherPays_X7_owed : GoodIn wsX7_ratherPays (wsV RX7 61 RX7 yX7_owed wsX7_owed) := goodIn_app (goodIn_of _ (by decide +kernel)) ggX7_ratherPays_X7_owed
theorem dX7_ratherPays_0 : decode cX7_ratherPays 0 = .ok (.aload_n 0, 1) := by decide +kernel
theorem dX7_ratherPays_1 : decode cX7_ratherPays 1 = .ok (.iload_n 1, 1) := by decide +kernel
theorem dX7_ratherPays_2 : decode cX7_ratherPays 2 = .ok (.iload_n 2, 1) := by decide +kernel
theorem dX7_ratherPays_3 : decode cX7_ratherPays 3 = .ok (.invokevirtual 61, 3) := by decide +kernel
theorem dX7_ratherPays_6 : decode cX7_ratherPays 6 = .ok (.istore_n 3, 1) := by decide +kernel
theorem dX7_ratherPays_7 : decode cX7_ratherPays 7 = .ok (.aload_n 0, 1) := by decide +kernel
theorem dX7_ratherPays_8 : decode cX7_ratherPays 8 = .ok (.getfield 15, 3) := by decide +kernel
theorem dX7_ratherPays_11 : decode cX7_ratherPays 11 = .ok (.iload_n 1, 1) := by decide +kernel
theorem dX7_ratherPays_12 : decode cX7_ratherPays 12 = .ok (.iaload, 1) := by decide +kernel
theorem dX7_ratherPays_13 : decode cX7_ratherPays 13 = .ok (.iconst 1, 1) := by decide +kernel
theorem dX7_ratherPays_14 : decode cX7_ratherPays 14 = .ok (.if_icmp .ne 31, 3) := by decide +kernel
theorem dX7_ratherPays_17 : decode cX7_ratherPays 17 = .ok (.aload_n 0, 1) := by decide +kernel
theorem dX7_ratherPays_18 : decode cX7_ratherPays 18 = .ok (.getfield 15, 3) := by decide +kernel
theorem dX7_ratherPays_21 : decode cX7_ratherPays 21 = .ok (.iload_n 2, 1) := by decide +kernel
theorem dX7_ratherPays_22 : decode cX7_ratherPays 22 = .ok (.iaload, 1) := by decide +kernel
theorem dX7_ratherPays_23 : decode cX7_ratherPays 23 = .ok (.iconst 3, 1) := by decide +kernel
theorem dX7_ratherPays_24 : decode cX7_ratherPays 24 = .ok (.if_icmp .eq 21, 3) := by decide +kernel
theorem dX7_ratherPays_27 : decode cX7_ratherPays 27 = .ok (.iload_n 3, 1) := by decide +kernel
theorem dX7_ratherPays_28 : decode cX7_ratherPays 28 = .ok (.ifCond .le 17, 3) := by decide +kernel
theorem dX7_ratherPays_31 : decode cX7_ratherPays 31 = .ok (.aload_n 0, 1) := by decide +kernel
theorem dX7_ratherPays_32 : decode cX7_ratherPays 32 = .ok (.getfield 31, 3) := by decide +kernel
theorem dX7_ratherPays_35 : decode cX7_ratherPays 35 = .ok (.iload_n 1, 1) := by decide +kernel
theorem dX7_ratherPays_36 : decode cX7_ratherPays 36 = .ok (.iaload, 1) := by decide +kernel
theorem dX7_ratherPays_37 : decode cX7_ratherPays 37 = .ok (.iload_n 3, 1) := by decide +kernel
theorem dX7_ratherPays_38 : decode cX7_ratherPays 38 = .ok (.if_icmp .lt 7, 3) := by decide +kernel
theorem dX7_ratherPays_41 : decode cX7_ratherPays 41 = .ok (.iconst 1, 1) := by decide +kernel
theorem dX7_ratherPays_42 : decode cX7_ratherPays 42 = .ok (.goto 4, 3) := by decide +kernel
theorem dX7_ratherPays_45 : decode cX7_ratherPays 45 = .ok (.iconst 0, 1) := by decide +kernel
theorem dX7_ratherPays_46 : decode cX7_ratherPays 46 = .ok (.ireturn, 1) := by decide +kernel
set_option maxRecDepth 20000 in
theorem ggX7_payOff_X7_owed : GoodIn wsX7_payOff wsX7_owed := goodIn_r _ [6, 7, 12, 13, 14, 15, 16, 17, 18, 19, 20, 21] (by decide +kernel) (by decide +kernel)
set_option maxRecDepth 20000 in
theorem gX7_payOff_X7_owed : GoodIn wsX7_payOff (wsV RX7 61 RX7 yX7_owed wsX7_owed) := goodIn_app (goodIn_of _ (by decide +kernel)) ggX7_payOff_X7_owed
set_option maxRecDepth 20000 in
theorem ggX7_payOff_X7_setDebt : GoodIn wsX7_payOff wsX7_setDebt := goodIn_r _ [11, 7, 12, 13, 14, 15, 16, 17, 18, 19, 20, 21] (by decide +kernel) (by decide +kernel)
set_option maxRecDepth 20000 in
theorem gX7_payOff_X7_setDebt : GoodIn wsX7_payOff (wsV RX7 64 RX7 yX7_setDebt wsX7_setDebt) := goodIn_app (goodIn_of _ (by decide +kernel)) ggX7_payOff_X7_setDebt
theorem dX7_payOff_0 : decode cX7_payOff 0 = .ok (.aload_n 0, 1) := by decide +kernel
theorem dX7_payOff_1 : decode cX7_payOff 1 = .ok (.iload_n 1, 1) := by decide +kernel
theorem dX7_payOff_2 : decode cX7_payOff 2 = .ok (.iload_n 2, 1) := by decide +kernel
theorem dX7_payOff_3 : decode cX7_payOff 3 = .ok (.invokevirtual 61, 3) := by decide +kernel
theorem dX7_payOff_6 : decode cX7_payOff 6 = .ok (.istore_n 3, 1) := by decide +kernel
theorem dX7_payOff_7 : decode cX7_payOff 7 = .ok (.aload_n 0, 1) := by decide +kernel
theorem dX7_payOff_8 : decode cX7_payOff 8 = .ok (.getfield 31, 3) := by decide +kernel
theorem dX7_payOff_11 : decode cX7_payOff 11 = .ok (.iload_n 1, 1) := by decide +kernel
theorem dX7_payOff_12 : decode cX7_payOff 12 = .ok (.dup2, 1) := by decide +kernel
theorem dX7_payOff_13 : decode cX7_payOff 13 = .ok (.iaload, 1) := by decide +kernel
theorem dX7_payOff_14 : decode cX7_payOff 14 = .ok (.iload_n 3, 1) := by decide +kernel
theorem dX7_payOff_15 : decode cX7_payOff 15 = .ok (.isub, 1) := by decide +kernel
theorem dX7_payOff_16 : decode cX7_payOff 16 = .ok (.iastore, 1) := by decide +kernel
theorem dX7_payOff_17 : decode cX7_payOff 17 = .ok (.aload_n 0, 1) := by decide +kernel
theorem dX7_payOff_18 : decode cX7_payOff 18 = .ok (.getfield 31, 3) := by decide +kernel
theorem dX7_payOff_21 : decode cX7_payOff 21 = .ok (.iload_n 2, 1) := by decide +kernel
theorem dX7_payOff_22 : decode cX7_payOff 22 = .ok (.dup2, 1) := by decide +kernel
theorem dX7_payOff_23 : decode cX7_payOff 23 = .ok (.iaload, 1) := by decide +kernel
theorem dX7_payOff_24 : decode cX7_payOff 24 = .ok (.iload_n 3, 1) := by decide +kernel
theorem dX7_payOff_25 : decode cX7_payOff 25 = .ok (.iadd, 1) := by decide +kernel
theorem dX7_payOff_26 : decode cX7_payOff 26 = .ok (.iastore, 1) := by decide +kernel
theorem dX7_payOff_27 : decode cX7_payOff 27 = .ok (.aload_n 0, 1) := by decide +kernel
theorem dX7_payOff_28 : decode cX7_payOff 28 = .ok (.iload_n 1, 1) := by decide +kernel
theorem dX7_payOff_29 : decode cX7_payOff 29 = .ok (.iload_n 2, 1) := by decide +kernel
theorem dX7_payOff_30 : decode cX7_payOff 30 = .ok (.iconst 0, 1) := by decide +kernel
theorem dX7_payOff_31 : decode cX7_payOff 31 = .ok (.invokevirtual 64, 3) := by decide +kernel
theorem dX7_payOff_34 : decode cX7_payOff 34 = .ok (.iload_n 3, 1) := by decide +kernel
theorem dX7_payOff_35 : decode cX7_payOff 35 = .ok (.ireturn, 1) := by decide +kernel
set_option maxRecDepth 20000 in
theorem ggX7_lendCoins_X7_owed : GoodIn wsX7_lendCoins wsX7_owed := goodIn_r _ [6, 7, 12, 13, 14, 15, 16, 17, 18, 19, 20, 21] (by decide +kernel) (by decide +kernel)
set_option maxRecDepth 20000 in
theorem gX7_lendCoins_X7_owed : GoodIn wsX7_lendCoins (wsV RX7 61 RX7 yX7_owed wsX7_owed) := goodIn_app (goodIn_of _ (by decide +kernel)) ggX7_lendCoins_X7_owed
set_option maxRecDepth 20000 in
theorem ggX7_lendCoins_X7_setDebt : GoodIn wsX7_lendCoins wsX7_setDebt := goodIn_r _ [11, 7, 12, 13, 14, 15, 16, 17, 18, 19, 20, 21] (by decide +kernel) (by decide +kernel)
set_option maxRecDepth 20000 in
theorem gX7_lendCoins_X7_setDebt : GoodIn wsX7_lendCoins (wsV RX7 64 RX7 yX7_setDebt wsX7_setDebt) := goodIn_app (goodIn_of _ (by decide +kernel)) ggX7_lendCoins_X7_setDebt
theorem dX7_lendCoins_0 : decode cX7_lendCoins 0 = .ok (.aload_n 0, 1) := by decide +kernel
theorem dX7_lendCoins_1 : decode cX7_lendCoins 1 = .ok (.getfield 31, 3) := by decide +kernel
theorem dX7_lendCoins_4 : decode cX7_lendCoins 4 = .ok (.iload_n 1, 1) := by decide +kernel
theorem dX7_lendCoins_5 : decode cX7_lendCoins 5 = .ok (.dup2, 1) := by decide +kernel
theorem dX7_lendCoins_6 : decode cX7_lendCoins 6 = .ok (.iaload, 1) := by decide +kernel
theorem dX7_lendCoins_7 : decode cX7_lendCoins 7 = .ok (.iload_n 3, 1) := by decide +kernel
theorem dX7_lendCoins_8 : decode cX7_lendCoins 8 = .ok (.isub, 1) := by decide +kernel
theorem dX7_lendCoins_9 : decode cX7_lendCoins 9 = .ok (.iastore, 1) := by decide +kernel
theorem dX7_lendCoins_10 : decode cX7_lendCoins 10 = .ok (.aload_n 0, 1) := by decide +kernel
theorem dX7_lendCoins_11 : decode cX7_lendCoins 11 = .ok (.getfield 31, 3) := by decide +kernel
theorem dX7_lendCoins_14 : decode cX7_lendCoins 14 = .ok (.iload_n 2, 1) := by decide +kernel
theorem dX7_lendCoins_15 : decode cX7_lendCoins 15 = .ok (.dup2, 1) := by decide +kernel
theorem dX7_lendCoins_16 : decode cX7_lendCoins 16 = .ok (.iaload, 1) := by decide +kernel
theorem dX7_lendCoins_17 : decode cX7_lendCoins 17 = .ok (.iload_n 3, 1) := by decide +kernel
theorem dX7_lendCoins_18 : decode cX7_lendCoins 18 = .ok (.iadd, 1) := by decide +kernel
theorem dX7_lendCoins_19 : decode cX7_lendCoins 19 = .ok (.iastore, 1) := by decide +kernel
theorem dX7_lendCoins_20 : decode cX7_lendCoins 20 = .ok (.aload_n 0, 1) := by decide +kernel
theorem dX7_lendCoins_21 : decode cX7_lendCoins 21 = .ok (.iload_n 2, 1) := by decide +kernel
theorem dX7_lendCoins_22 : decode cX7_lendCoins 22 = .ok (.iload_n 1, 1) := by decide +kernel
theorem dX7_lendCoins_23 : decode cX7_lendCoins 23 = .ok (.aload_n 0, 1) := by decide +kernel
theorem dX7_lendCoins_24 : decode cX7_lendCoins 24 = .ok (.iload_n 2, 1) := by decide +kernel
theorem dX7_lendCoins_25 : decode cX7_lendCoins 25 = .ok (.iload_n 1, 1) := by decide +kernel
theorem dX7_lendCoins_26 : decode cX7_lendCoins 26 = .ok (.invokevirtual 61, 3) := by decide +kernel
theorem dX7_lendCoins_29 : decode cX7_lendCoins 29 = .ok (.iload_n 3, 1) := by decide +kernel
theorem dX7_lendCoins_30 : decode cX7_lendCoins 30 = .ok (.iadd, 1) := by decide +kernel
theorem dX7_lendCoins_31 : decode cX7_lendCoins 31 = .ok (.invokevirtual 64, 3) := by decide +kernel
theorem dX7_lendCoins_34 : decode cX7_lendCoins 34 = .ok (.return_, 1) := by decide +kernel
set_option maxRecDepth 20000 in
theorem ggX7_buyDebt_X7_owed : GoodIn wsX7_buyDebt wsX7_owed := goodIn_r _ [6, 7, 12, 13, 14, 15, 16, 17, 18, 19, 20, 21] (by decide +kernel) (by decide +kernel)
set_option maxRecDepth 20000 in
theorem gX7_buyDebt_X7_owed : GoodIn wsX7_buyDebt (wsV RX7 61 RX7 yX7_owed wsX7_owed) := goodIn_app (goodIn_of _ (by decide +kernel)) ggX7_buyDebt_X7_owed
set_option maxRecDepth 20000 in
theorem ggX7_buyDebt_X7_setDebt : GoodIn wsX7_buyDebt wsX7_setDebt := goodIn_r _ [11, 7, 12, 13, 14, 15, 16, 17, 18, 19, 20, 21] (by decide +kernel) (by decide +kernel)
set_option maxRecDepth 20000 in
theorem gX7_buyDebt_X7_setDebt : GoodIn wsX7_buyDebt (wsV RX7 64 RX7 yX7_setDebt wsX7_setDebt) := goodIn_app (goodIn_of _ (by decide +kernel)) ggX7_buyDebt_X7_setDebt
theorem dX7_buyDebt_0 : decode cX7_buyDebt 0 = .ok (.aload_n 0, 1) := by decide +kernel
theorem dX7_buyDebt_1 : decode cX7_buyDebt 1 = .ok (.iload_n 2, 1) := by decide +kernel
theorem dX7_buyDebt_2 : decode cX7_buyDebt 2 = .ok (.iload_n 3, 1) := by decide +kernel
theorem dX7_buyDebt_3 : decode cX7_buyDebt 3 = .ok (.invokevirtual 61, 3) := by decide +kernel
theorem dX7_buyDebt_6 : decode cX7_buyDebt 6 = .ok (.istore 4, 2) := by decide +kernel
theorem dX7_buyDebt_8 : decode cX7_buyDebt 8 = .ok (.aload_n 0, 1) := by decide +kernel
theorem dX7_buyDebt_9 : decode cX7_buyDebt 9 = .ok (.getfield 31, 3) := by decide +kernel
theorem dX7_buyDebt_12 : decode cX7_buyDebt 12 = .ok (.iload_n 1, 1) := by decide +kernel
theorem dX7_buyDebt_13 : decode cX7_buyDebt 13 = .ok (.dup2, 1) := by decide +kernel
theorem dX7_buyDebt_14 : decode cX7_buyDebt 14 = .ok (.iaload, 1) := by decide +kernel
theorem dX7_buyDebt_15 : decode cX7_buyDebt 15 = .ok (.iload 4, 2) := by decide +kernel
theorem dX7_buyDebt_17 : decode cX7_buyDebt 17 = .ok (.isub, 1) := by decide +kernel
theorem dX7_buyDebt_18 : decode cX7_buyDebt 18 = .ok (.iastore, 1) := by decide +kernel
theorem dX7_buyDebt_19 : decode cX7_buyDebt 19 = .ok (.aload_n 0, 1) := by decide +kernel
theorem dX7_buyDebt_20 : decode cX7_buyDebt 20 = .ok (.getfield 31, 3) := by decide +kernel
theorem dX7_buyDebt_23 : decode cX7_buyDebt 23 = .ok (.iload_n 3, 1) := by decide +kernel
theorem dX7_buyDebt_24 : decode cX7_buyDebt 24 = .ok (.dup2, 1) := by decide +kernel
theorem dX7_buyDebt_25 : decode cX7_buyDebt 25 = .ok (.iaload, 1) := by decide +kernel
theorem dX7_buyDebt_26 : decode cX7_buyDebt 26 = .ok (.iload 4, 2) := by decide +kernel
theorem dX7_buyDebt_28 : decode cX7_buyDebt 28 = .ok (.iadd, 1) := by decide +kernel
theorem dX7_buyDebt_29 : decode cX7_buyDebt 29 = .ok (.iastore, 1) := by decide +kernel
theorem dX7_buyDebt_30 : decode cX7_buyDebt 30 = .ok (.aload_n 0, 1) := by decide +kernel
theorem dX7_buyDebt_31 : decode cX7_buyDebt 31 = .ok (.iload_n 2, 1) := by decide +kernel
theorem dX7_buyDebt_32 : decode cX7_buyDebt 32 = .ok (.iload_n 3, 1) := by decide +kernel
theorem dX7_buyDebt_33 : decode cX7_buyDebt 33 = .ok (.iconst 0, 1) := by decide +kernel
theorem dX7_buyDebt_34 : decode cX7_buyDebt 34 = .ok (.invokevirtual 64, 3) := by decide +kernel
theorem dX7_buyDebt_37 : decode cX7_buyDebt 37 = .ok (.aload_n 0, 1) := by decide +kernel
theorem dX7_buyDebt_38 : decode cX7_buyDebt 38 = .ok (.iload_n 2, 1) := by decide +kernel
theorem dX7_buyDebt_39 : decode cX7_buyDebt 39 = .ok (.iload_n 1, 1) := by decide +kernel
theorem dX7_buyDebt_40 : decode cX7_buyDebt 40 = .ok (.aload_n 0, 1) := by decide +kernel
theorem dX7_buyDebt_41 : decode cX7_buyDebt 41 = .ok (.iload_n 2, 1) := by decide +kernel
theorem dX7_buyDebt_42 : decode cX7_buyDebt 42 = .ok (.iload_n 1, 1) := by decide +kernel
theorem dX7_buyDebt_43 : decode cX7_buyDebt 43 = .ok (.invokevirtual 61, 3) := by decide +kernel
theorem dX7_buyDebt_46 : decode cX7_buyDebt 46 = .ok (.iload 4, 2) := by decide +kernel
theorem dX7_buyDebt_48 : decode cX7_buyDebt 48 = .ok (.iadd, 1) := by decide +kernel
theorem dX7_buyDebt_49 : decode cX7_buyDebt 49 = .ok (.invokevirtual 64, 3) := by decide +kernel
theorem dX7_buyDebt_52 : decode cX7_buyDebt 52 = .ok (.return_, 1) := by decide +kernel
theorem dX7_comesAhead_0 : decode cX7_comesAhead 0 = .ok (.aload_n 0, 1) := by decide +kernel
theorem dX7_comesAhead_1 : decode cX7_comesAhead 1 = .ok (.getfield 22, 3) := by decide +kernel
theorem dX7_comesAhead_4 : decode cX7_comesAhead 4 = .ok (.iload_n 1, 1) := by decide +kernel
theorem dX7_comesAhead_5 : decode cX7_comesAhead 5 = .ok (.iaload, 1) := by decide +kernel
theorem dX7_comesAhead_6 : decode cX7_comesAhead 6 = .ok (.aload_n 0, 1) := by decide +kernel
theorem dX7_comesAhead_7 : decode cX7_comesAhead 7 = .ok (.getfield 22, 3) := by decide +kernel
theorem dX7_comesAhead_10 : decode cX7_comesAhead 10 = .ok (.iload_n 2, 1) := by decide +kernel
theorem dX7_comesAhead_11 : decode cX7_comesAhead 11 = .ok (.iaload, 1) := by decide +kernel
theorem dX7_comesAhead_12 : decode cX7_comesAhead 12 = .ok (.if_icmp .lt 23, 3) := by decide +kernel
theorem dX7_comesAhead_15 : decode cX7_comesAhead 15 = .ok (.aload_n 0, 1) := by decide +kernel
theorem dX7_comesAhead_16 : decode cX7_comesAhead 16 = .ok (.getfield 22, 3) := by decide +kernel
theorem dX7_comesAhead_19 : decode cX7_comesAhead 19 = .ok (.iload_n 1, 1) := by decide +kernel
theorem dX7_comesAhead_20 : decode cX7_comesAhead 20 = .ok (.iaload, 1) := by decide +kernel
theorem dX7_comesAhead_21 : decode cX7_comesAhead 21 = .ok (.aload_n 0, 1) := by decide +kernel
theorem dX7_comesAhead_22 : decode cX7_comesAhead 22 = .ok (.getfield 22, 3) := by decide +kernel
theorem dX7_comesAhead_25 : decode cX7_comesAhead 25 = .ok (.iload_n 2, 1) := by decide +kernel
theorem dX7_comesAhead_26 : decode cX7_comesAhead 26 = .ok (.iaload, 1) := by decide +kernel
theorem dX7_comesAhead_27 : decode cX7_comesAhead 27 = .ok (.if_icmp .ne 12, 3) := by decide +kernel
theorem dX7_comesAhead_30 : decode cX7_comesAhead 30 = .ok (.iload_n 1, 1) := by decide +kernel
theorem dX7_comesAhead_31 : decode cX7_comesAhead 31 = .ok (.iload_n 2, 1) := by decide +kernel
theorem dX7_comesAhead_32 : decode cX7_comesAhead 32 = .ok (.if_icmp .ge 7, 3) := by decide +kernel
theorem dX7_comesAhead_35 : decode cX7_comesAhead 35 = .ok (.iconst 1, 1) := by decide +kernel
theorem dX7_comesAhead_36 : decode cX7_comesAhead 36 = .ok (.goto 4, 3) := by decide +kernel
theorem dX7_comesAhead_39 : decode cX7_comesAhead 39 = .ok (.iconst 0, 1) := by decide +kernel
theorem dX7_comesAhead_40 : decode cX7_comesAhead 40 = .ok (.ireturn, 1) := by decide +kernel
theorem dX7_firstToCome_0 : decode cX7_firstToCome 0 = .ok (.bipush (-4), 2) := by decide +kernel
theorem dX7_firstToCome_2 : decode cX7_firstToCome 2 = .ok (.istore_n 2, 1) := by decide +kernel
theorem dX7_firstToCome_3 : decode cX7_firstToCome 3 = .ok (.iconst 0, 1) := by decide +kernel
theorem dX7_firstToCome_4 : decode cX7_firstToCome 4 = .ok (.istore_n 3, 1) := by decide +kernel
theorem dX7_firstToCome_5 : decode cX7_firstToCome 5 = .ok (.iload_n 3, 1) := by decide +kernel
theorem dX7_firstToCome_6 : decode cX7_firstToCome 6 = .ok (.aload_n 0, 1) := by decide +kernel
theorem dX7_firstToCome_7 : decode cX7_firstToCome 7 = .ok (.getfield 37, 3) := by decide +kernel
theorem dX7_firstToCome_10 : decode cX7_firstToCome 10 = .ok (.if_icmp .ge 38, 3) := by decide +kernel
theorem dX7_firstToCome_13 : decode cX7_firstToCome 13 = .ok (.iload_n 1, 1) := by decide +kernel
theorem dX7_firstToCome_14 : decode cX7_firstToCome 14 = .ok (.iload_n 3, 1) := by decide +kernel
theorem dX7_firstToCome_15 : decode cX7_firstToCome 15 = .ok (.ishr, 1) := by decide +kernel
theorem dX7_firstToCome_16 : decode cX7_firstToCome 16 = .ok (.iconst 1, 1) := by decide +kernel
theorem dX7_firstToCome_17 : decode cX7_firstToCome 17 = .ok (.iand, 1) := by decide +kernel
theorem dX7_firstToCome_18 : decode cX7_firstToCome 18 = .ok (.ifCond .eq 24, 3) := by decide +kernel
theorem dX7_firstToCome_21 : decode cX7_firstToCome 21 = .ok (.iload_n 2, 1) := by decide +kernel
theorem dX7_firstToCome_22 : decode cX7_firstToCome 22 = .ok (.ifCond .lt 18, 3) := by decide +kernel
theorem dX7_firstToCome_25 : decode cX7_firstToCome 25 = .ok (.aload_n 0, 1) := by decide +kernel
theorem dX7_firstToCome_26 : decode cX7_firstToCome 26 = .ok (.getfield 22, 3) := by decide +kernel
theorem dX7_firstToCome_29 : decode cX7_firstToCome 29 = .ok (.iload_n 3, 1) := by decide +kernel
theorem dX7_firstToCome_30 : decode cX7_firstToCome 30 = .ok (.iaload, 1) := by decide +kernel
theorem dX7_firstToCome_31 : decode cX7_firstToCome 31 = .ok (.aload_n 0, 1) := by decide +kernel
theorem dX7_firstToCome_32 : decode cX7_firstToCome 32 = .ok (.getfield 22, 3) := by decide +kernel
theorem dX7_firstToCome_35 : decode cX7_firstToCome 35 = .ok (.iload_n 2, 1) := by decide +kernel
theorem dX7_firstToCome_36 : decode cX7_firstToCome 36 = .ok (.iaload, 1) := by decide +kernel
theorem dX7_firstToCome_37 : decode cX7_firstToCome 37 = .ok (.if_icmp .ge 5, 3) := by decide +kernel
theorem dX7_firstToCome_40 : decode cX7_firstToCome 40 = .ok (.iload_n 3, 1) := by decide +kernel
theorem dX7_firstToCome_41 : decode cX7_firstToCome 41 = .ok (.istore_n 2, 1) := by decide +kernel
theorem dX7_firstToCome_42 : decode cX7_firstToCome 42 = .ok (.iinc 3 1, 3) := by decide +kernel
theorem dX7_firstToCome_45 : decode cX7_firstToCome 45 = .ok (.goto (-40), 3) := by decide +kernel
theorem dX7_firstToCome_48 : decode cX7_firstToCome 48 = .ok (.iload_n 2, 1) := by decide +kernel
theorem dX7_firstToCome_49 : decode cX7_firstToCome 49 = .ok (.ireturn, 1) := by decide +kernel
theorem dX7_debtsAboveNothing_0 : decode cX7_debtsAboveNothing 0 = .ok (.iconst 0, 1) := by decide +kernel
theorem dX7_debtsAboveNothing_1 : decode cX7_debtsAboveNothing 1 = .ok (.istore_n 1, 1) := by decide +kernel
theorem dX7_debtsAboveNothing_2 : decode cX7_debtsAboveNothing 2 = .ok (.iconst 0, 1) := by decide +kernel
theorem dX7_debtsAboveNothing_3 : decode cX7_debtsAboveNothing 3 = .ok (.istore_n 2, 1) := by decide +kernel
theorem dX7_debtsAboveNothing_4 : decode cX7_debtsAboveNothing 4 = .ok (.iload_n 2, 1) := by decide +kernel
theorem dX7_debtsAboveNothing_5 : decode cX7_debtsAboveNothing 5 = .ok (.bipush 49, 2) := by decide +kernel
theorem dX7_debtsAboveNothing_7 : decode cX7_debtsAboveNothing 7 = .ok (.if_icmp .ge 21, 3) := by decide +kernel
theorem dX7_debtsAboveNothing_10 : decode cX7_debtsAboveNothing 10 = .ok (.aload_n 0, 1) := by decide +kernel
theorem dX7_debtsAboveNothing_11 : decode cX7_debtsAboveNothing 11 = .ok (.getfield 34, 3) := by decide +kernel
theorem dX7_debtsAboveNothing_14 : decode cX7_debtsAboveNothing 14 = .ok (.iload_n 2, 1) := by decide +kernel
theorem dX7_debtsAboveNothing_15 : decode cX7_debtsAboveNothing 15 = .ok (.iaload, 1) := by decide +kernel
theorem dX7_debtsAboveNothing_16 : decode cX7_debtsAboveNothing 16 = .ok (.ifCond .le 6, 3) := by decide +kernel
theorem dX7_debtsAboveNothing_19 : decode cX7_debtsAboveNothing 19 = .ok (.iinc 1 1, 3) := by decide +kernel
theorem dX7_debtsAboveNothing_22 : decode cX7_debtsAboveNothing 22 = .ok (.iinc 2 1, 3) := by decide +kernel
theorem dX7_debtsAboveNothing_25 : decode cX7_debtsAboveNothing 25 = .ok (.goto (-21), 3) := by decide +kernel
theorem dX7_debtsAboveNothing_28 : decode cX7_debtsAboveNothing 28 = .ok (.iload_n 1, 1) := by decide +kernel
theorem dX7_debtsAboveNothing_29 : decode cX7_debtsAboveNothing 29 = .ok (.ireturn, 1) := by decide +kernel
theorem dX7_debtsSummed_0 : decode cX7_debtsSummed 0 = .ok (.iconst 0, 1) := by decide +kernel
theorem dX7_debtsSummed_1 : decode cX7_debtsSummed 1 = .ok (.istore_n 1, 1) := by decide +kernel
theorem dX7_debtsSummed_2 : decode cX7_debtsSummed 2 = .ok (.iconst 0, 1) := by decide +kernel
theorem dX7_debtsSummed_3 : decode cX7_debtsSummed 3 = .ok (.istore_n 2, 1) := by decide +kernel
theorem dX7_debtsSummed_4 : decode cX7_debtsSummed 4 = .ok (.iload_n 2, 1) := by decide +kernel
theorem dX7_debtsSummed_5 : decode cX7_debtsSummed 5 = .ok (.bipush 49, 2) := by decide +kernel
theorem dX7_debtsSummed_7 : decode cX7_debtsSummed 7 = .ok (.if_icmp .ge 18, 3) := by decide +kernel
theorem dX7_debtsSummed_10 : decode cX7_debtsSummed 10 = .ok (.iload_n 1, 1) := by decide +kernel
theorem dX7_debtsSummed_11 : decode cX7_debtsSummed 11 = .ok (.aload_n 0, 1) := by decide +kernel
theorem dX7_debtsSummed_12 : decode cX7_debtsSummed 12 = .ok (.getfield 34, 3) := by decide +kernel
theorem dX7_debtsSummed_15 : decode cX7_debtsSummed 15 = .ok (.iload_n 2, 1) := by decide +kernel
theorem dX7_debtsSummed_16 : decode cX7_debtsSummed 16 = .ok (.iaload, 1) := by decide +kernel
theorem dX7_debtsSummed_17 : decode cX7_debtsSummed 17 = .ok (.iadd, 1) := by decide +kernel
theorem dX7_debtsSummed_18 : decode cX7_debtsSummed 18 = .ok (.istore_n 1, 1) := by decide +kernel
theorem dX7_debtsSummed_19 : decode cX7_debtsSummed 19 = .ok (.iinc 2 1, 3) := by decide +kernel
theorem dX7_debtsSummed_22 : decode cX7_debtsSummed 22 = .ok (.goto (-18), 3) := by decide +kernel
theorem dX7_debtsSummed_25 : decode cX7_debtsSummed 25 = .ok (.iload_n 1, 1) := by decide +kernel
theorem dX7_debtsSummed_26 : decode cX7_debtsSummed 26 = .ok (.ireturn, 1) := by decide +kernel
