set_option maxRecDepth 20000 in
theorem ggX1_init_X3_init : GoodIn wsX1_init wsX3_init := goodIn_r _ [13, 14, 2, 3, 4, 15, 21, 22] (by decide +kernel) (by decide +kernel)
set_option maxRecDepth 20000 in
theorem gX1_init_X3_init_n23 : GoodIn wsX1_init (wsX3_init) := ggX1_init_X3_init
theorem dX1_init_0 : decode cX1_init 0 = .ok (.aload_n 0, 1) := by decide +kernel
theorem dX1_init_1 : decode cX1_init 1 = .ok (.invokespecial 3, 3) := by decide +kernel
theorem dX1_init_4 : decode cX1_init 4 = .ok (.aload_n 0, 1) := by decide +kernel
theorem dX1_init_5 : decode cX1_init 5 = .ok (.bipush 7, 2) := by decide +kernel
theorem dX1_init_7 : decode cX1_init 7 = .ok (.newarray .int, 2) := by decide +kernel
theorem dX1_init_9 : decode cX1_init 9 = .ok (.putfield 9, 3) := by decide +kernel
theorem dX1_init_12 : decode cX1_init 12 = .ok (.aload_n 0, 1) := by decide +kernel
theorem dX1_init_13 : decode cX1_init 13 = .ok (.sipush 128, 3) := by decide +kernel
theorem dX1_init_16 : decode cX1_init 16 = .ok (.newarray .int, 2) := by decide +kernel
theorem dX1_init_18 : decode cX1_init 18 = .ok (.putfield 15, 3) := by decide +kernel
theorem dX1_init_21 : decode cX1_init 21 = .ok (.aload_n 0, 1) := by decide +kernel
theorem dX1_init_22 : decode cX1_init 22 = .ok (.sipush 128, 3) := by decide +kernel
theorem dX1_init_25 : decode cX1_init 25 = .ok (.newarray .int, 2) := by decide +kernel
theorem dX1_init_27 : decode cX1_init 27 = .ok (.putfield 18, 3) := by decide +kernel
theorem dX1_init_30 : decode cX1_init 30 = .ok (.aload_n 0, 1) := by decide +kernel
theorem dX1_init_31 : decode cX1_init 31 = .ok (.new 21, 3) := by decide +kernel
theorem dX1_init_34 : decode cX1_init 34 = .ok (.dup, 1) := by decide +kernel
theorem dX1_init_35 : decode cX1_init 35 = .ok (.invokespecial 23, 3) := by decide +kernel
theorem dX1_init_38 : decode cX1_init 38 = .ok (.putfield 24, 3) := by decide +kernel
theorem dX1_init_41 : decode cX1_init 41 = .ok (.return_, 1) := by decide +kernel
set_option maxRecDepth 20000 in
theorem ggX1_ask_X7_mustLet : GoodIn wsX1_ask wsX7_mustLet := goodIn_r _ [8, 9, 10, 11, 12, 13, 7, 14, 15, 16, 17, 18, 19, 20, 21, 22, 23, 24, 25, 26] (by decide +kernel) (by decide +kernel)
set_option maxRecDepth 20000 in
theorem gX1_ask_X7_mustLet : GoodIn wsX1_ask (wsV RX1 35 RX7 yX7_mustLet wsX7_mustLet) := goodIn_app (goodIn_of _ (by decide +kernel)) ggX1_ask_X7_mustLet
theorem dX1_ask_0 : decode cX1_ask 0 = .ok (.aload_n 0, 1) := by decide +kernel
theorem dX1_ask_1 : decode cX1_ask 1 = .ok (.aload_n 1, 1) := by decide +kernel
theorem dX1_ask_2 : decode cX1_ask 2 = .ok (.getfield 28, 3) := by decide +kernel
theorem dX1_ask_5 : decode cX1_ask 5 = .ok (.putfield 34, 3) := by decide +kernel
theorem dX1_ask_8 : decode cX1_ask 8 = .ok (.iconst 0, 1) := by decide +kernel
theorem dX1_ask_9 : decode cX1_ask 9 = .ok (.istore_n 2, 1) := by decide +kernel
theorem dX1_ask_10 : decode cX1_ask 10 = .ok (.iload_n 2, 1) := by decide +kernel
theorem dX1_ask_11 : decode cX1_ask 11 = .ok (.aload_n 0, 1) := by decide +kernel
theorem dX1_ask_12 : decode cX1_ask 12 = .ok (.getfield 34, 3) := by decide +kernel
theorem dX1_ask_15 : decode cX1_ask 15 = .ok (.if_icmp .ge 58, 3) := by decide +kernel
theorem dX1_ask_18 : decode cX1_ask 18 = .ok (.aload_n 0, 1) := by decide +kernel
theorem dX1_ask_19 : decode cX1_ask 19 = .ok (.getfield 9, 3) := by decide +kernel
theorem dX1_ask_22 : decode cX1_ask 22 = .ok (.iload_n 2, 1) := by decide +kernel
theorem dX1_ask_23 : decode cX1_ask 23 = .ok (.iconst 0, 1) := by decide +kernel
theorem dX1_ask_24 : decode cX1_ask 24 = .ok (.iastore, 1) := by decide +kernel
theorem dX1_ask_25 : decode cX1_ask 25 = .ok (.iconst 0, 1) := by decide +kernel
theorem dX1_ask_26 : decode cX1_ask 26 = .ok (.istore_n 3, 1) := by decide +kernel
theorem dX1_ask_27 : decode cX1_ask 27 = .ok (.iload_n 3, 1) := by decide +kernel
theorem dX1_ask_28 : decode cX1_ask 28 = .ok (.aload_n 0, 1) := by decide +kernel
theorem dX1_ask_29 : decode cX1_ask 29 = .ok (.getfield 34, 3) := by decide +kernel
theorem dX1_ask_32 : decode cX1_ask 32 = .ok (.if_icmp .ge 35, 3) := by decide +kernel
theorem dX1_ask_35 : decode cX1_ask 35 = .ok (.iload_n 2, 1) := by decide +kernel
theorem dX1_ask_36 : decode cX1_ask 36 = .ok (.iload_n 3, 1) := by decide +kernel
theorem dX1_ask_37 : decode cX1_ask 37 = .ok (.if_icmp .eq 24, 3) := by decide +kernel
theorem dX1_ask_40 : decode cX1_ask 40 = .ok (.aload_n 1, 1) := by decide +kernel
theorem dX1_ask_41 : decode cX1_ask 41 = .ok (.iload_n 2, 1) := by decide +kernel
theorem dX1_ask_42 : decode cX1_ask 42 = .ok (.iload_n 3, 1) := by decide +kernel
theorem dX1_ask_43 : decode cX1_ask 43 = .ok (.invokevirtual 35, 3) := by decide +kernel
theorem dX1_ask_46 : decode cX1_ask 46 = .ok (.ifCond .eq 15, 3) := by decide +kernel
theorem dX1_ask_49 : decode cX1_ask 49 = .ok (.aload_n 0, 1) := by decide +kernel
theorem dX1_ask_50 : decode cX1_ask 50 = .ok (.getfield 9, 3) := by decide +kernel
theorem dX1_ask_53 : decode cX1_ask 53 = .ok (.iload_n 2, 1) := by decide +kernel
theorem dX1_ask_54 : decode cX1_ask 54 = .ok (.dup2, 1) := by decide +kernel
theorem dX1_ask_55 : decode cX1_ask 55 = .ok (.iaload, 1) := by decide +kernel
theorem dX1_ask_56 : decode cX1_ask 56 = .ok (.iconst 1, 1) := by decide +kernel
theorem dX1_ask_57 : decode cX1_ask 57 = .ok (.iload_n 3, 1) := by decide +kernel
theorem dX1_ask_58 : decode cX1_ask 58 = .ok (.ishl, 1) := by decide +kernel
theorem dX1_ask_59 : decode cX1_ask 59 = .ok (.ior, 1) := by decide +kernel
theorem dX1_ask_60 : decode cX1_ask 60 = .ok (.iastore, 1) := by decide +kernel
theorem dX1_ask_61 : decode cX1_ask 61 = .ok (.iinc 3 1, 3) := by decide +kernel
theorem dX1_ask_64 : decode cX1_ask 64 = .ok (.goto (-37), 3) := by decide +kernel
theorem dX1_ask_67 : decode cX1_ask 67 = .ok (.iinc 2 1, 3) := by decide +kernel
theorem dX1_ask_70 : decode cX1_ask 70 = .ok (.goto (-60), 3) := by decide +kernel
theorem dX1_ask_73 : decode cX1_ask 73 = .ok (.return_, 1) := by decide +kernel
theorem dX1_canFollow_0 : decode cX1_canFollow 0 = .ok (.iload_n 2, 1) := by decide +kernel
theorem dX1_canFollow_1 : decode cX1_canFollow 1 = .ok (.iload_n 1, 1) := by decide +kernel
theorem dX1_canFollow_2 : decode cX1_canFollow 2 = .ok (.ishr, 1) := by decide +kernel
theorem dX1_canFollow_3 : decode cX1_canFollow 3 = .ok (.iconst 1, 1) := by decide +kernel
theorem dX1_canFollow_4 : decode cX1_canFollow 4 = .ok (.iand, 1) := by decide +kernel
theorem dX1_canFollow_5 : decode cX1_canFollow 5 = .ok (.ifCond .ne 20, 3) := by decide +kernel
theorem dX1_canFollow_8 : decode cX1_canFollow 8 = .ok (.aload_n 0, 1) := by decide +kernel
theorem dX1_canFollow_9 : decode cX1_canFollow 9 = .ok (.getfield 9, 3) := by decide +kernel
theorem dX1_canFollow_12 : decode cX1_canFollow 12 = .ok (.iload_n 1, 1) := by decide +kernel
theorem dX1_canFollow_13 : decode cX1_canFollow 13 = .ok (.iaload, 1) := by decide +kernel
theorem dX1_canFollow_14 : decode cX1_canFollow 14 = .ok (.iload_n 2, 1) := by decide +kernel
theorem dX1_canFollow_15 : decode cX1_canFollow 15 = .ok (.iconst (-1), 1) := by decide +kernel
theorem dX1_canFollow_16 : decode cX1_canFollow 16 = .ok (.ixor, 1) := by decide +kernel
theorem dX1_canFollow_17 : decode cX1_canFollow 17 = .ok (.iand, 1) := by decide +kernel
theorem dX1_canFollow_18 : decode cX1_canFollow 18 = .ok (.ifCond .ne 7, 3) := by decide +kernel
theorem dX1_canFollow_21 : decode cX1_canFollow 21 = .ok (.iconst 1, 1) := by decide +kernel
theorem dX1_canFollow_22 : decode cX1_canFollow 22 = .ok (.goto 4, 3) := by decide +kernel
theorem dX1_canFollow_25 : decode cX1_canFollow 25 = .ok (.iconst 0, 1) := by decide +kernel
theorem dX1_canFollow_26 : decode cX1_canFollow 26 = .ok (.ireturn, 1) := by decide +kernel
set_option maxRecDepth 20000 in
theorem ggX1_number_X1_canFollow : GoodIn wsX1_number wsX1_canFollow := goodIn_r _ [7, 8, 9, 10, 11, 12, 13] (by decide +kernel) (by decide +kernel)
set_option maxRecDepth 20000 in
theorem gX1_number_X1_canFollow : GoodIn wsX1_number (wsV RX1 39 RX1 yX1_canFollow wsX1_canFollow) := goodIn_app (goodIn_of _ (by decide +kernel)) ggX1_number_X1_canFollow
theorem dX1_number_0 : decode cX1_number 0 = .ok (.iconst 1, 1) := by decide +kernel
theorem dX1_number_1 : decode cX1_number 1 = .ok (.aload_n 0, 1) := by decide +kernel
theorem dX1_number_2 : decode cX1_number 2 = .ok (.getfield 34, 3) := by decide +kernel
theorem dX1_number_5 : decode cX1_number 5 = .ok (.ishl, 1) := by decide +kernel
theorem dX1_number_6 : decode cX1_number 6 = .ok (.iconst 1, 1) := by decide +kernel
theorem dX1_number_7 : decode cX1_number 7 = .ok (.isub, 1) := by decide +kernel
theorem dX1_number_8 : decode cX1_number 8 = .ok (.istore_n 1, 1) := by decide +kernel
theorem dX1_number_9 : decode cX1_number 9 = .ok (.iconst 0, 1) := by decide +kernel
theorem dX1_number_10 : decode cX1_number 10 = .ok (.istore_n 2, 1) := by decide +kernel
theorem dX1_number_11 : decode cX1_number 11 = .ok (.iload_n 2, 1) := by decide +kernel
theorem dX1_number_12 : decode cX1_number 12 = .ok (.iload_n 1, 1) := by decide +kernel
theorem dX1_number_13 : decode cX1_number 13 = .ok (.if_icmp .gt 16, 3) := by decide +kernel
theorem dX1_number_16 : decode cX1_number 16 = .ok (.aload_n 0, 1) := by decide +kernel
theorem dX1_number_17 : decode cX1_number 17 = .ok (.getfield 15, 3) := by decide +kernel
theorem dX1_number_20 : decode cX1_number 20 = .ok (.iload_n 2, 1) := by decide +kernel
theorem dX1_number_21 : decode cX1_number 21 = .ok (.iconst 0, 1) := by decide +kernel
theorem dX1_number_22 : decode cX1_number 22 = .ok (.iastore, 1) := by decide +kernel
theorem dX1_number_23 : decode cX1_number 23 = .ok (.iinc 2 1, 3) := by decide +kernel
theorem dX1_number_26 : decode cX1_number 26 = .ok (.goto (-15), 3) := by decide +kernel
theorem dX1_number_29 : decode cX1_number 29 = .ok (.aload_n 0, 1) := by decide +kernel
theorem dX1_number_30 : decode cX1_number 30 = .ok (.getfield 15, 3) := by decide +kernel
theorem dX1_number_33 : decode cX1_number 33 = .ok (.iconst 0, 1) := by decide +kernel
theorem dX1_number_34 : decode cX1_number 34 = .ok (.iconst 1, 1) := by decide +kernel
theorem dX1_number_35 : decode cX1_number 35 = .ok (.iastore, 1) := by decide +kernel
theorem dX1_number_36 : decode cX1_number 36 = .ok (.iconst 0, 1) := by decide +kernel
theorem dX1_number_37 : decode cX1_number 37 = .ok (.istore_n 2, 1) := by decide +kernel
theorem dX1_number_38 : decode cX1_number 38 = .ok (.iload_n 2, 1) := by decide +kernel
theorem dX1_number_39 : decode cX1_number 39 = .ok (.iload_n 1, 1) := by decide +kernel
theorem dX1_number_40 : decode cX1_number 40 = .ok (.if_icmp .ge 62, 3) := by decide +kernel
theorem dX1_number_43 : decode cX1_number 43 = .ok (.iconst 0, 1) := by decide +kernel
theorem dX1_number_44 : decode cX1_number 44 = .ok (.istore_n 3, 1) := by decide +kernel
theorem dX1_number_45 : decode cX1_number 45 = .ok (.iload_n 3, 1) := by decide +kernel
theorem dX1_number_46 : decode cX1_number 46 = .ok (.aload_n 0, 1) := by decide +kernel
theorem dX1_number_47 : decode cX1_number 47 = .ok (.getfield 34, 3) := by decide +kernel
theorem dX1_number_50 : decode cX1_number 50 = .ok (.if_icmp .ge 46, 3) := by decide +kernel
theorem dX1_number_53 : decode cX1_number 53 = .ok (.aload_n 0, 1) := by decide +kernel
theorem dX1_number_54 : decode cX1_number 54 = .ok (.getfield 15, 3) := by decide +kernel
theorem dX1_number_57 : decode cX1_number 57 = .ok (.iload_n 2, 1) := by decide +kernel
theorem dX1_number_58 : decode cX1_number 58 = .ok (.iaload, 1) := by decide +kernel
theorem dX1_number_59 : decode cX1_number 59 = .ok (.ifCond .le 31, 3) := by decide +kernel
theorem dX1_number_62 : decode cX1_number 62 = .ok (.aload_n 0, 1) := by decide +kernel
theorem dX1_number_63 : decode cX1_number 63 = .ok (.iload_n 3, 1) := by decide +kernel
theorem dX1_number_64 : decode cX1_number 64 = .ok (.iload_n 2, 1) := by decide +kernel
theorem dX1_number_65 : decode cX1_number 65 = .ok (.invokevirtual 39, 3) := by decide +kernel
theorem dX1_number_68 : decode cX1_number 68 = .ok (.ifCond .eq 22, 3) := by decide +kernel
theorem dX1_number_71 : decode cX1_number 71 = .ok (.aload_n 0, 1) := by decide +kernel
theorem dX1_number_72 : decode cX1_number 72 = .ok (.getfield 15, 3) := by decide +kernel
theorem dX1_number_75 : decode cX1_number 75 = .ok (.iload_n 2, 1) := by decide +kernel
theorem dX1_number_76 : decode cX1_number 76 = .ok (.iconst 1, 1) := by decide +kernel
theorem dX1_number_77 : decode cX1_number 77 = .ok (.iload_n 3, 1) := by decide +kernel
theorem dX1_number_78 : decode cX1_number 78 = .ok (.ishl, 1) := by decide +kernel
theorem dX1_number_79 : decode cX1_number 79 = .ok (.ior, 1) := by decide +kernel
theorem dX1_number_80 : decode cX1_number 80 = .ok (.dup2, 1) := by decide +kernel
theorem dX1_number_81 : decode cX1_number 81 = .ok (.iaload, 1) := by decide +kernel
theorem dX1_number_82 : decode cX1_number 82 = .ok (.aload_n 0, 1) := by decide +kernel
theorem dX1_number_83 : decode cX1_number 83 = .ok (.getfield 15, 3) := by decide +kernel
theorem dX1_number_86 : decode cX1_number 86 = .ok (.iload_n 2, 1) := by decide +kernel
theorem dX1_number_87 : decode cX1_number 87 = .ok (.iaload, 1) := by decide +kernel
theorem dX1_number_88 : decode cX1_number 88 = .ok (.iadd, 1) := by decide +kernel
theorem dX1_number_89 : decode cX1_number 89 = .ok (.iastore, 1) := by decide +kernel
theorem dX1_number_90 : decode cX1_number 90 = .ok (.iinc 3 1, 3) := by decide +kernel
theorem dX1_number_93 : decode cX1_number 93 = .ok (.goto (-48), 3) := by decide +kernel
theorem dX1_number_96 : decode cX1_number 96 = .ok (.iinc 2 1, 3) := by decide +kernel
theorem dX1_number_99 : decode cX1_number 99 = .ok (.goto (-61), 3) := by decide +kernel
theorem dX1_number_102 : decode cX1_number 102 = .ok (.aload_n 0, 1) := by decide +kernel
theorem dX1_number_103 : decode cX1_number 103 = .ok (.getfield 15, 3) := by decide +kernel
theorem dX1_number_106 : decode cX1_number 106 = .ok (.iload_n 1, 1) := by decide +kernel
theorem dX1_number_107 : decode cX1_number 107 = .ok (.iaload, 1) := by decide +kernel
theorem dX1_number_108 : decode cX1_number 108 = .ok (.ireturn, 1) := by decide +kernel
set_option maxRecDepth 20000 in
theorem ggX1_findFirst_X1_canFollow : GoodIn wsX1_findFirst wsX1_canFollow := goodIn_r _ [8, 9, 17, 18, 19, 20, 21] (by decide +kernel) (by decide +kernel)
set_option maxRecDepth 20000 in
theorem gX1_findFirst_X1_canFollow : GoodIn wsX1_findFirst (wsV RX1 39 RX1 yX1_canFollow wsX1_canFollow) := goodIn_app (goodIn_of _ (by decide +kernel)) ggX1_findFirst_X1_canFollow
set_option maxRecDepth 20000 in
theorem ggX1_findFirst_X3_add : GoodIn wsX1_findFirst wsX3_add := goodIn_r _ [14, 15, 16, 22, 23] (by decide +kernel) (by decide +kernel)
set_option maxRecDepth 20000 in
theorem gX1_findFirst_X3_add : GoodIn wsX1_findFirst (wsV RX1 45 RX3 yX3_add wsX3_add) := goodIn_app (goodIn_of _ (by decide +kernel)) ggX1_findFirst_X3_add
theorem dX1_findFirst_0 : decode cX1_findFirst 0 = .ok (.aload_n 0, 1) := by decide +kernel
theorem dX1_findFirst_1 : decode cX1_findFirst 1 = .ok (.getfield 24, 3) := by decide +kernel
theorem dX1_findFirst_4 : decode cX1_findFirst 4 = .ok (.iconst 0, 1) := by decide +kernel
theorem dX1_findFirst_5 : decode cX1_findFirst 5 = .ok (.putfield 42, 3) := by decide +kernel
theorem dX1_findFirst_8 : decode cX1_findFirst 8 = .ok (.iconst 0, 1) := by decide +kernel
theorem dX1_findFirst_9 : decode cX1_findFirst 9 = .ok (.istore_n 1, 1) := by decide +kernel
theorem dX1_findFirst_10 : decode cX1_findFirst 10 = .ok (.iconst 0, 1) := by decide +kernel
theorem dX1_findFirst_11 : decode cX1_findFirst 11 = .ok (.istore_n 2, 1) := by decide +kernel
theorem dX1_findFirst_12 : decode cX1_findFirst 12 = .ok (.iload_n 2, 1) := by decide +kernel
theorem dX1_findFirst_13 : decode cX1_findFirst 13 = .ok (.aload_n 0, 1) := by decide +kernel
theorem dX1_findFirst_14 : decode cX1_findFirst 14 = .ok (.getfield 34, 3) := by decide +kernel
theorem dX1_findFirst_17 : decode cX1_findFirst 17 = .ok (.if_icmp .ge 64, 3) := by decide +kernel
theorem dX1_findFirst_20 : decode cX1_findFirst 20 = .ok (.bipush (-4), 2) := by decide +kernel
theorem dX1_findFirst_22 : decode cX1_findFirst 22 = .ok (.istore_n 3, 1) := by decide +kernel
theorem dX1_findFirst_23 : decode cX1_findFirst 23 = .ok (.aload_n 0, 1) := by decide +kernel
theorem dX1_findFirst_24 : decode cX1_findFirst 24 = .ok (.getfield 34, 3) := by decide +kernel
theorem dX1_findFirst_27 : decode cX1_findFirst 27 = .ok (.iconst 1, 1) := by decide +kernel
theorem dX1_findFirst_28 : decode cX1_findFirst 28 = .ok (.isub, 1) := by decide +kernel
theorem dX1_findFirst_29 : decode cX1_findFirst 29 = .ok (.istore 4, 2) := by decide +kernel
theorem dX1_findFirst_31 : decode cX1_findFirst 31 = .ok (.iload 4, 2) := by decide +kernel
theorem dX1_findFirst_33 : decode cX1_findFirst 33 = .ok (.ifCond .lt 22, 3) := by decide +kernel
theorem dX1_findFirst_36 : decode cX1_findFirst 36 = .ok (.aload_n 0, 1) := by decide +kernel
theorem dX1_findFirst_37 : decode cX1_findFirst 37 = .ok (.iload 4, 2) := by decide +kernel
theorem dX1_findFirst_39 : decode cX1_findFirst 39 = .ok (.iload_n 1, 1) := by decide +kernel
theorem dX1_findFirst_40 : decode cX1_findFirst 40 = .ok (.invokevirtual 39, 3) := by decide +kernel
theorem dX1_findFirst_43 : decode cX1_findFirst 43 = .ok (.ifCond .eq 6, 3) := by decide +kernel
theorem dX1_findFirst_46 : decode cX1_findFirst 46 = .ok (.iload 4, 2) := by decide +kernel
theorem dX1_findFirst_48 : decode cX1_findFirst 48 = .ok (.istore_n 3, 1) := by decide +kernel
theorem dX1_findFirst_49 : decode cX1_findFirst 49 = .ok (.iinc 4 (-1), 3) := by decide +kernel
theorem dX1_findFirst_52 : decode cX1_findFirst 52 = .ok (.goto (-21), 3) := by decide +kernel
theorem dX1_findFirst_55 : decode cX1_findFirst 55 = .ok (.iload_n 3, 1) := by decide +kernel
theorem dX1_findFirst_56 : decode cX1_findFirst 56 = .ok (.ifCond .ge 5, 3) := by decide +kernel
theorem dX1_findFirst_59 : decode cX1_findFirst 59 = .ok (.iconst 0, 1) := by decide +kernel
theorem dX1_findFirst_60 : decode cX1_findFirst 60 = .ok (.ireturn, 1) := by decide +kernel
theorem dX1_findFirst_61 : decode cX1_findFirst 61 = .ok (.aload_n 0, 1) := by decide +kernel
theorem dX1_findFirst_62 : decode cX1_findFirst 62 = .ok (.getfield 24, 3) := by decide +kernel
theorem dX1_findFirst_65 : decode cX1_findFirst 65 = .ok (.iload_n 3, 1) := by decide +kernel
theorem dX1_findFirst_66 : decode cX1_findFirst 66 = .ok (.invokevirtual 45, 3) := by decide +kernel
theorem dX1_findFirst_69 : decode cX1_findFirst 69 = .ok (.iload_n 1, 1) := by decide +kernel
theorem dX1_findFirst_70 : decode cX1_findFirst 70 = .ok (.iconst 1, 1) := by decide +kernel
theorem dX1_findFirst_71 : decode cX1_findFirst 71 = .ok (.iload_n 3, 1) := by decide +kernel
theorem dX1_findFirst_72 : decode cX1_findFirst 72 = .ok (.ishl, 1) := by decide +kernel
theorem dX1_findFirst_73 : decode cX1_findFirst 73 = .ok (.ior, 1) := by decide +kernel
theorem dX1_findFirst_74 : decode cX1_findFirst 74 = .ok (.istore_n 1, 1) := by decide +kernel
theorem dX1_findFirst_75 : decode cX1_findFirst 75 = .ok (.iinc 2 1, 3) := by decide +kernel
theorem dX1_findFirst_78 : decode cX1_findFirst 78 = .ok (.goto (-66), 3) := by decide +kernel
theorem dX1_findFirst_81 : decode cX1_findFirst 81 = .ok (.iconst 1, 1) := by decide +kernel
theorem dX1_findFirst_82 : decode cX1_findFirst 82 = .ok (.ireturn, 1) := by decide +kernel
theorem dX1_ringed_0 : decode cX1_ringed 0 = .ok (.iconst 0, 1) := by decide +kernel
theorem dX1_ringed_1 : decode cX1_ringed 1 = .ok (.istore_n 1, 1) := by decide +kernel
theorem dX1_ringed_2 : decode cX1_ringed 2 = .ok (.iload_n 1, 1) := by decide +kernel
theorem dX1_ringed_3 : decode cX1_ringed 3 = .ok (.aload_n 0, 1) := by decide +kernel
theorem dX1_ringed_4 : decode cX1_ringed 4 = .ok (.getfield 34, 3) := by decide +kernel
theorem dX1_ringed_7 : decode cX1_ringed 7 = .ok (.if_icmp .ge 53, 3) := by decide +kernel
theorem dX1_ringed_10 : decode cX1_ringed 10 = .ok (.iconst 0, 1) := by decide +kernel
theorem dX1_ringed_11 : decode cX1_ringed 11 = .ok (.istore_n 2, 1) := by decide +kernel
theorem dX1_ringed_12 : decode cX1_ringed 12 = .ok (.iload_n 2, 1) := by decide +kernel
theorem dX1_ringed_13 : decode cX1_ringed 13 = .ok (.aload_n 0, 1) := by decide +kernel
theorem dX1_ringed_14 : decode cX1_ringed 14 = .ok (.getfield 34, 3) := by decide +kernel
theorem dX1_ringed_17 : decode cX1_ringed 17 = .ok (.if_icmp .ge 37, 3) := by decide +kernel
theorem dX1_ringed_20 : decode cX1_ringed 20 = .ok (.aload_n 0, 1) := by decide +kernel
theorem dX1_ringed_21 : decode cX1_ringed 21 = .ok (.getfield 9, 3) := by decide +kernel
theorem dX1_ringed_24 : decode cX1_ringed 24 = .ok (.iload_n 2, 1) := by decide +kernel
theorem dX1_ringed_25 : decode cX1_ringed 25 = .ok (.iaload, 1) := by decide +kernel
theorem dX1_ringed_26 : decode cX1_ringed 26 = .ok (.iload_n 1, 1) := by decide +kernel
theorem dX1_ringed_27 : decode cX1_ringed 27 = .ok (.ishr, 1) := by decide +kernel
theorem dX1_ringed_28 : decode cX1_ringed 28 = .ok (.iconst 1, 1) := by decide +kernel
theorem dX1_ringed_29 : decode cX1_ringed 29 = .ok (.iand, 1) := by decide +kernel
theorem dX1_ringed_30 : decode cX1_ringed 30 = .ok (.ifCond .eq 18, 3) := by decide +kernel
theorem dX1_ringed_33 : decode cX1_ringed 33 = .ok (.aload_n 0, 1) := by decide +kernel
theorem dX1_ringed_34 : decode cX1_ringed 34 = .ok (.getfield 9, 3) := by decide +kernel
theorem dX1_ringed_37 : decode cX1_ringed 37 = .ok (.iload_n 2, 1) := by decide +kernel
theorem dX1_ringed_38 : decode cX1_ringed 38 = .ok (.dup2, 1) := by decide +kernel
theorem dX1_ringed_39 : decode cX1_ringed 39 = .ok (.iaload, 1) := by decide +kernel
theorem dX1_ringed_40 : decode cX1_ringed 40 = .ok (.aload_n 0, 1) := by decide +kernel
theorem dX1_ringed_41 : decode cX1_ringed 41 = .ok (.getfield 9, 3) := by decide +kernel
theorem dX1_ringed_44 : decode cX1_ringed 44 = .ok (.iload_n 1, 1) := by decide +kernel
theorem dX1_ringed_45 : decode cX1_ringed 45 = .ok (.iaload, 1) := by decide +kernel
theorem dX1_ringed_46 : decode cX1_ringed 46 = .ok (.ior, 1) := by decide +kernel
theorem dX1_ringed_47 : decode cX1_ringed 47 = .ok (.iastore, 1) := by decide +kernel
theorem dX1_ringed_48 : decode cX1_ringed 48 = .ok (.iinc 2 1, 3) := by decide +kernel
theorem dX1_ringed_51 : decode cX1_ringed 51 = .ok (.goto (-39), 3) := by decide +kernel
theorem dX1_ringed_54 : decode cX1_ringed 54 = .ok (.iinc 1 1, 3) := by decide +kernel
theorem dX1_ringed_57 : decode cX1_ringed 57 = .ok (.goto (-55), 3) := by decide +kernel
theorem dX1_ringed_60 : decode cX1_ringed 60 = .ok (.iconst 0, 1) := by decide +kernel
theorem dX1_ringed_61 : decode cX1_ringed 61 = .ok (.istore_n 1, 1) := by decide +kernel
theorem dX1_ringed_62 : decode cX1_ringed 62 = .ok (.iconst 0, 1) := by decide +kernel
theorem dX1_ringed_63 : decode cX1_ringed 63 = .ok (.istore_n 2, 1) := by decide +kernel
theorem dX1_ringed_64 : decode cX1_ringed 64 = .ok (.iload_n 2, 1) := by decide +kernel
theorem dX1_ringed_65 : decode cX1_ringed 65 = .ok (.aload_n 0, 1) := by decide +kernel
theorem dX1_ringed_66 : decode cX1_ringed 66 = .ok (.getfield 34, 3) := by decide +kernel
theorem dX1_ringed_69 : decode cX1_ringed 69 = .ok (.if_icmp .ge 22, 3) := by decide +kernel
theorem dX1_ringed_72 : decode cX1_ringed 72 = .ok (.iload_n 1, 1) := by decide +kernel
theorem dX1_ringed_73 : decode cX1_ringed 73 = .ok (.aload_n 0, 1) := by decide +kernel
theorem dX1_ringed_74 : decode cX1_ringed 74 = .ok (.getfield 9, 3) := by decide +kernel
theorem dX1_ringed_77 : decode cX1_ringed 77 = .ok (.iload_n 2, 1) := by decide +kernel
theorem dX1_ringed_78 : decode cX1_ringed 78 = .ok (.iaload, 1) := by decide +kernel
theorem dX1_ringed_79 : decode cX1_ringed 79 = .ok (.iconst 1, 1) := by decide +kernel
theorem dX1_ringed_80 : decode cX1_ringed 80 = .ok (.iload_n 2, 1) := by decide +kernel
theorem dX1_ringed_81 : decode cX1_ringed 81 = .ok (.ishl, 1) := by decide +kernel
theorem dX1_ringed_82 : decode cX1_ringed 82 = .ok (.iand, 1) := by decide +kernel
theorem dX1_ringed_83 : decode cX1_ringed 83 = .ok (.ior, 1) := by decide +kernel
theorem dX1_ringed_84 : decode cX1_ringed 84 = .ok (.istore_n 1, 1) := by decide +kernel
theorem dX1_ringed_85 : decode cX1_ringed 85 = .ok (.iinc 2 1, 3) := by decide +kernel
theorem dX1_ringed_88 : decode cX1_ringed 88 = .ok (.goto (-24), 3) := by decide +kernel
theorem dX1_ringed_91 : decode cX1_ringed 91 = .ok (.iload_n 1, 1) := by decide +kernel
theorem dX1_ringed_92 : decode cX1_ringed 92 = .ok (.ireturn, 1) := by decide +kernel
set_option maxRecDepth 20000 in
theorem ggX1_findBest_X1_weighRests : GoodIn wsX1_findBest wsX1_weighRests := goodIn_r _ [9, 4, 1, 10, 11, 12, 8, 13, 14, 15, 16, 17, 18, 19, 20, 21, 22, 23, 24, 32, 33, 34, 35, 36, 39, 40, 41, 42, 43, 44, 45, 46, 47, 48] (by decide +kernel) (by decide +kernel)
set_option maxRecDepth 20000 in
theorem gX1_findBest_X1_weighRests : GoodIn wsX1_findBest (wsV RX1 49 RX1 yX1_weighRests wsX1_weighRests) := goodIn_app (goodIn_of _ (by decide +kernel)) ggX1_findBest_X1_weighRests
set_option maxRecDepth 20000 in
theorem ggX1_findBest_X1_minutesOf : GoodIn wsX1_findBest wsX1_minutesOf := goodIn_r _ [13, 4, 14, 32, 33, 34, 35, 36, 39, 40, 41, 42, 43, 44, 45, 46, 47, 48] (by decide +kernel) (by decide +kernel)
set_option maxRecDepth 20000 in
theorem gX1_findBest_X1_minutesOf : GoodIn wsX1_findBest (wsV RX1 53 RX1 yX1_minutesOf wsX1_minutesOf) := goodIn_app (goodIn_of _ (by decide +kernel)) ggX1_findBest_X1_minutesOf
set_option maxRecDepth 20000 in
theorem ggX1_findBest_X1_costWith : GoodIn wsX1_findBest wsX1_costWith := goodIn_r _ [18, 1, 19, 20, 21, 22, 8, 23, 24, 32, 33, 34, 35, 36, 39, 40, 41, 42, 43, 44, 45, 46, 47, 48] (by decide +kernel) (by decide +kernel)
set_option maxRecDepth 20000 in
theorem gX1_findBest_X1_costWith : GoodIn wsX1_findBest (wsV RX1 57 RX1 yX1_costWith wsX1_costWith) := goodIn_app (goodIn_of _ (by decide +kernel)) ggX1_findBest_X1_costWith
set_option maxRecDepth 20000 in
theorem ggX1_findBest_X3_add : GoodIn wsX1_findBest wsX3_add := goodIn_r _ [29, 30, 31, 37, 38] (by decide +kernel) (by decide +kernel)
set_option maxRecDepth 20000 in
theorem gX1_findBest_X3_add : GoodIn wsX1_findBest (wsV RX1 45 RX3 yX3_add wsX3_add) := goodIn_app (goodIn_of _ (by decide +kernel)) ggX1_findBest_X3_add
theorem dX1_findBest_0 : decode cX1_findBest 0 = .ok (.aload_n 0, 1) := by decide +kernel
theorem dX1_findBest_1 : decode cX1_findBest 1 = .ok (.aload_n 1, 1) := by decide +kernel
theorem dX1_findBest_2 : decode cX1_findBest 2 = .ok (.invokevirtual 49, 3) := by decide +kernel
theorem dX1_findBest_5 : decode cX1_findBest 5 = .ok (.aload_n 0, 1) := by decide +kernel
theorem dX1_findBest_6 : decode cX1_findBest 6 = .ok (.getfield 18, 3) := by decide +kernel
theorem dX1_findBest_9 : decode cX1_findBest 9 = .ok (.iconst 0, 1) := by decide +kernel
theorem dX1_findBest_10 : decode cX1_findBest 10 = .ok (.iaload, 1) := by decide +kernel
theorem dX1_findBest_11 : decode cX1_findBest 11 = .ok (.ifCond .ge 5, 3) := by decide +kernel
theorem dX1_findBest_14 : decode cX1_findBest 14 = .ok (.iconst 0, 1) := by decide +kernel
theorem dX1_findBest_15 : decode cX1_findBest 15 = .ok (.ireturn, 1) := by decide +kernel
theorem dX1_findBest_16 : decode cX1_findBest 16 = .ok (.aload_n 0, 1) := by decide +kernel
theorem dX1_findBest_17 : decode cX1_findBest 17 = .ok (.getfield 24, 3) := by decide +kernel
theorem dX1_findBest_20 : decode cX1_findBest 20 = .ok (.iconst 0, 1) := by decide +kernel
theorem dX1_findBest_21 : decode cX1_findBest 21 = .ok (.putfield 42, 3) := by decide +kernel
theorem dX1_findBest_24 : decode cX1_findBest 24 = .ok (.iconst 0, 1) := by decide +kernel
theorem dX1_findBest_25 : decode cX1_findBest 25 = .ok (.istore_n 2, 1) := by decide +kernel
theorem dX1_findBest_26 : decode cX1_findBest 26 = .ok (.iconst 0, 1) := by decide +kernel
theorem dX1_findBest_27 : decode cX1_findBest 27 = .ok (.istore_n 3, 1) := by decide +kernel
theorem dX1_findBest_28 : decode cX1_findBest 28 = .ok (.iload_n 3, 1) := by decide +kernel
theorem dX1_findBest_29 : decode cX1_findBest 29 = .ok (.aload_n 0, 1) := by decide +kernel
theorem dX1_findBest_30 : decode cX1_findBest 30 = .ok (.getfield 34, 3) := by decide +kernel
theorem dX1_findBest_33 : decode cX1_findBest 33 = .ok (.if_icmp .ge 86, 3) := by decide +kernel
theorem dX1_findBest_36 : decode cX1_findBest 36 = .ok (.aload_n 0, 1) := by decide +kernel
theorem dX1_findBest_37 : decode cX1_findBest 37 = .ok (.aload_n 1, 1) := by decide +kernel
theorem dX1_findBest_38 : decode cX1_findBest 38 = .ok (.iload_n 2, 1) := by decide +kernel
theorem dX1_findBest_39 : decode cX1_findBest 39 = .ok (.invokevirtual 53, 3) := by decide +kernel
theorem dX1_findBest_42 : decode cX1_findBest 42 = .ok (.istore 4, 2) := by decide +kernel
theorem dX1_findBest_44 : decode cX1_findBest 44 = .ok (.bipush (-4), 2) := by decide +kernel
theorem dX1_findBest_46 : decode cX1_findBest 46 = .ok (.istore 5, 2) := by decide +kernel
theorem dX1_findBest_48 : decode cX1_findBest 48 = .ok (.aload_n 0, 1) := by decide +kernel
theorem dX1_findBest_49 : decode cX1_findBest 49 = .ok (.getfield 34, 3) := by decide +kernel
theorem dX1_findBest_52 : decode cX1_findBest 52 = .ok (.iconst 1, 1) := by decide +kernel
theorem dX1_findBest_53 : decode cX1_findBest 53 = .ok (.isub, 1) := by decide +kernel
theorem dX1_findBest_54 : decode cX1_findBest 54 = .ok (.istore 6, 2) := by decide +kernel
theorem dX1_findBest_56 : decode cX1_findBest 56 = .ok (.iload 6, 2) := by decide +kernel
theorem dX1_findBest_58 : decode cX1_findBest 58 = .ok (.ifCond .lt 32, 3) := by decide +kernel
theorem dX1_findBest_61 : decode cX1_findBest 61 = .ok (.aload_n 0, 1) := by decide +kernel
theorem dX1_findBest_62 : decode cX1_findBest 62 = .ok (.aload_n 1, 1) := by decide +kernel
theorem dX1_findBest_63 : decode cX1_findBest 63 = .ok (.iload 6, 2) := by decide +kernel
theorem dX1_findBest_65 : decode cX1_findBest 65 = .ok (.iload_n 2, 1) := by decide +kernel
theorem dX1_findBest_66 : decode cX1_findBest 66 = .ok (.iload 4, 2) := by decide +kernel
theorem dX1_findBest_68 : decode cX1_findBest 68 = .ok (.invokevirtual 57, 3) := by decide +kernel
theorem dX1_findBest_71 : decode cX1_findBest 71 = .ok (.aload_n 0, 1) := by decide +kernel
theorem dX1_findBest_72 : decode cX1_findBest 72 = .ok (.getfield 18, 3) := by decide +kernel
theorem dX1_findBest_75 : decode cX1_findBest 75 = .ok (.iload_n 2, 1) := by decide +kernel
theorem dX1_findBest_76 : decode cX1_findBest 76 = .ok (.iaload, 1) := by decide +kernel
theorem dX1_findBest_77 : decode cX1_findBest 77 = .ok (.if_icmp .ne 7, 3) := by decide +kernel
theorem dX1_findBest_80 : decode cX1_findBest 80 = .ok (.iload 6, 2) := by decide +kernel
theorem dX1_findBest_82 : decode cX1_findBest 82 = .ok (.istore 5, 2) := by decide +kernel
theorem dX1_findBest_84 : decode cX1_findBest 84 = .ok (.iinc 6 (-1), 3) := by decide +kernel
theorem dX1_findBest_87 : decode cX1_findBest 87 = .ok (.goto (-31), 3) := by decide +kernel
theorem dX1_findBest_90 : decode cX1_findBest 90 = .ok (.iload 5, 2) := by decide +kernel
theorem dX1_findBest_92 : decode cX1_findBest 92 = .ok (.ifCond .ge 5, 3) := by decide +kernel
theorem dX1_findBest_95 : decode cX1_findBest 95 = .ok (.iconst 0, 1) := by decide +kernel
theorem dX1_findBest_96 : decode cX1_findBest 96 = .ok (.ireturn, 1) := by decide +kernel
theorem dX1_findBest_97 : decode cX1_findBest 97 = .ok (.aload_n 0, 1) := by decide +kernel
theorem dX1_findBest_98 : decode cX1_findBest 98 = .ok (.getfield 24, 3) := by decide +kernel
theorem dX1_findBest_101 : decode cX1_findBest 101 = .ok (.iload 5, 2) := by decide +kernel
theorem dX1_findBest_103 : decode cX1_findBest 103 = .ok (.invokevirtual 45, 3) := by decide +kernel
theorem dX1_findBest_106 : decode cX1_findBest 106 = .ok (.iload_n 2, 1) := by decide +kernel
theorem dX1_findBest_107 : decode cX1_findBest 107 = .ok (.iconst 1, 1) := by decide +kernel
theorem dX1_findBest_108 : decode cX1_findBest 108 = .ok (.iload 5, 2) := by decide +kernel
theorem dX1_findBest_110 : decode cX1_findBest 110 = .ok (.ishl, 1) := by decide +kernel
theorem dX1_findBest_111 : decode cX1_findBest 111 = .ok (.ior, 1) := by decide +kernel
theorem dX1_findBest_112 : decode cX1_findBest 112 = .ok (.istore_n 2, 1) := by decide +kernel
theorem dX1_findBest_113 : decode cX1_findBest 113 = .ok (.iinc 3 1, 3) := by decide +kernel
theorem dX1_findBest_116 : decode cX1_findBest 116 = .ok (.goto (-88), 3) := by decide +kernel
theorem dX1_findBest_119 : decode cX1_findBest 119 = .ok (.iconst 1, 1) := by decide +kernel
theorem dX1_findBest_120 : decode cX1_findBest 120 = .ok (.ireturn, 1) := by decide +kernel
theorem dX1_leastCost_0 : decode cX1_leastCost 0 = .ok (.aload_n 0, 1) := by decide +kernel
theorem dX1_leastCost_1 : decode cX1_leastCost 1 = .ok (.getfield 18, 3) := by decide +kernel
theorem dX1_leastCost_4 : decode cX1_leastCost 4 = .ok (.iconst 0, 1) := by decide +kernel
theorem dX1_leastCost_5 : decode cX1_leastCost 5 = .ok (.iaload, 1) := by decide +kernel
theorem dX1_leastCost_6 : decode cX1_leastCost 6 = .ok (.ireturn, 1) := by decide +kernel
set_option maxRecDepth 20000 in
theorem ggX1_weighRests_X1_minutesOf : GoodIn wsX1_weighRests wsX1_minutesOf := goodIn_r _ [7, 1, 8, 19, 20, 21, 22, 23, 24, 25, 26, 27, 28, 29, 30, 31, 32, 33] (by decide +kernel) (by decide +kernel)
set_option maxRecDepth 20000 in
theorem gX1_weighRests_X1_minutesOf : GoodIn wsX1_weighRests (wsV RX1 53 RX1 yX1_minutesOf wsX1_minutesOf) := goodIn_app (goodIn_of _ (by decide +kernel)) ggX1_weighRests_X1_minutesOf
set_option maxRecDepth 20000 in
theorem ggX1_weighRests_X1_costWith : GoodIn wsX1_weighRests wsX1_costWith := goodIn_r _ [12, 2, 13, 14, 15, 16, 6, 17, 18, 19, 20, 21, 22, 23, 24, 25, 26, 27, 28, 29, 30, 31, 32, 33] (by decide +kernel) (by decide +kernel)
set_option maxRecDepth 20000 in
theorem gX1_weighRests_X1_costWith : GoodIn wsX1_weighRests (wsV RX1 57 RX1 yX1_costWith wsX1_costWith) := goodIn_app (goodIn_of _ (by decide +kernel)) ggX1_weighRests_X1_costWith
theorem dX1_weighRests_0 : decode cX1_weighRests 0 = .ok (.iconst 1, 1) := by decide +kernel
theorem dX1_weighRests_1 : decode cX1_weighRests 1 = .ok (.aload_n 0, 1) := by decide +kernel
theorem dX1_weighRests_2 : decode cX1_weighRests 2 = .ok (.getfield 34, 3) := by decide +kernel
theorem dX1_weighRests_5 : decode cX1_weighRests 5 = .ok (.ishl, 1) := by decide +kernel
theorem dX1_weighRests_6 : decode cX1_weighRests 6 = .ok (.iconst 1, 1) := by decide +kernel
theorem dX1_weighRests_7 : decode cX1_weighRests 7 = .ok (.isub, 1) := by decide +kernel
theorem dX1_weighRests_8 : decode cX1_weighRests 8 = .ok (.istore_n 2, 1) := by decide +kernel
theorem dX1_weighRests_9 : decode cX1_weighRests 9 = .ok (.aload_n 0, 1) := by decide +kernel
theorem dX1_weighRests_10 : decode cX1_weighRests 10 = .ok (.getfield 18, 3) := by decide +kernel
theorem dX1_weighRests_13 : decode cX1_weighRests 13 = .ok (.iload_n 2, 1) := by decide +kernel
theorem dX1_weighRests_14 : decode cX1_weighRests 14 = .ok (.iconst 0, 1) := by decide +kernel
theorem dX1_weighRests_15 : decode cX1_weighRests 15 = .ok (.iastore, 1) := by decide +kernel
theorem dX1_weighRests_16 : decode cX1_weighRests 16 = .ok (.iload_n 2, 1) := by decide +kernel
theorem dX1_weighRests_17 : decode cX1_weighRests 17 = .ok (.iconst 1, 1) := by decide +kernel
theorem dX1_weighRests_18 : decode cX1_weighRests 18 = .ok (.isub, 1) := by decide +kernel
theorem dX1_weighRests_19 : decode cX1_weighRests 19 = .ok (.istore_n 3, 1) := by decide +kernel
theorem dX1_weighRests_20 : decode cX1_weighRests 20 = .ok (.iload_n 3, 1) := by decide +kernel
theorem dX1_weighRests_21 : decode cX1_weighRests 21 = .ok (.ifCond .lt 80, 3) := by decide +kernel
theorem dX1_weighRests_24 : decode cX1_weighRests 24 = .ok (.aload_n 0, 1) := by decide +kernel
theorem dX1_weighRests_25 : decode cX1_weighRests 25 = .ok (.aload_n 1, 1) := by decide +kernel
theorem dX1_weighRests_26 : decode cX1_weighRests 26 = .ok (.iload_n 3, 1) := by decide +kernel
theorem dX1_weighRests_27 : decode cX1_weighRests 27 = .ok (.invokevirtual 53, 3) := by decide +kernel
theorem dX1_weighRests_30 : decode cX1_weighRests 30 = .ok (.istore 4, 2) := by decide +kernel
theorem dX1_weighRests_32 : decode cX1_weighRests 32 = .ok (.bipush (-4), 2) := by decide +kernel
theorem dX1_weighRests_34 : decode cX1_weighRests 34 = .ok (.istore 5, 2) := by decide +kernel
theorem dX1_weighRests_36 : decode cX1_weighRests 36 = .ok (.iconst 0, 1) := by decide +kernel
theorem dX1_weighRests_37 : decode cX1_weighRests 37 = .ok (.istore 6, 2) := by decide +kernel
theorem dX1_weighRests_39 : decode cX1_weighRests 39 = .ok (.iload 6, 2) := by decide +kernel
theorem dX1_weighRests_41 : decode cX1_weighRests 41 = .ok (.aload_n 0, 1) := by decide +kernel
theorem dX1_weighRests_42 : decode cX1_weighRests 42 = .ok (.getfield 34, 3) := by decide +kernel
theorem dX1_weighRests_45 : decode cX1_weighRests 45 = .ok (.if_icmp .ge 42, 3) := by decide +kernel
theorem dX1_weighRests_48 : decode cX1_weighRests 48 = .ok (.aload_n 0, 1) := by decide +kernel
theorem dX1_weighRests_49 : decode cX1_weighRests 49 = .ok (.aload_n 1, 1) := by decide +kernel
theorem dX1_weighRests_50 : decode cX1_weighRests 50 = .ok (.iload 6, 2) := by decide +kernel
theorem dX1_weighRests_52 : decode cX1_weighRests 52 = .ok (.iload_n 3, 1) := by decide +kernel
theorem dX1_weighRests_53 : decode cX1_weighRests 53 = .ok (.iload 4, 2) := by decide +kernel
theorem dX1_weighRests_55 : decode cX1_weighRests 55 = .ok (.invokevirtual 57, 3) := by decide +kernel
theorem dX1_weighRests_58 : decode cX1_weighRests 58 = .ok (.istore 7, 2) := by decide +kernel
theorem dX1_weighRests_60 : decode cX1_weighRests 60 = .ok (.iload 7, 2) := by decide +kernel
theorem dX1_weighRests_62 : decode cX1_weighRests 62 = .ok (.ifCond .lt 19, 3) := by decide +kernel
theorem dX1_weighRests_65 : decode cX1_weighRests 65 = .ok (.iload 5, 2) := by decide +kernel
theorem dX1_weighRests_67 : decode cX1_weighRests 67 = .ok (.ifCond .lt 10, 3) := by decide +kernel
theorem dX1_weighRests_70 : decode cX1_weighRests 70 = .ok (.iload 7, 2) := by decide +kernel
theorem dX1_weighRests_72 : decode cX1_weighRests 72 = .ok (.iload 5, 2) := by decide +kernel
theorem dX1_weighRests_74 : decode cX1_weighRests 74 = .ok (.if_icmp .ge 7, 3) := by decide +kernel
theorem dX1_weighRests_77 : decode cX1_weighRests 77 = .ok (.iload 7, 2) := by decide +kernel
theorem dX1_weighRests_79 : decode cX1_weighRests 79 = .ok (.istore 5, 2) := by decide +kernel
theorem dX1_weighRests_81 : decode cX1_weighRests 81 = .ok (.iinc 6 1, 3) := by decide +kernel
theorem dX1_weighRests_84 : decode cX1_weighRests 84 = .ok (.goto (-45), 3) := by decide +kernel
theorem dX1_weighRests_87 : decode cX1_weighRests 87 = .ok (.aload_n 0, 1) := by decide +kernel
theorem dX1_weighRests_88 : decode cX1_weighRests 88 = .ok (.getfield 18, 3) := by decide +kernel
theorem dX1_weighRests_91 : decode cX1_weighRests 91 = .ok (.iload_n 3, 1) := by decide +kernel
theorem dX1_weighRests_92 : decode cX1_weighRests 92 = .ok (.iload 5, 2) := by decide +kernel
theorem dX1_weighRests_94 : decode cX1_weighRests 94 = .ok (.iastore, 1) := by decide +kernel
theorem dX1_weighRests_95 : decode cX1_weighRests 95 = .ok (.iinc 3 (-1), 3) := by decide +kernel
theorem dX1_weighRests_98 : decode cX1_weighRests 98 = .ok (.goto (-78), 3) := by decide +kernel
theorem dX1_weighRests_101 : decode cX1_weighRests 101 = .ok (.return_, 1) := by decide +kernel
set_option maxRecDepth 20000 in
theorem ggX1_costWith_X1_canFollow : GoodIn wsX1_costWith wsX1_canFollow := goodIn_r _ [7, 8, 9, 10, 11, 12, 13] (by decide +kernel) (by decide +kernel)
set_option maxRecDepth 20000 in
theorem gX1_costWith_X1_canFollow : GoodIn wsX1_costWith (wsV RX1 39 RX1 yX1_canFollow wsX1_canFollow) := goodIn_app (goodIn_of _ (by decide +kernel)) ggX1_costWith_X1_canFollow
theorem dX1_costWith_0 : decode cX1_costWith 0 = .ok (.aload_n 0, 1) := by decide +kernel
theorem dX1_costWith_1 : decode cX1_costWith 1 = .ok (.iload_n 2, 1) := by decide +kernel
theorem dX1_costWith_2 : decode cX1_costWith 2 = .ok (.iload_n 3, 1) := by decide +kernel
theorem dX1_costWith_3 : decode cX1_costWith 3 = .ok (.invokevirtual 39, 3) := by decide +kernel
theorem dX1_costWith_6 : decode cX1_costWith 6 = .ok (.ifCond .ne 5, 3) := by decide +kernel
theorem dX1_costWith_9 : decode cX1_costWith 9 = .ok (.iconst (-1), 1) := by decide +kernel
theorem dX1_costWith_10 : decode cX1_costWith 10 = .ok (.ireturn, 1) := by decide +kernel
theorem dX1_costWith_11 : decode cX1_costWith 11 = .ok (.aload_n 0, 1) := by decide +kernel
theorem dX1_costWith_12 : decode cX1_costWith 12 = .ok (.getfield 18, 3) := by decide +kernel
theorem dX1_costWith_15 : decode cX1_costWith 15 = .ok (.iload_n 3, 1) := by decide +kernel
theorem dX1_costWith_16 : decode cX1_costWith 16 = .ok (.iconst 1, 1) := by decide +kernel
theorem dX1_costWith_17 : decode cX1_costWith 17 = .ok (.iload_n 2, 1) := by decide +kernel
theorem dX1_costWith_18 : decode cX1_costWith 18 = .ok (.ishl, 1) := by decide +kernel
theorem dX1_costWith_19 : decode cX1_costWith 19 = .ok (.ior, 1) := by decide +kernel
theorem dX1_costWith_20 : decode cX1_costWith 20 = .ok (.iaload, 1) := by decide +kernel
theorem dX1_costWith_21 : decode cX1_costWith 21 = .ok (.istore 5, 2) := by decide +kernel
theorem dX1_costWith_23 : decode cX1_costWith 23 = .ok (.iload 5, 2) := by decide +kernel
theorem dX1_costWith_25 : decode cX1_costWith 25 = .ok (.ifCond .ge 7, 3) := by decide +kernel
theorem dX1_costWith_28 : decode cX1_costWith 28 = .ok (.iconst (-1), 1) := by decide +kernel
theorem dX1_costWith_29 : decode cX1_costWith 29 = .ok (.goto 15, 3) := by decide +kernel
theorem dX1_costWith_32 : decode cX1_costWith 32 = .ok (.aload_n 1, 1) := by decide +kernel
theorem dX1_costWith_33 : decode cX1_costWith 33 = .ok (.getfield 61, 3) := by decide +kernel
theorem dX1_costWith_36 : decode cX1_costWith 36 = .ok (.iload_n 2, 1) := by decide +kernel
theorem dX1_costWith_37 : decode cX1_costWith 37 = .ok (.iaload, 1) := by decide +kernel
theorem dX1_costWith_38 : decode cX1_costWith 38 = .ok (.iload 4, 2) := by decide +kernel
theorem dX1_costWith_40 : decode cX1_costWith 40 = .ok (.imul, 1) := by decide +kernel
theorem dX1_costWith_41 : decode cX1_costWith 41 = .ok (.iload 5, 2) := by decide +kernel
theorem dX1_costWith_43 : decode cX1_costWith 43 = .ok (.iadd, 1) := by decide +kernel
theorem dX1_costWith_44 : decode cX1_costWith 44 = .ok (.ireturn, 1) := by decide +kernel
theorem dX1_minutesOf_0 : decode cX1_minutesOf 0 = .ok (.iconst 0, 1) := by decide +kernel
theorem dX1_minutesOf_1 : decode cX1_minutesOf 1 = .ok (.istore_n 3, 1) := by decide +kernel
theorem dX1_minutesOf_2 : decode cX1_minutesOf 2 = .ok (.iconst 0, 1) := by decide +kernel
theorem dX1_minutesOf_3 : decode cX1_minutesOf 3 = .ok (.istore 4, 2) := by decide +kernel
theorem dX1_minutesOf_5 : decode cX1_minutesOf 5 = .ok (.iload 4, 2) := by decide +kernel
theorem dX1_minutesOf_7 : decode cX1_minutesOf 7 = .ok (.aload_n 0, 1) := by decide +kernel
theorem dX1_minutesOf_8 : decode cX1_minutesOf 8 = .ok (.getfield 34, 3) := by decide +kernel
theorem dX1_minutesOf_11 : decode cX1_minutesOf 11 = .ok (.if_icmp .ge 32, 3) := by decide +kernel
theorem dX1_minutesOf_14 : decode cX1_minutesOf 14 = .ok (.iload_n 3, 1) := by decide +kernel
theorem dX1_minutesOf_15 : decode cX1_minutesOf 15 = .ok (.iload_n 2, 1) := by decide +kernel
theorem dX1_minutesOf_16 : decode cX1_minutesOf 16 = .ok (.iload 4, 2) := by decide +kernel
theorem dX1_minutesOf_18 : decode cX1_minutesOf 18 = .ok (.ishr, 1) := by decide +kernel
theorem dX1_minutesOf_19 : decode cX1_minutesOf 19 = .ok (.iconst 1, 1) := by decide +kernel
theorem dX1_minutesOf_20 : decode cX1_minutesOf 20 = .ok (.iand, 1) := by decide +kernel
theorem dX1_minutesOf_21 : decode cX1_minutesOf 21 = .ok (.ifCond .eq 13, 3) := by decide +kernel
theorem dX1_minutesOf_24 : decode cX1_minutesOf 24 = .ok (.aload_n 1, 1) := by decide +kernel
theorem dX1_minutesOf_25 : decode cX1_minutesOf 25 = .ok (.getfield 64, 3) := by decide +kernel
theorem dX1_minutesOf_28 : decode cX1_minutesOf 28 = .ok (.iload 4, 2) := by decide +kernel
theorem dX1_minutesOf_30 : decode cX1_minutesOf 30 = .ok (.iaload, 1) := by decide +kernel
theorem dX1_minutesOf_31 : decode cX1_minutesOf 31 = .ok (.goto 4, 3) := by decide +kernel
theorem dX1_minutesOf_34 : decode cX1_minutesOf 34 = .ok (.iconst 0, 1) := by decide +kernel
theorem dX1_minutesOf_35 : decode cX1_minutesOf 35 = .ok (.iadd, 1) := by decide +kernel
theorem dX1_minutesOf_36 : decode cX1_minutesOf 36 = .ok (.istore_n 3, 1) := by decide +kernel
theorem dX1_minutesOf_37 : decode cX1_minutesOf 37 = .ok (.iinc 4 1, 3) := by decide +kernel
theorem dX1_minutesOf_40 : decode cX1_minutesOf 40 = .ok (.goto (-35), 3) := by decide +kernel
theorem dX1_minutesOf_43 : decode cX1_minutesOf 43 = .ok (.iload_n 3, 1) := by decide +kernel
theorem dX1_minutesOf_44 : decode cX1_minutesOf 44 = .ok (.ireturn, 1) := by decide +kernel
