theorem dX3_init_0 : decode cX3_init 0 = .ok (.aload_n 0, 1) := by decide +kernel
theorem dX3_init_1 : decode cX3_init 1 = .ok (.invokespecial 3, 3) := by decide +kernel
theorem dX3_init_4 : decode cX3_init 4 = .ok (.aload_n 0, 1) := by decide +kernel
theorem dX3_init_5 : decode cX3_init 5 = .ok (.bipush 7, 2) := by decide +kernel
theorem dX3_init_7 : decode cX3_init 7 = .ok (.newarray .int, 2) := by decide +kernel
theorem dX3_init_9 : decode cX3_init 9 = .ok (.putfield 9, 3) := by decide +kernel
theorem dX3_init_12 : decode cX3_init 12 = .ok (.return_, 1) := by decide +kernel
theorem dX3_add_0 : decode cX3_add 0 = .ok (.aload_n 0, 1) := by decide +kernel
theorem dX3_add_1 : decode cX3_add 1 = .ok (.getfield 15, 3) := by decide +kernel
theorem dX3_add_4 : decode cX3_add 4 = .ok (.bipush 7, 2) := by decide +kernel
theorem dX3_add_6 : decode cX3_add 6 = .ok (.if_icmp .ge 23, 3) := by decide +kernel
theorem dX3_add_9 : decode cX3_add 9 = .ok (.aload_n 0, 1) := by decide +kernel
theorem dX3_add_10 : decode cX3_add 10 = .ok (.getfield 9, 3) := by decide +kernel
theorem dX3_add_13 : decode cX3_add 13 = .ok (.aload_n 0, 1) := by decide +kernel
theorem dX3_add_14 : decode cX3_add 14 = .ok (.getfield 15, 3) := by decide +kernel
theorem dX3_add_17 : decode cX3_add 17 = .ok (.iload_n 1, 1) := by decide +kernel
theorem dX3_add_18 : decode cX3_add 18 = .ok (.iastore, 1) := by decide +kernel
theorem dX3_add_19 : decode cX3_add 19 = .ok (.aload_n 0, 1) := by decide +kernel
theorem dX3_add_20 : decode cX3_add 20 = .ok (.dup, 1) := by decide +kernel
theorem dX3_add_21 : decode cX3_add 21 = .ok (.getfield 15, 3) := by decide +kernel
theorem dX3_add_24 : decode cX3_add 24 = .ok (.iconst 1, 1) := by decide +kernel
theorem dX3_add_25 : decode cX3_add 25 = .ok (.iadd, 1) := by decide +kernel
theorem dX3_add_26 : decode cX3_add 26 = .ok (.putfield 15, 3) := by decide +kernel
theorem dX3_add_29 : decode cX3_add 29 = .ok (.return_, 1) := by decide +kernel
theorem dX3_oneAt_0 : decode cX3_oneAt 0 = .ok (.iload_n 1, 1) := by decide +kernel
theorem dX3_oneAt_1 : decode cX3_oneAt 1 = .ok (.ifCond .lt 20, 3) := by decide +kernel
theorem dX3_oneAt_4 : decode cX3_oneAt 4 = .ok (.iload_n 1, 1) := by decide +kernel
theorem dX3_oneAt_5 : decode cX3_oneAt 5 = .ok (.aload_n 0, 1) := by decide +kernel
theorem dX3_oneAt_6 : decode cX3_oneAt 6 = .ok (.getfield 15, 3) := by decide +kernel
theorem dX3_oneAt_9 : decode cX3_oneAt 9 = .ok (.if_icmp .ge 12, 3) := by decide +kernel
theorem dX3_oneAt_12 : decode cX3_oneAt 12 = .ok (.aload_n 0, 1) := by decide +kernel
theorem dX3_oneAt_13 : decode cX3_oneAt 13 = .ok (.getfield 9, 3) := by decide +kernel
theorem dX3_oneAt_16 : decode cX3_oneAt 16 = .ok (.iload_n 1, 1) := by decide +kernel
theorem dX3_oneAt_17 : decode cX3_oneAt 17 = .ok (.iaload, 1) := by decide +kernel
theorem dX3_oneAt_18 : decode cX3_oneAt 18 = .ok (.goto 5, 3) := by decide +kernel
theorem dX3_oneAt_21 : decode cX3_oneAt 21 = .ok (.bipush (-4), 2) := by decide +kernel
theorem dX3_oneAt_23 : decode cX3_oneAt 23 = .ok (.ireturn, 1) := by decide +kernel
theorem dX3_placeOf_0 : decode cX3_placeOf 0 = .ok (.iconst 0, 1) := by decide +kernel
theorem dX3_placeOf_1 : decode cX3_placeOf 1 = .ok (.istore_n 2, 1) := by decide +kernel
theorem dX3_placeOf_2 : decode cX3_placeOf 2 = .ok (.iload_n 2, 1) := by decide +kernel
theorem dX3_placeOf_3 : decode cX3_placeOf 3 = .ok (.aload_n 0, 1) := by decide +kernel
theorem dX3_placeOf_4 : decode cX3_placeOf 4 = .ok (.getfield 15, 3) := by decide +kernel
theorem dX3_placeOf_7 : decode cX3_placeOf 7 = .ok (.if_icmp .ge 21, 3) := by decide +kernel
theorem dX3_placeOf_10 : decode cX3_placeOf 10 = .ok (.aload_n 0, 1) := by decide +kernel
theorem dX3_placeOf_11 : decode cX3_placeOf 11 = .ok (.getfield 9, 3) := by decide +kernel
theorem dX3_placeOf_14 : decode cX3_placeOf 14 = .ok (.iload_n 2, 1) := by decide +kernel
theorem dX3_placeOf_15 : decode cX3_placeOf 15 = .ok (.iaload, 1) := by decide +kernel
theorem dX3_placeOf_16 : decode cX3_placeOf 16 = .ok (.iload_n 1, 1) := by decide +kernel
theorem dX3_placeOf_17 : decode cX3_placeOf 17 = .ok (.if_icmp .ne 5, 3) := by decide +kernel
theorem dX3_placeOf_20 : decode cX3_placeOf 20 = .ok (.iload_n 2, 1) := by decide +kernel
theorem dX3_placeOf_21 : decode cX3_placeOf 21 = .ok (.ireturn, 1) := by decide +kernel
theorem dX3_placeOf_22 : decode cX3_placeOf 22 = .ok (.iinc 2 1, 3) := by decide +kernel
theorem dX3_placeOf_25 : decode cX3_placeOf 25 = .ok (.goto (-23), 3) := by decide +kernel
theorem dX3_placeOf_28 : decode cX3_placeOf 28 = .ok (.bipush (-4), 2) := by decide +kernel
theorem dX3_placeOf_30 : decode cX3_placeOf 30 = .ok (.ireturn, 1) := by decide +kernel
theorem dX3_bits_0 : decode cX3_bits 0 = .ok (.iconst 0, 1) := by decide +kernel
theorem dX3_bits_1 : decode cX3_bits 1 = .ok (.istore_n 1, 1) := by decide +kernel
theorem dX3_bits_2 : decode cX3_bits 2 = .ok (.iconst 0, 1) := by decide +kernel
theorem dX3_bits_3 : decode cX3_bits 3 = .ok (.istore_n 2, 1) := by decide +kernel
theorem dX3_bits_4 : decode cX3_bits 4 = .ok (.iload_n 2, 1) := by decide +kernel
theorem dX3_bits_5 : decode cX3_bits 5 = .ok (.aload_n 0, 1) := by decide +kernel
theorem dX3_bits_6 : decode cX3_bits 6 = .ok (.getfield 15, 3) := by decide +kernel
theorem dX3_bits_9 : decode cX3_bits 9 = .ok (.if_icmp .ge 20, 3) := by decide +kernel
theorem dX3_bits_12 : decode cX3_bits 12 = .ok (.iload_n 1, 1) := by decide +kernel
theorem dX3_bits_13 : decode cX3_bits 13 = .ok (.iconst 1, 1) := by decide +kernel
theorem dX3_bits_14 : decode cX3_bits 14 = .ok (.aload_n 0, 1) := by decide +kernel
theorem dX3_bits_15 : decode cX3_bits 15 = .ok (.getfield 9, 3) := by decide +kernel
theorem dX3_bits_18 : decode cX3_bits 18 = .ok (.iload_n 2, 1) := by decide +kernel
theorem dX3_bits_19 : decode cX3_bits 19 = .ok (.iaload, 1) := by decide +kernel
theorem dX3_bits_20 : decode cX3_bits 20 = .ok (.ishl, 1) := by decide +kernel
theorem dX3_bits_21 : decode cX3_bits 21 = .ok (.ior, 1) := by decide +kernel
theorem dX3_bits_22 : decode cX3_bits 22 = .ok (.istore_n 1, 1) := by decide +kernel
theorem dX3_bits_23 : decode cX3_bits 23 = .ok (.iinc 2 1, 3) := by decide +kernel
theorem dX3_bits_26 : decode cX3_bits 26 = .ok (.goto (-22), 3) := by decide +kernel
theorem dX3_bits_29 : decode cX3_bits 29 = .ok (.iload_n 1, 1) := by decide +kernel
theorem dX3_bits_30 : decode cX3_bits 30 = .ok (.ireturn, 1) := by decide +kernel
set_option maxRecDepth 20000 in
theorem ggX3_letIn_X7_mustLet : GoodIn wsX3_letIn wsX7_mustLet := goodIn_r _ [7, 8, 9, 10, 11, 12, 6, 13, 14, 15, 35, 36, 37, 38, 39, 40, 41, 42, 43, 44] (by decide +kernel) (by decide +kernel)
set_option maxRecDepth 20000 in
theorem gX3_letIn_X7_mustLet : GoodIn wsX3_letIn (wsV RX3 19 RX7 yX7_mustLet wsX7_mustLet) := goodIn_app (goodIn_of _ (by decide +kernel)) ggX3_letIn_X7_mustLet
set_option maxRecDepth 20000 in
theorem ggX3_letIn_X7_ratherPays : GoodIn wsX3_letIn wsX7_ratherPays := goodIn_r _ [19, 8, 20, 21, 22, 23, 6, 24, 14, 35, 36, 37, 38, 39, 40, 41, 42, 43, 44] (by decide +kernel) (by decide +kernel)
set_option maxRecDepth 20000 in
theorem gX3_letIn_X7_ratherPays : GoodIn wsX3_letIn (wsV RX3 25 RX7 yX7_ratherPays wsX7_ratherPays) := goodIn_app (goodIn_of _ (by decide +kernel)) ggX3_letIn_X7_ratherPays
set_option maxRecDepth 20000 in
theorem ggX3_letIn_X7_payOff : GoodIn wsX3_letIn wsX7_payOff := goodIn_r _ [28, 20, 21, 22, 23, 6, 24, 14, 29, 30, 31, 32, 35, 36, 37, 38, 39, 40, 41, 42, 43, 44] (by decide +kernel) (by decide +kernel)
set_option maxRecDepth 20000 in
theorem gX3_letIn_X7_payOff : GoodIn wsX3_letIn (wsV RX3 28 RX7 yX7_payOff wsX7_payOff) := goodIn_app (goodIn_of _ (by decide +kernel)) ggX3_letIn_X7_payOff
theorem dX3_letIn_0 : decode cX3_letIn 0 = .ok (.aload_n 0, 1) := by decide +kernel
theorem dX3_letIn_1 : decode cX3_letIn 1 = .ok (.getfield 15, 3) := by decide +kernel
theorem dX3_letIn_4 : decode cX3_letIn 4 = .ok (.bipush 7, 2) := by decide +kernel
theorem dX3_letIn_6 : decode cX3_letIn 6 = .ok (.if_icmp .lt 5, 3) := by decide +kernel
theorem dX3_letIn_9 : decode cX3_letIn 9 = .ok (.iconst 0, 1) := by decide +kernel
theorem dX3_letIn_10 : decode cX3_letIn 10 = .ok (.ireturn, 1) := by decide +kernel
theorem dX3_letIn_11 : decode cX3_letIn 11 = .ok (.iconst 0, 1) := by decide +kernel
theorem dX3_letIn_12 : decode cX3_letIn 12 = .ok (.istore 4, 2) := by decide +kernel
theorem dX3_letIn_14 : decode cX3_letIn 14 = .ok (.aload_n 0, 1) := by decide +kernel
theorem dX3_letIn_15 : decode cX3_letIn 15 = .ok (.getfield 15, 3) := by decide +kernel
theorem dX3_letIn_18 : decode cX3_letIn 18 = .ok (.istore 5, 2) := by decide +kernel
theorem dX3_letIn_20 : decode cX3_letIn 20 = .ok (.aload_n 0, 1) := by decide +kernel
theorem dX3_letIn_21 : decode cX3_letIn 21 = .ok (.dup, 1) := by decide +kernel
theorem dX3_letIn_22 : decode cX3_letIn 22 = .ok (.getfield 15, 3) := by decide +kernel
theorem dX3_letIn_25 : decode cX3_letIn 25 = .ok (.iconst 1, 1) := by decide +kernel
theorem dX3_letIn_26 : decode cX3_letIn 26 = .ok (.iadd, 1) := by decide +kernel
theorem dX3_letIn_27 : decode cX3_letIn 27 = .ok (.putfield 15, 3) := by decide +kernel
theorem dX3_letIn_30 : decode cX3_letIn 30 = .ok (.iload 5, 2) := by decide +kernel
theorem dX3_letIn_32 : decode cX3_letIn 32 = .ok (.ifCond .le 86, 3) := by decide +kernel
theorem dX3_letIn_35 : decode cX3_letIn 35 = .ok (.aload_n 0, 1) := by decide +kernel
theorem dX3_letIn_36 : decode cX3_letIn 36 = .ok (.getfield 9, 3) := by decide +kernel
theorem dX3_letIn_39 : decode cX3_letIn 39 = .ok (.iload 5, 2) := by decide +kernel
theorem dX3_letIn_41 : decode cX3_letIn 41 = .ok (.iconst 1, 1) := by decide +kernel
theorem dX3_letIn_42 : decode cX3_letIn 42 = .ok (.isub, 1) := by decide +kernel
theorem dX3_letIn_43 : decode cX3_letIn 43 = .ok (.iaload, 1) := by decide +kernel
theorem dX3_letIn_44 : decode cX3_letIn 44 = .ok (.istore 6, 2) := by decide +kernel
theorem dX3_letIn_46 : decode cX3_letIn 46 = .ok (.aload_n 1, 1) := by decide +kernel
theorem dX3_letIn_47 : decode cX3_letIn 47 = .ok (.iload 6, 2) := by decide +kernel
theorem dX3_letIn_49 : decode cX3_letIn 49 = .ok (.iload_n 2, 1) := by decide +kernel
theorem dX3_letIn_50 : decode cX3_letIn 50 = .ok (.invokevirtual 19, 3) := by decide +kernel
theorem dX3_letIn_53 : decode cX3_letIn 53 = .ok (.istore 7, 2) := by decide +kernel
theorem dX3_letIn_55 : decode cX3_letIn 55 = .ok (.iload 7, 2) := by decide +kernel
theorem dX3_letIn_57 : decode cX3_letIn 57 = .ok (.ifCond .eq 38, 3) := by decide +kernel
theorem dX3_letIn_60 : decode cX3_letIn 60 = .ok (.iload_n 3, 1) := by decide +kernel
theorem dX3_letIn_61 : decode cX3_letIn 61 = .ok (.ifCond .eq 34, 3) := by decide +kernel
theorem dX3_letIn_64 : decode cX3_letIn 64 = .ok (.aload_n 1, 1) := by decide +kernel
theorem dX3_letIn_65 : decode cX3_letIn 65 = .ok (.iload 6, 2) := by decide +kernel
theorem dX3_letIn_67 : decode cX3_letIn 67 = .ok (.iload_n 2, 1) := by decide +kernel
theorem dX3_letIn_68 : decode cX3_letIn 68 = .ok (.invokevirtual 25, 3) := by decide +kernel
theorem dX3_letIn_71 : decode cX3_letIn 71 = .ok (.ifCond .eq 24, 3) := by decide +kernel
theorem dX3_letIn_74 : decode cX3_letIn 74 = .ok (.iload 4, 2) := by decide +kernel
theorem dX3_letIn_76 : decode cX3_letIn 76 = .ok (.aload_n 1, 1) := by decide +kernel
theorem dX3_letIn_77 : decode cX3_letIn 77 = .ok (.iload 6, 2) := by decide +kernel
theorem dX3_letIn_79 : decode cX3_letIn 79 = .ok (.iload_n 2, 1) := by decide +kernel
theorem dX3_letIn_80 : decode cX3_letIn 80 = .ok (.invokevirtual 28, 3) := by decide +kernel
theorem dX3_letIn_83 : decode cX3_letIn 83 = .ok (.iadd, 1) := by decide +kernel
theorem dX3_letIn_84 : decode cX3_letIn 84 = .ok (.istore 4, 2) := by decide +kernel
theorem dX3_letIn_86 : decode cX3_letIn 86 = .ok (.aload_n 1, 1) := by decide +kernel
theorem dX3_letIn_87 : decode cX3_letIn 87 = .ok (.iload 6, 2) := by decide +kernel
theorem dX3_letIn_89 : decode cX3_letIn 89 = .ok (.iload_n 2, 1) := by decide +kernel
theorem dX3_letIn_90 : decode cX3_letIn 90 = .ok (.invokevirtual 19, 3) := by decide +kernel
theorem dX3_letIn_93 : decode cX3_letIn 93 = .ok (.istore 7, 2) := by decide +kernel
theorem dX3_letIn_95 : decode cX3_letIn 95 = .ok (.iload 7, 2) := by decide +kernel
theorem dX3_letIn_97 : decode cX3_letIn 97 = .ok (.ifCond .ne 6, 3) := by decide +kernel
theorem dX3_letIn_100 : decode cX3_letIn 100 = .ok (.goto 18, 3) := by decide +kernel
theorem dX3_letIn_103 : decode cX3_letIn 103 = .ok (.aload_n 0, 1) := by decide +kernel
theorem dX3_letIn_104 : decode cX3_letIn 104 = .ok (.getfield 9, 3) := by decide +kernel
theorem dX3_letIn_107 : decode cX3_letIn 107 = .ok (.iload 5, 2) := by decide +kernel
theorem dX3_letIn_109 : decode cX3_letIn 109 = .ok (.iload 6, 2) := by decide +kernel
theorem dX3_letIn_111 : decode cX3_letIn 111 = .ok (.iastore, 1) := by decide +kernel
theorem dX3_letIn_112 : decode cX3_letIn 112 = .ok (.iinc 5 (-1), 3) := by decide +kernel
theorem dX3_letIn_115 : decode cX3_letIn 115 = .ok (.goto (-85), 3) := by decide +kernel
theorem dX3_letIn_118 : decode cX3_letIn 118 = .ok (.aload_n 0, 1) := by decide +kernel
theorem dX3_letIn_119 : decode cX3_letIn 119 = .ok (.getfield 9, 3) := by decide +kernel
theorem dX3_letIn_122 : decode cX3_letIn 122 = .ok (.iload 5, 2) := by decide +kernel
theorem dX3_letIn_124 : decode cX3_letIn 124 = .ok (.iload_n 2, 1) := by decide +kernel
theorem dX3_letIn_125 : decode cX3_letIn 125 = .ok (.iastore, 1) := by decide +kernel
theorem dX3_letIn_126 : decode cX3_letIn 126 = .ok (.iload 4, 2) := by decide +kernel
theorem dX3_letIn_128 : decode cX3_letIn 128 = .ok (.ireturn, 1) := by decide +kernel
theorem dX3_takeFront_0 : decode cX3_takeFront 0 = .ok (.aload_n 0, 1) := by decide +kernel
theorem dX3_takeFront_1 : decode cX3_takeFront 1 = .ok (.getfield 15, 3) := by decide +kernel
theorem dX3_takeFront_4 : decode cX3_takeFront 4 = .ok (.ifCond .ne 6, 3) := by decide +kernel
theorem dX3_takeFront_7 : decode cX3_takeFront 7 = .ok (.bipush (-4), 2) := by decide +kernel
theorem dX3_takeFront_9 : decode cX3_takeFront 9 = .ok (.ireturn, 1) := by decide +kernel
theorem dX3_takeFront_10 : decode cX3_takeFront 10 = .ok (.aload_n 0, 1) := by decide +kernel
theorem dX3_takeFront_11 : decode cX3_takeFront 11 = .ok (.getfield 9, 3) := by decide +kernel
theorem dX3_takeFront_14 : decode cX3_takeFront 14 = .ok (.iconst 0, 1) := by decide +kernel
theorem dX3_takeFront_15 : decode cX3_takeFront 15 = .ok (.iaload, 1) := by decide +kernel
theorem dX3_takeFront_16 : decode cX3_takeFront 16 = .ok (.istore_n 1, 1) := by decide +kernel
theorem dX3_takeFront_17 : decode cX3_takeFront 17 = .ok (.aload_n 0, 1) := by decide +kernel
theorem dX3_takeFront_18 : decode cX3_takeFront 18 = .ok (.dup, 1) := by decide +kernel
theorem dX3_takeFront_19 : decode cX3_takeFront 19 = .ok (.getfield 15, 3) := by decide +kernel
theorem dX3_takeFront_22 : decode cX3_takeFront 22 = .ok (.iconst 1, 1) := by decide +kernel
theorem dX3_takeFront_23 : decode cX3_takeFront 23 = .ok (.isub, 1) := by decide +kernel
theorem dX3_takeFront_24 : decode cX3_takeFront 24 = .ok (.putfield 15, 3) := by decide +kernel
theorem dX3_takeFront_27 : decode cX3_takeFront 27 = .ok (.iconst 0, 1) := by decide +kernel
theorem dX3_takeFront_28 : decode cX3_takeFront 28 = .ok (.istore_n 2, 1) := by decide +kernel
theorem dX3_takeFront_29 : decode cX3_takeFront 29 = .ok (.iload_n 2, 1) := by decide +kernel
theorem dX3_takeFront_30 : decode cX3_takeFront 30 = .ok (.aload_n 0, 1) := by decide +kernel
theorem dX3_takeFront_31 : decode cX3_takeFront 31 = .ok (.getfield 15, 3) := by decide +kernel
theorem dX3_takeFront_34 : decode cX3_takeFront 34 = .ok (.if_icmp .ge 23, 3) := by decide +kernel
theorem dX3_takeFront_37 : decode cX3_takeFront 37 = .ok (.aload_n 0, 1) := by decide +kernel
theorem dX3_takeFront_38 : decode cX3_takeFront 38 = .ok (.getfield 9, 3) := by decide +kernel
theorem dX3_takeFront_41 : decode cX3_takeFront 41 = .ok (.iload_n 2, 1) := by decide +kernel
theorem dX3_takeFront_42 : decode cX3_takeFront 42 = .ok (.aload_n 0, 1) := by decide +kernel
theorem dX3_takeFront_43 : decode cX3_takeFront 43 = .ok (.getfield 9, 3) := by decide +kernel
theorem dX3_takeFront_46 : decode cX3_takeFront 46 = .ok (.iload_n 2, 1) := by decide +kernel
theorem dX3_takeFront_47 : decode cX3_takeFront 47 = .ok (.iconst 1, 1) := by decide +kernel
theorem dX3_takeFront_48 : decode cX3_takeFront 48 = .ok (.iadd, 1) := by decide +kernel
theorem dX3_takeFront_49 : decode cX3_takeFront 49 = .ok (.iaload, 1) := by decide +kernel
theorem dX3_takeFront_50 : decode cX3_takeFront 50 = .ok (.iastore, 1) := by decide +kernel
theorem dX3_takeFront_51 : decode cX3_takeFront 51 = .ok (.iinc 2 1, 3) := by decide +kernel
theorem dX3_takeFront_54 : decode cX3_takeFront 54 = .ok (.goto (-25), 3) := by decide +kernel
theorem dX3_takeFront_57 : decode cX3_takeFront 57 = .ok (.iload_n 1, 1) := by decide +kernel
theorem dX3_takeFront_58 : decode cX3_takeFront 58 = .ok (.ireturn, 1) := by decide +kernel
set_option maxRecDepth 20000 in
theorem ggX3_fillAsTheyCome_X7_firstToCome : GoodIn wsX3_fillAsTheyCome wsX7_firstToCome := goodIn_r _ [6, 7, 8, 46, 47, 48, 49, 50, 51, 52, 53, 54, 55] (by decide +kernel) (by decide +kernel)
set_option maxRecDepth 20000 in
theorem gX3_fillAsTheyCome_X7_firstToCome : GoodIn wsX3_fillAsTheyCome (wsV RX3 32 RX7 yX7_firstToCome wsX7_firstToCome) := goodIn_app (goodIn_of _ (by decide +kernel)) ggX3_fillAsTheyCome_X7_firstToCome
set_option maxRecDepth 20000 in
theorem ggX3_fillAsTheyCome_X3_letIn : GoodIn wsX3_fillAsTheyCome wsX3_letIn := goodIn_r _ [13, 1, 14, 15, 16, 17, 5, 18, 19, 20, 21, 22, 23, 24, 25, 26, 27, 28, 29, 30, 31, 32, 33, 34, 35, 36, 37, 38, 39, 40, 41, 42, 43, 44, 45, 46, 47, 48, 49, 50, 51, 52, 53, 54, 55] (by decide +kernel) (by decide +kernel)
set_option maxRecDepth 20000 in
theorem gX3_fillAsTheyCome_X3_letIn : GoodIn wsX3_fillAsTheyCome (wsV RX3 36 RX3 yX3_letIn wsX3_letIn) := goodIn_app (goodIn_of _ (by decide +kernel)) ggX3_fillAsTheyCome_X3_letIn
theorem dX3_fillAsTheyCome_0 : decode cX3_fillAsTheyCome 0 = .ok (.aload_n 0, 1) := by decide +kernel
theorem dX3_fillAsTheyCome_1 : decode cX3_fillAsTheyCome 1 = .ok (.iconst 0, 1) := by decide +kernel
theorem dX3_fillAsTheyCome_2 : decode cX3_fillAsTheyCome 2 = .ok (.putfield 15, 3) := by decide +kernel
theorem dX3_fillAsTheyCome_5 : decode cX3_fillAsTheyCome 5 = .ok (.iload_n 2, 1) := by decide +kernel
theorem dX3_fillAsTheyCome_6 : decode cX3_fillAsTheyCome 6 = .ok (.istore_n 3, 1) := by decide +kernel
theorem dX3_fillAsTheyCome_7 : decode cX3_fillAsTheyCome 7 = .ok (.iconst 0, 1) := by decide +kernel
theorem dX3_fillAsTheyCome_8 : decode cX3_fillAsTheyCome 8 = .ok (.istore 4, 2) := by decide +kernel
theorem dX3_fillAsTheyCome_10 : decode cX3_fillAsTheyCome 10 = .ok (.iload 4, 2) := by decide +kernel
theorem dX3_fillAsTheyCome_12 : decode cX3_fillAsTheyCome 12 = .ok (.bipush 7, 2) := by decide +kernel
theorem dX3_fillAsTheyCome_14 : decode cX3_fillAsTheyCome 14 = .ok (.if_icmp .ge 42, 3) := by decide +kernel
theorem dX3_fillAsTheyCome_17 : decode cX3_fillAsTheyCome 17 = .ok (.aload_n 1, 1) := by decide +kernel
theorem dX3_fillAsTheyCome_18 : decode cX3_fillAsTheyCome 18 = .ok (.iload_n 3, 1) := by decide +kernel
theorem dX3_fillAsTheyCome_19 : decode cX3_fillAsTheyCome 19 = .ok (.invokevirtual 32, 3) := by decide +kernel
theorem dX3_fillAsTheyCome_22 : decode cX3_fillAsTheyCome 22 = .ok (.istore 5, 2) := by decide +kernel
theorem dX3_fillAsTheyCome_24 : decode cX3_fillAsTheyCome 24 = .ok (.iload 5, 2) := by decide +kernel
theorem dX3_fillAsTheyCome_26 : decode cX3_fillAsTheyCome 26 = .ok (.ifCond .ge 6, 3) := by decide +kernel
theorem dX3_fillAsTheyCome_29 : decode cX3_fillAsTheyCome 29 = .ok (.goto 27, 3) := by decide +kernel
theorem dX3_fillAsTheyCome_32 : decode cX3_fillAsTheyCome 32 = .ok (.aload_n 0, 1) := by decide +kernel
theorem dX3_fillAsTheyCome_33 : decode cX3_fillAsTheyCome 33 = .ok (.aload_n 1, 1) := by decide +kernel
theorem dX3_fillAsTheyCome_34 : decode cX3_fillAsTheyCome 34 = .ok (.iload 5, 2) := by decide +kernel
theorem dX3_fillAsTheyCome_36 : decode cX3_fillAsTheyCome 36 = .ok (.iconst 0, 1) := by decide +kernel
theorem dX3_fillAsTheyCome_37 : decode cX3_fillAsTheyCome 37 = .ok (.invokevirtual 36, 3) := by decide +kernel
theorem dX3_fillAsTheyCome_40 : decode cX3_fillAsTheyCome 40 = .ok (.pop, 1) := by decide +kernel
theorem dX3_fillAsTheyCome_41 : decode cX3_fillAsTheyCome 41 = .ok (.iload_n 3, 1) := by decide +kernel
theorem dX3_fillAsTheyCome_42 : decode cX3_fillAsTheyCome 42 = .ok (.iconst 1, 1) := by decide +kernel
theorem dX3_fillAsTheyCome_43 : decode cX3_fillAsTheyCome 43 = .ok (.iload 5, 2) := by decide +kernel
theorem dX3_fillAsTheyCome_45 : decode cX3_fillAsTheyCome 45 = .ok (.ishl, 1) := by decide +kernel
theorem dX3_fillAsTheyCome_46 : decode cX3_fillAsTheyCome 46 = .ok (.iconst (-1), 1) := by decide +kernel
theorem dX3_fillAsTheyCome_47 : decode cX3_fillAsTheyCome 47 = .ok (.ixor, 1) := by decide +kernel
theorem dX3_fillAsTheyCome_48 : decode cX3_fillAsTheyCome 48 = .ok (.iand, 1) := by decide +kernel
theorem dX3_fillAsTheyCome_49 : decode cX3_fillAsTheyCome 49 = .ok (.istore_n 3, 1) := by decide +kernel
theorem dX3_fillAsTheyCome_50 : decode cX3_fillAsTheyCome 50 = .ok (.iinc 4 1, 3) := by decide +kernel
theorem dX3_fillAsTheyCome_53 : decode cX3_fillAsTheyCome 53 = .ok (.goto (-43), 3) := by decide +kernel
theorem dX3_fillAsTheyCome_56 : decode cX3_fillAsTheyCome 56 = .ok (.return_, 1) := by decide +kernel
