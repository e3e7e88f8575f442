set_option maxRecDepth 20000 in
theorem ggX2_init_X6_init : GoodIn wsX2_init wsX6_init := goodIn_r _ [13, 14, 2, 3, 15, 16, 29, 30] (by decide +kernel) (by decide +kernel)
set_option maxRecDepth 20000 in
theorem gX2_init_X6_init_n11 : GoodIn wsX2_init (wsX6_init) := ggX2_init_X6_init
set_option maxRecDepth 20000 in
theorem ggX2_init_X7_init : GoodIn wsX2_init wsX7_init := goodIn_r _ [18, 19, 2, 3, 20, 21, 22, 23, 24, 25, 26, 27, 28, 40, 41, 42, 43, 44, 45, 46, 47, 48, 49] (by decide +kernel) (by decide +kernel)
set_option maxRecDepth 20000 in
theorem gX2_init_X7_init_n20 : GoodIn wsX2_init (wsX7_init) := ggX2_init_X7_init
theorem dX2_init_0 : decode cX2_init 0 = .ok (.aload_n 0, 1) := by decide +kernel
theorem dX2_init_1 : decode cX2_init 1 = .ok (.invokespecial 3, 3) := by decide +kernel
theorem dX2_init_4 : decode cX2_init 4 = .ok (.aload_n 0, 1) := by decide +kernel
theorem dX2_init_5 : decode cX2_init 5 = .ok (.new 9, 3) := by decide +kernel
theorem dX2_init_8 : decode cX2_init 8 = .ok (.dup, 1) := by decide +kernel
theorem dX2_init_9 : decode cX2_init 9 = .ok (.invokespecial 11, 3) := by decide +kernel
theorem dX2_init_12 : decode cX2_init 12 = .ok (.putfield 12, 3) := by decide +kernel
theorem dX2_init_15 : decode cX2_init 15 = .ok (.aload_n 0, 1) := by decide +kernel
theorem dX2_init_16 : decode cX2_init 16 = .ok (.new 18, 3) := by decide +kernel
theorem dX2_init_19 : decode cX2_init 19 = .ok (.dup, 1) := by decide +kernel
theorem dX2_init_20 : decode cX2_init 20 = .ok (.invokespecial 20, 3) := by decide +kernel
theorem dX2_init_23 : decode cX2_init 23 = .ok (.putfield 21, 3) := by decide +kernel
theorem dX2_init_26 : decode cX2_init 26 = .ok (.return_, 1) := by decide +kernel
set_option maxRecDepth 20000 in
theorem ggX2_readTown_X7_becomeEmpty : GoodIn wsX2_readTown wsX7_becomeEmpty := goodIn_r _ [12, 13, 14, 15, 16, 172, 173, 174, 175, 176, 177, 178, 179, 180, 181] (by decide +kernel) (by decide +kernel)
set_option maxRecDepth 20000 in
theorem gX2_readTown_X7_becomeEmpty : GoodIn wsX2_readTown (wsV RX2 39 RX7 yX7_becomeEmpty wsX7_becomeEmpty) := goodIn_app (goodIn_of _ (by decide +kernel)) ggX2_readTown_X7_becomeEmpty
set_option maxRecDepth 20000 in
theorem ggX2_readTown_X2_readToken : GoodIn wsX2_readTown wsX2_readToken := goodIn_r _ [21, 2, 22, 23, 7, 24, 6, 25, 26, 27, 28, 29, 30, 31, 32, 33, 34, 35, 36, 37, 38, 39, 40, 41, 42, 20, 43, 1, 163, 164, 165, 166, 167, 168, 169, 170, 171, 182, 183] (by decide +kernel) (by decide +kernel)
set_option maxRecDepth 20000 in
theorem gX2_readTown_X2_readToken : GoodIn wsX2_readTown (wsV RX2 42 RX2 yX2_readToken wsX2_readToken) := goodIn_app (goodIn_of _ (by decide +kernel)) ggX2_readTown_X2_readToken
set_option maxRecDepth 20000 in
theorem ggX2_readTown_X2_readLine : GoodIn wsX2_readTown wsX2_readLine := goodIn_r _ [47, 48, 49, 50, 20, 51, 6, 2, 7, 22, 25, 52, 53, 54, 55, 56, 57, 58, 59, 60, 61, 62, 63, 64, 65, 66, 67, 68, 69, 70, 71, 72, 73, 74, 75, 76, 77, 78, 79, 80, 81, 82, 83, 84, 85, 86, 87, 88, 89, 90, 91, 92, 93, 94, 95, 96, 97, 98, 99, 100, 101, 102, 103, 104, 3, 5, 24, 105, 40, 41, 42, 43, 1, 106, 107, 108, 109, 17, 18, 19, 21, 23, 26, 27, 28, 29, 30, 31, 32, 33, 34, 35, 36, 37, 38, 39, 110, 111, 112, 113, 114, 115, 116, 117, 4, 118, 119, 120, 121, 122, 123, 124, 125, 126, 127, 128, 129, 130, 131, 132, 133, 134, 135, 136, 137, 138, 139, 140, 141, 142, 143, 144, 11, 145, 16, 146, 147, 148, 149, 163, 164, 165, 166, 167, 168, 169, 170, 171, 182, 183, 172, 173, 174, 175, 176, 177, 178, 179, 180, 181] (by decide +kernel) (by decide +kernel)
set_option maxRecDepth 20000 in
theorem gX2_readTown_X2_readLine : GoodIn wsX2_readTown (wsV RX2 49 RX2 yX2_readLine wsX2_readLine) := goodIn_app (goodIn_of _ (by decide +kernel)) ggX2_readTown_X2_readLine
set_option maxRecDepth 20000 in
theorem ggX2_readTown_X2_allAreThere : GoodIn wsX2_readTown wsX2_allAreThere := goodIn_r _ [153, 5, 132, 133, 154, 155, 156, 11, 157, 13, 40, 41, 42, 20, 43, 1, 142, 143, 144, 145, 16, 158, 159, 160, 161, 162, 163, 164, 165, 166, 167, 168, 169, 170, 171, 172, 173, 174, 175, 176, 177, 178, 179, 180, 181] (by decide +kernel) (by decide +kernel)
set_option maxRecDepth 20000 in
theorem gX2_readTown_X2_allAreThere : GoodIn wsX2_readTown (wsV RX2 52 RX2 yX2_allAreThere wsX2_allAreThere) := goodIn_app (goodIn_of _ (by decide +kernel)) ggX2_readTown_X2_allAreThere
theorem dX2_readTown_0 : decode cX2_readTown 0 = .ok (.aload_n 0, 1) := by decide +kernel
theorem dX2_readTown_1 : decode cX2_readTown 1 = .ok (.iconst 0, 1) := by decide +kernel
theorem dX2_readTown_2 : decode cX2_readTown 2 = .ok (.putfield 25, 3) := by decide +kernel
theorem dX2_readTown_5 : decode cX2_readTown 5 = .ok (.aload_n 0, 1) := by decide +kernel
theorem dX2_readTown_6 : decode cX2_readTown 6 = .ok (.iconst 0, 1) := by decide +kernel
theorem dX2_readTown_7 : decode cX2_readTown 7 = .ok (.putfield 29, 3) := by decide +kernel
theorem dX2_readTown_10 : decode cX2_readTown 10 = .ok (.aload_n 0, 1) := by decide +kernel
theorem dX2_readTown_11 : decode cX2_readTown 11 = .ok (.iconst 0, 1) := by decide +kernel
theorem dX2_readTown_12 : decode cX2_readTown 12 = .ok (.putfield 32, 3) := by decide +kernel
theorem dX2_readTown_15 : decode cX2_readTown 15 = .ok (.aload_n 0, 1) := by decide +kernel
theorem dX2_readTown_16 : decode cX2_readTown 16 = .ok (.iconst 0, 1) := by decide +kernel
theorem dX2_readTown_17 : decode cX2_readTown 17 = .ok (.putfield 36, 3) := by decide +kernel
theorem dX2_readTown_20 : decode cX2_readTown 20 = .ok (.aload_n 0, 1) := by decide +kernel
theorem dX2_readTown_21 : decode cX2_readTown 21 = .ok (.getfield 21, 3) := by decide +kernel
theorem dX2_readTown_24 : decode cX2_readTown 24 = .ok (.invokevirtual 39, 3) := by decide +kernel
theorem dX2_readTown_27 : decode cX2_readTown 27 = .ok (.iconst 0, 1) := by decide +kernel
theorem dX2_readTown_28 : decode cX2_readTown 28 = .ok (.istore_n 1, 1) := by decide +kernel
theorem dX2_readTown_29 : decode cX2_readTown 29 = .ok (.aload_n 0, 1) := by decide +kernel
theorem dX2_readTown_30 : decode cX2_readTown 30 = .ok (.invokevirtual 42, 3) := by decide +kernel
theorem dX2_readTown_33 : decode cX2_readTown 33 = .ok (.istore_n 2, 1) := by decide +kernel
theorem dX2_readTown_34 : decode cX2_readTown 34 = .ok (.iload_n 2, 1) := by decide +kernel
theorem dX2_readTown_35 : decode cX2_readTown 35 = .ok (.ifCond .eq 44, 3) := by decide +kernel
theorem dX2_readTown_38 : decode cX2_readTown 38 = .ok (.aload_n 0, 1) := by decide +kernel
theorem dX2_readTown_39 : decode cX2_readTown 39 = .ok (.getfield 46, 3) := by decide +kernel
theorem dX2_readTown_42 : decode cX2_readTown 42 = .ok (.iconst 4, 1) := by decide +kernel
theorem dX2_readTown_43 : decode cX2_readTown 43 = .ok (.if_icmp .eq 36, 3) := by decide +kernel
theorem dX2_readTown_46 : decode cX2_readTown 46 = .ok (.iload_n 1, 1) := by decide +kernel
theorem dX2_readTown_47 : decode cX2_readTown 47 = .ok (.sipush 400, 3) := by decide +kernel
theorem dX2_readTown_50 : decode cX2_readTown 50 = .ok (.if_icmp .gt 29, 3) := by decide +kernel
theorem dX2_readTown_53 : decode cX2_readTown 53 = .ok (.aload_n 0, 1) := by decide +kernel
theorem dX2_readTown_54 : decode cX2_readTown 54 = .ok (.invokevirtual 49, 3) := by decide +kernel
theorem dX2_readTown_57 : decode cX2_readTown 57 = .ok (.ifCond .eq 14, 3) := by decide +kernel
theorem dX2_readTown_60 : decode cX2_readTown 60 = .ok (.aload_n 0, 1) := by decide +kernel
theorem dX2_readTown_61 : decode cX2_readTown 61 = .ok (.invokevirtual 42, 3) := by decide +kernel
theorem dX2_readTown_64 : decode cX2_readTown 64 = .ok (.ifCond .eq 7, 3) := by decide +kernel
theorem dX2_readTown_67 : decode cX2_readTown 67 = .ok (.iconst 1, 1) := by decide +kernel
theorem dX2_readTown_68 : decode cX2_readTown 68 = .ok (.goto 4, 3) := by decide +kernel
theorem dX2_readTown_71 : decode cX2_readTown 71 = .ok (.iconst 0, 1) := by decide +kernel
theorem dX2_readTown_72 : decode cX2_readTown 72 = .ok (.istore_n 2, 1) := by decide +kernel
theorem dX2_readTown_73 : decode cX2_readTown 73 = .ok (.iinc 1 1, 3) := by decide +kernel
theorem dX2_readTown_76 : decode cX2_readTown 76 = .ok (.goto (-42), 3) := by decide +kernel
theorem dX2_readTown_79 : decode cX2_readTown 79 = .ok (.iload_n 2, 1) := by decide +kernel
theorem dX2_readTown_80 : decode cX2_readTown 80 = .ok (.ifCond .eq 14, 3) := by decide +kernel
theorem dX2_readTown_83 : decode cX2_readTown 83 = .ok (.aload_n 0, 1) := by decide +kernel
theorem dX2_readTown_84 : decode cX2_readTown 84 = .ok (.invokevirtual 52, 3) := by decide +kernel
theorem dX2_readTown_87 : decode cX2_readTown 87 = .ok (.ifCond .eq 7, 3) := by decide +kernel
theorem dX2_readTown_90 : decode cX2_readTown 90 = .ok (.iload_n 1, 1) := by decide +kernel
theorem dX2_readTown_91 : decode cX2_readTown 91 = .ok (.goto 10, 3) := by decide +kernel
theorem dX2_readTown_94 : decode cX2_readTown 94 = .ok (.bipush (-10), 2) := by decide +kernel
theorem dX2_readTown_96 : decode cX2_readTown 96 = .ok (.aload_n 0, 1) := by decide +kernel
theorem dX2_readTown_97 : decode cX2_readTown 97 = .ok (.getfield 55, 3) := by decide +kernel
theorem dX2_readTown_100 : decode cX2_readTown 100 = .ok (.isub, 1) := by decide +kernel
theorem dX2_readTown_101 : decode cX2_readTown 101 = .ok (.ireturn, 1) := by decide +kernel
set_option maxRecDepth 20000 in
theorem ggX2_readLine_X2_isNamed : GoodIn wsX2_readLine wsX2_isNamed := goodIn_r _ [5, 6, 7, 8, 9, 10, 11, 12, 13, 14, 15, 16, 17, 18, 19, 20, 21, 22, 23, 24, 25, 26, 27, 28, 29, 30, 31, 32, 33, 34, 35, 36, 37, 38, 39, 40, 41, 42, 43, 44, 45, 46, 47, 48, 49, 50, 51, 52, 53, 54, 55, 56, 57, 58, 59, 139, 140, 141, 142, 143, 144, 145, 146, 147, 148, 149] (by decide +kernel) (by decide +kernel)
set_option maxRecDepth 20000 in
theorem gX2_readLine_X2_isNamed : GoodIn wsX2_readLine (wsV RX2 60 RX2 yX2_isNamed wsX2_isNamed) := goodIn_app (goodIn_of _ (by decide +kernel)) ggX2_readLine_X2_isNamed
set_option maxRecDepth 20000 in
theorem ggX2_readLine_X2_readLaw : GoodIn wsX2_readLine wsX2_readLaw := goodIn_r _ [63, 64, 65, 66, 67, 68, 69, 70, 4, 71, 72, 73, 74, 75, 76, 6, 77, 78, 79, 80, 7, 9, 81, 8, 10, 82, 83, 84, 85, 86, 87, 88, 89, 90, 91, 92, 93, 94, 95, 96, 97, 98, 99, 139, 140, 141, 142, 143, 144, 145, 146, 147, 150, 151, 152, 153, 154, 155, 156, 157, 158, 159, 148, 149] (by decide +kernel) (by decide +kernel)
set_option maxRecDepth 20000 in
theorem gX2_readLine_X2_readLaw : GoodIn wsX2_readLine (wsV RX2 64 RX2 yX2_readLaw wsX2_readLaw) := goodIn_app (goodIn_of _ (by decide +kernel)) ggX2_readLine_X2_readLaw
set_option maxRecDepth 20000 in
theorem ggX2_readLine_X2_readCounters : GoodIn wsX2_readLine wsX2_readCounters := goodIn_r _ [103, 104, 65, 66, 105, 68, 69, 70, 4, 71, 72, 73, 74, 75, 76, 6, 77, 78, 79, 80, 7, 9, 81, 8, 10, 82, 83, 84, 85, 86, 87, 88, 89, 90, 91, 92, 93, 94, 95, 96, 97, 98, 99, 139, 140, 141, 142, 143, 144, 145, 146, 147, 150, 151, 152, 153, 154, 155, 156, 157, 158, 159, 148, 149] (by decide +kernel) (by decide +kernel)
set_option maxRecDepth 20000 in
theorem gX2_readLine_X2_readCounters : GoodIn wsX2_readLine (wsV RX2 69 RX2 yX2_readCounters wsX2_readCounters) := goodIn_app (goodIn_of _ (by decide +kernel)) ggX2_readLine_X2_readCounters
set_option maxRecDepth 20000 in
theorem ggX2_readLine_X2_readOne : GoodIn wsX2_readLine wsX2_readOne := goodIn_r _ [109, 65, 110, 111, 66, 112, 113, 114, 68, 69, 70, 4, 71, 72, 115, 116, 117, 118, 119, 120, 77, 78, 79, 80, 7, 9, 81, 8, 6, 10, 82, 83, 84, 85, 86, 87, 88, 89, 90, 91, 92, 93, 94, 95, 121, 122, 123, 124, 1, 2, 3, 5, 11, 12, 13, 14, 15, 16, 17, 18, 19, 20, 21, 22, 23, 24, 25, 26, 27, 28, 29, 30, 31, 32, 33, 34, 35, 36, 37, 38, 39, 40, 41, 42, 43, 44, 45, 46, 47, 48, 49, 50, 51, 52, 53, 54, 55, 56, 57, 58, 59, 73, 74, 75, 76, 96, 97, 98, 99, 139, 140, 141, 142, 143, 144, 145, 146, 147, 150, 151, 152, 153, 154, 155, 156, 157, 158, 159, 148, 149] (by decide +kernel) (by decide +kernel)
set_option maxRecDepth 20000 in
theorem gX2_readLine_X2_readOne : GoodIn wsX2_readLine (wsV RX2 74 RX2 yX2_readOne wsX2_readOne) := goodIn_app (goodIn_of _ (by decide +kernel)) ggX2_readLine_X2_readOne
set_option maxRecDepth 20000 in
theorem ggX2_readLine_X2_readDebt : GoodIn wsX2_readLine wsX2_readDebt := goodIn_r _ [128, 66, 65, 73, 74, 75, 4, 76, 6, 77, 78, 79, 80, 7, 9, 81, 8, 10, 82, 83, 84, 85, 86, 87, 88, 89, 90, 91, 92, 93, 94, 95, 68, 69, 70, 71, 72, 129, 130, 131, 132, 133, 134, 135, 136, 137, 138, 96, 97, 98, 99, 139, 140, 141, 142, 143, 144, 145, 146, 147, 148, 149, 150, 151, 152, 153, 154, 155, 156, 157, 158, 159] (by decide +kernel) (by decide +kernel)
set_option maxRecDepth 20000 in
theorem gX2_readLine_X2_readDebt : GoodIn wsX2_readLine (wsV RX2 79 RX2 yX2_readDebt wsX2_readDebt) := goodIn_app (goodIn_of _ (by decide +kernel)) ggX2_readLine_X2_readDebt
set_option maxRecDepth 20000 in
theorem ggX2_readLine_X2_isFaulty : GoodIn wsX2_readLine wsX2_isFaulty := goodIn_r _ [71, 72, 139, 140, 141, 142, 143, 144, 145, 146, 147] (by decide +kernel) (by decide +kernel)
set_option maxRecDepth 20000 in
theorem gX2_readLine_X2_isFaulty : GoodIn wsX2_readLine (wsV RX2 82 RX2 yX2_isFaulty wsX2_isFaulty) := goodIn_app (goodIn_of _ (by decide +kernel)) ggX2_readLine_X2_isFaulty
theorem dX2_readLine_0 : decode cX2_readLine 0 = .ok (.aload_n 0, 1) := by decide +kernel
theorem dX2_readLine_1 : decode cX2_readLine 1 = .ok (.ldc 58, 2) := by decide +kernel
theorem dX2_readLine_3 : decode cX2_readLine 3 = .ok (.invokevirtual 60, 3) := by decide +kernel
theorem dX2_readLine_6 : decode cX2_readLine 6 = .ok (.ifCond .eq 8, 3) := by decide +kernel
theorem dX2_readLine_9 : decode cX2_readLine 9 = .ok (.aload_n 0, 1) := by decide +kernel
theorem dX2_readLine_10 : decode cX2_readLine 10 = .ok (.invokevirtual 64, 3) := by decide +kernel
theorem dX2_readLine_13 : decode cX2_readLine 13 = .ok (.ireturn, 1) := by decide +kernel
theorem dX2_readLine_14 : decode cX2_readLine 14 = .ok (.aload_n 0, 1) := by decide +kernel
theorem dX2_readLine_15 : decode cX2_readLine 15 = .ok (.ldc 67, 2) := by decide +kernel
theorem dX2_readLine_17 : decode cX2_readLine 17 = .ok (.invokevirtual 60, 3) := by decide +kernel
theorem dX2_readLine_20 : decode cX2_readLine 20 = .ok (.ifCond .eq 8, 3) := by decide +kernel
theorem dX2_readLine_23 : decode cX2_readLine 23 = .ok (.aload_n 0, 1) := by decide +kernel
theorem dX2_readLine_24 : decode cX2_readLine 24 = .ok (.invokevirtual 69, 3) := by decide +kernel
theorem dX2_readLine_27 : decode cX2_readLine 27 = .ok (.ireturn, 1) := by decide +kernel
theorem dX2_readLine_28 : decode cX2_readLine 28 = .ok (.aload_n 0, 1) := by decide +kernel
theorem dX2_readLine_29 : decode cX2_readLine 29 = .ok (.ldc 72, 2) := by decide +kernel
theorem dX2_readLine_31 : decode cX2_readLine 31 = .ok (.invokevirtual 60, 3) := by decide +kernel
theorem dX2_readLine_34 : decode cX2_readLine 34 = .ok (.ifCond .eq 8, 3) := by decide +kernel
theorem dX2_readLine_37 : decode cX2_readLine 37 = .ok (.aload_n 0, 1) := by decide +kernel
theorem dX2_readLine_38 : decode cX2_readLine 38 = .ok (.invokevirtual 74, 3) := by decide +kernel
theorem dX2_readLine_41 : decode cX2_readLine 41 = .ok (.ireturn, 1) := by decide +kernel
theorem dX2_readLine_42 : decode cX2_readLine 42 = .ok (.aload_n 0, 1) := by decide +kernel
theorem dX2_readLine_43 : decode cX2_readLine 43 = .ok (.ldc 77, 2) := by decide +kernel
theorem dX2_readLine_45 : decode cX2_readLine 45 = .ok (.invokevirtual 60, 3) := by decide +kernel
theorem dX2_readLine_48 : decode cX2_readLine 48 = .ok (.ifCond .eq 10, 3) := by decide +kernel
theorem dX2_readLine_51 : decode cX2_readLine 51 = .ok (.aload_n 0, 1) := by decide +kernel
theorem dX2_readLine_52 : decode cX2_readLine 52 = .ok (.invokevirtual 79, 3) := by decide +kernel
theorem dX2_readLine_55 : decode cX2_readLine 55 = .ok (.goto 8, 3) := by decide +kernel
theorem dX2_readLine_58 : decode cX2_readLine 58 = .ok (.aload_n 0, 1) := by decide +kernel
theorem dX2_readLine_59 : decode cX2_readLine 59 = .ok (.iconst 2, 1) := by decide +kernel
theorem dX2_readLine_60 : decode cX2_readLine 60 = .ok (.invokevirtual 82, 3) := by decide +kernel
theorem dX2_readLine_63 : decode cX2_readLine 63 = .ok (.ireturn, 1) := by decide +kernel
set_option maxRecDepth 20000 in
theorem ggX2_readLaw_X2_isFaulty : GoodIn wsX2_readLaw wsX2_isFaulty := goodIn_r _ [9, 10, 43, 44, 45, 46, 47, 48, 49, 50, 51] (by decide +kernel) (by decide +kernel)
set_option maxRecDepth 20000 in
theorem gX2_readLaw_X2_isFaulty : GoodIn wsX2_readLaw (wsV RX2 82 RX2 yX2_isFaulty wsX2_isFaulty) := goodIn_app (goodIn_of _ (by decide +kernel)) ggX2_readLaw_X2_isFaulty
set_option maxRecDepth 20000 in
theorem ggX2_readLaw_X2_readNumber : GoodIn wsX2_readLaw wsX2_readNumber := goodIn_r _ [14, 15, 3, 16, 17, 18, 8, 19, 20, 21, 22, 23, 24, 25, 26, 27, 28, 29, 30, 31, 32, 33, 34, 35, 36, 37, 38, 5, 6, 7, 9, 10, 43, 44, 45, 46, 47, 48, 49, 50, 51, 62, 63] (by decide +kernel) (by decide +kernel)
set_option maxRecDepth 20000 in
theorem gX2_readLaw_X2_readNumber : GoodIn wsX2_readLaw (wsV RX2 86 RX2 yX2_readNumber wsX2_readNumber) := goodIn_app (goodIn_of _ (by decide +kernel)) ggX2_readLaw_X2_readNumber
set_option maxRecDepth 20000 in
theorem ggX2_readLaw_X2_readStop : GoodIn wsX2_readLaw wsX2_readStop := goodIn_r _ [42, 15, 16, 17, 18, 8, 19, 20, 21, 22, 23, 3, 24, 25, 26, 27, 28, 29, 30, 31, 32, 33, 34, 35, 36, 37, 38, 5, 6, 7, 9, 10, 43, 44, 45, 46, 47, 48, 49, 50, 51, 62, 63] (by decide +kernel) (by decide +kernel)
set_option maxRecDepth 20000 in
theorem gX2_readLaw_X2_readStop : GoodIn wsX2_readLaw (wsV RX2 95 RX2 yX2_readStop wsX2_readStop) := goodIn_app (goodIn_of _ (by decide +kernel)) ggX2_readLaw_X2_readStop
theorem dX2_readLaw_0 : decode cX2_readLaw 0 = .ok (.aload_n 0, 1) := by decide +kernel
theorem dX2_readLaw_1 : decode cX2_readLaw 1 = .ok (.getfield 32, 3) := by decide +kernel
theorem dX2_readLaw_4 : decode cX2_readLaw 4 = .ok (.ifCond .eq 9, 3) := by decide +kernel
theorem dX2_readLaw_7 : decode cX2_readLaw 7 = .ok (.aload_n 0, 1) := by decide +kernel
theorem dX2_readLaw_8 : decode cX2_readLaw 8 = .ok (.iconst 4, 1) := by decide +kernel
theorem dX2_readLaw_9 : decode cX2_readLaw 9 = .ok (.invokevirtual 82, 3) := by decide +kernel
theorem dX2_readLaw_12 : decode cX2_readLaw 12 = .ok (.ireturn, 1) := by decide +kernel
theorem dX2_readLaw_13 : decode cX2_readLaw 13 = .ok (.aload_n 0, 1) := by decide +kernel
theorem dX2_readLaw_14 : decode cX2_readLaw 14 = .ok (.iconst 1, 1) := by decide +kernel
theorem dX2_readLaw_15 : decode cX2_readLaw 15 = .ok (.putfield 32, 3) := by decide +kernel
theorem dX2_readLaw_18 : decode cX2_readLaw 18 = .ok (.aload_n 0, 1) := by decide +kernel
theorem dX2_readLaw_19 : decode cX2_readLaw 19 = .ok (.iconst 0, 1) := by decide +kernel
theorem dX2_readLaw_20 : decode cX2_readLaw 20 = .ok (.iconst 1, 1) := by decide +kernel
theorem dX2_readLaw_21 : decode cX2_readLaw 21 = .ok (.invokevirtual 86, 3) := by decide +kernel
theorem dX2_readLaw_24 : decode cX2_readLaw 24 = .ok (.ifCond .ne 5, 3) := by decide +kernel
theorem dX2_readLaw_27 : decode cX2_readLaw 27 = .ok (.iconst 0, 1) := by decide +kernel
theorem dX2_readLaw_28 : decode cX2_readLaw 28 = .ok (.ireturn, 1) := by decide +kernel
theorem dX2_readLaw_29 : decode cX2_readLaw 29 = .ok (.aload_n 0, 1) := by decide +kernel
theorem dX2_readLaw_30 : decode cX2_readLaw 30 = .ok (.getfield 21, 3) := by decide +kernel
theorem dX2_readLaw_33 : decode cX2_readLaw 33 = .ok (.aload_n 0, 1) := by decide +kernel
theorem dX2_readLaw_34 : decode cX2_readLaw 34 = .ok (.getfield 90, 3) := by decide +kernel
theorem dX2_readLaw_37 : decode cX2_readLaw 37 = .ok (.putfield 93, 3) := by decide +kernel
theorem dX2_readLaw_40 : decode cX2_readLaw 40 = .ok (.aload_n 0, 1) := by decide +kernel
theorem dX2_readLaw_41 : decode cX2_readLaw 41 = .ok (.invokevirtual 95, 3) := by decide +kernel
theorem dX2_readLaw_44 : decode cX2_readLaw 44 = .ok (.ireturn, 1) := by decide +kernel
set_option maxRecDepth 20000 in
theorem ggX2_readCounters_X2_isFaulty : GoodIn wsX2_readCounters wsX2_isFaulty := goodIn_r _ [9, 10, 43, 44, 45, 46, 47, 48, 49, 50, 51] (by decide +kernel) (by decide +kernel)
set_option maxRecDepth 20000 in
theorem gX2_readCounters_X2_isFaulty : GoodIn wsX2_readCounters (wsV RX2 82 RX2 yX2_isFaulty wsX2_isFaulty) := goodIn_app (goodIn_of _ (by decide +kernel)) ggX2_readCounters_X2_isFaulty
set_option maxRecDepth 20000 in
theorem ggX2_readCounters_X2_readNumber : GoodIn wsX2_readCounters wsX2_readNumber := goodIn_r _ [14, 15, 3, 16, 17, 18, 8, 19, 20, 21, 22, 23, 24, 25, 26, 27, 28, 29, 30, 31, 32, 33, 34, 35, 36, 37, 38, 5, 6, 7, 9, 10, 43, 44, 45, 46, 47, 48, 49, 50, 51, 62, 63] (by decide +kernel) (by decide +kernel)
set_option maxRecDepth 20000 in
theorem gX2_readCounters_X2_readNumber : GoodIn wsX2_readCounters (wsV RX2 86 RX2 yX2_readNumber wsX2_readNumber) := goodIn_app (goodIn_of _ (by decide +kernel)) ggX2_readCounters_X2_readNumber
set_option maxRecDepth 20000 in
theorem ggX2_readCounters_X2_readStop : GoodIn wsX2_readCounters wsX2_readStop := goodIn_r _ [42, 15, 16, 17, 18, 8, 19, 20, 21, 22, 23, 3, 24, 25, 26, 27, 28, 29, 30, 31, 32, 33, 34, 35, 36, 37, 38, 5, 6, 7, 9, 10, 43, 44, 45, 46, 47, 48, 49, 50, 51, 62, 63] (by decide +kernel) (by decide +kernel)
set_option maxRecDepth 20000 in
theorem gX2_readCounters_X2_readStop : GoodIn wsX2_readCounters (wsV RX2 95 RX2 yX2_readStop wsX2_readStop) := goodIn_app (goodIn_of _ (by decide +kernel)) ggX2_readCounters_X2_readStop
theorem dX2_readCounters_0 : decode cX2_readCounters 0 = .ok (.aload_n 0, 1) := by decide +kernel
theorem dX2_readCounters_1 : decode cX2_readCounters 1 = .ok (.getfield 36, 3) := by decide +kernel
theorem dX2_readCounters_4 : decode cX2_readCounters 4 = .ok (.ifCond .eq 9, 3) := by decide +kernel
theorem dX2_readCounters_7 : decode cX2_readCounters 7 = .ok (.aload_n 0, 1) := by decide +kernel
theorem dX2_readCounters_8 : decode cX2_readCounters 8 = .ok (.iconst 4, 1) := by decide +kernel
theorem dX2_readCounters_9 : decode cX2_readCounters 9 = .ok (.invokevirtual 82, 3) := by decide +kernel
theorem dX2_readCounters_12 : decode cX2_readCounters 12 = .ok (.ireturn, 1) := by decide +kernel
theorem dX2_readCounters_13 : decode cX2_readCounters 13 = .ok (.aload_n 0, 1) := by decide +kernel
theorem dX2_readCounters_14 : decode cX2_readCounters 14 = .ok (.iconst 1, 1) := by decide +kernel
theorem dX2_readCounters_15 : decode cX2_readCounters 15 = .ok (.putfield 36, 3) := by decide +kernel
theorem dX2_readCounters_18 : decode cX2_readCounters 18 = .ok (.aload_n 0, 1) := by decide +kernel
theorem dX2_readCounters_19 : decode cX2_readCounters 19 = .ok (.iconst 1, 1) := by decide +kernel
theorem dX2_readCounters_20 : decode cX2_readCounters 20 = .ok (.iconst 2, 1) := by decide +kernel
theorem dX2_readCounters_21 : decode cX2_readCounters 21 = .ok (.invokevirtual 86, 3) := by decide +kernel
theorem dX2_readCounters_24 : decode cX2_readCounters 24 = .ok (.ifCond .ne 5, 3) := by decide +kernel
theorem dX2_readCounters_27 : decode cX2_readCounters 27 = .ok (.iconst 0, 1) := by decide +kernel
theorem dX2_readCounters_28 : decode cX2_readCounters 28 = .ok (.ireturn, 1) := by decide +kernel
theorem dX2_readCounters_29 : decode cX2_readCounters 29 = .ok (.aload_n 0, 1) := by decide +kernel
theorem dX2_readCounters_30 : decode cX2_readCounters 30 = .ok (.getfield 21, 3) := by decide +kernel
theorem dX2_readCounters_33 : decode cX2_readCounters 33 = .ok (.aload_n 0, 1) := by decide +kernel
theorem dX2_readCounters_34 : decode cX2_readCounters 34 = .ok (.getfield 90, 3) := by decide +kernel
theorem dX2_readCounters_37 : decode cX2_readCounters 37 = .ok (.putfield 98, 3) := by decide +kernel
theorem dX2_readCounters_40 : decode cX2_readCounters 40 = .ok (.aload_n 0, 1) := by decide +kernel
theorem dX2_readCounters_41 : decode cX2_readCounters 41 = .ok (.invokevirtual 95, 3) := by decide +kernel
theorem dX2_readCounters_44 : decode cX2_readCounters 44 = .ok (.ireturn, 1) := by decide +kernel
set_option maxRecDepth 20000 in
theorem ggX2_readOne_X2_isFaulty : GoodIn wsX2_readOne wsX2_isFaulty := goodIn_r _ [12, 13, 109, 110, 111, 112, 113, 114, 115, 116, 117] (by decide +kernel) (by decide +kernel)
set_option maxRecDepth 20000 in
theorem gX2_readOne_X2_isFaulty : GoodIn wsX2_readOne (wsV RX2 82 RX2 yX2_isFaulty wsX2_isFaulty) := goodIn_app (goodIn_of _ (by decide +kernel)) ggX2_readOne_X2_isFaulty
set_option maxRecDepth 20000 in
theorem ggX2_readOne_X2_readKind : GoodIn wsX2_readOne wsX2_readKind := goodIn_r _ [17, 1, 18, 19, 4, 20, 21, 22, 11, 23, 24, 25, 26, 27, 28, 29, 30, 31, 32, 33, 34, 35, 36, 37, 38, 39, 40, 41, 42, 43, 8, 9, 10, 12, 13, 44, 45, 46, 47, 48, 49, 50, 51, 52, 53, 54, 55, 56, 57, 58, 59, 60, 61, 62, 63, 64, 65, 66, 67, 68, 69, 70, 71, 72, 73, 74, 75, 76, 77, 78, 79, 80, 81, 82, 83, 84, 85, 86, 87, 88, 89, 90, 91, 92, 93, 94, 95, 96, 97, 98, 99, 100, 101, 102, 103, 104, 109, 110, 111, 112, 113, 114, 115, 116, 117, 118, 119, 120, 121, 122, 123, 124, 125, 126, 127, 128, 129] (by decide +kernel) (by decide +kernel)
set_option maxRecDepth 20000 in
theorem gX2_readOne_X2_readKind : GoodIn wsX2_readOne (wsV RX2 103 RX2 yX2_readKind wsX2_readKind) := goodIn_app (goodIn_of _ (by decide +kernel)) ggX2_readOne_X2_readKind
set_option maxRecDepth 20000 in
theorem ggX2_readOne_X2_readNumber : GoodIn wsX2_readOne wsX2_readNumber := goodIn_r _ [104, 28, 4, 20, 21, 22, 11, 23, 24, 25, 26, 27, 29, 30, 31, 32, 33, 34, 35, 36, 37, 38, 39, 40, 41, 42, 43, 8, 9, 10, 12, 13, 109, 110, 111, 112, 113, 114, 115, 116, 117, 128, 129] (by decide +kernel) (by decide +kernel)
set_option maxRecDepth 20000 in
theorem gX2_readOne_X2_readNumber : GoodIn wsX2_readOne (wsV RX2 86 RX2 yX2_readNumber wsX2_readNumber) := goodIn_app (goodIn_of _ (by decide +kernel)) ggX2_readOne_X2_readNumber
set_option maxRecDepth 20000 in
theorem ggX2_readOne_X2_readStop : GoodIn wsX2_readOne wsX2_readStop := goodIn_r _ [108, 28, 20, 21, 22, 11, 23, 24, 25, 26, 27, 4, 29, 30, 31, 32, 33, 34, 35, 36, 37, 38, 39, 40, 41, 42, 43, 8, 9, 10, 12, 13, 109, 110, 111, 112, 113, 114, 115, 116, 117, 128, 129] (by decide +kernel) (by decide +kernel)
set_option maxRecDepth 20000 in
theorem gX2_readOne_X2_readStop : GoodIn wsX2_readOne (wsV RX2 95 RX2 yX2_readStop wsX2_readStop) := goodIn_app (goodIn_of _ (by decide +kernel)) ggX2_readOne_X2_readStop
theorem dX2_readOne_0 : decode cX2_readOne 0 = .ok (.aload_n 0, 1) := by decide +kernel
theorem dX2_readOne_1 : decode cX2_readOne 1 = .ok (.getfield 21, 3) := by decide +kernel
theorem dX2_readOne_4 : decode cX2_readOne 4 = .ok (.getfield 100, 3) := by decide +kernel
theorem dX2_readOne_7 : decode cX2_readOne 7 = .ok (.istore_n 1, 1) := by decide +kernel
theorem dX2_readOne_8 : decode cX2_readOne 8 = .ok (.iload_n 1, 1) := by decide +kernel
theorem dX2_readOne_9 : decode cX2_readOne 9 = .ok (.bipush 7, 2) := by decide +kernel
theorem dX2_readOne_11 : decode cX2_readOne 11 = .ok (.if_icmp .lt 9, 3) := by decide +kernel
theorem dX2_readOne_14 : decode cX2_readOne 14 = .ok (.aload_n 0, 1) := by decide +kernel
theorem dX2_readOne_15 : decode cX2_readOne 15 = .ok (.iconst 5, 1) := by decide +kernel
theorem dX2_readOne_16 : decode cX2_readOne 16 = .ok (.invokevirtual 82, 3) := by decide +kernel
theorem dX2_readOne_19 : decode cX2_readOne 19 = .ok (.ireturn, 1) := by decide +kernel
theorem dX2_readOne_20 : decode cX2_readOne 20 = .ok (.aload_n 0, 1) := by decide +kernel
theorem dX2_readOne_21 : decode cX2_readOne 21 = .ok (.iload_n 1, 1) := by decide +kernel
theorem dX2_readOne_22 : decode cX2_readOne 22 = .ok (.invokevirtual 103, 3) := by decide +kernel
theorem dX2_readOne_25 : decode cX2_readOne 25 = .ok (.ifCond .eq 13, 3) := by decide +kernel
theorem dX2_readOne_28 : decode cX2_readOne 28 = .ok (.aload_n 0, 1) := by decide +kernel
theorem dX2_readOne_29 : decode cX2_readOne 29 = .ok (.iconst 0, 1) := by decide +kernel
theorem dX2_readOne_30 : decode cX2_readOne 30 = .ok (.bipush 60, 2) := by decide +kernel
theorem dX2_readOne_32 : decode cX2_readOne 32 = .ok (.invokevirtual 86, 3) := by decide +kernel
theorem dX2_readOne_35 : decode cX2_readOne 35 = .ok (.ifCond .ne 5, 3) := by decide +kernel
theorem dX2_readOne_38 : decode cX2_readOne 38 = .ok (.iconst 0, 1) := by decide +kernel
theorem dX2_readOne_39 : decode cX2_readOne 39 = .ok (.ireturn, 1) := by decide +kernel
theorem dX2_readOne_40 : decode cX2_readOne 40 = .ok (.aload_n 0, 1) := by decide +kernel
theorem dX2_readOne_41 : decode cX2_readOne 41 = .ok (.getfield 21, 3) := by decide +kernel
theorem dX2_readOne_44 : decode cX2_readOne 44 = .ok (.getfield 106, 3) := by decide +kernel
theorem dX2_readOne_47 : decode cX2_readOne 47 = .ok (.iload_n 1, 1) := by decide +kernel
theorem dX2_readOne_48 : decode cX2_readOne 48 = .ok (.aload_n 0, 1) := by decide +kernel
theorem dX2_readOne_49 : decode cX2_readOne 49 = .ok (.getfield 90, 3) := by decide +kernel
theorem dX2_readOne_52 : decode cX2_readOne 52 = .ok (.iastore, 1) := by decide +kernel
theorem dX2_readOne_53 : decode cX2_readOne 53 = .ok (.aload_n 0, 1) := by decide +kernel
theorem dX2_readOne_54 : decode cX2_readOne 54 = .ok (.iconst 1, 1) := by decide +kernel
theorem dX2_readOne_55 : decode cX2_readOne 55 = .ok (.bipush 9, 2) := by decide +kernel
theorem dX2_readOne_57 : decode cX2_readOne 57 = .ok (.invokevirtual 86, 3) := by decide +kernel
theorem dX2_readOne_60 : decode cX2_readOne 60 = .ok (.ifCond .ne 5, 3) := by decide +kernel
theorem dX2_readOne_63 : decode cX2_readOne 63 = .ok (.iconst 0, 1) := by decide +kernel
theorem dX2_readOne_64 : decode cX2_readOne 64 = .ok (.ireturn, 1) := by decide +kernel
theorem dX2_readOne_65 : decode cX2_readOne 65 = .ok (.aload_n 0, 1) := by decide +kernel
theorem dX2_readOne_66 : decode cX2_readOne 66 = .ok (.getfield 21, 3) := by decide +kernel
theorem dX2_readOne_69 : decode cX2_readOne 69 = .ok (.getfield 110, 3) := by decide +kernel
theorem dX2_readOne_72 : decode cX2_readOne 72 = .ok (.iload_n 1, 1) := by decide +kernel
theorem dX2_readOne_73 : decode cX2_readOne 73 = .ok (.aload_n 0, 1) := by decide +kernel
theorem dX2_readOne_74 : decode cX2_readOne 74 = .ok (.getfield 90, 3) := by decide +kernel
theorem dX2_readOne_77 : decode cX2_readOne 77 = .ok (.iastore, 1) := by decide +kernel
theorem dX2_readOne_78 : decode cX2_readOne 78 = .ok (.aload_n 0, 1) := by decide +kernel
theorem dX2_readOne_79 : decode cX2_readOne 79 = .ok (.iconst 0, 1) := by decide +kernel
theorem dX2_readOne_80 : decode cX2_readOne 80 = .ok (.bipush 9, 2) := by decide +kernel
theorem dX2_readOne_82 : decode cX2_readOne 82 = .ok (.invokevirtual 86, 3) := by decide +kernel
theorem dX2_readOne_85 : decode cX2_readOne 85 = .ok (.ifCond .ne 5, 3) := by decide +kernel
theorem dX2_readOne_88 : decode cX2_readOne 88 = .ok (.iconst 0, 1) := by decide +kernel
theorem dX2_readOne_89 : decode cX2_readOne 89 = .ok (.ireturn, 1) := by decide +kernel
theorem dX2_readOne_90 : decode cX2_readOne 90 = .ok (.aload_n 0, 1) := by decide +kernel
theorem dX2_readOne_91 : decode cX2_readOne 91 = .ok (.getfield 21, 3) := by decide +kernel
theorem dX2_readOne_94 : decode cX2_readOne 94 = .ok (.getfield 113, 3) := by decide +kernel
theorem dX2_readOne_97 : decode cX2_readOne 97 = .ok (.iload_n 1, 1) := by decide +kernel
theorem dX2_readOne_98 : decode cX2_readOne 98 = .ok (.aload_n 0, 1) := by decide +kernel
theorem dX2_readOne_99 : decode cX2_readOne 99 = .ok (.getfield 90, 3) := by decide +kernel
theorem dX2_readOne_102 : decode cX2_readOne 102 = .ok (.iastore, 1) := by decide +kernel
theorem dX2_readOne_103 : decode cX2_readOne 103 = .ok (.aload_n 0, 1) := by decide +kernel
theorem dX2_readOne_104 : decode cX2_readOne 104 = .ok (.iconst 0, 1) := by decide +kernel
theorem dX2_readOne_105 : decode cX2_readOne 105 = .ok (.bipush 50, 2) := by decide +kernel
theorem dX2_readOne_107 : decode cX2_readOne 107 = .ok (.invokevirtual 86, 3) := by decide +kernel
theorem dX2_readOne_110 : decode cX2_readOne 110 = .ok (.ifCond .ne 5, 3) := by decide +kernel
theorem dX2_readOne_113 : decode cX2_readOne 113 = .ok (.iconst 0, 1) := by decide +kernel
theorem dX2_readOne_114 : decode cX2_readOne 114 = .ok (.ireturn, 1) := by decide +kernel
theorem dX2_readOne_115 : decode cX2_readOne 115 = .ok (.aload_n 0, 1) := by decide +kernel
theorem dX2_readOne_116 : decode cX2_readOne 116 = .ok (.getfield 21, 3) := by decide +kernel
theorem dX2_readOne_119 : decode cX2_readOne 119 = .ok (.getfield 116, 3) := by decide +kernel
theorem dX2_readOne_122 : decode cX2_readOne 122 = .ok (.iload_n 1, 1) := by decide +kernel
theorem dX2_readOne_123 : decode cX2_readOne 123 = .ok (.aload_n 0, 1) := by decide +kernel
theorem dX2_readOne_124 : decode cX2_readOne 124 = .ok (.getfield 90, 3) := by decide +kernel
theorem dX2_readOne_127 : decode cX2_readOne 127 = .ok (.iastore, 1) := by decide +kernel
theorem dX2_readOne_128 : decode cX2_readOne 128 = .ok (.aload_n 0, 1) := by decide +kernel
theorem dX2_readOne_129 : decode cX2_readOne 129 = .ok (.getfield 21, 3) := by decide +kernel
theorem dX2_readOne_132 : decode cX2_readOne 132 = .ok (.dup, 1) := by decide +kernel
theorem dX2_readOne_133 : decode cX2_readOne 133 = .ok (.getfield 100, 3) := by decide +kernel
theorem dX2_readOne_136 : decode cX2_readOne 136 = .ok (.iconst 1, 1) := by decide +kernel
theorem dX2_readOne_137 : decode cX2_readOne 137 = .ok (.iadd, 1) := by decide +kernel
theorem dX2_readOne_138 : decode cX2_readOne 138 = .ok (.putfield 100, 3) := by decide +kernel
theorem dX2_readOne_141 : decode cX2_readOne 141 = .ok (.aload_n 0, 1) := by decide +kernel
theorem dX2_readOne_142 : decode cX2_readOne 142 = .ok (.invokevirtual 95, 3) := by decide +kernel
theorem dX2_readOne_145 : decode cX2_readOne 145 = .ok (.ireturn, 1) := by decide +kernel
set_option maxRecDepth 20000 in
theorem ggX2_readKind_X2_readToken : GoodIn wsX2_readKind wsX2_readToken := goodIn_r _ [9, 10, 11, 12, 13, 4, 14, 15, 16, 17, 18, 19, 20, 21, 22, 23, 24, 25, 26, 27, 28, 29, 30, 31, 32, 8, 33, 34, 96, 97, 98, 99, 100, 101, 102, 103, 104, 115, 116] (by decide +kernel) (by decide +kernel)
set_option maxRecDepth 20000 in
theorem gX2_readKind_X2_readToken : GoodIn wsX2_readKind (wsV RX2 42 RX2 yX2_readToken wsX2_readToken) := goodIn_app (goodIn_of _ (by decide +kernel)) ggX2_readKind_X2_readToken
set_option maxRecDepth 20000 in
theorem ggX2_readKind_X2_kindNamed : GoodIn wsX2_readKind wsX2_kindNamed := goodIn_r _ [38, 39, 40, 41, 8, 42, 14, 10, 13, 11, 15, 43, 44, 45, 46, 47, 48, 49, 50, 51, 52, 53, 54, 55, 56, 57, 58, 59, 60, 61, 62, 63, 64, 65, 66, 67, 68, 69, 70, 71, 72, 73, 74, 75, 76, 77, 78, 79, 80, 81, 82, 83, 84, 85, 86, 87, 88, 89, 90, 91, 96, 97, 98, 99, 100, 101, 102, 103, 104, 115, 116] (by decide +kernel) (by decide +kernel)
set_option maxRecDepth 20000 in
theorem gX2_readKind_X2_kindNamed : GoodIn wsX2_readKind (wsV RX2 119 RX2 yX2_kindNamed wsX2_kindNamed) := goodIn_app (goodIn_of _ (by decide +kernel)) ggX2_readKind_X2_kindNamed
set_option maxRecDepth 20000 in
theorem ggX2_readKind_X2_isFaulty : GoodIn wsX2_readKind wsX2_isFaulty := goodIn_r _ [33, 34, 96, 97, 98, 99, 100, 101, 102, 103, 104] (by decide +kernel) (by decide +kernel)
set_option maxRecDepth 20000 in
theorem gX2_readKind_X2_isFaulty : GoodIn wsX2_readKind (wsV RX2 82 RX2 yX2_isFaulty wsX2_isFaulty) := goodIn_app (goodIn_of _ (by decide +kernel)) ggX2_readKind_X2_isFaulty
set_option maxRecDepth 20000 in
theorem ggX2_readKind_X2_readNumber : GoodIn wsX2_readKind wsX2_readNumber := goodIn_r _ [95, 14, 4, 5, 6, 7, 8, 9, 10, 11, 12, 13, 15, 16, 17, 18, 19, 20, 21, 22, 23, 24, 25, 26, 27, 28, 29, 30, 31, 32, 33, 34, 96, 97, 98, 99, 100, 101, 102, 103, 104, 115, 116] (by decide +kernel) (by decide +kernel)
set_option maxRecDepth 20000 in
theorem gX2_readKind_X2_readNumber : GoodIn wsX2_readKind (wsV RX2 86 RX2 yX2_readNumber wsX2_readNumber) := goodIn_app (goodIn_of _ (by decide +kernel)) ggX2_readKind_X2_readNumber
theorem dX2_readKind_0 : decode cX2_readKind 0 = .ok (.aload_n 0, 1) := by decide +kernel
theorem dX2_readKind_1 : decode cX2_readKind 1 = .ok (.invokevirtual 42, 3) := by decide +kernel
theorem dX2_readKind_4 : decode cX2_readKind 4 = .ok (.ifCond .ne 5, 3) := by decide +kernel
theorem dX2_readKind_7 : decode cX2_readKind 7 = .ok (.iconst 0, 1) := by decide +kernel
theorem dX2_readKind_8 : decode cX2_readKind 8 = .ok (.ireturn, 1) := by decide +kernel
theorem dX2_readKind_9 : decode cX2_readKind 9 = .ok (.aload_n 0, 1) := by decide +kernel
theorem dX2_readKind_10 : decode cX2_readKind 10 = .ok (.invokevirtual 119, 3) := by decide +kernel
theorem dX2_readKind_13 : decode cX2_readKind 13 = .ok (.istore_n 2, 1) := by decide +kernel
theorem dX2_readKind_14 : decode cX2_readKind 14 = .ok (.iload_n 2, 1) := by decide +kernel
theorem dX2_readKind_15 : decode cX2_readKind 15 = .ok (.ifCond .ge 9, 3) := by decide +kernel
theorem dX2_readKind_18 : decode cX2_readKind 18 = .ok (.aload_n 0, 1) := by decide +kernel
theorem dX2_readKind_19 : decode cX2_readKind 19 = .ok (.iconst 2, 1) := by decide +kernel
theorem dX2_readKind_20 : decode cX2_readKind 20 = .ok (.invokevirtual 82, 3) := by decide +kernel
theorem dX2_readKind_23 : decode cX2_readKind 23 = .ok (.ireturn, 1) := by decide +kernel
theorem dX2_readKind_24 : decode cX2_readKind 24 = .ok (.aload_n 0, 1) := by decide +kernel
theorem dX2_readKind_25 : decode cX2_readKind 25 = .ok (.getfield 21, 3) := by decide +kernel
theorem dX2_readKind_28 : decode cX2_readKind 28 = .ok (.getfield 123, 3) := by decide +kernel
theorem dX2_readKind_31 : decode cX2_readKind 31 = .ok (.iload_n 1, 1) := by decide +kernel
theorem dX2_readKind_32 : decode cX2_readKind 32 = .ok (.iload_n 2, 1) := by decide +kernel
theorem dX2_readKind_33 : decode cX2_readKind 33 = .ok (.iastore, 1) := by decide +kernel
theorem dX2_readKind_34 : decode cX2_readKind 34 = .ok (.aload_n 0, 1) := by decide +kernel
theorem dX2_readKind_35 : decode cX2_readKind 35 = .ok (.getfield 21, 3) := by decide +kernel
theorem dX2_readKind_38 : decode cX2_readKind 38 = .ok (.getfield 126, 3) := by decide +kernel
theorem dX2_readKind_41 : decode cX2_readKind 41 = .ok (.iload_n 1, 1) := by decide +kernel
theorem dX2_readKind_42 : decode cX2_readKind 42 = .ok (.iconst 0, 1) := by decide +kernel
theorem dX2_readKind_43 : decode cX2_readKind 43 = .ok (.iastore, 1) := by decide +kernel
theorem dX2_readKind_44 : decode cX2_readKind 44 = .ok (.iload_n 2, 1) := by decide +kernel
theorem dX2_readKind_45 : decode cX2_readKind 45 = .ok (.iconst 4, 1) := by decide +kernel
theorem dX2_readKind_46 : decode cX2_readKind 46 = .ok (.if_icmp .eq 5, 3) := by decide +kernel
theorem dX2_readKind_49 : decode cX2_readKind 49 = .ok (.iconst 1, 1) := by decide +kernel
theorem dX2_readKind_50 : decode cX2_readKind 50 = .ok (.ireturn, 1) := by decide +kernel
theorem dX2_readKind_51 : decode cX2_readKind 51 = .ok (.aload_n 0, 1) := by decide +kernel
theorem dX2_readKind_52 : decode cX2_readKind 52 = .ok (.iconst 0, 1) := by decide +kernel
theorem dX2_readKind_53 : decode cX2_readKind 53 = .ok (.bipush 6, 2) := by decide +kernel
theorem dX2_readKind_55 : decode cX2_readKind 55 = .ok (.invokevirtual 86, 3) := by decide +kernel
theorem dX2_readKind_58 : decode cX2_readKind 58 = .ok (.ifCond .ne 5, 3) := by decide +kernel
theorem dX2_readKind_61 : decode cX2_readKind 61 = .ok (.iconst 0, 1) := by decide +kernel
theorem dX2_readKind_62 : decode cX2_readKind 62 = .ok (.ireturn, 1) := by decide +kernel
theorem dX2_readKind_63 : decode cX2_readKind 63 = .ok (.aload_n 0, 1) := by decide +kernel
theorem dX2_readKind_64 : decode cX2_readKind 64 = .ok (.getfield 21, 3) := by decide +kernel
theorem dX2_readKind_67 : decode cX2_readKind 67 = .ok (.getfield 126, 3) := by decide +kernel
theorem dX2_readKind_70 : decode cX2_readKind 70 = .ok (.iload_n 1, 1) := by decide +kernel
theorem dX2_readKind_71 : decode cX2_readKind 71 = .ok (.aload_n 0, 1) := by decide +kernel
theorem dX2_readKind_72 : decode cX2_readKind 72 = .ok (.getfield 90, 3) := by decide +kernel
theorem dX2_readKind_75 : decode cX2_readKind 75 = .ok (.iastore, 1) := by decide +kernel
theorem dX2_readKind_76 : decode cX2_readKind 76 = .ok (.aload_n 0, 1) := by decide +kernel
theorem dX2_readKind_77 : decode cX2_readKind 77 = .ok (.getfield 90, 3) := by decide +kernel
theorem dX2_readKind_80 : decode cX2_readKind 80 = .ok (.iload_n 1, 1) := by decide +kernel
theorem dX2_readKind_81 : decode cX2_readKind 81 = .ok (.if_icmp .ne 11, 3) := by decide +kernel
theorem dX2_readKind_84 : decode cX2_readKind 84 = .ok (.aload_n 0, 1) := by decide +kernel
theorem dX2_readKind_85 : decode cX2_readKind 85 = .ok (.iconst 4, 1) := by decide +kernel
theorem dX2_readKind_86 : decode cX2_readKind 86 = .ok (.invokevirtual 82, 3) := by decide +kernel
theorem dX2_readKind_89 : decode cX2_readKind 89 = .ok (.ifCond .eq 7, 3) := by decide +kernel
theorem dX2_readKind_92 : decode cX2_readKind 92 = .ok (.iconst 1, 1) := by decide +kernel
theorem dX2_readKind_93 : decode cX2_readKind 93 = .ok (.goto 4, 3) := by decide +kernel
theorem dX2_readKind_96 : decode cX2_readKind 96 = .ok (.iconst 0, 1) := by decide +kernel
theorem dX2_readKind_97 : decode cX2_readKind 97 = .ok (.ireturn, 1) := by decide +kernel
set_option maxRecDepth 20000 in
theorem ggX2_kindNamed_X2_isNamed : GoodIn wsX2_kindNamed wsX2_isNamed := goodIn_r _ [5, 6, 7, 8, 9, 10, 11, 12, 13, 14, 15, 16, 17, 18, 19, 20, 21, 22, 23, 24, 25, 26, 27, 28, 29, 30, 31, 32, 33, 34, 35, 36, 37, 38, 39, 40, 41, 42, 43, 44, 45, 46, 47, 48, 49, 50, 51, 52, 53, 54, 55, 56, 57, 58, 59, 60, 61, 62, 63, 64, 65, 66, 67, 68, 69, 70] (by decide +kernel) (by decide +kernel)
set_option maxRecDepth 20000 in
theorem gX2_kindNamed_X2_isNamed : GoodIn wsX2_kindNamed (wsV RX2 60 RX2 yX2_isNamed wsX2_isNamed) := goodIn_app (goodIn_of _ (by decide +kernel)) ggX2_kindNamed_X2_isNamed
theorem dX2_kindNamed_0 : decode cX2_kindNamed 0 = .ok (.aload_n 0, 1) := by decide +kernel
theorem dX2_kindNamed_1 : decode cX2_kindNamed 1 = .ok (.ldc 129, 2) := by decide +kernel
theorem dX2_kindNamed_3 : decode cX2_kindNamed 3 = .ok (.invokevirtual 60, 3) := by decide +kernel
theorem dX2_kindNamed_6 : decode cX2_kindNamed 6 = .ok (.ifCond .eq 5, 3) := by decide +kernel
theorem dX2_kindNamed_9 : decode cX2_kindNamed 9 = .ok (.iconst 0, 1) := by decide +kernel
theorem dX2_kindNamed_10 : decode cX2_kindNamed 10 = .ok (.ireturn, 1) := by decide +kernel
theorem dX2_kindNamed_11 : decode cX2_kindNamed 11 = .ok (.aload_n 0, 1) := by decide +kernel
theorem dX2_kindNamed_12 : decode cX2_kindNamed 12 = .ok (.ldc 131, 2) := by decide +kernel
theorem dX2_kindNamed_14 : decode cX2_kindNamed 14 = .ok (.invokevirtual 60, 3) := by decide +kernel
theorem dX2_kindNamed_17 : decode cX2_kindNamed 17 = .ok (.ifCond .eq 5, 3) := by decide +kernel
theorem dX2_kindNamed_20 : decode cX2_kindNamed 20 = .ok (.iconst 1, 1) := by decide +kernel
theorem dX2_kindNamed_21 : decode cX2_kindNamed 21 = .ok (.ireturn, 1) := by decide +kernel
theorem dX2_kindNamed_22 : decode cX2_kindNamed 22 = .ok (.aload_n 0, 1) := by decide +kernel
theorem dX2_kindNamed_23 : decode cX2_kindNamed 23 = .ok (.ldc 133, 2) := by decide +kernel
theorem dX2_kindNamed_25 : decode cX2_kindNamed 25 = .ok (.invokevirtual 60, 3) := by decide +kernel
theorem dX2_kindNamed_28 : decode cX2_kindNamed 28 = .ok (.ifCond .eq 5, 3) := by decide +kernel
theorem dX2_kindNamed_31 : decode cX2_kindNamed 31 = .ok (.iconst 2, 1) := by decide +kernel
theorem dX2_kindNamed_32 : decode cX2_kindNamed 32 = .ok (.ireturn, 1) := by decide +kernel
theorem dX2_kindNamed_33 : decode cX2_kindNamed 33 = .ok (.aload_n 0, 1) := by decide +kernel
theorem dX2_kindNamed_34 : decode cX2_kindNamed 34 = .ok (.ldc 135, 2) := by decide +kernel
theorem dX2_kindNamed_36 : decode cX2_kindNamed 36 = .ok (.invokevirtual 60, 3) := by decide +kernel
theorem dX2_kindNamed_39 : decode cX2_kindNamed 39 = .ok (.ifCond .eq 5, 3) := by decide +kernel
theorem dX2_kindNamed_42 : decode cX2_kindNamed 42 = .ok (.iconst 3, 1) := by decide +kernel
theorem dX2_kindNamed_43 : decode cX2_kindNamed 43 = .ok (.ireturn, 1) := by decide +kernel
theorem dX2_kindNamed_44 : decode cX2_kindNamed 44 = .ok (.aload_n 0, 1) := by decide +kernel
theorem dX2_kindNamed_45 : decode cX2_kindNamed 45 = .ok (.ldc 137, 2) := by decide +kernel
theorem dX2_kindNamed_47 : decode cX2_kindNamed 47 = .ok (.invokevirtual 60, 3) := by decide +kernel
theorem dX2_kindNamed_50 : decode cX2_kindNamed 50 = .ok (.ifCond .eq 7, 3) := by decide +kernel
theorem dX2_kindNamed_53 : decode cX2_kindNamed 53 = .ok (.iconst 4, 1) := by decide +kernel
theorem dX2_kindNamed_54 : decode cX2_kindNamed 54 = .ok (.goto 5, 3) := by decide +kernel
theorem dX2_kindNamed_57 : decode cX2_kindNamed 57 = .ok (.bipush (-4), 2) := by decide +kernel
theorem dX2_kindNamed_59 : decode cX2_kindNamed 59 = .ok (.ireturn, 1) := by decide +kernel
set_option maxRecDepth 20000 in
theorem ggX2_readDebt_X2_readNumber : GoodIn wsX2_readDebt wsX2_readNumber := goodIn_r _ [7, 8, 1, 9, 10, 11, 6, 12, 13, 14, 15, 16, 17, 18, 19, 20, 21, 22, 23, 24, 25, 26, 27, 28, 29, 30, 31, 32, 33, 34, 35, 36, 51, 52, 53, 54, 55, 56, 57, 58, 59, 60, 61] (by decide +kernel) (by decide +kernel)
set_option maxRecDepth 20000 in
theorem gX2_readDebt_X2_readNumber : GoodIn wsX2_readDebt (wsV RX2 86 RX2 yX2_readNumber wsX2_readNumber) := goodIn_app (goodIn_of _ (by decide +kernel)) ggX2_readDebt_X2_readNumber
set_option maxRecDepth 20000 in
theorem ggX2_readDebt_X7_owed : GoodIn wsX2_readDebt wsX7_owed := goodIn_r _ [41, 42, 62, 63, 64, 65, 66, 67, 68, 69, 70, 71] (by decide +kernel) (by decide +kernel)
set_option maxRecDepth 20000 in
theorem gX2_readDebt_X7_owed : GoodIn wsX2_readDebt (wsV RX2 139 RX7 yX7_owed wsX7_owed) := goodIn_app (goodIn_of _ (by decide +kernel)) ggX2_readDebt_X7_owed
set_option maxRecDepth 20000 in
theorem ggX2_readDebt_X2_isFaulty : GoodIn wsX2_readDebt wsX2_isFaulty := goodIn_r _ [35, 36, 51, 52, 53, 54, 55, 56, 57, 58, 59] (by decide +kernel) (by decide +kernel)
set_option maxRecDepth 20000 in
theorem gX2_readDebt_X2_isFaulty : GoodIn wsX2_readDebt (wsV RX2 82 RX2 yX2_isFaulty wsX2_isFaulty) := goodIn_app (goodIn_of _ (by decide +kernel)) ggX2_readDebt_X2_isFaulty
set_option maxRecDepth 20000 in
theorem ggX2_readDebt_X7_setDebt : GoodIn wsX2_readDebt wsX7_setDebt := goodIn_r _ [46, 42, 62, 63, 64, 65, 66, 67, 68, 69, 70, 71] (by decide +kernel) (by decide +kernel)
set_option maxRecDepth 20000 in
theorem gX2_readDebt_X7_setDebt : GoodIn wsX2_readDebt (wsV RX2 143 RX7 yX7_setDebt wsX7_setDebt) := goodIn_app (goodIn_of _ (by decide +kernel)) ggX2_readDebt_X7_setDebt
set_option maxRecDepth 20000 in
theorem ggX2_readDebt_X2_readStop : GoodIn wsX2_readDebt wsX2_readStop := goodIn_r _ [50, 8, 9, 10, 11, 6, 12, 13, 14, 15, 16, 1, 17, 18, 19, 20, 21, 22, 23, 24, 25, 26, 27, 28, 29, 30, 31, 32, 33, 34, 35, 36, 51, 52, 53, 54, 55, 56, 57, 58, 59, 60, 61] (by decide +kernel) (by decide +kernel)
set_option maxRecDepth 20000 in
theorem gX2_readDebt_X2_readStop : GoodIn wsX2_readDebt (wsV RX2 95 RX2 yX2_readStop wsX2_readStop) := goodIn_app (goodIn_of _ (by decide +kernel)) ggX2_readDebt_X2_readStop
theorem dX2_readDebt_0 : decode cX2_readDebt 0 = .ok (.aload_n 0, 1) := by decide +kernel
theorem dX2_readDebt_1 : decode cX2_readDebt 1 = .ok (.iconst 0, 1) := by decide +kernel
theorem dX2_readDebt_2 : decode cX2_readDebt 2 = .ok (.bipush 6, 2) := by decide +kernel
theorem dX2_readDebt_4 : decode cX2_readDebt 4 = .ok (.invokevirtual 86, 3) := by decide +kernel
theorem dX2_readDebt_7 : decode cX2_readDebt 7 = .ok (.ifCond .ne 5, 3) := by decide +kernel
theorem dX2_readDebt_10 : decode cX2_readDebt 10 = .ok (.iconst 0, 1) := by decide +kernel
theorem dX2_readDebt_11 : decode cX2_readDebt 11 = .ok (.ireturn, 1) := by decide +kernel
theorem dX2_readDebt_12 : decode cX2_readDebt 12 = .ok (.aload_n 0, 1) := by decide +kernel
theorem dX2_readDebt_13 : decode cX2_readDebt 13 = .ok (.getfield 90, 3) := by decide +kernel
theorem dX2_readDebt_16 : decode cX2_readDebt 16 = .ok (.istore_n 1, 1) := by decide +kernel
theorem dX2_readDebt_17 : decode cX2_readDebt 17 = .ok (.aload_n 0, 1) := by decide +kernel
theorem dX2_readDebt_18 : decode cX2_readDebt 18 = .ok (.iconst 0, 1) := by decide +kernel
theorem dX2_readDebt_19 : decode cX2_readDebt 19 = .ok (.bipush 6, 2) := by decide +kernel
theorem dX2_readDebt_21 : decode cX2_readDebt 21 = .ok (.invokevirtual 86, 3) := by decide +kernel
theorem dX2_readDebt_24 : decode cX2_readDebt 24 = .ok (.ifCond .ne 5, 3) := by decide +kernel
theorem dX2_readDebt_27 : decode cX2_readDebt 27 = .ok (.iconst 0, 1) := by decide +kernel
theorem dX2_readDebt_28 : decode cX2_readDebt 28 = .ok (.ireturn, 1) := by decide +kernel
theorem dX2_readDebt_29 : decode cX2_readDebt 29 = .ok (.aload_n 0, 1) := by decide +kernel
theorem dX2_readDebt_30 : decode cX2_readDebt 30 = .ok (.getfield 90, 3) := by decide +kernel
theorem dX2_readDebt_33 : decode cX2_readDebt 33 = .ok (.istore_n 2, 1) := by decide +kernel
theorem dX2_readDebt_34 : decode cX2_readDebt 34 = .ok (.iload_n 1, 1) := by decide +kernel
theorem dX2_readDebt_35 : decode cX2_readDebt 35 = .ok (.iload_n 2, 1) := by decide +kernel
theorem dX2_readDebt_36 : decode cX2_readDebt 36 = .ok (.if_icmp .eq 15, 3) := by decide +kernel
theorem dX2_readDebt_39 : decode cX2_readDebt 39 = .ok (.aload_n 0, 1) := by decide +kernel
theorem dX2_readDebt_40 : decode cX2_readDebt 40 = .ok (.getfield 21, 3) := by decide +kernel
theorem dX2_readDebt_43 : decode cX2_readDebt 43 = .ok (.iload_n 1, 1) := by decide +kernel
theorem dX2_readDebt_44 : decode cX2_readDebt 44 = .ok (.iload_n 2, 1) := by decide +kernel
theorem dX2_readDebt_45 : decode cX2_readDebt 45 = .ok (.invokevirtual 139, 3) := by decide +kernel
theorem dX2_readDebt_48 : decode cX2_readDebt 48 = .ok (.ifCond .le 9, 3) := by decide +kernel
theorem dX2_readDebt_51 : decode cX2_readDebt 51 = .ok (.aload_n 0, 1) := by decide +kernel
theorem dX2_readDebt_52 : decode cX2_readDebt 52 = .ok (.iconst 4, 1) := by decide +kernel
theorem dX2_readDebt_53 : decode cX2_readDebt 53 = .ok (.invokevirtual 82, 3) := by decide +kernel
theorem dX2_readDebt_56 : decode cX2_readDebt 56 = .ok (.ireturn, 1) := by decide +kernel
theorem dX2_readDebt_57 : decode cX2_readDebt 57 = .ok (.aload_n 0, 1) := by decide +kernel
theorem dX2_readDebt_58 : decode cX2_readDebt 58 = .ok (.iconst 1, 1) := by decide +kernel
theorem dX2_readDebt_59 : decode cX2_readDebt 59 = .ok (.bipush 99, 2) := by decide +kernel
theorem dX2_readDebt_61 : decode cX2_readDebt 61 = .ok (.invokevirtual 86, 3) := by decide +kernel
theorem dX2_readDebt_64 : decode cX2_readDebt 64 = .ok (.ifCond .ne 5, 3) := by decide +kernel
theorem dX2_readDebt_67 : decode cX2_readDebt 67 = .ok (.iconst 0, 1) := by decide +kernel
theorem dX2_readDebt_68 : decode cX2_readDebt 68 = .ok (.ireturn, 1) := by decide +kernel
theorem dX2_readDebt_69 : decode cX2_readDebt 69 = .ok (.aload_n 0, 1) := by decide +kernel
theorem dX2_readDebt_70 : decode cX2_readDebt 70 = .ok (.getfield 21, 3) := by decide +kernel
theorem dX2_readDebt_73 : decode cX2_readDebt 73 = .ok (.iload_n 1, 1) := by decide +kernel
theorem dX2_readDebt_74 : decode cX2_readDebt 74 = .ok (.iload_n 2, 1) := by decide +kernel
theorem dX2_readDebt_75 : decode cX2_readDebt 75 = .ok (.aload_n 0, 1) := by decide +kernel
theorem dX2_readDebt_76 : decode cX2_readDebt 76 = .ok (.getfield 90, 3) := by decide +kernel
theorem dX2_readDebt_79 : decode cX2_readDebt 79 = .ok (.invokevirtual 143, 3) := by decide +kernel
theorem dX2_readDebt_82 : decode cX2_readDebt 82 = .ok (.aload_n 0, 1) := by decide +kernel
theorem dX2_readDebt_83 : decode cX2_readDebt 83 = .ok (.invokevirtual 95, 3) := by decide +kernel
theorem dX2_readDebt_86 : decode cX2_readDebt 86 = .ok (.ireturn, 1) := by decide +kernel
set_option maxRecDepth 20000 in
theorem ggX2_allAreThere_X7_isOne : GoodIn wsX2_allAreThere wsX7_isOne := goodIn_r _ [8, 9, 35, 36, 37, 38, 39, 40, 41, 42, 43, 44] (by decide +kernel) (by decide +kernel)
set_option maxRecDepth 20000 in
theorem gX2_allAreThere_X7_isOne : GoodIn wsX2_allAreThere (wsV RX2 147 RX7 yX7_isOne wsX7_isOne) := goodIn_app (goodIn_of _ (by decide +kernel)) ggX2_allAreThere_X7_isOne
set_option maxRecDepth 20000 in
theorem ggX2_allAreThere_X2_isFaulty : GoodIn wsX2_allAreThere wsX2_isFaulty := goodIn_r _ [14, 15, 26, 27, 28, 29, 30, 31, 32, 33, 34] (by decide +kernel) (by decide +kernel)
set_option maxRecDepth 20000 in
theorem gX2_allAreThere_X2_isFaulty : GoodIn wsX2_allAreThere (wsV RX2 82 RX2 yX2_isFaulty wsX2_isFaulty) := goodIn_app (goodIn_of _ (by decide +kernel)) ggX2_allAreThere_X2_isFaulty
set_option maxRecDepth 20000 in
theorem ggX2_allAreThere_X7_owed : GoodIn wsX2_allAreThere wsX7_owed := goodIn_r _ [19, 20, 35, 36, 37, 38, 39, 40, 41, 42, 43, 44] (by decide +kernel) (by decide +kernel)
set_option maxRecDepth 20000 in
theorem gX2_allAreThere_X7_owed : GoodIn wsX2_allAreThere (wsV RX2 139 RX7 yX7_owed wsX7_owed) := goodIn_app (goodIn_of _ (by decide +kernel)) ggX2_allAreThere_X7_owed
set_option maxRecDepth 20000 in
theorem ggX2_allAreThere_X7_areTwo : GoodIn wsX2_allAreThere wsX7_areTwo := goodIn_r _ [24, 25, 5, 6, 7, 8, 9, 35, 36, 37, 38, 39, 40, 41, 42, 43, 44] (by decide +kernel) (by decide +kernel)
set_option maxRecDepth 20000 in
theorem gX2_allAreThere_X7_areTwo : GoodIn wsX2_allAreThere (wsV RX2 150 RX7 yX7_areTwo wsX7_areTwo) := goodIn_app (goodIn_of _ (by decide +kernel)) ggX2_allAreThere_X7_areTwo
theorem dX2_allAreThere_0 : decode cX2_allAreThere 0 = .ok (.iconst 0, 1) := by decide +kernel
theorem dX2_allAreThere_1 : decode cX2_allAreThere 1 = .ok (.istore_n 1, 1) := by decide +kernel
theorem dX2_allAreThere_2 : decode cX2_allAreThere 2 = .ok (.iload_n 1, 1) := by decide +kernel
theorem dX2_allAreThere_3 : decode cX2_allAreThere 3 = .ok (.bipush 7, 2) := by decide +kernel
theorem dX2_allAreThere_5 : decode cX2_allAreThere 5 = .ok (.if_icmp .ge 104, 3) := by decide +kernel
theorem dX2_allAreThere_8 : decode cX2_allAreThere 8 = .ok (.aload_n 0, 1) := by decide +kernel
theorem dX2_allAreThere_9 : decode cX2_allAreThere 9 = .ok (.getfield 21, 3) := by decide +kernel
theorem dX2_allAreThere_12 : decode cX2_allAreThere 12 = .ok (.iload_n 1, 1) := by decide +kernel
theorem dX2_allAreThere_13 : decode cX2_allAreThere 13 = .ok (.invokevirtual 147, 3) := by decide +kernel
theorem dX2_allAreThere_16 : decode cX2_allAreThere 16 = .ok (.ifCond .eq 42, 3) := by decide +kernel
theorem dX2_allAreThere_19 : decode cX2_allAreThere 19 = .ok (.aload_n 0, 1) := by decide +kernel
theorem dX2_allAreThere_20 : decode cX2_allAreThere 20 = .ok (.getfield 21, 3) := by decide +kernel
theorem dX2_allAreThere_23 : decode cX2_allAreThere 23 = .ok (.getfield 123, 3) := by decide +kernel
theorem dX2_allAreThere_26 : decode cX2_allAreThere 26 = .ok (.iload_n 1, 1) := by decide +kernel
theorem dX2_allAreThere_27 : decode cX2_allAreThere 27 = .ok (.iaload, 1) := by decide +kernel
theorem dX2_allAreThere_28 : decode cX2_allAreThere 28 = .ok (.iconst 4, 1) := by decide +kernel
theorem dX2_allAreThere_29 : decode cX2_allAreThere 29 = .ok (.if_icmp .ne 29, 3) := by decide +kernel
theorem dX2_allAreThere_32 : decode cX2_allAreThere 32 = .ok (.aload_n 0, 1) := by decide +kernel
theorem dX2_allAreThere_33 : decode cX2_allAreThere 33 = .ok (.getfield 21, 3) := by decide +kernel
theorem dX2_allAreThere_36 : decode cX2_allAreThere 36 = .ok (.aload_n 0, 1) := by decide +kernel
theorem dX2_allAreThere_37 : decode cX2_allAreThere 37 = .ok (.getfield 21, 3) := by decide +kernel
theorem dX2_allAreThere_40 : decode cX2_allAreThere 40 = .ok (.getfield 126, 3) := by decide +kernel
theorem dX2_allAreThere_43 : decode cX2_allAreThere 43 = .ok (.iload_n 1, 1) := by decide +kernel
theorem dX2_allAreThere_44 : decode cX2_allAreThere 44 = .ok (.iaload, 1) := by decide +kernel
theorem dX2_allAreThere_45 : decode cX2_allAreThere 45 = .ok (.invokevirtual 147, 3) := by decide +kernel
theorem dX2_allAreThere_48 : decode cX2_allAreThere 48 = .ok (.ifCond .ne 10, 3) := by decide +kernel
theorem dX2_allAreThere_51 : decode cX2_allAreThere 51 = .ok (.aload_n 0, 1) := by decide +kernel
theorem dX2_allAreThere_52 : decode cX2_allAreThere 52 = .ok (.bipush 6, 2) := by decide +kernel
theorem dX2_allAreThere_54 : decode cX2_allAreThere 54 = .ok (.invokevirtual 82, 3) := by decide +kernel
theorem dX2_allAreThere_57 : decode cX2_allAreThere 57 = .ok (.ireturn, 1) := by decide +kernel
theorem dX2_allAreThere_58 : decode cX2_allAreThere 58 = .ok (.iconst 0, 1) := by decide +kernel
theorem dX2_allAreThere_59 : decode cX2_allAreThere 59 = .ok (.istore_n 2, 1) := by decide +kernel
theorem dX2_allAreThere_60 : decode cX2_allAreThere 60 = .ok (.iload_n 2, 1) := by decide +kernel
theorem dX2_allAreThere_61 : decode cX2_allAreThere 61 = .ok (.bipush 7, 2) := by decide +kernel
theorem dX2_allAreThere_63 : decode cX2_allAreThere 63 = .ok (.if_icmp .ge 40, 3) := by decide +kernel
theorem dX2_allAreThere_66 : decode cX2_allAreThere 66 = .ok (.aload_n 0, 1) := by decide +kernel
theorem dX2_allAreThere_67 : decode cX2_allAreThere 67 = .ok (.getfield 21, 3) := by decide +kernel
theorem dX2_allAreThere_70 : decode cX2_allAreThere 70 = .ok (.iload_n 1, 1) := by decide +kernel
theorem dX2_allAreThere_71 : decode cX2_allAreThere 71 = .ok (.iload_n 2, 1) := by decide +kernel
theorem dX2_allAreThere_72 : decode cX2_allAreThere 72 = .ok (.invokevirtual 139, 3) := by decide +kernel
theorem dX2_allAreThere_75 : decode cX2_allAreThere 75 = .ok (.ifCond .le 22, 3) := by decide +kernel
theorem dX2_allAreThere_78 : decode cX2_allAreThere 78 = .ok (.aload_n 0, 1) := by decide +kernel
theorem dX2_allAreThere_79 : decode cX2_allAreThere 79 = .ok (.getfield 21, 3) := by decide +kernel
theorem dX2_allAreThere_82 : decode cX2_allAreThere 82 = .ok (.iload_n 1, 1) := by decide +kernel
theorem dX2_allAreThere_83 : decode cX2_allAreThere 83 = .ok (.iload_n 2, 1) := by decide +kernel
theorem dX2_allAreThere_84 : decode cX2_allAreThere 84 = .ok (.invokevirtual 150, 3) := by decide +kernel
theorem dX2_allAreThere_87 : decode cX2_allAreThere 87 = .ok (.ifCond .ne 10, 3) := by decide +kernel
theorem dX2_allAreThere_90 : decode cX2_allAreThere 90 = .ok (.aload_n 0, 1) := by decide +kernel
theorem dX2_allAreThere_91 : decode cX2_allAreThere 91 = .ok (.bipush 6, 2) := by decide +kernel
theorem dX2_allAreThere_93 : decode cX2_allAreThere 93 = .ok (.invokevirtual 82, 3) := by decide +kernel
theorem dX2_allAreThere_96 : decode cX2_allAreThere 96 = .ok (.ireturn, 1) := by decide +kernel
theorem dX2_allAreThere_97 : decode cX2_allAreThere 97 = .ok (.iinc 2 1, 3) := by decide +kernel
theorem dX2_allAreThere_100 : decode cX2_allAreThere 100 = .ok (.goto (-40), 3) := by decide +kernel
theorem dX2_allAreThere_103 : decode cX2_allAreThere 103 = .ok (.iinc 1 1, 3) := by decide +kernel
theorem dX2_allAreThere_106 : decode cX2_allAreThere 106 = .ok (.goto (-104), 3) := by decide +kernel
theorem dX2_allAreThere_109 : decode cX2_allAreThere 109 = .ok (.iconst 1, 1) := by decide +kernel
theorem dX2_allAreThere_110 : decode cX2_allAreThere 110 = .ok (.ireturn, 1) := by decide +kernel
set_option maxRecDepth 20000 in
theorem ggX2_readNumber_X2_readToken : GoodIn wsX2_readNumber wsX2_readToken := goodIn_r _ [7, 8, 9, 10, 11, 2, 1, 12, 13, 14, 15, 16, 17, 18, 19, 20, 21, 22, 23, 24, 25, 26, 27, 28, 29, 6, 30, 31, 32, 33, 34, 35, 36, 37, 38, 39, 40, 41, 42] (by decide +kernel) (by decide +kernel)
set_option maxRecDepth 20000 in
theorem gX2_readNumber_X2_readToken : GoodIn wsX2_readNumber (wsV RX2 42 RX2 yX2_readToken wsX2_readToken) := goodIn_app (goodIn_of _ (by decide +kernel)) ggX2_readNumber_X2_readToken
set_option maxRecDepth 20000 in
theorem ggX2_readNumber_X2_isFaulty : GoodIn wsX2_readNumber wsX2_isFaulty := goodIn_r _ [30, 31, 32, 33, 34, 35, 36, 37, 38, 39, 40] (by decide +kernel) (by decide +kernel)
set_option maxRecDepth 20000 in
theorem gX2_readNumber_X2_isFaulty : GoodIn wsX2_readNumber (wsV RX2 82 RX2 yX2_isFaulty wsX2_isFaulty) := goodIn_app (goodIn_of _ (by decide +kernel)) ggX2_readNumber_X2_isFaulty
theorem dX2_readNumber_0 : decode cX2_readNumber 0 = .ok (.aload_n 0, 1) := by decide +kernel
theorem dX2_readNumber_1 : decode cX2_readNumber 1 = .ok (.invokevirtual 42, 3) := by decide +kernel
theorem dX2_readNumber_4 : decode cX2_readNumber 4 = .ok (.ifCond .ne 5, 3) := by decide +kernel
theorem dX2_readNumber_7 : decode cX2_readNumber 7 = .ok (.iconst 0, 1) := by decide +kernel
theorem dX2_readNumber_8 : decode cX2_readNumber 8 = .ok (.ireturn, 1) := by decide +kernel
theorem dX2_readNumber_9 : decode cX2_readNumber 9 = .ok (.aload_n 0, 1) := by decide +kernel
theorem dX2_readNumber_10 : decode cX2_readNumber 10 = .ok (.getfield 46, 3) := by decide +kernel
theorem dX2_readNumber_13 : decode cX2_readNumber 13 = .ok (.iconst 2, 1) := by decide +kernel
theorem dX2_readNumber_14 : decode cX2_readNumber 14 = .ok (.if_icmp .eq 9, 3) := by decide +kernel
theorem dX2_readNumber_17 : decode cX2_readNumber 17 = .ok (.aload_n 0, 1) := by decide +kernel
theorem dX2_readNumber_18 : decode cX2_readNumber 18 = .ok (.iconst 2, 1) := by decide +kernel
theorem dX2_readNumber_19 : decode cX2_readNumber 19 = .ok (.invokevirtual 82, 3) := by decide +kernel
theorem dX2_readNumber_22 : decode cX2_readNumber 22 = .ok (.ireturn, 1) := by decide +kernel
theorem dX2_readNumber_23 : decode cX2_readNumber 23 = .ok (.aload_n 0, 1) := by decide +kernel
theorem dX2_readNumber_24 : decode cX2_readNumber 24 = .ok (.getfield 90, 3) := by decide +kernel
theorem dX2_readNumber_27 : decode cX2_readNumber 27 = .ok (.iload_n 1, 1) := by decide +kernel
theorem dX2_readNumber_28 : decode cX2_readNumber 28 = .ok (.if_icmp .lt 11, 3) := by decide +kernel
theorem dX2_readNumber_31 : decode cX2_readNumber 31 = .ok (.aload_n 0, 1) := by decide +kernel
theorem dX2_readNumber_32 : decode cX2_readNumber 32 = .ok (.getfield 90, 3) := by decide +kernel
theorem dX2_readNumber_35 : decode cX2_readNumber 35 = .ok (.iload_n 2, 1) := by decide +kernel
theorem dX2_readNumber_36 : decode cX2_readNumber 36 = .ok (.if_icmp .le 11, 3) := by decide +kernel
theorem dX2_readNumber_39 : decode cX2_readNumber 39 = .ok (.aload_n 0, 1) := by decide +kernel
theorem dX2_readNumber_40 : decode cX2_readNumber 40 = .ok (.iconst 3, 1) := by decide +kernel
theorem dX2_readNumber_41 : decode cX2_readNumber 41 = .ok (.invokevirtual 82, 3) := by decide +kernel
theorem dX2_readNumber_44 : decode cX2_readNumber 44 = .ok (.ifCond .eq 7, 3) := by decide +kernel
theorem dX2_readNumber_47 : decode cX2_readNumber 47 = .ok (.iconst 1, 1) := by decide +kernel
theorem dX2_readNumber_48 : decode cX2_readNumber 48 = .ok (.goto 4, 3) := by decide +kernel
theorem dX2_readNumber_51 : decode cX2_readNumber 51 = .ok (.iconst 0, 1) := by decide +kernel
theorem dX2_readNumber_52 : decode cX2_readNumber 52 = .ok (.ireturn, 1) := by decide +kernel
set_option maxRecDepth 20000 in
theorem ggX2_readStop_X2_readToken : GoodIn wsX2_readStop wsX2_readToken := goodIn_r _ [6, 7, 8, 9, 10, 11, 1, 12, 13, 14, 15, 16, 17, 18, 19, 20, 21, 22, 23, 24, 25, 26, 27, 28, 29, 5, 30, 31, 32, 33, 34, 35, 36, 37, 38, 39, 40, 41, 42] (by decide +kernel) (by decide +kernel)
set_option maxRecDepth 20000 in
theorem gX2_readStop_X2_readToken : GoodIn wsX2_readStop (wsV RX2 42 RX2 yX2_readToken wsX2_readToken) := goodIn_app (goodIn_of _ (by decide +kernel)) ggX2_readStop_X2_readToken
set_option maxRecDepth 20000 in
theorem ggX2_readStop_X2_isFaulty : GoodIn wsX2_readStop wsX2_isFaulty := goodIn_r _ [30, 31, 32, 33, 34, 35, 36, 37, 38, 39, 40] (by decide +kernel) (by decide +kernel)
set_option maxRecDepth 20000 in
theorem gX2_readStop_X2_isFaulty : GoodIn wsX2_readStop (wsV RX2 82 RX2 yX2_isFaulty wsX2_isFaulty) := goodIn_app (goodIn_of _ (by decide +kernel)) ggX2_readStop_X2_isFaulty
theorem dX2_readStop_0 : decode cX2_readStop 0 = .ok (.aload_n 0, 1) := by decide +kernel
theorem dX2_readStop_1 : decode cX2_readStop 1 = .ok (.invokevirtual 42, 3) := by decide +kernel
theorem dX2_readStop_4 : decode cX2_readStop 4 = .ok (.ifCond .eq 23, 3) := by decide +kernel
theorem dX2_readStop_7 : decode cX2_readStop 7 = .ok (.aload_n 0, 1) := by decide +kernel
theorem dX2_readStop_8 : decode cX2_readStop 8 = .ok (.getfield 46, 3) := by decide +kernel
theorem dX2_readStop_11 : decode cX2_readStop 11 = .ok (.iconst 3, 1) := by decide +kernel
theorem dX2_readStop_12 : decode cX2_readStop 12 = .ok (.if_icmp .eq 11, 3) := by decide +kernel
theorem dX2_readStop_15 : decode cX2_readStop 15 = .ok (.aload_n 0, 1) := by decide +kernel
theorem dX2_readStop_16 : decode cX2_readStop 16 = .ok (.iconst 2, 1) := by decide +kernel
theorem dX2_readStop_17 : decode cX2_readStop 17 = .ok (.invokevirtual 82, 3) := by decide +kernel
theorem dX2_readStop_20 : decode cX2_readStop 20 = .ok (.ifCond .eq 7, 3) := by decide +kernel
theorem dX2_readStop_23 : decode cX2_readStop 23 = .ok (.iconst 1, 1) := by decide +kernel
theorem dX2_readStop_24 : decode cX2_readStop 24 = .ok (.goto 4, 3) := by decide +kernel
theorem dX2_readStop_27 : decode cX2_readStop 27 = .ok (.iconst 0, 1) := by decide +kernel
theorem dX2_readStop_28 : decode cX2_readStop 28 = .ok (.ireturn, 1) := by decide +kernel
set_option maxRecDepth 20000 in
theorem ggX2_readToken_X6_isBlank : GoodIn wsX2_readToken wsX6_isBlank := goodIn_r _ [12, 13, 37, 38] (by decide +kernel) (by decide +kernel)
set_option maxRecDepth 20000 in
theorem gX2_readToken_X6_isBlank : GoodIn wsX2_readToken (wsV RX2 156 RX6 yX6_isBlank wsX6_isBlank) := goodIn_app (goodIn_of _ (by decide +kernel)) ggX2_readToken_X6_isBlank
set_option maxRecDepth 20000 in
theorem ggX2_readToken_X6_isLetter : GoodIn wsX2_readToken wsX6_isLetter := goodIn_r _ [17, 13, 37, 38] (by decide +kernel) (by decide +kernel)
set_option maxRecDepth 20000 in
theorem gX2_readToken_X6_isLetter : GoodIn wsX2_readToken (wsV RX2 159 RX6 yX6_isLetter wsX6_isLetter) := goodIn_app (goodIn_of _ (by decide +kernel)) ggX2_readToken_X6_isLetter
set_option maxRecDepth 20000 in
theorem ggX2_readToken_X6_isFigure : GoodIn wsX2_readToken wsX6_isFigure := goodIn_r _ [21, 13, 37, 38] (by decide +kernel) (by decide +kernel)
set_option maxRecDepth 20000 in
theorem gX2_readToken_X6_isFigure : GoodIn wsX2_readToken (wsV RX2 162 RX6 yX6_isFigure wsX6_isFigure) := goodIn_app (goodIn_of _ (by decide +kernel)) ggX2_readToken_X6_isFigure
set_option maxRecDepth 20000 in
theorem ggX2_readToken_X2_isFaulty : GoodIn wsX2_readToken wsX2_isFaulty := goodIn_r _ [26, 27, 28, 29, 30, 31, 32, 33, 34, 35, 36] (by decide +kernel) (by decide +kernel)
set_option maxRecDepth 20000 in
theorem gX2_readToken_X2_isFaulty : GoodIn wsX2_readToken (wsV RX2 82 RX2 yX2_isFaulty wsX2_isFaulty) := goodIn_app (goodIn_of _ (by decide +kernel)) ggX2_readToken_X2_isFaulty
theorem dX2_readToken_0 : decode cX2_readToken 0 = .ok (.aload_n 0, 1) := by decide +kernel
theorem dX2_readToken_1 : decode cX2_readToken 1 = .ok (.getfield 29, 3) := by decide +kernel
theorem dX2_readToken_4 : decode cX2_readToken 4 = .ok (.aload_n 0, 1) := by decide +kernel
theorem dX2_readToken_5 : decode cX2_readToken 5 = .ok (.getfield 12, 3) := by decide +kernel
theorem dX2_readToken_8 : decode cX2_readToken 8 = .ok (.getfield 153, 3) := by decide +kernel
theorem dX2_readToken_11 : decode cX2_readToken 11 = .ok (.if_icmp .ge 30, 3) := by decide +kernel
theorem dX2_readToken_14 : decode cX2_readToken 14 = .ok (.aload_n 0, 1) := by decide +kernel
theorem dX2_readToken_15 : decode cX2_readToken 15 = .ok (.getfield 12, 3) := by decide +kernel
theorem dX2_readToken_18 : decode cX2_readToken 18 = .ok (.aload_n 0, 1) := by decide +kernel
theorem dX2_readToken_19 : decode cX2_readToken 19 = .ok (.getfield 29, 3) := by decide +kernel
theorem dX2_readToken_22 : decode cX2_readToken 22 = .ok (.invokevirtual 156, 3) := by decide +kernel
theorem dX2_readToken_25 : decode cX2_readToken 25 = .ok (.ifCond .eq 16, 3) := by decide +kernel
theorem dX2_readToken_28 : decode cX2_readToken 28 = .ok (.aload_n 0, 1) := by decide +kernel
theorem dX2_readToken_29 : decode cX2_readToken 29 = .ok (.dup, 1) := by decide +kernel
theorem dX2_readToken_30 : decode cX2_readToken 30 = .ok (.getfield 29, 3) := by decide +kernel
theorem dX2_readToken_33 : decode cX2_readToken 33 = .ok (.iconst 1, 1) := by decide +kernel
theorem dX2_readToken_34 : decode cX2_readToken 34 = .ok (.iadd, 1) := by decide +kernel
theorem dX2_readToken_35 : decode cX2_readToken 35 = .ok (.putfield 29, 3) := by decide +kernel
theorem dX2_readToken_38 : decode cX2_readToken 38 = .ok (.goto (-38), 3) := by decide +kernel
theorem dX2_readToken_41 : decode cX2_readToken 41 = .ok (.aload_n 0, 1) := by decide +kernel
theorem dX2_readToken_42 : decode cX2_readToken 42 = .ok (.aload_n 0, 1) := by decide +kernel
theorem dX2_readToken_43 : decode cX2_readToken 43 = .ok (.getfield 29, 3) := by decide +kernel
theorem dX2_readToken_46 : decode cX2_readToken 46 = .ok (.putfield 55, 3) := by decide +kernel
theorem dX2_readToken_49 : decode cX2_readToken 49 = .ok (.aload_n 0, 1) := by decide +kernel
theorem dX2_readToken_50 : decode cX2_readToken 50 = .ok (.iconst 0, 1) := by decide +kernel
theorem dX2_readToken_51 : decode cX2_readToken 51 = .ok (.putfield 90, 3) := by decide +kernel
theorem dX2_readToken_54 : decode cX2_readToken 54 = .ok (.aload_n 0, 1) := by decide +kernel
theorem dX2_readToken_55 : decode cX2_readToken 55 = .ok (.getfield 29, 3) := by decide +kernel
theorem dX2_readToken_58 : decode cX2_readToken 58 = .ok (.aload_n 0, 1) := by decide +kernel
theorem dX2_readToken_59 : decode cX2_readToken 59 = .ok (.getfield 12, 3) := by decide +kernel
theorem dX2_readToken_62 : decode cX2_readToken 62 = .ok (.getfield 153, 3) := by decide +kernel
theorem dX2_readToken_65 : decode cX2_readToken 65 = .ok (.if_icmp .lt 11, 3) := by decide +kernel
theorem dX2_readToken_68 : decode cX2_readToken 68 = .ok (.aload_n 0, 1) := by decide +kernel
theorem dX2_readToken_69 : decode cX2_readToken 69 = .ok (.iconst 4, 1) := by decide +kernel
theorem dX2_readToken_70 : decode cX2_readToken 70 = .ok (.putfield 46, 3) := by decide +kernel
theorem dX2_readToken_73 : decode cX2_readToken 73 = .ok (.goto 226, 3) := by decide +kernel
theorem dX2_readToken_76 : decode cX2_readToken 76 = .ok (.aload_n 0, 1) := by decide +kernel
theorem dX2_readToken_77 : decode cX2_readToken 77 = .ok (.getfield 12, 3) := by decide +kernel
theorem dX2_readToken_80 : decode cX2_readToken 80 = .ok (.aload_n 0, 1) := by decide +kernel
theorem dX2_readToken_81 : decode cX2_readToken 81 = .ok (.getfield 29, 3) := by decide +kernel
theorem dX2_readToken_84 : decode cX2_readToken 84 = .ok (.invokevirtual 159, 3) := by decide +kernel
theorem dX2_readToken_87 : decode cX2_readToken 87 = .ok (.ifCond .eq 49, 3) := by decide +kernel
theorem dX2_readToken_90 : decode cX2_readToken 90 = .ok (.aload_n 0, 1) := by decide +kernel
theorem dX2_readToken_91 : decode cX2_readToken 91 = .ok (.iconst 1, 1) := by decide +kernel
theorem dX2_readToken_92 : decode cX2_readToken 92 = .ok (.putfield 46, 3) := by decide +kernel
theorem dX2_readToken_95 : decode cX2_readToken 95 = .ok (.aload_n 0, 1) := by decide +kernel
theorem dX2_readToken_96 : decode cX2_readToken 96 = .ok (.getfield 29, 3) := by decide +kernel
theorem dX2_readToken_99 : decode cX2_readToken 99 = .ok (.aload_n 0, 1) := by decide +kernel
theorem dX2_readToken_100 : decode cX2_readToken 100 = .ok (.getfield 12, 3) := by decide +kernel
theorem dX2_readToken_103 : decode cX2_readToken 103 = .ok (.getfield 153, 3) := by decide +kernel
theorem dX2_readToken_106 : decode cX2_readToken 106 = .ok (.if_icmp .ge 193, 3) := by decide +kernel
theorem dX2_readToken_109 : decode cX2_readToken 109 = .ok (.aload_n 0, 1) := by decide +kernel
theorem dX2_readToken_110 : decode cX2_readToken 110 = .ok (.getfield 12, 3) := by decide +kernel
theorem dX2_readToken_113 : decode cX2_readToken 113 = .ok (.aload_n 0, 1) := by decide +kernel
theorem dX2_readToken_114 : decode cX2_readToken 114 = .ok (.getfield 29, 3) := by decide +kernel
theorem dX2_readToken_117 : decode cX2_readToken 117 = .ok (.invokevirtual 159, 3) := by decide +kernel
theorem dX2_readToken_120 : decode cX2_readToken 120 = .ok (.ifCond .eq 179, 3) := by decide +kernel
theorem dX2_readToken_123 : decode cX2_readToken 123 = .ok (.aload_n 0, 1) := by decide +kernel
theorem dX2_readToken_124 : decode cX2_readToken 124 = .ok (.dup, 1) := by decide +kernel
theorem dX2_readToken_125 : decode cX2_readToken 125 = .ok (.getfield 29, 3) := by decide +kernel
theorem dX2_readToken_128 : decode cX2_readToken 128 = .ok (.iconst 1, 1) := by decide +kernel
theorem dX2_readToken_129 : decode cX2_readToken 129 = .ok (.iadd, 1) := by decide +kernel
theorem dX2_readToken_130 : decode cX2_readToken 130 = .ok (.putfield 29, 3) := by decide +kernel
theorem dX2_readToken_133 : decode cX2_readToken 133 = .ok (.goto (-38), 3) := by decide +kernel
theorem dX2_readToken_136 : decode cX2_readToken 136 = .ok (.aload_n 0, 1) := by decide +kernel
theorem dX2_readToken_137 : decode cX2_readToken 137 = .ok (.getfield 12, 3) := by decide +kernel
theorem dX2_readToken_140 : decode cX2_readToken 140 = .ok (.aload_n 0, 1) := by decide +kernel
theorem dX2_readToken_141 : decode cX2_readToken 141 = .ok (.getfield 29, 3) := by decide +kernel
theorem dX2_readToken_144 : decode cX2_readToken 144 = .ok (.invokevirtual 162, 3) := by decide +kernel
theorem dX2_readToken_147 : decode cX2_readToken 147 = .ok (.ifCond .eq 106, 3) := by decide +kernel
theorem dX2_readToken_150 : decode cX2_readToken 150 = .ok (.aload_n 0, 1) := by decide +kernel
theorem dX2_readToken_151 : decode cX2_readToken 151 = .ok (.iconst 2, 1) := by decide +kernel
theorem dX2_readToken_152 : decode cX2_readToken 152 = .ok (.putfield 46, 3) := by decide +kernel
theorem dX2_readToken_155 : decode cX2_readToken 155 = .ok (.aload_n 0, 1) := by decide +kernel
theorem dX2_readToken_156 : decode cX2_readToken 156 = .ok (.getfield 29, 3) := by decide +kernel
theorem dX2_readToken_159 : decode cX2_readToken 159 = .ok (.aload_n 0, 1) := by decide +kernel
theorem dX2_readToken_160 : decode cX2_readToken 160 = .ok (.getfield 12, 3) := by decide +kernel
theorem dX2_readToken_163 : decode cX2_readToken 163 = .ok (.getfield 153, 3) := by decide +kernel
theorem dX2_readToken_166 : decode cX2_readToken 166 = .ok (.if_icmp .ge 60, 3) := by decide +kernel
theorem dX2_readToken_169 : decode cX2_readToken 169 = .ok (.aload_n 0, 1) := by decide +kernel
theorem dX2_readToken_170 : decode cX2_readToken 170 = .ok (.getfield 12, 3) := by decide +kernel
theorem dX2_readToken_173 : decode cX2_readToken 173 = .ok (.aload_n 0, 1) := by decide +kernel
theorem dX2_readToken_174 : decode cX2_readToken 174 = .ok (.getfield 29, 3) := by decide +kernel
theorem dX2_readToken_177 : decode cX2_readToken 177 = .ok (.invokevirtual 162, 3) := by decide +kernel
theorem dX2_readToken_180 : decode cX2_readToken 180 = .ok (.ifCond .eq 46, 3) := by decide +kernel
theorem dX2_readToken_183 : decode cX2_readToken 183 = .ok (.aload_n 0, 1) := by decide +kernel
theorem dX2_readToken_184 : decode cX2_readToken 184 = .ok (.aload_n 0, 1) := by decide +kernel
theorem dX2_readToken_185 : decode cX2_readToken 185 = .ok (.getfield 90, 3) := by decide +kernel
theorem dX2_readToken_188 : decode cX2_readToken 188 = .ok (.bipush 10, 2) := by decide +kernel
theorem dX2_readToken_190 : decode cX2_readToken 190 = .ok (.irem, 1) := by decide +kernel
theorem dX2_readToken_191 : decode cX2_readToken 191 = .ok (.bipush 10, 2) := by decide +kernel
theorem dX2_readToken_193 : decode cX2_readToken 193 = .ok (.imul, 1) := by decide +kernel
theorem dX2_readToken_194 : decode cX2_readToken 194 = .ok (.aload_n 0, 1) := by decide +kernel
theorem dX2_readToken_195 : decode cX2_readToken 195 = .ok (.getfield 12, 3) := by decide +kernel
theorem dX2_readToken_198 : decode cX2_readToken 198 = .ok (.getfield 165, 3) := by decide +kernel
theorem dX2_readToken_201 : decode cX2_readToken 201 = .ok (.aload_n 0, 1) := by decide +kernel
theorem dX2_readToken_202 : decode cX2_readToken 202 = .ok (.getfield 29, 3) := by decide +kernel
theorem dX2_readToken_205 : decode cX2_readToken 205 = .ok (.baload, 1) := by decide +kernel
theorem dX2_readToken_206 : decode cX2_readToken 206 = .ok (.iadd, 1) := by decide +kernel
theorem dX2_readToken_207 : decode cX2_readToken 207 = .ok (.bipush 48, 2) := by decide +kernel
theorem dX2_readToken_209 : decode cX2_readToken 209 = .ok (.isub, 1) := by decide +kernel
theorem dX2_readToken_210 : decode cX2_readToken 210 = .ok (.putfield 90, 3) := by decide +kernel
theorem dX2_readToken_213 : decode cX2_readToken 213 = .ok (.aload_n 0, 1) := by decide +kernel
theorem dX2_readToken_214 : decode cX2_readToken 214 = .ok (.dup, 1) := by decide +kernel
theorem dX2_readToken_215 : decode cX2_readToken 215 = .ok (.getfield 29, 3) := by decide +kernel
theorem dX2_readToken_218 : decode cX2_readToken 218 = .ok (.iconst 1, 1) := by decide +kernel
theorem dX2_readToken_219 : decode cX2_readToken 219 = .ok (.iadd, 1) := by decide +kernel
theorem dX2_readToken_220 : decode cX2_readToken 220 = .ok (.putfield 29, 3) := by decide +kernel
theorem dX2_readToken_223 : decode cX2_readToken 223 = .ok (.goto (-68), 3) := by decide +kernel
theorem dX2_readToken_226 : decode cX2_readToken 226 = .ok (.aload_n 0, 1) := by decide +kernel
theorem dX2_readToken_227 : decode cX2_readToken 227 = .ok (.getfield 29, 3) := by decide +kernel
theorem dX2_readToken_230 : decode cX2_readToken 230 = .ok (.aload_n 0, 1) := by decide +kernel
theorem dX2_readToken_231 : decode cX2_readToken 231 = .ok (.getfield 55, 3) := by decide +kernel
theorem dX2_readToken_234 : decode cX2_readToken 234 = .ok (.isub, 1) := by decide +kernel
theorem dX2_readToken_235 : decode cX2_readToken 235 = .ok (.iconst 2, 1) := by decide +kernel
theorem dX2_readToken_236 : decode cX2_readToken 236 = .ok (.if_icmp .le 11, 3) := by decide +kernel
theorem dX2_readToken_239 : decode cX2_readToken 239 = .ok (.aload_n 0, 1) := by decide +kernel
theorem dX2_readToken_240 : decode cX2_readToken 240 = .ok (.iconst 1, 1) := by decide +kernel
theorem dX2_readToken_241 : decode cX2_readToken 241 = .ok (.invokevirtual 82, 3) := by decide +kernel
theorem dX2_readToken_244 : decode cX2_readToken 244 = .ok (.ifCond .eq 7, 3) := by decide +kernel
theorem dX2_readToken_247 : decode cX2_readToken 247 = .ok (.iconst 1, 1) := by decide +kernel
theorem dX2_readToken_248 : decode cX2_readToken 248 = .ok (.goto 4, 3) := by decide +kernel
theorem dX2_readToken_251 : decode cX2_readToken 251 = .ok (.iconst 0, 1) := by decide +kernel
theorem dX2_readToken_252 : decode cX2_readToken 252 = .ok (.ireturn, 1) := by decide +kernel
theorem dX2_readToken_253 : decode cX2_readToken 253 = .ok (.aload_n 0, 1) := by decide +kernel
theorem dX2_readToken_254 : decode cX2_readToken 254 = .ok (.iconst 3, 1) := by decide +kernel
theorem dX2_readToken_255 : decode cX2_readToken 255 = .ok (.putfield 46, 3) := by decide +kernel
theorem dX2_readToken_258 : decode cX2_readToken 258 = .ok (.aload_n 0, 1) := by decide +kernel
theorem dX2_readToken_259 : decode cX2_readToken 259 = .ok (.dup, 1) := by decide +kernel
theorem dX2_readToken_260 : decode cX2_readToken 260 = .ok (.getfield 29, 3) := by decide +kernel
theorem dX2_readToken_263 : decode cX2_readToken 263 = .ok (.iconst 1, 1) := by decide +kernel
theorem dX2_readToken_264 : decode cX2_readToken 264 = .ok (.iadd, 1) := by decide +kernel
theorem dX2_readToken_265 : decode cX2_readToken 265 = .ok (.putfield 29, 3) := by decide +kernel
theorem dX2_readToken_268 : decode cX2_readToken 268 = .ok (.aload_n 0, 1) := by decide +kernel
theorem dX2_readToken_269 : decode cX2_readToken 269 = .ok (.getfield 12, 3) := by decide +kernel
theorem dX2_readToken_272 : decode cX2_readToken 272 = .ok (.getfield 165, 3) := by decide +kernel
theorem dX2_readToken_275 : decode cX2_readToken 275 = .ok (.aload_n 0, 1) := by decide +kernel
theorem dX2_readToken_276 : decode cX2_readToken 276 = .ok (.getfield 55, 3) := by decide +kernel
theorem dX2_readToken_279 : decode cX2_readToken 279 = .ok (.baload, 1) := by decide +kernel
theorem dX2_readToken_280 : decode cX2_readToken 280 = .ok (.bipush 59, 2) := by decide +kernel
theorem dX2_readToken_282 : decode cX2_readToken 282 = .ok (.if_icmp .eq 11, 3) := by decide +kernel
theorem dX2_readToken_285 : decode cX2_readToken 285 = .ok (.aload_n 0, 1) := by decide +kernel
theorem dX2_readToken_286 : decode cX2_readToken 286 = .ok (.iconst 1, 1) := by decide +kernel
theorem dX2_readToken_287 : decode cX2_readToken 287 = .ok (.invokevirtual 82, 3) := by decide +kernel
theorem dX2_readToken_290 : decode cX2_readToken 290 = .ok (.ifCond .eq 7, 3) := by decide +kernel
theorem dX2_readToken_293 : decode cX2_readToken 293 = .ok (.iconst 1, 1) := by decide +kernel
theorem dX2_readToken_294 : decode cX2_readToken 294 = .ok (.goto 4, 3) := by decide +kernel
theorem dX2_readToken_297 : decode cX2_readToken 297 = .ok (.iconst 0, 1) := by decide +kernel
theorem dX2_readToken_298 : decode cX2_readToken 298 = .ok (.ireturn, 1) := by decide +kernel
theorem dX2_readToken_299 : decode cX2_readToken 299 = .ok (.iconst 1, 1) := by decide +kernel
theorem dX2_readToken_300 : decode cX2_readToken 300 = .ok (.ireturn, 1) := by decide +kernel
set_option maxRecDepth 20000 in
theorem ggX2_isNamed_J0_length_8abf5 : GoodIn wsX2_isNamed wsJ0_length_8abf5 := goodIn_r _ [10, 11, 12, 13, 14, 9, 15, 16, 17] (by decide +kernel) (by decide +kernel)
set_option maxRecDepth 20000 in
theorem gX2_isNamed_J0_length_8abf5 : GoodIn wsX2_isNamed (wsV RX2 169 RJ0 yJ0_length_8abf5 wsJ0_length_8abf5) := goodIn_app (goodIn_of _ (by decide +kernel)) ggX2_isNamed_J0_length_8abf5
set_option maxRecDepth 20000 in
theorem ggX2_isNamed_J0_charAt_5068e : GoodIn wsX2_isNamed wsJ0_charAt_5068e := goodIn_r _ [21, 11, 22, 23, 24, 9, 25, 16, 17, 26, 27, 28, 29, 30, 31, 32, 33, 34, 35, 36, 37, 38, 39, 40, 41, 42, 43, 44, 45, 46, 47, 48, 49, 50, 51, 52, 53, 54] (by decide +kernel) (by decide +kernel)
set_option maxRecDepth 20000 in
theorem gX2_isNamed_J0_charAt_5068e : GoodIn wsX2_isNamed (wsV RX2 173 RJ0 yJ0_charAt_5068e wsJ0_charAt_5068e) := goodIn_app (goodIn_of _ (by decide +kernel)) ggX2_isNamed_J0_charAt_5068e
theorem dX2_isNamed_0 : decode cX2_isNamed 0 = .ok (.aload_n 0, 1) := by decide +kernel
theorem dX2_isNamed_1 : decode cX2_isNamed 1 = .ok (.getfield 46, 3) := by decide +kernel
theorem dX2_isNamed_4 : decode cX2_isNamed 4 = .ok (.iconst 1, 1) := by decide +kernel
theorem dX2_isNamed_5 : decode cX2_isNamed 5 = .ok (.if_icmp .ne 19, 3) := by decide +kernel
theorem dX2_isNamed_8 : decode cX2_isNamed 8 = .ok (.aload_n 0, 1) := by decide +kernel
theorem dX2_isNamed_9 : decode cX2_isNamed 9 = .ok (.getfield 29, 3) := by decide +kernel
theorem dX2_isNamed_12 : decode cX2_isNamed 12 = .ok (.aload_n 0, 1) := by decide +kernel
theorem dX2_isNamed_13 : decode cX2_isNamed 13 = .ok (.getfield 55, 3) := by decide +kernel
theorem dX2_isNamed_16 : decode cX2_isNamed 16 = .ok (.isub, 1) := by decide +kernel
theorem dX2_isNamed_17 : decode cX2_isNamed 17 = .ok (.aload_n 1, 1) := by decide +kernel
theorem dX2_isNamed_18 : decode cX2_isNamed 18 = .ok (.invokevirtual 169, 3) := by decide +kernel
theorem dX2_isNamed_21 : decode cX2_isNamed 21 = .ok (.if_icmp .eq 5, 3) := by decide +kernel
theorem dX2_isNamed_24 : decode cX2_isNamed 24 = .ok (.iconst 0, 1) := by decide +kernel
theorem dX2_isNamed_25 : decode cX2_isNamed 25 = .ok (.ireturn, 1) := by decide +kernel
theorem dX2_isNamed_26 : decode cX2_isNamed 26 = .ok (.iconst 0, 1) := by decide +kernel
theorem dX2_isNamed_27 : decode cX2_isNamed 27 = .ok (.istore_n 2, 1) := by decide +kernel
theorem dX2_isNamed_28 : decode cX2_isNamed 28 = .ok (.iload_n 2, 1) := by decide +kernel
theorem dX2_isNamed_29 : decode cX2_isNamed 29 = .ok (.aload_n 1, 1) := by decide +kernel
theorem dX2_isNamed_30 : decode cX2_isNamed 30 = .ok (.invokevirtual 169, 3) := by decide +kernel
theorem dX2_isNamed_33 : decode cX2_isNamed 33 = .ok (.if_icmp .ge 33, 3) := by decide +kernel
theorem dX2_isNamed_36 : decode cX2_isNamed 36 = .ok (.aload_n 0, 1) := by decide +kernel
theorem dX2_isNamed_37 : decode cX2_isNamed 37 = .ok (.getfield 12, 3) := by decide +kernel
theorem dX2_isNamed_40 : decode cX2_isNamed 40 = .ok (.getfield 165, 3) := by decide +kernel
theorem dX2_isNamed_43 : decode cX2_isNamed 43 = .ok (.aload_n 0, 1) := by decide +kernel
theorem dX2_isNamed_44 : decode cX2_isNamed 44 = .ok (.getfield 55, 3) := by decide +kernel
theorem dX2_isNamed_47 : decode cX2_isNamed 47 = .ok (.iload_n 2, 1) := by decide +kernel
theorem dX2_isNamed_48 : decode cX2_isNamed 48 = .ok (.iadd, 1) := by decide +kernel
theorem dX2_isNamed_49 : decode cX2_isNamed 49 = .ok (.baload, 1) := by decide +kernel
theorem dX2_isNamed_50 : decode cX2_isNamed 50 = .ok (.aload_n 1, 1) := by decide +kernel
theorem dX2_isNamed_51 : decode cX2_isNamed 51 = .ok (.iload_n 2, 1) := by decide +kernel
theorem dX2_isNamed_52 : decode cX2_isNamed 52 = .ok (.invokevirtual 173, 3) := by decide +kernel
theorem dX2_isNamed_55 : decode cX2_isNamed 55 = .ok (.if_icmp .eq 5, 3) := by decide +kernel
theorem dX2_isNamed_58 : decode cX2_isNamed 58 = .ok (.iconst 0, 1) := by decide +kernel
theorem dX2_isNamed_59 : decode cX2_isNamed 59 = .ok (.ireturn, 1) := by decide +kernel
theorem dX2_isNamed_60 : decode cX2_isNamed 60 = .ok (.iinc 2 1, 3) := by decide +kernel
theorem dX2_isNamed_63 : decode cX2_isNamed 63 = .ok (.goto (-35), 3) := by decide +kernel
theorem dX2_isNamed_66 : decode cX2_isNamed 66 = .ok (.iconst 1, 1) := by decide +kernel
theorem dX2_isNamed_67 : decode cX2_isNamed 67 = .ok (.ireturn, 1) := by decide +kernel
theorem dX2_isFaulty_0 : decode cX2_isFaulty 0 = .ok (.aload_n 0, 1) := by decide +kernel
theorem dX2_isFaulty_1 : decode cX2_isFaulty 1 = .ok (.iload_n 1, 1) := by decide +kernel
theorem dX2_isFaulty_2 : decode cX2_isFaulty 2 = .ok (.putfield 25, 3) := by decide +kernel
theorem dX2_isFaulty_5 : decode cX2_isFaulty 5 = .ok (.iconst 0, 1) := by decide +kernel
theorem dX2_isFaulty_6 : decode cX2_isFaulty 6 = .ok (.ireturn, 1) := by decide +kernel
