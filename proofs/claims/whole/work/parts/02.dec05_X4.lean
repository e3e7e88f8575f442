set_option maxRecDepth 20000 in
theorem ggX4_init_X7_init : GoodIn wsX4_init wsX7_init := goodIn_r _ [16, 17, 2, 3, 18, 12, 19, 20, 21, 22, 23, 24, 25, 30, 31, 32, 33, 34, 35, 36, 37, 38, 39] (by decide +kernel) (by decide +kernel)
set_option maxRecDepth 20000 in
theorem gX4_init_X7_init_n11 : GoodIn wsX4_init (wsX7_init) := ggX4_init_X7_init
set_option maxRecDepth 20000 in
theorem ggX4_init_X3_init : GoodIn wsX4_init wsX3_init := goodIn_r _ [27, 28, 2, 3, 12, 29, 45, 46] (by decide +kernel) (by decide +kernel)
set_option maxRecDepth 20000 in
theorem gX4_init_X3_init_n20 : GoodIn wsX4_init (wsX3_init) := ggX4_init_X3_init
theorem dX4_init_0 : decode cX4_init 0 = .ok (.aload_n 0, 1) := by decide +kernel
theorem dX4_init_1 : decode cX4_init 1 = .ok (.invokespecial 3, 3) := by decide +kernel
theorem dX4_init_4 : decode cX4_init 4 = .ok (.aload_n 0, 1) := by decide +kernel
theorem dX4_init_5 : decode cX4_init 5 = .ok (.new 9, 3) := by decide +kernel
theorem dX4_init_8 : decode cX4_init 8 = .ok (.dup, 1) := by decide +kernel
theorem dX4_init_9 : decode cX4_init 9 = .ok (.invokespecial 11, 3) := by decide +kernel
theorem dX4_init_12 : decode cX4_init 12 = .ok (.putfield 12, 3) := by decide +kernel
theorem dX4_init_15 : decode cX4_init 15 = .ok (.aload_n 0, 1) := by decide +kernel
theorem dX4_init_16 : decode cX4_init 16 = .ok (.new 18, 3) := by decide +kernel
theorem dX4_init_19 : decode cX4_init 19 = .ok (.dup, 1) := by decide +kernel
theorem dX4_init_20 : decode cX4_init 20 = .ok (.invokespecial 20, 3) := by decide +kernel
theorem dX4_init_23 : decode cX4_init 23 = .ok (.putfield 21, 3) := by decide +kernel
theorem dX4_init_26 : decode cX4_init 26 = .ok (.aload_n 0, 1) := by decide +kernel
theorem dX4_init_27 : decode cX4_init 27 = .ok (.bipush 7, 2) := by decide +kernel
theorem dX4_init_29 : decode cX4_init 29 = .ok (.newarray .int, 2) := by decide +kernel
theorem dX4_init_31 : decode cX4_init 31 = .ok (.putfield 25, 3) := by decide +kernel
theorem dX4_init_34 : decode cX4_init 34 = .ok (.aload_n 0, 1) := by decide +kernel
theorem dX4_init_35 : decode cX4_init 35 = .ok (.iconst 2, 1) := by decide +kernel
theorem dX4_init_36 : decode cX4_init 36 = .ok (.newarray .int, 2) := by decide +kernel
theorem dX4_init_38 : decode cX4_init 38 = .ok (.putfield 29, 3) := by decide +kernel
theorem dX4_init_41 : decode cX4_init 41 = .ok (.return_, 1) := by decide +kernel
set_option maxRecDepth 20000 in
theorem ggX4_load_X7_copyOf : GoodIn wsX4_load wsX7_copyOf := goodIn_r _ [10, 11, 12, 13, 14, 15, 16, 17, 18, 19, 20, 21, 22, 23, 24, 32, 33, 34, 35, 36, 37, 38, 39, 40, 41] (by decide +kernel) (by decide +kernel)
set_option maxRecDepth 20000 in
theorem gX4_load_X7_copyOf : GoodIn wsX4_load (wsV RX4 32 RX7 yX7_copyOf wsX7_copyOf) := goodIn_app (goodIn_of _ (by decide +kernel)) ggX4_load_X7_copyOf
theorem dX4_load_0 : decode cX4_load 0 = .ok (.aload_n 0, 1) := by decide +kernel
theorem dX4_load_1 : decode cX4_load 1 = .ok (.getfield 12, 3) := by decide +kernel
theorem dX4_load_4 : decode cX4_load 4 = .ok (.aload_n 1, 1) := by decide +kernel
theorem dX4_load_5 : decode cX4_load 5 = .ok (.invokevirtual 32, 3) := by decide +kernel
theorem dX4_load_8 : decode cX4_load 8 = .ok (.aload_n 0, 1) := by decide +kernel
theorem dX4_load_9 : decode cX4_load 9 = .ok (.getfield 21, 3) := by decide +kernel
theorem dX4_load_12 : decode cX4_load 12 = .ok (.iconst 0, 1) := by decide +kernel
theorem dX4_load_13 : decode cX4_load 13 = .ok (.putfield 36, 3) := by decide +kernel
theorem dX4_load_16 : decode cX4_load 16 = .ok (.aload_n 0, 1) := by decide +kernel
theorem dX4_load_17 : decode cX4_load 17 = .ok (.getfield 29, 3) := by decide +kernel
theorem dX4_load_20 : decode cX4_load 20 = .ok (.iconst 0, 1) := by decide +kernel
theorem dX4_load_21 : decode cX4_load 21 = .ok (.iconst 0, 1) := by decide +kernel
theorem dX4_load_22 : decode cX4_load 22 = .ok (.iastore, 1) := by decide +kernel
theorem dX4_load_23 : decode cX4_load 23 = .ok (.aload_n 0, 1) := by decide +kernel
theorem dX4_load_24 : decode cX4_load 24 = .ok (.getfield 29, 3) := by decide +kernel
theorem dX4_load_27 : decode cX4_load 27 = .ok (.iconst 1, 1) := by decide +kernel
theorem dX4_load_28 : decode cX4_load 28 = .ok (.iconst 0, 1) := by decide +kernel
theorem dX4_load_29 : decode cX4_load 29 = .ok (.iastore, 1) := by decide +kernel
theorem dX4_load_30 : decode cX4_load 30 = .ok (.aload_n 0, 1) := by decide +kernel
theorem dX4_load_31 : decode cX4_load 31 = .ok (.iconst 0, 1) := by decide +kernel
theorem dX4_load_32 : decode cX4_load 32 = .ok (.putfield 40, 3) := by decide +kernel
theorem dX4_load_35 : decode cX4_load 35 = .ok (.return_, 1) := by decide +kernel
set_option maxRecDepth 20000 in
theorem ggX4_go_X3_letIn : GoodIn wsX4_go wsX3_letIn := goodIn_r _ [10, 11, 12, 13, 14, 15, 16, 17, 18, 19, 20, 21, 22, 23, 24, 25, 26, 27, 28, 29, 30, 31, 32, 33, 34, 35, 36, 37, 38, 39, 40, 41, 42, 80, 81, 70, 71, 72, 73, 74, 75, 76, 77, 78, 79] (by decide +kernel) (by decide +kernel)
set_option maxRecDepth 20000 in
theorem gX4_go_X3_letIn : GoodIn wsX4_go (wsV RX4 49 RX3 yX3_letIn wsX3_letIn) := goodIn_app (goodIn_of _ (by decide +kernel)) ggX4_go_X3_letIn
set_option maxRecDepth 20000 in
theorem ggX4_go_X4_takeAt : GoodIn wsX4_go wsX4_takeAt := goodIn_r _ [47, 1, 48, 49, 5, 50, 51, 52, 53, 54, 55, 9, 56, 11, 12, 65, 66, 67, 68, 69, 70, 71, 72, 73, 74, 75, 76, 77, 78, 79, 80, 81] (by decide +kernel) (by decide +kernel)
set_option maxRecDepth 20000 in
theorem gX4_go_X4_takeAt : GoodIn wsX4_go (wsV RX4 53 RX4 yX4_takeAt wsX4_takeAt) := goodIn_app (goodIn_of _ (by decide +kernel)) ggX4_go_X4_takeAt
set_option maxRecDepth 20000 in
theorem ggX4_go_X4_minuteBehind : GoodIn wsX4_go wsX4_minuteBehind := goodIn_r _ [60, 1, 2, 3, 48, 5, 50, 49, 61, 62, 63, 64, 65, 66, 67, 68, 69, 70, 71, 72, 73, 74, 75, 76, 77, 78, 79, 80, 81] (by decide +kernel) (by decide +kernel)
set_option maxRecDepth 20000 in
theorem gX4_go_X4_minuteBehind : GoodIn wsX4_go (wsV RX4 57 RX4 yX4_minuteBehind wsX4_minuteBehind) := goodIn_app (goodIn_of _ (by decide +kernel)) ggX4_go_X4_minuteBehind
theorem dX4_go_0 : decode cX4_go 0 = .ok (.iconst 0, 1) := by decide +kernel
theorem dX4_go_1 : decode cX4_go 1 = .ok (.istore_n 2, 1) := by decide +kernel
theorem dX4_go_2 : decode cX4_go 2 = .ok (.iconst 0, 1) := by decide +kernel
theorem dX4_go_3 : decode cX4_go 3 = .ok (.istore_n 3, 1) := by decide +kernel
theorem dX4_go_4 : decode cX4_go 4 = .ok (.iload_n 3, 1) := by decide +kernel
theorem dX4_go_5 : decode cX4_go 5 = .ok (.bipush 14, 2) := by decide +kernel
theorem dX4_go_7 : decode cX4_go 7 = .ok (.if_icmp .gt 83, 3) := by decide +kernel
theorem dX4_go_10 : decode cX4_go 10 = .ok (.iload_n 2, 1) := by decide +kernel
theorem dX4_go_11 : decode cX4_go 11 = .ok (.iload_n 1, 1) := by decide +kernel
theorem dX4_go_12 : decode cX4_go 12 = .ok (.if_icmp .gt 78, 3) := by decide +kernel
theorem dX4_go_15 : decode cX4_go 15 = .ok (.iconst 0, 1) := by decide +kernel
theorem dX4_go_16 : decode cX4_go 16 = .ok (.istore 4, 2) := by decide +kernel
theorem dX4_go_18 : decode cX4_go 18 = .ok (.iload 4, 2) := by decide +kernel
theorem dX4_go_20 : decode cX4_go 20 = .ok (.aload_n 0, 1) := by decide +kernel
theorem dX4_go_21 : decode cX4_go 21 = .ok (.getfield 12, 3) := by decide +kernel
theorem dX4_go_24 : decode cX4_go 24 = .ok (.getfield 43, 3) := by decide +kernel
theorem dX4_go_27 : decode cX4_go 27 = .ok (.if_icmp .ge 46, 3) := by decide +kernel
theorem dX4_go_30 : decode cX4_go 30 = .ok (.aload_n 0, 1) := by decide +kernel
theorem dX4_go_31 : decode cX4_go 31 = .ok (.getfield 12, 3) := by decide +kernel
theorem dX4_go_34 : decode cX4_go 34 = .ok (.getfield 46, 3) := by decide +kernel
theorem dX4_go_37 : decode cX4_go 37 = .ok (.iload 4, 2) := by decide +kernel
theorem dX4_go_39 : decode cX4_go 39 = .ok (.iaload, 1) := by decide +kernel
theorem dX4_go_40 : decode cX4_go 40 = .ok (.iload_n 2, 1) := by decide +kernel
theorem dX4_go_41 : decode cX4_go 41 = .ok (.if_icmp .ne 26, 3) := by decide +kernel
theorem dX4_go_44 : decode cX4_go 44 = .ok (.aload_n 0, 1) := by decide +kernel
theorem dX4_go_45 : decode cX4_go 45 = .ok (.dup, 1) := by decide +kernel
theorem dX4_go_46 : decode cX4_go 46 = .ok (.getfield 40, 3) := by decide +kernel
theorem dX4_go_49 : decode cX4_go 49 = .ok (.aload_n 0, 1) := by decide +kernel
theorem dX4_go_50 : decode cX4_go 50 = .ok (.getfield 21, 3) := by decide +kernel
theorem dX4_go_53 : decode cX4_go 53 = .ok (.aload_n 0, 1) := by decide +kernel
theorem dX4_go_54 : decode cX4_go 54 = .ok (.getfield 12, 3) := by decide +kernel
theorem dX4_go_57 : decode cX4_go 57 = .ok (.iload 4, 2) := by decide +kernel
theorem dX4_go_59 : decode cX4_go 59 = .ok (.iconst 1, 1) := by decide +kernel
theorem dX4_go_60 : decode cX4_go 60 = .ok (.invokevirtual 49, 3) := by decide +kernel
theorem dX4_go_63 : decode cX4_go 63 = .ok (.iadd, 1) := by decide +kernel
theorem dX4_go_64 : decode cX4_go 64 = .ok (.putfield 40, 3) := by decide +kernel
theorem dX4_go_67 : decode cX4_go 67 = .ok (.iinc 4 1, 3) := by decide +kernel
theorem dX4_go_70 : decode cX4_go 70 = .ok (.goto (-52), 3) := by decide +kernel
theorem dX4_go_73 : decode cX4_go 73 = .ok (.aload_n 0, 1) := by decide +kernel
theorem dX4_go_74 : decode cX4_go 74 = .ok (.iload_n 2, 1) := by decide +kernel
theorem dX4_go_75 : decode cX4_go 75 = .ok (.invokevirtual 53, 3) := by decide +kernel
theorem dX4_go_78 : decode cX4_go 78 = .ok (.aload_n 0, 1) := by decide +kernel
theorem dX4_go_79 : decode cX4_go 79 = .ok (.iload_n 2, 1) := by decide +kernel
theorem dX4_go_80 : decode cX4_go 80 = .ok (.invokevirtual 57, 3) := by decide +kernel
theorem dX4_go_83 : decode cX4_go 83 = .ok (.istore_n 2, 1) := by decide +kernel
theorem dX4_go_84 : decode cX4_go 84 = .ok (.iinc 3 1, 3) := by decide +kernel
theorem dX4_go_87 : decode cX4_go 87 = .ok (.goto (-83), 3) := by decide +kernel
theorem dX4_go_90 : decode cX4_go 90 = .ok (.return_, 1) := by decide +kernel
set_option maxRecDepth 20000 in
theorem ggX4_takeAt_X3_takeFront : GoodIn wsX4_takeAt wsX3_takeFront := goodIn_r _ [12, 13, 14, 30, 31] (by decide +kernel) (by decide +kernel)
set_option maxRecDepth 20000 in
theorem gX4_takeAt_X3_takeFront : GoodIn wsX4_takeAt (wsV RX4 64 RX3 yX3_takeFront wsX3_takeFront) := goodIn_app (goodIn_of _ (by decide +kernel)) ggX4_takeAt_X3_takeFront
theorem dX4_takeAt_0 : decode cX4_takeAt 0 = .ok (.iconst 0, 1) := by decide +kernel
theorem dX4_takeAt_1 : decode cX4_takeAt 1 = .ok (.istore_n 2, 1) := by decide +kernel
theorem dX4_takeAt_2 : decode cX4_takeAt 2 = .ok (.iload_n 2, 1) := by decide +kernel
theorem dX4_takeAt_3 : decode cX4_takeAt 3 = .ok (.aload_n 0, 1) := by decide +kernel
theorem dX4_takeAt_4 : decode cX4_takeAt 4 = .ok (.getfield 12, 3) := by decide +kernel
theorem dX4_takeAt_7 : decode cX4_takeAt 7 = .ok (.getfield 61, 3) := by decide +kernel
theorem dX4_takeAt_10 : decode cX4_takeAt 10 = .ok (.if_icmp .ge 61, 3) := by decide +kernel
theorem dX4_takeAt_13 : decode cX4_takeAt 13 = .ok (.aload_n 0, 1) := by decide +kernel
theorem dX4_takeAt_14 : decode cX4_takeAt 14 = .ok (.getfield 29, 3) := by decide +kernel
theorem dX4_takeAt_17 : decode cX4_takeAt 17 = .ok (.iload_n 2, 1) := by decide +kernel
theorem dX4_takeAt_18 : decode cX4_takeAt 18 = .ok (.iaload, 1) := by decide +kernel
theorem dX4_takeAt_19 : decode cX4_takeAt 19 = .ok (.iload_n 1, 1) := by decide +kernel
theorem dX4_takeAt_20 : decode cX4_takeAt 20 = .ok (.if_icmp .gt 45, 3) := by decide +kernel
theorem dX4_takeAt_23 : decode cX4_takeAt 23 = .ok (.aload_n 0, 1) := by decide +kernel
theorem dX4_takeAt_24 : decode cX4_takeAt 24 = .ok (.getfield 21, 3) := by decide +kernel
theorem dX4_takeAt_27 : decode cX4_takeAt 27 = .ok (.getfield 36, 3) := by decide +kernel
theorem dX4_takeAt_30 : decode cX4_takeAt 30 = .ok (.ifCond .le 35, 3) := by decide +kernel
theorem dX4_takeAt_33 : decode cX4_takeAt 33 = .ok (.aload_n 0, 1) := by decide +kernel
theorem dX4_takeAt_34 : decode cX4_takeAt 34 = .ok (.getfield 21, 3) := by decide +kernel
theorem dX4_takeAt_37 : decode cX4_takeAt 37 = .ok (.invokevirtual 64, 3) := by decide +kernel
theorem dX4_takeAt_40 : decode cX4_takeAt 40 = .ok (.istore_n 3, 1) := by decide +kernel
theorem dX4_takeAt_41 : decode cX4_takeAt 41 = .ok (.aload_n 0, 1) := by decide +kernel
theorem dX4_takeAt_42 : decode cX4_takeAt 42 = .ok (.getfield 25, 3) := by decide +kernel
theorem dX4_takeAt_45 : decode cX4_takeAt 45 = .ok (.iload_n 3, 1) := by decide +kernel
theorem dX4_takeAt_46 : decode cX4_takeAt 46 = .ok (.iload_n 1, 1) := by decide +kernel
theorem dX4_takeAt_47 : decode cX4_takeAt 47 = .ok (.iastore, 1) := by decide +kernel
theorem dX4_takeAt_48 : decode cX4_takeAt 48 = .ok (.aload_n 0, 1) := by decide +kernel
theorem dX4_takeAt_49 : decode cX4_takeAt 49 = .ok (.getfield 29, 3) := by decide +kernel
theorem dX4_takeAt_52 : decode cX4_takeAt 52 = .ok (.iload_n 2, 1) := by decide +kernel
theorem dX4_takeAt_53 : decode cX4_takeAt 53 = .ok (.iload_n 1, 1) := by decide +kernel
theorem dX4_takeAt_54 : decode cX4_takeAt 54 = .ok (.aload_n 0, 1) := by decide +kernel
theorem dX4_takeAt_55 : decode cX4_takeAt 55 = .ok (.getfield 12, 3) := by decide +kernel
theorem dX4_takeAt_58 : decode cX4_takeAt 58 = .ok (.getfield 68, 3) := by decide +kernel
theorem dX4_takeAt_61 : decode cX4_takeAt 61 = .ok (.iload_n 3, 1) := by decide +kernel
theorem dX4_takeAt_62 : decode cX4_takeAt 62 = .ok (.iaload, 1) := by decide +kernel
theorem dX4_takeAt_63 : decode cX4_takeAt 63 = .ok (.iadd, 1) := by decide +kernel
theorem dX4_takeAt_64 : decode cX4_takeAt 64 = .ok (.iastore, 1) := by decide +kernel
theorem dX4_takeAt_65 : decode cX4_takeAt 65 = .ok (.iinc 2 1, 3) := by decide +kernel
theorem dX4_takeAt_68 : decode cX4_takeAt 68 = .ok (.goto (-66), 3) := by decide +kernel
theorem dX4_takeAt_71 : decode cX4_takeAt 71 = .ok (.return_, 1) := by decide +kernel
theorem dX4_minuteBehind_0 : decode cX4_minuteBehind 0 = .ok (.sipush 1000, 3) := by decide +kernel
theorem dX4_minuteBehind_3 : decode cX4_minuteBehind 3 = .ok (.istore_n 2, 1) := by decide +kernel
theorem dX4_minuteBehind_4 : decode cX4_minuteBehind 4 = .ok (.iconst 0, 1) := by decide +kernel
theorem dX4_minuteBehind_5 : decode cX4_minuteBehind 5 = .ok (.istore_n 3, 1) := by decide +kernel
theorem dX4_minuteBehind_6 : decode cX4_minuteBehind 6 = .ok (.iload_n 3, 1) := by decide +kernel
theorem dX4_minuteBehind_7 : decode cX4_minuteBehind 7 = .ok (.aload_n 0, 1) := by decide +kernel
theorem dX4_minuteBehind_8 : decode cX4_minuteBehind 8 = .ok (.getfield 12, 3) := by decide +kernel
theorem dX4_minuteBehind_11 : decode cX4_minuteBehind 11 = .ok (.getfield 43, 3) := by decide +kernel
theorem dX4_minuteBehind_14 : decode cX4_minuteBehind 14 = .ok (.if_icmp .ge 45, 3) := by decide +kernel
theorem dX4_minuteBehind_17 : decode cX4_minuteBehind 17 = .ok (.aload_n 0, 1) := by decide +kernel
theorem dX4_minuteBehind_18 : decode cX4_minuteBehind 18 = .ok (.getfield 12, 3) := by decide +kernel
theorem dX4_minuteBehind_21 : decode cX4_minuteBehind 21 = .ok (.getfield 46, 3) := by decide +kernel
theorem dX4_minuteBehind_24 : decode cX4_minuteBehind 24 = .ok (.iload_n 3, 1) := by decide +kernel
theorem dX4_minuteBehind_25 : decode cX4_minuteBehind 25 = .ok (.iaload, 1) := by decide +kernel
theorem dX4_minuteBehind_26 : decode cX4_minuteBehind 26 = .ok (.iload_n 1, 1) := by decide +kernel
theorem dX4_minuteBehind_27 : decode cX4_minuteBehind 27 = .ok (.if_icmp .le 26, 3) := by decide +kernel
theorem dX4_minuteBehind_30 : decode cX4_minuteBehind 30 = .ok (.aload_n 0, 1) := by decide +kernel
theorem dX4_minuteBehind_31 : decode cX4_minuteBehind 31 = .ok (.getfield 12, 3) := by decide +kernel
theorem dX4_minuteBehind_34 : decode cX4_minuteBehind 34 = .ok (.getfield 46, 3) := by decide +kernel
theorem dX4_minuteBehind_37 : decode cX4_minuteBehind 37 = .ok (.iload_n 3, 1) := by decide +kernel
theorem dX4_minuteBehind_38 : decode cX4_minuteBehind 38 = .ok (.iaload, 1) := by decide +kernel
theorem dX4_minuteBehind_39 : decode cX4_minuteBehind 39 = .ok (.iload_n 2, 1) := by decide +kernel
theorem dX4_minuteBehind_40 : decode cX4_minuteBehind 40 = .ok (.if_icmp .ge 13, 3) := by decide +kernel
theorem dX4_minuteBehind_43 : decode cX4_minuteBehind 43 = .ok (.aload_n 0, 1) := by decide +kernel
theorem dX4_minuteBehind_44 : decode cX4_minuteBehind 44 = .ok (.getfield 12, 3) := by decide +kernel
theorem dX4_minuteBehind_47 : decode cX4_minuteBehind 47 = .ok (.getfield 46, 3) := by decide +kernel
theorem dX4_minuteBehind_50 : decode cX4_minuteBehind 50 = .ok (.iload_n 3, 1) := by decide +kernel
theorem dX4_minuteBehind_51 : decode cX4_minuteBehind 51 = .ok (.iaload, 1) := by decide +kernel
theorem dX4_minuteBehind_52 : decode cX4_minuteBehind 52 = .ok (.istore_n 2, 1) := by decide +kernel
theorem dX4_minuteBehind_53 : decode cX4_minuteBehind 53 = .ok (.iinc 3 1, 3) := by decide +kernel
theorem dX4_minuteBehind_56 : decode cX4_minuteBehind 56 = .ok (.goto (-50), 3) := by decide +kernel
theorem dX4_minuteBehind_59 : decode cX4_minuteBehind 59 = .ok (.iconst 0, 1) := by decide +kernel
theorem dX4_minuteBehind_60 : decode cX4_minuteBehind 60 = .ok (.istore_n 3, 1) := by decide +kernel
theorem dX4_minuteBehind_61 : decode cX4_minuteBehind 61 = .ok (.iload_n 3, 1) := by decide +kernel
theorem dX4_minuteBehind_62 : decode cX4_minuteBehind 62 = .ok (.aload_n 0, 1) := by decide +kernel
theorem dX4_minuteBehind_63 : decode cX4_minuteBehind 63 = .ok (.getfield 12, 3) := by decide +kernel
theorem dX4_minuteBehind_66 : decode cX4_minuteBehind 66 = .ok (.getfield 61, 3) := by decide +kernel
theorem dX4_minuteBehind_69 : decode cX4_minuteBehind 69 = .ok (.if_icmp .ge 30, 3) := by decide +kernel
theorem dX4_minuteBehind_72 : decode cX4_minuteBehind 72 = .ok (.aload_n 0, 1) := by decide +kernel
theorem dX4_minuteBehind_73 : decode cX4_minuteBehind 73 = .ok (.getfield 21, 3) := by decide +kernel
theorem dX4_minuteBehind_76 : decode cX4_minuteBehind 76 = .ok (.getfield 36, 3) := by decide +kernel
theorem dX4_minuteBehind_79 : decode cX4_minuteBehind 79 = .ok (.ifCond .le 20, 3) := by decide +kernel
theorem dX4_minuteBehind_82 : decode cX4_minuteBehind 82 = .ok (.iload_n 2, 1) := by decide +kernel
theorem dX4_minuteBehind_83 : decode cX4_minuteBehind 83 = .ok (.aload_n 0, 1) := by decide +kernel
theorem dX4_minuteBehind_84 : decode cX4_minuteBehind 84 = .ok (.getfield 29, 3) := by decide +kernel
theorem dX4_minuteBehind_87 : decode cX4_minuteBehind 87 = .ok (.iload_n 3, 1) := by decide +kernel
theorem dX4_minuteBehind_88 : decode cX4_minuteBehind 88 = .ok (.iaload, 1) := by decide +kernel
theorem dX4_minuteBehind_89 : decode cX4_minuteBehind 89 = .ok (.invokestatic 71, 3) := by decide +kernel
theorem dX4_minuteBehind_92 : decode cX4_minuteBehind 92 = .ok (.istore_n 2, 1) := by decide +kernel
theorem dX4_minuteBehind_93 : decode cX4_minuteBehind 93 = .ok (.iinc 3 1, 3) := by decide +kernel
theorem dX4_minuteBehind_96 : decode cX4_minuteBehind 96 = .ok (.goto (-35), 3) := by decide +kernel
theorem dX4_minuteBehind_99 : decode cX4_minuteBehind 99 = .ok (.iload_n 2, 1) := by decide +kernel
theorem dX4_minuteBehind_100 : decode cX4_minuteBehind 100 = .ok (.ireturn, 1) := by decide +kernel
theorem dX4_waitOf_0 : decode cX4_waitOf 0 = .ok (.aload_n 0, 1) := by decide +kernel
theorem dX4_waitOf_1 : decode cX4_waitOf 1 = .ok (.getfield 25, 3) := by decide +kernel
theorem dX4_waitOf_4 : decode cX4_waitOf 4 = .ok (.iload_n 1, 1) := by decide +kernel
theorem dX4_waitOf_5 : decode cX4_waitOf 5 = .ok (.iaload, 1) := by decide +kernel
theorem dX4_waitOf_6 : decode cX4_waitOf 6 = .ok (.aload_n 0, 1) := by decide +kernel
theorem dX4_waitOf_7 : decode cX4_waitOf 7 = .ok (.getfield 12, 3) := by decide +kernel
theorem dX4_waitOf_10 : decode cX4_waitOf 10 = .ok (.getfield 46, 3) := by decide +kernel
theorem dX4_waitOf_13 : decode cX4_waitOf 13 = .ok (.iload_n 1, 1) := by decide +kernel
theorem dX4_waitOf_14 : decode cX4_waitOf 14 = .ok (.iaload, 1) := by decide +kernel
theorem dX4_waitOf_15 : decode cX4_waitOf 15 = .ok (.isub, 1) := by decide +kernel
theorem dX4_waitOf_16 : decode cX4_waitOf 16 = .ok (.ireturn, 1) := by decide +kernel
set_option maxRecDepth 20000 in
theorem ggX4_sum_X4_waitOf : GoodIn wsX4_sum wsX4_waitOf := goodIn_r _ [15, 4, 1, 16, 17, 18, 19, 20, 21, 22, 23, 24, 25, 26, 27, 28, 29, 30, 31] (by decide +kernel) (by decide +kernel)
set_option maxRecDepth 20000 in
theorem gX4_sum_X4_waitOf : GoodIn wsX4_sum (wsV RX4 77 RX4 yX4_waitOf wsX4_waitOf) := goodIn_app (goodIn_of _ (by decide +kernel)) ggX4_sum_X4_waitOf
theorem dX4_sum_0 : decode cX4_sum 0 = .ok (.iconst 0, 1) := by decide +kernel
theorem dX4_sum_1 : decode cX4_sum 1 = .ok (.istore_n 2, 1) := by decide +kernel
theorem dX4_sum_2 : decode cX4_sum 2 = .ok (.iconst 0, 1) := by decide +kernel
theorem dX4_sum_3 : decode cX4_sum 3 = .ok (.istore_n 3, 1) := by decide +kernel
theorem dX4_sum_4 : decode cX4_sum 4 = .ok (.iconst 0, 1) := by decide +kernel
theorem dX4_sum_5 : decode cX4_sum 5 = .ok (.istore 4, 2) := by decide +kernel
theorem dX4_sum_7 : decode cX4_sum 7 = .ok (.iconst 0, 1) := by decide +kernel
theorem dX4_sum_8 : decode cX4_sum 8 = .ok (.istore 5, 2) := by decide +kernel
theorem dX4_sum_10 : decode cX4_sum 10 = .ok (.iload 5, 2) := by decide +kernel
theorem dX4_sum_12 : decode cX4_sum 12 = .ok (.aload_n 0, 1) := by decide +kernel
theorem dX4_sum_13 : decode cX4_sum 13 = .ok (.getfield 12, 3) := by decide +kernel
theorem dX4_sum_16 : decode cX4_sum 16 = .ok (.getfield 43, 3) := by decide +kernel
theorem dX4_sum_19 : decode cX4_sum 19 = .ok (.if_icmp .ge 63, 3) := by decide +kernel
theorem dX4_sum_22 : decode cX4_sum 22 = .ok (.iload_n 2, 1) := by decide +kernel
theorem dX4_sum_23 : decode cX4_sum 23 = .ok (.aload_n 0, 1) := by decide +kernel
theorem dX4_sum_24 : decode cX4_sum 24 = .ok (.iload 5, 2) := by decide +kernel
theorem dX4_sum_26 : decode cX4_sum 26 = .ok (.invokevirtual 77, 3) := by decide +kernel
theorem dX4_sum_29 : decode cX4_sum 29 = .ok (.iadd, 1) := by decide +kernel
theorem dX4_sum_30 : decode cX4_sum 30 = .ok (.istore_n 2, 1) := by decide +kernel
theorem dX4_sum_31 : decode cX4_sum 31 = .ok (.iload_n 3, 1) := by decide +kernel
theorem dX4_sum_32 : decode cX4_sum 32 = .ok (.aload_n 0, 1) := by decide +kernel
theorem dX4_sum_33 : decode cX4_sum 33 = .ok (.iload 5, 2) := by decide +kernel
theorem dX4_sum_35 : decode cX4_sum 35 = .ok (.invokevirtual 77, 3) := by decide +kernel
theorem dX4_sum_38 : decode cX4_sum 38 = .ok (.aload_n 0, 1) := by decide +kernel
theorem dX4_sum_39 : decode cX4_sum 39 = .ok (.getfield 12, 3) := by decide +kernel
theorem dX4_sum_42 : decode cX4_sum 42 = .ok (.getfield 80, 3) := by decide +kernel
theorem dX4_sum_45 : decode cX4_sum 45 = .ok (.iload 5, 2) := by decide +kernel
theorem dX4_sum_47 : decode cX4_sum 47 = .ok (.iaload, 1) := by decide +kernel
theorem dX4_sum_48 : decode cX4_sum 48 = .ok (.imul, 1) := by decide +kernel
theorem dX4_sum_49 : decode cX4_sum 49 = .ok (.iadd, 1) := by decide +kernel
theorem dX4_sum_50 : decode cX4_sum 50 = .ok (.istore_n 3, 1) := by decide +kernel
theorem dX4_sum_51 : decode cX4_sum 51 = .ok (.iload 4, 2) := by decide +kernel
theorem dX4_sum_53 : decode cX4_sum 53 = .ok (.aload_n 0, 1) := by decide +kernel
theorem dX4_sum_54 : decode cX4_sum 54 = .ok (.getfield 25, 3) := by decide +kernel
theorem dX4_sum_57 : decode cX4_sum 57 = .ok (.iload 5, 2) := by decide +kernel
theorem dX4_sum_59 : decode cX4_sum 59 = .ok (.iaload, 1) := by decide +kernel
theorem dX4_sum_60 : decode cX4_sum 60 = .ok (.aload_n 0, 1) := by decide +kernel
theorem dX4_sum_61 : decode cX4_sum 61 = .ok (.getfield 12, 3) := by decide +kernel
theorem dX4_sum_64 : decode cX4_sum 64 = .ok (.getfield 68, 3) := by decide +kernel
theorem dX4_sum_67 : decode cX4_sum 67 = .ok (.iload 5, 2) := by decide +kernel
theorem dX4_sum_69 : decode cX4_sum 69 = .ok (.iaload, 1) := by decide +kernel
theorem dX4_sum_70 : decode cX4_sum 70 = .ok (.iadd, 1) := by decide +kernel
theorem dX4_sum_71 : decode cX4_sum 71 = .ok (.invokestatic 83, 3) := by decide +kernel
theorem dX4_sum_74 : decode cX4_sum 74 = .ok (.istore 4, 2) := by decide +kernel
theorem dX4_sum_76 : decode cX4_sum 76 = .ok (.iinc 5 1, 3) := by decide +kernel
theorem dX4_sum_79 : decode cX4_sum 79 = .ok (.goto (-69), 3) := by decide +kernel
theorem dX4_sum_82 : decode cX4_sum 82 = .ok (.iload_n 1, 1) := by decide +kernel
theorem dX4_sum_83 : decode cX4_sum 83 = .ok (.tableswitch 32 0 2 #[25, 27, 29], 25) := by decide +kernel
theorem dX4_sum_108 : decode cX4_sum 108 = .ok (.iload_n 2, 1) := by decide +kernel
theorem dX4_sum_109 : decode cX4_sum 109 = .ok (.ireturn, 1) := by decide +kernel
theorem dX4_sum_110 : decode cX4_sum 110 = .ok (.iload_n 3, 1) := by decide +kernel
theorem dX4_sum_111 : decode cX4_sum 111 = .ok (.ireturn, 1) := by decide +kernel
theorem dX4_sum_112 : decode cX4_sum 112 = .ok (.iload 4, 2) := by decide +kernel
theorem dX4_sum_114 : decode cX4_sum 114 = .ok (.ireturn, 1) := by decide +kernel
theorem dX4_sum_115 : decode cX4_sum 115 = .ok (.aload_n 0, 1) := by decide +kernel
theorem dX4_sum_116 : decode cX4_sum 116 = .ok (.getfield 40, 3) := by decide +kernel
theorem dX4_sum_119 : decode cX4_sum 119 = .ok (.ireturn, 1) := by decide +kernel
