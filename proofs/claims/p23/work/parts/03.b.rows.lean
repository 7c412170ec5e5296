theorem dX2_closeMonth_45 : decode cX2_closeMonth 45 = .ok (.aload_n 0, 1) := by decide +kernel
theorem dX2_closeMonth_46 : decode cX2_closeMonth 46 = .ok (.dup, 1) := by decide +kernel
theorem dX2_closeMonth_47 : decode cX2_closeMonth 47 = .ok (.getfield 22, 3) := by decide +kernel
theorem dX2_closeMonth_50 : decode cX2_closeMonth 50 = .ok (.iload 5, 2) := by decide +kernel
theorem dX2_closeMonth_52 : decode cX2_closeMonth 52 = .ok (.iadd, 1) := by decide +kernel
theorem dX2_closeMonth_53 : decode cX2_closeMonth 53 = .ok (.putfield 22, 3) := by decide +kernel
theorem dX2_closeMonth_56 : decode cX2_closeMonth 56 = .ok (.return_, 1) := by decide +kernel
set_option maxRecDepth 20000 in
theorem ggX3_init_X4_init : GoodIn wsX3_init wsX4_init := goodIn_r _ [14, 15, 2, 3, 16, 17, 18, 19, 20, 21, 22] (by decide +kernel) (by decide +kernel)
set_option maxRecDepth 20000 in
theorem gX3_init_X4_init : GoodIn wsX3_init (wsX4_init) := ggX3_init_X4_init
theorem dX3_init_0 : decode cX3_init 0 = .ok (.aload_n 0, 1) := by decide +kernel
theorem dX3_init_1 : decode cX3_init 1 = .ok (.invokespecial 3, 3) := by decide +kernel
theorem dX3_init_4 : decode cX3_init 4 = .ok (.aload_n 0, 1) := by decide +kernel
theorem dX3_init_5 : decode cX3_init 5 = .ok (.new 9, 3) := by decide +kernel
theorem dX3_init_8 : decode cX3_init 8 = .ok (.dup, 1) := by decide +kernel
theorem dX3_init_9 : decode cX3_init 9 = .ok (.bipush 64, 2) := by decide +kernel
theorem dX3_init_11 : decode cX3_init 11 = .ok (.iconst (-1), 1) := by decide +kernel
theorem dX3_init_12 : decode cX3_init 12 = .ok (.invokespecial 11, 3) := by decide +kernel
theorem dX3_init_15 : decode cX3_init 15 = .ok (.putfield 14, 3) := by decide +kernel
theorem dX3_init_18 : decode cX3_init 18 = .ok (.aload_n 0, 1) := by decide +kernel
theorem dX3_init_19 : decode cX3_init 19 = .ok (.new 9, 3) := by decide +kernel
theorem dX3_init_22 : decode cX3_init 22 = .ok (.dup, 1) := by decide +kernel
theorem dX3_init_23 : decode cX3_init 23 = .ok (.bipush 64, 2) := by decide +kernel
theorem dX3_init_25 : decode cX3_init 25 = .ok (.iconst (-1), 1) := by decide +kernel
theorem dX3_init_26 : decode cX3_init 26 = .ok (.invokespecial 11, 3) := by decide +kernel
theorem dX3_init_29 : decode cX3_init 29 = .ok (.putfield 20, 3) := by decide +kernel
theorem dX3_init_32 : decode cX3_init 32 = .ok (.aload_n 0, 1) := by decide +kernel
theorem dX3_init_33 : decode cX3_init 33 = .ok (.new 9, 3) := by decide +kernel
theorem dX3_init_36 : decode cX3_init 36 = .ok (.dup, 1) := by decide +kernel
theorem dX3_init_37 : decode cX3_init 37 = .ok (.sipush 4096, 3) := by decide +kernel
theorem dX3_init_40 : decode cX3_init 40 = .ok (.iconst (-1), 1) := by decide +kernel
theorem dX3_init_41 : decode cX3_init 41 = .ok (.invokespecial 11, 3) := by decide +kernel
theorem dX3_init_44 : decode cX3_init 44 = .ok (.putfield 23, 3) := by decide +kernel
theorem dX3_init_47 : decode cX3_init 47 = .ok (.aload_n 0, 1) := by decide +kernel
theorem dX3_init_48 : decode cX3_init 48 = .ok (.new 9, 3) := by decide +kernel
theorem dX3_init_51 : decode cX3_init 51 = .ok (.dup, 1) := by decide +kernel
theorem dX3_init_52 : decode cX3_init 52 = .ok (.bipush 64, 2) := by decide +kernel
theorem dX3_init_54 : decode cX3_init 54 = .ok (.iconst (-1), 1) := by decide +kernel
theorem dX3_init_55 : decode cX3_init 55 = .ok (.invokespecial 11, 3) := by decide +kernel
theorem dX3_init_58 : decode cX3_init 58 = .ok (.putfield 26, 3) := by decide +kernel
theorem dX3_init_61 : decode cX3_init 61 = .ok (.aload_n 0, 1) := by decide +kernel
theorem dX3_init_62 : decode cX3_init 62 = .ok (.iconst 0, 1) := by decide +kernel
theorem dX3_init_63 : decode cX3_init 63 = .ok (.putfield 29, 3) := by decide +kernel
theorem dX3_init_66 : decode cX3_init 66 = .ok (.return_, 1) := by decide +kernel
set_option maxRecDepth 20000 in
theorem ggX3_find_X4_fill : GoodIn wsX3_find wsX4_fill := goodIn_r _ [9, 10, 11, 12, 13, 14, 48] (by decide +kernel) (by decide +kernel)
set_option maxRecDepth 20000 in
theorem gX3_find_X4_fill : GoodIn wsX3_find (wsV RX3 33 RX4 yX4_fill wsX4_fill) := goodIn_app (goodIn_of _ (by decide +kernel)) ggX3_find_X4_fill
set_option maxRecDepth 20000 in
theorem ggX3_find_X3_findRoad : GoodIn wsX3_find wsX3_findRoad := goodIn_r _ [19, 20, 21, 22, 23, 24, 25, 26, 27, 28, 8, 29, 10, 30, 31, 32, 49, 50, 48] (by decide +kernel) (by decide +kernel)
set_option maxRecDepth 20000 in
theorem gX3_find_X3_findRoad : GoodIn wsX3_find (wsV RX3 37 RX3 yX3_findRoad wsX3_findRoad) := goodIn_app (goodIn_of _ (by decide +kernel)) ggX3_find_X3_findRoad
set_option maxRecDepth 20000 in
theorem ggX3_find_X4_set : GoodIn wsX3_find wsX4_set := goodIn_r _ [36, 10, 48] (by decide +kernel) (by decide +kernel)
set_option maxRecDepth 20000 in
theorem gX3_find_X4_set : GoodIn wsX3_find (wsV RX3 41 RX4 yX4_set wsX4_set) := goodIn_app (goodIn_of _ (by decide +kernel)) ggX3_find_X4_set
set_option maxRecDepth 20000 in
theorem ggX3_find_X0_isRoad : GoodIn wsX3_find wsX0_isRoad := goodIn_r _ [24, 25, 26, 27, 28, 8, 29, 10, 49, 50, 48] (by decide +kernel) (by decide +kernel)
set_option maxRecDepth 20000 in
theorem gX3_find_X0_isRoad : GoodIn wsX3_find (wsV RX3 44 RX0 yX0_isRoad wsX0_isRoad) := goodIn_app (goodIn_of _ (by decide +kernel)) ggX3_find_X0_isRoad
set_option maxRecDepth 20000 in
theorem ggX3_find_X3_spread : GoodIn wsX3_find wsX3_spread := goodIn_r _ [40, 2, 41, 1, 33, 34, 35, 8, 36, 10, 42, 27, 28, 29, 30, 31, 32, 20, 21, 22, 23, 24, 25, 26, 43, 44, 45, 46, 47, 48, 49, 50] (by decide +kernel) (by decide +kernel)
set_option maxRecDepth 20000 in
theorem gX3_find_X3_spread : GoodIn wsX3_find (wsV RX3 50 RX3 yX3_spread wsX3_spread) := goodIn_app (goodIn_of _ (by decide +kernel)) ggX3_find_X3_spread
theorem dX3_find_0 : decode cX3_find 0 = .ok (.aload_n 0, 1) := by decide +kernel
theorem dX3_find_1 : decode cX3_find 1 = .ok (.getfield 20, 3) := by decide +kernel
theorem dX3_find_4 : decode cX3_find 4 = .ok (.iconst (-1), 1) := by decide +kernel
theorem dX3_find_5 : decode cX3_find 5 = .ok (.invokevirtual 33, 3) := by decide +kernel
theorem dX3_find_8 : decode cX3_find 8 = .ok (.aload_n 0, 1) := by decide +kernel
theorem dX3_find_9 : decode cX3_find 9 = .ok (.getfield 23, 3) := by decide +kernel
theorem dX3_find_12 : decode cX3_find 12 = .ok (.iconst (-1), 1) := by decide +kernel
theorem dX3_find_13 : decode cX3_find 13 = .ok (.invokevirtual 33, 3) := by decide +kernel
theorem dX3_find_16 : decode cX3_find 16 = .ok (.aload_n 0, 1) := by decide +kernel
theorem dX3_find_17 : decode cX3_find 17 = .ok (.iconst 0, 1) := by decide +kernel
theorem dX3_find_18 : decode cX3_find 18 = .ok (.putfield 29, 3) := by decide +kernel
theorem dX3_find_21 : decode cX3_find 21 = .ok (.iconst 0, 1) := by decide +kernel
theorem dX3_find_22 : decode cX3_find 22 = .ok (.istore_n 2, 1) := by decide +kernel
theorem dX3_find_23 : decode cX3_find 23 = .ok (.iload_n 2, 1) := by decide +kernel
theorem dX3_find_24 : decode cX3_find 24 = .ok (.bipush 64, 2) := by decide +kernel
theorem dX3_find_26 : decode cX3_find 26 = .ok (.if_icmp .ge 47, 3) := by decide +kernel
theorem dX3_find_29 : decode cX3_find 29 = .ok (.aload_n 0, 1) := by decide +kernel
theorem dX3_find_30 : decode cX3_find 30 = .ok (.getfield 14, 3) := by decide +kernel
theorem dX3_find_33 : decode cX3_find 33 = .ok (.iload_n 2, 1) := by decide +kernel
theorem dX3_find_34 : decode cX3_find 34 = .ok (.aload_n 0, 1) := by decide +kernel
theorem dX3_find_35 : decode cX3_find 35 = .ok (.aload_n 1, 1) := by decide +kernel
theorem dX3_find_36 : decode cX3_find 36 = .ok (.iload_n 2, 1) := by decide +kernel
theorem dX3_find_37 : decode cX3_find 37 = .ok (.invokevirtual 37, 3) := by decide +kernel
theorem dX3_find_40 : decode cX3_find 40 = .ok (.invokevirtual 41, 3) := by decide +kernel
theorem dX3_find_43 : decode cX3_find 43 = .ok (.aload_n 1, 1) := by decide +kernel
theorem dX3_find_44 : decode cX3_find 44 = .ok (.iload_n 2, 1) := by decide +kernel
theorem dX3_find_45 : decode cX3_find 45 = .ok (.invokevirtual 44, 3) := by decide +kernel
theorem dX3_find_48 : decode cX3_find 48 = .ok (.ifCond .eq 19, 3) := by decide +kernel
theorem dX3_find_51 : decode cX3_find 51 = .ok (.aload_n 0, 1) := by decide +kernel
theorem dX3_find_52 : decode cX3_find 52 = .ok (.dup, 1) := by decide +kernel
theorem dX3_find_53 : decode cX3_find 53 = .ok (.getfield 29, 3) := by decide +kernel
theorem dX3_find_56 : decode cX3_find 56 = .ok (.iconst 1, 1) := by decide +kernel
theorem dX3_find_57 : decode cX3_find 57 = .ok (.iadd, 1) := by decide +kernel
theorem dX3_find_58 : decode cX3_find 58 = .ok (.putfield 29, 3) := by decide +kernel
theorem dX3_find_61 : decode cX3_find 61 = .ok (.aload_n 0, 1) := by decide +kernel
theorem dX3_find_62 : decode cX3_find 62 = .ok (.aload_n 1, 1) := by decide +kernel
theorem dX3_find_63 : decode cX3_find 63 = .ok (.iload_n 2, 1) := by decide +kernel
theorem dX3_find_64 : decode cX3_find 64 = .ok (.invokevirtual 50, 3) := by decide +kernel
theorem dX3_find_67 : decode cX3_find 67 = .ok (.iinc 2 1, 3) := by decide +kernel
theorem dX3_find_70 : decode cX3_find 70 = .ok (.goto (-47), 3) := by decide +kernel
theorem dX3_find_73 : decode cX3_find 73 = .ok (.return_, 1) := by decide +kernel
set_option maxRecDepth 20000 in
theorem ggX3_findRoad_X0_isRoad : GoodIn wsX3_findRoad wsX0_isRoad := goodIn_r _ [5, 6, 7, 8, 9, 10, 11, 12, 16, 17, 18] (by decide +kernel) (by decide +kernel)
set_option maxRecDepth 20000 in
theorem gX3_findRoad_X0_isRoad : GoodIn wsX3_findRoad (wsV RX3 44 RX0 yX0_isRoad wsX0_isRoad) := goodIn_app (goodIn_of _ (by decide +kernel)) ggX3_findRoad_X0_isRoad
set_option maxRecDepth 20000 in
theorem ggX3_findRoad_X6_neighbourOf : GoodIn wsX3_findRoad wsX6_neighbourOf := goodIn_r _ [15] (by decide +kernel) (by decide +kernel)
set_option maxRecDepth 20000 in
theorem gX3_findRoad_X6_neighbourOf_n54 : GoodIn wsX3_findRoad (wsX6_neighbourOf) := ggX3_findRoad_X6_neighbourOf
theorem dX3_findRoad_0 : decode cX3_findRoad 0 = .ok (.aload_n 1, 1) := by decide +kernel
theorem dX3_findRoad_1 : decode cX3_findRoad 1 = .ok (.iload_n 2, 1) := by decide +kernel
theorem dX3_findRoad_2 : decode cX3_findRoad 2 = .ok (.invokevirtual 44, 3) := by decide +kernel
theorem dX3_findRoad_5 : decode cX3_findRoad 5 = .ok (.ifCond .eq 5, 3) := by decide +kernel
theorem dX3_findRoad_8 : decode cX3_findRoad 8 = .ok (.iload_n 2, 1) := by decide +kernel
theorem dX3_findRoad_9 : decode cX3_findRoad 9 = .ok (.ireturn, 1) := by decide +kernel
theorem dX3_findRoad_10 : decode cX3_findRoad 10 = .ok (.iconst 0, 1) := by decide +kernel
theorem dX3_findRoad_11 : decode cX3_findRoad 11 = .ok (.istore_n 3, 1) := by decide +kernel
theorem dX3_findRoad_12 : decode cX3_findRoad 12 = .ok (.iload_n 3, 1) := by decide +kernel
theorem dX3_findRoad_13 : decode cX3_findRoad 13 = .ok (.iconst 4, 1) := by decide +kernel
theorem dX3_findRoad_14 : decode cX3_findRoad 14 = .ok (.if_icmp .ge 34, 3) := by decide +kernel
theorem dX3_findRoad_17 : decode cX3_findRoad 17 = .ok (.iload_n 2, 1) := by decide +kernel
theorem dX3_findRoad_18 : decode cX3_findRoad 18 = .ok (.iload_n 3, 1) := by decide +kernel
theorem dX3_findRoad_19 : decode cX3_findRoad 19 = .ok (.invokestatic 54, 3) := by decide +kernel
theorem dX3_findRoad_22 : decode cX3_findRoad 22 = .ok (.istore 4, 2) := by decide +kernel
theorem dX3_findRoad_24 : decode cX3_findRoad 24 = .ok (.iload 4, 2) := by decide +kernel
theorem dX3_findRoad_26 : decode cX3_findRoad 26 = .ok (.iconst (-1), 1) := by decide +kernel
theorem dX3_findRoad_27 : decode cX3_findRoad 27 = .ok (.if_icmp .eq 15, 3) := by decide +kernel
theorem dX3_findRoad_30 : decode cX3_findRoad 30 = .ok (.aload_n 1, 1) := by decide +kernel
theorem dX3_findRoad_31 : decode cX3_findRoad 31 = .ok (.iload 4, 2) := by decide +kernel
theorem dX3_findRoad_33 : decode cX3_findRoad 33 = .ok (.invokevirtual 44, 3) := by decide +kernel
theorem dX3_findRoad_36 : decode cX3_findRoad 36 = .ok (.ifCond .eq 6, 3) := by decide +kernel
theorem dX3_findRoad_39 : decode cX3_findRoad 39 = .ok (.iload 4, 2) := by decide +kernel
theorem dX3_findRoad_41 : decode cX3_findRoad 41 = .ok (.ireturn, 1) := by decide +kernel
theorem dX3_findRoad_42 : decode cX3_findRoad 42 = .ok (.iinc 3 1, 3) := by decide +kernel
theorem dX3_findRoad_45 : decode cX3_findRoad 45 = .ok (.goto (-33), 3) := by decide +kernel
theorem dX3_findRoad_48 : decode cX3_findRoad 48 = .ok (.iconst (-1), 1) := by decide +kernel
theorem dX3_findRoad_49 : decode cX3_findRoad 49 = .ok (.ireturn, 1) := by decide +kernel
set_option maxRecDepth 20000 in
theorem ggX3_spread_X4_set : GoodIn wsX3_spread wsX4_set := goodIn_r _ [8, 9, 29] (by decide +kernel) (by decide +kernel)
set_option maxRecDepth 20000 in
theorem gX3_spread_X4_set : GoodIn wsX3_spread (wsV RX3 41 RX4 yX4_set wsX4_set) := goodIn_app (goodIn_of _ (by decide +kernel)) ggX3_spread_X4_set
set_option maxRecDepth 20000 in
theorem ggX3_spread_X4_get : GoodIn wsX3_spread wsX4_get := goodIn_r _ [13, 9, 29] (by decide +kernel) (by decide +kernel)
set_option maxRecDepth 20000 in
theorem gX3_spread_X4_get : GoodIn wsX3_spread (wsV RX3 58 RX4 yX4_get wsX4_get) := goodIn_app (goodIn_of _ (by decide +kernel)) ggX3_spread_X4_get
set_option maxRecDepth 20000 in
theorem ggX3_spread_X6_neighbourOf : GoodIn wsX3_spread wsX6_neighbourOf := goodIn_r _ [16] (by decide +kernel) (by decide +kernel)
set_option maxRecDepth 20000 in
theorem gX3_spread_X6_neighbourOf_n54 : GoodIn wsX3_spread (wsX6_neighbourOf) := ggX3_spread_X6_neighbourOf
set_option maxRecDepth 20000 in
theorem ggX3_spread_X0_isRoad : GoodIn wsX3_spread wsX0_isRoad := goodIn_r _ [21, 22, 23, 11, 12, 7, 13, 9, 30, 31, 29] (by decide +kernel) (by decide +kernel)
set_option maxRecDepth 20000 in
theorem gX3_spread_X0_isRoad : GoodIn wsX3_spread (wsV RX3 44 RX0 yX0_isRoad wsX0_isRoad) := goodIn_app (goodIn_of _ (by decide +kernel)) ggX3_spread_X0_isRoad
theorem dX3_spread_0 : decode cX3_spread 0 = .ok (.iload_n 2, 1) := by decide +kernel
theorem dX3_spread_1 : decode cX3_spread 1 = .ok (.bipush 64, 2) := by decide +kernel
theorem dX3_spread_3 : decode cX3_spread 3 = .ok (.imul, 1) := by decide +kernel
theorem dX3_spread_4 : decode cX3_spread 4 = .ok (.istore_n 3, 1) := by decide +kernel
theorem dX3_spread_5 : decode cX3_spread 5 = .ok (.aload_n 0, 1) := by decide +kernel
theorem dX3_spread_6 : decode cX3_spread 6 = .ok (.getfield 23, 3) := by decide +kernel
theorem dX3_spread_9 : decode cX3_spread 9 = .ok (.iload_n 3, 1) := by decide +kernel
theorem dX3_spread_10 : decode cX3_spread 10 = .ok (.iload_n 2, 1) := by decide +kernel
theorem dX3_spread_11 : decode cX3_spread 11 = .ok (.iadd, 1) := by decide +kernel
theorem dX3_spread_12 : decode cX3_spread 12 = .ok (.iconst 0, 1) := by decide +kernel
theorem dX3_spread_13 : decode cX3_spread 13 = .ok (.invokevirtual 41, 3) := by decide +kernel
theorem dX3_spread_16 : decode cX3_spread 16 = .ok (.aload_n 0, 1) := by decide +kernel
theorem dX3_spread_17 : decode cX3_spread 17 = .ok (.getfield 26, 3) := by decide +kernel
theorem dX3_spread_20 : decode cX3_spread 20 = .ok (.iconst 0, 1) := by decide +kernel
theorem dX3_spread_21 : decode cX3_spread 21 = .ok (.iload_n 2, 1) := by decide +kernel
theorem dX3_spread_22 : decode cX3_spread 22 = .ok (.invokevirtual 41, 3) := by decide +kernel
theorem dX3_spread_25 : decode cX3_spread 25 = .ok (.iconst 1, 1) := by decide +kernel
theorem dX3_spread_26 : decode cX3_spread 26 = .ok (.istore 4, 2) := by decide +kernel
theorem dX3_spread_28 : decode cX3_spread 28 = .ok (.iconst 0, 1) := by decide +kernel
theorem dX3_spread_29 : decode cX3_spread 29 = .ok (.istore 5, 2) := by decide +kernel
theorem dX3_spread_31 : decode cX3_spread 31 = .ok (.iload 5, 2) := by decide +kernel
theorem dX3_spread_33 : decode cX3_spread 33 = .ok (.iload 4, 2) := by decide +kernel
theorem dX3_spread_35 : decode cX3_spread 35 = .ok (.if_icmp .ge 142, 3) := by decide +kernel
theorem dX3_spread_38 : decode cX3_spread 38 = .ok (.iload 5, 2) := by decide +kernel
theorem dX3_spread_40 : decode cX3_spread 40 = .ok (.bipush 64, 2) := by decide +kernel
theorem dX3_spread_42 : decode cX3_spread 42 = .ok (.if_icmp .ge 135, 3) := by decide +kernel
theorem dX3_spread_45 : decode cX3_spread 45 = .ok (.aload_n 0, 1) := by decide +kernel
theorem dX3_spread_46 : decode cX3_spread 46 = .ok (.getfield 26, 3) := by decide +kernel
theorem dX3_spread_49 : decode cX3_spread 49 = .ok (.iload 5, 2) := by decide +kernel
theorem dX3_spread_51 : decode cX3_spread 51 = .ok (.invokevirtual 58, 3) := by decide +kernel
theorem dX3_spread_54 : decode cX3_spread 54 = .ok (.istore 6, 2) := by decide +kernel
theorem dX3_spread_56 : decode cX3_spread 56 = .ok (.aload_n 0, 1) := by decide +kernel
theorem dX3_spread_57 : decode cX3_spread 57 = .ok (.getfield 20, 3) := by decide +kernel
theorem dX3_spread_60 : decode cX3_spread 60 = .ok (.iload 6, 2) := by decide +kernel
theorem dX3_spread_62 : decode cX3_spread 62 = .ok (.invokevirtual 58, 3) := by decide +kernel
theorem dX3_spread_65 : decode cX3_spread 65 = .ok (.iconst (-1), 1) := by decide +kernel
theorem dX3_spread_66 : decode cX3_spread 66 = .ok (.if_icmp .ne 13, 3) := by decide +kernel
theorem dX3_spread_69 : decode cX3_spread 69 = .ok (.aload_n 0, 1) := by decide +kernel
theorem dX3_spread_70 : decode cX3_spread 70 = .ok (.getfield 20, 3) := by decide +kernel
theorem dX3_spread_73 : decode cX3_spread 73 = .ok (.iload 6, 2) := by decide +kernel
theorem dX3_spread_75 : decode cX3_spread 75 = .ok (.iload_n 2, 1) := by decide +kernel
theorem dX3_spread_76 : decode cX3_spread 76 = .ok (.invokevirtual 41, 3) := by decide +kernel
theorem dX3_spread_79 : decode cX3_spread 79 = .ok (.iconst 0, 1) := by decide +kernel
theorem dX3_spread_80 : decode cX3_spread 80 = .ok (.istore 7, 2) := by decide +kernel
theorem dX3_spread_82 : decode cX3_spread 82 = .ok (.iload 7, 2) := by decide +kernel
theorem dX3_spread_84 : decode cX3_spread 84 = .ok (.iconst 4, 1) := by decide +kernel
theorem dX3_spread_85 : decode cX3_spread 85 = .ok (.if_icmp .ge 86, 3) := by decide +kernel
theorem dX3_spread_88 : decode cX3_spread 88 = .ok (.iload 6, 2) := by decide +kernel
theorem dX3_spread_90 : decode cX3_spread 90 = .ok (.iload 7, 2) := by decide +kernel
theorem dX3_spread_92 : decode cX3_spread 92 = .ok (.invokestatic 54, 3) := by decide +kernel
theorem dX3_spread_95 : decode cX3_spread 95 = .ok (.istore 8, 2) := by decide +kernel
theorem dX3_spread_97 : decode cX3_spread 97 = .ok (.iload 8, 2) := by decide +kernel
theorem dX3_spread_99 : decode cX3_spread 99 = .ok (.iconst (-1), 1) := by decide +kernel
theorem dX3_spread_100 : decode cX3_spread 100 = .ok (.if_icmp .eq 65, 3) := by decide +kernel
theorem dX3_spread_103 : decode cX3_spread 103 = .ok (.aload_n 1, 1) := by decide +kernel
theorem dX3_spread_104 : decode cX3_spread 104 = .ok (.iload 8, 2) := by decide +kernel
theorem dX3_spread_106 : decode cX3_spread 106 = .ok (.invokevirtual 44, 3) := by decide +kernel
theorem dX3_spread_109 : decode cX3_spread 109 = .ok (.ifCond .eq 56, 3) := by decide +kernel
theorem dX3_spread_112 : decode cX3_spread 112 = .ok (.aload_n 0, 1) := by decide +kernel
theorem dX3_spread_113 : decode cX3_spread 113 = .ok (.getfield 23, 3) := by decide +kernel
theorem dX3_spread_116 : decode cX3_spread 116 = .ok (.iload_n 3, 1) := by decide +kernel
theorem dX3_spread_117 : decode cX3_spread 117 = .ok (.iload 8, 2) := by decide +kernel
theorem dX3_spread_119 : decode cX3_spread 119 = .ok (.iadd, 1) := by decide +kernel
theorem dX3_spread_120 : decode cX3_spread 120 = .ok (.invokevirtual 58, 3) := by decide +kernel
theorem dX3_spread_123 : decode cX3_spread 123 = .ok (.iconst (-1), 1) := by decide +kernel
theorem dX3_spread_124 : decode cX3_spread 124 = .ok (.if_icmp .ne 41, 3) := by decide +kernel
theorem dX3_spread_127 : decode cX3_spread 127 = .ok (.aload_n 0, 1) := by decide +kernel
theorem dX3_spread_128 : decode cX3_spread 128 = .ok (.getfield 23, 3) := by decide +kernel
theorem dX3_spread_131 : decode cX3_spread 131 = .ok (.iload_n 3, 1) := by decide +kernel
theorem dX3_spread_132 : decode cX3_spread 132 = .ok (.iload 8, 2) := by decide +kernel
theorem dX3_spread_134 : decode cX3_spread 134 = .ok (.iadd, 1) := by decide +kernel
theorem dX3_spread_135 : decode cX3_spread 135 = .ok (.aload_n 0, 1) := by decide +kernel
theorem dX3_spread_136 : decode cX3_spread 136 = .ok (.getfield 23, 3) := by decide +kernel
theorem dX3_spread_139 : decode cX3_spread 139 = .ok (.iload_n 3, 1) := by decide +kernel
theorem dX3_spread_140 : decode cX3_spread 140 = .ok (.iload 6, 2) := by decide +kernel
theorem dX3_spread_142 : decode cX3_spread 142 = .ok (.iadd, 1) := by decide +kernel
theorem dX3_spread_143 : decode cX3_spread 143 = .ok (.invokevirtual 58, 3) := by decide +kernel
theorem dX3_spread_146 : decode cX3_spread 146 = .ok (.iconst 1, 1) := by decide +kernel
theorem dX3_spread_147 : decode cX3_spread 147 = .ok (.iadd, 1) := by decide +kernel
theorem dX3_spread_148 : decode cX3_spread 148 = .ok (.invokevirtual 41, 3) := by decide +kernel
theorem dX3_spread_151 : decode cX3_spread 151 = .ok (.aload_n 0, 1) := by decide +kernel
theorem dX3_spread_152 : decode cX3_spread 152 = .ok (.getfield 26, 3) := by decide +kernel
theorem dX3_spread_155 : decode cX3_spread 155 = .ok (.iload 4, 2) := by decide +kernel
theorem dX3_spread_157 : decode cX3_spread 157 = .ok (.iload 8, 2) := by decide +kernel
theorem dX3_spread_159 : decode cX3_spread 159 = .ok (.invokevirtual 41, 3) := by decide +kernel
theorem dX3_spread_162 : decode cX3_spread 162 = .ok (.iinc 4 1, 3) := by decide +kernel
theorem dX3_spread_165 : decode cX3_spread 165 = .ok (.iinc 7 1, 3) := by decide +kernel
theorem dX3_spread_168 : decode cX3_spread 168 = .ok (.goto (-86), 3) := by decide +kernel
theorem dX3_spread_171 : decode cX3_spread 171 = .ok (.iinc 5 1, 3) := by decide +kernel
theorem dX3_spread_174 : decode cX3_spread 174 = .ok (.goto (-143), 3) := by decide +kernel
theorem dX3_spread_177 : decode cX3_spread 177 = .ok (.return_, 1) := by decide +kernel
theorem dX3_count_0 : decode cX3_count 0 = .ok (.aload_n 0, 1) := by decide +kernel
theorem dX3_count_1 : decode cX3_count 1 = .ok (.getfield 29, 3) := by decide +kernel
theorem dX3_count_4 : decode cX3_count 4 = .ok (.ireturn, 1) := by decide +kernel
set_option maxRecDepth 20000 in
theorem ggX3_roadOf_X4_get : GoodIn wsX3_roadOf wsX4_get := goodIn_r _ [6, 7, 13] (by decide +kernel) (by decide +kernel)
set_option maxRecDepth 20000 in
theorem gX3_roadOf_X4_get : GoodIn wsX3_roadOf (wsV RX3 58 RX4 yX4_get wsX4_get) := goodIn_app (goodIn_of _ (by decide +kernel)) ggX3_roadOf_X4_get
theorem dX3_roadOf_0 : decode cX3_roadOf 0 = .ok (.aload_n 0, 1) := by decide +kernel
theorem dX3_roadOf_1 : decode cX3_roadOf 1 = .ok (.getfield 14, 3) := by decide +kernel
theorem dX3_roadOf_4 : decode cX3_roadOf 4 = .ok (.iload_n 1, 1) := by decide +kernel
theorem dX3_roadOf_5 : decode cX3_roadOf 5 = .ok (.invokevirtual 58, 3) := by decide +kernel
theorem dX3_roadOf_8 : decode cX3_roadOf 8 = .ok (.ireturn, 1) := by decide +kernel
set_option maxRecDepth 20000 in
theorem ggX3_netOf_X4_get : GoodIn wsX3_netOf wsX4_get := goodIn_r _ [7, 8, 14] (by decide +kernel) (by decide +kernel)
set_option maxRecDepth 20000 in
theorem gX3_netOf_X4_get : GoodIn wsX3_netOf (wsV RX3 58 RX4 yX4_get wsX4_get) := goodIn_app (goodIn_of _ (by decide +kernel)) ggX3_netOf_X4_get
theorem dX3_netOf_0 : decode cX3_netOf 0 = .ok (.aload_n 0, 1) := by decide +kernel
theorem dX3_netOf_1 : decode cX3_netOf 1 = .ok (.getfield 14, 3) := by decide +kernel
theorem dX3_netOf_4 : decode cX3_netOf 4 = .ok (.iload_n 1, 1) := by decide +kernel
theorem dX3_netOf_5 : decode cX3_netOf 5 = .ok (.invokevirtual 58, 3) := by decide +kernel
theorem dX3_netOf_8 : decode cX3_netOf 8 = .ok (.istore_n 2, 1) := by decide +kernel
theorem dX3_netOf_9 : decode cX3_netOf 9 = .ok (.iload_n 2, 1) := by decide +kernel
theorem dX3_netOf_10 : decode cX3_netOf 10 = .ok (.iconst (-1), 1) := by decide +kernel
theorem dX3_netOf_11 : decode cX3_netOf 11 = .ok (.if_icmp .ne 7, 3) := by decide +kernel
theorem dX3_netOf_14 : decode cX3_netOf 14 = .ok (.iconst (-1), 1) := by decide +kernel
theorem dX3_netOf_15 : decode cX3_netOf 15 = .ok (.goto 11, 3) := by decide +kernel
theorem dX3_netOf_18 : decode cX3_netOf 18 = .ok (.aload_n 0, 1) := by decide +kernel
theorem dX3_netOf_19 : decode cX3_netOf 19 = .ok (.getfield 20, 3) := by decide +kernel
theorem dX3_netOf_22 : decode cX3_netOf 22 = .ok (.iload_n 2, 1) := by decide +kernel
theorem dX3_netOf_23 : decode cX3_netOf 23 = .ok (.invokevirtual 58, 3) := by decide +kernel
theorem dX3_netOf_26 : decode cX3_netOf 26 = .ok (.ireturn, 1) := by decide +kernel
set_option maxRecDepth 20000 in
theorem ggX3_between_X4_get : GoodIn wsX3_between wsX4_get := goodIn_r _ [7, 8, 14] (by decide +kernel) (by decide +kernel)
set_option maxRecDepth 20000 in
theorem gX3_between_X4_get : GoodIn wsX3_between (wsV RX3 58 RX4 yX4_get wsX4_get) := goodIn_app (goodIn_of _ (by decide +kernel)) ggX3_between_X4_get
theorem dX3_between_0 : decode cX3_between 0 = .ok (.aload_n 0, 1) := by decide +kernel
theorem dX3_between_1 : decode cX3_between 1 = .ok (.getfield 14, 3) := by decide +kernel
theorem dX3_between_4 : decode cX3_between 4 = .ok (.iload_n 1, 1) := by decide +kernel
theorem dX3_between_5 : decode cX3_between 5 = .ok (.invokevirtual 58, 3) := by decide +kernel
theorem dX3_between_8 : decode cX3_between 8 = .ok (.istore_n 3, 1) := by decide +kernel
theorem dX3_between_9 : decode cX3_between 9 = .ok (.aload_n 0, 1) := by decide +kernel
theorem dX3_between_10 : decode cX3_between 10 = .ok (.getfield 14, 3) := by decide +kernel
theorem dX3_between_13 : decode cX3_between 13 = .ok (.iload_n 2, 1) := by decide +kernel
theorem dX3_between_14 : decode cX3_between 14 = .ok (.invokevirtual 58, 3) := by decide +kernel
theorem dX3_between_17 : decode cX3_between 17 = .ok (.istore 4, 2) := by decide +kernel
theorem dX3_between_19 : decode cX3_between 19 = .ok (.iload_n 3, 1) := by decide +kernel
theorem dX3_between_20 : decode cX3_between 20 = .ok (.iconst (-1), 1) := by decide +kernel
theorem dX3_between_21 : decode cX3_between 21 = .ok (.if_icmp .eq 9, 3) := by decide +kernel
theorem dX3_between_24 : decode cX3_between 24 = .ok (.iload 4, 2) := by decide +kernel
theorem dX3_between_26 : decode cX3_between 26 = .ok (.iconst (-1), 1) := by decide +kernel
theorem dX3_between_27 : decode cX3_between 27 = .ok (.if_icmp .ne 7, 3) := by decide +kernel
theorem dX3_between_30 : decode cX3_between 30 = .ok (.iconst (-1), 1) := by decide +kernel
theorem dX3_between_31 : decode cX3_between 31 = .ok (.goto 17, 3) := by decide +kernel
theorem dX3_between_34 : decode cX3_between 34 = .ok (.aload_n 0, 1) := by decide +kernel
theorem dX3_between_35 : decode cX3_between 35 = .ok (.getfield 23, 3) := by decide +kernel
theorem dX3_between_38 : decode cX3_between 38 = .ok (.iload_n 3, 1) := by decide +kernel
theorem dX3_between_39 : decode cX3_between 39 = .ok (.bipush 64, 2) := by decide +kernel
theorem dX3_between_41 : decode cX3_between 41 = .ok (.imul, 1) := by decide +kernel
theorem dX3_between_42 : decode cX3_between 42 = .ok (.iload 4, 2) := by decide +kernel
theorem dX3_between_44 : decode cX3_between 44 = .ok (.iadd, 1) := by decide +kernel
theorem dX3_between_45 : decode cX3_between 45 = .ok (.invokevirtual 58, 3) := by decide +kernel
theorem dX3_between_48 : decode cX3_between 48 = .ok (.ireturn, 1) := by decide +kernel
set_option maxRecDepth 20000 in
theorem ggX3_nextRoad_X4_get : GoodIn wsX3_nextRoad wsX4_get := goodIn_r _ [6, 7, 16] (by decide +kernel) (by decide +kernel)
set_option maxRecDepth 20000 in
theorem gX3_nextRoad_X4_get : GoodIn wsX3_nextRoad (wsV RX3 58 RX4 yX4_get wsX4_get) := goodIn_app (goodIn_of _ (by decide +kernel)) ggX3_nextRoad_X4_get
set_option maxRecDepth 20000 in
theorem ggX3_nextRoad_X6_neighbourOf : GoodIn wsX3_nextRoad wsX6_neighbourOf := goodIn_r _ [10] (by decide +kernel) (by decide +kernel)
set_option maxRecDepth 20000 in
theorem gX3_nextRoad_X6_neighbourOf_n54 : GoodIn wsX3_nextRoad (wsX6_neighbourOf) := ggX3_nextRoad_X6_neighbourOf
theorem dX3_nextRoad_0 : decode cX3_nextRoad 0 = .ok (.aload_n 0, 1) := by decide +kernel
theorem dX3_nextRoad_1 : decode cX3_nextRoad 1 = .ok (.getfield 23, 3) := by decide +kernel
theorem dX3_nextRoad_4 : decode cX3_nextRoad 4 = .ok (.iload_n 2, 1) := by decide +kernel
theorem dX3_nextRoad_5 : decode cX3_nextRoad 5 = .ok (.bipush 64, 2) := by decide +kernel
theorem dX3_nextRoad_7 : decode cX3_nextRoad 7 = .ok (.imul, 1) := by decide +kernel
theorem dX3_nextRoad_8 : decode cX3_nextRoad 8 = .ok (.iload_n 1, 1) := by decide +kernel
theorem dX3_nextRoad_9 : decode cX3_nextRoad 9 = .ok (.iadd, 1) := by decide +kernel
theorem dX3_nextRoad_10 : decode cX3_nextRoad 10 = .ok (.invokevirtual 58, 3) := by decide +kernel
theorem dX3_nextRoad_13 : decode cX3_nextRoad 13 = .ok (.iconst 1, 1) := by decide +kernel
theorem dX3_nextRoad_14 : decode cX3_nextRoad 14 = .ok (.isub, 1) := by decide +kernel
theorem dX3_nextRoad_15 : decode cX3_nextRoad 15 = .ok (.istore_n 3, 1) := by decide +kernel
theorem dX3_nextRoad_16 : decode cX3_nextRoad 16 = .ok (.iconst 0, 1) := by decide +kernel
theorem dX3_nextRoad_17 : decode cX3_nextRoad 17 = .ok (.istore 4, 2) := by decide +kernel
theorem dX3_nextRoad_19 : decode cX3_nextRoad 19 = .ok (.iload 4, 2) := by decide +kernel
theorem dX3_nextRoad_21 : decode cX3_nextRoad 21 = .ok (.iconst 4, 1) := by decide +kernel
theorem dX3_nextRoad_22 : decode cX3_nextRoad 22 = .ok (.if_icmp .ge 48, 3) := by decide +kernel
theorem dX3_nextRoad_25 : decode cX3_nextRoad 25 = .ok (.iload_n 1, 1) := by decide +kernel
theorem dX3_nextRoad_26 : decode cX3_nextRoad 26 = .ok (.iload 4, 2) := by decide +kernel
theorem dX3_nextRoad_28 : decode cX3_nextRoad 28 = .ok (.invokestatic 54, 3) := by decide +kernel
theorem dX3_nextRoad_31 : decode cX3_nextRoad 31 = .ok (.istore 5, 2) := by decide +kernel
theorem dX3_nextRoad_33 : decode cX3_nextRoad 33 = .ok (.iload 5, 2) := by decide +kernel
theorem dX3_nextRoad_35 : decode cX3_nextRoad 35 = .ok (.iconst (-1), 1) := by decide +kernel
theorem dX3_nextRoad_36 : decode cX3_nextRoad 36 = .ok (.if_icmp .eq 28, 3) := by decide +kernel
theorem dX3_nextRoad_39 : decode cX3_nextRoad 39 = .ok (.iload_n 3, 1) := by decide +kernel
theorem dX3_nextRoad_40 : decode cX3_nextRoad 40 = .ok (.ifCond .lt 24, 3) := by decide +kernel
theorem dX3_nextRoad_43 : decode cX3_nextRoad 43 = .ok (.aload_n 0, 1) := by decide +kernel
theorem dX3_nextRoad_44 : decode cX3_nextRoad 44 = .ok (.getfield 23, 3) := by decide +kernel
theorem dX3_nextRoad_47 : decode cX3_nextRoad 47 = .ok (.iload_n 2, 1) := by decide +kernel
theorem dX3_nextRoad_48 : decode cX3_nextRoad 48 = .ok (.bipush 64, 2) := by decide +kernel
theorem dX3_nextRoad_50 : decode cX3_nextRoad 50 = .ok (.imul, 1) := by decide +kernel
theorem dX3_nextRoad_51 : decode cX3_nextRoad 51 = .ok (.iload 5, 2) := by decide +kernel
theorem dX3_nextRoad_53 : decode cX3_nextRoad 53 = .ok (.iadd, 1) := by decide +kernel
theorem dX3_nextRoad_54 : decode cX3_nextRoad 54 = .ok (.invokevirtual 58, 3) := by decide +kernel
theorem dX3_nextRoad_57 : decode cX3_nextRoad 57 = .ok (.iload_n 3, 1) := by decide +kernel
theorem dX3_nextRoad_58 : decode cX3_nextRoad 58 = .ok (.if_icmp .ne 6, 3) := by decide +kernel
theorem dX3_nextRoad_61 : decode cX3_nextRoad 61 = .ok (.iload 5, 2) := by decide +kernel
theorem dX3_nextRoad_63 : decode cX3_nextRoad 63 = .ok (.ireturn, 1) := by decide +kernel
theorem dX3_nextRoad_64 : decode cX3_nextRoad 64 = .ok (.iinc 4 1, 3) := by decide +kernel
theorem dX3_nextRoad_67 : decode cX3_nextRoad 67 = .ok (.goto (-48), 3) := by decide +kernel
theorem dX3_nextRoad_70 : decode cX3_nextRoad 70 = .ok (.iload_n 1, 1) := by decide +kernel
theorem dX3_nextRoad_71 : decode cX3_nextRoad 71 = .ok (.ireturn, 1) := by decide +kernel
set_option maxRecDepth 20000 in
theorem ggX4_init_J7_fill_53178 : GoodIn wsX4_init wsJ7_fill_53178 := goodIn_r _ [9] (by decide +kernel) (by decide +kernel)
set_option maxRecDepth 20000 in
theorem gX4_init_J7_fill_53178 : GoodIn wsX4_init (va_wsS RX4 15 yJ7_fill_53178 wsJ7_fill_53178) := goodIn_app (goodIn_of _ (by decide +kernel)) ggX4_init_J7_fill_53178
theorem dX4_init_0 : decode cX4_init 0 = .ok (.aload_n 0, 1) := by decide +kernel
theorem dX4_init_1 : decode cX4_init 1 = .ok (.invokespecial 3, 3) := by decide +kernel
theorem dX4_init_4 : decode cX4_init 4 = .ok (.aload_n 0, 1) := by decide +kernel
theorem dX4_init_5 : decode cX4_init 5 = .ok (.iload_n 1, 1) := by decide +kernel
theorem dX4_init_6 : decode cX4_init 6 = .ok (.ifCond .le 7, 3) := by decide +kernel
theorem dX4_init_9 : decode cX4_init 9 = .ok (.iload_n 1, 1) := by decide +kernel
theorem dX4_init_10 : decode cX4_init 10 = .ok (.goto 4, 3) := by decide +kernel
theorem dX4_init_13 : decode cX4_init 13 = .ok (.iconst 0, 1) := by decide +kernel
theorem dX4_init_14 : decode cX4_init 14 = .ok (.newarray .int, 2) := by decide +kernel
theorem dX4_init_16 : decode cX4_init 16 = .ok (.putfield 9, 3) := by decide +kernel
theorem dX4_init_19 : decode cX4_init 19 = .ok (.aload_n 0, 1) := by decide +kernel
theorem dX4_init_20 : decode cX4_init 20 = .ok (.getfield 9, 3) := by decide +kernel
theorem dX4_init_23 : decode cX4_init 23 = .ok (.iload_n 2, 1) := by decide +kernel
theorem dX4_init_24 : decode cX4_init 24 = .ok (.invokestatic 15, 3) := by decide +kernel
theorem dX4_init_27 : decode cX4_init 27 = .ok (.return_, 1) := by decide +kernel
theorem dX4_get_0 : decode cX4_get 0 = .ok (.iload_n 1, 1) := by decide +kernel
theorem dX4_get_1 : decode cX4_get 1 = .ok (.ifCond .lt 21, 3) := by decide +kernel
theorem dX4_get_4 : decode cX4_get 4 = .ok (.iload_n 1, 1) := by decide +kernel
theorem dX4_get_5 : decode cX4_get 5 = .ok (.aload_n 0, 1) := by decide +kernel
theorem dX4_get_6 : decode cX4_get 6 = .ok (.getfield 9, 3) := by decide +kernel
theorem dX4_get_9 : decode cX4_get 9 = .ok (.arraylength, 1) := by decide +kernel
theorem dX4_get_10 : decode cX4_get 10 = .ok (.if_icmp .ge 12, 3) := by decide +kernel
theorem dX4_get_13 : decode cX4_get 13 = .ok (.aload_n 0, 1) := by decide +kernel
theorem dX4_get_14 : decode cX4_get 14 = .ok (.getfield 9, 3) := by decide +kernel
theorem dX4_get_17 : decode cX4_get 17 = .ok (.iload_n 1, 1) := by decide +kernel
theorem dX4_get_18 : decode cX4_get 18 = .ok (.iaload, 1) := by decide +kernel
theorem dX4_get_19 : decode cX4_get 19 = .ok (.goto 4, 3) := by decide +kernel
theorem dX4_get_22 : decode cX4_get 22 = .ok (.iconst (-1), 1) := by decide +kernel
theorem dX4_get_23 : decode cX4_get 23 = .ok (.ireturn, 1) := by decide +kernel
theorem dX4_set_0 : decode cX4_set 0 = .ok (.iload_n 1, 1) := by decide +kernel
theorem dX4_set_1 : decode cX4_set 1 = .ok (.ifCond .lt 19, 3) := by decide +kernel
theorem dX4_set_4 : decode cX4_set 4 = .ok (.iload_n 1, 1) := by decide +kernel
theorem dX4_set_5 : decode cX4_set 5 = .ok (.aload_n 0, 1) := by decide +kernel
theorem dX4_set_6 : decode cX4_set 6 = .ok (.getfield 9, 3) := by decide +kernel
theorem dX4_set_9 : decode cX4_set 9 = .ok (.arraylength, 1) := by decide +kernel
theorem dX4_set_10 : decode cX4_set 10 = .ok (.if_icmp .ge 10, 3) := by decide +kernel
theorem dX4_set_13 : decode cX4_set 13 = .ok (.aload_n 0, 1) := by decide +kernel
theorem dX4_set_14 : decode cX4_set 14 = .ok (.getfield 9, 3) := by decide +kernel
theorem dX4_set_17 : decode cX4_set 17 = .ok (.iload_n 1, 1) := by decide +kernel
theorem dX4_set_18 : decode cX4_set 18 = .ok (.iload_n 2, 1) := by decide +kernel
theorem dX4_set_19 : decode cX4_set 19 = .ok (.iastore, 1) := by decide +kernel
theorem dX4_set_20 : decode cX4_set 20 = .ok (.return_, 1) := by decide +kernel
theorem dX4_add_0 : decode cX4_add 0 = .ok (.iload_n 1, 1) := by decide +kernel
theorem dX4_add_1 : decode cX4_add 1 = .ok (.ifCond .lt 22, 3) := by decide +kernel
theorem dX4_add_4 : decode cX4_add 4 = .ok (.iload_n 1, 1) := by decide +kernel
theorem dX4_add_5 : decode cX4_add 5 = .ok (.aload_n 0, 1) := by decide +kernel
theorem dX4_add_6 : decode cX4_add 6 = .ok (.getfield 9, 3) := by decide +kernel
theorem dX4_add_9 : decode cX4_add 9 = .ok (.arraylength, 1) := by decide +kernel
theorem dX4_add_10 : decode cX4_add 10 = .ok (.if_icmp .ge 13, 3) := by decide +kernel
theorem dX4_add_13 : decode cX4_add 13 = .ok (.aload_n 0, 1) := by decide +kernel
theorem dX4_add_14 : decode cX4_add 14 = .ok (.getfield 9, 3) := by decide +kernel
theorem dX4_add_17 : decode cX4_add 17 = .ok (.iload_n 1, 1) := by decide +kernel
theorem dX4_add_18 : decode cX4_add 18 = .ok (.dup2, 1) := by decide +kernel
theorem dX4_add_19 : decode cX4_add 19 = .ok (.iaload, 1) := by decide +kernel
theorem dX4_add_20 : decode cX4_add 20 = .ok (.iload_n 2, 1) := by decide +kernel
theorem dX4_add_21 : decode cX4_add 21 = .ok (.iadd, 1) := by decide +kernel
theorem dX4_add_22 : decode cX4_add 22 = .ok (.iastore, 1) := by decide +kernel
theorem dX4_add_23 : decode cX4_add 23 = .ok (.return_, 1) := by decide +kernel
set_option maxRecDepth 20000 in
theorem ggX4_fill_J7_fill_53178 : GoodIn wsX4_fill wsJ7_fill_53178 := goodIn_r _ [5] (by decide +kernel) (by decide +kernel)
set_option maxRecDepth 20000 in
theorem gX4_fill_J7_fill_53178 : GoodIn wsX4_fill (va_wsS RX4 15 yJ7_fill_53178 wsJ7_fill_53178) := goodIn_app (goodIn_of _ (by decide +kernel)) ggX4_fill_J7_fill_53178
theorem dX4_fill_0 : decode cX4_fill 0 = .ok (.aload_n 0, 1) := by decide +kernel
theorem dX4_fill_1 : decode cX4_fill 1 = .ok (.getfield 9, 3) := by decide +kernel
theorem dX4_fill_4 : decode cX4_fill 4 = .ok (.iload_n 1, 1) := by decide +kernel
theorem dX4_fill_5 : decode cX4_fill 5 = .ok (.invokestatic 15, 3) := by decide +kernel
theorem dX4_fill_8 : decode cX4_fill 8 = .ok (.return_, 1) := by decide +kernel
set_option maxRecDepth 20000 in
theorem ggX5_init_X4_init : GoodIn wsX5_init wsX4_init := goodIn_r _ [12, 13, 2, 3, 14, 15, 16, 17, 18, 19, 20] (by decide +kernel) (by decide +kernel)
set_option maxRecDepth 20000 in
theorem gX5_init_X4_init : GoodIn wsX5_init (wsX4_init) := ggX5_init_X4_init
theorem dX5_init_0 : decode cX5_init 0 = .ok (.aload_n 0, 1) := by decide +kernel
theorem dX5_init_1 : decode cX5_init 1 = .ok (.invokespecial 3, 3) := by decide +kernel
theorem dX5_init_4 : decode cX5_init 4 = .ok (.aload_n 0, 1) := by decide +kernel
theorem dX5_init_5 : decode cX5_init 5 = .ok (.new 9, 3) := by decide +kernel
theorem dX5_init_8 : decode cX5_init 8 = .ok (.dup, 1) := by decide +kernel
theorem dX5_init_9 : decode cX5_init 9 = .ok (.bipush 64, 2) := by decide +kernel
theorem dX5_init_11 : decode cX5_init 11 = .ok (.iconst 0, 1) := by decide +kernel
theorem dX5_init_12 : decode cX5_init 12 = .ok (.invokespecial 11, 3) := by decide +kernel
theorem dX5_init_15 : decode cX5_init 15 = .ok (.putfield 14, 3) := by decide +kernel
theorem dX5_init_18 : decode cX5_init 18 = .ok (.aload_n 0, 1) := by decide +kernel
theorem dX5_init_19 : decode cX5_init 19 = .ok (.new 9, 3) := by decide +kernel
theorem dX5_init_22 : decode cX5_init 22 = .ok (.dup, 1) := by decide +kernel
theorem dX5_init_23 : decode cX5_init 23 = .ok (.bipush 64, 2) := by decide +kernel
theorem dX5_init_25 : decode cX5_init 25 = .ok (.iconst 0, 1) := by decide +kernel
theorem dX5_init_26 : decode cX5_init 26 = .ok (.invokespecial 11, 3) := by decide +kernel
theorem dX5_init_29 : decode cX5_init 29 = .ok (.putfield 20, 3) := by decide +kernel
theorem dX5_init_32 : decode cX5_init 32 = .ok (.aload_n 0, 1) := by decide +kernel
theorem dX5_init_33 : decode cX5_init 33 = .ok (.new 9, 3) := by decide +kernel
theorem dX5_init_36 : decode cX5_init 36 = .ok (.dup, 1) := by decide +kernel
theorem dX5_init_37 : decode cX5_init 37 = .ok (.bipush 64, 2) := by decide +kernel
theorem dX5_init_39 : decode cX5_init 39 = .ok (.iconst 0, 1) := by decide +kernel
theorem dX5_init_40 : decode cX5_init 40 = .ok (.invokespecial 11, 3) := by decide +kernel
theorem dX5_init_43 : decode cX5_init 43 = .ok (.putfield 23, 3) := by decide +kernel
theorem dX5_init_46 : decode cX5_init 46 = .ok (.return_, 1) := by decide +kernel
set_option maxRecDepth 20000 in
theorem ggX5_find_X4_fill : GoodIn wsX5_find wsX4_fill := goodIn_r _ [12, 13, 14, 15, 16, 17, 66] (by decide +kernel) (by decide +kernel)
set_option maxRecDepth 20000 in
theorem gX5_find_X4_fill : GoodIn wsX5_find (wsV RX5 26 RX4 yX4_fill wsX4_fill) := goodIn_app (goodIn_of _ (by decide +kernel)) ggX5_find_X4_fill
set_option maxRecDepth 20000 in
theorem ggX5_find_X0_kindOf : GoodIn wsX5_find wsX0_kindOf := goodIn_r _ [22, 23, 24, 25, 26, 11, 27, 13, 67, 68, 66] (by decide +kernel) (by decide +kernel)
set_option maxRecDepth 20000 in
theorem gX5_find_X0_kindOf : GoodIn wsX5_find (wsV RX5 30 RX0 yX0_kindOf wsX0_kindOf) := goodIn_app (goodIn_of _ (by decide +kernel)) ggX5_find_X0_kindOf
set_option maxRecDepth 20000 in
theorem ggX5_find_X3_netOf : GoodIn wsX5_find wsX3_netOf := goodIn_r _ [32, 33, 34, 35, 25, 26, 11, 27, 13, 69, 70, 71, 72, 73, 66] (by decide +kernel) (by decide +kernel)
set_option maxRecDepth 20000 in
theorem gX5_find_X3_netOf : GoodIn wsX5_find (wsV RX5 36 RX3 yX3_netOf wsX3_netOf) := goodIn_app (goodIn_of _ (by decide +kernel)) ggX5_find_X3_netOf
set_option maxRecDepth 20000 in
theorem ggX5_find_X5_give : GoodIn wsX5_find wsX5_give := goodIn_r _ [40, 1, 2, 41, 42, 43, 11, 44, 13, 63, 64, 65, 66] (by decide +kernel) (by decide +kernel)
set_option maxRecDepth 20000 in
theorem gX5_find_X5_give : GoodIn wsX5_find (wsV RX5 41 RX5 yX5_give wsX5_give) := goodIn_app (goodIn_of _ (by decide +kernel)) ggX5_find_X5_give
set_option maxRecDepth 20000 in
theorem ggX5_find_X0_isZone : GoodIn wsX5_find wsX0_isZone := goodIn_r _ [48, 23, 24, 25, 26, 11, 27, 13, 67, 68, 66] (by decide +kernel) (by decide +kernel)
set_option maxRecDepth 20000 in
theorem gX5_find_X0_isZone : GoodIn wsX5_find (wsV RX5 44 RX0 yX0_isZone wsX0_isZone) := goodIn_app (goodIn_of _ (by decide +kernel)) ggX5_find_X0_isZone
set_option maxRecDepth 20000 in
theorem ggX5_find_X0_levelOf : GoodIn wsX5_find wsX0_levelOf := goodIn_r _ [52, 53, 24, 25, 26, 11, 27, 13, 67, 68, 66] (by decide +kernel) (by decide +kernel)
set_option maxRecDepth 20000 in
theorem gX5_find_X0_levelOf : GoodIn wsX5_find (wsV RX5 48 RX0 yX0_levelOf wsX0_levelOf) := goodIn_app (goodIn_of _ (by decide +kernel)) ggX5_find_X0_levelOf
set_option maxRecDepth 20000 in
theorem ggX5_find_X5_serve : GoodIn wsX5_find wsX5_serve := goodIn_r _ [57, 1, 2, 3, 58, 25, 26, 11, 27, 13, 41, 42, 43, 44, 59, 60, 61, 62, 63, 64, 65, 66] (by decide +kernel) (by decide +kernel)
set_option maxRecDepth 20000 in
theorem gX5_find_X5_serve : GoodIn wsX5_find (wsV RX5 57 RX5 yX5_serve wsX5_serve) := goodIn_app (goodIn_of _ (by decide +kernel)) ggX5_find_X5_serve
theorem dX5_find_0 : decode cX5_find 0 = .ok (.aload_n 0, 1) := by decide +kernel
theorem dX5_find_1 : decode cX5_find 1 = .ok (.getfield 14, 3) := by decide +kernel
theorem dX5_find_4 : decode cX5_find 4 = .ok (.iconst 0, 1) := by decide +kernel
theorem dX5_find_5 : decode cX5_find 5 = .ok (.invokevirtual 26, 3) := by decide +kernel
theorem dX5_find_8 : decode cX5_find 8 = .ok (.aload_n 0, 1) := by decide +kernel
theorem dX5_find_9 : decode cX5_find 9 = .ok (.getfield 20, 3) := by decide +kernel
theorem dX5_find_12 : decode cX5_find 12 = .ok (.iconst 0, 1) := by decide +kernel
theorem dX5_find_13 : decode cX5_find 13 = .ok (.invokevirtual 26, 3) := by decide +kernel
theorem dX5_find_16 : decode cX5_find 16 = .ok (.aload_n 0, 1) := by decide +kernel
theorem dX5_find_17 : decode cX5_find 17 = .ok (.getfield 23, 3) := by decide +kernel
theorem dX5_find_20 : decode cX5_find 20 = .ok (.iconst 0, 1) := by decide +kernel
theorem dX5_find_21 : decode cX5_find 21 = .ok (.invokevirtual 26, 3) := by decide +kernel
theorem dX5_find_24 : decode cX5_find 24 = .ok (.iconst 0, 1) := by decide +kernel
theorem dX5_find_25 : decode cX5_find 25 = .ok (.istore_n 3, 1) := by decide +kernel
theorem dX5_find_26 : decode cX5_find 26 = .ok (.iload_n 3, 1) := by decide +kernel
theorem dX5_find_27 : decode cX5_find 27 = .ok (.bipush 64, 2) := by decide +kernel
theorem dX5_find_29 : decode cX5_find 29 = .ok (.if_icmp .ge 23, 3) := by decide +kernel
theorem dX5_find_32 : decode cX5_find 32 = .ok (.aload_n 0, 1) := by decide +kernel
theorem dX5_find_33 : decode cX5_find 33 = .ok (.aload_n 1, 1) := by decide +kernel
theorem dX5_find_34 : decode cX5_find 34 = .ok (.iload_n 3, 1) := by decide +kernel
theorem dX5_find_35 : decode cX5_find 35 = .ok (.invokevirtual 30, 3) := by decide +kernel
theorem dX5_find_38 : decode cX5_find 38 = .ok (.aload_n 2, 1) := by decide +kernel
theorem dX5_find_39 : decode cX5_find 39 = .ok (.iload_n 3, 1) := by decide +kernel
theorem dX5_find_40 : decode cX5_find 40 = .ok (.invokevirtual 36, 3) := by decide +kernel
theorem dX5_find_43 : decode cX5_find 43 = .ok (.invokevirtual 41, 3) := by decide +kernel
theorem dX5_find_46 : decode cX5_find 46 = .ok (.iinc 3 1, 3) := by decide +kernel
theorem dX5_find_49 : decode cX5_find 49 = .ok (.goto (-23), 3) := by decide +kernel
theorem dX5_find_52 : decode cX5_find 52 = .ok (.iconst 0, 1) := by decide +kernel
theorem dX5_find_53 : decode cX5_find 53 = .ok (.istore_n 3, 1) := by decide +kernel
theorem dX5_find_54 : decode cX5_find 54 = .ok (.iload_n 3, 1) := by decide +kernel
theorem dX5_find_55 : decode cX5_find 55 = .ok (.bipush 64, 2) := by decide +kernel
theorem dX5_find_57 : decode cX5_find 57 = .ok (.if_icmp .ge 36, 3) := by decide +kernel
theorem dX5_find_60 : decode cX5_find 60 = .ok (.aload_n 1, 1) := by decide +kernel
theorem dX5_find_61 : decode cX5_find 61 = .ok (.iload_n 3, 1) := by decide +kernel
theorem dX5_find_62 : decode cX5_find 62 = .ok (.invokevirtual 44, 3) := by decide +kernel
theorem dX5_find_65 : decode cX5_find 65 = .ok (.ifCond .eq 22, 3) := by decide +kernel
theorem dX5_find_68 : decode cX5_find 68 = .ok (.aload_n 0, 1) := by decide +kernel
theorem dX5_find_69 : decode cX5_find 69 = .ok (.iload_n 3, 1) := by decide +kernel
theorem dX5_find_70 : decode cX5_find 70 = .ok (.aload_n 2, 1) := by decide +kernel
theorem dX5_find_71 : decode cX5_find 71 = .ok (.iload_n 3, 1) := by decide +kernel
theorem dX5_find_72 : decode cX5_find 72 = .ok (.invokevirtual 36, 3) := by decide +kernel
theorem dX5_find_75 : decode cX5_find 75 = .ok (.aload_n 1, 1) := by decide +kernel
theorem dX5_find_76 : decode cX5_find 76 = .ok (.iload_n 3, 1) := by decide +kernel
theorem dX5_find_77 : decode cX5_find 77 = .ok (.invokevirtual 48, 3) := by decide +kernel
theorem dX5_find_80 : decode cX5_find 80 = .ok (.iconst 1, 1) := by decide +kernel
theorem dX5_find_81 : decode cX5_find 81 = .ok (.invokestatic 51, 3) := by decide +kernel
theorem dX5_find_84 : decode cX5_find 84 = .ok (.invokevirtual 57, 3) := by decide +kernel
theorem dX5_find_87 : decode cX5_find 87 = .ok (.iinc 3 1, 3) := by decide +kernel
theorem dX5_find_90 : decode cX5_find 90 = .ok (.goto (-36), 3) := by decide +kernel
theorem dX5_find_93 : decode cX5_find 93 = .ok (.return_, 1) := by decide +kernel
set_option maxRecDepth 20000 in
theorem ggX5_give_X4_add : GoodIn wsX5_give wsX4_add := goodIn_r _ [7, 8, 12] (by decide +kernel) (by decide +kernel)
set_option maxRecDepth 20000 in
theorem gX5_give_X4_add : GoodIn wsX5_give (wsV RX5 61 RX4 yX4_add wsX4_add) := goodIn_app (goodIn_of _ (by decide +kernel)) ggX5_give_X4_add
theorem dX5_give_0 : decode cX5_give 0 = .ok (.iload_n 2, 1) := by decide +kernel
theorem dX5_give_1 : decode cX5_give 1 = .ok (.iconst (-1), 1) := by decide +kernel
theorem dX5_give_2 : decode cX5_give 2 = .ok (.if_icmp .ne 4, 3) := by decide +kernel
theorem dX5_give_5 : decode cX5_give 5 = .ok (.return_, 1) := by decide +kernel
theorem dX5_give_6 : decode cX5_give 6 = .ok (.iload_n 1, 1) := by decide +kernel
theorem dX5_give_7 : decode cX5_give 7 = .ok (.iconst 5, 1) := by decide +kernel
theorem dX5_give_8 : decode cX5_give 8 = .ok (.if_icmp .ne 16, 3) := by decide +kernel
theorem dX5_give_11 : decode cX5_give 11 = .ok (.aload_n 0, 1) := by decide +kernel
theorem dX5_give_12 : decode cX5_give 12 = .ok (.getfield 14, 3) := by decide +kernel
theorem dX5_give_15 : decode cX5_give 15 = .ok (.iload_n 2, 1) := by decide +kernel
theorem dX5_give_16 : decode cX5_give 16 = .ok (.bipush 20, 2) := by decide +kernel
theorem dX5_give_18 : decode cX5_give 18 = .ok (.invokevirtual 61, 3) := by decide +kernel
theorem dX5_give_21 : decode cX5_give 21 = .ok (.goto 19, 3) := by decide +kernel
theorem dX5_give_24 : decode cX5_give 24 = .ok (.iload_n 1, 1) := by decide +kernel
theorem dX5_give_25 : decode cX5_give 25 = .ok (.bipush 6, 2) := by decide +kernel
theorem dX5_give_27 : decode cX5_give 27 = .ok (.if_icmp .ne 13, 3) := by decide +kernel
theorem dX5_give_30 : decode cX5_give 30 = .ok (.aload_n 0, 1) := by decide +kernel
theorem dX5_give_31 : decode cX5_give 31 = .ok (.getfield 20, 3) := by decide +kernel
theorem dX5_give_34 : decode cX5_give 34 = .ok (.iload_n 2, 1) := by decide +kernel
theorem dX5_give_35 : decode cX5_give 35 = .ok (.bipush 20, 2) := by decide +kernel
theorem dX5_give_37 : decode cX5_give 37 = .ok (.invokevirtual 61, 3) := by decide +kernel
theorem dX5_give_40 : decode cX5_give 40 = .ok (.return_, 1) := by decide +kernel
set_option maxRecDepth 20000 in
theorem ggX5_serve_X4_get : GoodIn wsX5_serve wsX4_get := goodIn_r _ [8, 9, 21] (by decide +kernel) (by decide +kernel)
set_option maxRecDepth 20000 in
theorem gX5_serve_X4_get : GoodIn wsX5_serve (wsV RX5 64 RX4 yX4_get wsX4_get) := goodIn_app (goodIn_of _ (by decide +kernel)) ggX5_serve_X4_get
set_option maxRecDepth 20000 in
theorem ggX5_serve_X4_add : GoodIn wsX5_serve wsX4_add := goodIn_r _ [13, 9, 21] (by decide +kernel) (by decide +kernel)
set_option maxRecDepth 20000 in
theorem gX5_serve_X4_add : GoodIn wsX5_serve (wsV RX5 61 RX4 yX4_add wsX4_add) := goodIn_app (goodIn_of _ (by decide +kernel)) ggX5_serve_X4_add
set_option maxRecDepth 20000 in
theorem ggX5_serve_X4_set : GoodIn wsX5_serve wsX4_set := goodIn_r _ [17, 9, 21] (by decide +kernel) (by decide +kernel)
set_option maxRecDepth 20000 in
theorem gX5_serve_X4_set : GoodIn wsX5_serve (wsV RX5 67 RX4 yX4_set wsX4_set) := goodIn_app (goodIn_of _ (by decide +kernel)) ggX5_serve_X4_set
theorem dX5_serve_0 : decode cX5_serve 0 = .ok (.iload_n 2, 1) := by decide +kernel
theorem dX5_serve_1 : decode cX5_serve 1 = .ok (.iconst (-1), 1) := by decide +kernel
theorem dX5_serve_2 : decode cX5_serve 2 = .ok (.if_icmp .eq 56, 3) := by decide +kernel
theorem dX5_serve_5 : decode cX5_serve 5 = .ok (.aload_n 0, 1) := by decide +kernel
theorem dX5_serve_6 : decode cX5_serve 6 = .ok (.getfield 14, 3) := by decide +kernel
theorem dX5_serve_9 : decode cX5_serve 9 = .ok (.iload_n 2, 1) := by decide +kernel
theorem dX5_serve_10 : decode cX5_serve 10 = .ok (.invokevirtual 64, 3) := by decide +kernel
theorem dX5_serve_13 : decode cX5_serve 13 = .ok (.iload_n 3, 1) := by decide +kernel
theorem dX5_serve_14 : decode cX5_serve 14 = .ok (.if_icmp .lt 44, 3) := by decide +kernel
theorem dX5_serve_17 : decode cX5_serve 17 = .ok (.aload_n 0, 1) := by decide +kernel
theorem dX5_serve_18 : decode cX5_serve 18 = .ok (.getfield 20, 3) := by decide +kernel
theorem dX5_serve_21 : decode cX5_serve 21 = .ok (.iload_n 2, 1) := by decide +kernel
theorem dX5_serve_22 : decode cX5_serve 22 = .ok (.invokevirtual 64, 3) := by decide +kernel
theorem dX5_serve_25 : decode cX5_serve 25 = .ok (.iload_n 3, 1) := by decide +kernel
theorem dX5_serve_26 : decode cX5_serve 26 = .ok (.if_icmp .lt 32, 3) := by decide +kernel
theorem dX5_serve_29 : decode cX5_serve 29 = .ok (.aload_n 0, 1) := by decide +kernel
theorem dX5_serve_30 : decode cX5_serve 30 = .ok (.getfield 14, 3) := by decide +kernel
theorem dX5_serve_33 : decode cX5_serve 33 = .ok (.iload_n 2, 1) := by decide +kernel
theorem dX5_serve_34 : decode cX5_serve 34 = .ok (.iload_n 3, 1) := by decide +kernel
theorem dX5_serve_35 : decode cX5_serve 35 = .ok (.ineg, 1) := by decide +kernel
theorem dX5_serve_36 : decode cX5_serve 36 = .ok (.invokevirtual 61, 3) := by decide +kernel
theorem dX5_serve_39 : decode cX5_serve 39 = .ok (.aload_n 0, 1) := by decide +kernel
theorem dX5_serve_40 : decode cX5_serve 40 = .ok (.getfield 20, 3) := by decide +kernel
theorem dX5_serve_43 : decode cX5_serve 43 = .ok (.iload_n 2, 1) := by decide +kernel
theorem dX5_serve_44 : decode cX5_serve 44 = .ok (.iload_n 3, 1) := by decide +kernel
theorem dX5_serve_45 : decode cX5_serve 45 = .ok (.ineg, 1) := by decide +kernel
theorem dX5_serve_46 : decode cX5_serve 46 = .ok (.invokevirtual 61, 3) := by decide +kernel
theorem dX5_serve_49 : decode cX5_serve 49 = .ok (.aload_n 0, 1) := by decide +kernel
theorem dX5_serve_50 : decode cX5_serve 50 = .ok (.getfield 23, 3) := by decide +kernel
theorem dX5_serve_53 : decode cX5_serve 53 = .ok (.iload_n 1, 1) := by decide +kernel
theorem dX5_serve_54 : decode cX5_serve 54 = .ok (.iconst 1, 1) := by decide +kernel
theorem dX5_serve_55 : decode cX5_serve 55 = .ok (.invokevirtual 67, 3) := by decide +kernel
theorem dX5_serve_58 : decode cX5_serve 58 = .ok (.return_, 1) := by decide +kernel
set_option maxRecDepth 20000 in
theorem ggX5_serves_X4_get : GoodIn wsX5_serves wsX4_get := goodIn_r _ [6, 7, 11] (by decide +kernel) (by decide +kernel)
set_option maxRecDepth 20000 in
theorem gX5_serves_X4_get : GoodIn wsX5_serves (wsV RX5 64 RX4 yX4_get wsX4_get) := goodIn_app (goodIn_of _ (by decide +kernel)) ggX5_serves_X4_get
theorem dX5_serves_0 : decode cX5_serves 0 = .ok (.aload_n 0, 1) := by decide +kernel
theorem dX5_serves_1 : decode cX5_serves 1 = .ok (.getfield 23, 3) := by decide +kernel
theorem dX5_serves_4 : decode cX5_serves 4 = .ok (.iload_n 1, 1) := by decide +kernel
theorem dX5_serves_5 : decode cX5_serves 5 = .ok (.invokevirtual 64, 3) := by decide +kernel
theorem dX5_serves_8 : decode cX5_serves 8 = .ok (.iconst 1, 1) := by decide +kernel
theorem dX5_serves_9 : decode cX5_serves 9 = .ok (.if_icmp .ne 7, 3) := by decide +kernel
theorem dX5_serves_12 : decode cX5_serves 12 = .ok (.iconst 1, 1) := by decide +kernel
theorem dX5_serves_13 : decode cX5_serves 13 = .ok (.goto 4, 3) := by decide +kernel
theorem dX5_serves_16 : decode cX5_serves 16 = .ok (.iconst 0, 1) := by decide +kernel
theorem dX5_serves_17 : decode cX5_serves 17 = .ok (.ireturn, 1) := by decide +kernel
set_option maxRecDepth 20000 in
theorem ggX5_powerOf_X4_get : GoodIn wsX5_powerOf wsX4_get := goodIn_r _ [6, 7, 11] (by decide +kernel) (by decide +kernel)
set_option maxRecDepth 20000 in
theorem gX5_powerOf_X4_get : GoodIn wsX5_powerOf (wsV RX5 64 RX4 yX4_get wsX4_get) := goodIn_app (goodIn_of _ (by decide +kernel)) ggX5_powerOf_X4_get
theorem dX5_powerOf_0 : decode cX5_powerOf 0 = .ok (.aload_n 0, 1) := by decide +kernel
theorem dX5_powerOf_1 : decode cX5_powerOf 1 = .ok (.getfield 14, 3) := by decide +kernel
theorem dX5_powerOf_4 : decode cX5_powerOf 4 = .ok (.iload_n 1, 1) := by decide +kernel
theorem dX5_powerOf_5 : decode cX5_powerOf 5 = .ok (.invokevirtual 64, 3) := by decide +kernel
theorem dX5_powerOf_8 : decode cX5_powerOf 8 = .ok (.ireturn, 1) := by decide +kernel
set_option maxRecDepth 20000 in
theorem ggX6_init_X0_init : GoodIn wsX6_init wsX0_init := goodIn_r _ [25, 26, 2, 3, 27, 28, 29, 30, 31, 32, 33, 34, 35, 36, 37, 38, 39, 40, 41, 107, 80, 81] (by decide +kernel) (by decide +kernel)
set_option maxRecDepth 20000 in
theorem gX6_init_X0_init_n9 : GoodIn wsX6_init (wsX0_init) := ggX6_init_X0_init
set_option maxRecDepth 20000 in
theorem ggX6_init_X3_init : GoodIn wsX6_init wsX3_init := goodIn_r _ [43, 44, 2, 3, 45, 28, 29, 46, 47, 48, 49, 50, 51, 33, 34, 35, 36, 37, 38, 39, 40, 41, 107, 87, 88, 89, 90, 91] (by decide +kernel) (by decide +kernel)
set_option maxRecDepth 20000 in
theorem gX6_init_X3_init_n18 : GoodIn wsX6_init (wsX3_init) := ggX6_init_X3_init
set_option maxRecDepth 20000 in
theorem ggX6_init_X5_init : GoodIn wsX6_init wsX5_init := goodIn_r _ [53, 54, 2, 3, 55, 28, 29, 56, 57, 58, 59, 33, 34, 35, 36, 37, 38, 39, 40, 41, 107, 92, 93, 94] (by decide +kernel) (by decide +kernel)
set_option maxRecDepth 20000 in
theorem gX6_init_X5_init_n25 : GoodIn wsX6_init (wsX5_init) := ggX6_init_X5_init
set_option maxRecDepth 20000 in
theorem ggX6_init_X1_init : GoodIn wsX6_init wsX1_init := goodIn_r _ [61, 62, 2, 3, 63, 28, 29, 64, 65, 66, 67, 68, 69, 70, 71, 33, 34, 35, 36, 37, 38, 39, 40, 41, 107, 95, 96, 97, 98, 99, 100, 101] (by decide +kernel) (by decide +kernel)
set_option maxRecDepth 20000 in
theorem gX6_init_X1_init_n32 : GoodIn wsX6_init (wsX1_init) := ggX6_init_X1_init
set_option maxRecDepth 20000 in
theorem ggX6_init_X2_init : GoodIn wsX6_init wsX2_init := goodIn_r _ [73, 74, 2, 3, 75, 76, 77, 78, 79, 102, 103, 104, 105, 106] (by decide +kernel) (by decide +kernel)
set_option maxRecDepth 20000 in
theorem gX6_init_X2_init_n39 : GoodIn wsX6_init (wsX2_init) := ggX6_init_X2_init
theorem dX6_init_0 : decode cX6_init 0 = .ok (.aload_n 0, 1) := by decide +kernel
theorem dX6_init_1 : decode cX6_init 1 = .ok (.invokespecial 1, 3) := by decide +kernel
theorem dX6_init_4 : decode cX6_init 4 = .ok (.aload_n 0, 1) := by decide +kernel
theorem dX6_init_5 : decode cX6_init 5 = .ok (.new 7, 3) := by decide +kernel
theorem dX6_init_8 : decode cX6_init 8 = .ok (.dup, 1) := by decide +kernel
theorem dX6_init_9 : decode cX6_init 9 = .ok (.invokespecial 9, 3) := by decide +kernel
theorem dX6_init_12 : decode cX6_init 12 = .ok (.putfield 10, 3) := by decide +kernel
theorem dX6_init_15 : decode cX6_init 15 = .ok (.aload_n 0, 1) := by decide +kernel
theorem dX6_init_16 : decode cX6_init 16 = .ok (.new 16, 3) := by decide +kernel
theorem dX6_init_19 : decode cX6_init 19 = .ok (.dup, 1) := by decide +kernel
theorem dX6_init_20 : decode cX6_init 20 = .ok (.invokespecial 18, 3) := by decide +kernel
theorem dX6_init_23 : decode cX6_init 23 = .ok (.putfield 19, 3) := by decide +kernel
theorem dX6_init_26 : decode cX6_init 26 = .ok (.aload_n 0, 1) := by decide +kernel
theorem dX6_init_27 : decode cX6_init 27 = .ok (.new 23, 3) := by decide +kernel
theorem dX6_init_30 : decode cX6_init 30 = .ok (.dup, 1) := by decide +kernel
theorem dX6_init_31 : decode cX6_init 31 = .ok (.invokespecial 25, 3) := by decide +kernel
theorem dX6_init_34 : decode cX6_init 34 = .ok (.putfield 26, 3) := by decide +kernel
theorem dX6_init_37 : decode cX6_init 37 = .ok (.aload_n 0, 1) := by decide +kernel
theorem dX6_init_38 : decode cX6_init 38 = .ok (.new 30, 3) := by decide +kernel
theorem dX6_init_41 : decode cX6_init 41 = .ok (.dup, 1) := by decide +kernel
theorem dX6_init_42 : decode cX6_init 42 = .ok (.invokespecial 32, 3) := by decide +kernel
theorem dX6_init_45 : decode cX6_init 45 = .ok (.putfield 33, 3) := by decide +kernel
theorem dX6_init_48 : decode cX6_init 48 = .ok (.aload_n 0, 1) := by decide +kernel
theorem dX6_init_49 : decode cX6_init 49 = .ok (.new 37, 3) := by decide +kernel
theorem dX6_init_52 : decode cX6_init 52 = .ok (.dup, 1) := by decide +kernel
theorem dX6_init_53 : decode cX6_init 53 = .ok (.invokespecial 39, 3) := by decide +kernel
theorem dX6_init_56 : decode cX6_init 56 = .ok (.putfield 40, 3) := by decide +kernel
theorem dX6_init_59 : decode cX6_init 59 = .ok (.return_, 1) := by decide +kernel
set_option maxRecDepth 20000 in
theorem ggX6_build_X6_requireCell : GoodIn wsX6_build wsX6_requireCell := goodIn_ca (goodIn_r _ [8, 9, 10] (by decide +kernel) (by decide +kernel)) (goodIn_sub (fun _ h => List.mem_cons_of_mem _ (List.mem_append_left _ (List.mem_append_right _ h))) (by decide +kernel))
set_option maxRecDepth 20000 in
theorem gX6_build_X6_requireCell : GoodIn wsX6_build (va_wsS RX6 44 yX6_requireCell wsX6_requireCell) := goodIn_app (goodIn_of _ (by decide +kernel)) ggX6_build_X6_requireCell
set_option maxRecDepth 20000 in
theorem ggX6_build_X6_requireRange : GoodIn wsX6_build wsX6_requireRange := goodIn_ca (goodIn_r _ [13, 14, 15] (by decide +kernel) (by decide +kernel)) (goodIn_sub (fun _ h => List.mem_cons_of_mem _ (List.mem_append_right _ h)) (by decide +kernel))
set_option maxRecDepth 20000 in
theorem gX6_build_X6_requireRange : GoodIn wsX6_build (va_wsS RX6 48 yX6_requireRange wsX6_requireRange) := goodIn_app (goodIn_of _ (by decide +kernel)) ggX6_build_X6_requireRange
set_option maxRecDepth 20000 in
theorem ggX6_build_X0_kindOf : GoodIn wsX6_build wsX0_kindOf := goodIn_r _ [20, 21, 22, 23, 24, 25, 26, 27, 196, 197, 198] (by decide +kernel) (by decide +kernel)
set_option maxRecDepth 20000 in
theorem gX6_build_X0_kindOf : GoodIn wsX6_build (wsV RX6 52 RX0 yX0_kindOf wsX0_kindOf) := goodIn_app (goodIn_of _ (by decide +kernel)) ggX6_build_X0_kindOf
set_option maxRecDepth 20000 in
theorem ggX6_build_X6_costOf : GoodIn wsX6_build wsX6_costOf := goodIn_r _ [30] (by decide +kernel) (by decide +kernel)
set_option maxRecDepth 20000 in
theorem gX6_build_X6_costOf : GoodIn wsX6_build (va_wsS RX6 63 yX6_costOf wsX6_costOf) := goodIn_app (goodIn_of _ (by decide +kernel)) ggX6_build_X6_costOf
set_option maxRecDepth 20000 in
theorem ggX6_build_X6_requireCash : GoodIn wsX6_build wsX6_requireCash := goodIn_ca (goodIn_r _ [34, 1, 2, 4, 35, 36, 37, 38, 39, 40, 191, 192, 193, 194, 195, 199, 200, 201, 202, 203] (by decide +kernel) (by decide +kernel)) (goodIn_sub (fun _ h => List.mem_cons_of_mem _ (List.mem_append_left _ (List.mem_append_left _ (List.mem_append_right _ h)))) (by decide +kernel))
set_option maxRecDepth 20000 in
theorem gX6_build_X6_requireCash : GoodIn wsX6_build (wsV RX6 66 RX6 yX6_requireCash wsX6_requireCash) := goodIn_app (goodIn_of _ (by decide +kernel)) ggX6_build_X6_requireCash
set_option maxRecDepth 20000 in
theorem ggX6_build_X2_spend : GoodIn wsX6_build wsX2_spend := goodIn_r _ [44, 40, 199, 200, 201, 202, 203] (by decide +kernel) (by decide +kernel)
set_option maxRecDepth 20000 in
theorem gX6_build_X2_spend : GoodIn wsX6_build (wsV RX6 69 RX2 yX2_spend wsX2_spend) := goodIn_app (goodIn_of _ (by decide +kernel)) ggX6_build_X2_spend
set_option maxRecDepth 20000 in
theorem ggX6_build_X0_lay : GoodIn wsX6_build wsX0_lay := goodIn_r _ [48, 21, 49, 50, 51, 52, 25, 53, 27, 196, 197, 198] (by decide +kernel) (by decide +kernel)
set_option maxRecDepth 20000 in
theorem gX6_build_X0_lay : GoodIn wsX6_build (wsV RX6 72 RX0 yX0_lay wsX0_lay) := goodIn_app (goodIn_of _ (by decide +kernel)) ggX6_build_X0_lay
set_option maxRecDepth 20000 in
theorem ggX6_build_X6_survey : GoodIn wsX6_build wsX6_survey := goodIn_r _ [57, 58, 3, 59, 60, 61, 62, 63, 64, 65, 66, 67, 68, 69, 70, 71, 72, 25, 73, 27, 74, 75, 76, 77, 78, 79, 80, 81, 82, 83, 84, 19, 85, 21, 22, 23, 24, 26, 86, 7, 87, 88, 51, 52, 53, 89, 90, 91, 92, 93, 94, 95, 96, 97, 98, 99, 100, 101, 102, 103, 104, 105, 106, 107, 108, 17, 18, 20, 109, 110, 111, 112, 113, 114, 115, 116, 117, 118, 119, 120, 121, 122, 123, 124, 125, 126, 127, 128, 49, 129, 130, 131, 132, 133, 134, 135, 136, 137, 138, 139, 140, 141, 142, 143, 144, 145, 146, 147, 148, 149, 150, 151, 152, 153, 154, 155, 156, 157, 158, 159, 160, 161, 162, 163, 164, 165, 166, 167, 168, 169, 170, 171, 172, 173, 174, 175, 176, 177, 178, 179, 180, 181, 182, 183, 184, 185, 186, 187, 188, 189, 190, 191, 192, 193, 194, 195, 204, 205, 206, 207, 208, 198, 196, 197, 209, 210, 211, 212, 213, 214, 215, 216, 217, 218] (by decide +kernel) (by decide +kernel)
set_option maxRecDepth 20000 in
theorem gX6_build_X6_survey : GoodIn wsX6_build (wsV RX6 76 RX6 yX6_survey wsX6_survey) := goodIn_app (goodIn_of _ (by decide +kernel)) ggX6_build_X6_survey
set_option maxRecDepth 20000 in
theorem ggX6_build_X2_cashNow : GoodIn wsX6_build wsX2_cashNow := goodIn_r _ [39, 40, 199, 200, 201, 202, 203] (by decide +kernel) (by decide +kernel)
