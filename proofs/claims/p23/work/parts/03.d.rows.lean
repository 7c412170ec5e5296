theorem dX6_nextLevel_8 : decode cX6_nextLevel 8 = .ok (.istore_n 3, 1) := by decide +kernel
theorem dX6_nextLevel_9 : decode cX6_nextLevel 9 = .ok (.aload_n 0, 1) := by decide +kernel
theorem dX6_nextLevel_10 : decode cX6_nextLevel 10 = .ok (.getfield 26, 3) := by decide +kernel
theorem dX6_nextLevel_13 : decode cX6_nextLevel 13 = .ok (.iload_n 1, 1) := by decide +kernel
theorem dX6_nextLevel_14 : decode cX6_nextLevel 14 = .ok (.invokevirtual 133, 3) := by decide +kernel
theorem dX6_nextLevel_17 : decode cX6_nextLevel 17 = .ok (.ifCond .eq 11, 3) := by decide +kernel
theorem dX6_nextLevel_20 : decode cX6_nextLevel 20 = .ok (.aload_n 0, 1) := by decide +kernel
theorem dX6_nextLevel_21 : decode cX6_nextLevel 21 = .ok (.iload_n 1, 1) := by decide +kernel
theorem dX6_nextLevel_22 : decode cX6_nextLevel 22 = .ok (.invokevirtual 200, 3) := by decide +kernel
theorem dX6_nextLevel_25 : decode cX6_nextLevel 25 = .ok (.ifCond .eq 15, 3) := by decide +kernel
theorem dX6_nextLevel_28 : decode cX6_nextLevel 28 = .ok (.iload_n 3, 1) := by decide +kernel
theorem dX6_nextLevel_29 : decode cX6_nextLevel 29 = .ok (.ifCond .le 9, 3) := by decide +kernel
theorem dX6_nextLevel_32 : decode cX6_nextLevel 32 = .ok (.iload_n 3, 1) := by decide +kernel
theorem dX6_nextLevel_33 : decode cX6_nextLevel 33 = .ok (.iconst 1, 1) := by decide +kernel
theorem dX6_nextLevel_34 : decode cX6_nextLevel 34 = .ok (.isub, 1) := by decide +kernel
theorem dX6_nextLevel_35 : decode cX6_nextLevel 35 = .ok (.goto 4, 3) := by decide +kernel
theorem dX6_nextLevel_38 : decode cX6_nextLevel 38 = .ok (.iconst 0, 1) := by decide +kernel
theorem dX6_nextLevel_39 : decode cX6_nextLevel 39 = .ok (.ireturn, 1) := by decide +kernel
theorem dX6_nextLevel_40 : decode cX6_nextLevel 40 = .ok (.aload_n 0, 1) := by decide +kernel
theorem dX6_nextLevel_41 : decode cX6_nextLevel 41 = .ok (.getfield 33, 3) := by decide +kernel
theorem dX6_nextLevel_44 : decode cX6_nextLevel 44 = .ok (.iload_n 1, 1) := by decide +kernel
theorem dX6_nextLevel_45 : decode cX6_nextLevel 45 = .ok (.invokevirtual 137, 3) := by decide +kernel
theorem dX6_nextLevel_48 : decode cX6_nextLevel 48 = .ok (.aload_n 0, 1) := by decide +kernel
theorem dX6_nextLevel_49 : decode cX6_nextLevel 49 = .ok (.getfield 10, 3) := by decide +kernel
theorem dX6_nextLevel_52 : decode cX6_nextLevel 52 = .ok (.iload_n 1, 1) := by decide +kernel
theorem dX6_nextLevel_53 : decode cX6_nextLevel 53 = .ok (.invokevirtual 203, 3) := by decide +kernel
theorem dX6_nextLevel_56 : decode cX6_nextLevel 56 = .ok (.if_icmp .ne 7, 3) := by decide +kernel
theorem dX6_nextLevel_59 : decode cX6_nextLevel 59 = .ok (.iconst 1, 1) := by decide +kernel
theorem dX6_nextLevel_60 : decode cX6_nextLevel 60 = .ok (.goto 4, 3) := by decide +kernel
theorem dX6_nextLevel_63 : decode cX6_nextLevel 63 = .ok (.iconst 0, 1) := by decide +kernel
theorem dX6_nextLevel_64 : decode cX6_nextLevel 64 = .ok (.istore 4, 2) := by decide +kernel
theorem dX6_nextLevel_66 : decode cX6_nextLevel 66 = .ok (.aload_n 0, 1) := by decide +kernel
theorem dX6_nextLevel_67 : decode cX6_nextLevel 67 = .ok (.iload_n 1, 1) := by decide +kernel
theorem dX6_nextLevel_68 : decode cX6_nextLevel 68 = .ok (.invokevirtual 143, 3) := by decide +kernel
theorem dX6_nextLevel_71 : decode cX6_nextLevel 71 = .ok (.iconst 5, 1) := by decide +kernel
theorem dX6_nextLevel_72 : decode cX6_nextLevel 72 = .ok (.iload_n 3, 1) := by decide +kernel
theorem dX6_nextLevel_73 : decode cX6_nextLevel 73 = .ok (.iconst 1, 1) := by decide +kernel
theorem dX6_nextLevel_74 : decode cX6_nextLevel 74 = .ok (.iadd, 1) := by decide +kernel
theorem dX6_nextLevel_75 : decode cX6_nextLevel 75 = .ok (.imul, 1) := by decide +kernel
theorem dX6_nextLevel_76 : decode cX6_nextLevel 76 = .ok (.if_icmp .lt 7, 3) := by decide +kernel
theorem dX6_nextLevel_79 : decode cX6_nextLevel 79 = .ok (.iconst 1, 1) := by decide +kernel
theorem dX6_nextLevel_80 : decode cX6_nextLevel 80 = .ok (.goto 4, 3) := by decide +kernel
theorem dX6_nextLevel_83 : decode cX6_nextLevel 83 = .ok (.iconst 0, 1) := by decide +kernel
theorem dX6_nextLevel_84 : decode cX6_nextLevel 84 = .ok (.istore 5, 2) := by decide +kernel
theorem dX6_nextLevel_86 : decode cX6_nextLevel 86 = .ok (.iload_n 2, 1) := by decide +kernel
theorem dX6_nextLevel_87 : decode cX6_nextLevel 87 = .ok (.ifCond .eq 24, 3) := by decide +kernel
theorem dX6_nextLevel_90 : decode cX6_nextLevel 90 = .ok (.iload_n 3, 1) := by decide +kernel
theorem dX6_nextLevel_91 : decode cX6_nextLevel 91 = .ok (.iconst 3, 1) := by decide +kernel
theorem dX6_nextLevel_92 : decode cX6_nextLevel 92 = .ok (.if_icmp .ge 19, 3) := by decide +kernel
theorem dX6_nextLevel_95 : decode cX6_nextLevel 95 = .ok (.iload 4, 2) := by decide +kernel
theorem dX6_nextLevel_97 : decode cX6_nextLevel 97 = .ok (.ifCond .eq 14, 3) := by decide +kernel
theorem dX6_nextLevel_100 : decode cX6_nextLevel 100 = .ok (.iload 5, 2) := by decide +kernel
theorem dX6_nextLevel_102 : decode cX6_nextLevel 102 = .ok (.ifCond .eq 9, 3) := by decide +kernel
theorem dX6_nextLevel_105 : decode cX6_nextLevel 105 = .ok (.iload_n 3, 1) := by decide +kernel
theorem dX6_nextLevel_106 : decode cX6_nextLevel 106 = .ok (.iconst 1, 1) := by decide +kernel
theorem dX6_nextLevel_107 : decode cX6_nextLevel 107 = .ok (.iadd, 1) := by decide +kernel
theorem dX6_nextLevel_108 : decode cX6_nextLevel 108 = .ok (.goto 4, 3) := by decide +kernel
theorem dX6_nextLevel_111 : decode cX6_nextLevel 111 = .ok (.iload_n 3, 1) := by decide +kernel
theorem dX6_nextLevel_112 : decode cX6_nextLevel 112 = .ok (.ireturn, 1) := by decide +kernel
set_option maxRecDepth 20000 in
theorem ggX6_lacksPeople_X0_peopleOf : GoodIn wsX6_lacksPeople wsX0_peopleOf := goodIn_r _ [7, 8, 9, 10, 11, 12, 13, 14, 32, 33, 34] (by decide +kernel) (by decide +kernel)
set_option maxRecDepth 20000 in
theorem gX6_lacksPeople_X0_peopleOf : GoodIn wsX6_lacksPeople (wsV RX6 203 RX0 yX0_peopleOf wsX0_peopleOf) := goodIn_app (goodIn_of _ (by decide +kernel)) ggX6_lacksPeople_X0_peopleOf
set_option maxRecDepth 20000 in
theorem ggX6_lacksPeople_X1_placedAt : GoodIn wsX6_lacksPeople wsX1_placedAt := goodIn_r _ [19, 20, 21, 10, 11, 12, 13, 14, 35, 36, 37, 38, 39, 40, 41, 34] (by decide +kernel) (by decide +kernel)
set_option maxRecDepth 20000 in
theorem gX6_lacksPeople_X1_placedAt : GoodIn wsX6_lacksPeople (wsV RX6 137 RX1 yX1_placedAt wsX1_placedAt) := goodIn_app (goodIn_of _ (by decide +kernel)) ggX6_lacksPeople_X1_placedAt
set_option maxRecDepth 20000 in
theorem ggX6_lacksPeople_X0_kindOf : GoodIn wsX6_lacksPeople wsX0_kindOf := goodIn_r _ [25, 26, 9, 10, 11, 12, 13, 14, 32, 33, 34] (by decide +kernel) (by decide +kernel)
set_option maxRecDepth 20000 in
theorem gX6_lacksPeople_X0_kindOf : GoodIn wsX6_lacksPeople (wsV RX6 52 RX0 yX0_kindOf wsX0_kindOf) := goodIn_app (goodIn_of _ (by decide +kernel)) ggX6_lacksPeople_X0_kindOf
theorem dX6_lacksPeople_0 : decode cX6_lacksPeople 0 = .ok (.aload_n 0, 1) := by decide +kernel
theorem dX6_lacksPeople_1 : decode cX6_lacksPeople 1 = .ok (.getfield 10, 3) := by decide +kernel
theorem dX6_lacksPeople_4 : decode cX6_lacksPeople 4 = .ok (.iload_n 1, 1) := by decide +kernel
theorem dX6_lacksPeople_5 : decode cX6_lacksPeople 5 = .ok (.invokevirtual 203, 3) := by decide +kernel
theorem dX6_lacksPeople_8 : decode cX6_lacksPeople 8 = .ok (.istore_n 2, 1) := by decide +kernel
theorem dX6_lacksPeople_9 : decode cX6_lacksPeople 9 = .ok (.aload_n 0, 1) := by decide +kernel
theorem dX6_lacksPeople_10 : decode cX6_lacksPeople 10 = .ok (.getfield 33, 3) := by decide +kernel
theorem dX6_lacksPeople_13 : decode cX6_lacksPeople 13 = .ok (.iload_n 1, 1) := by decide +kernel
theorem dX6_lacksPeople_14 : decode cX6_lacksPeople 14 = .ok (.invokevirtual 137, 3) := by decide +kernel
theorem dX6_lacksPeople_17 : decode cX6_lacksPeople 17 = .ok (.istore_n 3, 1) := by decide +kernel
theorem dX6_lacksPeople_18 : decode cX6_lacksPeople 18 = .ok (.aload_n 0, 1) := by decide +kernel
theorem dX6_lacksPeople_19 : decode cX6_lacksPeople 19 = .ok (.getfield 10, 3) := by decide +kernel
theorem dX6_lacksPeople_22 : decode cX6_lacksPeople 22 = .ok (.iload_n 1, 1) := by decide +kernel
theorem dX6_lacksPeople_23 : decode cX6_lacksPeople 23 = .ok (.invokevirtual 52, 3) := by decide +kernel
theorem dX6_lacksPeople_26 : decode cX6_lacksPeople 26 = .ok (.iconst 2, 1) := by decide +kernel
theorem dX6_lacksPeople_27 : decode cX6_lacksPeople 27 = .ok (.if_icmp .ne 18, 3) := by decide +kernel
theorem dX6_lacksPeople_30 : decode cX6_lacksPeople 30 = .ok (.iconst 2, 1) := by decide +kernel
theorem dX6_lacksPeople_31 : decode cX6_lacksPeople 31 = .ok (.iload_n 2, 1) := by decide +kernel
theorem dX6_lacksPeople_32 : decode cX6_lacksPeople 32 = .ok (.iload_n 3, 1) := by decide +kernel
theorem dX6_lacksPeople_33 : decode cX6_lacksPeople 33 = .ok (.isub, 1) := by decide +kernel
theorem dX6_lacksPeople_34 : decode cX6_lacksPeople 34 = .ok (.imul, 1) := by decide +kernel
theorem dX6_lacksPeople_35 : decode cX6_lacksPeople 35 = .ok (.iload_n 2, 1) := by decide +kernel
theorem dX6_lacksPeople_36 : decode cX6_lacksPeople 36 = .ok (.if_icmp .le 7, 3) := by decide +kernel
theorem dX6_lacksPeople_39 : decode cX6_lacksPeople 39 = .ok (.iconst 1, 1) := by decide +kernel
theorem dX6_lacksPeople_40 : decode cX6_lacksPeople 40 = .ok (.goto 4, 3) := by decide +kernel
theorem dX6_lacksPeople_43 : decode cX6_lacksPeople 43 = .ok (.iconst 0, 1) := by decide +kernel
theorem dX6_lacksPeople_44 : decode cX6_lacksPeople 44 = .ok (.ireturn, 1) := by decide +kernel
theorem dX6_lacksPeople_45 : decode cX6_lacksPeople 45 = .ok (.iload_n 2, 1) := by decide +kernel
theorem dX6_lacksPeople_46 : decode cX6_lacksPeople 46 = .ok (.ifCond .le 11, 3) := by decide +kernel
theorem dX6_lacksPeople_49 : decode cX6_lacksPeople 49 = .ok (.iload_n 3, 1) := by decide +kernel
theorem dX6_lacksPeople_50 : decode cX6_lacksPeople 50 = .ok (.ifCond .ne 7, 3) := by decide +kernel
theorem dX6_lacksPeople_53 : decode cX6_lacksPeople 53 = .ok (.iconst 1, 1) := by decide +kernel
theorem dX6_lacksPeople_54 : decode cX6_lacksPeople 54 = .ok (.goto 4, 3) := by decide +kernel
theorem dX6_lacksPeople_57 : decode cX6_lacksPeople 57 = .ok (.iconst 0, 1) := by decide +kernel
theorem dX6_lacksPeople_58 : decode cX6_lacksPeople 58 = .ok (.ireturn, 1) := by decide +kernel
set_option maxRecDepth 20000 in
theorem ggX6_valueOf_X0_countNear : GoodIn wsX6_valueOf wsX0_countNear := goodIn_r _ [12, 13, 14, 15, 16, 17, 18, 19, 20, 21, 22, 23, 24, 6, 25, 45, 46, 47] (by decide +kernel) (by decide +kernel)
set_option maxRecDepth 20000 in
theorem gX6_valueOf_X0_countNear : GoodIn wsX6_valueOf (wsV RX6 206 RX0 yX0_countNear wsX0_countNear) := goodIn_app (goodIn_of _ (by decide +kernel)) ggX6_valueOf_X0_countNear
set_option maxRecDepth 20000 in
theorem ggX6_valueOf_X3_roadOf : GoodIn wsX6_valueOf wsX3_roadOf := goodIn_r _ [30, 31, 32, 15, 16, 17, 18, 19, 48, 49, 50, 51, 52, 47] (by decide +kernel) (by decide +kernel)
set_option maxRecDepth 20000 in
theorem gX6_valueOf_X3_roadOf : GoodIn wsX6_valueOf (wsV RX6 209 RX3 yX3_roadOf wsX3_roadOf) := goodIn_app (goodIn_of _ (by decide +kernel)) ggX6_valueOf_X3_roadOf
set_option maxRecDepth 20000 in
theorem ggX6_valueOf_X1_trafficOn : GoodIn wsX6_valueOf wsX1_trafficOn := goodIn_r _ [37, 38, 39, 15, 16, 17, 18, 19, 53, 54, 55, 56, 57, 58, 59, 47] (by decide +kernel) (by decide +kernel)
set_option maxRecDepth 20000 in
theorem gX6_valueOf_X1_trafficOn : GoodIn wsX6_valueOf (wsV RX6 140 RX1 yX1_trafficOn wsX1_trafficOn) := goodIn_app (goodIn_of _ (by decide +kernel)) ggX6_valueOf_X1_trafficOn
theorem dX6_valueOf_0 : decode cX6_valueOf 0 = .ok (.bipush 10, 2) := by decide +kernel
theorem dX6_valueOf_2 : decode cX6_valueOf 2 = .ok (.istore_n 2, 1) := by decide +kernel
theorem dX6_valueOf_3 : decode cX6_valueOf 3 = .ok (.iload_n 2, 1) := by decide +kernel
theorem dX6_valueOf_4 : decode cX6_valueOf 4 = .ok (.iconst 5, 1) := by decide +kernel
theorem dX6_valueOf_5 : decode cX6_valueOf 5 = .ok (.aload_n 0, 1) := by decide +kernel
theorem dX6_valueOf_6 : decode cX6_valueOf 6 = .ok (.getfield 10, 3) := by decide +kernel
theorem dX6_valueOf_9 : decode cX6_valueOf 9 = .ok (.iload_n 1, 1) := by decide +kernel
theorem dX6_valueOf_10 : decode cX6_valueOf 10 = .ok (.iconst 4, 1) := by decide +kernel
theorem dX6_valueOf_11 : decode cX6_valueOf 11 = .ok (.invokevirtual 206, 3) := by decide +kernel
theorem dX6_valueOf_14 : decode cX6_valueOf 14 = .ok (.imul, 1) := by decide +kernel
theorem dX6_valueOf_15 : decode cX6_valueOf 15 = .ok (.iadd, 1) := by decide +kernel
theorem dX6_valueOf_16 : decode cX6_valueOf 16 = .ok (.istore_n 2, 1) := by decide +kernel
theorem dX6_valueOf_17 : decode cX6_valueOf 17 = .ok (.iload_n 2, 1) := by decide +kernel
theorem dX6_valueOf_18 : decode cX6_valueOf 18 = .ok (.bipush 10, 2) := by decide +kernel
theorem dX6_valueOf_20 : decode cX6_valueOf 20 = .ok (.aload_n 0, 1) := by decide +kernel
theorem dX6_valueOf_21 : decode cX6_valueOf 21 = .ok (.getfield 10, 3) := by decide +kernel
theorem dX6_valueOf_24 : decode cX6_valueOf 24 = .ok (.iload_n 1, 1) := by decide +kernel
theorem dX6_valueOf_25 : decode cX6_valueOf 25 = .ok (.iconst 5, 1) := by decide +kernel
theorem dX6_valueOf_26 : decode cX6_valueOf 26 = .ok (.invokevirtual 206, 3) := by decide +kernel
theorem dX6_valueOf_29 : decode cX6_valueOf 29 = .ok (.imul, 1) := by decide +kernel
theorem dX6_valueOf_30 : decode cX6_valueOf 30 = .ok (.isub, 1) := by decide +kernel
theorem dX6_valueOf_31 : decode cX6_valueOf 31 = .ok (.istore_n 2, 1) := by decide +kernel
theorem dX6_valueOf_32 : decode cX6_valueOf 32 = .ok (.aload_n 0, 1) := by decide +kernel
theorem dX6_valueOf_33 : decode cX6_valueOf 33 = .ok (.getfield 19, 3) := by decide +kernel
theorem dX6_valueOf_36 : decode cX6_valueOf 36 = .ok (.iload_n 1, 1) := by decide +kernel
theorem dX6_valueOf_37 : decode cX6_valueOf 37 = .ok (.invokevirtual 209, 3) := by decide +kernel
theorem dX6_valueOf_40 : decode cX6_valueOf 40 = .ok (.istore_n 3, 1) := by decide +kernel
theorem dX6_valueOf_41 : decode cX6_valueOf 41 = .ok (.iload_n 3, 1) := by decide +kernel
theorem dX6_valueOf_42 : decode cX6_valueOf 42 = .ok (.iconst (-1), 1) := by decide +kernel
theorem dX6_valueOf_43 : decode cX6_valueOf 43 = .ok (.if_icmp .eq 19, 3) := by decide +kernel
theorem dX6_valueOf_46 : decode cX6_valueOf 46 = .ok (.iload_n 3, 1) := by decide +kernel
theorem dX6_valueOf_47 : decode cX6_valueOf 47 = .ok (.iload_n 1, 1) := by decide +kernel
theorem dX6_valueOf_48 : decode cX6_valueOf 48 = .ok (.if_icmp .eq 14, 3) := by decide +kernel
theorem dX6_valueOf_51 : decode cX6_valueOf 51 = .ok (.iload_n 2, 1) := by decide +kernel
theorem dX6_valueOf_52 : decode cX6_valueOf 52 = .ok (.aload_n 0, 1) := by decide +kernel
theorem dX6_valueOf_53 : decode cX6_valueOf 53 = .ok (.getfield 33, 3) := by decide +kernel
theorem dX6_valueOf_56 : decode cX6_valueOf 56 = .ok (.iload_n 3, 1) := by decide +kernel
theorem dX6_valueOf_57 : decode cX6_valueOf 57 = .ok (.invokevirtual 140, 3) := by decide +kernel
theorem dX6_valueOf_60 : decode cX6_valueOf 60 = .ok (.isub, 1) := by decide +kernel
theorem dX6_valueOf_61 : decode cX6_valueOf 61 = .ok (.istore_n 2, 1) := by decide +kernel
theorem dX6_valueOf_62 : decode cX6_valueOf 62 = .ok (.iload_n 2, 1) := by decide +kernel
theorem dX6_valueOf_63 : decode cX6_valueOf 63 = .ok (.iconst 0, 1) := by decide +kernel
theorem dX6_valueOf_64 : decode cX6_valueOf 64 = .ok (.invokestatic 212, 3) := by decide +kernel
theorem dX6_valueOf_67 : decode cX6_valueOf 67 = .ok (.ireturn, 1) := by decide +kernel
theorem dJ7_fill_53178_0 : decode cJ7_fill_53178 0 = .ok (.iconst 0, 1) := by decide +kernel
theorem dJ7_fill_53178_1 : decode cJ7_fill_53178 1 = .ok (.istore_n 2, 1) := by decide +kernel
theorem dJ7_fill_53178_2 : decode cJ7_fill_53178 2 = .ok (.aload_n 0, 1) := by decide +kernel
theorem dJ7_fill_53178_3 : decode cJ7_fill_53178 3 = .ok (.arraylength, 1) := by decide +kernel
theorem dJ7_fill_53178_4 : decode cJ7_fill_53178 4 = .ok (.istore_n 3, 1) := by decide +kernel
theorem dJ7_fill_53178_5 : decode cJ7_fill_53178 5 = .ok (.iload_n 2, 1) := by decide +kernel
theorem dJ7_fill_53178_6 : decode cJ7_fill_53178 6 = .ok (.iload_n 3, 1) := by decide +kernel
theorem dJ7_fill_53178_7 : decode cJ7_fill_53178 7 = .ok (.if_icmp .ge 13, 3) := by decide +kernel
theorem dJ7_fill_53178_10 : decode cJ7_fill_53178 10 = .ok (.aload_n 0, 1) := by decide +kernel
theorem dJ7_fill_53178_11 : decode cJ7_fill_53178 11 = .ok (.iload_n 2, 1) := by decide +kernel
theorem dJ7_fill_53178_12 : decode cJ7_fill_53178 12 = .ok (.iload_n 1, 1) := by decide +kernel
theorem dJ7_fill_53178_13 : decode cJ7_fill_53178 13 = .ok (.iastore, 1) := by decide +kernel
theorem dJ7_fill_53178_14 : decode cJ7_fill_53178 14 = .ok (.iinc 2 1, 3) := by decide +kernel
theorem dJ7_fill_53178_17 : decode cJ7_fill_53178 17 = .ok (.goto (-12), 3) := by decide +kernel
theorem dJ7_fill_53178_20 : decode cJ7_fill_53178 20 = .ok (.return_, 1) := by decide +kernel
