theorem dX7_isRoad_9 : decode cX7_isRoad 9 = .ok (.iload_n 1, 1) := by decide +kernel
theorem dX7_isRoad_10 : decode cX7_isRoad 10 = .ok (.iaload, 1) := by decide +kernel
theorem dX7_isRoad_11 : decode cX7_isRoad 11 = .ok (.iconst 1, 1) := by decide +kernel
theorem dX7_isRoad_12 : decode cX7_isRoad 12 = .ok (.if_icmp .ne 7, 3) := by decide +kernel
theorem dX7_isRoad_15 : decode cX7_isRoad 15 = .ok (.iconst 1, 1) := by decide +kernel
theorem dX7_isRoad_16 : decode cX7_isRoad 16 = .ok (.goto 4, 3) := by decide +kernel
theorem dX7_isRoad_19 : decode cX7_isRoad 19 = .ok (.iconst 0, 1) := by decide +kernel
theorem dX7_isRoad_20 : decode cX7_isRoad 20 = .ok (.ireturn, 1) := by decide +kernel
set_option maxRecDepth 20000 in
theorem ggX7_walks_X7_neighbour : GoodIn wsX7_walks wsX7_neighbour := goodIn_r _ [7] (by decide +kernel) (by decide +kernel)
set_option maxRecDepth 20000 in
theorem gX7_walks_X7_neighbour : GoodIn wsX7_walks (va_wsS RX7 67 yX7_neighbour wsX7_neighbour) := goodIn_app (goodIn_of _ (by decide +kernel)) ggX7_walks_X7_neighbour
set_option maxRecDepth 20000 in
theorem ggX7_walks_X7_isRoad : GoodIn wsX7_walks wsX7_isRoad := goodIn_r _ [11, 2, 12, 13, 14, 15, 16, 17, 18, 19, 20, 21, 22, 23, 24, 25, 26, 27, 28, 29, 30] (by decide +kernel) (by decide +kernel)
set_option maxRecDepth 20000 in
theorem gX7_walks_X7_isRoad : GoodIn wsX7_walks (wsV RX7 71 RX7 yX7_isRoad wsX7_isRoad) := goodIn_app (goodIn_of _ (by decide +kernel)) ggX7_walks_X7_isRoad
theorem dX7_walks_0 : decode cX7_walks 0 = .ok (.bipush 64, 2) := by decide +kernel
theorem dX7_walks_2 : decode cX7_walks 2 = .ok (.iload_n 1, 1) := by decide +kernel
theorem dX7_walks_3 : decode cX7_walks 3 = .ok (.imul, 1) := by decide +kernel
theorem dX7_walks_4 : decode cX7_walks 4 = .ok (.istore_n 2, 1) := by decide +kernel
theorem dX7_walks_5 : decode cX7_walks 5 = .ok (.iconst 0, 1) := by decide +kernel
theorem dX7_walks_6 : decode cX7_walks 6 = .ok (.istore_n 3, 1) := by decide +kernel
theorem dX7_walks_7 : decode cX7_walks 7 = .ok (.iload_n 3, 1) := by decide +kernel
theorem dX7_walks_8 : decode cX7_walks 8 = .ok (.bipush 64, 2) := by decide +kernel
theorem dX7_walks_10 : decode cX7_walks 10 = .ok (.if_icmp .ge 18, 3) := by decide +kernel
theorem dX7_walks_13 : decode cX7_walks 13 = .ok (.aload_n 0, 1) := by decide +kernel
theorem dX7_walks_14 : decode cX7_walks 14 = .ok (.getfield 32, 3) := by decide +kernel
theorem dX7_walks_17 : decode cX7_walks 17 = .ok (.iload_n 2, 1) := by decide +kernel
theorem dX7_walks_18 : decode cX7_walks 18 = .ok (.iload_n 3, 1) := by decide +kernel
theorem dX7_walks_19 : decode cX7_walks 19 = .ok (.iadd, 1) := by decide +kernel
theorem dX7_walks_20 : decode cX7_walks 20 = .ok (.iconst (-1), 1) := by decide +kernel
theorem dX7_walks_21 : decode cX7_walks 21 = .ok (.iastore, 1) := by decide +kernel
theorem dX7_walks_22 : decode cX7_walks 22 = .ok (.iinc 3 1, 3) := by decide +kernel
theorem dX7_walks_25 : decode cX7_walks 25 = .ok (.goto (-18), 3) := by decide +kernel
theorem dX7_walks_28 : decode cX7_walks 28 = .ok (.iconst 0, 1) := by decide +kernel
theorem dX7_walks_29 : decode cX7_walks 29 = .ok (.istore_n 3, 1) := by decide +kernel
theorem dX7_walks_30 : decode cX7_walks 30 = .ok (.iconst 0, 1) := by decide +kernel
theorem dX7_walks_31 : decode cX7_walks 31 = .ok (.istore 4, 2) := by decide +kernel
theorem dX7_walks_33 : decode cX7_walks 33 = .ok (.aload_n 0, 1) := by decide +kernel
theorem dX7_walks_34 : decode cX7_walks 34 = .ok (.getfield 19, 3) := by decide +kernel
theorem dX7_walks_37 : decode cX7_walks 37 = .ok (.iload_n 1, 1) := by decide +kernel
theorem dX7_walks_38 : decode cX7_walks 38 = .ok (.iaload, 1) := by decide +kernel
theorem dX7_walks_39 : decode cX7_walks 39 = .ok (.iconst 1, 1) := by decide +kernel
theorem dX7_walks_40 : decode cX7_walks 40 = .ok (.if_icmp .ne 22, 3) := by decide +kernel
theorem dX7_walks_43 : decode cX7_walks 43 = .ok (.aload_n 0, 1) := by decide +kernel
theorem dX7_walks_44 : decode cX7_walks 44 = .ok (.getfield 32, 3) := by decide +kernel
theorem dX7_walks_47 : decode cX7_walks 47 = .ok (.iload_n 2, 1) := by decide +kernel
theorem dX7_walks_48 : decode cX7_walks 48 = .ok (.iload_n 1, 1) := by decide +kernel
theorem dX7_walks_49 : decode cX7_walks 49 = .ok (.iadd, 1) := by decide +kernel
theorem dX7_walks_50 : decode cX7_walks 50 = .ok (.iconst 0, 1) := by decide +kernel
theorem dX7_walks_51 : decode cX7_walks 51 = .ok (.iastore, 1) := by decide +kernel
theorem dX7_walks_52 : decode cX7_walks 52 = .ok (.aload_n 0, 1) := by decide +kernel
theorem dX7_walks_53 : decode cX7_walks 53 = .ok (.getfield 35, 3) := by decide +kernel
theorem dX7_walks_56 : decode cX7_walks 56 = .ok (.iconst 0, 1) := by decide +kernel
theorem dX7_walks_57 : decode cX7_walks 57 = .ok (.iload_n 1, 1) := by decide +kernel
theorem dX7_walks_58 : decode cX7_walks 58 = .ok (.iastore, 1) := by decide +kernel
theorem dX7_walks_59 : decode cX7_walks 59 = .ok (.iconst 1, 1) := by decide +kernel
theorem dX7_walks_60 : decode cX7_walks 60 = .ok (.istore 4, 2) := by decide +kernel
theorem dX7_walks_62 : decode cX7_walks 62 = .ok (.iload_n 3, 1) := by decide +kernel
theorem dX7_walks_63 : decode cX7_walks 63 = .ok (.iload 4, 2) := by decide +kernel
theorem dX7_walks_65 : decode cX7_walks 65 = .ok (.if_icmp .ge 95, 3) := by decide +kernel
theorem dX7_walks_68 : decode cX7_walks 68 = .ok (.aload_n 0, 1) := by decide +kernel
theorem dX7_walks_69 : decode cX7_walks 69 = .ok (.getfield 35, 3) := by decide +kernel
theorem dX7_walks_72 : decode cX7_walks 72 = .ok (.iload_n 3, 1) := by decide +kernel
theorem dX7_walks_73 : decode cX7_walks 73 = .ok (.iaload, 1) := by decide +kernel
theorem dX7_walks_74 : decode cX7_walks 74 = .ok (.istore 5, 2) := by decide +kernel
theorem dX7_walks_76 : decode cX7_walks 76 = .ok (.iinc 3 1, 3) := by decide +kernel
theorem dX7_walks_79 : decode cX7_walks 79 = .ok (.iconst 0, 1) := by decide +kernel
theorem dX7_walks_80 : decode cX7_walks 80 = .ok (.istore 6, 2) := by decide +kernel
theorem dX7_walks_82 : decode cX7_walks 82 = .ok (.iload 6, 2) := by decide +kernel
theorem dX7_walks_84 : decode cX7_walks 84 = .ok (.iconst 4, 1) := by decide +kernel
theorem dX7_walks_85 : decode cX7_walks 85 = .ok (.if_icmp .ge 72, 3) := by decide +kernel
theorem dX7_walks_88 : decode cX7_walks 88 = .ok (.iload 5, 2) := by decide +kernel
theorem dX7_walks_90 : decode cX7_walks 90 = .ok (.iload 6, 2) := by decide +kernel
theorem dX7_walks_92 : decode cX7_walks 92 = .ok (.invokestatic 67, 3) := by decide +kernel
theorem dX7_walks_95 : decode cX7_walks 95 = .ok (.istore 7, 2) := by decide +kernel
theorem dX7_walks_97 : decode cX7_walks 97 = .ok (.aload_n 0, 1) := by decide +kernel
theorem dX7_walks_98 : decode cX7_walks 98 = .ok (.iload 7, 2) := by decide +kernel
theorem dX7_walks_100 : decode cX7_walks 100 = .ok (.invokevirtual 71, 3) := by decide +kernel
theorem dX7_walks_103 : decode cX7_walks 103 = .ok (.ifCond .eq 48, 3) := by decide +kernel
theorem dX7_walks_106 : decode cX7_walks 106 = .ok (.aload_n 0, 1) := by decide +kernel
theorem dX7_walks_107 : decode cX7_walks 107 = .ok (.getfield 32, 3) := by decide +kernel
theorem dX7_walks_110 : decode cX7_walks 110 = .ok (.iload_n 2, 1) := by decide +kernel
theorem dX7_walks_111 : decode cX7_walks 111 = .ok (.iload 7, 2) := by decide +kernel
theorem dX7_walks_113 : decode cX7_walks 113 = .ok (.iadd, 1) := by decide +kernel
theorem dX7_walks_114 : decode cX7_walks 114 = .ok (.iaload, 1) := by decide +kernel
theorem dX7_walks_115 : decode cX7_walks 115 = .ok (.iconst (-1), 1) := by decide +kernel
theorem dX7_walks_116 : decode cX7_walks 116 = .ok (.if_icmp .ne 35, 3) := by decide +kernel
theorem dX7_walks_119 : decode cX7_walks 119 = .ok (.aload_n 0, 1) := by decide +kernel
theorem dX7_walks_120 : decode cX7_walks 120 = .ok (.getfield 32, 3) := by decide +kernel
theorem dX7_walks_123 : decode cX7_walks 123 = .ok (.iload_n 2, 1) := by decide +kernel
theorem dX7_walks_124 : decode cX7_walks 124 = .ok (.iload 7, 2) := by decide +kernel
theorem dX7_walks_126 : decode cX7_walks 126 = .ok (.iadd, 1) := by decide +kernel
theorem dX7_walks_127 : decode cX7_walks 127 = .ok (.aload_n 0, 1) := by decide +kernel
theorem dX7_walks_128 : decode cX7_walks 128 = .ok (.getfield 32, 3) := by decide +kernel
theorem dX7_walks_131 : decode cX7_walks 131 = .ok (.iload_n 2, 1) := by decide +kernel
theorem dX7_walks_132 : decode cX7_walks 132 = .ok (.iload 5, 2) := by decide +kernel
theorem dX7_walks_134 : decode cX7_walks 134 = .ok (.iadd, 1) := by decide +kernel
theorem dX7_walks_135 : decode cX7_walks 135 = .ok (.iaload, 1) := by decide +kernel
theorem dX7_walks_136 : decode cX7_walks 136 = .ok (.iconst 1, 1) := by decide +kernel
theorem dX7_walks_137 : decode cX7_walks 137 = .ok (.iadd, 1) := by decide +kernel
theorem dX7_walks_138 : decode cX7_walks 138 = .ok (.iastore, 1) := by decide +kernel
theorem dX7_walks_139 : decode cX7_walks 139 = .ok (.aload_n 0, 1) := by decide +kernel
theorem dX7_walks_140 : decode cX7_walks 140 = .ok (.getfield 35, 3) := by decide +kernel
theorem dX7_walks_143 : decode cX7_walks 143 = .ok (.iload 4, 2) := by decide +kernel
theorem dX7_walks_145 : decode cX7_walks 145 = .ok (.iload 7, 2) := by decide +kernel
theorem dX7_walks_147 : decode cX7_walks 147 = .ok (.iastore, 1) := by decide +kernel
theorem dX7_walks_148 : decode cX7_walks 148 = .ok (.iinc 4 1, 3) := by decide +kernel
theorem dX7_walks_151 : decode cX7_walks 151 = .ok (.iinc 6 1, 3) := by decide +kernel
theorem dX7_walks_154 : decode cX7_walks 154 = .ok (.goto (-72), 3) := by decide +kernel
theorem dX7_walks_157 : decode cX7_walks 157 = .ok (.goto (-95), 3) := by decide +kernel
theorem dX7_walks_160 : decode cX7_walks 160 = .ok (.return_, 1) := by decide +kernel
set_option maxRecDepth 20000 in
theorem ggX7_findsNets_X7_walks : GoodIn wsX7_findsNets wsX7_walks := goodIn_r _ [9, 4, 2, 10, 11, 12, 8, 13, 14, 15, 16, 17, 18, 19, 20, 21, 22, 23, 24, 25, 26, 27, 28, 29, 30, 31, 32, 33, 34, 35, 36] (by decide +kernel) (by decide +kernel)
set_option maxRecDepth 20000 in
theorem gX7_findsNets_X7_walks : GoodIn wsX7_findsNets (wsV RX7 75 RX7 yX7_walks wsX7_walks) := goodIn_app (goodIn_of _ (by decide +kernel)) ggX7_findsNets_X7_walks
set_option maxRecDepth 20000 in
theorem ggX7_findsNets_X7_neighbour : GoodIn wsX7_findsNets wsX7_neighbour := goodIn_r _ [13] (by decide +kernel) (by decide +kernel)
set_option maxRecDepth 20000 in
theorem gX7_findsNets_X7_neighbour : GoodIn wsX7_findsNets (va_wsS RX7 67 yX7_neighbour wsX7_neighbour) := goodIn_app (goodIn_of _ (by decide +kernel)) ggX7_findsNets_X7_neighbour
set_option maxRecDepth 20000 in
theorem ggX7_findsNets_X7_isRoad : GoodIn wsX7_findsNets wsX7_isRoad := goodIn_r _ [17, 2, 18, 19, 20, 21, 22, 23, 24, 25, 26, 27, 28, 29, 30, 31, 32, 33, 34, 35, 36] (by decide +kernel) (by decide +kernel)
set_option maxRecDepth 20000 in
theorem gX7_findsNets_X7_isRoad : GoodIn wsX7_findsNets (wsV RX7 71 RX7 yX7_isRoad wsX7_isRoad) := goodIn_app (goodIn_of _ (by decide +kernel)) ggX7_findsNets_X7_isRoad
theorem dX7_findsNets_0 : decode cX7_findsNets 0 = .ok (.iconst 0, 1) := by decide +kernel
theorem dX7_findsNets_1 : decode cX7_findsNets 1 = .ok (.istore_n 1, 1) := by decide +kernel
theorem dX7_findsNets_2 : decode cX7_findsNets 2 = .ok (.iload_n 1, 1) := by decide +kernel
theorem dX7_findsNets_3 : decode cX7_findsNets 3 = .ok (.bipush 64, 2) := by decide +kernel
theorem dX7_findsNets_5 : decode cX7_findsNets 5 = .ok (.if_icmp .ge 89, 3) := by decide +kernel
theorem dX7_findsNets_8 : decode cX7_findsNets 8 = .ok (.aload_n 0, 1) := by decide +kernel
theorem dX7_findsNets_9 : decode cX7_findsNets 9 = .ok (.iload_n 1, 1) := by decide +kernel
theorem dX7_findsNets_10 : decode cX7_findsNets 10 = .ok (.invokevirtual 75, 3) := by decide +kernel
theorem dX7_findsNets_13 : decode cX7_findsNets 13 = .ok (.aload_n 0, 1) := by decide +kernel
theorem dX7_findsNets_14 : decode cX7_findsNets 14 = .ok (.getfield 26, 3) := by decide +kernel
theorem dX7_findsNets_17 : decode cX7_findsNets 17 = .ok (.iload_n 1, 1) := by decide +kernel
theorem dX7_findsNets_18 : decode cX7_findsNets 18 = .ok (.aload_n 0, 1) := by decide +kernel
theorem dX7_findsNets_19 : decode cX7_findsNets 19 = .ok (.getfield 19, 3) := by decide +kernel
theorem dX7_findsNets_22 : decode cX7_findsNets 22 = .ok (.iload_n 1, 1) := by decide +kernel
theorem dX7_findsNets_23 : decode cX7_findsNets 23 = .ok (.iaload, 1) := by decide +kernel
theorem dX7_findsNets_24 : decode cX7_findsNets 24 = .ok (.iconst 1, 1) := by decide +kernel
theorem dX7_findsNets_25 : decode cX7_findsNets 25 = .ok (.if_icmp .ne 7, 3) := by decide +kernel
theorem dX7_findsNets_28 : decode cX7_findsNets 28 = .ok (.iload_n 1, 1) := by decide +kernel
theorem dX7_findsNets_29 : decode cX7_findsNets 29 = .ok (.goto 4, 3) := by decide +kernel
theorem dX7_findsNets_32 : decode cX7_findsNets 32 = .ok (.iconst (-1), 1) := by decide +kernel
theorem dX7_findsNets_33 : decode cX7_findsNets 33 = .ok (.iastore, 1) := by decide +kernel
theorem dX7_findsNets_34 : decode cX7_findsNets 34 = .ok (.iconst 3, 1) := by decide +kernel
theorem dX7_findsNets_35 : decode cX7_findsNets 35 = .ok (.istore_n 2, 1) := by decide +kernel
theorem dX7_findsNets_36 : decode cX7_findsNets 36 = .ok (.iload_n 2, 1) := by decide +kernel
theorem dX7_findsNets_37 : decode cX7_findsNets 37 = .ok (.ifCond .lt 51, 3) := by decide +kernel
theorem dX7_findsNets_40 : decode cX7_findsNets 40 = .ok (.aload_n 0, 1) := by decide +kernel
theorem dX7_findsNets_41 : decode cX7_findsNets 41 = .ok (.getfield 19, 3) := by decide +kernel
theorem dX7_findsNets_44 : decode cX7_findsNets 44 = .ok (.iload_n 1, 1) := by decide +kernel
theorem dX7_findsNets_45 : decode cX7_findsNets 45 = .ok (.iaload, 1) := by decide +kernel
theorem dX7_findsNets_46 : decode cX7_findsNets 46 = .ok (.iconst 1, 1) := by decide +kernel
theorem dX7_findsNets_47 : decode cX7_findsNets 47 = .ok (.if_icmp .eq 41, 3) := by decide +kernel
theorem dX7_findsNets_50 : decode cX7_findsNets 50 = .ok (.aload_n 0, 1) := by decide +kernel
theorem dX7_findsNets_51 : decode cX7_findsNets 51 = .ok (.getfield 26, 3) := by decide +kernel
theorem dX7_findsNets_54 : decode cX7_findsNets 54 = .ok (.iload_n 1, 1) := by decide +kernel
theorem dX7_findsNets_55 : decode cX7_findsNets 55 = .ok (.aload_n 0, 1) := by decide +kernel
theorem dX7_findsNets_56 : decode cX7_findsNets 56 = .ok (.iload_n 1, 1) := by decide +kernel
theorem dX7_findsNets_57 : decode cX7_findsNets 57 = .ok (.iload_n 2, 1) := by decide +kernel
theorem dX7_findsNets_58 : decode cX7_findsNets 58 = .ok (.invokestatic 67, 3) := by decide +kernel
theorem dX7_findsNets_61 : decode cX7_findsNets 61 = .ok (.invokevirtual 71, 3) := by decide +kernel
theorem dX7_findsNets_64 : decode cX7_findsNets 64 = .ok (.ifCond .eq 11, 3) := by decide +kernel
theorem dX7_findsNets_67 : decode cX7_findsNets 67 = .ok (.iload_n 1, 1) := by decide +kernel
theorem dX7_findsNets_68 : decode cX7_findsNets 68 = .ok (.iload_n 2, 1) := by decide +kernel
theorem dX7_findsNets_69 : decode cX7_findsNets 69 = .ok (.invokestatic 67, 3) := by decide +kernel
theorem dX7_findsNets_72 : decode cX7_findsNets 72 = .ok (.goto 9, 3) := by decide +kernel
theorem dX7_findsNets_75 : decode cX7_findsNets 75 = .ok (.aload_n 0, 1) := by decide +kernel
theorem dX7_findsNets_76 : decode cX7_findsNets 76 = .ok (.getfield 26, 3) := by decide +kernel
theorem dX7_findsNets_79 : decode cX7_findsNets 79 = .ok (.iload_n 1, 1) := by decide +kernel
theorem dX7_findsNets_80 : decode cX7_findsNets 80 = .ok (.iaload, 1) := by decide +kernel
theorem dX7_findsNets_81 : decode cX7_findsNets 81 = .ok (.iastore, 1) := by decide +kernel
theorem dX7_findsNets_82 : decode cX7_findsNets 82 = .ok (.iinc 2 (-1), 3) := by decide +kernel
theorem dX7_findsNets_85 : decode cX7_findsNets 85 = .ok (.goto (-49), 3) := by decide +kernel
theorem dX7_findsNets_88 : decode cX7_findsNets 88 = .ok (.iinc 1 1, 3) := by decide +kernel
theorem dX7_findsNets_91 : decode cX7_findsNets 91 = .ok (.goto (-89), 3) := by decide +kernel
theorem dX7_findsNets_94 : decode cX7_findsNets 94 = .ok (.iconst 0, 1) := by decide +kernel
theorem dX7_findsNets_95 : decode cX7_findsNets 95 = .ok (.istore_n 1, 1) := by decide +kernel
theorem dX7_findsNets_96 : decode cX7_findsNets 96 = .ok (.iload_n 1, 1) := by decide +kernel
theorem dX7_findsNets_97 : decode cX7_findsNets 97 = .ok (.bipush 64, 2) := by decide +kernel
theorem dX7_findsNets_99 : decode cX7_findsNets 99 = .ok (.if_icmp .ge 75, 3) := by decide +kernel
theorem dX7_findsNets_102 : decode cX7_findsNets 102 = .ok (.aload_n 0, 1) := by decide +kernel
theorem dX7_findsNets_103 : decode cX7_findsNets 103 = .ok (.getfield 29, 3) := by decide +kernel
theorem dX7_findsNets_106 : decode cX7_findsNets 106 = .ok (.iload_n 1, 1) := by decide +kernel
theorem dX7_findsNets_107 : decode cX7_findsNets 107 = .ok (.iconst (-1), 1) := by decide +kernel
theorem dX7_findsNets_108 : decode cX7_findsNets 108 = .ok (.iastore, 1) := by decide +kernel
theorem dX7_findsNets_109 : decode cX7_findsNets 109 = .ok (.bipush 63, 2) := by decide +kernel
theorem dX7_findsNets_111 : decode cX7_findsNets 111 = .ok (.istore_n 2, 1) := by decide +kernel
theorem dX7_findsNets_112 : decode cX7_findsNets 112 = .ok (.iload_n 2, 1) := by decide +kernel
theorem dX7_findsNets_113 : decode cX7_findsNets 113 = .ok (.ifCond .lt 55, 3) := by decide +kernel
theorem dX7_findsNets_116 : decode cX7_findsNets 116 = .ok (.aload_n 0, 1) := by decide +kernel
theorem dX7_findsNets_117 : decode cX7_findsNets 117 = .ok (.getfield 26, 3) := by decide +kernel
theorem dX7_findsNets_120 : decode cX7_findsNets 120 = .ok (.iload_n 1, 1) := by decide +kernel
theorem dX7_findsNets_121 : decode cX7_findsNets 121 = .ok (.iaload, 1) := by decide +kernel
theorem dX7_findsNets_122 : decode cX7_findsNets 122 = .ok (.iconst (-1), 1) := by decide +kernel
theorem dX7_findsNets_123 : decode cX7_findsNets 123 = .ok (.if_icmp .eq 45, 3) := by decide +kernel
theorem dX7_findsNets_126 : decode cX7_findsNets 126 = .ok (.aload_n 0, 1) := by decide +kernel
theorem dX7_findsNets_127 : decode cX7_findsNets 127 = .ok (.getfield 29, 3) := by decide +kernel
theorem dX7_findsNets_130 : decode cX7_findsNets 130 = .ok (.iload_n 1, 1) := by decide +kernel
theorem dX7_findsNets_131 : decode cX7_findsNets 131 = .ok (.aload_n 0, 1) := by decide +kernel
theorem dX7_findsNets_132 : decode cX7_findsNets 132 = .ok (.getfield 32, 3) := by decide +kernel
theorem dX7_findsNets_135 : decode cX7_findsNets 135 = .ok (.bipush 64, 2) := by decide +kernel
theorem dX7_findsNets_137 : decode cX7_findsNets 137 = .ok (.aload_n 0, 1) := by decide +kernel
theorem dX7_findsNets_138 : decode cX7_findsNets 138 = .ok (.getfield 26, 3) := by decide +kernel
theorem dX7_findsNets_141 : decode cX7_findsNets 141 = .ok (.iload_n 1, 1) := by decide +kernel
theorem dX7_findsNets_142 : decode cX7_findsNets 142 = .ok (.iaload, 1) := by decide +kernel
theorem dX7_findsNets_143 : decode cX7_findsNets 143 = .ok (.imul, 1) := by decide +kernel
theorem dX7_findsNets_144 : decode cX7_findsNets 144 = .ok (.iload_n 2, 1) := by decide +kernel
theorem dX7_findsNets_145 : decode cX7_findsNets 145 = .ok (.iadd, 1) := by decide +kernel
theorem dX7_findsNets_146 : decode cX7_findsNets 146 = .ok (.iaload, 1) := by decide +kernel
theorem dX7_findsNets_147 : decode cX7_findsNets 147 = .ok (.iconst (-1), 1) := by decide +kernel
theorem dX7_findsNets_148 : decode cX7_findsNets 148 = .ok (.if_icmp .ne 12, 3) := by decide +kernel
theorem dX7_findsNets_151 : decode cX7_findsNets 151 = .ok (.aload_n 0, 1) := by decide +kernel
theorem dX7_findsNets_152 : decode cX7_findsNets 152 = .ok (.getfield 29, 3) := by decide +kernel
theorem dX7_findsNets_155 : decode cX7_findsNets 155 = .ok (.iload_n 1, 1) := by decide +kernel
theorem dX7_findsNets_156 : decode cX7_findsNets 156 = .ok (.iaload, 1) := by decide +kernel
theorem dX7_findsNets_157 : decode cX7_findsNets 157 = .ok (.goto 4, 3) := by decide +kernel
theorem dX7_findsNets_160 : decode cX7_findsNets 160 = .ok (.iload_n 2, 1) := by decide +kernel
theorem dX7_findsNets_161 : decode cX7_findsNets 161 = .ok (.iastore, 1) := by decide +kernel
theorem dX7_findsNets_162 : decode cX7_findsNets 162 = .ok (.iinc 2 (-1), 3) := by decide +kernel
theorem dX7_findsNets_165 : decode cX7_findsNets 165 = .ok (.goto (-53), 3) := by decide +kernel
theorem dX7_findsNets_168 : decode cX7_findsNets 168 = .ok (.iinc 1 1, 3) := by decide +kernel
theorem dX7_findsNets_171 : decode cX7_findsNets 171 = .ok (.goto (-75), 3) := by decide +kernel
theorem dX7_findsNets_174 : decode cX7_findsNets 174 = .ok (.return_, 1) := by decide +kernel
set_option maxRecDepth 20000 in
theorem ggX7_supplies_X7_isZone : GoodIn wsX7_supplies wsX7_isZone := goodIn_r _ [11, 4, 12, 13, 14, 15, 16, 17, 18, 19, 20, 21, 22, 23, 24, 25, 26, 27, 28, 29, 30] (by decide +kernel) (by decide +kernel)
set_option maxRecDepth 20000 in
theorem gX7_supplies_X7_isZone : GoodIn wsX7_supplies (wsV RX7 79 RX7 yX7_isZone wsX7_isZone) := goodIn_app (goodIn_of _ (by decide +kernel)) ggX7_supplies_X7_isZone
theorem dX7_supplies_0 : decode cX7_supplies 0 = .ok (.iconst 0, 1) := by decide +kernel
theorem dX7_supplies_1 : decode cX7_supplies 1 = .ok (.istore_n 1, 1) := by decide +kernel
theorem dX7_supplies_2 : decode cX7_supplies 2 = .ok (.iload_n 1, 1) := by decide +kernel
theorem dX7_supplies_3 : decode cX7_supplies 3 = .ok (.bipush 64, 2) := by decide +kernel
theorem dX7_supplies_5 : decode cX7_supplies 5 = .ok (.if_icmp .ge 23, 3) := by decide +kernel
theorem dX7_supplies_8 : decode cX7_supplies 8 = .ok (.aload_n 0, 1) := by decide +kernel
theorem dX7_supplies_9 : decode cX7_supplies 9 = .ok (.getfield 38, 3) := by decide +kernel
theorem dX7_supplies_12 : decode cX7_supplies 12 = .ok (.iload_n 1, 1) := by decide +kernel
theorem dX7_supplies_13 : decode cX7_supplies 13 = .ok (.iconst 0, 1) := by decide +kernel
theorem dX7_supplies_14 : decode cX7_supplies 14 = .ok (.iastore, 1) := by decide +kernel
theorem dX7_supplies_15 : decode cX7_supplies 15 = .ok (.aload_n 0, 1) := by decide +kernel
theorem dX7_supplies_16 : decode cX7_supplies 16 = .ok (.getfield 41, 3) := by decide +kernel
theorem dX7_supplies_19 : decode cX7_supplies 19 = .ok (.iload_n 1, 1) := by decide +kernel
theorem dX7_supplies_20 : decode cX7_supplies 20 = .ok (.iconst 0, 1) := by decide +kernel
theorem dX7_supplies_21 : decode cX7_supplies 21 = .ok (.iastore, 1) := by decide +kernel
theorem dX7_supplies_22 : decode cX7_supplies 22 = .ok (.iinc 1 1, 3) := by decide +kernel
theorem dX7_supplies_25 : decode cX7_supplies 25 = .ok (.goto (-23), 3) := by decide +kernel
theorem dX7_supplies_28 : decode cX7_supplies 28 = .ok (.iconst 0, 1) := by decide +kernel
theorem dX7_supplies_29 : decode cX7_supplies 29 = .ok (.istore_n 1, 1) := by decide +kernel
theorem dX7_supplies_30 : decode cX7_supplies 30 = .ok (.iload_n 1, 1) := by decide +kernel
theorem dX7_supplies_31 : decode cX7_supplies 31 = .ok (.bipush 64, 2) := by decide +kernel
theorem dX7_supplies_33 : decode cX7_supplies 33 = .ok (.if_icmp .ge 80, 3) := by decide +kernel
theorem dX7_supplies_36 : decode cX7_supplies 36 = .ok (.aload_n 0, 1) := by decide +kernel
theorem dX7_supplies_37 : decode cX7_supplies 37 = .ok (.getfield 29, 3) := by decide +kernel
theorem dX7_supplies_40 : decode cX7_supplies 40 = .ok (.iload_n 1, 1) := by decide +kernel
theorem dX7_supplies_41 : decode cX7_supplies 41 = .ok (.iaload, 1) := by decide +kernel
theorem dX7_supplies_42 : decode cX7_supplies 42 = .ok (.iconst (-1), 1) := by decide +kernel
theorem dX7_supplies_43 : decode cX7_supplies 43 = .ok (.if_icmp .eq 64, 3) := by decide +kernel
theorem dX7_supplies_46 : decode cX7_supplies 46 = .ok (.aload_n 0, 1) := by decide +kernel
theorem dX7_supplies_47 : decode cX7_supplies 47 = .ok (.getfield 38, 3) := by decide +kernel
theorem dX7_supplies_50 : decode cX7_supplies 50 = .ok (.aload_n 0, 1) := by decide +kernel
theorem dX7_supplies_51 : decode cX7_supplies 51 = .ok (.getfield 29, 3) := by decide +kernel
theorem dX7_supplies_54 : decode cX7_supplies 54 = .ok (.iload_n 1, 1) := by decide +kernel
theorem dX7_supplies_55 : decode cX7_supplies 55 = .ok (.iaload, 1) := by decide +kernel
theorem dX7_supplies_56 : decode cX7_supplies 56 = .ok (.dup2, 1) := by decide +kernel
theorem dX7_supplies_57 : decode cX7_supplies 57 = .ok (.iaload, 1) := by decide +kernel
theorem dX7_supplies_58 : decode cX7_supplies 58 = .ok (.aload_n 0, 1) := by decide +kernel
theorem dX7_supplies_59 : decode cX7_supplies 59 = .ok (.getfield 19, 3) := by decide +kernel
theorem dX7_supplies_62 : decode cX7_supplies 62 = .ok (.iload_n 1, 1) := by decide +kernel
theorem dX7_supplies_63 : decode cX7_supplies 63 = .ok (.iaload, 1) := by decide +kernel
theorem dX7_supplies_64 : decode cX7_supplies 64 = .ok (.iconst 5, 1) := by decide +kernel
theorem dX7_supplies_65 : decode cX7_supplies 65 = .ok (.if_icmp .ne 8, 3) := by decide +kernel
theorem dX7_supplies_68 : decode cX7_supplies 68 = .ok (.bipush 20, 2) := by decide +kernel
theorem dX7_supplies_70 : decode cX7_supplies 70 = .ok (.goto 4, 3) := by decide +kernel
theorem dX7_supplies_73 : decode cX7_supplies 73 = .ok (.iconst 0, 1) := by decide +kernel
theorem dX7_supplies_74 : decode cX7_supplies 74 = .ok (.iadd, 1) := by decide +kernel
theorem dX7_supplies_75 : decode cX7_supplies 75 = .ok (.iastore, 1) := by decide +kernel
theorem dX7_supplies_76 : decode cX7_supplies 76 = .ok (.aload_n 0, 1) := by decide +kernel
theorem dX7_supplies_77 : decode cX7_supplies 77 = .ok (.getfield 41, 3) := by decide +kernel
theorem dX7_supplies_80 : decode cX7_supplies 80 = .ok (.aload_n 0, 1) := by decide +kernel
theorem dX7_supplies_81 : decode cX7_supplies 81 = .ok (.getfield 29, 3) := by decide +kernel
theorem dX7_supplies_84 : decode cX7_supplies 84 = .ok (.iload_n 1, 1) := by decide +kernel
theorem dX7_supplies_85 : decode cX7_supplies 85 = .ok (.iaload, 1) := by decide +kernel
theorem dX7_supplies_86 : decode cX7_supplies 86 = .ok (.dup2, 1) := by decide +kernel
theorem dX7_supplies_87 : decode cX7_supplies 87 = .ok (.iaload, 1) := by decide +kernel
theorem dX7_supplies_88 : decode cX7_supplies 88 = .ok (.aload_n 0, 1) := by decide +kernel
theorem dX7_supplies_89 : decode cX7_supplies 89 = .ok (.getfield 19, 3) := by decide +kernel
theorem dX7_supplies_92 : decode cX7_supplies 92 = .ok (.iload_n 1, 1) := by decide +kernel
theorem dX7_supplies_93 : decode cX7_supplies 93 = .ok (.iaload, 1) := by decide +kernel
theorem dX7_supplies_94 : decode cX7_supplies 94 = .ok (.bipush 6, 2) := by decide +kernel
theorem dX7_supplies_96 : decode cX7_supplies 96 = .ok (.if_icmp .ne 8, 3) := by decide +kernel
theorem dX7_supplies_99 : decode cX7_supplies 99 = .ok (.bipush 20, 2) := by decide +kernel
theorem dX7_supplies_101 : decode cX7_supplies 101 = .ok (.goto 4, 3) := by decide +kernel
theorem dX7_supplies_104 : decode cX7_supplies 104 = .ok (.iconst 0, 1) := by decide +kernel
theorem dX7_supplies_105 : decode cX7_supplies 105 = .ok (.iadd, 1) := by decide +kernel
theorem dX7_supplies_106 : decode cX7_supplies 106 = .ok (.iastore, 1) := by decide +kernel
theorem dX7_supplies_107 : decode cX7_supplies 107 = .ok (.iinc 1 1, 3) := by decide +kernel
theorem dX7_supplies_110 : decode cX7_supplies 110 = .ok (.goto (-80), 3) := by decide +kernel
theorem dX7_supplies_113 : decode cX7_supplies 113 = .ok (.iconst 0, 1) := by decide +kernel
theorem dX7_supplies_114 : decode cX7_supplies 114 = .ok (.istore_n 1, 1) := by decide +kernel
theorem dX7_supplies_115 : decode cX7_supplies 115 = .ok (.iload_n 1, 1) := by decide +kernel
theorem dX7_supplies_116 : decode cX7_supplies 116 = .ok (.bipush 64, 2) := by decide +kernel
theorem dX7_supplies_118 : decode cX7_supplies 118 = .ok (.if_icmp .ge 127, 3) := by decide +kernel
theorem dX7_supplies_121 : decode cX7_supplies 121 = .ok (.aload_n 0, 1) := by decide +kernel
theorem dX7_supplies_122 : decode cX7_supplies 122 = .ok (.getfield 23, 3) := by decide +kernel
theorem dX7_supplies_125 : decode cX7_supplies 125 = .ok (.iload_n 1, 1) := by decide +kernel
theorem dX7_supplies_126 : decode cX7_supplies 126 = .ok (.iaload, 1) := by decide +kernel
theorem dX7_supplies_127 : decode cX7_supplies 127 = .ok (.ifCond .ne 7, 3) := by decide +kernel
theorem dX7_supplies_130 : decode cX7_supplies 130 = .ok (.iconst 1, 1) := by decide +kernel
theorem dX7_supplies_131 : decode cX7_supplies 131 = .ok (.goto 9, 3) := by decide +kernel
theorem dX7_supplies_134 : decode cX7_supplies 134 = .ok (.aload_n 0, 1) := by decide +kernel
theorem dX7_supplies_135 : decode cX7_supplies 135 = .ok (.getfield 23, 3) := by decide +kernel
theorem dX7_supplies_138 : decode cX7_supplies 138 = .ok (.iload_n 1, 1) := by decide +kernel
theorem dX7_supplies_139 : decode cX7_supplies 139 = .ok (.iaload, 1) := by decide +kernel
theorem dX7_supplies_140 : decode cX7_supplies 140 = .ok (.istore_n 2, 1) := by decide +kernel
theorem dX7_supplies_141 : decode cX7_supplies 141 = .ok (.aload_n 0, 1) := by decide +kernel
theorem dX7_supplies_142 : decode cX7_supplies 142 = .ok (.getfield 44, 3) := by decide +kernel
theorem dX7_supplies_145 : decode cX7_supplies 145 = .ok (.iload_n 1, 1) := by decide +kernel
theorem dX7_supplies_146 : decode cX7_supplies 146 = .ok (.aload_n 0, 1) := by decide +kernel
theorem dX7_supplies_147 : decode cX7_supplies 147 = .ok (.iload_n 1, 1) := by decide +kernel
theorem dX7_supplies_148 : decode cX7_supplies 148 = .ok (.invokevirtual 79, 3) := by decide +kernel
theorem dX7_supplies_151 : decode cX7_supplies 151 = .ok (.ifCond .eq 47, 3) := by decide +kernel
theorem dX7_supplies_154 : decode cX7_supplies 154 = .ok (.aload_n 0, 1) := by decide +kernel
theorem dX7_supplies_155 : decode cX7_supplies 155 = .ok (.getfield 29, 3) := by decide +kernel
theorem dX7_supplies_158 : decode cX7_supplies 158 = .ok (.iload_n 1, 1) := by decide +kernel
theorem dX7_supplies_159 : decode cX7_supplies 159 = .ok (.iaload, 1) := by decide +kernel
theorem dX7_supplies_160 : decode cX7_supplies 160 = .ok (.iconst (-1), 1) := by decide +kernel
theorem dX7_supplies_161 : decode cX7_supplies 161 = .ok (.if_icmp .eq 37, 3) := by decide +kernel
theorem dX7_supplies_164 : decode cX7_supplies 164 = .ok (.aload_n 0, 1) := by decide +kernel
theorem dX7_supplies_165 : decode cX7_supplies 165 = .ok (.getfield 38, 3) := by decide +kernel
theorem dX7_supplies_168 : decode cX7_supplies 168 = .ok (.aload_n 0, 1) := by decide +kernel
theorem dX7_supplies_169 : decode cX7_supplies 169 = .ok (.getfield 29, 3) := by decide +kernel
theorem dX7_supplies_172 : decode cX7_supplies 172 = .ok (.iload_n 1, 1) := by decide +kernel
theorem dX7_supplies_173 : decode cX7_supplies 173 = .ok (.iaload, 1) := by decide +kernel
theorem dX7_supplies_174 : decode cX7_supplies 174 = .ok (.iaload, 1) := by decide +kernel
theorem dX7_supplies_175 : decode cX7_supplies 175 = .ok (.iload_n 2, 1) := by decide +kernel
theorem dX7_supplies_176 : decode cX7_supplies 176 = .ok (.if_icmp .lt 22, 3) := by decide +kernel
theorem dX7_supplies_179 : decode cX7_supplies 179 = .ok (.aload_n 0, 1) := by decide +kernel
theorem dX7_supplies_180 : decode cX7_supplies 180 = .ok (.getfield 41, 3) := by decide +kernel
theorem dX7_supplies_183 : decode cX7_supplies 183 = .ok (.aload_n 0, 1) := by decide +kernel
theorem dX7_supplies_184 : decode cX7_supplies 184 = .ok (.getfield 29, 3) := by decide +kernel
theorem dX7_supplies_187 : decode cX7_supplies 187 = .ok (.iload_n 1, 1) := by decide +kernel
theorem dX7_supplies_188 : decode cX7_supplies 188 = .ok (.iaload, 1) := by decide +kernel
theorem dX7_supplies_189 : decode cX7_supplies 189 = .ok (.iaload, 1) := by decide +kernel
theorem dX7_supplies_190 : decode cX7_supplies 190 = .ok (.iload_n 2, 1) := by decide +kernel
theorem dX7_supplies_191 : decode cX7_supplies 191 = .ok (.if_icmp .lt 7, 3) := by decide +kernel
theorem dX7_supplies_194 : decode cX7_supplies 194 = .ok (.iconst 1, 1) := by decide +kernel
theorem dX7_supplies_195 : decode cX7_supplies 195 = .ok (.goto 4, 3) := by decide +kernel
theorem dX7_supplies_198 : decode cX7_supplies 198 = .ok (.iconst 0, 1) := by decide +kernel
theorem dX7_supplies_199 : decode cX7_supplies 199 = .ok (.bastore, 1) := by decide +kernel
theorem dX7_supplies_200 : decode cX7_supplies 200 = .ok (.aload_n 0, 1) := by decide +kernel
theorem dX7_supplies_201 : decode cX7_supplies 201 = .ok (.getfield 44, 3) := by decide +kernel
theorem dX7_supplies_204 : decode cX7_supplies 204 = .ok (.iload_n 1, 1) := by decide +kernel
theorem dX7_supplies_205 : decode cX7_supplies 205 = .ok (.baload, 1) := by decide +kernel
theorem dX7_supplies_206 : decode cX7_supplies 206 = .ok (.ifCond .eq 33, 3) := by decide +kernel
theorem dX7_supplies_209 : decode cX7_supplies 209 = .ok (.aload_n 0, 1) := by decide +kernel
theorem dX7_supplies_210 : decode cX7_supplies 210 = .ok (.getfield 38, 3) := by decide +kernel
theorem dX7_supplies_213 : decode cX7_supplies 213 = .ok (.aload_n 0, 1) := by decide +kernel
theorem dX7_supplies_214 : decode cX7_supplies 214 = .ok (.getfield 29, 3) := by decide +kernel
theorem dX7_supplies_217 : decode cX7_supplies 217 = .ok (.iload_n 1, 1) := by decide +kernel
theorem dX7_supplies_218 : decode cX7_supplies 218 = .ok (.iaload, 1) := by decide +kernel
theorem dX7_supplies_219 : decode cX7_supplies 219 = .ok (.dup2, 1) := by decide +kernel
theorem dX7_supplies_220 : decode cX7_supplies 220 = .ok (.iaload, 1) := by decide +kernel
theorem dX7_supplies_221 : decode cX7_supplies 221 = .ok (.iload_n 2, 1) := by decide +kernel
theorem dX7_supplies_222 : decode cX7_supplies 222 = .ok (.isub, 1) := by decide +kernel
theorem dX7_supplies_223 : decode cX7_supplies 223 = .ok (.iastore, 1) := by decide +kernel
theorem dX7_supplies_224 : decode cX7_supplies 224 = .ok (.aload_n 0, 1) := by decide +kernel
theorem dX7_supplies_225 : decode cX7_supplies 225 = .ok (.getfield 41, 3) := by decide +kernel
theorem dX7_supplies_228 : decode cX7_supplies 228 = .ok (.aload_n 0, 1) := by decide +kernel
theorem dX7_supplies_229 : decode cX7_supplies 229 = .ok (.getfield 29, 3) := by decide +kernel
theorem dX7_supplies_232 : decode cX7_supplies 232 = .ok (.iload_n 1, 1) := by decide +kernel
theorem dX7_supplies_233 : decode cX7_supplies 233 = .ok (.iaload, 1) := by decide +kernel
theorem dX7_supplies_234 : decode cX7_supplies 234 = .ok (.dup2, 1) := by decide +kernel
theorem dX7_supplies_235 : decode cX7_supplies 235 = .ok (.iaload, 1) := by decide +kernel
theorem dX7_supplies_236 : decode cX7_supplies 236 = .ok (.iload_n 2, 1) := by decide +kernel
theorem dX7_supplies_237 : decode cX7_supplies 237 = .ok (.isub, 1) := by decide +kernel
theorem dX7_supplies_238 : decode cX7_supplies 238 = .ok (.iastore, 1) := by decide +kernel
theorem dX7_supplies_239 : decode cX7_supplies 239 = .ok (.iinc 1 1, 3) := by decide +kernel
theorem dX7_supplies_242 : decode cX7_supplies 242 = .ok (.goto (-127), 3) := by decide +kernel
theorem dX7_supplies_245 : decode cX7_supplies 245 = .ok (.return_, 1) := by decide +kernel
set_option maxRecDepth 20000 in
theorem ggX7_goes_X7_neighbour : GoodIn wsX7_goes wsX7_neighbour := goodIn_r _ [9] (by decide +kernel) (by decide +kernel)
set_option maxRecDepth 20000 in
theorem gX7_goes_X7_neighbour : GoodIn wsX7_goes (va_wsS RX7 67 yX7_neighbour wsX7_neighbour) := goodIn_app (goodIn_of _ (by decide +kernel)) ggX7_goes_X7_neighbour
set_option maxRecDepth 20000 in
theorem ggX7_goes_X7_isRoad : GoodIn wsX7_goes wsX7_isRoad := goodIn_r _ [13, 14, 15, 16, 17, 18, 19, 20, 21, 22, 23, 24, 25, 26, 27, 28, 29, 30, 31, 32, 33] (by decide +kernel) (by decide +kernel)
set_option maxRecDepth 20000 in
theorem gX7_goes_X7_isRoad : GoodIn wsX7_goes (wsV RX7 71 RX7 yX7_isRoad wsX7_isRoad) := goodIn_app (goodIn_of _ (by decide +kernel)) ggX7_goes_X7_isRoad
theorem dX7_goes_0 : decode cX7_goes 0 = .ok (.aload_n 0, 1) := by decide +kernel
theorem dX7_goes_1 : decode cX7_goes 1 = .ok (.getfield 51, 3) := by decide +kernel
theorem dX7_goes_4 : decode cX7_goes 4 = .ok (.bipush 64, 2) := by decide +kernel
theorem dX7_goes_6 : decode cX7_goes 6 = .ok (.iload_n 1, 1) := by decide +kernel
theorem dX7_goes_7 : decode cX7_goes 7 = .ok (.imul, 1) := by decide +kernel
theorem dX7_goes_8 : decode cX7_goes 8 = .ok (.iload_n 2, 1) := by decide +kernel
theorem dX7_goes_9 : decode cX7_goes 9 = .ok (.iadd, 1) := by decide +kernel
theorem dX7_goes_10 : decode cX7_goes 10 = .ok (.iload_n 3, 1) := by decide +kernel
theorem dX7_goes_11 : decode cX7_goes 11 = .ok (.iastore, 1) := by decide +kernel
theorem dX7_goes_12 : decode cX7_goes 12 = .ok (.aload_n 0, 1) := by decide +kernel
theorem dX7_goes_13 : decode cX7_goes 13 = .ok (.getfield 48, 3) := by decide +kernel
theorem dX7_goes_16 : decode cX7_goes 16 = .ok (.iload_n 1, 1) := by decide +kernel
theorem dX7_goes_17 : decode cX7_goes 17 = .ok (.dup2, 1) := by decide +kernel
theorem dX7_goes_18 : decode cX7_goes 18 = .ok (.iaload, 1) := by decide +kernel
theorem dX7_goes_19 : decode cX7_goes 19 = .ok (.iload_n 3, 1) := by decide +kernel
theorem dX7_goes_20 : decode cX7_goes 20 = .ok (.iadd, 1) := by decide +kernel
theorem dX7_goes_21 : decode cX7_goes 21 = .ok (.iastore, 1) := by decide +kernel
theorem dX7_goes_22 : decode cX7_goes 22 = .ok (.aload_n 0, 1) := by decide +kernel
theorem dX7_goes_23 : decode cX7_goes 23 = .ok (.getfield 48, 3) := by decide +kernel
theorem dX7_goes_26 : decode cX7_goes 26 = .ok (.iload_n 2, 1) := by decide +kernel
theorem dX7_goes_27 : decode cX7_goes 27 = .ok (.dup2, 1) := by decide +kernel
theorem dX7_goes_28 : decode cX7_goes 28 = .ok (.iaload, 1) := by decide +kernel
theorem dX7_goes_29 : decode cX7_goes 29 = .ok (.iload_n 3, 1) := by decide +kernel
theorem dX7_goes_30 : decode cX7_goes 30 = .ok (.iadd, 1) := by decide +kernel
theorem dX7_goes_31 : decode cX7_goes 31 = .ok (.iastore, 1) := by decide +kernel
theorem dX7_goes_32 : decode cX7_goes 32 = .ok (.aload_n 0, 1) := by decide +kernel
theorem dX7_goes_33 : decode cX7_goes 33 = .ok (.getfield 26, 3) := by decide +kernel
theorem dX7_goes_36 : decode cX7_goes 36 = .ok (.iload_n 2, 1) := by decide +kernel
theorem dX7_goes_37 : decode cX7_goes 37 = .ok (.iaload, 1) := by decide +kernel
theorem dX7_goes_38 : decode cX7_goes 38 = .ok (.istore 4, 2) := by decide +kernel
theorem dX7_goes_40 : decode cX7_goes 40 = .ok (.aload_n 0, 1) := by decide +kernel
theorem dX7_goes_41 : decode cX7_goes 41 = .ok (.getfield 26, 3) := by decide +kernel
theorem dX7_goes_44 : decode cX7_goes 44 = .ok (.iload_n 1, 1) := by decide +kernel
theorem dX7_goes_45 : decode cX7_goes 45 = .ok (.iaload, 1) := by decide +kernel
theorem dX7_goes_46 : decode cX7_goes 46 = .ok (.istore 5, 2) := by decide +kernel
theorem dX7_goes_48 : decode cX7_goes 48 = .ok (.aload_n 0, 1) := by decide +kernel
theorem dX7_goes_49 : decode cX7_goes 49 = .ok (.getfield 54, 3) := by decide +kernel
theorem dX7_goes_52 : decode cX7_goes 52 = .ok (.iload 5, 2) := by decide +kernel
theorem dX7_goes_54 : decode cX7_goes 54 = .ok (.dup2, 1) := by decide +kernel
theorem dX7_goes_55 : decode cX7_goes 55 = .ok (.iaload, 1) := by decide +kernel
theorem dX7_goes_56 : decode cX7_goes 56 = .ok (.iload_n 3, 1) := by decide +kernel
theorem dX7_goes_57 : decode cX7_goes 57 = .ok (.iadd, 1) := by decide +kernel
theorem dX7_goes_58 : decode cX7_goes 58 = .ok (.iastore, 1) := by decide +kernel
theorem dX7_goes_59 : decode cX7_goes 59 = .ok (.iload 5, 2) := by decide +kernel
theorem dX7_goes_61 : decode cX7_goes 61 = .ok (.iload 4, 2) := by decide +kernel
theorem dX7_goes_63 : decode cX7_goes 63 = .ok (.if_icmp .eq 94, 3) := by decide +kernel
theorem dX7_goes_66 : decode cX7_goes 66 = .ok (.iconst (-1), 1) := by decide +kernel
theorem dX7_goes_67 : decode cX7_goes 67 = .ok (.istore 6, 2) := by decide +kernel
theorem dX7_goes_69 : decode cX7_goes 69 = .ok (.iconst 3, 1) := by decide +kernel
theorem dX7_goes_70 : decode cX7_goes 70 = .ok (.istore 7, 2) := by decide +kernel
theorem dX7_goes_72 : decode cX7_goes 72 = .ok (.iload 7, 2) := by decide +kernel
theorem dX7_goes_74 : decode cX7_goes 74 = .ok (.ifCond .lt 65, 3) := by decide +kernel
theorem dX7_goes_77 : decode cX7_goes 77 = .ok (.iload 5, 2) := by decide +kernel
theorem dX7_goes_79 : decode cX7_goes 79 = .ok (.iload 7, 2) := by decide +kernel
theorem dX7_goes_81 : decode cX7_goes 81 = .ok (.invokestatic 67, 3) := by decide +kernel
theorem dX7_goes_84 : decode cX7_goes 84 = .ok (.istore 8, 2) := by decide +kernel
theorem dX7_goes_86 : decode cX7_goes 86 = .ok (.aload_n 0, 1) := by decide +kernel
theorem dX7_goes_87 : decode cX7_goes 87 = .ok (.iload 8, 2) := by decide +kernel
theorem dX7_goes_89 : decode cX7_goes 89 = .ok (.invokevirtual 71, 3) := by decide +kernel
theorem dX7_goes_92 : decode cX7_goes 92 = .ok (.ifCond .eq 37, 3) := by decide +kernel
theorem dX7_goes_95 : decode cX7_goes 95 = .ok (.aload_n 0, 1) := by decide +kernel
theorem dX7_goes_96 : decode cX7_goes 96 = .ok (.getfield 32, 3) := by decide +kernel
theorem dX7_goes_99 : decode cX7_goes 99 = .ok (.bipush 64, 2) := by decide +kernel
theorem dX7_goes_101 : decode cX7_goes 101 = .ok (.iload 4, 2) := by decide +kernel
theorem dX7_goes_103 : decode cX7_goes 103 = .ok (.imul, 1) := by decide +kernel
theorem dX7_goes_104 : decode cX7_goes 104 = .ok (.iload 8, 2) := by decide +kernel
theorem dX7_goes_106 : decode cX7_goes 106 = .ok (.iadd, 1) := by decide +kernel
theorem dX7_goes_107 : decode cX7_goes 107 = .ok (.iaload, 1) := by decide +kernel
theorem dX7_goes_108 : decode cX7_goes 108 = .ok (.aload_n 0, 1) := by decide +kernel
theorem dX7_goes_109 : decode cX7_goes 109 = .ok (.getfield 32, 3) := by decide +kernel
theorem dX7_goes_112 : decode cX7_goes 112 = .ok (.bipush 64, 2) := by decide +kernel
theorem dX7_goes_114 : decode cX7_goes 114 = .ok (.iload 4, 2) := by decide +kernel
theorem dX7_goes_116 : decode cX7_goes 116 = .ok (.imul, 1) := by decide +kernel
theorem dX7_goes_117 : decode cX7_goes 117 = .ok (.iload 5, 2) := by decide +kernel
theorem dX7_goes_119 : decode cX7_goes 119 = .ok (.iadd, 1) := by decide +kernel
theorem dX7_goes_120 : decode cX7_goes 120 = .ok (.iaload, 1) := by decide +kernel
theorem dX7_goes_121 : decode cX7_goes 121 = .ok (.if_icmp .ge 8, 3) := by decide +kernel
theorem dX7_goes_124 : decode cX7_goes 124 = .ok (.iload 8, 2) := by decide +kernel
theorem dX7_goes_126 : decode cX7_goes 126 = .ok (.goto 5, 3) := by decide +kernel
theorem dX7_goes_129 : decode cX7_goes 129 = .ok (.iload 6, 2) := by decide +kernel
theorem dX7_goes_131 : decode cX7_goes 131 = .ok (.istore 6, 2) := by decide +kernel
theorem dX7_goes_133 : decode cX7_goes 133 = .ok (.iinc 7 (-1), 3) := by decide +kernel
theorem dX7_goes_136 : decode cX7_goes 136 = .ok (.goto (-64), 3) := by decide +kernel
theorem dX7_goes_139 : decode cX7_goes 139 = .ok (.iload 6, 2) := by decide +kernel
theorem dX7_goes_141 : decode cX7_goes 141 = .ok (.istore 5, 2) := by decide +kernel
theorem dX7_goes_143 : decode cX7_goes 143 = .ok (.aload_n 0, 1) := by decide +kernel
theorem dX7_goes_144 : decode cX7_goes 144 = .ok (.getfield 54, 3) := by decide +kernel
theorem dX7_goes_147 : decode cX7_goes 147 = .ok (.iload 5, 2) := by decide +kernel
theorem dX7_goes_149 : decode cX7_goes 149 = .ok (.dup2, 1) := by decide +kernel
theorem dX7_goes_150 : decode cX7_goes 150 = .ok (.iaload, 1) := by decide +kernel
theorem dX7_goes_151 : decode cX7_goes 151 = .ok (.iload_n 3, 1) := by decide +kernel
theorem dX7_goes_152 : decode cX7_goes 152 = .ok (.iadd, 1) := by decide +kernel
theorem dX7_goes_153 : decode cX7_goes 153 = .ok (.iastore, 1) := by decide +kernel
theorem dX7_goes_154 : decode cX7_goes 154 = .ok (.goto (-95), 3) := by decide +kernel
theorem dX7_goes_157 : decode cX7_goes 157 = .ok (.return_, 1) := by decide +kernel
theorem dX7_least_0 : decode cX7_least 0 = .ok (.iload_n 0, 1) := by decide +kernel
theorem dX7_least_1 : decode cX7_least 1 = .ok (.iload_n 1, 1) := by decide +kernel
theorem dX7_least_2 : decode cX7_least 2 = .ok (.if_icmp .ge 7, 3) := by decide +kernel
theorem dX7_least_5 : decode cX7_least 5 = .ok (.iload_n 0, 1) := by decide +kernel
theorem dX7_least_6 : decode cX7_least 6 = .ok (.goto 4, 3) := by decide +kernel
theorem dX7_least_9 : decode cX7_least 9 = .ok (.iload_n 1, 1) := by decide +kernel
theorem dX7_least_10 : decode cX7_least 10 = .ok (.ireturn, 1) := by decide +kernel
set_option maxRecDepth 20000 in
theorem ggX7_works_X7_least : GoodIn wsX7_works wsX7_least := goodIn_r _ [11] (by decide +kernel) (by decide +kernel)
set_option maxRecDepth 20000 in
theorem gX7_works_X7_least : GoodIn wsX7_works (va_wsS RX7 82 yX7_least wsX7_least) := goodIn_app (goodIn_of _ (by decide +kernel)) ggX7_works_X7_least
set_option maxRecDepth 20000 in
theorem ggX7_works_X7_goes : GoodIn wsX7_works wsX7_goes := goodIn_r _ [15, 3, 1, 5, 2, 6, 16, 17, 10, 18, 19, 20, 21, 22, 4, 23, 24, 25, 26, 27, 28, 29, 30, 31, 32, 33, 34, 35, 36, 37, 38, 39, 40, 41] (by decide +kernel) (by decide +kernel)
set_option maxRecDepth 20000 in
theorem gX7_works_X7_goes : GoodIn wsX7_works (wsV RX7 85 RX7 yX7_goes wsX7_goes) := goodIn_app (goodIn_of _ (by decide +kernel)) ggX7_works_X7_goes
theorem dX7_works_0 : decode cX7_works 0 = .ok (.iconst 0, 1) := by decide +kernel
theorem dX7_works_1 : decode cX7_works 1 = .ok (.istore_n 1, 1) := by decide +kernel
theorem dX7_works_2 : decode cX7_works 2 = .ok (.iload_n 1, 1) := by decide +kernel
theorem dX7_works_3 : decode cX7_works 3 = .ok (.bipush 64, 2) := by decide +kernel
theorem dX7_works_5 : decode cX7_works 5 = .ok (.if_icmp .ge 23, 3) := by decide +kernel
theorem dX7_works_8 : decode cX7_works 8 = .ok (.aload_n 0, 1) := by decide +kernel
theorem dX7_works_9 : decode cX7_works 9 = .ok (.getfield 48, 3) := by decide +kernel
theorem dX7_works_12 : decode cX7_works 12 = .ok (.iload_n 1, 1) := by decide +kernel
theorem dX7_works_13 : decode cX7_works 13 = .ok (.iconst 0, 1) := by decide +kernel
theorem dX7_works_14 : decode cX7_works 14 = .ok (.iastore, 1) := by decide +kernel
theorem dX7_works_15 : decode cX7_works 15 = .ok (.aload_n 0, 1) := by decide +kernel
theorem dX7_works_16 : decode cX7_works 16 = .ok (.getfield 54, 3) := by decide +kernel
theorem dX7_works_19 : decode cX7_works 19 = .ok (.iload_n 1, 1) := by decide +kernel
theorem dX7_works_20 : decode cX7_works 20 = .ok (.iconst 0, 1) := by decide +kernel
theorem dX7_works_21 : decode cX7_works 21 = .ok (.iastore, 1) := by decide +kernel
theorem dX7_works_22 : decode cX7_works 22 = .ok (.iinc 1 1, 3) := by decide +kernel
theorem dX7_works_25 : decode cX7_works 25 = .ok (.goto (-23), 3) := by decide +kernel
theorem dX7_works_28 : decode cX7_works 28 = .ok (.iconst 0, 1) := by decide +kernel
theorem dX7_works_29 : decode cX7_works 29 = .ok (.istore_n 1, 1) := by decide +kernel
theorem dX7_works_30 : decode cX7_works 30 = .ok (.iload_n 1, 1) := by decide +kernel
theorem dX7_works_31 : decode cX7_works 31 = .ok (.sipush 4096, 3) := by decide +kernel
theorem dX7_works_34 : decode cX7_works 34 = .ok (.if_icmp .ge 16, 3) := by decide +kernel
theorem dX7_works_37 : decode cX7_works 37 = .ok (.aload_n 0, 1) := by decide +kernel
theorem dX7_works_38 : decode cX7_works 38 = .ok (.getfield 51, 3) := by decide +kernel
theorem dX7_works_41 : decode cX7_works 41 = .ok (.iload_n 1, 1) := by decide +kernel
theorem dX7_works_42 : decode cX7_works 42 = .ok (.iconst 0, 1) := by decide +kernel
theorem dX7_works_43 : decode cX7_works 43 = .ok (.iastore, 1) := by decide +kernel
theorem dX7_works_44 : decode cX7_works 44 = .ok (.iinc 1 1, 3) := by decide +kernel
theorem dX7_works_47 : decode cX7_works 47 = .ok (.goto (-17), 3) := by decide +kernel
theorem dX7_works_50 : decode cX7_works 50 = .ok (.iconst 0, 1) := by decide +kernel
theorem dX7_works_51 : decode cX7_works 51 = .ok (.istore_n 1, 1) := by decide +kernel
theorem dX7_works_52 : decode cX7_works 52 = .ok (.iload_n 1, 1) := by decide +kernel
theorem dX7_works_53 : decode cX7_works 53 = .ok (.bipush 64, 2) := by decide +kernel
theorem dX7_works_55 : decode cX7_works 55 = .ok (.if_icmp .ge 150, 3) := by decide +kernel
theorem dX7_works_58 : decode cX7_works 58 = .ok (.iconst 0, 1) := by decide +kernel
theorem dX7_works_59 : decode cX7_works 59 = .ok (.istore_n 2, 1) := by decide +kernel
theorem dX7_works_60 : decode cX7_works 60 = .ok (.iload_n 2, 1) := by decide +kernel
theorem dX7_works_61 : decode cX7_works 61 = .ok (.bipush 64, 2) := by decide +kernel
theorem dX7_works_63 : decode cX7_works 63 = .ok (.if_icmp .ge 136, 3) := by decide +kernel
theorem dX7_works_66 : decode cX7_works 66 = .ok (.iconst 0, 1) := by decide +kernel
theorem dX7_works_67 : decode cX7_works 67 = .ok (.istore_n 3, 1) := by decide +kernel
theorem dX7_works_68 : decode cX7_works 68 = .ok (.iload_n 3, 1) := by decide +kernel
theorem dX7_works_69 : decode cX7_works 69 = .ok (.bipush 64, 2) := by decide +kernel
theorem dX7_works_71 : decode cX7_works 71 = .ok (.if_icmp .ge 122, 3) := by decide +kernel
theorem dX7_works_74 : decode cX7_works 74 = .ok (.aload_n 0, 1) := by decide +kernel
theorem dX7_works_75 : decode cX7_works 75 = .ok (.getfield 19, 3) := by decide +kernel
theorem dX7_works_78 : decode cX7_works 78 = .ok (.iload_n 2, 1) := by decide +kernel
theorem dX7_works_79 : decode cX7_works 79 = .ok (.iaload, 1) := by decide +kernel
theorem dX7_works_80 : decode cX7_works 80 = .ok (.iconst 2, 1) := by decide +kernel
theorem dX7_works_81 : decode cX7_works 81 = .ok (.if_icmp .ne 112, 3) := by decide +kernel
theorem dX7_works_84 : decode cX7_works 84 = .ok (.aload_n 0, 1) := by decide +kernel
theorem dX7_works_85 : decode cX7_works 85 = .ok (.getfield 26, 3) := by decide +kernel
theorem dX7_works_88 : decode cX7_works 88 = .ok (.iload_n 2, 1) := by decide +kernel
theorem dX7_works_89 : decode cX7_works 89 = .ok (.iaload, 1) := by decide +kernel
theorem dX7_works_90 : decode cX7_works 90 = .ok (.iconst (-1), 1) := by decide +kernel
theorem dX7_works_91 : decode cX7_works 91 = .ok (.if_icmp .eq 102, 3) := by decide +kernel
theorem dX7_works_94 : decode cX7_works 94 = .ok (.aload_n 0, 1) := by decide +kernel
theorem dX7_works_95 : decode cX7_works 95 = .ok (.getfield 19, 3) := by decide +kernel
theorem dX7_works_98 : decode cX7_works 98 = .ok (.iload_n 3, 1) := by decide +kernel
theorem dX7_works_99 : decode cX7_works 99 = .ok (.iaload, 1) := by decide +kernel
theorem dX7_works_100 : decode cX7_works 100 = .ok (.iconst 3, 1) := by decide +kernel
theorem dX7_works_101 : decode cX7_works 101 = .ok (.if_icmp .ne 86, 3) := by decide +kernel
theorem dX7_works_104 : decode cX7_works 104 = .ok (.aload_n 0, 1) := by decide +kernel
theorem dX7_works_105 : decode cX7_works 105 = .ok (.getfield 26, 3) := by decide +kernel
theorem dX7_works_108 : decode cX7_works 108 = .ok (.iload_n 3, 1) := by decide +kernel
theorem dX7_works_109 : decode cX7_works 109 = .ok (.iaload, 1) := by decide +kernel
theorem dX7_works_110 : decode cX7_works 110 = .ok (.iconst (-1), 1) := by decide +kernel
theorem dX7_works_111 : decode cX7_works 111 = .ok (.if_icmp .eq 76, 3) := by decide +kernel
theorem dX7_works_114 : decode cX7_works 114 = .ok (.aload_n 0, 1) := by decide +kernel
theorem dX7_works_115 : decode cX7_works 115 = .ok (.getfield 32, 3) := by decide +kernel
theorem dX7_works_118 : decode cX7_works 118 = .ok (.bipush 64, 2) := by decide +kernel
theorem dX7_works_120 : decode cX7_works 120 = .ok (.aload_n 0, 1) := by decide +kernel
theorem dX7_works_121 : decode cX7_works 121 = .ok (.getfield 26, 3) := by decide +kernel
theorem dX7_works_124 : decode cX7_works 124 = .ok (.iload_n 2, 1) := by decide +kernel
theorem dX7_works_125 : decode cX7_works 125 = .ok (.iaload, 1) := by decide +kernel
theorem dX7_works_126 : decode cX7_works 126 = .ok (.imul, 1) := by decide +kernel
theorem dX7_works_127 : decode cX7_works 127 = .ok (.aload_n 0, 1) := by decide +kernel
theorem dX7_works_128 : decode cX7_works 128 = .ok (.getfield 26, 3) := by decide +kernel
theorem dX7_works_131 : decode cX7_works 131 = .ok (.iload_n 3, 1) := by decide +kernel
theorem dX7_works_132 : decode cX7_works 132 = .ok (.iaload, 1) := by decide +kernel
theorem dX7_works_133 : decode cX7_works 133 = .ok (.iadd, 1) := by decide +kernel
theorem dX7_works_134 : decode cX7_works 134 = .ok (.iaload, 1) := by decide +kernel
theorem dX7_works_135 : decode cX7_works 135 = .ok (.iload_n 1, 1) := by decide +kernel
theorem dX7_works_136 : decode cX7_works 136 = .ok (.if_icmp .ne 51, 3) := by decide +kernel
theorem dX7_works_139 : decode cX7_works 139 = .ok (.iconst 2, 1) := by decide +kernel
theorem dX7_works_140 : decode cX7_works 140 = .ok (.aload_n 0, 1) := by decide +kernel
theorem dX7_works_141 : decode cX7_works 141 = .ok (.getfield 23, 3) := by decide +kernel
theorem dX7_works_144 : decode cX7_works 144 = .ok (.iload_n 2, 1) := by decide +kernel
theorem dX7_works_145 : decode cX7_works 145 = .ok (.iaload, 1) := by decide +kernel
theorem dX7_works_146 : decode cX7_works 146 = .ok (.imul, 1) := by decide +kernel
theorem dX7_works_147 : decode cX7_works 147 = .ok (.aload_n 0, 1) := by decide +kernel
theorem dX7_works_148 : decode cX7_works 148 = .ok (.getfield 48, 3) := by decide +kernel
theorem dX7_works_151 : decode cX7_works 151 = .ok (.iload_n 2, 1) := by decide +kernel
theorem dX7_works_152 : decode cX7_works 152 = .ok (.iaload, 1) := by decide +kernel
theorem dX7_works_153 : decode cX7_works 153 = .ok (.isub, 1) := by decide +kernel
theorem dX7_works_154 : decode cX7_works 154 = .ok (.iconst 2, 1) := by decide +kernel
theorem dX7_works_155 : decode cX7_works 155 = .ok (.aload_n 0, 1) := by decide +kernel
theorem dX7_works_156 : decode cX7_works 156 = .ok (.getfield 23, 3) := by decide +kernel
theorem dX7_works_159 : decode cX7_works 159 = .ok (.iload_n 3, 1) := by decide +kernel
theorem dX7_works_160 : decode cX7_works 160 = .ok (.iaload, 1) := by decide +kernel
theorem dX7_works_161 : decode cX7_works 161 = .ok (.imul, 1) := by decide +kernel
theorem dX7_works_162 : decode cX7_works 162 = .ok (.aload_n 0, 1) := by decide +kernel
theorem dX7_works_163 : decode cX7_works 163 = .ok (.getfield 48, 3) := by decide +kernel
theorem dX7_works_166 : decode cX7_works 166 = .ok (.iload_n 3, 1) := by decide +kernel
theorem dX7_works_167 : decode cX7_works 167 = .ok (.iaload, 1) := by decide +kernel
theorem dX7_works_168 : decode cX7_works 168 = .ok (.isub, 1) := by decide +kernel
theorem dX7_works_169 : decode cX7_works 169 = .ok (.invokestatic 82, 3) := by decide +kernel
theorem dX7_works_172 : decode cX7_works 172 = .ok (.istore 4, 2) := by decide +kernel
theorem dX7_works_174 : decode cX7_works 174 = .ok (.iload 4, 2) := by decide +kernel
theorem dX7_works_176 : decode cX7_works 176 = .ok (.ifCond .le 11, 3) := by decide +kernel
theorem dX7_works_179 : decode cX7_works 179 = .ok (.aload_n 0, 1) := by decide +kernel
theorem dX7_works_180 : decode cX7_works 180 = .ok (.iload_n 2, 1) := by decide +kernel
theorem dX7_works_181 : decode cX7_works 181 = .ok (.iload_n 3, 1) := by decide +kernel
theorem dX7_works_182 : decode cX7_works 182 = .ok (.iload 4, 2) := by decide +kernel
theorem dX7_works_184 : decode cX7_works 184 = .ok (.invokevirtual 85, 3) := by decide +kernel
theorem dX7_works_187 : decode cX7_works 187 = .ok (.iinc 3 1, 3) := by decide +kernel
theorem dX7_works_190 : decode cX7_works 190 = .ok (.goto (-122), 3) := by decide +kernel
theorem dX7_works_193 : decode cX7_works 193 = .ok (.iinc 2 1, 3) := by decide +kernel
theorem dX7_works_196 : decode cX7_works 196 = .ok (.goto (-136), 3) := by decide +kernel
theorem dX7_works_199 : decode cX7_works 199 = .ok (.iinc 1 1, 3) := by decide +kernel
theorem dX7_works_202 : decode cX7_works 202 = .ok (.goto (-150), 3) := by decide +kernel
theorem dX7_works_205 : decode cX7_works 205 = .ok (.return_, 1) := by decide +kernel
set_option maxRecDepth 20000 in
theorem ggX7_finds_X7_findsNets : GoodIn wsX7_finds wsX7_findsNets := goodIn_r _ [5, 6, 7, 8, 9, 10, 11, 12, 4, 13, 14, 15, 16, 17, 18, 19, 20, 21, 48, 49, 50, 51, 52, 53, 54, 55, 56, 57, 58, 59, 60, 61, 62, 63, 64, 65, 66] (by decide +kernel) (by decide +kernel)
set_option maxRecDepth 20000 in
theorem gX7_finds_X7_findsNets : GoodIn wsX7_finds (wsV RX7 89 RX7 yX7_findsNets wsX7_findsNets) := goodIn_app (goodIn_of _ (by decide +kernel)) ggX7_finds_X7_findsNets
set_option maxRecDepth 20000 in
theorem ggX7_finds_X7_supplies : GoodIn wsX7_finds wsX7_supplies := goodIn_r _ [25, 26, 27, 8, 7, 28, 29, 30, 31, 32, 4, 33, 48, 49, 50, 51, 52, 53, 54, 55, 56, 57, 58, 59, 60, 61, 62, 63, 64, 65, 66] (by decide +kernel) (by decide +kernel)
set_option maxRecDepth 20000 in
theorem gX7_finds_X7_supplies : GoodIn wsX7_finds (wsV RX7 92 RX7 yX7_supplies wsX7_supplies) := goodIn_app (goodIn_of _ (by decide +kernel)) ggX7_finds_X7_supplies
set_option maxRecDepth 20000 in
theorem ggX7_finds_X7_works : GoodIn wsX7_finds wsX7_works := goodIn_r _ [37, 38, 39, 40, 7, 6, 9, 28, 41, 42, 4, 43, 44, 45, 46, 47, 15, 16, 17, 18, 19, 20, 21, 48, 49, 50, 51, 52, 53, 54, 55, 56, 57, 58, 59, 60, 61, 62, 63, 64, 65, 66] (by decide +kernel) (by decide +kernel)
set_option maxRecDepth 20000 in
theorem gX7_finds_X7_works : GoodIn wsX7_finds (wsV RX7 95 RX7 yX7_works wsX7_works) := goodIn_app (goodIn_of _ (by decide +kernel)) ggX7_finds_X7_works
theorem dX7_finds_0 : decode cX7_finds 0 = .ok (.aload_n 0, 1) := by decide +kernel
theorem dX7_finds_1 : decode cX7_finds 1 = .ok (.invokevirtual 89, 3) := by decide +kernel
theorem dX7_finds_4 : decode cX7_finds 4 = .ok (.aload_n 0, 1) := by decide +kernel
theorem dX7_finds_5 : decode cX7_finds 5 = .ok (.invokevirtual 92, 3) := by decide +kernel
theorem dX7_finds_8 : decode cX7_finds 8 = .ok (.aload_n 0, 1) := by decide +kernel
theorem dX7_finds_9 : decode cX7_finds 9 = .ok (.invokevirtual 95, 3) := by decide +kernel
theorem dX7_finds_12 : decode cX7_finds 12 = .ok (.return_, 1) := by decide +kernel
theorem dX7_apart_0 : decode cX7_apart 0 = .ok (.iload_n 0, 1) := by decide +kernel
theorem dX7_apart_1 : decode cX7_apart 1 = .ok (.bipush 8, 2) := by decide +kernel
theorem dX7_apart_3 : decode cX7_apart 3 = .ok (.idiv, 1) := by decide +kernel
theorem dX7_apart_4 : decode cX7_apart 4 = .ok (.iload_n 1, 1) := by decide +kernel
theorem dX7_apart_5 : decode cX7_apart 5 = .ok (.bipush 8, 2) := by decide +kernel
theorem dX7_apart_7 : decode cX7_apart 7 = .ok (.idiv, 1) := by decide +kernel
theorem dX7_apart_8 : decode cX7_apart 8 = .ok (.isub, 1) := by decide +kernel
theorem dX7_apart_9 : decode cX7_apart 9 = .ok (.istore_n 2, 1) := by decide +kernel
theorem dX7_apart_10 : decode cX7_apart 10 = .ok (.iload_n 0, 1) := by decide +kernel
theorem dX7_apart_11 : decode cX7_apart 11 = .ok (.bipush 8, 2) := by decide +kernel
theorem dX7_apart_13 : decode cX7_apart 13 = .ok (.irem, 1) := by decide +kernel
theorem dX7_apart_14 : decode cX7_apart 14 = .ok (.iload_n 1, 1) := by decide +kernel
theorem dX7_apart_15 : decode cX7_apart 15 = .ok (.bipush 8, 2) := by decide +kernel
theorem dX7_apart_17 : decode cX7_apart 17 = .ok (.irem, 1) := by decide +kernel
theorem dX7_apart_18 : decode cX7_apart 18 = .ok (.isub, 1) := by decide +kernel
theorem dX7_apart_19 : decode cX7_apart 19 = .ok (.istore_n 3, 1) := by decide +kernel
theorem dX7_apart_20 : decode cX7_apart 20 = .ok (.iload_n 2, 1) := by decide +kernel
theorem dX7_apart_21 : decode cX7_apart 21 = .ok (.ifCond .ge 8, 3) := by decide +kernel
theorem dX7_apart_24 : decode cX7_apart 24 = .ok (.iload_n 2, 1) := by decide +kernel
theorem dX7_apart_25 : decode cX7_apart 25 = .ok (.ineg, 1) := by decide +kernel
theorem dX7_apart_26 : decode cX7_apart 26 = .ok (.goto 4, 3) := by decide +kernel
theorem dX7_apart_29 : decode cX7_apart 29 = .ok (.iload_n 2, 1) := by decide +kernel
theorem dX7_apart_30 : decode cX7_apart 30 = .ok (.iload_n 3, 1) := by decide +kernel
theorem dX7_apart_31 : decode cX7_apart 31 = .ok (.ifCond .ge 8, 3) := by decide +kernel
theorem dX7_apart_34 : decode cX7_apart 34 = .ok (.iload_n 3, 1) := by decide +kernel
theorem dX7_apart_35 : decode cX7_apart 35 = .ok (.ineg, 1) := by decide +kernel
theorem dX7_apart_36 : decode cX7_apart 36 = .ok (.goto 4, 3) := by decide +kernel
theorem dX7_apart_39 : decode cX7_apart 39 = .ok (.iload_n 3, 1) := by decide +kernel
theorem dX7_apart_40 : decode cX7_apart 40 = .ok (.iadd, 1) := by decide +kernel
theorem dX7_apart_41 : decode cX7_apart 41 = .ok (.ireturn, 1) := by decide +kernel
set_option maxRecDepth 20000 in
theorem ggX7_valueOf_X7_apart : GoodIn wsX7_valueOf wsX7_apart := goodIn_r _ [7] (by decide +kernel) (by decide +kernel)
set_option maxRecDepth 20000 in
theorem gX7_valueOf_X7_apart : GoodIn wsX7_valueOf (va_wsS RX7 98 yX7_apart wsX7_apart) := goodIn_app (goodIn_of _ (by decide +kernel)) ggX7_valueOf_X7_apart
theorem dX7_valueOf_0 : decode cX7_valueOf 0 = .ok (.bipush 10, 2) := by decide +kernel
theorem dX7_valueOf_2 : decode cX7_valueOf 2 = .ok (.istore_n 2, 1) := by decide +kernel
theorem dX7_valueOf_3 : decode cX7_valueOf 3 = .ok (.iconst 0, 1) := by decide +kernel
theorem dX7_valueOf_4 : decode cX7_valueOf 4 = .ok (.istore_n 3, 1) := by decide +kernel
theorem dX7_valueOf_5 : decode cX7_valueOf 5 = .ok (.iload_n 3, 1) := by decide +kernel
theorem dX7_valueOf_6 : decode cX7_valueOf 6 = .ok (.bipush 64, 2) := by decide +kernel
theorem dX7_valueOf_8 : decode cX7_valueOf 8 = .ok (.if_icmp .ge 72, 3) := by decide +kernel
theorem dX7_valueOf_11 : decode cX7_valueOf 11 = .ok (.iload_n 1, 1) := by decide +kernel
theorem dX7_valueOf_12 : decode cX7_valueOf 12 = .ok (.iload_n 3, 1) := by decide +kernel
theorem dX7_valueOf_13 : decode cX7_valueOf 13 = .ok (.invokestatic 98, 3) := by decide +kernel
theorem dX7_valueOf_16 : decode cX7_valueOf 16 = .ok (.iconst 2, 1) := by decide +kernel
theorem dX7_valueOf_17 : decode cX7_valueOf 17 = .ok (.if_icmp .gt 7, 3) := by decide +kernel
theorem dX7_valueOf_20 : decode cX7_valueOf 20 = .ok (.iconst 1, 1) := by decide +kernel
theorem dX7_valueOf_21 : decode cX7_valueOf 21 = .ok (.goto 4, 3) := by decide +kernel
theorem dX7_valueOf_24 : decode cX7_valueOf 24 = .ok (.iconst 0, 1) := by decide +kernel
theorem dX7_valueOf_25 : decode cX7_valueOf 25 = .ok (.istore 4, 2) := by decide +kernel
theorem dX7_valueOf_27 : decode cX7_valueOf 27 = .ok (.iload_n 2, 1) := by decide +kernel
theorem dX7_valueOf_28 : decode cX7_valueOf 28 = .ok (.iload 4, 2) := by decide +kernel
theorem dX7_valueOf_30 : decode cX7_valueOf 30 = .ok (.ifCond .eq 17, 3) := by decide +kernel
theorem dX7_valueOf_33 : decode cX7_valueOf 33 = .ok (.aload_n 0, 1) := by decide +kernel
theorem dX7_valueOf_34 : decode cX7_valueOf 34 = .ok (.getfield 19, 3) := by decide +kernel
theorem dX7_valueOf_37 : decode cX7_valueOf 37 = .ok (.iload_n 3, 1) := by decide +kernel
theorem dX7_valueOf_38 : decode cX7_valueOf 38 = .ok (.iaload, 1) := by decide +kernel
theorem dX7_valueOf_39 : decode cX7_valueOf 39 = .ok (.iconst 4, 1) := by decide +kernel
theorem dX7_valueOf_40 : decode cX7_valueOf 40 = .ok (.if_icmp .ne 7, 3) := by decide +kernel
theorem dX7_valueOf_43 : decode cX7_valueOf 43 = .ok (.iconst 5, 1) := by decide +kernel
theorem dX7_valueOf_44 : decode cX7_valueOf 44 = .ok (.goto 4, 3) := by decide +kernel
theorem dX7_valueOf_47 : decode cX7_valueOf 47 = .ok (.iconst 0, 1) := by decide +kernel
theorem dX7_valueOf_48 : decode cX7_valueOf 48 = .ok (.iadd, 1) := by decide +kernel
theorem dX7_valueOf_49 : decode cX7_valueOf 49 = .ok (.istore_n 2, 1) := by decide +kernel
theorem dX7_valueOf_50 : decode cX7_valueOf 50 = .ok (.iload_n 2, 1) := by decide +kernel
theorem dX7_valueOf_51 : decode cX7_valueOf 51 = .ok (.iload 4, 2) := by decide +kernel
theorem dX7_valueOf_53 : decode cX7_valueOf 53 = .ok (.ifCond .eq 18, 3) := by decide +kernel
theorem dX7_valueOf_56 : decode cX7_valueOf 56 = .ok (.aload_n 0, 1) := by decide +kernel
theorem dX7_valueOf_57 : decode cX7_valueOf 57 = .ok (.getfield 19, 3) := by decide +kernel
theorem dX7_valueOf_60 : decode cX7_valueOf 60 = .ok (.iload_n 3, 1) := by decide +kernel
theorem dX7_valueOf_61 : decode cX7_valueOf 61 = .ok (.iaload, 1) := by decide +kernel
theorem dX7_valueOf_62 : decode cX7_valueOf 62 = .ok (.iconst 5, 1) := by decide +kernel
theorem dX7_valueOf_63 : decode cX7_valueOf 63 = .ok (.if_icmp .ne 8, 3) := by decide +kernel
theorem dX7_valueOf_66 : decode cX7_valueOf 66 = .ok (.bipush 10, 2) := by decide +kernel
theorem dX7_valueOf_68 : decode cX7_valueOf 68 = .ok (.goto 4, 3) := by decide +kernel
theorem dX7_valueOf_71 : decode cX7_valueOf 71 = .ok (.iconst 0, 1) := by decide +kernel
theorem dX7_valueOf_72 : decode cX7_valueOf 72 = .ok (.isub, 1) := by decide +kernel
theorem dX7_valueOf_73 : decode cX7_valueOf 73 = .ok (.istore_n 2, 1) := by decide +kernel
theorem dX7_valueOf_74 : decode cX7_valueOf 74 = .ok (.iinc 3 1, 3) := by decide +kernel
theorem dX7_valueOf_77 : decode cX7_valueOf 77 = .ok (.goto (-72), 3) := by decide +kernel
theorem dX7_valueOf_80 : decode cX7_valueOf 80 = .ok (.iload_n 2, 1) := by decide +kernel
theorem dX7_valueOf_81 : decode cX7_valueOf 81 = .ok (.aload_n 0, 1) := by decide +kernel
theorem dX7_valueOf_82 : decode cX7_valueOf 82 = .ok (.getfield 19, 3) := by decide +kernel
theorem dX7_valueOf_85 : decode cX7_valueOf 85 = .ok (.iload_n 1, 1) := by decide +kernel
theorem dX7_valueOf_86 : decode cX7_valueOf 86 = .ok (.iaload, 1) := by decide +kernel
theorem dX7_valueOf_87 : decode cX7_valueOf 87 = .ok (.iconst 1, 1) := by decide +kernel
theorem dX7_valueOf_88 : decode cX7_valueOf 88 = .ok (.if_icmp .eq 27, 3) := by decide +kernel
theorem dX7_valueOf_91 : decode cX7_valueOf 91 = .ok (.aload_n 0, 1) := by decide +kernel
theorem dX7_valueOf_92 : decode cX7_valueOf 92 = .ok (.getfield 26, 3) := by decide +kernel
theorem dX7_valueOf_95 : decode cX7_valueOf 95 = .ok (.iload_n 1, 1) := by decide +kernel
theorem dX7_valueOf_96 : decode cX7_valueOf 96 = .ok (.iaload, 1) := by decide +kernel
theorem dX7_valueOf_97 : decode cX7_valueOf 97 = .ok (.iconst (-1), 1) := by decide +kernel
theorem dX7_valueOf_98 : decode cX7_valueOf 98 = .ok (.if_icmp .eq 17, 3) := by decide +kernel
theorem dX7_valueOf_101 : decode cX7_valueOf 101 = .ok (.aload_n 0, 1) := by decide +kernel
theorem dX7_valueOf_102 : decode cX7_valueOf 102 = .ok (.getfield 54, 3) := by decide +kernel
theorem dX7_valueOf_105 : decode cX7_valueOf 105 = .ok (.aload_n 0, 1) := by decide +kernel
theorem dX7_valueOf_106 : decode cX7_valueOf 106 = .ok (.getfield 26, 3) := by decide +kernel
theorem dX7_valueOf_109 : decode cX7_valueOf 109 = .ok (.iload_n 1, 1) := by decide +kernel
theorem dX7_valueOf_110 : decode cX7_valueOf 110 = .ok (.iaload, 1) := by decide +kernel
theorem dX7_valueOf_111 : decode cX7_valueOf 111 = .ok (.iaload, 1) := by decide +kernel
theorem dX7_valueOf_112 : decode cX7_valueOf 112 = .ok (.goto 4, 3) := by decide +kernel
theorem dX7_valueOf_115 : decode cX7_valueOf 115 = .ok (.iconst 0, 1) := by decide +kernel
theorem dX7_valueOf_116 : decode cX7_valueOf 116 = .ok (.isub, 1) := by decide +kernel
theorem dX7_valueOf_117 : decode cX7_valueOf 117 = .ok (.istore_n 2, 1) := by decide +kernel
theorem dX7_valueOf_118 : decode cX7_valueOf 118 = .ok (.iload_n 2, 1) := by decide +kernel
theorem dX7_valueOf_119 : decode cX7_valueOf 119 = .ok (.ifCond .ge 7, 3) := by decide +kernel
theorem dX7_valueOf_122 : decode cX7_valueOf 122 = .ok (.iconst 0, 1) := by decide +kernel
theorem dX7_valueOf_123 : decode cX7_valueOf 123 = .ok (.goto 4, 3) := by decide +kernel
theorem dX7_valueOf_126 : decode cX7_valueOf 126 = .ok (.iload_n 2, 1) := by decide +kernel
theorem dX7_valueOf_127 : decode cX7_valueOf 127 = .ok (.ireturn, 1) := by decide +kernel
theorem dX7_costOf_0 : decode cX7_costOf 0 = .ok (.iload_n 0, 1) := by decide +kernel
theorem dX7_costOf_1 : decode cX7_costOf 1 = .ok (.iconst 1, 1) := by decide +kernel
theorem dX7_costOf_2 : decode cX7_costOf 2 = .ok (.if_icmp .ne 8, 3) := by decide +kernel
theorem dX7_costOf_5 : decode cX7_costOf 5 = .ok (.bipush 10, 2) := by decide +kernel
theorem dX7_costOf_7 : decode cX7_costOf 7 = .ok (.goto 38, 3) := by decide +kernel
theorem dX7_costOf_10 : decode cX7_costOf 10 = .ok (.iload_n 0, 1) := by decide +kernel
theorem dX7_costOf_11 : decode cX7_costOf 11 = .ok (.iconst 4, 1) := by decide +kernel
theorem dX7_costOf_12 : decode cX7_costOf 12 = .ok (.if_icmp .ne 8, 3) := by decide +kernel
theorem dX7_costOf_15 : decode cX7_costOf 15 = .ok (.bipush 30, 2) := by decide +kernel
theorem dX7_costOf_17 : decode cX7_costOf 17 = .ok (.goto 28, 3) := by decide +kernel
theorem dX7_costOf_20 : decode cX7_costOf 20 = .ok (.iload_n 0, 1) := by decide +kernel
theorem dX7_costOf_21 : decode cX7_costOf 21 = .ok (.iconst 5, 1) := by decide +kernel
theorem dX7_costOf_22 : decode cX7_costOf 22 = .ok (.if_icmp .ne 9, 3) := by decide +kernel
theorem dX7_costOf_25 : decode cX7_costOf 25 = .ok (.sipush 200, 3) := by decide +kernel
theorem dX7_costOf_28 : decode cX7_costOf 28 = .ok (.goto 17, 3) := by decide +kernel
theorem dX7_costOf_31 : decode cX7_costOf 31 = .ok (.iload_n 0, 1) := by decide +kernel
theorem dX7_costOf_32 : decode cX7_costOf 32 = .ok (.bipush 6, 2) := by decide +kernel
theorem dX7_costOf_34 : decode cX7_costOf 34 = .ok (.if_icmp .ne 9, 3) := by decide +kernel
theorem dX7_costOf_37 : decode cX7_costOf 37 = .ok (.sipush 150, 3) := by decide +kernel
theorem dX7_costOf_40 : decode cX7_costOf 40 = .ok (.goto 5, 3) := by decide +kernel
theorem dX7_costOf_43 : decode cX7_costOf 43 = .ok (.bipush 20, 2) := by decide +kernel
theorem dX7_costOf_45 : decode cX7_costOf 45 = .ok (.ireturn, 1) := by decide +kernel
set_option maxRecDepth 20000 in
theorem ggX7_build_X7_isCell : GoodIn wsX7_build wsX7_isCell := goodIn_r _ [7, 8, 9, 6, 10] (by decide +kernel) (by decide +kernel)
set_option maxRecDepth 20000 in
theorem gX7_build_X7_isCell : GoodIn wsX7_build (va_wsS RX7 101 yX7_isCell wsX7_isCell) := goodIn_app (goodIn_of _ (by decide +kernel)) ggX7_build_X7_isCell
set_option maxRecDepth 20000 in
theorem ggX7_build_X7_isIn : GoodIn wsX7_build wsX7_isIn := goodIn_r _ [10] (by decide +kernel) (by decide +kernel)
set_option maxRecDepth 20000 in
theorem gX7_build_X7_isIn : GoodIn wsX7_build (va_wsS RX7 63 yX7_isIn wsX7_isIn) := goodIn_app (goodIn_of _ (by decide +kernel)) ggX7_build_X7_isIn
set_option maxRecDepth 20000 in
theorem ggX7_build_X7_costOf : GoodIn wsX7_build wsX7_costOf := goodIn_r _ [13] (by decide +kernel) (by decide +kernel)
set_option maxRecDepth 20000 in
theorem gX7_build_X7_costOf : GoodIn wsX7_build (va_wsS RX7 104 yX7_costOf wsX7_costOf) := goodIn_app (goodIn_of _ (by decide +kernel)) ggX7_build_X7_costOf
set_option maxRecDepth 20000 in
theorem ggX7_build_X7_fails : GoodIn wsX7_build wsX7_fails := goodIn_r _ [17, 18, 19, 20, 21, 22, 23, 24, 25, 26, 27, 28, 29, 30, 31, 32, 33, 34, 35, 36, 37] (by decide +kernel) (by decide +kernel)
set_option maxRecDepth 20000 in
theorem gX7_build_X7_fails : GoodIn wsX7_build (wsV RX7 108 RX7 yX7_fails wsX7_fails) := goodIn_app (goodIn_of _ (by decide +kernel)) ggX7_build_X7_fails
theorem dX7_build_0 : decode cX7_build 0 = .ok (.iload_n 1, 1) := by decide +kernel
theorem dX7_build_1 : decode cX7_build 1 = .ok (.invokestatic 101, 3) := by decide +kernel
theorem dX7_build_4 : decode cX7_build 4 = .ok (.istore_n 3, 1) := by decide +kernel
theorem dX7_build_5 : decode cX7_build 5 = .ok (.iload_n 2, 1) := by decide +kernel
theorem dX7_build_6 : decode cX7_build 6 = .ok (.iconst 1, 1) := by decide +kernel
theorem dX7_build_7 : decode cX7_build 7 = .ok (.bipush 6, 2) := by decide +kernel
theorem dX7_build_9 : decode cX7_build 9 = .ok (.invokestatic 63, 3) := by decide +kernel
theorem dX7_build_12 : decode cX7_build 12 = .ok (.istore 4, 2) := by decide +kernel
theorem dX7_build_14 : decode cX7_build 14 = .ok (.aload_n 0, 1) := by decide +kernel
theorem dX7_build_15 : decode cX7_build 15 = .ok (.iload_n 3, 1) := by decide +kernel
theorem dX7_build_16 : decode cX7_build 16 = .ok (.ifCond .ne 7, 3) := by decide +kernel
theorem dX7_build_19 : decode cX7_build 19 = .ok (.iconst 1, 1) := by decide +kernel
theorem dX7_build_20 : decode cX7_build 20 = .ok (.goto 37, 3) := by decide +kernel
theorem dX7_build_23 : decode cX7_build 23 = .ok (.iload 4, 2) := by decide +kernel
theorem dX7_build_25 : decode cX7_build 25 = .ok (.ifCond .ne 7, 3) := by decide +kernel
theorem dX7_build_28 : decode cX7_build 28 = .ok (.iconst 2, 1) := by decide +kernel
theorem dX7_build_29 : decode cX7_build 29 = .ok (.goto 28, 3) := by decide +kernel
theorem dX7_build_32 : decode cX7_build 32 = .ok (.aload_n 0, 1) := by decide +kernel
theorem dX7_build_33 : decode cX7_build 33 = .ok (.getfield 19, 3) := by decide +kernel
theorem dX7_build_36 : decode cX7_build 36 = .ok (.iload_n 1, 1) := by decide +kernel
theorem dX7_build_37 : decode cX7_build 37 = .ok (.iaload, 1) := by decide +kernel
theorem dX7_build_38 : decode cX7_build 38 = .ok (.ifCond .ne 14, 3) := by decide +kernel
theorem dX7_build_41 : decode cX7_build 41 = .ok (.aload_n 0, 1) := by decide +kernel
theorem dX7_build_42 : decode cX7_build 42 = .ok (.getfield 7, 3) := by decide +kernel
theorem dX7_build_45 : decode cX7_build 45 = .ok (.iload_n 2, 1) := by decide +kernel
theorem dX7_build_46 : decode cX7_build 46 = .ok (.invokestatic 104, 3) := by decide +kernel
theorem dX7_build_49 : decode cX7_build 49 = .ok (.if_icmp .ge 7, 3) := by decide +kernel
theorem dX7_build_52 : decode cX7_build 52 = .ok (.iconst 3, 1) := by decide +kernel
theorem dX7_build_53 : decode cX7_build 53 = .ok (.goto 4, 3) := by decide +kernel
theorem dX7_build_56 : decode cX7_build 56 = .ok (.iconst 0, 1) := by decide +kernel
theorem dX7_build_57 : decode cX7_build 57 = .ok (.invokevirtual 108, 3) := by decide +kernel
theorem dX7_build_60 : decode cX7_build 60 = .ok (.ifCond .eq 5, 3) := by decide +kernel
theorem dX7_build_63 : decode cX7_build 63 = .ok (.iconst 0, 1) := by decide +kernel
theorem dX7_build_64 : decode cX7_build 64 = .ok (.ireturn, 1) := by decide +kernel
theorem dX7_build_65 : decode cX7_build 65 = .ok (.aload_n 0, 1) := by decide +kernel
theorem dX7_build_66 : decode cX7_build 66 = .ok (.getfield 19, 3) := by decide +kernel
theorem dX7_build_69 : decode cX7_build 69 = .ok (.iload_n 1, 1) := by decide +kernel
theorem dX7_build_70 : decode cX7_build 70 = .ok (.iload_n 2, 1) := by decide +kernel
theorem dX7_build_71 : decode cX7_build 71 = .ok (.iastore, 1) := by decide +kernel
theorem dX7_build_72 : decode cX7_build 72 = .ok (.aload_n 0, 1) := by decide +kernel
theorem dX7_build_73 : decode cX7_build 73 = .ok (.getfield 23, 3) := by decide +kernel
theorem dX7_build_76 : decode cX7_build 76 = .ok (.iload_n 1, 1) := by decide +kernel
theorem dX7_build_77 : decode cX7_build 77 = .ok (.iconst 0, 1) := by decide +kernel
theorem dX7_build_78 : decode cX7_build 78 = .ok (.iastore, 1) := by decide +kernel
theorem dX7_build_79 : decode cX7_build 79 = .ok (.aload_n 0, 1) := by decide +kernel
theorem dX7_build_80 : decode cX7_build 80 = .ok (.dup, 1) := by decide +kernel
theorem dX7_build_81 : decode cX7_build 81 = .ok (.getfield 7, 3) := by decide +kernel
theorem dX7_build_84 : decode cX7_build 84 = .ok (.iload_n 2, 1) := by decide +kernel
theorem dX7_build_85 : decode cX7_build 85 = .ok (.invokestatic 104, 3) := by decide +kernel
theorem dX7_build_88 : decode cX7_build 88 = .ok (.isub, 1) := by decide +kernel
theorem dX7_build_89 : decode cX7_build 89 = .ok (.putfield 7, 3) := by decide +kernel
theorem dX7_build_92 : decode cX7_build 92 = .ok (.aload_n 0, 1) := by decide +kernel
theorem dX7_build_93 : decode cX7_build 93 = .ok (.getfield 7, 3) := by decide +kernel
theorem dX7_build_96 : decode cX7_build 96 = .ok (.ireturn, 1) := by decide +kernel
set_option maxRecDepth 20000 in
theorem ggX7_tear_X7_isCell : GoodIn wsX7_tear wsX7_isCell := goodIn_r _ [7, 8, 9, 6, 10] (by decide +kernel) (by decide +kernel)
set_option maxRecDepth 20000 in
theorem gX7_tear_X7_isCell : GoodIn wsX7_tear (va_wsS RX7 101 yX7_isCell wsX7_isCell) := goodIn_app (goodIn_of _ (by decide +kernel)) ggX7_tear_X7_isCell
set_option maxRecDepth 20000 in
theorem ggX7_tear_X7_fails : GoodIn wsX7_tear wsX7_fails := goodIn_r _ [14, 15, 16, 17, 18, 19, 20, 21, 22, 23, 24, 25, 26, 27, 28, 29, 30, 31, 32, 33, 34] (by decide +kernel) (by decide +kernel)
set_option maxRecDepth 20000 in
theorem gX7_tear_X7_fails : GoodIn wsX7_tear (wsV RX7 108 RX7 yX7_fails wsX7_fails) := goodIn_app (goodIn_of _ (by decide +kernel)) ggX7_tear_X7_fails
theorem dX7_tear_0 : decode cX7_tear 0 = .ok (.iload_n 1, 1) := by decide +kernel
theorem dX7_tear_1 : decode cX7_tear 1 = .ok (.invokestatic 101, 3) := by decide +kernel
theorem dX7_tear_4 : decode cX7_tear 4 = .ok (.istore_n 2, 1) := by decide +kernel
theorem dX7_tear_5 : decode cX7_tear 5 = .ok (.aload_n 0, 1) := by decide +kernel
theorem dX7_tear_6 : decode cX7_tear 6 = .ok (.iload_n 2, 1) := by decide +kernel
theorem dX7_tear_7 : decode cX7_tear 7 = .ok (.ifCond .ne 7, 3) := by decide +kernel
theorem dX7_tear_10 : decode cX7_tear 10 = .ok (.iconst 1, 1) := by decide +kernel
theorem dX7_tear_11 : decode cX7_tear 11 = .ok (.goto 25, 3) := by decide +kernel
theorem dX7_tear_14 : decode cX7_tear 14 = .ok (.aload_n 0, 1) := by decide +kernel
theorem dX7_tear_15 : decode cX7_tear 15 = .ok (.getfield 19, 3) := by decide +kernel
theorem dX7_tear_18 : decode cX7_tear 18 = .ok (.iload_n 1, 1) := by decide +kernel
theorem dX7_tear_19 : decode cX7_tear 19 = .ok (.iaload, 1) := by decide +kernel
theorem dX7_tear_20 : decode cX7_tear 20 = .ok (.ifCond .eq 11, 3) := by decide +kernel
theorem dX7_tear_23 : decode cX7_tear 23 = .ok (.aload_n 0, 1) := by decide +kernel
theorem dX7_tear_24 : decode cX7_tear 24 = .ok (.getfield 7, 3) := by decide +kernel
theorem dX7_tear_27 : decode cX7_tear 27 = .ok (.iconst 5, 1) := by decide +kernel
theorem dX7_tear_28 : decode cX7_tear 28 = .ok (.if_icmp .ge 7, 3) := by decide +kernel
theorem dX7_tear_31 : decode cX7_tear 31 = .ok (.iconst 2, 1) := by decide +kernel
theorem dX7_tear_32 : decode cX7_tear 32 = .ok (.goto 4, 3) := by decide +kernel
theorem dX7_tear_35 : decode cX7_tear 35 = .ok (.iconst 0, 1) := by decide +kernel
theorem dX7_tear_36 : decode cX7_tear 36 = .ok (.invokevirtual 108, 3) := by decide +kernel
theorem dX7_tear_39 : decode cX7_tear 39 = .ok (.ifCond .eq 5, 3) := by decide +kernel
theorem dX7_tear_42 : decode cX7_tear 42 = .ok (.iconst 0, 1) := by decide +kernel
theorem dX7_tear_43 : decode cX7_tear 43 = .ok (.ireturn, 1) := by decide +kernel
theorem dX7_tear_44 : decode cX7_tear 44 = .ok (.aload_n 0, 1) := by decide +kernel
theorem dX7_tear_45 : decode cX7_tear 45 = .ok (.getfield 19, 3) := by decide +kernel
theorem dX7_tear_48 : decode cX7_tear 48 = .ok (.iload_n 1, 1) := by decide +kernel
theorem dX7_tear_49 : decode cX7_tear 49 = .ok (.iaload, 1) := by decide +kernel
theorem dX7_tear_50 : decode cX7_tear 50 = .ok (.istore_n 3, 1) := by decide +kernel
theorem dX7_tear_51 : decode cX7_tear 51 = .ok (.aload_n 0, 1) := by decide +kernel
theorem dX7_tear_52 : decode cX7_tear 52 = .ok (.getfield 19, 3) := by decide +kernel
theorem dX7_tear_55 : decode cX7_tear 55 = .ok (.iload_n 1, 1) := by decide +kernel
theorem dX7_tear_56 : decode cX7_tear 56 = .ok (.iconst 0, 1) := by decide +kernel
theorem dX7_tear_57 : decode cX7_tear 57 = .ok (.iastore, 1) := by decide +kernel
theorem dX7_tear_58 : decode cX7_tear 58 = .ok (.aload_n 0, 1) := by decide +kernel
theorem dX7_tear_59 : decode cX7_tear 59 = .ok (.getfield 23, 3) := by decide +kernel
theorem dX7_tear_62 : decode cX7_tear 62 = .ok (.iload_n 1, 1) := by decide +kernel
theorem dX7_tear_63 : decode cX7_tear 63 = .ok (.iconst 0, 1) := by decide +kernel
theorem dX7_tear_64 : decode cX7_tear 64 = .ok (.iastore, 1) := by decide +kernel
theorem dX7_tear_65 : decode cX7_tear 65 = .ok (.aload_n 0, 1) := by decide +kernel
theorem dX7_tear_66 : decode cX7_tear 66 = .ok (.dup, 1) := by decide +kernel
theorem dX7_tear_67 : decode cX7_tear 67 = .ok (.getfield 7, 3) := by decide +kernel
theorem dX7_tear_70 : decode cX7_tear 70 = .ok (.iconst 5, 1) := by decide +kernel
theorem dX7_tear_71 : decode cX7_tear 71 = .ok (.isub, 1) := by decide +kernel
theorem dX7_tear_72 : decode cX7_tear 72 = .ok (.putfield 7, 3) := by decide +kernel
theorem dX7_tear_75 : decode cX7_tear 75 = .ok (.iload_n 3, 1) := by decide +kernel
theorem dX7_tear_76 : decode cX7_tear 76 = .ok (.ireturn, 1) := by decide +kernel
set_option maxRecDepth 20000 in
theorem ggX7_setTax_X7_isIn : GoodIn wsX7_setTax wsX7_isIn := goodIn_r _ [6] (by decide +kernel) (by decide +kernel)
set_option maxRecDepth 20000 in
theorem gX7_setTax_X7_isIn : GoodIn wsX7_setTax (va_wsS RX7 63 yX7_isIn wsX7_isIn) := goodIn_app (goodIn_of _ (by decide +kernel)) ggX7_setTax_X7_isIn
set_option maxRecDepth 20000 in
theorem ggX7_setTax_X7_fails : GoodIn wsX7_setTax wsX7_fails := goodIn_r _ [10, 11, 12, 13, 14, 15, 16, 17, 18, 19, 20, 21, 22, 23, 24, 25, 26, 27, 28, 29, 30] (by decide +kernel) (by decide +kernel)
set_option maxRecDepth 20000 in
theorem gX7_setTax_X7_fails : GoodIn wsX7_setTax (wsV RX7 108 RX7 yX7_fails wsX7_fails) := goodIn_app (goodIn_of _ (by decide +kernel)) ggX7_setTax_X7_fails
theorem dX7_setTax_0 : decode cX7_setTax 0 = .ok (.aload_n 0, 1) := by decide +kernel
theorem dX7_setTax_1 : decode cX7_setTax 1 = .ok (.iload_n 2, 1) := by decide +kernel
theorem dX7_setTax_2 : decode cX7_setTax 2 = .ok (.iconst 0, 1) := by decide +kernel
theorem dX7_setTax_3 : decode cX7_setTax 3 = .ok (.bipush 20, 2) := by decide +kernel
theorem dX7_setTax_5 : decode cX7_setTax 5 = .ok (.invokestatic 63, 3) := by decide +kernel
theorem dX7_setTax_8 : decode cX7_setTax 8 = .ok (.ifCond .eq 7, 3) := by decide +kernel
theorem dX7_setTax_11 : decode cX7_setTax 11 = .ok (.iconst 0, 1) := by decide +kernel
theorem dX7_setTax_12 : decode cX7_setTax 12 = .ok (.goto 4, 3) := by decide +kernel
theorem dX7_setTax_15 : decode cX7_setTax 15 = .ok (.iconst 1, 1) := by decide +kernel
theorem dX7_setTax_16 : decode cX7_setTax 16 = .ok (.invokevirtual 108, 3) := by decide +kernel
theorem dX7_setTax_19 : decode cX7_setTax 19 = .ok (.ifCond .eq 5, 3) := by decide +kernel
theorem dX7_setTax_22 : decode cX7_setTax 22 = .ok (.iconst 0, 1) := by decide +kernel
theorem dX7_setTax_23 : decode cX7_setTax 23 = .ok (.ireturn, 1) := by decide +kernel
theorem dX7_setTax_24 : decode cX7_setTax 24 = .ok (.iload_n 1, 1) := by decide +kernel
theorem dX7_setTax_25 : decode cX7_setTax 25 = .ok (.ifCond .eq 10, 3) := by decide +kernel
theorem dX7_setTax_28 : decode cX7_setTax 28 = .ok (.aload_n 0, 1) := by decide +kernel
theorem dX7_setTax_29 : decode cX7_setTax 29 = .ok (.getfield 16, 3) := by decide +kernel
theorem dX7_setTax_32 : decode cX7_setTax 32 = .ok (.goto 7, 3) := by decide +kernel
theorem dX7_setTax_35 : decode cX7_setTax 35 = .ok (.aload_n 0, 1) := by decide +kernel
theorem dX7_setTax_36 : decode cX7_setTax 36 = .ok (.getfield 13, 3) := by decide +kernel
theorem dX7_setTax_39 : decode cX7_setTax 39 = .ok (.istore_n 3, 1) := by decide +kernel
theorem dX7_setTax_40 : decode cX7_setTax 40 = .ok (.iload_n 1, 1) := by decide +kernel
theorem dX7_setTax_41 : decode cX7_setTax 41 = .ok (.ifCond .eq 11, 3) := by decide +kernel
theorem dX7_setTax_44 : decode cX7_setTax 44 = .ok (.aload_n 0, 1) := by decide +kernel
theorem dX7_setTax_45 : decode cX7_setTax 45 = .ok (.iload_n 2, 1) := by decide +kernel
theorem dX7_setTax_46 : decode cX7_setTax 46 = .ok (.putfield 16, 3) := by decide +kernel
theorem dX7_setTax_49 : decode cX7_setTax 49 = .ok (.goto 8, 3) := by decide +kernel
theorem dX7_setTax_52 : decode cX7_setTax 52 = .ok (.aload_n 0, 1) := by decide +kernel
theorem dX7_setTax_53 : decode cX7_setTax 53 = .ok (.iload_n 2, 1) := by decide +kernel
theorem dX7_setTax_54 : decode cX7_setTax 54 = .ok (.putfield 13, 3) := by decide +kernel
theorem dX7_setTax_57 : decode cX7_setTax 57 = .ok (.iload_n 3, 1) := by decide +kernel
theorem dX7_setTax_58 : decode cX7_setTax 58 = .ok (.ireturn, 1) := by decide +kernel
set_option maxRecDepth 20000 in
theorem ggX7_borrow_X7_isIn : GoodIn wsX7_borrow wsX7_isIn := goodIn_r _ [6] (by decide +kernel) (by decide +kernel)
set_option maxRecDepth 20000 in
theorem gX7_borrow_X7_isIn : GoodIn wsX7_borrow (va_wsS RX7 63 yX7_isIn wsX7_isIn) := goodIn_app (goodIn_of _ (by decide +kernel)) ggX7_borrow_X7_isIn
set_option maxRecDepth 20000 in
theorem ggX7_borrow_X7_fails : GoodIn wsX7_borrow wsX7_fails := goodIn_r _ [10, 11, 12, 13, 14, 15, 16, 17, 18, 19, 20, 21, 22, 23, 24, 25, 26, 27, 28, 29, 30] (by decide +kernel) (by decide +kernel)
set_option maxRecDepth 20000 in
theorem gX7_borrow_X7_fails : GoodIn wsX7_borrow (wsV RX7 108 RX7 yX7_fails wsX7_fails) := goodIn_app (goodIn_of _ (by decide +kernel)) ggX7_borrow_X7_fails
theorem dX7_borrow_0 : decode cX7_borrow 0 = .ok (.aload_n 0, 1) := by decide +kernel
theorem dX7_borrow_1 : decode cX7_borrow 1 = .ok (.iload_n 1, 1) := by decide +kernel
theorem dX7_borrow_2 : decode cX7_borrow 2 = .ok (.iconst 1, 1) := by decide +kernel
theorem dX7_borrow_3 : decode cX7_borrow 3 = .ok (.sipush 1000, 3) := by decide +kernel
theorem dX7_borrow_6 : decode cX7_borrow 6 = .ok (.invokestatic 63, 3) := by decide +kernel
theorem dX7_borrow_9 : decode cX7_borrow 9 = .ok (.ifCond .ne 7, 3) := by decide +kernel
theorem dX7_borrow_12 : decode cX7_borrow 12 = .ok (.iconst 1, 1) := by decide +kernel
theorem dX7_borrow_13 : decode cX7_borrow 13 = .ok (.goto 20, 3) := by decide +kernel
theorem dX7_borrow_16 : decode cX7_borrow 16 = .ok (.aload_n 0, 1) := by decide +kernel
theorem dX7_borrow_17 : decode cX7_borrow 17 = .ok (.getfield 111, 3) := by decide +kernel
theorem dX7_borrow_20 : decode cX7_borrow 20 = .ok (.iload_n 1, 1) := by decide +kernel
theorem dX7_borrow_21 : decode cX7_borrow 21 = .ok (.iadd, 1) := by decide +kernel
theorem dX7_borrow_22 : decode cX7_borrow 22 = .ok (.sipush 5000, 3) := by decide +kernel
theorem dX7_borrow_25 : decode cX7_borrow 25 = .ok (.if_icmp .le 7, 3) := by decide +kernel
theorem dX7_borrow_28 : decode cX7_borrow 28 = .ok (.iconst 2, 1) := by decide +kernel
theorem dX7_borrow_29 : decode cX7_borrow 29 = .ok (.goto 4, 3) := by decide +kernel
theorem dX7_borrow_32 : decode cX7_borrow 32 = .ok (.iconst 0, 1) := by decide +kernel
theorem dX7_borrow_33 : decode cX7_borrow 33 = .ok (.invokevirtual 108, 3) := by decide +kernel
theorem dX7_borrow_36 : decode cX7_borrow 36 = .ok (.ifCond .eq 5, 3) := by decide +kernel
theorem dX7_borrow_39 : decode cX7_borrow 39 = .ok (.iconst 0, 1) := by decide +kernel
theorem dX7_borrow_40 : decode cX7_borrow 40 = .ok (.ireturn, 1) := by decide +kernel
theorem dX7_borrow_41 : decode cX7_borrow 41 = .ok (.aload_n 0, 1) := by decide +kernel
theorem dX7_borrow_42 : decode cX7_borrow 42 = .ok (.dup, 1) := by decide +kernel
theorem dX7_borrow_43 : decode cX7_borrow 43 = .ok (.getfield 111, 3) := by decide +kernel
theorem dX7_borrow_46 : decode cX7_borrow 46 = .ok (.iload_n 1, 1) := by decide +kernel
theorem dX7_borrow_47 : decode cX7_borrow 47 = .ok (.iadd, 1) := by decide +kernel
theorem dX7_borrow_48 : decode cX7_borrow 48 = .ok (.putfield 111, 3) := by decide +kernel
theorem dX7_borrow_51 : decode cX7_borrow 51 = .ok (.aload_n 0, 1) := by decide +kernel
theorem dX7_borrow_52 : decode cX7_borrow 52 = .ok (.dup, 1) := by decide +kernel
theorem dX7_borrow_53 : decode cX7_borrow 53 = .ok (.getfield 7, 3) := by decide +kernel
theorem dX7_borrow_56 : decode cX7_borrow 56 = .ok (.iload_n 1, 1) := by decide +kernel
theorem dX7_borrow_57 : decode cX7_borrow 57 = .ok (.iadd, 1) := by decide +kernel
theorem dX7_borrow_58 : decode cX7_borrow 58 = .ok (.putfield 7, 3) := by decide +kernel
theorem dX7_borrow_61 : decode cX7_borrow 61 = .ok (.aload_n 0, 1) := by decide +kernel
theorem dX7_borrow_62 : decode cX7_borrow 62 = .ok (.getfield 111, 3) := by decide +kernel
theorem dX7_borrow_65 : decode cX7_borrow 65 = .ok (.ireturn, 1) := by decide +kernel
set_option maxRecDepth 20000 in
theorem ggX7_repay_X7_isIn : GoodIn wsX7_repay wsX7_isIn := goodIn_r _ [6] (by decide +kernel) (by decide +kernel)
set_option maxRecDepth 20000 in
theorem gX7_repay_X7_isIn : GoodIn wsX7_repay (va_wsS RX7 63 yX7_isIn wsX7_isIn) := goodIn_app (goodIn_of _ (by decide +kernel)) ggX7_repay_X7_isIn
set_option maxRecDepth 20000 in
theorem ggX7_repay_X7_fails : GoodIn wsX7_repay wsX7_fails := goodIn_r _ [10, 11, 12, 13, 14, 15, 16, 17, 18, 19, 20, 21, 22, 23, 24, 25, 26, 27, 28, 29, 30] (by decide +kernel) (by decide +kernel)
set_option maxRecDepth 20000 in
theorem gX7_repay_X7_fails : GoodIn wsX7_repay (wsV RX7 108 RX7 yX7_fails wsX7_fails) := goodIn_app (goodIn_of _ (by decide +kernel)) ggX7_repay_X7_fails
theorem dX7_repay_0 : decode cX7_repay 0 = .ok (.aload_n 0, 1) := by decide +kernel
theorem dX7_repay_1 : decode cX7_repay 1 = .ok (.iload_n 1, 1) := by decide +kernel
theorem dX7_repay_2 : decode cX7_repay 2 = .ok (.iconst 1, 1) := by decide +kernel
theorem dX7_repay_3 : decode cX7_repay 3 = .ok (.sipush 5000, 3) := by decide +kernel
theorem dX7_repay_6 : decode cX7_repay 6 = .ok (.invokestatic 63, 3) := by decide +kernel
theorem dX7_repay_9 : decode cX7_repay 9 = .ok (.ifCond .ne 7, 3) := by decide +kernel
theorem dX7_repay_12 : decode cX7_repay 12 = .ok (.iconst 1, 1) := by decide +kernel
theorem dX7_repay_13 : decode cX7_repay 13 = .ok (.goto 24, 3) := by decide +kernel
theorem dX7_repay_16 : decode cX7_repay 16 = .ok (.iload_n 1, 1) := by decide +kernel
theorem dX7_repay_17 : decode cX7_repay 17 = .ok (.aload_n 0, 1) := by decide +kernel
theorem dX7_repay_18 : decode cX7_repay 18 = .ok (.getfield 111, 3) := by decide +kernel
theorem dX7_repay_21 : decode cX7_repay 21 = .ok (.if_icmp .gt 11, 3) := by decide +kernel
theorem dX7_repay_24 : decode cX7_repay 24 = .ok (.iload_n 1, 1) := by decide +kernel
theorem dX7_repay_25 : decode cX7_repay 25 = .ok (.aload_n 0, 1) := by decide +kernel
theorem dX7_repay_26 : decode cX7_repay 26 = .ok (.getfield 7, 3) := by decide +kernel
theorem dX7_repay_29 : decode cX7_repay 29 = .ok (.if_icmp .le 7, 3) := by decide +kernel
theorem dX7_repay_32 : decode cX7_repay 32 = .ok (.iconst 2, 1) := by decide +kernel
theorem dX7_repay_33 : decode cX7_repay 33 = .ok (.goto 4, 3) := by decide +kernel
theorem dX7_repay_36 : decode cX7_repay 36 = .ok (.iconst 0, 1) := by decide +kernel
theorem dX7_repay_37 : decode cX7_repay 37 = .ok (.invokevirtual 108, 3) := by decide +kernel
theorem dX7_repay_40 : decode cX7_repay 40 = .ok (.ifCond .eq 5, 3) := by decide +kernel
theorem dX7_repay_43 : decode cX7_repay 43 = .ok (.iconst 0, 1) := by decide +kernel
theorem dX7_repay_44 : decode cX7_repay 44 = .ok (.ireturn, 1) := by decide +kernel
theorem dX7_repay_45 : decode cX7_repay 45 = .ok (.aload_n 0, 1) := by decide +kernel
theorem dX7_repay_46 : decode cX7_repay 46 = .ok (.dup, 1) := by decide +kernel
theorem dX7_repay_47 : decode cX7_repay 47 = .ok (.getfield 111, 3) := by decide +kernel
theorem dX7_repay_50 : decode cX7_repay 50 = .ok (.iload_n 1, 1) := by decide +kernel
theorem dX7_repay_51 : decode cX7_repay 51 = .ok (.isub, 1) := by decide +kernel
theorem dX7_repay_52 : decode cX7_repay 52 = .ok (.putfield 111, 3) := by decide +kernel
theorem dX7_repay_55 : decode cX7_repay 55 = .ok (.aload_n 0, 1) := by decide +kernel
theorem dX7_repay_56 : decode cX7_repay 56 = .ok (.dup, 1) := by decide +kernel
theorem dX7_repay_57 : decode cX7_repay 57 = .ok (.getfield 7, 3) := by decide +kernel
theorem dX7_repay_60 : decode cX7_repay 60 = .ok (.iload_n 1, 1) := by decide +kernel
theorem dX7_repay_61 : decode cX7_repay 61 = .ok (.isub, 1) := by decide +kernel
theorem dX7_repay_62 : decode cX7_repay 62 = .ok (.putfield 7, 3) := by decide +kernel
theorem dX7_repay_65 : decode cX7_repay 65 = .ok (.aload_n 0, 1) := by decide +kernel
theorem dX7_repay_66 : decode cX7_repay 66 = .ok (.getfield 111, 3) := by decide +kernel
theorem dX7_repay_69 : decode cX7_repay 69 = .ok (.ireturn, 1) := by decide +kernel
set_option maxRecDepth 20000 in
theorem ggX7_changeOf_X7_valueOf : GoodIn wsX7_changeOf wsX7_valueOf := goodIn_r _ [10, 3, 11, 12, 13, 14, 9, 15, 16, 17, 18, 19, 20, 21, 22, 23, 24, 25, 26, 27, 28, 29, 30, 31, 32, 33, 34] (by decide +kernel) (by decide +kernel)
set_option maxRecDepth 20000 in
theorem gX7_changeOf_X7_valueOf : GoodIn wsX7_changeOf (wsV RX7 114 RX7 yX7_valueOf wsX7_valueOf) := goodIn_app (goodIn_of _ (by decide +kernel)) ggX7_changeOf_X7_valueOf
theorem dX7_changeOf_0 : decode cX7_changeOf 0 = .ok (.aload_n 0, 1) := by decide +kernel
theorem dX7_changeOf_1 : decode cX7_changeOf 1 = .ok (.getfield 44, 3) := by decide +kernel
theorem dX7_changeOf_4 : decode cX7_changeOf 4 = .ok (.iload_n 1, 1) := by decide +kernel
theorem dX7_changeOf_5 : decode cX7_changeOf 5 = .ok (.baload, 1) := by decide +kernel
theorem dX7_changeOf_6 : decode cX7_changeOf 6 = .ok (.ifCond .ne 18, 3) := by decide +kernel
theorem dX7_changeOf_9 : decode cX7_changeOf 9 = .ok (.aload_n 0, 1) := by decide +kernel
theorem dX7_changeOf_10 : decode cX7_changeOf 10 = .ok (.getfield 23, 3) := by decide +kernel
theorem dX7_changeOf_13 : decode cX7_changeOf 13 = .ok (.iload_n 1, 1) := by decide +kernel
theorem dX7_changeOf_14 : decode cX7_changeOf 14 = .ok (.iaload, 1) := by decide +kernel
theorem dX7_changeOf_15 : decode cX7_changeOf 15 = .ok (.ifCond .le 7, 3) := by decide +kernel
theorem dX7_changeOf_18 : decode cX7_changeOf 18 = .ok (.iconst (-1), 1) := by decide +kernel
theorem dX7_changeOf_19 : decode cX7_changeOf 19 = .ok (.goto 4, 3) := by decide +kernel
theorem dX7_changeOf_22 : decode cX7_changeOf 22 = .ok (.iconst 0, 1) := by decide +kernel
theorem dX7_changeOf_23 : decode cX7_changeOf 23 = .ok (.ireturn, 1) := by decide +kernel
theorem dX7_changeOf_24 : decode cX7_changeOf 24 = .ok (.iconst 2, 1) := by decide +kernel
theorem dX7_changeOf_25 : decode cX7_changeOf 25 = .ok (.aload_n 0, 1) := by decide +kernel
theorem dX7_changeOf_26 : decode cX7_changeOf 26 = .ok (.getfield 23, 3) := by decide +kernel
theorem dX7_changeOf_29 : decode cX7_changeOf 29 = .ok (.iload_n 1, 1) := by decide +kernel
theorem dX7_changeOf_30 : decode cX7_changeOf 30 = .ok (.iaload, 1) := by decide +kernel
theorem dX7_changeOf_31 : decode cX7_changeOf 31 = .ok (.imul, 1) := by decide +kernel
theorem dX7_changeOf_32 : decode cX7_changeOf 32 = .ok (.istore_n 2, 1) := by decide +kernel
theorem dX7_changeOf_33 : decode cX7_changeOf 33 = .ok (.aload_n 0, 1) := by decide +kernel
theorem dX7_changeOf_34 : decode cX7_changeOf 34 = .ok (.getfield 19, 3) := by decide +kernel
theorem dX7_changeOf_37 : decode cX7_changeOf 37 = .ok (.iload_n 1, 1) := by decide +kernel
theorem dX7_changeOf_38 : decode cX7_changeOf 38 = .ok (.iaload, 1) := by decide +kernel
theorem dX7_changeOf_39 : decode cX7_changeOf 39 = .ok (.iconst 2, 1) := by decide +kernel
theorem dX7_changeOf_40 : decode cX7_changeOf 40 = .ok (.if_icmp .ne 25, 3) := by decide +kernel
theorem dX7_changeOf_43 : decode cX7_changeOf 43 = .ok (.iconst 2, 1) := by decide +kernel
theorem dX7_changeOf_44 : decode cX7_changeOf 44 = .ok (.iload_n 2, 1) := by decide +kernel
theorem dX7_changeOf_45 : decode cX7_changeOf 45 = .ok (.aload_n 0, 1) := by decide +kernel
theorem dX7_changeOf_46 : decode cX7_changeOf 46 = .ok (.getfield 48, 3) := by decide +kernel
theorem dX7_changeOf_49 : decode cX7_changeOf 49 = .ok (.iload_n 1, 1) := by decide +kernel
theorem dX7_changeOf_50 : decode cX7_changeOf 50 = .ok (.iaload, 1) := by decide +kernel
theorem dX7_changeOf_51 : decode cX7_changeOf 51 = .ok (.isub, 1) := by decide +kernel
theorem dX7_changeOf_52 : decode cX7_changeOf 52 = .ok (.imul, 1) := by decide +kernel
theorem dX7_changeOf_53 : decode cX7_changeOf 53 = .ok (.iload_n 2, 1) := by decide +kernel
theorem dX7_changeOf_54 : decode cX7_changeOf 54 = .ok (.if_icmp .le 7, 3) := by decide +kernel
theorem dX7_changeOf_57 : decode cX7_changeOf 57 = .ok (.iconst 1, 1) := by decide +kernel
theorem dX7_changeOf_58 : decode cX7_changeOf 58 = .ok (.goto 30, 3) := by decide +kernel
theorem dX7_changeOf_61 : decode cX7_changeOf 61 = .ok (.iconst 0, 1) := by decide +kernel
theorem dX7_changeOf_62 : decode cX7_changeOf 62 = .ok (.goto 26, 3) := by decide +kernel
theorem dX7_changeOf_65 : decode cX7_changeOf 65 = .ok (.aload_n 0, 1) := by decide +kernel
theorem dX7_changeOf_66 : decode cX7_changeOf 66 = .ok (.getfield 23, 3) := by decide +kernel
theorem dX7_changeOf_69 : decode cX7_changeOf 69 = .ok (.iload_n 1, 1) := by decide +kernel
theorem dX7_changeOf_70 : decode cX7_changeOf 70 = .ok (.iaload, 1) := by decide +kernel
theorem dX7_changeOf_71 : decode cX7_changeOf 71 = .ok (.ifCond .le 16, 3) := by decide +kernel
theorem dX7_changeOf_74 : decode cX7_changeOf 74 = .ok (.aload_n 0, 1) := by decide +kernel
theorem dX7_changeOf_75 : decode cX7_changeOf 75 = .ok (.getfield 48, 3) := by decide +kernel
theorem dX7_changeOf_78 : decode cX7_changeOf 78 = .ok (.iload_n 1, 1) := by decide +kernel
theorem dX7_changeOf_79 : decode cX7_changeOf 79 = .ok (.iaload, 1) := by decide +kernel
theorem dX7_changeOf_80 : decode cX7_changeOf 80 = .ok (.ifCond .ne 7, 3) := by decide +kernel
theorem dX7_changeOf_83 : decode cX7_changeOf 83 = .ok (.iconst 1, 1) := by decide +kernel
theorem dX7_changeOf_84 : decode cX7_changeOf 84 = .ok (.goto 4, 3) := by decide +kernel
theorem dX7_changeOf_87 : decode cX7_changeOf 87 = .ok (.iconst 0, 1) := by decide +kernel
theorem dX7_changeOf_88 : decode cX7_changeOf 88 = .ok (.istore_n 3, 1) := by decide +kernel
theorem dX7_changeOf_89 : decode cX7_changeOf 89 = .ok (.iload_n 3, 1) := by decide +kernel
theorem dX7_changeOf_90 : decode cX7_changeOf 90 = .ok (.ifCond .eq 5, 3) := by decide +kernel
theorem dX7_changeOf_93 : decode cX7_changeOf 93 = .ok (.iconst (-1), 1) := by decide +kernel
theorem dX7_changeOf_94 : decode cX7_changeOf 94 = .ok (.ireturn, 1) := by decide +kernel
theorem dX7_changeOf_95 : decode cX7_changeOf 95 = .ok (.aload_n 0, 1) := by decide +kernel
theorem dX7_changeOf_96 : decode cX7_changeOf 96 = .ok (.getfield 7, 3) := by decide +kernel
theorem dX7_changeOf_99 : decode cX7_changeOf 99 = .ok (.ifCond .lt 45, 3) := by decide +kernel
theorem dX7_changeOf_102 : decode cX7_changeOf 102 = .ok (.aload_n 0, 1) := by decide +kernel
theorem dX7_changeOf_103 : decode cX7_changeOf 103 = .ok (.getfield 23, 3) := by decide +kernel
theorem dX7_changeOf_106 : decode cX7_changeOf 106 = .ok (.iload_n 1, 1) := by decide +kernel
theorem dX7_changeOf_107 : decode cX7_changeOf 107 = .ok (.iaload, 1) := by decide +kernel
theorem dX7_changeOf_108 : decode cX7_changeOf 108 = .ok (.iconst 3, 1) := by decide +kernel
theorem dX7_changeOf_109 : decode cX7_changeOf 109 = .ok (.if_icmp .ge 35, 3) := by decide +kernel
theorem dX7_changeOf_112 : decode cX7_changeOf 112 = .ok (.aload_n 0, 1) := by decide +kernel
theorem dX7_changeOf_113 : decode cX7_changeOf 113 = .ok (.iload_n 1, 1) := by decide +kernel
theorem dX7_changeOf_114 : decode cX7_changeOf 114 = .ok (.invokevirtual 114, 3) := by decide +kernel
theorem dX7_changeOf_117 : decode cX7_changeOf 117 = .ok (.iconst 5, 1) := by decide +kernel
theorem dX7_changeOf_118 : decode cX7_changeOf 118 = .ok (.aload_n 0, 1) := by decide +kernel
theorem dX7_changeOf_119 : decode cX7_changeOf 119 = .ok (.getfield 23, 3) := by decide +kernel
theorem dX7_changeOf_122 : decode cX7_changeOf 122 = .ok (.iload_n 1, 1) := by decide +kernel
theorem dX7_changeOf_123 : decode cX7_changeOf 123 = .ok (.iaload, 1) := by decide +kernel
theorem dX7_changeOf_124 : decode cX7_changeOf 124 = .ok (.iconst 1, 1) := by decide +kernel
theorem dX7_changeOf_125 : decode cX7_changeOf 125 = .ok (.iadd, 1) := by decide +kernel
theorem dX7_changeOf_126 : decode cX7_changeOf 126 = .ok (.imul, 1) := by decide +kernel
theorem dX7_changeOf_127 : decode cX7_changeOf 127 = .ok (.if_icmp .lt 17, 3) := by decide +kernel
theorem dX7_changeOf_130 : decode cX7_changeOf 130 = .ok (.aload_n 0, 1) := by decide +kernel
theorem dX7_changeOf_131 : decode cX7_changeOf 131 = .ok (.getfield 48, 3) := by decide +kernel
theorem dX7_changeOf_134 : decode cX7_changeOf 134 = .ok (.iload_n 1, 1) := by decide +kernel
theorem dX7_changeOf_135 : decode cX7_changeOf 135 = .ok (.iaload, 1) := by decide +kernel
theorem dX7_changeOf_136 : decode cX7_changeOf 136 = .ok (.iload_n 2, 1) := by decide +kernel
theorem dX7_changeOf_137 : decode cX7_changeOf 137 = .ok (.if_icmp .ne 7, 3) := by decide +kernel
theorem dX7_changeOf_140 : decode cX7_changeOf 140 = .ok (.iconst 1, 1) := by decide +kernel
theorem dX7_changeOf_141 : decode cX7_changeOf 141 = .ok (.goto 4, 3) := by decide +kernel
theorem dX7_changeOf_144 : decode cX7_changeOf 144 = .ok (.iconst 0, 1) := by decide +kernel
theorem dX7_changeOf_145 : decode cX7_changeOf 145 = .ok (.ireturn, 1) := by decide +kernel
set_option maxRecDepth 20000 in
theorem ggX7_lives_X7_finds : GoodIn wsX7_lives wsX7_finds := goodIn_r _ [14, 15, 16, 17, 13, 18, 19, 2, 20, 21, 22, 23, 24, 25, 26, 27, 28, 29, 30, 31, 32, 33, 34, 35, 36, 37, 38, 39, 9, 40, 41, 42, 43, 44, 45, 46, 47, 48, 4, 49, 50, 51, 52, 53, 54, 55, 56, 57, 69, 70, 71, 72, 73, 74, 75, 76, 77, 78, 79, 80, 81, 82, 83, 84, 85, 86, 87] (by decide +kernel) (by decide +kernel)
set_option maxRecDepth 20000 in
theorem gX7_lives_X7_finds : GoodIn wsX7_lives (wsV RX7 117 RX7 yX7_finds wsX7_finds) := goodIn_app (goodIn_of _ (by decide +kernel)) ggX7_lives_X7_finds
set_option maxRecDepth 20000 in
theorem ggX7_lives_X7_isZone : GoodIn wsX7_lives wsX7_isZone := goodIn_r _ [44, 2, 69, 70, 71, 72, 73, 74, 75, 76, 77, 78, 79, 80, 81, 82, 83, 84, 85, 86, 87] (by decide +kernel) (by decide +kernel)
set_option maxRecDepth 20000 in
theorem gX7_lives_X7_isZone : GoodIn wsX7_lives (wsV RX7 79 RX7 yX7_isZone wsX7_isZone) := goodIn_app (goodIn_of _ (by decide +kernel)) ggX7_lives_X7_isZone
set_option maxRecDepth 20000 in
theorem ggX7_lives_X7_changeOf : GoodIn wsX7_lives wsX7_changeOf := goodIn_r _ [61, 40, 9, 2, 4, 6, 62, 63, 64, 13, 65, 19, 49, 66, 67, 68, 69, 70, 71, 72, 73, 74, 75, 76, 77, 78, 79, 80, 81, 82, 83, 84, 85, 86, 87] (by decide +kernel) (by decide +kernel)
set_option maxRecDepth 20000 in
theorem gX7_lives_X7_changeOf : GoodIn wsX7_lives (wsV RX7 123 RX7 yX7_changeOf wsX7_changeOf) := goodIn_app (goodIn_of _ (by decide +kernel)) ggX7_lives_X7_changeOf
theorem dX7_lives_0 : decode cX7_lives 0 = .ok (.aload_n 0, 1) := by decide +kernel
theorem dX7_lives_1 : decode cX7_lives 1 = .ok (.invokevirtual 117, 3) := by decide +kernel
theorem dX7_lives_4 : decode cX7_lives 4 = .ok (.aload_n 0, 1) := by decide +kernel
theorem dX7_lives_5 : decode cX7_lives 5 = .ok (.getfield 111, 3) := by decide +kernel
theorem dX7_lives_8 : decode cX7_lives 8 = .ok (.bipush 99, 2) := by decide +kernel
theorem dX7_lives_10 : decode cX7_lives 10 = .ok (.iadd, 1) := by decide +kernel
theorem dX7_lives_11 : decode cX7_lives 11 = .ok (.bipush 100, 2) := by decide +kernel
theorem dX7_lives_13 : decode cX7_lives 13 = .ok (.idiv, 1) := by decide +kernel
theorem dX7_lives_14 : decode cX7_lives 14 = .ok (.ineg, 1) := by decide +kernel
theorem dX7_lives_15 : decode cX7_lives 15 = .ok (.istore_n 1, 1) := by decide +kernel
theorem dX7_lives_16 : decode cX7_lives 16 = .ok (.iconst 0, 1) := by decide +kernel
theorem dX7_lives_17 : decode cX7_lives 17 = .ok (.istore_n 2, 1) := by decide +kernel
theorem dX7_lives_18 : decode cX7_lives 18 = .ok (.iload_n 2, 1) := by decide +kernel
theorem dX7_lives_19 : decode cX7_lives 19 = .ok (.bipush 64, 2) := by decide +kernel
theorem dX7_lives_21 : decode cX7_lives 21 = .ok (.if_icmp .ge 119, 3) := by decide +kernel
theorem dX7_lives_24 : decode cX7_lives 24 = .ok (.iload_n 1, 1) := by decide +kernel
theorem dX7_lives_25 : decode cX7_lives 25 = .ok (.aload_n 0, 1) := by decide +kernel
theorem dX7_lives_26 : decode cX7_lives 26 = .ok (.getfield 19, 3) := by decide +kernel
theorem dX7_lives_29 : decode cX7_lives 29 = .ok (.iload_n 2, 1) := by decide +kernel
theorem dX7_lives_30 : decode cX7_lives 30 = .ok (.iaload, 1) := by decide +kernel
theorem dX7_lives_31 : decode cX7_lives 31 = .ok (.iconst 2, 1) := by decide +kernel
theorem dX7_lives_32 : decode cX7_lives 32 = .ok (.if_icmp .ne 17, 3) := by decide +kernel
theorem dX7_lives_35 : decode cX7_lives 35 = .ok (.aload_n 0, 1) := by decide +kernel
theorem dX7_lives_36 : decode cX7_lives 36 = .ok (.getfield 13, 3) := by decide +kernel
theorem dX7_lives_39 : decode cX7_lives 39 = .ok (.aload_n 0, 1) := by decide +kernel
theorem dX7_lives_40 : decode cX7_lives 40 = .ok (.getfield 48, 3) := by decide +kernel
theorem dX7_lives_43 : decode cX7_lives 43 = .ok (.iload_n 2, 1) := by decide +kernel
theorem dX7_lives_44 : decode cX7_lives 44 = .ok (.iaload, 1) := by decide +kernel
theorem dX7_lives_45 : decode cX7_lives 45 = .ok (.imul, 1) := by decide +kernel
theorem dX7_lives_46 : decode cX7_lives 46 = .ok (.goto 28, 3) := by decide +kernel
theorem dX7_lives_49 : decode cX7_lives 49 = .ok (.aload_n 0, 1) := by decide +kernel
theorem dX7_lives_50 : decode cX7_lives 50 = .ok (.getfield 19, 3) := by decide +kernel
theorem dX7_lives_53 : decode cX7_lives 53 = .ok (.iload_n 2, 1) := by decide +kernel
theorem dX7_lives_54 : decode cX7_lives 54 = .ok (.iaload, 1) := by decide +kernel
theorem dX7_lives_55 : decode cX7_lives 55 = .ok (.iconst 3, 1) := by decide +kernel
theorem dX7_lives_56 : decode cX7_lives 56 = .ok (.if_icmp .ne 17, 3) := by decide +kernel
theorem dX7_lives_59 : decode cX7_lives 59 = .ok (.aload_n 0, 1) := by decide +kernel
theorem dX7_lives_60 : decode cX7_lives 60 = .ok (.getfield 16, 3) := by decide +kernel
theorem dX7_lives_63 : decode cX7_lives 63 = .ok (.aload_n 0, 1) := by decide +kernel
theorem dX7_lives_64 : decode cX7_lives 64 = .ok (.getfield 48, 3) := by decide +kernel
theorem dX7_lives_67 : decode cX7_lives 67 = .ok (.iload_n 2, 1) := by decide +kernel
theorem dX7_lives_68 : decode cX7_lives 68 = .ok (.iaload, 1) := by decide +kernel
theorem dX7_lives_69 : decode cX7_lives 69 = .ok (.imul, 1) := by decide +kernel
theorem dX7_lives_70 : decode cX7_lives 70 = .ok (.goto 4, 3) := by decide +kernel
theorem dX7_lives_73 : decode cX7_lives 73 = .ok (.iconst 0, 1) := by decide +kernel
theorem dX7_lives_74 : decode cX7_lives 74 = .ok (.iadd, 1) := by decide +kernel
theorem dX7_lives_75 : decode cX7_lives 75 = .ok (.istore_n 1, 1) := by decide +kernel
theorem dX7_lives_76 : decode cX7_lives 76 = .ok (.iload_n 1, 1) := by decide +kernel
theorem dX7_lives_77 : decode cX7_lives 77 = .ok (.aload_n 0, 1) := by decide +kernel
theorem dX7_lives_78 : decode cX7_lives 78 = .ok (.getfield 19, 3) := by decide +kernel
theorem dX7_lives_81 : decode cX7_lives 81 = .ok (.iload_n 2, 1) := by decide +kernel
theorem dX7_lives_82 : decode cX7_lives 82 = .ok (.iaload, 1) := by decide +kernel
theorem dX7_lives_83 : decode cX7_lives 83 = .ok (.iconst 1, 1) := by decide +kernel
theorem dX7_lives_84 : decode cX7_lives 84 = .ok (.if_icmp .ne 7, 3) := by decide +kernel
theorem dX7_lives_87 : decode cX7_lives 87 = .ok (.iconst 1, 1) := by decide +kernel
theorem dX7_lives_88 : decode cX7_lives 88 = .ok (.goto 44, 3) := by decide +kernel
theorem dX7_lives_91 : decode cX7_lives 91 = .ok (.aload_n 0, 1) := by decide +kernel
theorem dX7_lives_92 : decode cX7_lives 92 = .ok (.getfield 19, 3) := by decide +kernel
theorem dX7_lives_95 : decode cX7_lives 95 = .ok (.iload_n 2, 1) := by decide +kernel
theorem dX7_lives_96 : decode cX7_lives 96 = .ok (.iaload, 1) := by decide +kernel
theorem dX7_lives_97 : decode cX7_lives 97 = .ok (.iconst 4, 1) := by decide +kernel
theorem dX7_lives_98 : decode cX7_lives 98 = .ok (.if_icmp .ne 7, 3) := by decide +kernel
theorem dX7_lives_101 : decode cX7_lives 101 = .ok (.iconst 2, 1) := by decide +kernel
theorem dX7_lives_102 : decode cX7_lives 102 = .ok (.goto 30, 3) := by decide +kernel
theorem dX7_lives_105 : decode cX7_lives 105 = .ok (.aload_n 0, 1) := by decide +kernel
theorem dX7_lives_106 : decode cX7_lives 106 = .ok (.getfield 19, 3) := by decide +kernel
theorem dX7_lives_109 : decode cX7_lives 109 = .ok (.iload_n 2, 1) := by decide +kernel
theorem dX7_lives_110 : decode cX7_lives 110 = .ok (.iaload, 1) := by decide +kernel
theorem dX7_lives_111 : decode cX7_lives 111 = .ok (.iconst 5, 1) := by decide +kernel
theorem dX7_lives_112 : decode cX7_lives 112 = .ok (.if_icmp .eq 14, 3) := by decide +kernel
theorem dX7_lives_115 : decode cX7_lives 115 = .ok (.aload_n 0, 1) := by decide +kernel
theorem dX7_lives_116 : decode cX7_lives 116 = .ok (.getfield 19, 3) := by decide +kernel
theorem dX7_lives_119 : decode cX7_lives 119 = .ok (.iload_n 2, 1) := by decide +kernel
theorem dX7_lives_120 : decode cX7_lives 120 = .ok (.iaload, 1) := by decide +kernel
theorem dX7_lives_121 : decode cX7_lives 121 = .ok (.bipush 6, 2) := by decide +kernel
theorem dX7_lives_123 : decode cX7_lives 123 = .ok (.if_icmp .ne 8, 3) := by decide +kernel
theorem dX7_lives_126 : decode cX7_lives 126 = .ok (.bipush 10, 2) := by decide +kernel
theorem dX7_lives_128 : decode cX7_lives 128 = .ok (.goto 4, 3) := by decide +kernel
theorem dX7_lives_131 : decode cX7_lives 131 = .ok (.iconst 0, 1) := by decide +kernel
theorem dX7_lives_132 : decode cX7_lives 132 = .ok (.isub, 1) := by decide +kernel
theorem dX7_lives_133 : decode cX7_lives 133 = .ok (.istore_n 1, 1) := by decide +kernel
theorem dX7_lives_134 : decode cX7_lives 134 = .ok (.iinc 2 1, 3) := by decide +kernel
theorem dX7_lives_137 : decode cX7_lives 137 = .ok (.goto (-119), 3) := by decide +kernel
theorem dX7_lives_140 : decode cX7_lives 140 = .ok (.aload_n 0, 1) := by decide +kernel
theorem dX7_lives_141 : decode cX7_lives 141 = .ok (.dup, 1) := by decide +kernel
theorem dX7_lives_142 : decode cX7_lives 142 = .ok (.getfield 7, 3) := by decide +kernel
theorem dX7_lives_145 : decode cX7_lives 145 = .ok (.iload_n 1, 1) := by decide +kernel
theorem dX7_lives_146 : decode cX7_lives 146 = .ok (.iadd, 1) := by decide +kernel
theorem dX7_lives_147 : decode cX7_lives 147 = .ok (.putfield 7, 3) := by decide +kernel
theorem dX7_lives_150 : decode cX7_lives 150 = .ok (.aload_n 0, 1) := by decide +kernel
theorem dX7_lives_151 : decode cX7_lives 151 = .ok (.dup, 1) := by decide +kernel
theorem dX7_lives_152 : decode cX7_lives 152 = .ok (.getfield 120, 3) := by decide +kernel
theorem dX7_lives_155 : decode cX7_lives 155 = .ok (.iload_n 1, 1) := by decide +kernel
theorem dX7_lives_156 : decode cX7_lives 156 = .ok (.iadd, 1) := by decide +kernel
theorem dX7_lives_157 : decode cX7_lives 157 = .ok (.putfield 120, 3) := by decide +kernel
theorem dX7_lives_160 : decode cX7_lives 160 = .ok (.iconst 0, 1) := by decide +kernel
theorem dX7_lives_161 : decode cX7_lives 161 = .ok (.istore_n 2, 1) := by decide +kernel
theorem dX7_lives_162 : decode cX7_lives 162 = .ok (.iload_n 2, 1) := by decide +kernel
theorem dX7_lives_163 : decode cX7_lives 163 = .ok (.bipush 64, 2) := by decide +kernel
theorem dX7_lives_165 : decode cX7_lives 165 = .ok (.if_icmp .ge 32, 3) := by decide +kernel
theorem dX7_lives_168 : decode cX7_lives 168 = .ok (.aload_n 0, 1) := by decide +kernel
theorem dX7_lives_169 : decode cX7_lives 169 = .ok (.getfield 57, 3) := by decide +kernel
theorem dX7_lives_172 : decode cX7_lives 172 = .ok (.iload_n 2, 1) := by decide +kernel
theorem dX7_lives_173 : decode cX7_lives 173 = .ok (.aload_n 0, 1) := by decide +kernel
theorem dX7_lives_174 : decode cX7_lives 174 = .ok (.iload_n 2, 1) := by decide +kernel
theorem dX7_lives_175 : decode cX7_lives 175 = .ok (.invokevirtual 79, 3) := by decide +kernel
theorem dX7_lives_178 : decode cX7_lives 178 = .ok (.ifCond .eq 11, 3) := by decide +kernel
theorem dX7_lives_181 : decode cX7_lives 181 = .ok (.aload_n 0, 1) := by decide +kernel
theorem dX7_lives_182 : decode cX7_lives 182 = .ok (.iload_n 2, 1) := by decide +kernel
theorem dX7_lives_183 : decode cX7_lives 183 = .ok (.invokevirtual 123, 3) := by decide +kernel
theorem dX7_lives_186 : decode cX7_lives 186 = .ok (.goto 4, 3) := by decide +kernel
theorem dX7_lives_189 : decode cX7_lives 189 = .ok (.iconst 0, 1) := by decide +kernel
theorem dX7_lives_190 : decode cX7_lives 190 = .ok (.iastore, 1) := by decide +kernel
theorem dX7_lives_191 : decode cX7_lives 191 = .ok (.iinc 2 1, 3) := by decide +kernel
theorem dX7_lives_194 : decode cX7_lives 194 = .ok (.goto (-32), 3) := by decide +kernel
theorem dX7_lives_197 : decode cX7_lives 197 = .ok (.iconst 0, 1) := by decide +kernel
theorem dX7_lives_198 : decode cX7_lives 198 = .ok (.istore_n 2, 1) := by decide +kernel
theorem dX7_lives_199 : decode cX7_lives 199 = .ok (.iload_n 2, 1) := by decide +kernel
theorem dX7_lives_200 : decode cX7_lives 200 = .ok (.bipush 64, 2) := by decide +kernel
