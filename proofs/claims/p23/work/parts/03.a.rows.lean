set_option maxRecDepth 20000 in
theorem ggX0_init_X4_init : GoodIn wsX0_init wsX4_init := goodIn_r _ [11, 12, 2, 3, 13, 14, 15, 16, 17, 18, 19] (by decide +kernel) (by decide +kernel)
set_option maxRecDepth 20000 in
theorem gX0_init_X4_init : GoodIn wsX0_init (wsX4_init) := ggX0_init_X4_init
theorem dX0_init_0 : decode cX0_init 0 = .ok (.aload_n 0, 1) := by decide +kernel
theorem dX0_init_1 : decode cX0_init 1 = .ok (.invokespecial 3, 3) := by decide +kernel
theorem dX0_init_4 : decode cX0_init 4 = .ok (.aload_n 0, 1) := by decide +kernel
theorem dX0_init_5 : decode cX0_init 5 = .ok (.new 9, 3) := by decide +kernel
theorem dX0_init_8 : decode cX0_init 8 = .ok (.dup, 1) := by decide +kernel
theorem dX0_init_9 : decode cX0_init 9 = .ok (.bipush 64, 2) := by decide +kernel
theorem dX0_init_11 : decode cX0_init 11 = .ok (.iconst 0, 1) := by decide +kernel
theorem dX0_init_12 : decode cX0_init 12 = .ok (.invokespecial 11, 3) := by decide +kernel
theorem dX0_init_15 : decode cX0_init 15 = .ok (.putfield 14, 3) := by decide +kernel
theorem dX0_init_18 : decode cX0_init 18 = .ok (.aload_n 0, 1) := by decide +kernel
theorem dX0_init_19 : decode cX0_init 19 = .ok (.new 9, 3) := by decide +kernel
theorem dX0_init_22 : decode cX0_init 22 = .ok (.dup, 1) := by decide +kernel
theorem dX0_init_23 : decode cX0_init 23 = .ok (.bipush 64, 2) := by decide +kernel
theorem dX0_init_25 : decode cX0_init 25 = .ok (.iconst 0, 1) := by decide +kernel
theorem dX0_init_26 : decode cX0_init 26 = .ok (.invokespecial 11, 3) := by decide +kernel
theorem dX0_init_29 : decode cX0_init 29 = .ok (.putfield 20, 3) := by decide +kernel
theorem dX0_init_32 : decode cX0_init 32 = .ok (.return_, 1) := by decide +kernel
set_option maxRecDepth 20000 in
theorem ggX0_kindOf_X4_get : GoodIn wsX0_kindOf wsX4_get := goodIn_r _ [6, 7, 10] (by decide +kernel) (by decide +kernel)
set_option maxRecDepth 20000 in
theorem gX0_kindOf_X4_get : GoodIn wsX0_kindOf (wsV RX0 23 RX4 yX4_get wsX4_get) := goodIn_app (goodIn_of _ (by decide +kernel)) ggX0_kindOf_X4_get
theorem dX0_kindOf_0 : decode cX0_kindOf 0 = .ok (.aload_n 0, 1) := by decide +kernel
theorem dX0_kindOf_1 : decode cX0_kindOf 1 = .ok (.getfield 14, 3) := by decide +kernel
theorem dX0_kindOf_4 : decode cX0_kindOf 4 = .ok (.iload_n 1, 1) := by decide +kernel
theorem dX0_kindOf_5 : decode cX0_kindOf 5 = .ok (.invokevirtual 23, 3) := by decide +kernel
theorem dX0_kindOf_8 : decode cX0_kindOf 8 = .ok (.ireturn, 1) := by decide +kernel
set_option maxRecDepth 20000 in
theorem ggX0_levelOf_X4_get : GoodIn wsX0_levelOf wsX4_get := goodIn_r _ [6, 7, 10] (by decide +kernel) (by decide +kernel)
set_option maxRecDepth 20000 in
theorem gX0_levelOf_X4_get : GoodIn wsX0_levelOf (wsV RX0 23 RX4 yX4_get wsX4_get) := goodIn_app (goodIn_of _ (by decide +kernel)) ggX0_levelOf_X4_get
theorem dX0_levelOf_0 : decode cX0_levelOf 0 = .ok (.aload_n 0, 1) := by decide +kernel
theorem dX0_levelOf_1 : decode cX0_levelOf 1 = .ok (.getfield 20, 3) := by decide +kernel
theorem dX0_levelOf_4 : decode cX0_levelOf 4 = .ok (.iload_n 1, 1) := by decide +kernel
theorem dX0_levelOf_5 : decode cX0_levelOf 5 = .ok (.invokevirtual 23, 3) := by decide +kernel
theorem dX0_levelOf_8 : decode cX0_levelOf 8 = .ok (.ireturn, 1) := by decide +kernel
set_option maxRecDepth 20000 in
theorem ggX0_lay_X4_set : GoodIn wsX0_lay wsX4_set := goodIn_r _ [7, 8, 11] (by decide +kernel) (by decide +kernel)
set_option maxRecDepth 20000 in
theorem gX0_lay_X4_set : GoodIn wsX0_lay (wsV RX0 27 RX4 yX4_set wsX4_set) := goodIn_app (goodIn_of _ (by decide +kernel)) ggX0_lay_X4_set
theorem dX0_lay_0 : decode cX0_lay 0 = .ok (.aload_n 0, 1) := by decide +kernel
theorem dX0_lay_1 : decode cX0_lay 1 = .ok (.getfield 14, 3) := by decide +kernel
theorem dX0_lay_4 : decode cX0_lay 4 = .ok (.iload_n 1, 1) := by decide +kernel
theorem dX0_lay_5 : decode cX0_lay 5 = .ok (.iload_n 2, 1) := by decide +kernel
theorem dX0_lay_6 : decode cX0_lay 6 = .ok (.invokevirtual 27, 3) := by decide +kernel
theorem dX0_lay_9 : decode cX0_lay 9 = .ok (.aload_n 0, 1) := by decide +kernel
theorem dX0_lay_10 : decode cX0_lay 10 = .ok (.getfield 20, 3) := by decide +kernel
theorem dX0_lay_13 : decode cX0_lay 13 = .ok (.iload_n 1, 1) := by decide +kernel
theorem dX0_lay_14 : decode cX0_lay 14 = .ok (.iconst 0, 1) := by decide +kernel
theorem dX0_lay_15 : decode cX0_lay 15 = .ok (.invokevirtual 27, 3) := by decide +kernel
theorem dX0_lay_18 : decode cX0_lay 18 = .ok (.return_, 1) := by decide +kernel
set_option maxRecDepth 20000 in
theorem ggX0_changeLevel_X4_set : GoodIn wsX0_changeLevel wsX4_set := goodIn_r _ [6, 7, 10] (by decide +kernel) (by decide +kernel)
set_option maxRecDepth 20000 in
theorem gX0_changeLevel_X4_set : GoodIn wsX0_changeLevel (wsV RX0 27 RX4 yX4_set wsX4_set) := goodIn_app (goodIn_of _ (by decide +kernel)) ggX0_changeLevel_X4_set
theorem dX0_changeLevel_0 : decode cX0_changeLevel 0 = .ok (.aload_n 0, 1) := by decide +kernel
theorem dX0_changeLevel_1 : decode cX0_changeLevel 1 = .ok (.getfield 20, 3) := by decide +kernel
theorem dX0_changeLevel_4 : decode cX0_changeLevel 4 = .ok (.iload_n 1, 1) := by decide +kernel
theorem dX0_changeLevel_5 : decode cX0_changeLevel 5 = .ok (.iload_n 2, 1) := by decide +kernel
theorem dX0_changeLevel_6 : decode cX0_changeLevel 6 = .ok (.invokevirtual 27, 3) := by decide +kernel
theorem dX0_changeLevel_9 : decode cX0_changeLevel 9 = .ok (.return_, 1) := by decide +kernel
set_option maxRecDepth 20000 in
theorem ggX0_isRoad_X4_get : GoodIn wsX0_isRoad wsX4_get := goodIn_r _ [6, 7, 10] (by decide +kernel) (by decide +kernel)
set_option maxRecDepth 20000 in
theorem gX0_isRoad_X4_get : GoodIn wsX0_isRoad (wsV RX0 23 RX4 yX4_get wsX4_get) := goodIn_app (goodIn_of _ (by decide +kernel)) ggX0_isRoad_X4_get
theorem dX0_isRoad_0 : decode cX0_isRoad 0 = .ok (.aload_n 0, 1) := by decide +kernel
theorem dX0_isRoad_1 : decode cX0_isRoad 1 = .ok (.getfield 14, 3) := by decide +kernel
theorem dX0_isRoad_4 : decode cX0_isRoad 4 = .ok (.iload_n 1, 1) := by decide +kernel
theorem dX0_isRoad_5 : decode cX0_isRoad 5 = .ok (.invokevirtual 23, 3) := by decide +kernel
theorem dX0_isRoad_8 : decode cX0_isRoad 8 = .ok (.iconst 1, 1) := by decide +kernel
theorem dX0_isRoad_9 : decode cX0_isRoad 9 = .ok (.if_icmp .ne 7, 3) := by decide +kernel
theorem dX0_isRoad_12 : decode cX0_isRoad 12 = .ok (.iconst 1, 1) := by decide +kernel
theorem dX0_isRoad_13 : decode cX0_isRoad 13 = .ok (.goto 4, 3) := by decide +kernel
theorem dX0_isRoad_16 : decode cX0_isRoad 16 = .ok (.iconst 0, 1) := by decide +kernel
theorem dX0_isRoad_17 : decode cX0_isRoad 17 = .ok (.ireturn, 1) := by decide +kernel
set_option maxRecDepth 20000 in
theorem ggX0_isZone_X4_get : GoodIn wsX0_isZone wsX4_get := goodIn_r _ [6, 7, 10] (by decide +kernel) (by decide +kernel)
set_option maxRecDepth 20000 in
theorem gX0_isZone_X4_get : GoodIn wsX0_isZone (wsV RX0 23 RX4 yX4_get wsX4_get) := goodIn_app (goodIn_of _ (by decide +kernel)) ggX0_isZone_X4_get
theorem dX0_isZone_0 : decode cX0_isZone 0 = .ok (.aload_n 0, 1) := by decide +kernel
theorem dX0_isZone_1 : decode cX0_isZone 1 = .ok (.getfield 14, 3) := by decide +kernel
theorem dX0_isZone_4 : decode cX0_isZone 4 = .ok (.iload_n 1, 1) := by decide +kernel
theorem dX0_isZone_5 : decode cX0_isZone 5 = .ok (.invokevirtual 23, 3) := by decide +kernel
theorem dX0_isZone_8 : decode cX0_isZone 8 = .ok (.istore_n 2, 1) := by decide +kernel
theorem dX0_isZone_9 : decode cX0_isZone 9 = .ok (.iload_n 2, 1) := by decide +kernel
theorem dX0_isZone_10 : decode cX0_isZone 10 = .ok (.iconst 2, 1) := by decide +kernel
theorem dX0_isZone_11 : decode cX0_isZone 11 = .ok (.if_icmp .eq 8, 3) := by decide +kernel
theorem dX0_isZone_14 : decode cX0_isZone 14 = .ok (.iload_n 2, 1) := by decide +kernel
theorem dX0_isZone_15 : decode cX0_isZone 15 = .ok (.iconst 3, 1) := by decide +kernel
theorem dX0_isZone_16 : decode cX0_isZone 16 = .ok (.if_icmp .ne 7, 3) := by decide +kernel
theorem dX0_isZone_19 : decode cX0_isZone 19 = .ok (.iconst 1, 1) := by decide +kernel
theorem dX0_isZone_20 : decode cX0_isZone 20 = .ok (.goto 4, 3) := by decide +kernel
theorem dX0_isZone_23 : decode cX0_isZone 23 = .ok (.iconst 0, 1) := by decide +kernel
theorem dX0_isZone_24 : decode cX0_isZone 24 = .ok (.ireturn, 1) := by decide +kernel
set_option maxRecDepth 20000 in
theorem ggX0_peopleOf_X4_get : GoodIn wsX0_peopleOf wsX4_get := goodIn_r _ [6, 7, 10] (by decide +kernel) (by decide +kernel)
set_option maxRecDepth 20000 in
theorem gX0_peopleOf_X4_get : GoodIn wsX0_peopleOf (wsV RX0 23 RX4 yX4_get wsX4_get) := goodIn_app (goodIn_of _ (by decide +kernel)) ggX0_peopleOf_X4_get
theorem dX0_peopleOf_0 : decode cX0_peopleOf 0 = .ok (.iconst 2, 1) := by decide +kernel
theorem dX0_peopleOf_1 : decode cX0_peopleOf 1 = .ok (.aload_n 0, 1) := by decide +kernel
theorem dX0_peopleOf_2 : decode cX0_peopleOf 2 = .ok (.getfield 20, 3) := by decide +kernel
theorem dX0_peopleOf_5 : decode cX0_peopleOf 5 = .ok (.iload_n 1, 1) := by decide +kernel
theorem dX0_peopleOf_6 : decode cX0_peopleOf 6 = .ok (.invokevirtual 23, 3) := by decide +kernel
theorem dX0_peopleOf_9 : decode cX0_peopleOf 9 = .ok (.imul, 1) := by decide +kernel
theorem dX0_peopleOf_10 : decode cX0_peopleOf 10 = .ok (.ireturn, 1) := by decide +kernel
set_option maxRecDepth 20000 in
theorem ggX0_countNear_X4_get : GoodIn wsX0_countNear wsX4_get := goodIn_r _ [6, 7, 17] (by decide +kernel) (by decide +kernel)
set_option maxRecDepth 20000 in
theorem gX0_countNear_X4_get : GoodIn wsX0_countNear (wsV RX0 23 RX4 yX4_get wsX4_get) := goodIn_app (goodIn_of _ (by decide +kernel)) ggX0_countNear_X4_get
set_option maxRecDepth 20000 in
theorem ggX0_countNear_X6_distanceOf : GoodIn wsX0_countNear wsX6_distanceOf := goodIn_r _ [10, 11, 12, 13, 14] (by decide +kernel) (by decide +kernel)
set_option maxRecDepth 20000 in
theorem gX0_countNear_X6_distanceOf_n30 : GoodIn wsX0_countNear (wsX6_distanceOf) := ggX0_countNear_X6_distanceOf
theorem dX0_countNear_0 : decode cX0_countNear 0 = .ok (.iconst 0, 1) := by decide +kernel
theorem dX0_countNear_1 : decode cX0_countNear 1 = .ok (.istore_n 3, 1) := by decide +kernel
theorem dX0_countNear_2 : decode cX0_countNear 2 = .ok (.iconst 0, 1) := by decide +kernel
theorem dX0_countNear_3 : decode cX0_countNear 3 = .ok (.istore 4, 2) := by decide +kernel
theorem dX0_countNear_5 : decode cX0_countNear 5 = .ok (.iload 4, 2) := by decide +kernel
theorem dX0_countNear_7 : decode cX0_countNear 7 = .ok (.bipush 64, 2) := by decide +kernel
theorem dX0_countNear_9 : decode cX0_countNear 9 = .ok (.if_icmp .ge 35, 3) := by decide +kernel
theorem dX0_countNear_12 : decode cX0_countNear 12 = .ok (.aload_n 0, 1) := by decide +kernel
theorem dX0_countNear_13 : decode cX0_countNear 13 = .ok (.getfield 14, 3) := by decide +kernel
theorem dX0_countNear_16 : decode cX0_countNear 16 = .ok (.iload 4, 2) := by decide +kernel
theorem dX0_countNear_18 : decode cX0_countNear 18 = .ok (.invokevirtual 23, 3) := by decide +kernel
theorem dX0_countNear_21 : decode cX0_countNear 21 = .ok (.iload_n 2, 1) := by decide +kernel
theorem dX0_countNear_22 : decode cX0_countNear 22 = .ok (.if_icmp .ne 16, 3) := by decide +kernel
theorem dX0_countNear_25 : decode cX0_countNear 25 = .ok (.iload_n 1, 1) := by decide +kernel
theorem dX0_countNear_26 : decode cX0_countNear 26 = .ok (.iload 4, 2) := by decide +kernel
theorem dX0_countNear_28 : decode cX0_countNear 28 = .ok (.invokestatic 30, 3) := by decide +kernel
theorem dX0_countNear_31 : decode cX0_countNear 31 = .ok (.iconst 2, 1) := by decide +kernel
theorem dX0_countNear_32 : decode cX0_countNear 32 = .ok (.if_icmp .gt 6, 3) := by decide +kernel
theorem dX0_countNear_35 : decode cX0_countNear 35 = .ok (.iinc 3 1, 3) := by decide +kernel
theorem dX0_countNear_38 : decode cX0_countNear 38 = .ok (.iinc 4 1, 3) := by decide +kernel
theorem dX0_countNear_41 : decode cX0_countNear 41 = .ok (.goto (-36), 3) := by decide +kernel
theorem dX0_countNear_44 : decode cX0_countNear 44 = .ok (.iload_n 3, 1) := by decide +kernel
theorem dX0_countNear_45 : decode cX0_countNear 45 = .ok (.ireturn, 1) := by decide +kernel
set_option maxRecDepth 20000 in
theorem ggX0_textOf_X4_get : GoodIn wsX0_textOf wsX4_get := goodIn_r _ [6, 7, 233] (by decide +kernel) (by decide +kernel)
set_option maxRecDepth 20000 in
theorem gX0_textOf_X4_get : GoodIn wsX0_textOf (wsV RX0 23 RX4 yX4_get wsX4_get) := goodIn_app (goodIn_of _ (by decide +kernel)) ggX0_textOf_X4_get
set_option maxRecDepth 20000 in
theorem ggX0_textOf_X0_zoneText : GoodIn wsX0_textOf wsX0_zoneText := goodIn_r _ [12, 13, 14, 15, 16, 17, 18, 19, 20, 21, 22, 23, 24, 25, 26, 27, 28, 29, 30, 31, 32, 33, 34, 35, 36, 37, 38, 39, 40, 41, 42, 43, 44, 45, 46, 47, 48, 49, 50, 51, 52, 53, 54, 55, 56, 57, 58, 59, 60, 61, 62, 63, 64, 65, 66, 67, 68, 69, 70, 71, 72, 73, 74, 75, 76, 77, 78, 79, 80, 81, 82, 83, 84, 85, 86, 87, 88, 89, 90, 91, 92, 93, 94, 95, 96, 97, 98, 99, 100, 101, 102, 103, 104, 105, 106, 107, 108, 109, 110, 111, 112, 113, 114, 115, 116, 117, 118, 119, 120, 121, 122, 123, 124, 125, 126, 127, 128, 129, 130, 131, 132, 133, 134, 135, 136, 137, 138, 139, 140, 141, 2, 3, 4, 5, 6, 7, 142, 143, 144, 145, 146, 147, 148, 149, 150, 151, 152, 153, 154, 155, 156, 157, 158, 159, 160, 161, 162, 163, 164, 165, 166, 167, 168, 169, 170, 171, 172, 173, 174, 175, 176, 177, 178, 179, 180, 181, 182, 183, 184, 185, 186, 187, 188, 189, 190, 191, 192, 193, 194, 195, 196, 197, 198, 199, 200, 201, 202, 203, 204, 205, 206, 207, 208, 209, 210, 211, 212, 213, 214, 215, 216, 217, 218, 219, 220, 221, 222, 223, 224, 225, 226, 227, 228, 229, 230, 234, 235, 236, 237, 231, 232, 233, 238, 239, 240, 241] (by decide +kernel) (by decide +kernel)
set_option maxRecDepth 20000 in
theorem gX0_textOf_X0_zoneText : GoodIn wsX0_textOf (wsV RX0 36 RX0 yX0_zoneText wsX0_zoneText) := goodIn_app (goodIn_of _ (by decide +kernel)) ggX0_textOf_X0_zoneText
theorem dX0_textOf_0 : decode cX0_textOf 0 = .ok (.aload_n 0, 1) := by decide +kernel
theorem dX0_textOf_1 : decode cX0_textOf 1 = .ok (.getfield 14, 3) := by decide +kernel
theorem dX0_textOf_4 : decode cX0_textOf 4 = .ok (.iload_n 1, 1) := by decide +kernel
theorem dX0_textOf_5 : decode cX0_textOf 5 = .ok (.invokevirtual 23, 3) := by decide +kernel
theorem dX0_textOf_8 : decode cX0_textOf 8 = .ok (.tableswitch 68 1 6 #[40, 43, 51, 59, 62, 65], 40) := by decide +kernel
theorem dX0_textOf_48 : decode cX0_textOf 48 = .ok (.ldc 34, 2) := by decide +kernel
theorem dX0_textOf_50 : decode cX0_textOf 50 = .ok (.areturn, 1) := by decide +kernel
theorem dX0_textOf_51 : decode cX0_textOf 51 = .ok (.aload_n 0, 1) := by decide +kernel
theorem dX0_textOf_52 : decode cX0_textOf 52 = .ok (.bipush 72, 2) := by decide +kernel
theorem dX0_textOf_54 : decode cX0_textOf 54 = .ok (.iload_n 1, 1) := by decide +kernel
theorem dX0_textOf_55 : decode cX0_textOf 55 = .ok (.invokevirtual 36, 3) := by decide +kernel
theorem dX0_textOf_58 : decode cX0_textOf 58 = .ok (.areturn, 1) := by decide +kernel
theorem dX0_textOf_59 : decode cX0_textOf 59 = .ok (.aload_n 0, 1) := by decide +kernel
theorem dX0_textOf_60 : decode cX0_textOf 60 = .ok (.bipush 84, 2) := by decide +kernel
theorem dX0_textOf_62 : decode cX0_textOf 62 = .ok (.iload_n 1, 1) := by decide +kernel
theorem dX0_textOf_63 : decode cX0_textOf 63 = .ok (.invokevirtual 36, 3) := by decide +kernel
theorem dX0_textOf_66 : decode cX0_textOf 66 = .ok (.areturn, 1) := by decide +kernel
theorem dX0_textOf_67 : decode cX0_textOf 67 = .ok (.ldc 40, 2) := by decide +kernel
theorem dX0_textOf_69 : decode cX0_textOf 69 = .ok (.areturn, 1) := by decide +kernel
theorem dX0_textOf_70 : decode cX0_textOf 70 = .ok (.ldc 42, 2) := by decide +kernel
theorem dX0_textOf_72 : decode cX0_textOf 72 = .ok (.areturn, 1) := by decide +kernel
theorem dX0_textOf_73 : decode cX0_textOf 73 = .ok (.ldc 44, 2) := by decide +kernel
theorem dX0_textOf_75 : decode cX0_textOf 75 = .ok (.areturn, 1) := by decide +kernel
theorem dX0_textOf_76 : decode cX0_textOf 76 = .ok (.ldc 46, 2) := by decide +kernel
theorem dX0_textOf_78 : decode cX0_textOf 78 = .ok (.areturn, 1) := by decide +kernel
set_option maxRecDepth 20000 in
theorem ggX0_zoneText_J4_init_da8c8 : GoodIn wsX0_zoneText wsJ4_init_da8c8 := goodIn_r _ [7, 8, 9, 10, 11, 12, 13, 14, 15, 16, 17, 18, 19, 20, 21, 22, 23, 24, 25, 26, 225, 226, 227, 228] (by decide +kernel) (by decide +kernel)
set_option maxRecDepth 20000 in
theorem gX0_zoneText_J4_init_da8c8 : GoodIn wsX0_zoneText (wsJ4_init_da8c8) := ggX0_zoneText_J4_init_da8c8
set_option maxRecDepth 20000 in
theorem ggX0_zoneText_J4_append_cf468 : GoodIn wsX0_zoneText wsJ4_append_cf468 := goodIn_r _ [30, 31, 32, 33, 34, 10, 35, 36, 17, 37, 38, 39, 40, 41, 18, 42, 43, 44, 45, 46, 47, 48, 49, 50, 51, 52, 53, 54, 55, 56, 57, 58, 59, 60, 61, 62, 63, 64, 65, 66, 67, 68, 69, 16, 70, 71, 72, 73, 74, 75, 76, 77, 78, 79, 80, 81, 15, 82, 83, 84, 85, 86, 87, 88, 89, 90, 19, 20, 21, 22, 23, 24, 25, 26, 91, 92, 93, 94, 95, 96, 97, 98, 99, 100, 101, 102, 103, 104, 105, 106, 107, 108, 109, 110, 111, 112, 113, 114, 115, 116, 117, 118, 119, 120, 121, 122, 123, 124, 125, 126, 127, 128, 129, 225, 226, 227, 228] (by decide +kernel) (by decide +kernel)
set_option maxRecDepth 20000 in
theorem gX0_zoneText_J4_append_cf468 : GoodIn wsX0_zoneText (wsV RX0 51 RJ4 yJ4_append_cf468 wsJ4_append_cf468) := goodIn_app (goodIn_of _ (by decide +kernel)) ggX0_zoneText_J4_append_cf468
set_option maxRecDepth 20000 in
theorem ggX0_zoneText_X4_get : GoodIn wsX0_zoneText wsX4_get := goodIn_r _ [134, 135, 231] (by decide +kernel) (by decide +kernel)
set_option maxRecDepth 20000 in
theorem gX0_zoneText_X4_get : GoodIn wsX0_zoneText (wsV RX0 23 RX4 yX4_get wsX4_get) := goodIn_app (goodIn_of _ (by decide +kernel)) ggX0_zoneText_X4_get
set_option maxRecDepth 20000 in
theorem ggX0_zoneText_J4_append_bf812 : GoodIn wsX0_zoneText wsJ4_append_bf812 := goodIn_r _ [139, 140, 141, 33, 142, 10, 143, 36, 17, 144, 145, 146, 147, 37, 38, 39, 40, 41, 18, 42, 43, 44, 45, 46, 47, 48, 49, 50, 51, 52, 53, 54, 55, 56, 57, 58, 59, 60, 61, 62, 63, 64, 65, 66, 67, 68, 69, 16, 70, 71, 72, 73, 74, 75, 76, 77, 78, 79, 80, 81, 15, 148, 149, 150, 151, 152, 153, 154, 21, 155, 115, 156, 157, 158, 100, 101, 102, 159, 160, 105, 161, 107, 162, 163, 110, 164, 165, 166, 167, 168, 169, 112, 113, 114, 116, 117, 225, 226, 227, 228] (by decide +kernel) (by decide +kernel)
set_option maxRecDepth 20000 in
theorem gX0_zoneText_J4_append_bf812 : GoodIn wsX0_zoneText (wsV RX0 55 RJ4 yJ4_append_bf812 wsJ4_append_bf812) := goodIn_app (goodIn_of _ (by decide +kernel)) ggX0_zoneText_J4_append_bf812
set_option maxRecDepth 20000 in
theorem ggX0_zoneText_J4_toString_0e30d : GoodIn wsX0_zoneText wsJ4_toString_0e30d := goodIn_r _ [173, 174, 175, 105, 176, 177, 178, 179, 180, 181, 182, 13, 14, 183, 184, 185, 186, 187, 188, 189, 190, 10, 191, 17, 192, 193, 194, 195, 196, 3, 197, 198, 33, 199, 200, 36, 201, 78, 79, 80, 81, 15, 18, 202, 203, 62, 204, 64, 65, 66, 67, 68, 69, 205, 206, 207, 16, 70, 71, 54, 72, 73, 74, 75, 76, 208, 209, 210, 211, 2, 212, 213, 21, 214, 215, 216, 217, 97, 98, 99, 100, 101, 102, 103, 104, 106, 107, 108, 109, 110, 111, 218, 219, 220, 115, 116, 117, 23, 24, 25, 26, 221, 222, 223, 224, 232, 233, 234, 235, 225, 226, 227, 228] (by decide +kernel) (by decide +kernel)
set_option maxRecDepth 20000 in
theorem gX0_zoneText_J4_toString_0e30d : GoodIn wsX0_zoneText (wsV RX0 58 RJ4 yJ4_toString_0e30d wsJ4_toString_0e30d) := goodIn_app (goodIn_of _ (by decide +kernel)) ggX0_zoneText_J4_toString_0e30d
theorem dX0_zoneText_0 : decode cX0_zoneText 0 = .ok (.new 48, 3) := by decide +kernel
theorem dX0_zoneText_3 : decode cX0_zoneText 3 = .ok (.dup, 1) := by decide +kernel
theorem dX0_zoneText_4 : decode cX0_zoneText 4 = .ok (.invokespecial 50, 3) := by decide +kernel
theorem dX0_zoneText_7 : decode cX0_zoneText 7 = .ok (.iload_n 1, 1) := by decide +kernel
theorem dX0_zoneText_8 : decode cX0_zoneText 8 = .ok (.invokevirtual 51, 3) := by decide +kernel
theorem dX0_zoneText_11 : decode cX0_zoneText 11 = .ok (.aload_n 0, 1) := by decide +kernel
theorem dX0_zoneText_12 : decode cX0_zoneText 12 = .ok (.getfield 20, 3) := by decide +kernel
theorem dX0_zoneText_15 : decode cX0_zoneText 15 = .ok (.iload_n 2, 1) := by decide +kernel
theorem dX0_zoneText_16 : decode cX0_zoneText 16 = .ok (.invokevirtual 23, 3) := by decide +kernel
theorem dX0_zoneText_19 : decode cX0_zoneText 19 = .ok (.invokevirtual 55, 3) := by decide +kernel
theorem dX0_zoneText_22 : decode cX0_zoneText 22 = .ok (.invokevirtual 58, 3) := by decide +kernel
theorem dX0_zoneText_25 : decode cX0_zoneText 25 = .ok (.areturn, 1) := by decide +kernel
set_option maxRecDepth 20000 in
theorem ggX1_init_X4_init : GoodIn wsX1_init wsX4_init := goodIn_r _ [16, 17, 2, 3, 18, 19, 20, 21, 22, 23, 24] (by decide +kernel) (by decide +kernel)
set_option maxRecDepth 20000 in
theorem gX1_init_X4_init : GoodIn wsX1_init (wsX4_init) := ggX1_init_X4_init
theorem dX1_init_0 : decode cX1_init 0 = .ok (.aload_n 0, 1) := by decide +kernel
theorem dX1_init_1 : decode cX1_init 1 = .ok (.invokespecial 3, 3) := by decide +kernel
theorem dX1_init_4 : decode cX1_init 4 = .ok (.aload_n 0, 1) := by decide +kernel
theorem dX1_init_5 : decode cX1_init 5 = .ok (.new 9, 3) := by decide +kernel
theorem dX1_init_8 : decode cX1_init 8 = .ok (.dup, 1) := by decide +kernel
theorem dX1_init_9 : decode cX1_init 9 = .ok (.bipush 64, 2) := by decide +kernel
theorem dX1_init_11 : decode cX1_init 11 = .ok (.iconst 0, 1) := by decide +kernel
theorem dX1_init_12 : decode cX1_init 12 = .ok (.invokespecial 11, 3) := by decide +kernel
theorem dX1_init_15 : decode cX1_init 15 = .ok (.putfield 14, 3) := by decide +kernel
theorem dX1_init_18 : decode cX1_init 18 = .ok (.aload_n 0, 1) := by decide +kernel
theorem dX1_init_19 : decode cX1_init 19 = .ok (.new 9, 3) := by decide +kernel
theorem dX1_init_22 : decode cX1_init 22 = .ok (.dup, 1) := by decide +kernel
theorem dX1_init_23 : decode cX1_init 23 = .ok (.bipush 64, 2) := by decide +kernel
theorem dX1_init_25 : decode cX1_init 25 = .ok (.iconst 0, 1) := by decide +kernel
theorem dX1_init_26 : decode cX1_init 26 = .ok (.invokespecial 11, 3) := by decide +kernel
theorem dX1_init_29 : decode cX1_init 29 = .ok (.putfield 20, 3) := by decide +kernel
theorem dX1_init_32 : decode cX1_init 32 = .ok (.aload_n 0, 1) := by decide +kernel
theorem dX1_init_33 : decode cX1_init 33 = .ok (.new 9, 3) := by decide +kernel
theorem dX1_init_36 : decode cX1_init 36 = .ok (.dup, 1) := by decide +kernel
theorem dX1_init_37 : decode cX1_init 37 = .ok (.bipush 64, 2) := by decide +kernel
theorem dX1_init_39 : decode cX1_init 39 = .ok (.iconst 0, 1) := by decide +kernel
theorem dX1_init_40 : decode cX1_init 40 = .ok (.invokespecial 11, 3) := by decide +kernel
theorem dX1_init_43 : decode cX1_init 43 = .ok (.putfield 23, 3) := by decide +kernel
theorem dX1_init_46 : decode cX1_init 46 = .ok (.aload_n 0, 1) := by decide +kernel
theorem dX1_init_47 : decode cX1_init 47 = .ok (.new 9, 3) := by decide +kernel
theorem dX1_init_50 : decode cX1_init 50 = .ok (.dup, 1) := by decide +kernel
theorem dX1_init_51 : decode cX1_init 51 = .ok (.bipush 64, 2) := by decide +kernel
theorem dX1_init_53 : decode cX1_init 53 = .ok (.iconst (-1), 1) := by decide +kernel
theorem dX1_init_54 : decode cX1_init 54 = .ok (.invokespecial 11, 3) := by decide +kernel
theorem dX1_init_57 : decode cX1_init 57 = .ok (.putfield 26, 3) := by decide +kernel
theorem dX1_init_60 : decode cX1_init 60 = .ok (.aload_n 0, 1) := by decide +kernel
theorem dX1_init_61 : decode cX1_init 61 = .ok (.new 9, 3) := by decide +kernel
theorem dX1_init_64 : decode cX1_init 64 = .ok (.dup, 1) := by decide +kernel
theorem dX1_init_65 : decode cX1_init 65 = .ok (.bipush 64, 2) := by decide +kernel
theorem dX1_init_67 : decode cX1_init 67 = .ok (.iconst (-1), 1) := by decide +kernel
theorem dX1_init_68 : decode cX1_init 68 = .ok (.invokespecial 11, 3) := by decide +kernel
theorem dX1_init_71 : decode cX1_init 71 = .ok (.putfield 29, 3) := by decide +kernel
theorem dX1_init_74 : decode cX1_init 74 = .ok (.aload_n 0, 1) := by decide +kernel
theorem dX1_init_75 : decode cX1_init 75 = .ok (.new 9, 3) := by decide +kernel
theorem dX1_init_78 : decode cX1_init 78 = .ok (.dup, 1) := by decide +kernel
theorem dX1_init_79 : decode cX1_init 79 = .ok (.bipush 64, 2) := by decide +kernel
theorem dX1_init_81 : decode cX1_init 81 = .ok (.iconst 0, 1) := by decide +kernel
theorem dX1_init_82 : decode cX1_init 82 = .ok (.invokespecial 11, 3) := by decide +kernel
theorem dX1_init_85 : decode cX1_init 85 = .ok (.putfield 32, 3) := by decide +kernel
theorem dX1_init_88 : decode cX1_init 88 = .ok (.aload_n 0, 1) := by decide +kernel
theorem dX1_init_89 : decode cX1_init 89 = .ok (.iconst 0, 1) := by decide +kernel
theorem dX1_init_90 : decode cX1_init 90 = .ok (.putfield 35, 3) := by decide +kernel
theorem dX1_init_93 : decode cX1_init 93 = .ok (.return_, 1) := by decide +kernel
set_option maxRecDepth 20000 in
theorem ggX1_find_X4_fill : GoodIn wsX1_find wsX4_fill := goodIn_r _ [12, 13, 14, 15, 16, 17, 94] (by decide +kernel) (by decide +kernel)
set_option maxRecDepth 20000 in
theorem gX1_find_X4_fill : GoodIn wsX1_find (wsV RX1 39 RX4 yX4_fill wsX4_fill) := goodIn_app (goodIn_of _ (by decide +kernel)) ggX1_find_X4_fill
set_option maxRecDepth 20000 in
theorem ggX1_find_X0_peopleOf : GoodIn wsX1_find wsX0_peopleOf := goodIn_r _ [22, 23, 24, 25, 26, 11, 27, 13, 95, 96, 94] (by decide +kernel) (by decide +kernel)
set_option maxRecDepth 20000 in
theorem gX1_find_X0_peopleOf : GoodIn wsX1_find (wsV RX1 43 RX0 yX0_peopleOf wsX0_peopleOf) := goodIn_app (goodIn_of _ (by decide +kernel)) ggX1_find_X0_peopleOf
set_option maxRecDepth 20000 in
theorem ggX1_find_X4_set : GoodIn wsX1_find wsX4_set := goodIn_r _ [31, 13, 94] (by decide +kernel) (by decide +kernel)
set_option maxRecDepth 20000 in
theorem gX1_find_X4_set : GoodIn wsX1_find (wsV RX1 49 RX4 yX4_set wsX4_set) := goodIn_app (goodIn_of _ (by decide +kernel)) ggX1_find_X4_set
set_option maxRecDepth 20000 in
theorem ggX1_find_X3_count : GoodIn wsX1_find wsX3_count := goodIn_r _ [36, 37, 97, 98, 99, 100, 101] (by decide +kernel) (by decide +kernel)
set_option maxRecDepth 20000 in
theorem gX1_find_X3_count : GoodIn wsX1_find (wsV RX1 52 RX3 yX3_count wsX3_count) := goodIn_app (goodIn_of _ (by decide +kernel)) ggX1_find_X3_count
set_option maxRecDepth 20000 in
theorem ggX1_find_X1_place : GoodIn wsX1_find wsX1_place := goodIn_r _ [42, 4, 43, 44, 45, 21, 46, 47, 24, 25, 26, 11, 27, 13, 48, 49, 50, 51, 41, 52, 53, 54, 55, 56, 57, 58, 59, 35, 60, 61, 62, 63, 64, 65, 66, 67, 1, 5, 3, 6, 7, 68, 69, 70, 71, 28, 29, 30, 31, 87, 88, 89, 90, 91, 92, 93, 95, 96, 94, 97, 98, 99, 100, 101] (by decide +kernel) (by decide +kernel)
set_option maxRecDepth 20000 in
theorem gX1_find_X1_place : GoodIn wsX1_find (wsV RX1 58 RX1 yX1_place wsX1_place) := goodIn_app (goodIn_of _ (by decide +kernel)) ggX1_find_X1_place
set_option maxRecDepth 20000 in
theorem ggX1_find_X4_get : GoodIn wsX1_find wsX4_get := goodIn_r _ [27, 13, 94] (by decide +kernel) (by decide +kernel)
set_option maxRecDepth 20000 in
theorem gX1_find_X4_get : GoodIn wsX1_find (wsV RX1 62 RX4 yX4_get wsX4_get) := goodIn_app (goodIn_of _ (by decide +kernel)) ggX1_find_X4_get
set_option maxRecDepth 20000 in
theorem ggX1_find_X3_roadOf : GoodIn wsX1_find wsX3_roadOf := goodIn_r _ [75, 61, 63, 25, 26, 11, 27, 13, 97, 98, 99, 100, 101, 94] (by decide +kernel) (by decide +kernel)
set_option maxRecDepth 20000 in
theorem gX1_find_X3_roadOf : GoodIn wsX1_find (wsV RX1 65 RX3 yX3_roadOf wsX3_roadOf) := goodIn_app (goodIn_of _ (by decide +kernel)) ggX1_find_X3_roadOf
set_option maxRecDepth 20000 in
theorem ggX1_find_X1_walk : GoodIn wsX1_find wsX1_walk := goodIn_r _ [79, 2, 68, 69, 70, 11, 71, 13, 80, 81, 82, 35, 83, 62, 63, 25, 26, 27, 84, 85, 86, 87, 88, 89, 90, 91, 92, 93, 94, 97, 98, 99, 100, 101] (by decide +kernel) (by decide +kernel)
set_option maxRecDepth 20000 in
theorem gX1_find_X1_walk : GoodIn wsX1_find (wsV RX1 68 RX1 yX1_walk wsX1_walk) := goodIn_app (goodIn_of _ (by decide +kernel)) ggX1_find_X1_walk
theorem dX1_find_0 : decode cX1_find 0 = .ok (.aload_n 0, 1) := by decide +kernel
theorem dX1_find_1 : decode cX1_find 1 = .ok (.getfield 14, 3) := by decide +kernel
theorem dX1_find_4 : decode cX1_find 4 = .ok (.iconst 0, 1) := by decide +kernel
theorem dX1_find_5 : decode cX1_find 5 = .ok (.invokevirtual 39, 3) := by decide +kernel
theorem dX1_find_8 : decode cX1_find 8 = .ok (.aload_n 0, 1) := by decide +kernel
theorem dX1_find_9 : decode cX1_find 9 = .ok (.getfield 23, 3) := by decide +kernel
theorem dX1_find_12 : decode cX1_find 12 = .ok (.iconst 0, 1) := by decide +kernel
theorem dX1_find_13 : decode cX1_find 13 = .ok (.invokevirtual 39, 3) := by decide +kernel
theorem dX1_find_16 : decode cX1_find 16 = .ok (.aload_n 0, 1) := by decide +kernel
theorem dX1_find_17 : decode cX1_find 17 = .ok (.iconst 0, 1) := by decide +kernel
theorem dX1_find_18 : decode cX1_find 18 = .ok (.putfield 35, 3) := by decide +kernel
theorem dX1_find_21 : decode cX1_find 21 = .ok (.iconst 0, 1) := by decide +kernel
theorem dX1_find_22 : decode cX1_find 22 = .ok (.istore_n 3, 1) := by decide +kernel
theorem dX1_find_23 : decode cX1_find 23 = .ok (.iload_n 3, 1) := by decide +kernel
theorem dX1_find_24 : decode cX1_find 24 = .ok (.bipush 64, 2) := by decide +kernel
theorem dX1_find_26 : decode cX1_find 26 = .ok (.if_icmp .ge 22, 3) := by decide +kernel
theorem dX1_find_29 : decode cX1_find 29 = .ok (.aload_n 0, 1) := by decide +kernel
theorem dX1_find_30 : decode cX1_find 30 = .ok (.getfield 20, 3) := by decide +kernel
theorem dX1_find_33 : decode cX1_find 33 = .ok (.iload_n 3, 1) := by decide +kernel
theorem dX1_find_34 : decode cX1_find 34 = .ok (.aload_n 1, 1) := by decide +kernel
theorem dX1_find_35 : decode cX1_find 35 = .ok (.iload_n 3, 1) := by decide +kernel
theorem dX1_find_36 : decode cX1_find 36 = .ok (.invokevirtual 43, 3) := by decide +kernel
theorem dX1_find_39 : decode cX1_find 39 = .ok (.invokevirtual 49, 3) := by decide +kernel
theorem dX1_find_42 : decode cX1_find 42 = .ok (.iinc 3 1, 3) := by decide +kernel
theorem dX1_find_45 : decode cX1_find 45 = .ok (.goto (-22), 3) := by decide +kernel
theorem dX1_find_48 : decode cX1_find 48 = .ok (.iconst 0, 1) := by decide +kernel
theorem dX1_find_49 : decode cX1_find 49 = .ok (.istore_n 3, 1) := by decide +kernel
theorem dX1_find_50 : decode cX1_find 50 = .ok (.iload_n 3, 1) := by decide +kernel
theorem dX1_find_51 : decode cX1_find 51 = .ok (.aload_n 2, 1) := by decide +kernel
theorem dX1_find_52 : decode cX1_find 52 = .ok (.invokevirtual 52, 3) := by decide +kernel
theorem dX1_find_55 : decode cX1_find 55 = .ok (.if_icmp .ge 16, 3) := by decide +kernel
theorem dX1_find_58 : decode cX1_find 58 = .ok (.aload_n 0, 1) := by decide +kernel
theorem dX1_find_59 : decode cX1_find 59 = .ok (.aload_n 1, 1) := by decide +kernel
theorem dX1_find_60 : decode cX1_find 60 = .ok (.aload_n 2, 1) := by decide +kernel
theorem dX1_find_61 : decode cX1_find 61 = .ok (.iload_n 3, 1) := by decide +kernel
theorem dX1_find_62 : decode cX1_find 62 = .ok (.invokevirtual 58, 3) := by decide +kernel
theorem dX1_find_65 : decode cX1_find 65 = .ok (.iinc 3 1, 3) := by decide +kernel
theorem dX1_find_68 : decode cX1_find 68 = .ok (.goto (-18), 3) := by decide +kernel
theorem dX1_find_71 : decode cX1_find 71 = .ok (.iconst 0, 1) := by decide +kernel
theorem dX1_find_72 : decode cX1_find 72 = .ok (.istore_n 3, 1) := by decide +kernel
theorem dX1_find_73 : decode cX1_find 73 = .ok (.iload_n 3, 1) := by decide +kernel
theorem dX1_find_74 : decode cX1_find 74 = .ok (.aload_n 0, 1) := by decide +kernel
theorem dX1_find_75 : decode cX1_find 75 = .ok (.getfield 35, 3) := by decide +kernel
theorem dX1_find_78 : decode cX1_find 78 = .ok (.if_icmp .ge 54, 3) := by decide +kernel
theorem dX1_find_81 : decode cX1_find 81 = .ok (.aload_n 2, 1) := by decide +kernel
theorem dX1_find_82 : decode cX1_find 82 = .ok (.aload_n 0, 1) := by decide +kernel
theorem dX1_find_83 : decode cX1_find 83 = .ok (.getfield 26, 3) := by decide +kernel
theorem dX1_find_86 : decode cX1_find 86 = .ok (.iload_n 3, 1) := by decide +kernel
theorem dX1_find_87 : decode cX1_find 87 = .ok (.invokevirtual 62, 3) := by decide +kernel
theorem dX1_find_90 : decode cX1_find 90 = .ok (.invokevirtual 65, 3) := by decide +kernel
theorem dX1_find_93 : decode cX1_find 93 = .ok (.istore 4, 2) := by decide +kernel
theorem dX1_find_95 : decode cX1_find 95 = .ok (.aload_n 2, 1) := by decide +kernel
theorem dX1_find_96 : decode cX1_find 96 = .ok (.aload_n 0, 1) := by decide +kernel
theorem dX1_find_97 : decode cX1_find 97 = .ok (.getfield 29, 3) := by decide +kernel
theorem dX1_find_100 : decode cX1_find 100 = .ok (.iload_n 3, 1) := by decide +kernel
theorem dX1_find_101 : decode cX1_find 101 = .ok (.invokevirtual 62, 3) := by decide +kernel
theorem dX1_find_104 : decode cX1_find 104 = .ok (.invokevirtual 65, 3) := by decide +kernel
theorem dX1_find_107 : decode cX1_find 107 = .ok (.istore 5, 2) := by decide +kernel
theorem dX1_find_109 : decode cX1_find 109 = .ok (.aload_n 0, 1) := by decide +kernel
theorem dX1_find_110 : decode cX1_find 110 = .ok (.aload_n 2, 1) := by decide +kernel
theorem dX1_find_111 : decode cX1_find 111 = .ok (.iload 4, 2) := by decide +kernel
theorem dX1_find_113 : decode cX1_find 113 = .ok (.iload 5, 2) := by decide +kernel
theorem dX1_find_115 : decode cX1_find 115 = .ok (.aload_n 0, 1) := by decide +kernel
theorem dX1_find_116 : decode cX1_find 116 = .ok (.getfield 32, 3) := by decide +kernel
theorem dX1_find_119 : decode cX1_find 119 = .ok (.iload_n 3, 1) := by decide +kernel
theorem dX1_find_120 : decode cX1_find 120 = .ok (.invokevirtual 62, 3) := by decide +kernel
theorem dX1_find_123 : decode cX1_find 123 = .ok (.invokevirtual 68, 3) := by decide +kernel
theorem dX1_find_126 : decode cX1_find 126 = .ok (.iinc 3 1, 3) := by decide +kernel
theorem dX1_find_129 : decode cX1_find 129 = .ok (.goto (-56), 3) := by decide +kernel
theorem dX1_find_132 : decode cX1_find 132 = .ok (.return_, 1) := by decide +kernel
set_option maxRecDepth 20000 in
theorem ggX1_place_X0_kindOf : GoodIn wsX1_place wsX0_kindOf := goodIn_r _ [6, 7, 8, 9, 10, 11, 12, 13, 56, 57, 58] (by decide +kernel) (by decide +kernel)
set_option maxRecDepth 20000 in
theorem gX1_place_X0_kindOf : GoodIn wsX1_place (wsV RX1 72 RX0 yX0_kindOf wsX0_kindOf) := goodIn_app (goodIn_of _ (by decide +kernel)) ggX1_place_X0_kindOf
set_option maxRecDepth 20000 in
theorem ggX1_place_X4_get : GoodIn wsX1_place wsX4_get := goodIn_r _ [12, 13, 58] (by decide +kernel) (by decide +kernel)
set_option maxRecDepth 20000 in
theorem gX1_place_X4_get : GoodIn wsX1_place (wsV RX1 62 RX4 yX4_get wsX4_get) := goodIn_app (goodIn_of _ (by decide +kernel)) ggX1_place_X4_get
set_option maxRecDepth 20000 in
theorem ggX1_place_X1_placeFrom : GoodIn wsX1_place wsX1_placeFrom := goodIn_r _ [19, 1, 20, 21, 22, 23, 2, 3, 4, 5, 6, 7, 8, 9, 10, 11, 12, 13, 24, 25, 26, 27, 28, 29, 30, 31, 14, 32, 33, 34, 18, 35, 36, 37, 38, 39, 40, 41, 42, 43, 44, 45, 46, 47, 48, 49, 50, 51, 52, 53, 54, 55, 56, 57, 58, 59, 60, 61, 62, 63] (by decide +kernel) (by decide +kernel)
set_option maxRecDepth 20000 in
theorem gX1_place_X1_placeFrom : GoodIn wsX1_place (wsV RX1 75 RX1 yX1_placeFrom wsX1_placeFrom) := goodIn_app (goodIn_of _ (by decide +kernel)) ggX1_place_X1_placeFrom
theorem dX1_place_0 : decode cX1_place 0 = .ok (.iconst 0, 1) := by decide +kernel
theorem dX1_place_1 : decode cX1_place 1 = .ok (.istore 4, 2) := by decide +kernel
theorem dX1_place_3 : decode cX1_place 3 = .ok (.iload 4, 2) := by decide +kernel
theorem dX1_place_5 : decode cX1_place 5 = .ok (.bipush 64, 2) := by decide +kernel
theorem dX1_place_7 : decode cX1_place 7 = .ok (.if_icmp .ge 40, 3) := by decide +kernel
theorem dX1_place_10 : decode cX1_place 10 = .ok (.aload_n 1, 1) := by decide +kernel
theorem dX1_place_11 : decode cX1_place 11 = .ok (.iload 4, 2) := by decide +kernel
theorem dX1_place_13 : decode cX1_place 13 = .ok (.invokevirtual 72, 3) := by decide +kernel
theorem dX1_place_16 : decode cX1_place 16 = .ok (.iconst 2, 1) := by decide +kernel
theorem dX1_place_17 : decode cX1_place 17 = .ok (.if_icmp .ne 24, 3) := by decide +kernel
theorem dX1_place_20 : decode cX1_place 20 = .ok (.aload_n 0, 1) := by decide +kernel
theorem dX1_place_21 : decode cX1_place 21 = .ok (.getfield 20, 3) := by decide +kernel
theorem dX1_place_24 : decode cX1_place 24 = .ok (.iload 4, 2) := by decide +kernel
theorem dX1_place_26 : decode cX1_place 26 = .ok (.invokevirtual 62, 3) := by decide +kernel
theorem dX1_place_29 : decode cX1_place 29 = .ok (.ifCond .le 12, 3) := by decide +kernel
theorem dX1_place_32 : decode cX1_place 32 = .ok (.aload_n 0, 1) := by decide +kernel
theorem dX1_place_33 : decode cX1_place 33 = .ok (.aload_n 1, 1) := by decide +kernel
theorem dX1_place_34 : decode cX1_place 34 = .ok (.aload_n 2, 1) := by decide +kernel
theorem dX1_place_35 : decode cX1_place 35 = .ok (.iload 4, 2) := by decide +kernel
theorem dX1_place_37 : decode cX1_place 37 = .ok (.iload_n 3, 1) := by decide +kernel
theorem dX1_place_38 : decode cX1_place 38 = .ok (.invokevirtual 75, 3) := by decide +kernel
theorem dX1_place_41 : decode cX1_place 41 = .ok (.iinc 4 1, 3) := by decide +kernel
theorem dX1_place_44 : decode cX1_place 44 = .ok (.goto (-41), 3) := by decide +kernel
theorem dX1_place_47 : decode cX1_place 47 = .ok (.return_, 1) := by decide +kernel
set_option maxRecDepth 20000 in
theorem ggX1_placeFrom_X0_kindOf : GoodIn wsX1_placeFrom wsX0_kindOf := goodIn_r _ [10, 11, 12, 13, 14, 15, 16, 17, 52, 53, 54] (by decide +kernel) (by decide +kernel)
set_option maxRecDepth 20000 in
theorem gX1_placeFrom_X0_kindOf : GoodIn wsX1_placeFrom (wsV RX1 72 RX0 yX0_kindOf wsX0_kindOf) := goodIn_app (goodIn_of _ (by decide +kernel)) ggX1_placeFrom_X0_kindOf
set_option maxRecDepth 20000 in
theorem ggX1_placeFrom_X3_between : GoodIn wsX1_placeFrom wsX3_between := goodIn_r _ [22, 23, 24, 25, 13, 14, 15, 16, 17, 55, 56, 57, 58, 59, 54] (by decide +kernel) (by decide +kernel)
set_option maxRecDepth 20000 in
theorem gX1_placeFrom_X3_between : GoodIn wsX1_placeFrom (wsV RX1 79 RX3 yX3_between wsX3_between) := goodIn_app (goodIn_of _ (by decide +kernel)) ggX1_placeFrom_X3_between
set_option maxRecDepth 20000 in
theorem ggX1_placeFrom_X4_get : GoodIn wsX1_placeFrom wsX4_get := goodIn_r _ [16, 17, 54] (by decide +kernel) (by decide +kernel)
set_option maxRecDepth 20000 in
theorem gX1_placeFrom_X4_get : GoodIn wsX1_placeFrom (wsV RX1 62 RX4 yX4_get wsX4_get) := goodIn_app (goodIn_of _ (by decide +kernel)) ggX1_placeFrom_X4_get
set_option maxRecDepth 20000 in
theorem ggX1_placeFrom_X1_take : GoodIn wsX1_placeFrom wsX1_take := goodIn_r _ [31, 32, 1, 33, 34, 35, 36, 37, 38, 39, 15, 40, 17, 41, 42, 43, 44, 45, 46, 47, 48, 49, 50, 51, 54] (by decide +kernel) (by decide +kernel)
set_option maxRecDepth 20000 in
theorem gX1_placeFrom_X1_take : GoodIn wsX1_placeFrom (wsV RX1 88 RX1 yX1_take wsX1_take) := goodIn_app (goodIn_of _ (by decide +kernel)) ggX1_placeFrom_X1_take
theorem dX1_placeFrom_0 : decode cX1_placeFrom 0 = .ok (.iconst 0, 1) := by decide +kernel
theorem dX1_placeFrom_1 : decode cX1_placeFrom 1 = .ok (.istore 5, 2) := by decide +kernel
theorem dX1_placeFrom_3 : decode cX1_placeFrom 3 = .ok (.iload 5, 2) := by decide +kernel
theorem dX1_placeFrom_5 : decode cX1_placeFrom 5 = .ok (.bipush 64, 2) := by decide +kernel
theorem dX1_placeFrom_7 : decode cX1_placeFrom 7 = .ok (.if_icmp .ge 58, 3) := by decide +kernel
theorem dX1_placeFrom_10 : decode cX1_placeFrom 10 = .ok (.aload_n 1, 1) := by decide +kernel
theorem dX1_placeFrom_11 : decode cX1_placeFrom 11 = .ok (.iload 5, 2) := by decide +kernel
theorem dX1_placeFrom_13 : decode cX1_placeFrom 13 = .ok (.invokevirtual 72, 3) := by decide +kernel
theorem dX1_placeFrom_16 : decode cX1_placeFrom 16 = .ok (.iconst 3, 1) := by decide +kernel
theorem dX1_placeFrom_17 : decode cX1_placeFrom 17 = .ok (.if_icmp .ne 42, 3) := by decide +kernel
theorem dX1_placeFrom_20 : decode cX1_placeFrom 20 = .ok (.aload_n 2, 1) := by decide +kernel
theorem dX1_placeFrom_21 : decode cX1_placeFrom 21 = .ok (.iload_n 3, 1) := by decide +kernel
theorem dX1_placeFrom_22 : decode cX1_placeFrom 22 = .ok (.iload 5, 2) := by decide +kernel
theorem dX1_placeFrom_24 : decode cX1_placeFrom 24 = .ok (.invokevirtual 79, 3) := by decide +kernel
theorem dX1_placeFrom_27 : decode cX1_placeFrom 27 = .ok (.iload 4, 2) := by decide +kernel
theorem dX1_placeFrom_29 : decode cX1_placeFrom 29 = .ok (.if_icmp .ne 30, 3) := by decide +kernel
theorem dX1_placeFrom_32 : decode cX1_placeFrom 32 = .ok (.aload_n 0, 1) := by decide +kernel
theorem dX1_placeFrom_33 : decode cX1_placeFrom 33 = .ok (.iload_n 3, 1) := by decide +kernel
theorem dX1_placeFrom_34 : decode cX1_placeFrom 34 = .ok (.iload 5, 2) := by decide +kernel
theorem dX1_placeFrom_36 : decode cX1_placeFrom 36 = .ok (.aload_n 0, 1) := by decide +kernel
theorem dX1_placeFrom_37 : decode cX1_placeFrom 37 = .ok (.getfield 20, 3) := by decide +kernel
theorem dX1_placeFrom_40 : decode cX1_placeFrom 40 = .ok (.iload_n 3, 1) := by decide +kernel
theorem dX1_placeFrom_41 : decode cX1_placeFrom 41 = .ok (.invokevirtual 62, 3) := by decide +kernel
theorem dX1_placeFrom_44 : decode cX1_placeFrom 44 = .ok (.aload_n 0, 1) := by decide +kernel
theorem dX1_placeFrom_45 : decode cX1_placeFrom 45 = .ok (.getfield 20, 3) := by decide +kernel
theorem dX1_placeFrom_48 : decode cX1_placeFrom 48 = .ok (.iload 5, 2) := by decide +kernel
theorem dX1_placeFrom_50 : decode cX1_placeFrom 50 = .ok (.invokevirtual 62, 3) := by decide +kernel
theorem dX1_placeFrom_53 : decode cX1_placeFrom 53 = .ok (.invokestatic 83, 3) := by decide +kernel
theorem dX1_placeFrom_56 : decode cX1_placeFrom 56 = .ok (.invokevirtual 88, 3) := by decide +kernel
theorem dX1_placeFrom_59 : decode cX1_placeFrom 59 = .ok (.iinc 5 1, 3) := by decide +kernel
theorem dX1_placeFrom_62 : decode cX1_placeFrom 62 = .ok (.goto (-59), 3) := by decide +kernel
theorem dX1_placeFrom_65 : decode cX1_placeFrom 65 = .ok (.return_, 1) := by decide +kernel
set_option maxRecDepth 20000 in
theorem ggX1_take_X4_add : GoodIn wsX1_take wsX4_add := goodIn_r _ [11, 12, 24] (by decide +kernel) (by decide +kernel)
set_option maxRecDepth 20000 in
theorem gX1_take_X4_add : GoodIn wsX1_take (wsV RX1 92 RX4 yX4_add wsX4_add) := goodIn_app (goodIn_of _ (by decide +kernel)) ggX1_take_X4_add
set_option maxRecDepth 20000 in
theorem ggX1_take_X4_set : GoodIn wsX1_take wsX4_set := goodIn_r _ [16, 12, 24] (by decide +kernel) (by decide +kernel)
set_option maxRecDepth 20000 in
theorem gX1_take_X4_set : GoodIn wsX1_take (wsV RX1 49 RX4 yX4_set wsX4_set) := goodIn_app (goodIn_of _ (by decide +kernel)) ggX1_take_X4_set
theorem dX1_take_0 : decode cX1_take 0 = .ok (.iload_n 3, 1) := by decide +kernel
theorem dX1_take_1 : decode cX1_take 1 = .ok (.ifCond .le 87, 3) := by decide +kernel
theorem dX1_take_4 : decode cX1_take 4 = .ok (.aload_n 0, 1) := by decide +kernel
theorem dX1_take_5 : decode cX1_take 5 = .ok (.getfield 14, 3) := by decide +kernel
theorem dX1_take_8 : decode cX1_take 8 = .ok (.iload_n 1, 1) := by decide +kernel
theorem dX1_take_9 : decode cX1_take 9 = .ok (.iload_n 3, 1) := by decide +kernel
theorem dX1_take_10 : decode cX1_take 10 = .ok (.invokevirtual 92, 3) := by decide +kernel
theorem dX1_take_13 : decode cX1_take 13 = .ok (.aload_n 0, 1) := by decide +kernel
theorem dX1_take_14 : decode cX1_take 14 = .ok (.getfield 14, 3) := by decide +kernel
theorem dX1_take_17 : decode cX1_take 17 = .ok (.iload_n 2, 1) := by decide +kernel
theorem dX1_take_18 : decode cX1_take 18 = .ok (.iload_n 3, 1) := by decide +kernel
theorem dX1_take_19 : decode cX1_take 19 = .ok (.invokevirtual 92, 3) := by decide +kernel
theorem dX1_take_22 : decode cX1_take 22 = .ok (.aload_n 0, 1) := by decide +kernel
theorem dX1_take_23 : decode cX1_take 23 = .ok (.getfield 20, 3) := by decide +kernel
theorem dX1_take_26 : decode cX1_take 26 = .ok (.iload_n 1, 1) := by decide +kernel
theorem dX1_take_27 : decode cX1_take 27 = .ok (.iload_n 3, 1) := by decide +kernel
theorem dX1_take_28 : decode cX1_take 28 = .ok (.ineg, 1) := by decide +kernel
theorem dX1_take_29 : decode cX1_take 29 = .ok (.invokevirtual 92, 3) := by decide +kernel
theorem dX1_take_32 : decode cX1_take 32 = .ok (.aload_n 0, 1) := by decide +kernel
theorem dX1_take_33 : decode cX1_take 33 = .ok (.getfield 20, 3) := by decide +kernel
theorem dX1_take_36 : decode cX1_take 36 = .ok (.iload_n 2, 1) := by decide +kernel
theorem dX1_take_37 : decode cX1_take 37 = .ok (.iload_n 3, 1) := by decide +kernel
theorem dX1_take_38 : decode cX1_take 38 = .ok (.ineg, 1) := by decide +kernel
theorem dX1_take_39 : decode cX1_take 39 = .ok (.invokevirtual 92, 3) := by decide +kernel
theorem dX1_take_42 : decode cX1_take 42 = .ok (.aload_n 0, 1) := by decide +kernel
theorem dX1_take_43 : decode cX1_take 43 = .ok (.getfield 26, 3) := by decide +kernel
theorem dX1_take_46 : decode cX1_take 46 = .ok (.aload_n 0, 1) := by decide +kernel
theorem dX1_take_47 : decode cX1_take 47 = .ok (.getfield 35, 3) := by decide +kernel
theorem dX1_take_50 : decode cX1_take 50 = .ok (.iload_n 1, 1) := by decide +kernel
theorem dX1_take_51 : decode cX1_take 51 = .ok (.invokevirtual 49, 3) := by decide +kernel
theorem dX1_take_54 : decode cX1_take 54 = .ok (.aload_n 0, 1) := by decide +kernel
theorem dX1_take_55 : decode cX1_take 55 = .ok (.getfield 29, 3) := by decide +kernel
theorem dX1_take_58 : decode cX1_take 58 = .ok (.aload_n 0, 1) := by decide +kernel
theorem dX1_take_59 : decode cX1_take 59 = .ok (.getfield 35, 3) := by decide +kernel
theorem dX1_take_62 : decode cX1_take 62 = .ok (.iload_n 2, 1) := by decide +kernel
theorem dX1_take_63 : decode cX1_take 63 = .ok (.invokevirtual 49, 3) := by decide +kernel
theorem dX1_take_66 : decode cX1_take 66 = .ok (.aload_n 0, 1) := by decide +kernel
theorem dX1_take_67 : decode cX1_take 67 = .ok (.getfield 32, 3) := by decide +kernel
theorem dX1_take_70 : decode cX1_take 70 = .ok (.aload_n 0, 1) := by decide +kernel
theorem dX1_take_71 : decode cX1_take 71 = .ok (.getfield 35, 3) := by decide +kernel
theorem dX1_take_74 : decode cX1_take 74 = .ok (.iload_n 3, 1) := by decide +kernel
theorem dX1_take_75 : decode cX1_take 75 = .ok (.invokevirtual 49, 3) := by decide +kernel
theorem dX1_take_78 : decode cX1_take 78 = .ok (.aload_n 0, 1) := by decide +kernel
theorem dX1_take_79 : decode cX1_take 79 = .ok (.dup, 1) := by decide +kernel
theorem dX1_take_80 : decode cX1_take 80 = .ok (.getfield 35, 3) := by decide +kernel
theorem dX1_take_83 : decode cX1_take 83 = .ok (.iconst 1, 1) := by decide +kernel
theorem dX1_take_84 : decode cX1_take 84 = .ok (.iadd, 1) := by decide +kernel
theorem dX1_take_85 : decode cX1_take 85 = .ok (.putfield 35, 3) := by decide +kernel
theorem dX1_take_88 : decode cX1_take 88 = .ok (.return_, 1) := by decide +kernel
set_option maxRecDepth 20000 in
theorem ggX1_walk_X4_add : GoodIn wsX1_walk wsX4_add := goodIn_r _ [6, 7, 28] (by decide +kernel) (by decide +kernel)
set_option maxRecDepth 20000 in
theorem gX1_walk_X4_add : GoodIn wsX1_walk (wsV RX1 92 RX4 yX4_add wsX4_add) := goodIn_app (goodIn_of _ (by decide +kernel)) ggX1_walk_X4_add
set_option maxRecDepth 20000 in
theorem ggX1_walk_X3_nextRoad : GoodIn wsX1_walk wsX3_nextRoad := goodIn_r _ [12, 13, 14, 15, 16, 5, 17, 7, 18, 19, 20, 29, 30, 31, 32, 33, 28] (by decide +kernel) (by decide +kernel)
set_option maxRecDepth 20000 in
theorem gX1_walk_X3_nextRoad : GoodIn wsX1_walk (wsV RX1 95 RX3 yX3_nextRoad wsX3_nextRoad) := goodIn_app (goodIn_of _ (by decide +kernel)) ggX1_walk_X3_nextRoad
theorem dX1_walk_0 : decode cX1_walk 0 = .ok (.iload_n 2, 1) := by decide +kernel
theorem dX1_walk_1 : decode cX1_walk 1 = .ok (.istore 5, 2) := by decide +kernel
theorem dX1_walk_3 : decode cX1_walk 3 = .ok (.aload_n 0, 1) := by decide +kernel
theorem dX1_walk_4 : decode cX1_walk 4 = .ok (.getfield 23, 3) := by decide +kernel
theorem dX1_walk_7 : decode cX1_walk 7 = .ok (.iload 5, 2) := by decide +kernel
theorem dX1_walk_9 : decode cX1_walk 9 = .ok (.iload 4, 2) := by decide +kernel
theorem dX1_walk_11 : decode cX1_walk 11 = .ok (.invokevirtual 92, 3) := by decide +kernel
theorem dX1_walk_14 : decode cX1_walk 14 = .ok (.iconst 0, 1) := by decide +kernel
theorem dX1_walk_15 : decode cX1_walk 15 = .ok (.istore 6, 2) := by decide +kernel
theorem dX1_walk_17 : decode cX1_walk 17 = .ok (.iload 6, 2) := by decide +kernel
theorem dX1_walk_19 : decode cX1_walk 19 = .ok (.bipush 64, 2) := by decide +kernel
theorem dX1_walk_21 : decode cX1_walk 21 = .ok (.if_icmp .ge 35, 3) := by decide +kernel
theorem dX1_walk_24 : decode cX1_walk 24 = .ok (.iload 5, 2) := by decide +kernel
theorem dX1_walk_26 : decode cX1_walk 26 = .ok (.iload_n 3, 1) := by decide +kernel
theorem dX1_walk_27 : decode cX1_walk 27 = .ok (.if_icmp .eq 29, 3) := by decide +kernel
theorem dX1_walk_30 : decode cX1_walk 30 = .ok (.aload_n 1, 1) := by decide +kernel
theorem dX1_walk_31 : decode cX1_walk 31 = .ok (.iload 5, 2) := by decide +kernel
theorem dX1_walk_33 : decode cX1_walk 33 = .ok (.iload_n 3, 1) := by decide +kernel
theorem dX1_walk_34 : decode cX1_walk 34 = .ok (.invokevirtual 95, 3) := by decide +kernel
theorem dX1_walk_37 : decode cX1_walk 37 = .ok (.istore 5, 2) := by decide +kernel
theorem dX1_walk_39 : decode cX1_walk 39 = .ok (.aload_n 0, 1) := by decide +kernel
theorem dX1_walk_40 : decode cX1_walk 40 = .ok (.getfield 23, 3) := by decide +kernel
theorem dX1_walk_43 : decode cX1_walk 43 = .ok (.iload 5, 2) := by decide +kernel
theorem dX1_walk_45 : decode cX1_walk 45 = .ok (.iload 4, 2) := by decide +kernel
theorem dX1_walk_47 : decode cX1_walk 47 = .ok (.invokevirtual 92, 3) := by decide +kernel
theorem dX1_walk_50 : decode cX1_walk 50 = .ok (.iinc 6 1, 3) := by decide +kernel
theorem dX1_walk_53 : decode cX1_walk 53 = .ok (.goto (-36), 3) := by decide +kernel
theorem dX1_walk_56 : decode cX1_walk 56 = .ok (.return_, 1) := by decide +kernel
set_option maxRecDepth 20000 in
theorem ggX1_placedAt_X4_get : GoodIn wsX1_placedAt wsX4_get := goodIn_r _ [6, 7, 15] (by decide +kernel) (by decide +kernel)
set_option maxRecDepth 20000 in
theorem gX1_placedAt_X4_get : GoodIn wsX1_placedAt (wsV RX1 62 RX4 yX4_get wsX4_get) := goodIn_app (goodIn_of _ (by decide +kernel)) ggX1_placedAt_X4_get
theorem dX1_placedAt_0 : decode cX1_placedAt 0 = .ok (.aload_n 0, 1) := by decide +kernel
theorem dX1_placedAt_1 : decode cX1_placedAt 1 = .ok (.getfield 14, 3) := by decide +kernel
theorem dX1_placedAt_4 : decode cX1_placedAt 4 = .ok (.iload_n 1, 1) := by decide +kernel
theorem dX1_placedAt_5 : decode cX1_placedAt 5 = .ok (.invokevirtual 62, 3) := by decide +kernel
theorem dX1_placedAt_8 : decode cX1_placedAt 8 = .ok (.ireturn, 1) := by decide +kernel
set_option maxRecDepth 20000 in
theorem ggX1_trafficOn_X4_get : GoodIn wsX1_trafficOn wsX4_get := goodIn_r _ [6, 7, 15] (by decide +kernel) (by decide +kernel)
set_option maxRecDepth 20000 in
theorem gX1_trafficOn_X4_get : GoodIn wsX1_trafficOn (wsV RX1 62 RX4 yX4_get wsX4_get) := goodIn_app (goodIn_of _ (by decide +kernel)) ggX1_trafficOn_X4_get
theorem dX1_trafficOn_0 : decode cX1_trafficOn 0 = .ok (.aload_n 0, 1) := by decide +kernel
theorem dX1_trafficOn_1 : decode cX1_trafficOn 1 = .ok (.getfield 23, 3) := by decide +kernel
theorem dX1_trafficOn_4 : decode cX1_trafficOn 4 = .ok (.iload_n 1, 1) := by decide +kernel
theorem dX1_trafficOn_5 : decode cX1_trafficOn 5 = .ok (.invokevirtual 62, 3) := by decide +kernel
theorem dX1_trafficOn_8 : decode cX1_trafficOn 8 = .ok (.ireturn, 1) := by decide +kernel
set_option maxRecDepth 20000 in
theorem ggX1_goingBetween_X4_get : GoodIn wsX1_goingBetween wsX4_get := goodIn_r _ [9, 10, 18] (by decide +kernel) (by decide +kernel)
set_option maxRecDepth 20000 in
theorem gX1_goingBetween_X4_get : GoodIn wsX1_goingBetween (wsV RX1 62 RX4 yX4_get wsX4_get) := goodIn_app (goodIn_of _ (by decide +kernel)) ggX1_goingBetween_X4_get
theorem dX1_goingBetween_0 : decode cX1_goingBetween 0 = .ok (.iconst 0, 1) := by decide +kernel
theorem dX1_goingBetween_1 : decode cX1_goingBetween 1 = .ok (.istore_n 3, 1) := by decide +kernel
theorem dX1_goingBetween_2 : decode cX1_goingBetween 2 = .ok (.iload_n 3, 1) := by decide +kernel
theorem dX1_goingBetween_3 : decode cX1_goingBetween 3 = .ok (.aload_n 0, 1) := by decide +kernel
theorem dX1_goingBetween_4 : decode cX1_goingBetween 4 = .ok (.getfield 35, 3) := by decide +kernel
theorem dX1_goingBetween_7 : decode cX1_goingBetween 7 = .ok (.if_icmp .ge 42, 3) := by decide +kernel
theorem dX1_goingBetween_10 : decode cX1_goingBetween 10 = .ok (.aload_n 0, 1) := by decide +kernel
theorem dX1_goingBetween_11 : decode cX1_goingBetween 11 = .ok (.getfield 26, 3) := by decide +kernel
theorem dX1_goingBetween_14 : decode cX1_goingBetween 14 = .ok (.iload_n 3, 1) := by decide +kernel
theorem dX1_goingBetween_15 : decode cX1_goingBetween 15 = .ok (.invokevirtual 62, 3) := by decide +kernel
theorem dX1_goingBetween_18 : decode cX1_goingBetween 18 = .ok (.iload_n 1, 1) := by decide +kernel
theorem dX1_goingBetween_19 : decode cX1_goingBetween 19 = .ok (.if_icmp .ne 24, 3) := by decide +kernel
theorem dX1_goingBetween_22 : decode cX1_goingBetween 22 = .ok (.aload_n 0, 1) := by decide +kernel
theorem dX1_goingBetween_23 : decode cX1_goingBetween 23 = .ok (.getfield 29, 3) := by decide +kernel
theorem dX1_goingBetween_26 : decode cX1_goingBetween 26 = .ok (.iload_n 3, 1) := by decide +kernel
theorem dX1_goingBetween_27 : decode cX1_goingBetween 27 = .ok (.invokevirtual 62, 3) := by decide +kernel
theorem dX1_goingBetween_30 : decode cX1_goingBetween 30 = .ok (.iload_n 2, 1) := by decide +kernel
theorem dX1_goingBetween_31 : decode cX1_goingBetween 31 = .ok (.if_icmp .ne 12, 3) := by decide +kernel
theorem dX1_goingBetween_34 : decode cX1_goingBetween 34 = .ok (.aload_n 0, 1) := by decide +kernel
theorem dX1_goingBetween_35 : decode cX1_goingBetween 35 = .ok (.getfield 32, 3) := by decide +kernel
theorem dX1_goingBetween_38 : decode cX1_goingBetween 38 = .ok (.iload_n 3, 1) := by decide +kernel
theorem dX1_goingBetween_39 : decode cX1_goingBetween 39 = .ok (.invokevirtual 62, 3) := by decide +kernel
theorem dX1_goingBetween_42 : decode cX1_goingBetween 42 = .ok (.ireturn, 1) := by decide +kernel
theorem dX1_goingBetween_43 : decode cX1_goingBetween 43 = .ok (.iinc 3 1, 3) := by decide +kernel
theorem dX1_goingBetween_46 : decode cX1_goingBetween 46 = .ok (.goto (-44), 3) := by decide +kernel
theorem dX1_goingBetween_49 : decode cX1_goingBetween 49 = .ok (.iconst 0, 1) := by decide +kernel
theorem dX1_goingBetween_50 : decode cX1_goingBetween 50 = .ok (.ireturn, 1) := by decide +kernel
set_option maxRecDepth 20000 in
theorem ggX1_allPlaced_X4_get : GoodIn wsX1_allPlaced wsX4_get := goodIn_r _ [7, 8, 16] (by decide +kernel) (by decide +kernel)
set_option maxRecDepth 20000 in
theorem gX1_allPlaced_X4_get : GoodIn wsX1_allPlaced (wsV RX1 62 RX4 yX4_get wsX4_get) := goodIn_app (goodIn_of _ (by decide +kernel)) ggX1_allPlaced_X4_get
theorem dX1_allPlaced_0 : decode cX1_allPlaced 0 = .ok (.iconst 0, 1) := by decide +kernel
theorem dX1_allPlaced_1 : decode cX1_allPlaced 1 = .ok (.istore_n 1, 1) := by decide +kernel
theorem dX1_allPlaced_2 : decode cX1_allPlaced 2 = .ok (.iconst 0, 1) := by decide +kernel
theorem dX1_allPlaced_3 : decode cX1_allPlaced 3 = .ok (.istore_n 2, 1) := by decide +kernel
theorem dX1_allPlaced_4 : decode cX1_allPlaced 4 = .ok (.iload_n 2, 1) := by decide +kernel
theorem dX1_allPlaced_5 : decode cX1_allPlaced 5 = .ok (.aload_n 0, 1) := by decide +kernel
theorem dX1_allPlaced_6 : decode cX1_allPlaced 6 = .ok (.getfield 35, 3) := by decide +kernel
theorem dX1_allPlaced_9 : decode cX1_allPlaced 9 = .ok (.if_icmp .ge 20, 3) := by decide +kernel
theorem dX1_allPlaced_12 : decode cX1_allPlaced 12 = .ok (.iload_n 1, 1) := by decide +kernel
theorem dX1_allPlaced_13 : decode cX1_allPlaced 13 = .ok (.aload_n 0, 1) := by decide +kernel
theorem dX1_allPlaced_14 : decode cX1_allPlaced 14 = .ok (.getfield 32, 3) := by decide +kernel
theorem dX1_allPlaced_17 : decode cX1_allPlaced 17 = .ok (.iload_n 2, 1) := by decide +kernel
theorem dX1_allPlaced_18 : decode cX1_allPlaced 18 = .ok (.invokevirtual 62, 3) := by decide +kernel
theorem dX1_allPlaced_21 : decode cX1_allPlaced 21 = .ok (.iadd, 1) := by decide +kernel
theorem dX1_allPlaced_22 : decode cX1_allPlaced 22 = .ok (.istore_n 1, 1) := by decide +kernel
theorem dX1_allPlaced_23 : decode cX1_allPlaced 23 = .ok (.iinc 2 1, 3) := by decide +kernel
theorem dX1_allPlaced_26 : decode cX1_allPlaced 26 = .ok (.goto (-22), 3) := by decide +kernel
theorem dX1_allPlaced_29 : decode cX1_allPlaced 29 = .ok (.iload_n 1, 1) := by decide +kernel
theorem dX1_allPlaced_30 : decode cX1_allPlaced 30 = .ok (.ireturn, 1) := by decide +kernel
theorem dX2_init_0 : decode cX2_init 0 = .ok (.aload_n 0, 1) := by decide +kernel
theorem dX2_init_1 : decode cX2_init 1 = .ok (.invokespecial 1, 3) := by decide +kernel
theorem dX2_init_4 : decode cX2_init 4 = .ok (.aload_n 0, 1) := by decide +kernel
theorem dX2_init_5 : decode cX2_init 5 = .ok (.sipush 1000, 3) := by decide +kernel
theorem dX2_init_8 : decode cX2_init 8 = .ok (.putfield 7, 3) := by decide +kernel
theorem dX2_init_11 : decode cX2_init 11 = .ok (.aload_n 0, 1) := by decide +kernel
theorem dX2_init_12 : decode cX2_init 12 = .ok (.iconst 0, 1) := by decide +kernel
theorem dX2_init_13 : decode cX2_init 13 = .ok (.putfield 13, 3) := by decide +kernel
theorem dX2_init_16 : decode cX2_init 16 = .ok (.aload_n 0, 1) := by decide +kernel
theorem dX2_init_17 : decode cX2_init 17 = .ok (.iconst 3, 1) := by decide +kernel
theorem dX2_init_18 : decode cX2_init 18 = .ok (.putfield 16, 3) := by decide +kernel
theorem dX2_init_21 : decode cX2_init 21 = .ok (.aload_n 0, 1) := by decide +kernel
theorem dX2_init_22 : decode cX2_init 22 = .ok (.iconst 4, 1) := by decide +kernel
theorem dX2_init_23 : decode cX2_init 23 = .ok (.putfield 19, 3) := by decide +kernel
theorem dX2_init_26 : decode cX2_init 26 = .ok (.aload_n 0, 1) := by decide +kernel
theorem dX2_init_27 : decode cX2_init 27 = .ok (.iconst 0, 1) := by decide +kernel
theorem dX2_init_28 : decode cX2_init 28 = .ok (.putfield 22, 3) := by decide +kernel
theorem dX2_init_31 : decode cX2_init 31 = .ok (.return_, 1) := by decide +kernel
theorem dX2_cashNow_0 : decode cX2_cashNow 0 = .ok (.aload_n 0, 1) := by decide +kernel
theorem dX2_cashNow_1 : decode cX2_cashNow 1 = .ok (.getfield 7, 3) := by decide +kernel
theorem dX2_cashNow_4 : decode cX2_cashNow 4 = .ok (.ireturn, 1) := by decide +kernel
theorem dX2_debtNow_0 : decode cX2_debtNow 0 = .ok (.aload_n 0, 1) := by decide +kernel
theorem dX2_debtNow_1 : decode cX2_debtNow 1 = .ok (.getfield 13, 3) := by decide +kernel
theorem dX2_debtNow_4 : decode cX2_debtNow 4 = .ok (.ireturn, 1) := by decide +kernel
theorem dX2_earnedNow_0 : decode cX2_earnedNow 0 = .ok (.aload_n 0, 1) := by decide +kernel
theorem dX2_earnedNow_1 : decode cX2_earnedNow 1 = .ok (.getfield 22, 3) := by decide +kernel
theorem dX2_earnedNow_4 : decode cX2_earnedNow 4 = .ok (.ireturn, 1) := by decide +kernel
theorem dX2_spend_0 : decode cX2_spend 0 = .ok (.aload_n 0, 1) := by decide +kernel
theorem dX2_spend_1 : decode cX2_spend 1 = .ok (.dup, 1) := by decide +kernel
theorem dX2_spend_2 : decode cX2_spend 2 = .ok (.getfield 7, 3) := by decide +kernel
theorem dX2_spend_5 : decode cX2_spend 5 = .ok (.iload_n 1, 1) := by decide +kernel
theorem dX2_spend_6 : decode cX2_spend 6 = .ok (.isub, 1) := by decide +kernel
theorem dX2_spend_7 : decode cX2_spend 7 = .ok (.putfield 7, 3) := by decide +kernel
theorem dX2_spend_10 : decode cX2_spend 10 = .ok (.return_, 1) := by decide +kernel
theorem dX2_lend_0 : decode cX2_lend 0 = .ok (.aload_n 0, 1) := by decide +kernel
theorem dX2_lend_1 : decode cX2_lend 1 = .ok (.dup, 1) := by decide +kernel
theorem dX2_lend_2 : decode cX2_lend 2 = .ok (.getfield 7, 3) := by decide +kernel
theorem dX2_lend_5 : decode cX2_lend 5 = .ok (.iload_n 1, 1) := by decide +kernel
theorem dX2_lend_6 : decode cX2_lend 6 = .ok (.iadd, 1) := by decide +kernel
theorem dX2_lend_7 : decode cX2_lend 7 = .ok (.putfield 7, 3) := by decide +kernel
theorem dX2_lend_10 : decode cX2_lend 10 = .ok (.aload_n 0, 1) := by decide +kernel
theorem dX2_lend_11 : decode cX2_lend 11 = .ok (.dup, 1) := by decide +kernel
theorem dX2_lend_12 : decode cX2_lend 12 = .ok (.getfield 13, 3) := by decide +kernel
theorem dX2_lend_15 : decode cX2_lend 15 = .ok (.iload_n 1, 1) := by decide +kernel
theorem dX2_lend_16 : decode cX2_lend 16 = .ok (.iadd, 1) := by decide +kernel
theorem dX2_lend_17 : decode cX2_lend 17 = .ok (.putfield 13, 3) := by decide +kernel
theorem dX2_lend_20 : decode cX2_lend 20 = .ok (.return_, 1) := by decide +kernel
theorem dX2_changeTax_0 : decode cX2_changeTax 0 = .ok (.iload_n 1, 1) := by decide +kernel
theorem dX2_changeTax_1 : decode cX2_changeTax 1 = .ok (.ifCond .eq 10, 3) := by decide +kernel
theorem dX2_changeTax_4 : decode cX2_changeTax 4 = .ok (.aload_n 0, 1) := by decide +kernel
theorem dX2_changeTax_5 : decode cX2_changeTax 5 = .ok (.getfield 19, 3) := by decide +kernel
theorem dX2_changeTax_8 : decode cX2_changeTax 8 = .ok (.goto 7, 3) := by decide +kernel
theorem dX2_changeTax_11 : decode cX2_changeTax 11 = .ok (.aload_n 0, 1) := by decide +kernel
theorem dX2_changeTax_12 : decode cX2_changeTax 12 = .ok (.getfield 16, 3) := by decide +kernel
theorem dX2_changeTax_15 : decode cX2_changeTax 15 = .ok (.istore_n 3, 1) := by decide +kernel
theorem dX2_changeTax_16 : decode cX2_changeTax 16 = .ok (.iload_n 1, 1) := by decide +kernel
theorem dX2_changeTax_17 : decode cX2_changeTax 17 = .ok (.ifCond .eq 11, 3) := by decide +kernel
theorem dX2_changeTax_20 : decode cX2_changeTax 20 = .ok (.aload_n 0, 1) := by decide +kernel
theorem dX2_changeTax_21 : decode cX2_changeTax 21 = .ok (.iload_n 2, 1) := by decide +kernel
theorem dX2_changeTax_22 : decode cX2_changeTax 22 = .ok (.putfield 19, 3) := by decide +kernel
theorem dX2_changeTax_25 : decode cX2_changeTax 25 = .ok (.goto 8, 3) := by decide +kernel
theorem dX2_changeTax_28 : decode cX2_changeTax 28 = .ok (.aload_n 0, 1) := by decide +kernel
theorem dX2_changeTax_29 : decode cX2_changeTax 29 = .ok (.iload_n 2, 1) := by decide +kernel
theorem dX2_changeTax_30 : decode cX2_changeTax 30 = .ok (.putfield 16, 3) := by decide +kernel
theorem dX2_changeTax_33 : decode cX2_changeTax 33 = .ok (.iload_n 3, 1) := by decide +kernel
theorem dX2_changeTax_34 : decode cX2_changeTax 34 = .ok (.ireturn, 1) := by decide +kernel
theorem dX2_closeMonth_0 : decode cX2_closeMonth 0 = .ok (.iload_n 1, 1) := by decide +kernel
theorem dX2_closeMonth_1 : decode cX2_closeMonth 1 = .ok (.aload_n 0, 1) := by decide +kernel
theorem dX2_closeMonth_2 : decode cX2_closeMonth 2 = .ok (.getfield 16, 3) := by decide +kernel
theorem dX2_closeMonth_5 : decode cX2_closeMonth 5 = .ok (.imul, 1) := by decide +kernel
theorem dX2_closeMonth_6 : decode cX2_closeMonth 6 = .ok (.iload_n 1, 1) := by decide +kernel
theorem dX2_closeMonth_7 : decode cX2_closeMonth 7 = .ok (.aload_n 0, 1) := by decide +kernel
theorem dX2_closeMonth_8 : decode cX2_closeMonth 8 = .ok (.getfield 19, 3) := by decide +kernel
theorem dX2_closeMonth_11 : decode cX2_closeMonth 11 = .ok (.imul, 1) := by decide +kernel
theorem dX2_closeMonth_12 : decode cX2_closeMonth 12 = .ok (.iadd, 1) := by decide +kernel
theorem dX2_closeMonth_13 : decode cX2_closeMonth 13 = .ok (.istore_n 3, 1) := by decide +kernel
theorem dX2_closeMonth_14 : decode cX2_closeMonth 14 = .ok (.aload_n 0, 1) := by decide +kernel
theorem dX2_closeMonth_15 : decode cX2_closeMonth 15 = .ok (.getfield 13, 3) := by decide +kernel
theorem dX2_closeMonth_18 : decode cX2_closeMonth 18 = .ok (.bipush 99, 2) := by decide +kernel
theorem dX2_closeMonth_20 : decode cX2_closeMonth 20 = .ok (.iadd, 1) := by decide +kernel
theorem dX2_closeMonth_21 : decode cX2_closeMonth 21 = .ok (.bipush 100, 2) := by decide +kernel
theorem dX2_closeMonth_23 : decode cX2_closeMonth 23 = .ok (.idiv, 1) := by decide +kernel
theorem dX2_closeMonth_24 : decode cX2_closeMonth 24 = .ok (.istore 4, 2) := by decide +kernel
theorem dX2_closeMonth_26 : decode cX2_closeMonth 26 = .ok (.iload_n 3, 1) := by decide +kernel
theorem dX2_closeMonth_27 : decode cX2_closeMonth 27 = .ok (.iload_n 2, 1) := by decide +kernel
theorem dX2_closeMonth_28 : decode cX2_closeMonth 28 = .ok (.isub, 1) := by decide +kernel
theorem dX2_closeMonth_29 : decode cX2_closeMonth 29 = .ok (.iload 4, 2) := by decide +kernel
theorem dX2_closeMonth_31 : decode cX2_closeMonth 31 = .ok (.isub, 1) := by decide +kernel
theorem dX2_closeMonth_32 : decode cX2_closeMonth 32 = .ok (.istore 5, 2) := by decide +kernel
theorem dX2_closeMonth_34 : decode cX2_closeMonth 34 = .ok (.aload_n 0, 1) := by decide +kernel
theorem dX2_closeMonth_35 : decode cX2_closeMonth 35 = .ok (.dup, 1) := by decide +kernel
theorem dX2_closeMonth_36 : decode cX2_closeMonth 36 = .ok (.getfield 7, 3) := by decide +kernel
theorem dX2_closeMonth_39 : decode cX2_closeMonth 39 = .ok (.iload 5, 2) := by decide +kernel
theorem dX2_closeMonth_41 : decode cX2_closeMonth 41 = .ok (.iadd, 1) := by decide +kernel
theorem dX2_closeMonth_42 : decode cX2_closeMonth 42 = .ok (.putfield 7, 3) := by decide +kernel
