set_option maxRecDepth 20000 in
theorem in_wsL_law0_r19 : ∀ w ∈ wsL_law0_r19, w ∈ lw_tbl := zInP [551, 552, 553, 554, 910, 911, 912, 913, 536, 538, 22, 539, 555, 540, 541, 542, 543, 545, 546, 547, 548, 549, 550, 448] (by decide +kernel)
set_option maxRecDepth 20000 in
theorem in_wsL_law0_r20 : ∀ w ∈ wsL_law0_r20, w ∈ lw_tbl := zInP [449, 450, 914, 915, 916, 917, 918, 919, 920, 921, 922, 923, 924, 925, 926, 927, 928, 929, 930, 931, 932, 933, 934, 935] (by decide +kernel)
set_option maxRecDepth 20000 in
theorem w_wsL_law0_r21_0 : Cond.methodLink RL 75 yL_areBeside ∈ lw_tbl := List.mem_of_getElem? (i := 936) (by decide +kernel)
set_option maxRecDepth 20000 in
theorem w_wsL_law0_r21_1 : Cond.static yL_areBeside ∈ lw_tbl := List.mem_of_getElem? (i := 937) (by decide +kernel)
set_option maxRecDepth 20000 in
theorem w_wsL_law0_r21_2 : Cond.code yL_areBeside cL_areBeside 4 (some .boolean) ∈ lw_tbl := List.mem_of_getElem? (i := 938) (by decide +kernel)
set_option maxRecDepth 20000 in
theorem w_wsL_law0_r21_3 : Cond.methodLink RL 89 yL_isText ∈ lw_tbl := List.mem_of_getElem? (i := 939) (by decide +kernel)
set_option maxRecDepth 20000 in
theorem w_wsL_law0_r21_4 : Cond.static yL_isText ∈ lw_tbl := List.mem_of_getElem? (i := 940) (by decide +kernel)
set_option maxRecDepth 20000 in
theorem w_wsL_law0_r21_5 : Cond.code yL_isText cL_isText 8 (some .boolean) ∈ lw_tbl := List.mem_of_getElem? (i := 941) (by decide +kernel)
set_option maxRecDepth 20000 in
theorem w_wsL_law0_r21_6 : Cond.methodLink RL 106 yL_isNet ∈ lw_tbl := List.mem_of_getElem? (i := 942) (by decide +kernel)
set_option maxRecDepth 20000 in
theorem w_wsL_law0_r21_7 : Cond.static yL_isNet ∈ lw_tbl := List.mem_of_getElem? (i := 943) (by decide +kernel)
set_option maxRecDepth 20000 in
theorem w_wsL_law0_r21_8 : Cond.code yL_isNet cL_isNet 11 (some .boolean) ∈ lw_tbl := List.mem_of_getElem? (i := 944) (by decide +kernel)
set_option maxRecDepth 20000 in
theorem w_wsL_law0_r21_9 : Cond.methodLink RL 110 yL_isSupplied ∈ lw_tbl := List.mem_of_getElem? (i := 945) (by decide +kernel)
set_option maxRecDepth 20000 in
theorem w_wsL_law0_r21_10 : Cond.static yL_isSupplied ∈ lw_tbl := List.mem_of_getElem? (i := 946) (by decide +kernel)
set_option maxRecDepth 20000 in
theorem w_wsL_law0_r21_11 : Cond.code yL_isSupplied cL_isSupplied 11 (some .boolean) ∈ lw_tbl := List.mem_of_getElem? (i := 947) (by decide +kernel)
set_option maxRecDepth 20000 in
theorem w_wsL_law0_r21_12 : Cond.methodLink RL 135 yL_isDone ∈ lw_tbl := List.mem_of_getElem? (i := 948) (by decide +kernel)
set_option maxRecDepth 20000 in
theorem w_wsL_law0_r21_13 : Cond.static yL_isDone ∈ lw_tbl := List.mem_of_getElem? (i := 949) (by decide +kernel)
set_option maxRecDepth 20000 in
theorem w_wsL_law0_r21_14 : Cond.code yL_isDone cL_isDone 12 (some .boolean) ∈ lw_tbl := List.mem_of_getElem? (i := 950) (by decide +kernel)
set_option maxRecDepth 20000 in
theorem w_wsL_law0_r21_15 : Cond.constant RL 39 (-1000000) ∈ lw_tbl := List.mem_of_getElem? (i := 562) (by decide +kernel)
set_option maxRecDepth 20000 in
theorem w_wsL_law0_r21_16 : Cond.methodLink RL 116 yL_part ∈ lw_tbl := List.mem_of_getElem? (i := 195) (by decide +kernel)
set_option maxRecDepth 20000 in
theorem w_wsL_law0_r21_17 : Cond.static yL_part ∈ lw_tbl := List.mem_of_getElem? (i := 196) (by decide +kernel)
set_option maxRecDepth 20000 in
theorem w_wsL_law0_r21_18 : Cond.code yL_part cL_part 4 (some .int) ∈ lw_tbl := List.mem_of_getElem? (i := 197) (by decide +kernel)
set_option maxRecDepth 20000 in
theorem w_wsL_law0_r21_19 : Cond.constant RL 7 (2147483647) ∈ lw_tbl := List.mem_of_getElem? (i := 198) (by decide +kernel)
set_option maxRecDepth 20000 in
theorem w_wsL_law0_r21_20 : Cond.methodLink RL 120 yL_costOf ∈ lw_tbl := List.mem_of_getElem? (i := 951) (by decide +kernel)
set_option maxRecDepth 20000 in
theorem w_wsL_law0_r21_21 : Cond.static yL_costOf ∈ lw_tbl := List.mem_of_getElem? (i := 952) (by decide +kernel)
set_option maxRecDepth 20000 in
theorem w_wsL_law0_r21_22 : Cond.code yL_costOf cL_costOf 1 (some .int) ∈ lw_tbl := List.mem_of_getElem? (i := 953) (by decide +kernel)
set_option maxRecDepth 20000 in
theorem w_wsL_law0_r21_23 : Cond.methodLink RL 113 yL_does ∈ lw_tbl := List.mem_of_getElem? (i := 199) (by decide +kernel)
theorem in_wsL_law0_r21 : ∀ w ∈ wsL_law0_r21, w ∈ lw_tbl := List.forall_mem_cons.mpr ⟨w_wsL_law0_r21_0, List.forall_mem_cons.mpr ⟨w_wsL_law0_r21_1, List.forall_mem_cons.mpr ⟨w_wsL_law0_r21_2, List.forall_mem_cons.mpr ⟨w_wsL_law0_r21_3, List.forall_mem_cons.mpr ⟨w_wsL_law0_r21_4, List.forall_mem_cons.mpr ⟨w_wsL_law0_r21_5, List.forall_mem_cons.mpr ⟨w_wsL_law0_r21_6, List.forall_mem_cons.mpr ⟨w_wsL_law0_r21_7, List.forall_mem_cons.mpr ⟨w_wsL_law0_r21_8, List.forall_mem_cons.mpr ⟨w_wsL_law0_r21_9, List.forall_mem_cons.mpr ⟨w_wsL_law0_r21_10, List.forall_mem_cons.mpr ⟨w_wsL_law0_r21_11, List.forall_mem_cons.mpr ⟨w_wsL_law0_r21_12, List.forall_mem_cons.mpr ⟨w_wsL_law0_r21_13, List.forall_mem_cons.mpr ⟨w_wsL_law0_r21_14, List.forall_mem_cons.mpr ⟨w_wsL_law0_r21_15, List.forall_mem_cons.mpr ⟨w_wsL_law0_r21_16, List.forall_mem_cons.mpr ⟨w_wsL_law0_r21_17, List.forall_mem_cons.mpr ⟨w_wsL_law0_r21_18, List.forall_mem_cons.mpr ⟨w_wsL_law0_r21_19, List.forall_mem_cons.mpr ⟨w_wsL_law0_r21_20, List.forall_mem_cons.mpr ⟨w_wsL_law0_r21_21, List.forall_mem_cons.mpr ⟨w_wsL_law0_r21_22, List.forall_mem_cons.mpr ⟨w_wsL_law0_r21_23, fun _ h => absurd h List.not_mem_nil⟩⟩⟩⟩⟩⟩⟩⟩⟩⟩⟩⟩⟩⟩⟩⟩⟩⟩⟩⟩⟩⟩⟩⟩
set_option maxRecDepth 20000 in
theorem w_wsL_law0_r22_0 : Cond.static yL_does ∈ lw_tbl := List.mem_of_getElem? (i := 200) (by decide +kernel)
set_option maxRecDepth 20000 in
theorem w_wsL_law0_r22_1 : Cond.codeWith yL_does cL_does 5 (some .int) [(0, 80, 81, 31), (0, 80, 86, 34), (0, 80, 91, 37)] ∈ lw_tbl := List.mem_of_getElem? (i := 201) (by decide +kernel)
set_option maxRecDepth 20000 in
theorem w_wsL_law0_r22_2 : Cond.classLink RL 34 "java/lang/IllegalArgumentException" ∈ lw_tbl := List.mem_of_getElem? (i := 203) (by decide +kernel)
set_option maxRecDepth 20000 in
theorem w_wsL_law0_r22_3 : Cond.classLink RL 37 "java/lang/IllegalStateException" ∈ lw_tbl := List.mem_of_getElem? (i := 204) (by decide +kernel)
set_option maxRecDepth 20000 in
theorem w_wsL_law0_r22_4 : Cond.methodLink RL 8 yX6_build ∈ lw_tbl := List.mem_of_getElem? (i := 205) (by decide +kernel)
set_option maxRecDepth 20000 in
theorem w_wsL_law0_r22_5 : Cond.instanceMethod yX6_build ∈ lw_tbl := List.mem_of_getElem? (i := 206) (by decide +kernel)
set_option maxRecDepth 20000 in
theorem w_wsL_law0_r22_6 : Cond.selects RX6 yX6_build yX6_build ∈ lw_tbl := List.mem_of_getElem? (i := 207) (by decide +kernel)
set_option maxRecDepth 20000 in
theorem w_wsL_law0_r22_7 : Cond.code yX6_build cX6_build 3 (some .int) ∈ lw_tbl := List.mem_of_getElem? (i := 208) (by decide +kernel)
set_option maxRecDepth 20000 in
theorem w_wsL_law0_r22_8 : Cond.classLink RX6 56 "java/lang/IllegalStateException" ∈ lw_tbl := List.mem_of_getElem? (i := 307) (by decide +kernel)
set_option maxRecDepth 20000 in
theorem w_wsL_law0_r22_9 : Cond.initialized "java/lang/IllegalStateException" ∈ lw_tbl := List.mem_of_getElem? (i := 49) (by decide +kernel)
set_option maxRecDepth 20000 in
theorem w_wsL_law0_r22_10 : Cond.methodLink RX6 48 yX6_requireRange ∈ lw_tbl := List.mem_of_getElem? (i := 280) (by decide +kernel)
set_option maxRecDepth 20000 in
theorem w_wsL_law0_r22_11 : Cond.static yX6_requireRange ∈ lw_tbl := List.mem_of_getElem? (i := 281) (by decide +kernel)
set_option maxRecDepth 20000 in
theorem w_wsL_law0_r22_12 : Cond.code yX6_requireRange cX6_requireRange 3 none ∈ lw_tbl := List.mem_of_getElem? (i := 282) (by decide +kernel)
set_option maxRecDepth 20000 in
theorem w_wsL_law0_r22_13 : Cond.classLink RX6 154 "java/lang/IllegalArgumentException" ∈ lw_tbl := List.mem_of_getElem? (i := 283) (by decide +kernel)
set_option maxRecDepth 20000 in
theorem w_wsL_law0_r22_14 : Cond.initialized "java/lang/IllegalArgumentException" ∈ lw_tbl := List.mem_of_getElem? (i := 48) (by decide +kernel)
set_option maxRecDepth 20000 in
theorem w_wsL_law0_r22_15 : Cond.methodLink RX6 63 yX6_costOf ∈ lw_tbl := List.mem_of_getElem? (i := 323) (by decide +kernel)
set_option maxRecDepth 20000 in
theorem w_wsL_law0_r22_16 : Cond.static yX6_costOf ∈ lw_tbl := List.mem_of_getElem? (i := 324) (by decide +kernel)
set_option maxRecDepth 20000 in
theorem w_wsL_law0_r22_17 : Cond.code yX6_costOf cX6_costOf 1 (some .int) ∈ lw_tbl := List.mem_of_getElem? (i := 325) (by decide +kernel)
set_option maxRecDepth 20000 in
theorem w_wsL_law0_r22_18 : Cond.methodLink RX6 66 yX6_requireCash ∈ lw_tbl := List.mem_of_getElem? (i := 326) (by decide +kernel)
set_option maxRecDepth 20000 in
theorem w_wsL_law0_r22_19 : Cond.instanceMethod yX6_requireCash ∈ lw_tbl := List.mem_of_getElem? (i := 328) (by decide +kernel)
set_option maxRecDepth 20000 in
theorem w_wsL_law0_r22_20 : Cond.selects RX6 yX6_requireCash yX6_requireCash ∈ lw_tbl := List.mem_of_getElem? (i := 7) (by decide +kernel)
set_option maxRecDepth 20000 in
theorem w_wsL_law0_r22_21 : Cond.code yX6_requireCash cX6_requireCash 2 none ∈ lw_tbl := List.mem_of_getElem? (i := 329) (by decide +kernel)
set_option maxRecDepth 20000 in
theorem w_wsL_law0_r22_22 : Cond.methodLink RX6 69 yX2_spend ∈ lw_tbl := List.mem_of_getElem? (i := 335) (by decide +kernel)
set_option maxRecDepth 20000 in
theorem w_wsL_law0_r22_23 : Cond.instanceMethod yX2_spend ∈ lw_tbl := List.mem_of_getElem? (i := 336) (by decide +kernel)
theorem in_wsL_law0_r22 : ∀ w ∈ wsL_law0_r22, w ∈ lw_tbl := List.forall_mem_cons.mpr ⟨w_wsL_law0_r22_0, List.forall_mem_cons.mpr ⟨w_wsL_law0_r22_1, List.forall_mem_cons.mpr ⟨w_wsL_law0_r22_2, List.forall_mem_cons.mpr ⟨w_wsL_law0_r22_3, List.forall_mem_cons.mpr ⟨w_wsL_law0_r22_4, List.forall_mem_cons.mpr ⟨w_wsL_law0_r22_5, List.forall_mem_cons.mpr ⟨w_wsL_law0_r22_6, List.forall_mem_cons.mpr ⟨w_wsL_law0_r22_7, List.forall_mem_cons.mpr ⟨w_wsL_law0_r22_8, List.forall_mem_cons.mpr ⟨w_wsL_law0_r22_9, List.forall_mem_cons.mpr ⟨w_wsL_law0_r22_10, List.forall_mem_cons.mpr ⟨w_wsL_law0_r22_11, List.forall_mem_cons.mpr ⟨w_wsL_law0_r22_12, List.forall_mem_cons.mpr ⟨w_wsL_law0_r22_13, List.forall_mem_cons.mpr ⟨w_wsL_law0_r22_14, List.forall_mem_cons.mpr ⟨w_wsL_law0_r22_15, List.forall_mem_cons.mpr ⟨w_wsL_law0_r22_16, List.forall_mem_cons.mpr ⟨w_wsL_law0_r22_17, List.forall_mem_cons.mpr ⟨w_wsL_law0_r22_18, List.forall_mem_cons.mpr ⟨w_wsL_law0_r22_19, List.forall_mem_cons.mpr ⟨w_wsL_law0_r22_20, List.forall_mem_cons.mpr ⟨w_wsL_law0_r22_21, List.forall_mem_cons.mpr ⟨w_wsL_law0_r22_22, List.forall_mem_cons.mpr ⟨w_wsL_law0_r22_23, fun _ h => absurd h List.not_mem_nil⟩⟩⟩⟩⟩⟩⟩⟩⟩⟩⟩⟩⟩⟩⟩⟩⟩⟩⟩⟩⟩⟩⟩⟩
set_option maxRecDepth 20000 in
theorem w_wsL_law0_r23_0 : Cond.selects RX2 yX2_spend yX2_spend ∈ lw_tbl := List.mem_of_getElem? (i := 337) (by decide +kernel)
set_option maxRecDepth 20000 in
theorem w_wsL_law0_r23_1 : Cond.code yX2_spend cX2_spend 2 none ∈ lw_tbl := List.mem_of_getElem? (i := 338) (by decide +kernel)
set_option maxRecDepth 20000 in
theorem w_wsL_law0_r23_2 : Cond.methodLink RX6 72 yX0_lay ∈ lw_tbl := List.mem_of_getElem? (i := 339) (by decide +kernel)
set_option maxRecDepth 20000 in
theorem w_wsL_law0_r23_3 : Cond.instanceMethod yX0_lay ∈ lw_tbl := List.mem_of_getElem? (i := 340) (by decide +kernel)
set_option maxRecDepth 20000 in
theorem w_wsL_law0_r23_4 : Cond.selects RX0 yX0_lay yX0_lay ∈ lw_tbl := List.mem_of_getElem? (i := 341) (by decide +kernel)
set_option maxRecDepth 20000 in
theorem w_wsL_law0_r23_5 : Cond.code yX0_lay cX0_lay 3 none ∈ lw_tbl := List.mem_of_getElem? (i := 342) (by decide +kernel)
set_option maxRecDepth 20000 in
theorem w_wsL_law0_r23_6 : Cond.methodLink RX0 27 yX4_set ∈ lw_tbl := List.mem_of_getElem? (i := 343) (by decide +kernel)
set_option maxRecDepth 20000 in
theorem w_wsL_law0_r23_7 : Cond.instanceMethod yX4_set ∈ lw_tbl := List.mem_of_getElem? (i := 344) (by decide +kernel)
set_option maxRecDepth 20000 in
theorem w_wsL_law0_r23_8 : Cond.selects RX4 yX4_set yX4_set ∈ lw_tbl := List.mem_of_getElem? (i := 345) (by decide +kernel)
set_option maxRecDepth 20000 in
theorem w_wsL_law0_r23_9 : Cond.code yX4_set cX4_set 3 none ∈ lw_tbl := List.mem_of_getElem? (i := 346) (by decide +kernel)
set_option maxRecDepth 20000 in
theorem w_wsL_law0_r23_10 : Cond.methodLink RX6 76 yX6_survey ∈ lw_tbl := List.mem_of_getElem? (i := 347) (by decide +kernel)
set_option maxRecDepth 20000 in
theorem w_wsL_law0_r23_11 : Cond.instanceMethod yX6_survey ∈ lw_tbl := List.mem_of_getElem? (i := 349) (by decide +kernel)
set_option maxRecDepth 20000 in
theorem w_wsL_law0_r23_12 : Cond.selects RX6 yX6_survey yX6_survey ∈ lw_tbl := List.mem_of_getElem? (i := 8) (by decide +kernel)
set_option maxRecDepth 20000 in
theorem w_wsL_law0_r23_13 : Cond.code yX6_survey cX6_survey 1 none ∈ lw_tbl := List.mem_of_getElem? (i := 350) (by decide +kernel)
set_option maxRecDepth 20000 in
theorem w_wsL_law0_r23_14 : Cond.methodLink RX6 166 yX3_find ∈ lw_tbl := List.mem_of_getElem? (i := 351) (by decide +kernel)
set_option maxRecDepth 20000 in
theorem w_wsL_law0_r23_15 : Cond.instanceMethod yX3_find ∈ lw_tbl := List.mem_of_getElem? (i := 352) (by decide +kernel)
set_option maxRecDepth 20000 in
theorem w_wsL_law0_r23_16 : Cond.selects RX3 yX3_find yX3_find ∈ lw_tbl := List.mem_of_getElem? (i := 353) (by decide +kernel)
set_option maxRecDepth 20000 in
theorem w_wsL_law0_r23_17 : Cond.code yX3_find cX3_find 3 none ∈ lw_tbl := List.mem_of_getElem? (i := 354) (by decide +kernel)
set_option maxRecDepth 20000 in
theorem w_wsL_law0_r23_18 : Cond.methodLink RX3 33 yX4_fill ∈ lw_tbl := List.mem_of_getElem? (i := 355) (by decide +kernel)
set_option maxRecDepth 20000 in
theorem w_wsL_law0_r23_19 : Cond.instanceMethod yX4_fill ∈ lw_tbl := List.mem_of_getElem? (i := 356) (by decide +kernel)
set_option maxRecDepth 20000 in
theorem w_wsL_law0_r23_20 : Cond.selects RX4 yX4_fill yX4_fill ∈ lw_tbl := List.mem_of_getElem? (i := 357) (by decide +kernel)
set_option maxRecDepth 20000 in
theorem w_wsL_law0_r23_21 : Cond.code yX4_fill cX4_fill 2 none ∈ lw_tbl := List.mem_of_getElem? (i := 358) (by decide +kernel)
set_option maxRecDepth 20000 in
theorem w_wsL_law0_r23_22 : Cond.methodLink RX3 37 yX3_findRoad ∈ lw_tbl := List.mem_of_getElem? (i := 359) (by decide +kernel)
set_option maxRecDepth 20000 in
theorem w_wsL_law0_r23_23 : Cond.instanceMethod yX3_findRoad ∈ lw_tbl := List.mem_of_getElem? (i := 361) (by decide +kernel)
theorem in_wsL_law0_r23 : ∀ w ∈ wsL_law0_r23, w ∈ lw_tbl := List.forall_mem_cons.mpr ⟨w_wsL_law0_r23_0, List.forall_mem_cons.mpr ⟨w_wsL_law0_r23_1, List.forall_mem_cons.mpr ⟨w_wsL_law0_r23_2, List.forall_mem_cons.mpr ⟨w_wsL_law0_r23_3, List.forall_mem_cons.mpr ⟨w_wsL_law0_r23_4, List.forall_mem_cons.mpr ⟨w_wsL_law0_r23_5, List.forall_mem_cons.mpr ⟨w_wsL_law0_r23_6, List.forall_mem_cons.mpr ⟨w_wsL_law0_r23_7, List.forall_mem_cons.mpr ⟨w_wsL_law0_r23_8, List.forall_mem_cons.mpr ⟨w_wsL_law0_r23_9, List.forall_mem_cons.mpr ⟨w_wsL_law0_r23_10, List.forall_mem_cons.mpr ⟨w_wsL_law0_r23_11, List.forall_mem_cons.mpr ⟨w_wsL_law0_r23_12, List.forall_mem_cons.mpr ⟨w_wsL_law0_r23_13, List.forall_mem_cons.mpr ⟨w_wsL_law0_r23_14, List.forall_mem_cons.mpr ⟨w_wsL_law0_r23_15, List.forall_mem_cons.mpr ⟨w_wsL_law0_r23_16, List.forall_mem_cons.mpr ⟨w_wsL_law0_r23_17, List.forall_mem_cons.mpr ⟨w_wsL_law0_r23_18, List.forall_mem_cons.mpr ⟨w_wsL_law0_r23_19, List.forall_mem_cons.mpr ⟨w_wsL_law0_r23_20, List.forall_mem_cons.mpr ⟨w_wsL_law0_r23_21, List.forall_mem_cons.mpr ⟨w_wsL_law0_r23_22, List.forall_mem_cons.mpr ⟨w_wsL_law0_r23_23, fun _ h => absurd h List.not_mem_nil⟩⟩⟩⟩⟩⟩⟩⟩⟩⟩⟩⟩⟩⟩⟩⟩⟩⟩⟩⟩⟩⟩⟩⟩
set_option maxRecDepth 20000 in
theorem w_wsL_law0_r24_0 : Cond.selects RX3 yX3_findRoad yX3_findRoad ∈ lw_tbl := List.mem_of_getElem? (i := 9) (by decide +kernel)
set_option maxRecDepth 20000 in
theorem w_wsL_law0_r24_1 : Cond.code yX3_findRoad cX3_findRoad 5 (some .int) ∈ lw_tbl := List.mem_of_getElem? (i := 362) (by decide +kernel)
set_option maxRecDepth 20000 in
theorem w_wsL_law0_r24_2 : Cond.methodLink RX3 44 yX0_isRoad ∈ lw_tbl := List.mem_of_getElem? (i := 363) (by decide +kernel)
set_option maxRecDepth 20000 in
theorem w_wsL_law0_r24_3 : Cond.instanceMethod yX0_isRoad ∈ lw_tbl := List.mem_of_getElem? (i := 364) (by decide +kernel)
set_option maxRecDepth 20000 in
theorem w_wsL_law0_r24_4 : Cond.selects RX0 yX0_isRoad yX0_isRoad ∈ lw_tbl := List.mem_of_getElem? (i := 365) (by decide +kernel)
set_option maxRecDepth 20000 in
theorem w_wsL_law0_r24_5 : Cond.code yX0_isRoad cX0_isRoad 2 (some .boolean) ∈ lw_tbl := List.mem_of_getElem? (i := 366) (by decide +kernel)
set_option maxRecDepth 20000 in
theorem w_wsL_law0_r24_6 : Cond.static yX6_neighbourOf ∈ lw_tbl := List.mem_of_getElem? (i := 368) (by decide +kernel)
set_option maxRecDepth 20000 in
theorem w_wsL_law0_r24_7 : Cond.code yX6_neighbourOf cX6_neighbourOf 2 (some .int) ∈ lw_tbl := List.mem_of_getElem? (i := 369) (by decide +kernel)
set_option maxRecDepth 20000 in
theorem w_wsL_law0_r24_8 : Cond.methodLink RX3 41 yX4_set ∈ lw_tbl := List.mem_of_getElem? (i := 370) (by decide +kernel)
set_option maxRecDepth 20000 in
theorem w_wsL_law0_r24_9 : Cond.methodLink RX3 50 yX3_spread ∈ lw_tbl := List.mem_of_getElem? (i := 371) (by decide +kernel)
set_option maxRecDepth 20000 in
theorem w_wsL_law0_r24_10 : Cond.instanceMethod yX3_spread ∈ lw_tbl := List.mem_of_getElem? (i := 373) (by decide +kernel)
set_option maxRecDepth 20000 in
theorem w_wsL_law0_r24_11 : Cond.selects RX3 yX3_spread yX3_spread ∈ lw_tbl := List.mem_of_getElem? (i := 10) (by decide +kernel)
set_option maxRecDepth 20000 in
theorem w_wsL_law0_r24_12 : Cond.code yX3_spread cX3_spread 9 none ∈ lw_tbl := List.mem_of_getElem? (i := 374) (by decide +kernel)
set_option maxRecDepth 20000 in
theorem w_wsL_law0_r24_13 : Cond.methodLink RX6 170 yX5_find ∈ lw_tbl := List.mem_of_getElem? (i := 376) (by decide +kernel)
set_option maxRecDepth 20000 in
theorem w_wsL_law0_r24_14 : Cond.instanceMethod yX5_find ∈ lw_tbl := List.mem_of_getElem? (i := 377) (by decide +kernel)
set_option maxRecDepth 20000 in
theorem w_wsL_law0_r24_15 : Cond.selects RX5 yX5_find yX5_find ∈ lw_tbl := List.mem_of_getElem? (i := 378) (by decide +kernel)
set_option maxRecDepth 20000 in
theorem w_wsL_law0_r24_16 : Cond.code yX5_find cX5_find 4 none ∈ lw_tbl := List.mem_of_getElem? (i := 379) (by decide +kernel)
set_option maxRecDepth 20000 in
theorem w_wsL_law0_r24_17 : Cond.methodLink RX5 51 Lib.Math.max.name ∈ lw_tbl := List.mem_of_getElem? (i := 402) (by decide +kernel)
set_option maxRecDepth 20000 in
theorem w_wsL_law0_r24_18 : Cond.methodLink RX5 26 yX4_fill ∈ lw_tbl := List.mem_of_getElem? (i := 380) (by decide +kernel)
set_option maxRecDepth 20000 in
theorem w_wsL_law0_r24_19 : Cond.methodLink RX5 30 yX0_kindOf ∈ lw_tbl := List.mem_of_getElem? (i := 381) (by decide +kernel)
set_option maxRecDepth 20000 in
theorem w_wsL_law0_r24_20 : Cond.methodLink RX5 36 yX3_netOf ∈ lw_tbl := List.mem_of_getElem? (i := 382) (by decide +kernel)
set_option maxRecDepth 20000 in
theorem w_wsL_law0_r24_21 : Cond.methodLink RX5 41 yX5_give ∈ lw_tbl := List.mem_of_getElem? (i := 386) (by decide +kernel)
set_option maxRecDepth 20000 in
theorem w_wsL_law0_r24_22 : Cond.instanceMethod yX5_give ∈ lw_tbl := List.mem_of_getElem? (i := 388) (by decide +kernel)
set_option maxRecDepth 20000 in
theorem w_wsL_law0_r24_23 : Cond.selects RX5 yX5_give yX5_give ∈ lw_tbl := List.mem_of_getElem? (i := 11) (by decide +kernel)
theorem in_wsL_law0_r24 : ∀ w ∈ wsL_law0_r24, w ∈ lw_tbl := List.forall_mem_cons.mpr ⟨w_wsL_law0_r24_0, List.forall_mem_cons.mpr ⟨w_wsL_law0_r24_1, List.forall_mem_cons.mpr ⟨w_wsL_law0_r24_2, List.forall_mem_cons.mpr ⟨w_wsL_law0_r24_3, List.forall_mem_cons.mpr ⟨w_wsL_law0_r24_4, List.forall_mem_cons.mpr ⟨w_wsL_law0_r24_5, List.forall_mem_cons.mpr ⟨w_wsL_law0_r24_6, List.forall_mem_cons.mpr ⟨w_wsL_law0_r24_7, List.forall_mem_cons.mpr ⟨w_wsL_law0_r24_8, List.forall_mem_cons.mpr ⟨w_wsL_law0_r24_9, List.forall_mem_cons.mpr ⟨w_wsL_law0_r24_10, List.forall_mem_cons.mpr ⟨w_wsL_law0_r24_11, List.forall_mem_cons.mpr ⟨w_wsL_law0_r24_12, List.forall_mem_cons.mpr ⟨w_wsL_law0_r24_13, List.forall_mem_cons.mpr ⟨w_wsL_law0_r24_14, List.forall_mem_cons.mpr ⟨w_wsL_law0_r24_15, List.forall_mem_cons.mpr ⟨w_wsL_law0_r24_16, List.forall_mem_cons.mpr ⟨w_wsL_law0_r24_17, List.forall_mem_cons.mpr ⟨w_wsL_law0_r24_18, List.forall_mem_cons.mpr ⟨w_wsL_law0_r24_19, List.forall_mem_cons.mpr ⟨w_wsL_law0_r24_20, List.forall_mem_cons.mpr ⟨w_wsL_law0_r24_21, List.forall_mem_cons.mpr ⟨w_wsL_law0_r24_22, List.forall_mem_cons.mpr ⟨w_wsL_law0_r24_23, fun _ h => absurd h List.not_mem_nil⟩⟩⟩⟩⟩⟩⟩⟩⟩⟩⟩⟩⟩⟩⟩⟩⟩⟩⟩⟩⟩⟩⟩⟩
set_option maxRecDepth 20000 in
theorem w_wsL_law0_r25_0 : Cond.code yX5_give cX5_give 3 none ∈ lw_tbl := List.mem_of_getElem? (i := 389) (by decide +kernel)
set_option maxRecDepth 20000 in
theorem w_wsL_law0_r25_1 : Cond.methodLink RX5 61 yX4_add ∈ lw_tbl := List.mem_of_getElem? (i := 390) (by decide +kernel)
set_option maxRecDepth 20000 in
theorem w_wsL_law0_r25_2 : Cond.instanceMethod yX4_add ∈ lw_tbl := List.mem_of_getElem? (i := 391) (by decide +kernel)
set_option maxRecDepth 20000 in
theorem w_wsL_law0_r25_3 : Cond.selects RX4 yX4_add yX4_add ∈ lw_tbl := List.mem_of_getElem? (i := 392) (by decide +kernel)
set_option maxRecDepth 20000 in
theorem w_wsL_law0_r25_4 : Cond.code yX4_add cX4_add 3 none ∈ lw_tbl := List.mem_of_getElem? (i := 393) (by decide +kernel)
set_option maxRecDepth 20000 in
theorem w_wsL_law0_r25_5 : Cond.methodLink RX5 44 yX0_isZone ∈ lw_tbl := List.mem_of_getElem? (i := 394) (by decide +kernel)
set_option maxRecDepth 20000 in
theorem w_wsL_law0_r25_6 : Cond.instanceMethod yX0_isZone ∈ lw_tbl := List.mem_of_getElem? (i := 395) (by decide +kernel)
set_option maxRecDepth 20000 in
theorem w_wsL_law0_r25_7 : Cond.selects RX0 yX0_isZone yX0_isZone ∈ lw_tbl := List.mem_of_getElem? (i := 396) (by decide +kernel)
set_option maxRecDepth 20000 in
theorem w_wsL_law0_r25_8 : Cond.code yX0_isZone cX0_isZone 3 (some .boolean) ∈ lw_tbl := List.mem_of_getElem? (i := 397) (by decide +kernel)
set_option maxRecDepth 20000 in
theorem w_wsL_law0_r25_9 : Cond.methodLink RX5 48 yX0_levelOf ∈ lw_tbl := List.mem_of_getElem? (i := 398) (by decide +kernel)
set_option maxRecDepth 20000 in
theorem w_wsL_law0_r25_10 : Cond.methodLink RX5 57 yX5_serve ∈ lw_tbl := List.mem_of_getElem? (i := 405) (by decide +kernel)
set_option maxRecDepth 20000 in
theorem w_wsL_law0_r25_11 : Cond.instanceMethod yX5_serve ∈ lw_tbl := List.mem_of_getElem? (i := 407) (by decide +kernel)
set_option maxRecDepth 20000 in
theorem w_wsL_law0_r25_12 : Cond.selects RX5 yX5_serve yX5_serve ∈ lw_tbl := List.mem_of_getElem? (i := 12) (by decide +kernel)
set_option maxRecDepth 20000 in
theorem w_wsL_law0_r25_13 : Cond.code yX5_serve cX5_serve 4 none ∈ lw_tbl := List.mem_of_getElem? (i := 408) (by decide +kernel)
set_option maxRecDepth 20000 in
theorem w_wsL_law0_r25_14 : Cond.methodLink RX5 67 yX4_set ∈ lw_tbl := List.mem_of_getElem? (i := 410) (by decide +kernel)
set_option maxRecDepth 20000 in
theorem w_wsL_law0_r25_15 : Cond.methodLink RX6 173 yX1_find ∈ lw_tbl := List.mem_of_getElem? (i := 411) (by decide +kernel)
set_option maxRecDepth 20000 in
theorem w_wsL_law0_r25_16 : Cond.instanceMethod yX1_find ∈ lw_tbl := List.mem_of_getElem? (i := 412) (by decide +kernel)
set_option maxRecDepth 20000 in
theorem w_wsL_law0_r25_17 : Cond.selects RX1 yX1_find yX1_find ∈ lw_tbl := List.mem_of_getElem? (i := 413) (by decide +kernel)
set_option maxRecDepth 20000 in
theorem w_wsL_law0_r25_18 : Cond.code yX1_find cX1_find 6 none ∈ lw_tbl := List.mem_of_getElem? (i := 414) (by decide +kernel)
set_option maxRecDepth 20000 in
theorem w_wsL_law0_r25_19 : Cond.methodLink RX1 39 yX4_fill ∈ lw_tbl := List.mem_of_getElem? (i := 415) (by decide +kernel)
set_option maxRecDepth 20000 in
theorem w_wsL_law0_r25_20 : Cond.methodLink RX1 43 yX0_peopleOf ∈ lw_tbl := List.mem_of_getElem? (i := 416) (by decide +kernel)
set_option maxRecDepth 20000 in
theorem w_wsL_law0_r25_21 : Cond.instanceMethod yX0_peopleOf ∈ lw_tbl := List.mem_of_getElem? (i := 417) (by decide +kernel)
set_option maxRecDepth 20000 in
theorem w_wsL_law0_r25_22 : Cond.selects RX0 yX0_peopleOf yX0_peopleOf ∈ lw_tbl := List.mem_of_getElem? (i := 418) (by decide +kernel)
set_option maxRecDepth 20000 in
theorem w_wsL_law0_r25_23 : Cond.code yX0_peopleOf cX0_peopleOf 2 (some .int) ∈ lw_tbl := List.mem_of_getElem? (i := 419) (by decide +kernel)
theorem in_wsL_law0_r25 : ∀ w ∈ wsL_law0_r25, w ∈ lw_tbl := List.forall_mem_cons.mpr ⟨w_wsL_law0_r25_0, List.forall_mem_cons.mpr ⟨w_wsL_law0_r25_1, List.forall_mem_cons.mpr ⟨w_wsL_law0_r25_2, List.forall_mem_cons.mpr ⟨w_wsL_law0_r25_3, List.forall_mem_cons.mpr ⟨w_wsL_law0_r25_4, List.forall_mem_cons.mpr ⟨w_wsL_law0_r25_5, List.forall_mem_cons.mpr ⟨w_wsL_law0_r25_6, List.forall_mem_cons.mpr ⟨w_wsL_law0_r25_7, List.forall_mem_cons.mpr ⟨w_wsL_law0_r25_8, List.forall_mem_cons.mpr ⟨w_wsL_law0_r25_9, List.forall_mem_cons.mpr ⟨w_wsL_law0_r25_10, List.forall_mem_cons.mpr ⟨w_wsL_law0_r25_11, List.forall_mem_cons.mpr ⟨w_wsL_law0_r25_12, List.forall_mem_cons.mpr ⟨w_wsL_law0_r25_13, List.forall_mem_cons.mpr ⟨w_wsL_law0_r25_14, List.forall_mem_cons.mpr ⟨w_wsL_law0_r25_15, List.forall_mem_cons.mpr ⟨w_wsL_law0_r25_16, List.forall_mem_cons.mpr ⟨w_wsL_law0_r25_17, List.forall_mem_cons.mpr ⟨w_wsL_law0_r25_18, List.forall_mem_cons.mpr ⟨w_wsL_law0_r25_19, List.forall_mem_cons.mpr ⟨w_wsL_law0_r25_20, List.forall_mem_cons.mpr ⟨w_wsL_law0_r25_21, List.forall_mem_cons.mpr ⟨w_wsL_law0_r25_22, List.forall_mem_cons.mpr ⟨w_wsL_law0_r25_23, fun _ h => absurd h List.not_mem_nil⟩⟩⟩⟩⟩⟩⟩⟩⟩⟩⟩⟩⟩⟩⟩⟩⟩⟩⟩⟩⟩⟩⟩⟩
