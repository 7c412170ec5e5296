set_option maxRecDepth 20000 in
theorem gX6_build_X2_cashNow : GoodIn wsX6_build (wsV RX6 79 RX2 yX2_cashNow wsX2_cashNow) := goodIn_app (goodIn_of _ (by decide +kernel)) ggX6_build_X2_cashNow
theorem dX6_build_0 : decode cX6_build 0 = .ok (.iload_n 1, 1) := by decide +kernel
theorem dX6_build_1 : decode cX6_build 1 = .ok (.invokestatic 44, 3) := by decide +kernel
theorem dX6_build_4 : decode cX6_build 4 = .ok (.iload_n 2, 1) := by decide +kernel
theorem dX6_build_5 : decode cX6_build 5 = .ok (.iconst 1, 1) := by decide +kernel
theorem dX6_build_6 : decode cX6_build 6 = .ok (.bipush 6, 2) := by decide +kernel
theorem dX6_build_8 : decode cX6_build 8 = .ok (.invokestatic 48, 3) := by decide +kernel
theorem dX6_build_11 : decode cX6_build 11 = .ok (.aload_n 0, 1) := by decide +kernel
theorem dX6_build_12 : decode cX6_build 12 = .ok (.getfield 10, 3) := by decide +kernel
theorem dX6_build_15 : decode cX6_build 15 = .ok (.iload_n 1, 1) := by decide +kernel
theorem dX6_build_16 : decode cX6_build 16 = .ok (.invokevirtual 52, 3) := by decide +kernel
theorem dX6_build_19 : decode cX6_build 19 = .ok (.ifCond .eq 13, 3) := by decide +kernel
theorem dX6_build_22 : decode cX6_build 22 = .ok (.new 56, 3) := by decide +kernel
theorem dX6_build_25 : decode cX6_build 25 = .ok (.dup, 1) := by decide +kernel
theorem dX6_build_26 : decode cX6_build 26 = .ok (.ldc 58, 2) := by decide +kernel
theorem dX6_build_28 : decode cX6_build 28 = .ok (.invokespecial 60, 3) := by decide +kernel
theorem dX6_build_31 : decode cX6_build 31 = .ok (.athrow, 1) := by decide +kernel
theorem dX6_build_32 : decode cX6_build 32 = .ok (.aload_n 0, 1) := by decide +kernel
theorem dX6_build_33 : decode cX6_build 33 = .ok (.iload_n 2, 1) := by decide +kernel
theorem dX6_build_34 : decode cX6_build 34 = .ok (.invokestatic 63, 3) := by decide +kernel
theorem dX6_build_37 : decode cX6_build 37 = .ok (.invokevirtual 66, 3) := by decide +kernel
theorem dX6_build_40 : decode cX6_build 40 = .ok (.aload_n 0, 1) := by decide +kernel
theorem dX6_build_41 : decode cX6_build 41 = .ok (.getfield 40, 3) := by decide +kernel
theorem dX6_build_44 : decode cX6_build 44 = .ok (.iload_n 2, 1) := by decide +kernel
theorem dX6_build_45 : decode cX6_build 45 = .ok (.invokestatic 63, 3) := by decide +kernel
theorem dX6_build_48 : decode cX6_build 48 = .ok (.invokevirtual 69, 3) := by decide +kernel
theorem dX6_build_51 : decode cX6_build 51 = .ok (.aload_n 0, 1) := by decide +kernel
theorem dX6_build_52 : decode cX6_build 52 = .ok (.getfield 10, 3) := by decide +kernel
theorem dX6_build_55 : decode cX6_build 55 = .ok (.iload_n 1, 1) := by decide +kernel
theorem dX6_build_56 : decode cX6_build 56 = .ok (.iload_n 2, 1) := by decide +kernel
theorem dX6_build_57 : decode cX6_build 57 = .ok (.invokevirtual 72, 3) := by decide +kernel
theorem dX6_build_60 : decode cX6_build 60 = .ok (.aload_n 0, 1) := by decide +kernel
theorem dX6_build_61 : decode cX6_build 61 = .ok (.invokevirtual 76, 3) := by decide +kernel
theorem dX6_build_64 : decode cX6_build 64 = .ok (.aload_n 0, 1) := by decide +kernel
theorem dX6_build_65 : decode cX6_build 65 = .ok (.getfield 40, 3) := by decide +kernel
theorem dX6_build_68 : decode cX6_build 68 = .ok (.invokevirtual 79, 3) := by decide +kernel
theorem dX6_build_71 : decode cX6_build 71 = .ok (.ireturn, 1) := by decide +kernel
set_option maxRecDepth 20000 in
theorem ggX6_tear_X6_requireCell : GoodIn wsX6_tear wsX6_requireCell := goodIn_ca (goodIn_r _ [8, 9, 10] (by decide +kernel) (by decide +kernel)) (goodIn_sub (fun _ h => List.mem_cons_of_mem _ (List.mem_append_right _ h)) (by decide +kernel))
set_option maxRecDepth 20000 in
theorem gX6_tear_X6_requireCell : GoodIn wsX6_tear (va_wsS RX6 44 yX6_requireCell wsX6_requireCell) := goodIn_app (goodIn_of _ (by decide +kernel)) ggX6_tear_X6_requireCell
set_option maxRecDepth 20000 in
theorem ggX6_tear_X0_kindOf : GoodIn wsX6_tear wsX0_kindOf := goodIn_r _ [15, 16, 17, 18, 19, 20, 21, 22, 188, 189, 190] (by decide +kernel) (by decide +kernel)
set_option maxRecDepth 20000 in
theorem gX6_tear_X0_kindOf : GoodIn wsX6_tear (wsV RX6 52 RX0 yX0_kindOf wsX0_kindOf) := goodIn_app (goodIn_of _ (by decide +kernel)) ggX6_tear_X0_kindOf
set_option maxRecDepth 20000 in
theorem ggX6_tear_X6_requireCash : GoodIn wsX6_tear wsX6_requireCash := goodIn_ca (goodIn_r _ [26, 1, 2, 4, 27, 28, 29, 30, 31, 32, 183, 184, 185, 186, 187, 191, 192, 193, 194, 195] (by decide +kernel) (by decide +kernel)) (goodIn_sub (fun _ h => List.mem_cons_of_mem _ (List.mem_append_left _ (List.mem_append_right _ h))) (by decide +kernel))
set_option maxRecDepth 20000 in
theorem gX6_tear_X6_requireCash : GoodIn wsX6_tear (wsV RX6 66 RX6 yX6_requireCash wsX6_requireCash) := goodIn_app (goodIn_of _ (by decide +kernel)) ggX6_tear_X6_requireCash
set_option maxRecDepth 20000 in
theorem ggX6_tear_X2_spend : GoodIn wsX6_tear wsX2_spend := goodIn_r _ [36, 32, 191, 192, 193, 194, 195] (by decide +kernel) (by decide +kernel)
set_option maxRecDepth 20000 in
theorem gX6_tear_X2_spend : GoodIn wsX6_tear (wsV RX6 69 RX2 yX2_spend wsX2_spend) := goodIn_app (goodIn_of _ (by decide +kernel)) ggX6_tear_X2_spend
set_option maxRecDepth 20000 in
theorem ggX6_tear_X0_lay : GoodIn wsX6_tear wsX0_lay := goodIn_r _ [40, 16, 41, 42, 43, 44, 20, 45, 22, 188, 189, 190] (by decide +kernel) (by decide +kernel)
set_option maxRecDepth 20000 in
theorem gX6_tear_X0_lay : GoodIn wsX6_tear (wsV RX6 72 RX0 yX0_lay wsX0_lay) := goodIn_app (goodIn_of _ (by decide +kernel)) ggX6_tear_X0_lay
set_option maxRecDepth 20000 in
theorem ggX6_tear_X6_survey : GoodIn wsX6_tear wsX6_survey := goodIn_r _ [49, 50, 3, 51, 52, 53, 54, 55, 56, 57, 58, 59, 60, 61, 62, 63, 64, 20, 65, 22, 66, 67, 68, 69, 70, 71, 72, 73, 74, 75, 76, 14, 77, 16, 17, 18, 19, 21, 78, 7, 79, 80, 43, 44, 45, 81, 82, 83, 84, 85, 86, 87, 88, 89, 90, 91, 92, 93, 94, 95, 96, 97, 98, 99, 100, 12, 13, 15, 101, 102, 103, 104, 105, 106, 107, 108, 109, 110, 111, 112, 113, 114, 115, 116, 117, 118, 119, 120, 41, 121, 122, 123, 124, 125, 126, 127, 128, 129, 130, 131, 132, 133, 134, 135, 136, 137, 138, 139, 140, 141, 142, 143, 144, 145, 146, 147, 148, 149, 150, 151, 152, 153, 154, 155, 156, 157, 158, 159, 160, 161, 162, 163, 164, 165, 166, 167, 168, 169, 170, 171, 172, 173, 174, 175, 176, 177, 178, 179, 180, 181, 182, 183, 184, 185, 186, 187, 196, 197, 198, 199, 200, 190, 188, 189, 201, 202, 203, 204, 205, 206, 207, 208, 209, 210] (by decide +kernel) (by decide +kernel)
set_option maxRecDepth 20000 in
theorem gX6_tear_X6_survey : GoodIn wsX6_tear (wsV RX6 76 RX6 yX6_survey wsX6_survey) := goodIn_app (goodIn_of _ (by decide +kernel)) ggX6_tear_X6_survey
theorem dX6_tear_0 : decode cX6_tear 0 = .ok (.iload_n 1, 1) := by decide +kernel
theorem dX6_tear_1 : decode cX6_tear 1 = .ok (.invokestatic 44, 3) := by decide +kernel
theorem dX6_tear_4 : decode cX6_tear 4 = .ok (.aload_n 0, 1) := by decide +kernel
theorem dX6_tear_5 : decode cX6_tear 5 = .ok (.getfield 10, 3) := by decide +kernel
theorem dX6_tear_8 : decode cX6_tear 8 = .ok (.iload_n 1, 1) := by decide +kernel
theorem dX6_tear_9 : decode cX6_tear 9 = .ok (.invokevirtual 52, 3) := by decide +kernel
theorem dX6_tear_12 : decode cX6_tear 12 = .ok (.istore_n 2, 1) := by decide +kernel
theorem dX6_tear_13 : decode cX6_tear 13 = .ok (.iload_n 2, 1) := by decide +kernel
theorem dX6_tear_14 : decode cX6_tear 14 = .ok (.ifCond .ne 13, 3) := by decide +kernel
theorem dX6_tear_17 : decode cX6_tear 17 = .ok (.new 56, 3) := by decide +kernel
theorem dX6_tear_20 : decode cX6_tear 20 = .ok (.dup, 1) := by decide +kernel
theorem dX6_tear_21 : decode cX6_tear 21 = .ok (.ldc 83, 2) := by decide +kernel
theorem dX6_tear_23 : decode cX6_tear 23 = .ok (.invokespecial 60, 3) := by decide +kernel
theorem dX6_tear_26 : decode cX6_tear 26 = .ok (.athrow, 1) := by decide +kernel
theorem dX6_tear_27 : decode cX6_tear 27 = .ok (.aload_n 0, 1) := by decide +kernel
theorem dX6_tear_28 : decode cX6_tear 28 = .ok (.iconst 5, 1) := by decide +kernel
theorem dX6_tear_29 : decode cX6_tear 29 = .ok (.invokevirtual 66, 3) := by decide +kernel
theorem dX6_tear_32 : decode cX6_tear 32 = .ok (.aload_n 0, 1) := by decide +kernel
theorem dX6_tear_33 : decode cX6_tear 33 = .ok (.getfield 40, 3) := by decide +kernel
theorem dX6_tear_36 : decode cX6_tear 36 = .ok (.iconst 5, 1) := by decide +kernel
theorem dX6_tear_37 : decode cX6_tear 37 = .ok (.invokevirtual 69, 3) := by decide +kernel
theorem dX6_tear_40 : decode cX6_tear 40 = .ok (.aload_n 0, 1) := by decide +kernel
theorem dX6_tear_41 : decode cX6_tear 41 = .ok (.getfield 10, 3) := by decide +kernel
theorem dX6_tear_44 : decode cX6_tear 44 = .ok (.iload_n 1, 1) := by decide +kernel
theorem dX6_tear_45 : decode cX6_tear 45 = .ok (.iconst 0, 1) := by decide +kernel
theorem dX6_tear_46 : decode cX6_tear 46 = .ok (.invokevirtual 72, 3) := by decide +kernel
theorem dX6_tear_49 : decode cX6_tear 49 = .ok (.aload_n 0, 1) := by decide +kernel
theorem dX6_tear_50 : decode cX6_tear 50 = .ok (.invokevirtual 76, 3) := by decide +kernel
theorem dX6_tear_53 : decode cX6_tear 53 = .ok (.iload_n 2, 1) := by decide +kernel
theorem dX6_tear_54 : decode cX6_tear 54 = .ok (.ireturn, 1) := by decide +kernel
set_option maxRecDepth 20000 in
theorem ggX6_setTax_X6_requireRange : GoodIn wsX6_setTax wsX6_requireRange := goodIn_ca (goodIn_r _ [5, 6, 7] (by decide +kernel) (by decide +kernel)) (goodIn_sub (fun _ h => List.mem_cons_of_mem _ (List.mem_append_right _ h)) (by decide +kernel))
set_option maxRecDepth 20000 in
theorem gX6_setTax_X6_requireRange : GoodIn wsX6_setTax (va_wsS RX6 48 yX6_requireRange wsX6_requireRange) := goodIn_app (goodIn_of _ (by decide +kernel)) ggX6_setTax_X6_requireRange
set_option maxRecDepth 20000 in
theorem ggX6_setTax_X2_changeTax : GoodIn wsX6_setTax wsX2_changeTax := goodIn_r _ [12, 13, 14, 20, 21, 22, 23, 24] (by decide +kernel) (by decide +kernel)
set_option maxRecDepth 20000 in
theorem gX6_setTax_X2_changeTax : GoodIn wsX6_setTax (wsV RX6 85 RX2 yX2_changeTax wsX2_changeTax) := goodIn_app (goodIn_of _ (by decide +kernel)) ggX6_setTax_X2_changeTax
theorem dX6_setTax_0 : decode cX6_setTax 0 = .ok (.iload_n 2, 1) := by decide +kernel
theorem dX6_setTax_1 : decode cX6_setTax 1 = .ok (.iconst 0, 1) := by decide +kernel
theorem dX6_setTax_2 : decode cX6_setTax 2 = .ok (.bipush 20, 2) := by decide +kernel
theorem dX6_setTax_4 : decode cX6_setTax 4 = .ok (.invokestatic 48, 3) := by decide +kernel
theorem dX6_setTax_7 : decode cX6_setTax 7 = .ok (.aload_n 0, 1) := by decide +kernel
theorem dX6_setTax_8 : decode cX6_setTax 8 = .ok (.getfield 40, 3) := by decide +kernel
theorem dX6_setTax_11 : decode cX6_setTax 11 = .ok (.iload_n 1, 1) := by decide +kernel
theorem dX6_setTax_12 : decode cX6_setTax 12 = .ok (.iload_n 2, 1) := by decide +kernel
theorem dX6_setTax_13 : decode cX6_setTax 13 = .ok (.invokevirtual 85, 3) := by decide +kernel
theorem dX6_setTax_16 : decode cX6_setTax 16 = .ok (.ireturn, 1) := by decide +kernel
set_option maxRecDepth 20000 in
theorem ggX6_borrow_X6_requireRange : GoodIn wsX6_borrow wsX6_requireRange := goodIn_ca (goodIn_r _ [7, 8, 9] (by decide +kernel) (by decide +kernel)) (goodIn_sub (fun _ h => List.mem_cons_of_mem _ (List.mem_append_right _ h)) (by decide +kernel))
set_option maxRecDepth 20000 in
theorem gX6_borrow_X6_requireRange : GoodIn wsX6_borrow (va_wsS RX6 48 yX6_requireRange wsX6_requireRange) := goodIn_app (goodIn_of _ (by decide +kernel)) ggX6_borrow_X6_requireRange
set_option maxRecDepth 20000 in
theorem ggX6_borrow_X2_debtNow : GoodIn wsX6_borrow wsX2_debtNow := goodIn_r _ [14, 15, 26, 27, 28, 29, 30] (by decide +kernel) (by decide +kernel)
set_option maxRecDepth 20000 in
theorem gX6_borrow_X2_debtNow : GoodIn wsX6_borrow (wsV RX6 89 RX2 yX2_debtNow wsX2_debtNow) := goodIn_app (goodIn_of _ (by decide +kernel)) ggX6_borrow_X2_debtNow
set_option maxRecDepth 20000 in
theorem ggX6_borrow_X2_lend : GoodIn wsX6_borrow wsX2_lend := goodIn_r _ [19, 20, 15, 26, 27, 28, 29, 30] (by decide +kernel) (by decide +kernel)
set_option maxRecDepth 20000 in
theorem gX6_borrow_X2_lend : GoodIn wsX6_borrow (wsV RX6 94 RX2 yX2_lend wsX2_lend) := goodIn_app (goodIn_of _ (by decide +kernel)) ggX6_borrow_X2_lend
theorem dX6_borrow_0 : decode cX6_borrow 0 = .ok (.iload_n 1, 1) := by decide +kernel
theorem dX6_borrow_1 : decode cX6_borrow 1 = .ok (.iconst 1, 1) := by decide +kernel
theorem dX6_borrow_2 : decode cX6_borrow 2 = .ok (.sipush 1000, 3) := by decide +kernel
theorem dX6_borrow_5 : decode cX6_borrow 5 = .ok (.invokestatic 48, 3) := by decide +kernel
theorem dX6_borrow_8 : decode cX6_borrow 8 = .ok (.aload_n 0, 1) := by decide +kernel
theorem dX6_borrow_9 : decode cX6_borrow 9 = .ok (.getfield 40, 3) := by decide +kernel
theorem dX6_borrow_12 : decode cX6_borrow 12 = .ok (.invokevirtual 89, 3) := by decide +kernel
theorem dX6_borrow_15 : decode cX6_borrow 15 = .ok (.iload_n 1, 1) := by decide +kernel
theorem dX6_borrow_16 : decode cX6_borrow 16 = .ok (.iadd, 1) := by decide +kernel
theorem dX6_borrow_17 : decode cX6_borrow 17 = .ok (.sipush 5000, 3) := by decide +kernel
theorem dX6_borrow_20 : decode cX6_borrow 20 = .ok (.if_icmp .le 13, 3) := by decide +kernel
theorem dX6_borrow_23 : decode cX6_borrow 23 = .ok (.new 56, 3) := by decide +kernel
theorem dX6_borrow_26 : decode cX6_borrow 26 = .ok (.dup, 1) := by decide +kernel
theorem dX6_borrow_27 : decode cX6_borrow 27 = .ok (.ldc 92, 2) := by decide +kernel
theorem dX6_borrow_29 : decode cX6_borrow 29 = .ok (.invokespecial 60, 3) := by decide +kernel
theorem dX6_borrow_32 : decode cX6_borrow 32 = .ok (.athrow, 1) := by decide +kernel
theorem dX6_borrow_33 : decode cX6_borrow 33 = .ok (.aload_n 0, 1) := by decide +kernel
theorem dX6_borrow_34 : decode cX6_borrow 34 = .ok (.getfield 40, 3) := by decide +kernel
theorem dX6_borrow_37 : decode cX6_borrow 37 = .ok (.iload_n 1, 1) := by decide +kernel
theorem dX6_borrow_38 : decode cX6_borrow 38 = .ok (.invokevirtual 94, 3) := by decide +kernel
theorem dX6_borrow_41 : decode cX6_borrow 41 = .ok (.aload_n 0, 1) := by decide +kernel
theorem dX6_borrow_42 : decode cX6_borrow 42 = .ok (.getfield 40, 3) := by decide +kernel
theorem dX6_borrow_45 : decode cX6_borrow 45 = .ok (.invokevirtual 89, 3) := by decide +kernel
theorem dX6_borrow_48 : decode cX6_borrow 48 = .ok (.ireturn, 1) := by decide +kernel
set_option maxRecDepth 20000 in
theorem ggX6_repay_X6_requireRange : GoodIn wsX6_repay wsX6_requireRange := goodIn_ca (goodIn_r _ [7, 8, 9] (by decide +kernel) (by decide +kernel)) (goodIn_sub (fun _ h => List.mem_cons_of_mem _ (List.mem_append_right _ h)) (by decide +kernel))
set_option maxRecDepth 20000 in
theorem gX6_repay_X6_requireRange : GoodIn wsX6_repay (va_wsS RX6 48 yX6_requireRange wsX6_requireRange) := goodIn_app (goodIn_of _ (by decide +kernel)) ggX6_repay_X6_requireRange
set_option maxRecDepth 20000 in
theorem ggX6_repay_X2_debtNow : GoodIn wsX6_repay wsX2_debtNow := goodIn_r _ [14, 15, 34, 35, 36, 37, 38] (by decide +kernel) (by decide +kernel)
set_option maxRecDepth 20000 in
theorem gX6_repay_X2_debtNow : GoodIn wsX6_repay (wsV RX6 89 RX2 yX2_debtNow wsX2_debtNow) := goodIn_app (goodIn_of _ (by decide +kernel)) ggX6_repay_X2_debtNow
set_option maxRecDepth 20000 in
theorem ggX6_repay_X6_requireCash : GoodIn wsX6_repay wsX6_requireCash := goodIn_ca (goodIn_r _ [19, 1, 2, 3, 20, 21, 22, 13, 23, 24, 29, 30, 31, 32, 33, 34, 35, 36, 37, 38] (by decide +kernel) (by decide +kernel)) (goodIn_sub (fun _ h => List.mem_cons_of_mem _ (List.mem_append_left _ (List.mem_append_right _ h))) (by decide +kernel))
set_option maxRecDepth 20000 in
theorem gX6_repay_X6_requireCash : GoodIn wsX6_repay (wsV RX6 66 RX6 yX6_requireCash wsX6_requireCash) := goodIn_app (goodIn_of _ (by decide +kernel)) ggX6_repay_X6_requireCash
set_option maxRecDepth 20000 in
theorem ggX6_repay_X2_lend : GoodIn wsX6_repay wsX2_lend := goodIn_r _ [28, 24, 15, 34, 35, 36, 37, 38] (by decide +kernel) (by decide +kernel)
set_option maxRecDepth 20000 in
theorem gX6_repay_X2_lend : GoodIn wsX6_repay (wsV RX6 94 RX2 yX2_lend wsX2_lend) := goodIn_app (goodIn_of _ (by decide +kernel)) ggX6_repay_X2_lend
theorem dX6_repay_0 : decode cX6_repay 0 = .ok (.iload_n 1, 1) := by decide +kernel
theorem dX6_repay_1 : decode cX6_repay 1 = .ok (.iconst 1, 1) := by decide +kernel
theorem dX6_repay_2 : decode cX6_repay 2 = .ok (.sipush 5000, 3) := by decide +kernel
theorem dX6_repay_5 : decode cX6_repay 5 = .ok (.invokestatic 48, 3) := by decide +kernel
theorem dX6_repay_8 : decode cX6_repay 8 = .ok (.iload_n 1, 1) := by decide +kernel
theorem dX6_repay_9 : decode cX6_repay 9 = .ok (.aload_n 0, 1) := by decide +kernel
theorem dX6_repay_10 : decode cX6_repay 10 = .ok (.getfield 40, 3) := by decide +kernel
theorem dX6_repay_13 : decode cX6_repay 13 = .ok (.invokevirtual 89, 3) := by decide +kernel
theorem dX6_repay_16 : decode cX6_repay 16 = .ok (.if_icmp .le 13, 3) := by decide +kernel
theorem dX6_repay_19 : decode cX6_repay 19 = .ok (.new 56, 3) := by decide +kernel
theorem dX6_repay_22 : decode cX6_repay 22 = .ok (.dup, 1) := by decide +kernel
theorem dX6_repay_23 : decode cX6_repay 23 = .ok (.ldc 97, 2) := by decide +kernel
theorem dX6_repay_25 : decode cX6_repay 25 = .ok (.invokespecial 60, 3) := by decide +kernel
theorem dX6_repay_28 : decode cX6_repay 28 = .ok (.athrow, 1) := by decide +kernel
theorem dX6_repay_29 : decode cX6_repay 29 = .ok (.aload_n 0, 1) := by decide +kernel
theorem dX6_repay_30 : decode cX6_repay 30 = .ok (.iload_n 1, 1) := by decide +kernel
theorem dX6_repay_31 : decode cX6_repay 31 = .ok (.invokevirtual 66, 3) := by decide +kernel
theorem dX6_repay_34 : decode cX6_repay 34 = .ok (.aload_n 0, 1) := by decide +kernel
theorem dX6_repay_35 : decode cX6_repay 35 = .ok (.getfield 40, 3) := by decide +kernel
theorem dX6_repay_38 : decode cX6_repay 38 = .ok (.iload_n 1, 1) := by decide +kernel
theorem dX6_repay_39 : decode cX6_repay 39 = .ok (.ineg, 1) := by decide +kernel
theorem dX6_repay_40 : decode cX6_repay 40 = .ok (.invokevirtual 94, 3) := by decide +kernel
theorem dX6_repay_43 : decode cX6_repay 43 = .ok (.aload_n 0, 1) := by decide +kernel
theorem dX6_repay_44 : decode cX6_repay 44 = .ok (.getfield 40, 3) := by decide +kernel
theorem dX6_repay_47 : decode cX6_repay 47 = .ok (.invokevirtual 89, 3) := by decide +kernel
theorem dX6_repay_50 : decode cX6_repay 50 = .ok (.ireturn, 1) := by decide +kernel
set_option maxRecDepth 20000 in
theorem ggX6_pass_X6_requireRange : GoodIn wsX6_pass wsX6_requireRange := goodIn_ca (goodIn_r _ [5, 6, 7] (by decide +kernel) (by decide +kernel)) (goodIn_sub (fun _ h => List.mem_cons_of_mem _ (List.mem_append_right _ h)) (by decide +kernel))
set_option maxRecDepth 20000 in
theorem gX6_pass_X6_requireRange : GoodIn wsX6_pass (va_wsS RX6 48 yX6_requireRange wsX6_requireRange) := goodIn_app (goodIn_of _ (by decide +kernel)) ggX6_pass_X6_requireRange
set_option maxRecDepth 20000 in
theorem ggX6_pass_X2_cashNow : GoodIn wsX6_pass wsX2_cashNow := goodIn_r _ [12, 13, 220, 221, 222, 223, 224] (by decide +kernel) (by decide +kernel)
set_option maxRecDepth 20000 in
theorem gX6_pass_X2_cashNow : GoodIn wsX6_pass (wsV RX6 79 RX2 yX2_cashNow wsX2_cashNow) := goodIn_app (goodIn_of _ (by decide +kernel)) ggX6_pass_X2_cashNow
set_option maxRecDepth 20000 in
theorem ggX6_pass_X6_passMonth : GoodIn wsX6_pass wsX6_passMonth := goodIn_r _ [17, 1, 18, 19, 20, 21, 22, 23, 24, 25, 26, 27, 28, 29, 30, 31, 32, 33, 34, 35, 36, 37, 4, 38, 39, 40, 41, 42, 43, 44, 45, 46, 47, 48, 49, 50, 51, 11, 52, 53, 54, 55, 13, 56, 8, 9, 10, 12, 57, 58, 59, 60, 61, 62, 63, 64, 65, 66, 67, 68, 69, 70, 71, 72, 73, 74, 75, 76, 77, 78, 79, 80, 81, 82, 83, 84, 85, 86, 87, 88, 89, 90, 91, 92, 93, 94, 95, 96, 97, 98, 99, 100, 101, 102, 103, 104, 105, 106, 107, 108, 109, 110, 111, 112, 113, 114, 115, 116, 117, 118, 119, 120, 121, 122, 123, 124, 125, 126, 127, 128, 129, 130, 131, 132, 133, 134, 135, 136, 137, 138, 139, 140, 141, 142, 143, 144, 145, 146, 147, 148, 149, 150, 151, 152, 153, 154, 155, 156, 157, 158, 159, 160, 161, 162, 163, 164, 165, 166, 167, 168, 169, 170, 171, 172, 173, 174, 175, 176, 177, 178, 179, 180, 181, 182, 183, 184, 185, 186, 187, 188, 189, 190, 191, 192, 193, 194, 195, 196, 197, 198, 199, 200, 201, 202, 203, 204, 205, 206, 207, 208, 209, 210, 211, 212, 213, 214, 215, 216, 217, 218, 219, 225, 226, 227, 228, 229, 230, 231, 232, 233, 234, 220, 221, 222, 223, 224, 235, 236, 237, 238, 239, 240, 241, 242] (by decide +kernel) (by decide +kernel)
set_option maxRecDepth 20000 in
theorem gX6_pass_X6_passMonth : GoodIn wsX6_pass (wsV RX6 99 RX6 yX6_passMonth wsX6_passMonth) := goodIn_app (goodIn_of _ (by decide +kernel)) ggX6_pass_X6_passMonth
theorem dX6_pass_0 : decode cX6_pass 0 = .ok (.iload_n 1, 1) := by decide +kernel
theorem dX6_pass_1 : decode cX6_pass 1 = .ok (.iconst 1, 1) := by decide +kernel
theorem dX6_pass_2 : decode cX6_pass 2 = .ok (.bipush 12, 2) := by decide +kernel
theorem dX6_pass_4 : decode cX6_pass 4 = .ok (.invokestatic 48, 3) := by decide +kernel
theorem dX6_pass_7 : decode cX6_pass 7 = .ok (.aload_n 0, 1) := by decide +kernel
theorem dX6_pass_8 : decode cX6_pass 8 = .ok (.getfield 40, 3) := by decide +kernel
theorem dX6_pass_11 : decode cX6_pass 11 = .ok (.invokevirtual 79, 3) := by decide +kernel
theorem dX6_pass_14 : decode cX6_pass 14 = .ok (.istore_n 2, 1) := by decide +kernel
theorem dX6_pass_15 : decode cX6_pass 15 = .ok (.iconst 0, 1) := by decide +kernel
theorem dX6_pass_16 : decode cX6_pass 16 = .ok (.istore_n 3, 1) := by decide +kernel
theorem dX6_pass_17 : decode cX6_pass 17 = .ok (.iload_n 3, 1) := by decide +kernel
theorem dX6_pass_18 : decode cX6_pass 18 = .ok (.iload_n 1, 1) := by decide +kernel
theorem dX6_pass_19 : decode cX6_pass 19 = .ok (.if_icmp .ge 13, 3) := by decide +kernel
theorem dX6_pass_22 : decode cX6_pass 22 = .ok (.aload_n 0, 1) := by decide +kernel
theorem dX6_pass_23 : decode cX6_pass 23 = .ok (.invokevirtual 99, 3) := by decide +kernel
theorem dX6_pass_26 : decode cX6_pass 26 = .ok (.iinc 3 1, 3) := by decide +kernel
theorem dX6_pass_29 : decode cX6_pass 29 = .ok (.goto (-12), 3) := by decide +kernel
theorem dX6_pass_32 : decode cX6_pass 32 = .ok (.aload_n 0, 1) := by decide +kernel
theorem dX6_pass_33 : decode cX6_pass 33 = .ok (.getfield 40, 3) := by decide +kernel
theorem dX6_pass_36 : decode cX6_pass 36 = .ok (.invokevirtual 79, 3) := by decide +kernel
theorem dX6_pass_39 : decode cX6_pass 39 = .ok (.iload_n 2, 1) := by decide +kernel
theorem dX6_pass_40 : decode cX6_pass 40 = .ok (.isub, 1) := by decide +kernel
theorem dX6_pass_41 : decode cX6_pass 41 = .ok (.ireturn, 1) := by decide +kernel
set_option maxRecDepth 20000 in
theorem ggX6_cash_X2_cashNow : GoodIn wsX6_cash wsX2_cashNow := goodIn_r _ [6, 7, 13, 14, 15, 16, 17] (by decide +kernel) (by decide +kernel)
set_option maxRecDepth 20000 in
theorem gX6_cash_X2_cashNow : GoodIn wsX6_cash (wsV RX6 79 RX2 yX2_cashNow wsX2_cashNow) := goodIn_app (goodIn_of _ (by decide +kernel)) ggX6_cash_X2_cashNow
theorem dX6_cash_0 : decode cX6_cash 0 = .ok (.aload_n 0, 1) := by decide +kernel
theorem dX6_cash_1 : decode cX6_cash 1 = .ok (.getfield 40, 3) := by decide +kernel
theorem dX6_cash_4 : decode cX6_cash 4 = .ok (.invokevirtual 79, 3) := by decide +kernel
theorem dX6_cash_7 : decode cX6_cash 7 = .ok (.ireturn, 1) := by decide +kernel
set_option maxRecDepth 20000 in
theorem ggX6_debt_X2_debtNow : GoodIn wsX6_debt wsX2_debtNow := goodIn_r _ [6, 7, 13, 14, 15, 16, 17] (by decide +kernel) (by decide +kernel)
set_option maxRecDepth 20000 in
theorem gX6_debt_X2_debtNow : GoodIn wsX6_debt (wsV RX6 89 RX2 yX2_debtNow wsX2_debtNow) := goodIn_app (goodIn_of _ (by decide +kernel)) ggX6_debt_X2_debtNow
theorem dX6_debt_0 : decode cX6_debt 0 = .ok (.aload_n 0, 1) := by decide +kernel
theorem dX6_debt_1 : decode cX6_debt 1 = .ok (.getfield 40, 3) := by decide +kernel
theorem dX6_debt_4 : decode cX6_debt 4 = .ok (.invokevirtual 89, 3) := by decide +kernel
theorem dX6_debt_7 : decode cX6_debt 7 = .ok (.ireturn, 1) := by decide +kernel
set_option maxRecDepth 20000 in
theorem ggX6_earned_X2_earnedNow : GoodIn wsX6_earned wsX2_earnedNow := goodIn_r _ [6, 7, 13, 14, 15, 16, 17] (by decide +kernel) (by decide +kernel)
set_option maxRecDepth 20000 in
theorem gX6_earned_X2_earnedNow : GoodIn wsX6_earned (wsV RX6 102 RX2 yX2_earnedNow wsX2_earnedNow) := goodIn_app (goodIn_of _ (by decide +kernel)) ggX6_earned_X2_earnedNow
theorem dX6_earned_0 : decode cX6_earned 0 = .ok (.aload_n 0, 1) := by decide +kernel
theorem dX6_earned_1 : decode cX6_earned 1 = .ok (.getfield 40, 3) := by decide +kernel
theorem dX6_earned_4 : decode cX6_earned 4 = .ok (.invokevirtual 102, 3) := by decide +kernel
theorem dX6_earned_7 : decode cX6_earned 7 = .ok (.ireturn, 1) := by decide +kernel
set_option maxRecDepth 20000 in
theorem ggX6_kind_X6_requireCell : GoodIn wsX6_kind wsX6_requireCell := goodIn_ca (goodIn_r _ [5, 6, 7] (by decide +kernel) (by decide +kernel)) (goodIn_sub (fun _ h => List.mem_cons_of_mem _ (List.mem_append_right _ h)) (by decide +kernel))
set_option maxRecDepth 20000 in
theorem gX6_kind_X6_requireCell : GoodIn wsX6_kind (va_wsS RX6 44 yX6_requireCell wsX6_requireCell) := goodIn_app (goodIn_of _ (by decide +kernel)) ggX6_kind_X6_requireCell
set_option maxRecDepth 20000 in
theorem ggX6_kind_X0_kindOf : GoodIn wsX6_kind wsX0_kindOf := goodIn_r _ [12, 13, 14, 15, 16, 17, 18, 19, 25, 26, 27] (by decide +kernel) (by decide +kernel)
set_option maxRecDepth 20000 in
theorem gX6_kind_X0_kindOf : GoodIn wsX6_kind (wsV RX6 52 RX0 yX0_kindOf wsX0_kindOf) := goodIn_app (goodIn_of _ (by decide +kernel)) ggX6_kind_X0_kindOf
theorem dX6_kind_0 : decode cX6_kind 0 = .ok (.iload_n 1, 1) := by decide +kernel
theorem dX6_kind_1 : decode cX6_kind 1 = .ok (.invokestatic 44, 3) := by decide +kernel
theorem dX6_kind_4 : decode cX6_kind 4 = .ok (.aload_n 0, 1) := by decide +kernel
theorem dX6_kind_5 : decode cX6_kind 5 = .ok (.getfield 10, 3) := by decide +kernel
theorem dX6_kind_8 : decode cX6_kind 8 = .ok (.iload_n 1, 1) := by decide +kernel
theorem dX6_kind_9 : decode cX6_kind 9 = .ok (.invokevirtual 52, 3) := by decide +kernel
theorem dX6_kind_12 : decode cX6_kind 12 = .ok (.ireturn, 1) := by decide +kernel
set_option maxRecDepth 20000 in
theorem ggX6_level_X6_requireCell : GoodIn wsX6_level wsX6_requireCell := goodIn_ca (goodIn_r _ [5, 6, 7] (by decide +kernel) (by decide +kernel)) (goodIn_sub (fun _ h => List.mem_cons_of_mem _ (List.mem_append_right _ h)) (by decide +kernel))
set_option maxRecDepth 20000 in
theorem gX6_level_X6_requireCell : GoodIn wsX6_level (va_wsS RX6 44 yX6_requireCell wsX6_requireCell) := goodIn_app (goodIn_of _ (by decide +kernel)) ggX6_level_X6_requireCell
set_option maxRecDepth 20000 in
theorem ggX6_level_X0_levelOf : GoodIn wsX6_level wsX0_levelOf := goodIn_r _ [12, 13, 14, 15, 16, 17, 18, 19, 25, 26, 27] (by decide +kernel) (by decide +kernel)
set_option maxRecDepth 20000 in
theorem gX6_level_X0_levelOf : GoodIn wsX6_level (wsV RX6 105 RX0 yX0_levelOf wsX0_levelOf) := goodIn_app (goodIn_of _ (by decide +kernel)) ggX6_level_X0_levelOf
theorem dX6_level_0 : decode cX6_level 0 = .ok (.iload_n 1, 1) := by decide +kernel
theorem dX6_level_1 : decode cX6_level 1 = .ok (.invokestatic 44, 3) := by decide +kernel
theorem dX6_level_4 : decode cX6_level 4 = .ok (.aload_n 0, 1) := by decide +kernel
theorem dX6_level_5 : decode cX6_level 5 = .ok (.getfield 10, 3) := by decide +kernel
theorem dX6_level_8 : decode cX6_level 8 = .ok (.iload_n 1, 1) := by decide +kernel
theorem dX6_level_9 : decode cX6_level 9 = .ok (.invokevirtual 105, 3) := by decide +kernel
theorem dX6_level_12 : decode cX6_level 12 = .ok (.ireturn, 1) := by decide +kernel
set_option maxRecDepth 20000 in
theorem ggX6_sign_X6_requireCell : GoodIn wsX6_sign wsX6_requireCell := goodIn_ca (goodIn_r _ [7, 1, 2] (by decide +kernel) (by decide +kernel)) (goodIn_sub (fun _ h => List.mem_cons_of_mem _ (List.mem_append_right _ h)) (by decide +kernel))
set_option maxRecDepth 20000 in
theorem gX6_sign_X6_requireCell : GoodIn wsX6_sign (va_wsS RX6 44 yX6_requireCell wsX6_requireCell) := goodIn_app (goodIn_of _ (by decide +kernel)) ggX6_sign_X6_requireCell
set_option maxRecDepth 20000 in
theorem ggX6_sign_X0_textOf : GoodIn wsX6_sign wsX0_textOf := goodIn_r _ [12, 13, 14, 15, 16, 17, 18, 19, 20, 21, 22, 11, 23, 24, 25, 26, 27, 28, 29, 30, 31, 32, 33, 34, 35, 36, 37, 38, 39, 40, 41, 42, 43, 44, 45, 46, 47, 48, 49, 50, 51, 52, 53, 54, 55, 56, 57, 58, 59, 60, 61, 62, 63, 64, 65, 66, 67, 68, 69, 70, 71, 72, 73, 74, 75, 76, 77, 78, 79, 80, 81, 82, 83, 84, 85, 86, 87, 88, 89, 90, 91, 92, 93, 94, 95, 96, 97, 98, 99, 100, 101, 102, 103, 104, 105, 106, 107, 108, 109, 110, 111, 112, 113, 114, 115, 116, 117, 118, 119, 120, 121, 122, 123, 124, 125, 126, 127, 128, 129, 130, 131, 132, 133, 134, 135, 136, 137, 138, 139, 140, 141, 142, 143, 144, 145, 146, 147, 148, 149, 150, 151, 152, 153, 154, 155, 156, 157, 158, 159, 160, 161, 162, 163, 164, 165, 166, 167, 168, 169, 170, 171, 172, 173, 174, 175, 176, 177, 178, 179, 180, 181, 182, 183, 184, 185, 186, 187, 188, 189, 190, 191, 192, 193, 194, 195, 196, 197, 198, 199, 200, 201, 202, 203, 204, 205, 206, 207, 208, 209, 210, 211, 212, 213, 214, 215, 216, 217, 218, 219, 220, 221, 222, 223, 224, 225, 226, 227, 228, 229, 230, 231, 232, 233, 234, 235, 236, 237, 238, 239, 240, 241, 270, 271, 272, 273, 274, 275, 276, 277, 278, 279, 280] (by decide +kernel) (by decide +kernel)
set_option maxRecDepth 20000 in
theorem gX6_sign_X0_textOf : GoodIn wsX6_sign (wsV RX6 108 RX0 yX0_textOf wsX0_textOf) := goodIn_app (goodIn_of _ (by decide +kernel)) ggX6_sign_X0_textOf
set_option maxRecDepth 20000 in
theorem ggX6_sign_J0_length_8abf5 : GoodIn wsX6_sign wsJ0_length_8abf5 := goodIn_r _ [245, 201, 246, 247, 248, 128, 249, 202, 200, 277, 278, 279, 280] (by decide +kernel) (by decide +kernel)
set_option maxRecDepth 20000 in
theorem gX6_sign_J0_length_8abf5 : GoodIn wsX6_sign (wsV RX6 112 RJ0 yJ0_length_8abf5 wsJ0_length_8abf5) := goodIn_app (goodIn_of _ (by decide +kernel)) ggX6_sign_J0_length_8abf5
set_option maxRecDepth 20000 in
theorem ggX6_sign_J0_charAt_5068e : GoodIn wsX6_sign wsJ0_charAt_5068e := goodIn_r _ [253, 201, 254, 255, 256, 128, 257, 202, 200, 258, 259, 107, 260, 261, 148, 149, 130, 150, 151, 133, 152, 262, 263, 44, 264, 144, 145, 146, 123, 124, 125, 147, 235, 236, 237, 138, 139, 140, 277, 278, 279, 280] (by decide +kernel) (by decide +kernel)
set_option maxRecDepth 20000 in
theorem gX6_sign_J0_charAt_5068e : GoodIn wsX6_sign (wsV RX6 122 RJ0 yJ0_charAt_5068e wsJ0_charAt_5068e) := goodIn_app (goodIn_of _ (by decide +kernel)) ggX6_sign_J0_charAt_5068e
theorem dX6_sign_0 : decode cX6_sign 0 = .ok (.iload_n 1, 1) := by decide +kernel
theorem dX6_sign_1 : decode cX6_sign 1 = .ok (.invokestatic 44, 3) := by decide +kernel
theorem dX6_sign_4 : decode cX6_sign 4 = .ok (.aload_n 0, 1) := by decide +kernel
theorem dX6_sign_5 : decode cX6_sign 5 = .ok (.getfield 10, 3) := by decide +kernel
theorem dX6_sign_8 : decode cX6_sign 8 = .ok (.iload_n 1, 1) := by decide +kernel
theorem dX6_sign_9 : decode cX6_sign 9 = .ok (.invokevirtual 108, 3) := by decide +kernel
theorem dX6_sign_12 : decode cX6_sign 12 = .ok (.astore_n 3, 1) := by decide +kernel
theorem dX6_sign_13 : decode cX6_sign 13 = .ok (.iload_n 2, 1) := by decide +kernel
theorem dX6_sign_14 : decode cX6_sign 14 = .ok (.ifCond .lt 11, 3) := by decide +kernel
theorem dX6_sign_17 : decode cX6_sign 17 = .ok (.iload_n 2, 1) := by decide +kernel
theorem dX6_sign_18 : decode cX6_sign 18 = .ok (.aload_n 3, 1) := by decide +kernel
theorem dX6_sign_19 : decode cX6_sign 19 = .ok (.invokevirtual 112, 3) := by decide +kernel
theorem dX6_sign_22 : decode cX6_sign 22 = .ok (.if_icmp .lt 13, 3) := by decide +kernel
theorem dX6_sign_25 : decode cX6_sign 25 = .ok (.new 117, 3) := by decide +kernel
theorem dX6_sign_28 : decode cX6_sign 28 = .ok (.dup, 1) := by decide +kernel
theorem dX6_sign_29 : decode cX6_sign 29 = .ok (.ldc 119, 2) := by decide +kernel
theorem dX6_sign_31 : decode cX6_sign 31 = .ok (.invokespecial 121, 3) := by decide +kernel
theorem dX6_sign_34 : decode cX6_sign 34 = .ok (.athrow, 1) := by decide +kernel
theorem dX6_sign_35 : decode cX6_sign 35 = .ok (.aload_n 3, 1) := by decide +kernel
theorem dX6_sign_36 : decode cX6_sign 36 = .ok (.iload_n 2, 1) := by decide +kernel
theorem dX6_sign_37 : decode cX6_sign 37 = .ok (.invokevirtual 122, 3) := by decide +kernel
theorem dX6_sign_40 : decode cX6_sign 40 = .ok (.ireturn, 1) := by decide +kernel
set_option maxRecDepth 20000 in
theorem ggX6_net_X6_requireCell : GoodIn wsX6_net wsX6_requireCell := goodIn_ca (goodIn_r _ [5, 6, 7] (by decide +kernel) (by decide +kernel)) (goodIn_sub (fun _ h => List.mem_cons_of_mem _ (List.mem_append_right _ h)) (by decide +kernel))
set_option maxRecDepth 20000 in
theorem gX6_net_X6_requireCell : GoodIn wsX6_net (va_wsS RX6 44 yX6_requireCell wsX6_requireCell) := goodIn_app (goodIn_of _ (by decide +kernel)) ggX6_net_X6_requireCell
set_option maxRecDepth 20000 in
theorem ggX6_net_X3_netOf : GoodIn wsX6_net wsX3_netOf := goodIn_r _ [12, 13, 14, 15, 16, 17, 18, 19, 20, 26, 27, 28, 29, 30, 31] (by decide +kernel) (by decide +kernel)
set_option maxRecDepth 20000 in
theorem gX6_net_X3_netOf : GoodIn wsX6_net (wsV RX6 126 RX3 yX3_netOf wsX3_netOf) := goodIn_app (goodIn_of _ (by decide +kernel)) ggX6_net_X3_netOf
theorem dX6_net_0 : decode cX6_net 0 = .ok (.iload_n 1, 1) := by decide +kernel
theorem dX6_net_1 : decode cX6_net 1 = .ok (.invokestatic 44, 3) := by decide +kernel
theorem dX6_net_4 : decode cX6_net 4 = .ok (.aload_n 0, 1) := by decide +kernel
theorem dX6_net_5 : decode cX6_net 5 = .ok (.getfield 19, 3) := by decide +kernel
theorem dX6_net_8 : decode cX6_net 8 = .ok (.iload_n 1, 1) := by decide +kernel
theorem dX6_net_9 : decode cX6_net 9 = .ok (.invokevirtual 126, 3) := by decide +kernel
theorem dX6_net_12 : decode cX6_net 12 = .ok (.ireturn, 1) := by decide +kernel
set_option maxRecDepth 20000 in
theorem ggX6_steps_X6_requireCell : GoodIn wsX6_steps wsX6_requireCell := goodIn_ca (goodIn_r _ [5, 6, 7] (by decide +kernel) (by decide +kernel)) (goodIn_sub (fun _ h => List.mem_cons_of_mem _ (List.mem_append_right _ h)) (by decide +kernel))
set_option maxRecDepth 20000 in
theorem gX6_steps_X6_requireCell : GoodIn wsX6_steps (va_wsS RX6 44 yX6_requireCell wsX6_requireCell) := goodIn_app (goodIn_of _ (by decide +kernel)) ggX6_steps_X6_requireCell
set_option maxRecDepth 20000 in
theorem ggX6_steps_X3_between : GoodIn wsX6_steps wsX3_between := goodIn_r _ [12, 13, 14, 15, 16, 17, 18, 19, 20, 26, 27, 28, 29, 30, 31] (by decide +kernel) (by decide +kernel)
set_option maxRecDepth 20000 in
theorem gX6_steps_X3_between : GoodIn wsX6_steps (wsV RX6 129 RX3 yX3_between wsX3_between) := goodIn_app (goodIn_of _ (by decide +kernel)) ggX6_steps_X3_between
theorem dX6_steps_0 : decode cX6_steps 0 = .ok (.iload_n 1, 1) := by decide +kernel
theorem dX6_steps_1 : decode cX6_steps 1 = .ok (.invokestatic 44, 3) := by decide +kernel
theorem dX6_steps_4 : decode cX6_steps 4 = .ok (.iload_n 2, 1) := by decide +kernel
theorem dX6_steps_5 : decode cX6_steps 5 = .ok (.invokestatic 44, 3) := by decide +kernel
theorem dX6_steps_8 : decode cX6_steps 8 = .ok (.aload_n 0, 1) := by decide +kernel
theorem dX6_steps_9 : decode cX6_steps 9 = .ok (.getfield 19, 3) := by decide +kernel
theorem dX6_steps_12 : decode cX6_steps 12 = .ok (.iload_n 1, 1) := by decide +kernel
theorem dX6_steps_13 : decode cX6_steps 13 = .ok (.iload_n 2, 1) := by decide +kernel
theorem dX6_steps_14 : decode cX6_steps 14 = .ok (.invokevirtual 129, 3) := by decide +kernel
theorem dX6_steps_17 : decode cX6_steps 17 = .ok (.ireturn, 1) := by decide +kernel
set_option maxRecDepth 20000 in
theorem ggX6_isServed_X6_requireCell : GoodIn wsX6_isServed wsX6_requireCell := goodIn_ca (goodIn_r _ [5, 6, 7] (by decide +kernel) (by decide +kernel)) (goodIn_sub (fun _ h => List.mem_cons_of_mem _ (List.mem_append_right _ h)) (by decide +kernel))
set_option maxRecDepth 20000 in
theorem gX6_isServed_X6_requireCell : GoodIn wsX6_isServed (va_wsS RX6 44 yX6_requireCell wsX6_requireCell) := goodIn_app (goodIn_of _ (by decide +kernel)) ggX6_isServed_X6_requireCell
set_option maxRecDepth 20000 in
theorem ggX6_isServed_X5_serves : GoodIn wsX6_isServed wsX5_serves := goodIn_r _ [12, 13, 14, 15, 16, 17, 18, 19, 25, 26, 27, 28] (by decide +kernel) (by decide +kernel)
set_option maxRecDepth 20000 in
theorem gX6_isServed_X5_serves : GoodIn wsX6_isServed (wsV RX6 133 RX5 yX5_serves wsX5_serves) := goodIn_app (goodIn_of _ (by decide +kernel)) ggX6_isServed_X5_serves
theorem dX6_isServed_0 : decode cX6_isServed 0 = .ok (.iload_n 1, 1) := by decide +kernel
theorem dX6_isServed_1 : decode cX6_isServed 1 = .ok (.invokestatic 44, 3) := by decide +kernel
theorem dX6_isServed_4 : decode cX6_isServed 4 = .ok (.aload_n 0, 1) := by decide +kernel
theorem dX6_isServed_5 : decode cX6_isServed 5 = .ok (.getfield 26, 3) := by decide +kernel
theorem dX6_isServed_8 : decode cX6_isServed 8 = .ok (.iload_n 1, 1) := by decide +kernel
theorem dX6_isServed_9 : decode cX6_isServed 9 = .ok (.invokevirtual 133, 3) := by decide +kernel
theorem dX6_isServed_12 : decode cX6_isServed 12 = .ok (.ireturn, 1) := by decide +kernel
set_option maxRecDepth 20000 in
theorem ggX6_placed_X6_requireCell : GoodIn wsX6_placed wsX6_requireCell := goodIn_ca (goodIn_r _ [5, 6, 7] (by decide +kernel) (by decide +kernel)) (goodIn_sub (fun _ h => List.mem_cons_of_mem _ (List.mem_append_right _ h)) (by decide +kernel))
set_option maxRecDepth 20000 in
theorem gX6_placed_X6_requireCell : GoodIn wsX6_placed (va_wsS RX6 44 yX6_requireCell wsX6_requireCell) := goodIn_app (goodIn_of _ (by decide +kernel)) ggX6_placed_X6_requireCell
set_option maxRecDepth 20000 in
theorem ggX6_placed_X1_placedAt : GoodIn wsX6_placed wsX1_placedAt := goodIn_r _ [12, 13, 14, 15, 16, 17, 18, 19, 25, 26, 27, 28, 29, 30, 31, 32] (by decide +kernel) (by decide +kernel)
set_option maxRecDepth 20000 in
theorem gX6_placed_X1_placedAt : GoodIn wsX6_placed (wsV RX6 137 RX1 yX1_placedAt wsX1_placedAt) := goodIn_app (goodIn_of _ (by decide +kernel)) ggX6_placed_X1_placedAt
theorem dX6_placed_0 : decode cX6_placed 0 = .ok (.iload_n 1, 1) := by decide +kernel
theorem dX6_placed_1 : decode cX6_placed 1 = .ok (.invokestatic 44, 3) := by decide +kernel
theorem dX6_placed_4 : decode cX6_placed 4 = .ok (.aload_n 0, 1) := by decide +kernel
theorem dX6_placed_5 : decode cX6_placed 5 = .ok (.getfield 33, 3) := by decide +kernel
theorem dX6_placed_8 : decode cX6_placed 8 = .ok (.iload_n 1, 1) := by decide +kernel
theorem dX6_placed_9 : decode cX6_placed 9 = .ok (.invokevirtual 137, 3) := by decide +kernel
theorem dX6_placed_12 : decode cX6_placed 12 = .ok (.ireturn, 1) := by decide +kernel
set_option maxRecDepth 20000 in
theorem ggX6_traffic_X6_requireCell : GoodIn wsX6_traffic wsX6_requireCell := goodIn_ca (goodIn_r _ [5, 6, 7] (by decide +kernel) (by decide +kernel)) (goodIn_sub (fun _ h => List.mem_cons_of_mem _ (List.mem_append_right _ h)) (by decide +kernel))
set_option maxRecDepth 20000 in
theorem gX6_traffic_X6_requireCell : GoodIn wsX6_traffic (va_wsS RX6 44 yX6_requireCell wsX6_requireCell) := goodIn_app (goodIn_of _ (by decide +kernel)) ggX6_traffic_X6_requireCell
set_option maxRecDepth 20000 in
theorem ggX6_traffic_X1_trafficOn : GoodIn wsX6_traffic wsX1_trafficOn := goodIn_r _ [12, 13, 14, 15, 16, 17, 18, 19, 25, 26, 27, 28, 29, 30, 31, 32] (by decide +kernel) (by decide +kernel)
set_option maxRecDepth 20000 in
theorem gX6_traffic_X1_trafficOn : GoodIn wsX6_traffic (wsV RX6 140 RX1 yX1_trafficOn wsX1_trafficOn) := goodIn_app (goodIn_of _ (by decide +kernel)) ggX6_traffic_X1_trafficOn
theorem dX6_traffic_0 : decode cX6_traffic 0 = .ok (.iload_n 1, 1) := by decide +kernel
theorem dX6_traffic_1 : decode cX6_traffic 1 = .ok (.invokestatic 44, 3) := by decide +kernel
theorem dX6_traffic_4 : decode cX6_traffic 4 = .ok (.aload_n 0, 1) := by decide +kernel
theorem dX6_traffic_5 : decode cX6_traffic 5 = .ok (.getfield 33, 3) := by decide +kernel
theorem dX6_traffic_8 : decode cX6_traffic 8 = .ok (.iload_n 1, 1) := by decide +kernel
theorem dX6_traffic_9 : decode cX6_traffic 9 = .ok (.invokevirtual 140, 3) := by decide +kernel
theorem dX6_traffic_12 : decode cX6_traffic 12 = .ok (.ireturn, 1) := by decide +kernel
set_option maxRecDepth 20000 in
theorem ggX6_value_X6_requireCell : GoodIn wsX6_value wsX6_requireCell := goodIn_ca (goodIn_r _ [4, 5, 6] (by decide +kernel) (by decide +kernel)) (goodIn_sub (fun _ h => List.mem_cons_of_mem _ (List.mem_append_right _ h)) (by decide +kernel))
set_option maxRecDepth 20000 in
theorem gX6_value_X6_requireCell : GoodIn wsX6_value (va_wsS RX6 44 yX6_requireCell wsX6_requireCell) := goodIn_app (goodIn_of _ (by decide +kernel)) ggX6_value_X6_requireCell
set_option maxRecDepth 20000 in
theorem ggX6_value_X6_valueOf : GoodIn wsX6_value wsX6_valueOf := goodIn_r _ [10, 11, 12, 13, 14, 15, 16, 17, 18, 19, 20, 21, 22, 23, 24, 25, 26, 27, 28, 29, 30, 3, 31, 32, 33, 34, 35, 36, 37, 38, 39, 40, 41, 42, 43, 44, 45, 46, 47, 48, 49, 50, 51, 52, 53, 54, 55, 56, 57, 58, 59, 60, 61, 62, 63, 64, 65, 66, 67, 68] (by decide +kernel) (by decide +kernel)
set_option maxRecDepth 20000 in
theorem gX6_value_X6_valueOf : GoodIn wsX6_value (wsV RX6 143 RX6 yX6_valueOf wsX6_valueOf) := goodIn_app (goodIn_of _ (by decide +kernel)) ggX6_value_X6_valueOf
theorem dX6_value_0 : decode cX6_value 0 = .ok (.iload_n 1, 1) := by decide +kernel
theorem dX6_value_1 : decode cX6_value 1 = .ok (.invokestatic 44, 3) := by decide +kernel
theorem dX6_value_4 : decode cX6_value 4 = .ok (.aload_n 0, 1) := by decide +kernel
theorem dX6_value_5 : decode cX6_value 5 = .ok (.iload_n 1, 1) := by decide +kernel
theorem dX6_value_6 : decode cX6_value 6 = .ok (.invokevirtual 143, 3) := by decide +kernel
theorem dX6_value_9 : decode cX6_value 9 = .ok (.ireturn, 1) := by decide +kernel
set_option maxRecDepth 20000 in
theorem ggX6_powerLeft_X6_requireCell : GoodIn wsX6_powerLeft wsX6_requireCell := goodIn_ca (goodIn_r _ [6, 7, 8] (by decide +kernel) (by decide +kernel)) (goodIn_sub (fun _ h => List.mem_cons_of_mem _ (List.mem_append_right _ h)) (by decide +kernel))
set_option maxRecDepth 20000 in
theorem gX6_powerLeft_X6_requireCell : GoodIn wsX6_powerLeft (va_wsS RX6 44 yX6_requireCell wsX6_requireCell) := goodIn_app (goodIn_of _ (by decide +kernel)) ggX6_powerLeft_X6_requireCell
set_option maxRecDepth 20000 in
theorem ggX6_powerLeft_X3_netOf : GoodIn wsX6_powerLeft wsX3_netOf := goodIn_r _ [13, 14, 15, 16, 17, 18, 19, 20, 21, 34, 35, 36, 37, 38, 39] (by decide +kernel) (by decide +kernel)
set_option maxRecDepth 20000 in
theorem gX6_powerLeft_X3_netOf : GoodIn wsX6_powerLeft (wsV RX6 126 RX3 yX3_netOf wsX3_netOf) := goodIn_app (goodIn_of _ (by decide +kernel)) ggX6_powerLeft_X3_netOf
set_option maxRecDepth 20000 in
theorem ggX6_powerLeft_X5_powerOf : GoodIn wsX6_powerLeft wsX5_powerOf := goodIn_r _ [26, 27, 28, 17, 18, 19, 20, 21, 40, 41, 42, 39] (by decide +kernel) (by decide +kernel)
set_option maxRecDepth 20000 in
theorem gX6_powerLeft_X5_powerOf : GoodIn wsX6_powerLeft (wsV RX6 146 RX5 yX5_powerOf wsX5_powerOf) := goodIn_app (goodIn_of _ (by decide +kernel)) ggX6_powerLeft_X5_powerOf
theorem dX6_powerLeft_0 : decode cX6_powerLeft 0 = .ok (.iload_n 1, 1) := by decide +kernel
theorem dX6_powerLeft_1 : decode cX6_powerLeft 1 = .ok (.invokestatic 44, 3) := by decide +kernel
theorem dX6_powerLeft_4 : decode cX6_powerLeft 4 = .ok (.aload_n 0, 1) := by decide +kernel
theorem dX6_powerLeft_5 : decode cX6_powerLeft 5 = .ok (.getfield 19, 3) := by decide +kernel
theorem dX6_powerLeft_8 : decode cX6_powerLeft 8 = .ok (.iload_n 1, 1) := by decide +kernel
theorem dX6_powerLeft_9 : decode cX6_powerLeft 9 = .ok (.invokevirtual 126, 3) := by decide +kernel
theorem dX6_powerLeft_12 : decode cX6_powerLeft 12 = .ok (.istore_n 2, 1) := by decide +kernel
theorem dX6_powerLeft_13 : decode cX6_powerLeft 13 = .ok (.iload_n 2, 1) := by decide +kernel
theorem dX6_powerLeft_14 : decode cX6_powerLeft 14 = .ok (.iconst (-1), 1) := by decide +kernel
theorem dX6_powerLeft_15 : decode cX6_powerLeft 15 = .ok (.if_icmp .ne 7, 3) := by decide +kernel
theorem dX6_powerLeft_18 : decode cX6_powerLeft 18 = .ok (.iconst 0, 1) := by decide +kernel
theorem dX6_powerLeft_19 : decode cX6_powerLeft 19 = .ok (.goto 11, 3) := by decide +kernel
theorem dX6_powerLeft_22 : decode cX6_powerLeft 22 = .ok (.aload_n 0, 1) := by decide +kernel
theorem dX6_powerLeft_23 : decode cX6_powerLeft 23 = .ok (.getfield 26, 3) := by decide +kernel
theorem dX6_powerLeft_26 : decode cX6_powerLeft 26 = .ok (.iload_n 2, 1) := by decide +kernel
theorem dX6_powerLeft_27 : decode cX6_powerLeft 27 = .ok (.invokevirtual 146, 3) := by decide +kernel
theorem dX6_powerLeft_30 : decode cX6_powerLeft 30 = .ok (.ireturn, 1) := by decide +kernel
set_option maxRecDepth 20000 in
theorem ggX6_going_X6_requireCell : GoodIn wsX6_going wsX6_requireCell := goodIn_ca (goodIn_r _ [5, 6, 7] (by decide +kernel) (by decide +kernel)) (goodIn_sub (fun _ h => List.mem_cons_of_mem _ (List.mem_append_right _ h)) (by decide +kernel))
set_option maxRecDepth 20000 in
theorem gX6_going_X6_requireCell : GoodIn wsX6_going (va_wsS RX6 44 yX6_requireCell wsX6_requireCell) := goodIn_app (goodIn_of _ (by decide +kernel)) ggX6_going_X6_requireCell
set_option maxRecDepth 20000 in
theorem ggX6_going_X1_goingBetween : GoodIn wsX6_going wsX1_goingBetween := goodIn_r _ [12, 13, 14, 15, 16, 17, 18, 19, 20, 21, 22, 28, 29, 30, 31, 32, 33, 34, 35] (by decide +kernel) (by decide +kernel)
set_option maxRecDepth 20000 in
theorem gX6_going_X1_goingBetween : GoodIn wsX6_going (wsV RX6 149 RX1 yX1_goingBetween wsX1_goingBetween) := goodIn_app (goodIn_of _ (by decide +kernel)) ggX6_going_X1_goingBetween
theorem dX6_going_0 : decode cX6_going 0 = .ok (.iload_n 1, 1) := by decide +kernel
theorem dX6_going_1 : decode cX6_going 1 = .ok (.invokestatic 44, 3) := by decide +kernel
theorem dX6_going_4 : decode cX6_going 4 = .ok (.iload_n 2, 1) := by decide +kernel
theorem dX6_going_5 : decode cX6_going 5 = .ok (.invokestatic 44, 3) := by decide +kernel
theorem dX6_going_8 : decode cX6_going 8 = .ok (.aload_n 0, 1) := by decide +kernel
theorem dX6_going_9 : decode cX6_going 9 = .ok (.getfield 33, 3) := by decide +kernel
theorem dX6_going_12 : decode cX6_going 12 = .ok (.iload_n 1, 1) := by decide +kernel
theorem dX6_going_13 : decode cX6_going 13 = .ok (.iload_n 2, 1) := by decide +kernel
theorem dX6_going_14 : decode cX6_going 14 = .ok (.invokevirtual 149, 3) := by decide +kernel
theorem dX6_going_17 : decode cX6_going 17 = .ok (.ireturn, 1) := by decide +kernel
theorem dX6_requireCell_0 : decode cX6_requireCell 0 = .ok (.iload_n 0, 1) := by decide +kernel
theorem dX6_requireCell_1 : decode cX6_requireCell 1 = .ok (.ifCond .lt 9, 3) := by decide +kernel
theorem dX6_requireCell_4 : decode cX6_requireCell 4 = .ok (.iload_n 0, 1) := by decide +kernel
theorem dX6_requireCell_5 : decode cX6_requireCell 5 = .ok (.bipush 64, 2) := by decide +kernel
theorem dX6_requireCell_7 : decode cX6_requireCell 7 = .ok (.if_icmp .lt 13, 3) := by decide +kernel
theorem dX6_requireCell_10 : decode cX6_requireCell 10 = .ok (.new 117, 3) := by decide +kernel
theorem dX6_requireCell_13 : decode cX6_requireCell 13 = .ok (.dup, 1) := by decide +kernel
theorem dX6_requireCell_14 : decode cX6_requireCell 14 = .ok (.ldc 152, 2) := by decide +kernel
theorem dX6_requireCell_16 : decode cX6_requireCell 16 = .ok (.invokespecial 121, 3) := by decide +kernel
theorem dX6_requireCell_19 : decode cX6_requireCell 19 = .ok (.athrow, 1) := by decide +kernel
theorem dX6_requireCell_20 : decode cX6_requireCell 20 = .ok (.return_, 1) := by decide +kernel
theorem dX6_requireRange_0 : decode cX6_requireRange 0 = .ok (.iload_n 0, 1) := by decide +kernel
theorem dX6_requireRange_1 : decode cX6_requireRange 1 = .ok (.iload_n 1, 1) := by decide +kernel
theorem dX6_requireRange_2 : decode cX6_requireRange 2 = .ok (.if_icmp .lt 8, 3) := by decide +kernel
theorem dX6_requireRange_5 : decode cX6_requireRange 5 = .ok (.iload_n 0, 1) := by decide +kernel
theorem dX6_requireRange_6 : decode cX6_requireRange 6 = .ok (.iload_n 2, 1) := by decide +kernel
theorem dX6_requireRange_7 : decode cX6_requireRange 7 = .ok (.if_icmp .le 13, 3) := by decide +kernel
theorem dX6_requireRange_10 : decode cX6_requireRange 10 = .ok (.new 154, 3) := by decide +kernel
theorem dX6_requireRange_13 : decode cX6_requireRange 13 = .ok (.dup, 1) := by decide +kernel
theorem dX6_requireRange_14 : decode cX6_requireRange 14 = .ok (.ldc 156, 2) := by decide +kernel
theorem dX6_requireRange_16 : decode cX6_requireRange 16 = .ok (.invokespecial 158, 3) := by decide +kernel
theorem dX6_requireRange_19 : decode cX6_requireRange 19 = .ok (.athrow, 1) := by decide +kernel
theorem dX6_requireRange_20 : decode cX6_requireRange 20 = .ok (.return_, 1) := by decide +kernel
set_option maxRecDepth 20000 in
theorem ggX6_requireCash_X2_cashNow : GoodIn wsX6_requireCash wsX2_cashNow := goodIn_r _ [8, 9, 15, 16, 17, 18, 19] (by decide +kernel) (by decide +kernel)
set_option maxRecDepth 20000 in
theorem gX6_requireCash_X2_cashNow : GoodIn wsX6_requireCash (wsV RX6 79 RX2 yX2_cashNow wsX2_cashNow) := goodIn_app (goodIn_of _ (by decide +kernel)) ggX6_requireCash_X2_cashNow
theorem dX6_requireCash_0 : decode cX6_requireCash 0 = .ok (.aload_n 0, 1) := by decide +kernel
theorem dX6_requireCash_1 : decode cX6_requireCash 1 = .ok (.getfield 40, 3) := by decide +kernel
theorem dX6_requireCash_4 : decode cX6_requireCash 4 = .ok (.invokevirtual 79, 3) := by decide +kernel
theorem dX6_requireCash_7 : decode cX6_requireCash 7 = .ok (.iload_n 1, 1) := by decide +kernel
theorem dX6_requireCash_8 : decode cX6_requireCash 8 = .ok (.if_icmp .ge 13, 3) := by decide +kernel
theorem dX6_requireCash_11 : decode cX6_requireCash 11 = .ok (.new 56, 3) := by decide +kernel
theorem dX6_requireCash_14 : decode cX6_requireCash 14 = .ok (.dup, 1) := by decide +kernel
theorem dX6_requireCash_15 : decode cX6_requireCash 15 = .ok (.ldc 159, 2) := by decide +kernel
theorem dX6_requireCash_17 : decode cX6_requireCash 17 = .ok (.invokespecial 60, 3) := by decide +kernel
theorem dX6_requireCash_20 : decode cX6_requireCash 20 = .ok (.athrow, 1) := by decide +kernel
theorem dX6_requireCash_21 : decode cX6_requireCash 21 = .ok (.return_, 1) := by decide +kernel
theorem dX6_costOf_0 : decode cX6_costOf 0 = .ok (.iload_n 0, 1) := by decide +kernel
theorem dX6_costOf_1 : decode cX6_costOf 1 = .ok (.tableswitch 56 1 6 #[39, 42, 42, 45, 48, 52], 39) := by decide +kernel
theorem dX6_costOf_40 : decode cX6_costOf 40 = .ok (.bipush 10, 2) := by decide +kernel
theorem dX6_costOf_42 : decode cX6_costOf 42 = .ok (.ireturn, 1) := by decide +kernel
theorem dX6_costOf_43 : decode cX6_costOf 43 = .ok (.bipush 20, 2) := by decide +kernel
theorem dX6_costOf_45 : decode cX6_costOf 45 = .ok (.ireturn, 1) := by decide +kernel
theorem dX6_costOf_46 : decode cX6_costOf 46 = .ok (.bipush 30, 2) := by decide +kernel
theorem dX6_costOf_48 : decode cX6_costOf 48 = .ok (.ireturn, 1) := by decide +kernel
theorem dX6_costOf_49 : decode cX6_costOf 49 = .ok (.sipush 200, 3) := by decide +kernel
theorem dX6_costOf_52 : decode cX6_costOf 52 = .ok (.ireturn, 1) := by decide +kernel
theorem dX6_costOf_53 : decode cX6_costOf 53 = .ok (.sipush 150, 3) := by decide +kernel
theorem dX6_costOf_56 : decode cX6_costOf 56 = .ok (.ireturn, 1) := by decide +kernel
theorem dX6_costOf_57 : decode cX6_costOf 57 = .ok (.iconst 0, 1) := by decide +kernel
theorem dX6_costOf_58 : decode cX6_costOf 58 = .ok (.ireturn, 1) := by decide +kernel
theorem dX6_upkeepOf_0 : decode cX6_upkeepOf 0 = .ok (.iload_n 0, 1) := by decide +kernel
theorem dX6_upkeepOf_1 : decode cX6_upkeepOf 1 = .ok (.tableswitch 46 1 6 #[39, 46, 46, 41, 43, 43], 39) := by decide +kernel
theorem dX6_upkeepOf_40 : decode cX6_upkeepOf 40 = .ok (.iconst 1, 1) := by decide +kernel
theorem dX6_upkeepOf_41 : decode cX6_upkeepOf 41 = .ok (.ireturn, 1) := by decide +kernel
theorem dX6_upkeepOf_42 : decode cX6_upkeepOf 42 = .ok (.iconst 2, 1) := by decide +kernel
theorem dX6_upkeepOf_43 : decode cX6_upkeepOf 43 = .ok (.ireturn, 1) := by decide +kernel
theorem dX6_upkeepOf_44 : decode cX6_upkeepOf 44 = .ok (.bipush 10, 2) := by decide +kernel
theorem dX6_upkeepOf_46 : decode cX6_upkeepOf 46 = .ok (.ireturn, 1) := by decide +kernel
theorem dX6_upkeepOf_47 : decode cX6_upkeepOf 47 = .ok (.iconst 0, 1) := by decide +kernel
theorem dX6_upkeepOf_48 : decode cX6_upkeepOf 48 = .ok (.ireturn, 1) := by decide +kernel
theorem dX6_neighbourOf_0 : decode cX6_neighbourOf 0 = .ok (.iload_n 1, 1) := by decide +kernel
theorem dX6_neighbourOf_1 : decode cX6_neighbourOf 1 = .ok (.tableswitch 93 0 3 #[31, 46, 61, 78], 31) := by decide +kernel
theorem dX6_neighbourOf_32 : decode cX6_neighbourOf 32 = .ok (.iload_n 0, 1) := by decide +kernel
theorem dX6_neighbourOf_33 : decode cX6_neighbourOf 33 = .ok (.bipush 8, 2) := by decide +kernel
theorem dX6_neighbourOf_35 : decode cX6_neighbourOf 35 = .ok (.if_icmp .lt 10, 3) := by decide +kernel
theorem dX6_neighbourOf_38 : decode cX6_neighbourOf 38 = .ok (.iload_n 0, 1) := by decide +kernel
theorem dX6_neighbourOf_39 : decode cX6_neighbourOf 39 = .ok (.bipush 8, 2) := by decide +kernel
theorem dX6_neighbourOf_41 : decode cX6_neighbourOf 41 = .ok (.isub, 1) := by decide +kernel
theorem dX6_neighbourOf_42 : decode cX6_neighbourOf 42 = .ok (.goto 4, 3) := by decide +kernel
theorem dX6_neighbourOf_45 : decode cX6_neighbourOf 45 = .ok (.iconst (-1), 1) := by decide +kernel
theorem dX6_neighbourOf_46 : decode cX6_neighbourOf 46 = .ok (.ireturn, 1) := by decide +kernel
theorem dX6_neighbourOf_47 : decode cX6_neighbourOf 47 = .ok (.iload_n 0, 1) := by decide +kernel
theorem dX6_neighbourOf_48 : decode cX6_neighbourOf 48 = .ok (.bipush 8, 2) := by decide +kernel
theorem dX6_neighbourOf_50 : decode cX6_neighbourOf 50 = .ok (.irem, 1) := by decide +kernel
theorem dX6_neighbourOf_51 : decode cX6_neighbourOf 51 = .ok (.ifCond .le 9, 3) := by decide +kernel
theorem dX6_neighbourOf_54 : decode cX6_neighbourOf 54 = .ok (.iload_n 0, 1) := by decide +kernel
theorem dX6_neighbourOf_55 : decode cX6_neighbourOf 55 = .ok (.iconst 1, 1) := by decide +kernel
theorem dX6_neighbourOf_56 : decode cX6_neighbourOf 56 = .ok (.isub, 1) := by decide +kernel
theorem dX6_neighbourOf_57 : decode cX6_neighbourOf 57 = .ok (.goto 4, 3) := by decide +kernel
theorem dX6_neighbourOf_60 : decode cX6_neighbourOf 60 = .ok (.iconst (-1), 1) := by decide +kernel
theorem dX6_neighbourOf_61 : decode cX6_neighbourOf 61 = .ok (.ireturn, 1) := by decide +kernel
theorem dX6_neighbourOf_62 : decode cX6_neighbourOf 62 = .ok (.iload_n 0, 1) := by decide +kernel
theorem dX6_neighbourOf_63 : decode cX6_neighbourOf 63 = .ok (.bipush 8, 2) := by decide +kernel
theorem dX6_neighbourOf_65 : decode cX6_neighbourOf 65 = .ok (.irem, 1) := by decide +kernel
theorem dX6_neighbourOf_66 : decode cX6_neighbourOf 66 = .ok (.bipush 7, 2) := by decide +kernel
theorem dX6_neighbourOf_68 : decode cX6_neighbourOf 68 = .ok (.if_icmp .ge 9, 3) := by decide +kernel
theorem dX6_neighbourOf_71 : decode cX6_neighbourOf 71 = .ok (.iload_n 0, 1) := by decide +kernel
theorem dX6_neighbourOf_72 : decode cX6_neighbourOf 72 = .ok (.iconst 1, 1) := by decide +kernel
theorem dX6_neighbourOf_73 : decode cX6_neighbourOf 73 = .ok (.iadd, 1) := by decide +kernel
theorem dX6_neighbourOf_74 : decode cX6_neighbourOf 74 = .ok (.goto 4, 3) := by decide +kernel
theorem dX6_neighbourOf_77 : decode cX6_neighbourOf 77 = .ok (.iconst (-1), 1) := by decide +kernel
theorem dX6_neighbourOf_78 : decode cX6_neighbourOf 78 = .ok (.ireturn, 1) := by decide +kernel
theorem dX6_neighbourOf_79 : decode cX6_neighbourOf 79 = .ok (.iload_n 0, 1) := by decide +kernel
theorem dX6_neighbourOf_80 : decode cX6_neighbourOf 80 = .ok (.bipush 56, 2) := by decide +kernel
theorem dX6_neighbourOf_82 : decode cX6_neighbourOf 82 = .ok (.if_icmp .ge 10, 3) := by decide +kernel
theorem dX6_neighbourOf_85 : decode cX6_neighbourOf 85 = .ok (.iload_n 0, 1) := by decide +kernel
theorem dX6_neighbourOf_86 : decode cX6_neighbourOf 86 = .ok (.bipush 8, 2) := by decide +kernel
theorem dX6_neighbourOf_88 : decode cX6_neighbourOf 88 = .ok (.iadd, 1) := by decide +kernel
theorem dX6_neighbourOf_89 : decode cX6_neighbourOf 89 = .ok (.goto 4, 3) := by decide +kernel
theorem dX6_neighbourOf_92 : decode cX6_neighbourOf 92 = .ok (.iconst (-1), 1) := by decide +kernel
theorem dX6_neighbourOf_93 : decode cX6_neighbourOf 93 = .ok (.ireturn, 1) := by decide +kernel
theorem dX6_neighbourOf_94 : decode cX6_neighbourOf 94 = .ok (.iconst (-1), 1) := by decide +kernel
theorem dX6_neighbourOf_95 : decode cX6_neighbourOf 95 = .ok (.ireturn, 1) := by decide +kernel
theorem dX6_distanceOf_0 : decode cX6_distanceOf 0 = .ok (.iload_n 0, 1) := by decide +kernel
theorem dX6_distanceOf_1 : decode cX6_distanceOf 1 = .ok (.bipush 8, 2) := by decide +kernel
theorem dX6_distanceOf_3 : decode cX6_distanceOf 3 = .ok (.idiv, 1) := by decide +kernel
theorem dX6_distanceOf_4 : decode cX6_distanceOf 4 = .ok (.iload_n 1, 1) := by decide +kernel
theorem dX6_distanceOf_5 : decode cX6_distanceOf 5 = .ok (.bipush 8, 2) := by decide +kernel
theorem dX6_distanceOf_7 : decode cX6_distanceOf 7 = .ok (.idiv, 1) := by decide +kernel
theorem dX6_distanceOf_8 : decode cX6_distanceOf 8 = .ok (.isub, 1) := by decide +kernel
theorem dX6_distanceOf_9 : decode cX6_distanceOf 9 = .ok (.invokestatic 161, 3) := by decide +kernel
theorem dX6_distanceOf_12 : decode cX6_distanceOf 12 = .ok (.iload_n 0, 1) := by decide +kernel
theorem dX6_distanceOf_13 : decode cX6_distanceOf 13 = .ok (.bipush 8, 2) := by decide +kernel
theorem dX6_distanceOf_15 : decode cX6_distanceOf 15 = .ok (.irem, 1) := by decide +kernel
theorem dX6_distanceOf_16 : decode cX6_distanceOf 16 = .ok (.iload_n 1, 1) := by decide +kernel
theorem dX6_distanceOf_17 : decode cX6_distanceOf 17 = .ok (.bipush 8, 2) := by decide +kernel
theorem dX6_distanceOf_19 : decode cX6_distanceOf 19 = .ok (.irem, 1) := by decide +kernel
theorem dX6_distanceOf_20 : decode cX6_distanceOf 20 = .ok (.isub, 1) := by decide +kernel
theorem dX6_distanceOf_21 : decode cX6_distanceOf 21 = .ok (.invokestatic 161, 3) := by decide +kernel
theorem dX6_distanceOf_24 : decode cX6_distanceOf 24 = .ok (.iadd, 1) := by decide +kernel
theorem dX6_distanceOf_25 : decode cX6_distanceOf 25 = .ok (.ireturn, 1) := by decide +kernel
set_option maxRecDepth 20000 in
theorem ggX6_survey_X3_find : GoodIn wsX6_survey wsX3_find := goodIn_r _ [9, 10, 11, 12, 13, 14, 15, 16, 17, 18, 19, 20, 21, 22, 23, 24, 25, 26, 8, 27, 28, 29, 30, 31, 32, 33, 34, 35, 36, 37, 38, 39, 40, 41, 42, 43, 44, 45, 46, 47, 48, 49, 50, 156, 157, 158, 159, 160, 161, 162, 163] (by decide +kernel) (by decide +kernel)
set_option maxRecDepth 20000 in
theorem gX6_survey_X3_find : GoodIn wsX6_survey (wsV RX6 166 RX3 yX3_find wsX3_find) := goodIn_app (goodIn_of _ (by decide +kernel)) ggX6_survey_X3_find
set_option maxRecDepth 20000 in
theorem ggX6_survey_X5_find : GoodIn wsX6_survey wsX5_find := goodIn_r _ [55, 56, 57, 58, 59, 60, 61, 62, 63, 15, 16, 17, 18, 19, 20, 21, 22, 23, 64, 65, 66, 31, 67, 33, 34, 35, 36, 37, 68, 69, 70, 8, 71, 13, 10, 50, 72, 73, 74, 54, 75, 76, 77, 78, 79, 80, 81, 82, 83, 84, 85, 86, 87, 88, 89, 90, 91, 92, 93, 94, 42, 43, 44, 164, 165, 166, 161, 162, 163, 156, 157, 158, 159, 160] (by decide +kernel) (by decide +kernel)
set_option maxRecDepth 20000 in
theorem gX6_survey_X5_find : GoodIn wsX6_survey (wsV RX6 170 RX5 yX5_find wsX5_find) := goodIn_app (goodIn_of _ (by decide +kernel)) ggX6_survey_X5_find
set_option maxRecDepth 20000 in
theorem ggX6_survey_X1_find : GoodIn wsX6_survey wsX1_find := goodIn_r _ [99, 100, 101, 102, 103, 104, 105, 106, 107, 15, 16, 17, 18, 19, 20, 21, 22, 23, 108, 109, 110, 31, 111, 88, 34, 35, 36, 37, 112, 42, 43, 44, 113, 114, 115, 8, 116, 12, 117, 118, 119, 98, 120, 121, 65, 66, 67, 33, 122, 123, 124, 125, 126, 127, 128, 61, 129, 130, 131, 132, 133, 13, 11, 50, 134, 135, 136, 137, 138, 77, 78, 79, 139, 140, 141, 142, 143, 144, 145, 146, 147, 148, 149, 150, 38, 39, 40, 167, 168, 169, 170, 171, 172, 173, 161, 162, 163, 156, 157, 158, 159, 160] (by decide +kernel) (by decide +kernel)
set_option maxRecDepth 20000 in
theorem gX6_survey_X1_find : GoodIn wsX6_survey (wsV RX6 173 RX1 yX1_find wsX1_find) := goodIn_app (goodIn_of _ (by decide +kernel)) ggX6_survey_X1_find
theorem dX6_survey_0 : decode cX6_survey 0 = .ok (.aload_n 0, 1) := by decide +kernel
theorem dX6_survey_1 : decode cX6_survey 1 = .ok (.getfield 19, 3) := by decide +kernel
theorem dX6_survey_4 : decode cX6_survey 4 = .ok (.aload_n 0, 1) := by decide +kernel
theorem dX6_survey_5 : decode cX6_survey 5 = .ok (.getfield 10, 3) := by decide +kernel
theorem dX6_survey_8 : decode cX6_survey 8 = .ok (.invokevirtual 166, 3) := by decide +kernel
theorem dX6_survey_11 : decode cX6_survey 11 = .ok (.aload_n 0, 1) := by decide +kernel
theorem dX6_survey_12 : decode cX6_survey 12 = .ok (.getfield 26, 3) := by decide +kernel
theorem dX6_survey_15 : decode cX6_survey 15 = .ok (.aload_n 0, 1) := by decide +kernel
theorem dX6_survey_16 : decode cX6_survey 16 = .ok (.getfield 10, 3) := by decide +kernel
theorem dX6_survey_19 : decode cX6_survey 19 = .ok (.aload_n 0, 1) := by decide +kernel
theorem dX6_survey_20 : decode cX6_survey 20 = .ok (.getfield 19, 3) := by decide +kernel
theorem dX6_survey_23 : decode cX6_survey 23 = .ok (.invokevirtual 170, 3) := by decide +kernel
theorem dX6_survey_26 : decode cX6_survey 26 = .ok (.aload_n 0, 1) := by decide +kernel
theorem dX6_survey_27 : decode cX6_survey 27 = .ok (.getfield 33, 3) := by decide +kernel
theorem dX6_survey_30 : decode cX6_survey 30 = .ok (.aload_n 0, 1) := by decide +kernel
theorem dX6_survey_31 : decode cX6_survey 31 = .ok (.getfield 10, 3) := by decide +kernel
theorem dX6_survey_34 : decode cX6_survey 34 = .ok (.aload_n 0, 1) := by decide +kernel
theorem dX6_survey_35 : decode cX6_survey 35 = .ok (.getfield 19, 3) := by decide +kernel
theorem dX6_survey_38 : decode cX6_survey 38 = .ok (.invokevirtual 173, 3) := by decide +kernel
theorem dX6_survey_41 : decode cX6_survey 41 = .ok (.return_, 1) := by decide +kernel
set_option maxRecDepth 20000 in
theorem ggX6_passMonth_X1_allPlaced : GoodIn wsX6_passMonth wsX1_allPlaced := goodIn_r _ [10, 11, 12, 13, 14, 15, 16, 17, 18, 211, 212, 213, 214, 215, 216, 217, 218] (by decide +kernel) (by decide +kernel)
set_option maxRecDepth 20000 in
theorem gX6_passMonth_X1_allPlaced : GoodIn wsX6_passMonth (wsV RX6 174 RX1 yX1_allPlaced wsX1_allPlaced) := goodIn_app (goodIn_of _ (by decide +kernel)) ggX6_passMonth_X1_allPlaced
set_option maxRecDepth 20000 in
theorem ggX6_passMonth_X6_upkeep : GoodIn wsX6_passMonth wsX6_upkeep := goodIn_r _ [23, 4, 24, 25, 26, 27, 28, 29, 30, 14, 15, 16, 17, 18, 31, 32, 22, 33, 206, 207, 208, 209, 210, 219, 220, 218] (by decide +kernel) (by decide +kernel)
set_option maxRecDepth 20000 in
theorem gX6_passMonth_X6_upkeep : GoodIn wsX6_passMonth (wsV RX6 177 RX6 yX6_upkeep wsX6_upkeep) := goodIn_app (goodIn_of _ (by decide +kernel)) ggX6_passMonth_X6_upkeep
set_option maxRecDepth 20000 in
theorem ggX6_passMonth_X2_closeMonth : GoodIn wsX6_passMonth wsX2_closeMonth := goodIn_r _ [38, 39, 40, 41, 42, 43, 221, 222, 223, 224, 225] (by decide +kernel) (by decide +kernel)
set_option maxRecDepth 20000 in
theorem gX6_passMonth_X2_closeMonth : GoodIn wsX6_passMonth (wsV RX6 180 RX2 yX2_closeMonth wsX2_closeMonth) := goodIn_app (goodIn_of _ (by decide +kernel)) ggX6_passMonth_X2_closeMonth
set_option maxRecDepth 20000 in
theorem ggX6_passMonth_X2_cashNow : GoodIn wsX6_passMonth wsX2_cashNow := goodIn_r _ [47, 42, 221, 222, 223, 224, 225] (by decide +kernel) (by decide +kernel)
set_option maxRecDepth 20000 in
theorem gX6_passMonth_X2_cashNow : GoodIn wsX6_passMonth (wsV RX6 79 RX2 yX2_cashNow wsX2_cashNow) := goodIn_app (goodIn_of _ (by decide +kernel)) ggX6_passMonth_X2_cashNow
set_option maxRecDepth 20000 in
theorem ggX6_passMonth_X6_changeLevels : GoodIn wsX6_passMonth wsX6_changeLevels := goodIn_r _ [51, 4, 52, 53, 54, 27, 55, 29, 30, 14, 15, 16, 17, 18, 56, 57, 58, 22, 59, 3, 2, 60, 61, 62, 63, 64, 65, 66, 67, 68, 69, 70, 71, 72, 73, 74, 75, 76, 77, 78, 79, 80, 81, 82, 9, 83, 84, 13, 24, 25, 26, 28, 85, 86, 87, 88, 5, 89, 90, 91, 92, 93, 94, 95, 96, 97, 98, 99, 100, 101, 102, 103, 104, 105, 106, 107, 108, 109, 110, 111, 112, 113, 114, 115, 116, 117, 118, 119, 120, 121, 206, 207, 208, 209, 210, 219, 220, 218, 226, 227, 228, 211, 212, 213, 214, 215, 216, 217, 229, 230, 231, 232, 233] (by decide +kernel) (by decide +kernel)
set_option maxRecDepth 20000 in
theorem gX6_passMonth_X6_changeLevels : GoodIn wsX6_passMonth (wsV RX6 183 RX6 yX6_changeLevels wsX6_changeLevels) := goodIn_app (goodIn_of _ (by decide +kernel)) ggX6_passMonth_X6_changeLevels
set_option maxRecDepth 20000 in
theorem ggX6_passMonth_X5_find : GoodIn wsX6_passMonth wsX5_find := goodIn_r _ [125, 126, 127, 70, 128, 90, 91, 92, 129, 130, 131, 16, 132, 18, 133, 134, 135, 136, 137, 25, 26, 27, 28, 29, 30, 14, 15, 17, 138, 139, 140, 105, 141, 107, 142, 108, 143, 144, 145, 68, 146, 147, 148, 149, 150, 151, 53, 54, 55, 152, 61, 62, 63, 64, 153, 154, 155, 156, 71, 157, 119, 120, 121, 226, 227, 228, 218, 219, 220, 229, 230, 231, 232, 233] (by decide +kernel) (by decide +kernel)
set_option maxRecDepth 20000 in
theorem gX6_passMonth_X5_find : GoodIn wsX6_passMonth (wsV RX6 170 RX5 yX5_find wsX5_find) := goodIn_app (goodIn_of _ (by decide +kernel)) ggX6_passMonth_X5_find
set_option maxRecDepth 20000 in
theorem ggX6_passMonth_X1_find : GoodIn wsX6_passMonth wsX1_find := goodIn_r _ [161, 84, 113, 11, 162, 163, 164, 12, 165, 130, 131, 16, 132, 18, 133, 134, 135, 136, 166, 77, 78, 27, 79, 64, 30, 14, 15, 17, 167, 119, 120, 121, 168, 169, 170, 105, 171, 172, 173, 174, 175, 9, 176, 177, 25, 26, 28, 29, 13, 178, 179, 180, 181, 182, 183, 91, 184, 185, 186, 187, 188, 107, 189, 108, 190, 191, 192, 193, 194, 148, 149, 150, 195, 103, 104, 106, 196, 197, 198, 199, 200, 201, 202, 203, 204, 22, 205, 211, 212, 213, 214, 215, 216, 217, 218, 219, 220, 229, 230, 231, 232, 233] (by decide +kernel) (by decide +kernel)
set_option maxRecDepth 20000 in
theorem gX6_passMonth_X1_find : GoodIn wsX6_passMonth (wsV RX6 173 RX1 yX1_find wsX1_find) := goodIn_app (goodIn_of _ (by decide +kernel)) ggX6_passMonth_X1_find
theorem dX6_passMonth_0 : decode cX6_passMonth 0 = .ok (.aload_n 0, 1) := by decide +kernel
theorem dX6_passMonth_1 : decode cX6_passMonth 1 = .ok (.getfield 40, 3) := by decide +kernel
theorem dX6_passMonth_4 : decode cX6_passMonth 4 = .ok (.aload_n 0, 1) := by decide +kernel
theorem dX6_passMonth_5 : decode cX6_passMonth 5 = .ok (.getfield 33, 3) := by decide +kernel
theorem dX6_passMonth_8 : decode cX6_passMonth 8 = .ok (.invokevirtual 174, 3) := by decide +kernel
theorem dX6_passMonth_11 : decode cX6_passMonth 11 = .ok (.aload_n 0, 1) := by decide +kernel
theorem dX6_passMonth_12 : decode cX6_passMonth 12 = .ok (.invokevirtual 177, 3) := by decide +kernel
theorem dX6_passMonth_15 : decode cX6_passMonth 15 = .ok (.invokevirtual 180, 3) := by decide +kernel
theorem dX6_passMonth_18 : decode cX6_passMonth 18 = .ok (.aload_n 0, 1) := by decide +kernel
theorem dX6_passMonth_19 : decode cX6_passMonth 19 = .ok (.aload_n 0, 1) := by decide +kernel
theorem dX6_passMonth_20 : decode cX6_passMonth 20 = .ok (.getfield 40, 3) := by decide +kernel
theorem dX6_passMonth_23 : decode cX6_passMonth 23 = .ok (.invokevirtual 79, 3) := by decide +kernel
theorem dX6_passMonth_26 : decode cX6_passMonth 26 = .ok (.ifCond .lt 7, 3) := by decide +kernel
theorem dX6_passMonth_29 : decode cX6_passMonth 29 = .ok (.iconst 1, 1) := by decide +kernel
theorem dX6_passMonth_30 : decode cX6_passMonth 30 = .ok (.goto 4, 3) := by decide +kernel
theorem dX6_passMonth_33 : decode cX6_passMonth 33 = .ok (.iconst 0, 1) := by decide +kernel
theorem dX6_passMonth_34 : decode cX6_passMonth 34 = .ok (.invokevirtual 183, 3) := by decide +kernel
theorem dX6_passMonth_37 : decode cX6_passMonth 37 = .ok (.aload_n 0, 1) := by decide +kernel
theorem dX6_passMonth_38 : decode cX6_passMonth 38 = .ok (.getfield 26, 3) := by decide +kernel
theorem dX6_passMonth_41 : decode cX6_passMonth 41 = .ok (.aload_n 0, 1) := by decide +kernel
theorem dX6_passMonth_42 : decode cX6_passMonth 42 = .ok (.getfield 10, 3) := by decide +kernel
theorem dX6_passMonth_45 : decode cX6_passMonth 45 = .ok (.aload_n 0, 1) := by decide +kernel
theorem dX6_passMonth_46 : decode cX6_passMonth 46 = .ok (.getfield 19, 3) := by decide +kernel
theorem dX6_passMonth_49 : decode cX6_passMonth 49 = .ok (.invokevirtual 170, 3) := by decide +kernel
theorem dX6_passMonth_52 : decode cX6_passMonth 52 = .ok (.aload_n 0, 1) := by decide +kernel
theorem dX6_passMonth_53 : decode cX6_passMonth 53 = .ok (.getfield 33, 3) := by decide +kernel
theorem dX6_passMonth_56 : decode cX6_passMonth 56 = .ok (.aload_n 0, 1) := by decide +kernel
theorem dX6_passMonth_57 : decode cX6_passMonth 57 = .ok (.getfield 10, 3) := by decide +kernel
theorem dX6_passMonth_60 : decode cX6_passMonth 60 = .ok (.aload_n 0, 1) := by decide +kernel
theorem dX6_passMonth_61 : decode cX6_passMonth 61 = .ok (.getfield 19, 3) := by decide +kernel
theorem dX6_passMonth_64 : decode cX6_passMonth 64 = .ok (.invokevirtual 173, 3) := by decide +kernel
theorem dX6_passMonth_67 : decode cX6_passMonth 67 = .ok (.return_, 1) := by decide +kernel
set_option maxRecDepth 20000 in
theorem ggX6_upkeep_X0_kindOf : GoodIn wsX6_upkeep wsX0_kindOf := goodIn_r _ [6, 7, 8, 9, 10, 11, 12, 13, 23, 24, 25] (by decide +kernel) (by decide +kernel)
set_option maxRecDepth 20000 in
theorem gX6_upkeep_X0_kindOf : GoodIn wsX6_upkeep (wsV RX6 52 RX0 yX0_kindOf wsX0_kindOf) := goodIn_app (goodIn_of _ (by decide +kernel)) ggX6_upkeep_X0_kindOf
set_option maxRecDepth 20000 in
theorem ggX6_upkeep_X6_upkeepOf : GoodIn wsX6_upkeep wsX6_upkeepOf := goodIn_r _ [17] (by decide +kernel) (by decide +kernel)
set_option maxRecDepth 20000 in
theorem gX6_upkeep_X6_upkeepOf : GoodIn wsX6_upkeep (va_wsS RX6 187 yX6_upkeepOf wsX6_upkeepOf) := goodIn_app (goodIn_of _ (by decide +kernel)) ggX6_upkeep_X6_upkeepOf
theorem dX6_upkeep_0 : decode cX6_upkeep 0 = .ok (.iconst 0, 1) := by decide +kernel
theorem dX6_upkeep_1 : decode cX6_upkeep 1 = .ok (.istore_n 1, 1) := by decide +kernel
theorem dX6_upkeep_2 : decode cX6_upkeep 2 = .ok (.iconst 0, 1) := by decide +kernel
theorem dX6_upkeep_3 : decode cX6_upkeep 3 = .ok (.istore_n 2, 1) := by decide +kernel
theorem dX6_upkeep_4 : decode cX6_upkeep 4 = .ok (.iload_n 2, 1) := by decide +kernel
theorem dX6_upkeep_5 : decode cX6_upkeep 5 = .ok (.bipush 64, 2) := by decide +kernel
theorem dX6_upkeep_7 : decode cX6_upkeep 7 = .ok (.if_icmp .ge 23, 3) := by decide +kernel
theorem dX6_upkeep_10 : decode cX6_upkeep 10 = .ok (.iload_n 1, 1) := by decide +kernel
theorem dX6_upkeep_11 : decode cX6_upkeep 11 = .ok (.aload_n 0, 1) := by decide +kernel
theorem dX6_upkeep_12 : decode cX6_upkeep 12 = .ok (.getfield 10, 3) := by decide +kernel
theorem dX6_upkeep_15 : decode cX6_upkeep 15 = .ok (.iload_n 2, 1) := by decide +kernel
theorem dX6_upkeep_16 : decode cX6_upkeep 16 = .ok (.invokevirtual 52, 3) := by decide +kernel
theorem dX6_upkeep_19 : decode cX6_upkeep 19 = .ok (.invokestatic 187, 3) := by decide +kernel
theorem dX6_upkeep_22 : decode cX6_upkeep 22 = .ok (.iadd, 1) := by decide +kernel
theorem dX6_upkeep_23 : decode cX6_upkeep 23 = .ok (.istore_n 1, 1) := by decide +kernel
theorem dX6_upkeep_24 : decode cX6_upkeep 24 = .ok (.iinc 2 1, 3) := by decide +kernel
theorem dX6_upkeep_27 : decode cX6_upkeep 27 = .ok (.goto (-23), 3) := by decide +kernel
theorem dX6_upkeep_30 : decode cX6_upkeep 30 = .ok (.iload_n 1, 1) := by decide +kernel
theorem dX6_upkeep_31 : decode cX6_upkeep 31 = .ok (.ireturn, 1) := by decide +kernel
set_option maxRecDepth 20000 in
theorem ggX6_changeLevels_X0_isZone : GoodIn wsX6_changeLevels wsX0_isZone := goodIn_r _ [6, 7, 8, 9, 10, 11, 12, 13, 95, 96, 97] (by decide +kernel) (by decide +kernel)
set_option maxRecDepth 20000 in
theorem gX6_changeLevels_X0_isZone : GoodIn wsX6_changeLevels (wsV RX6 190 RX0 yX0_isZone wsX0_isZone) := goodIn_app (goodIn_of _ (by decide +kernel)) ggX6_changeLevels_X0_isZone
set_option maxRecDepth 20000 in
theorem ggX6_changeLevels_X6_nextLevel : GoodIn wsX6_changeLevels wsX6_nextLevel := goodIn_r _ [18, 1, 19, 20, 21, 22, 23, 5, 24, 25, 8, 9, 10, 11, 12, 13, 26, 27, 28, 29, 30, 31, 32, 33, 34, 35, 17, 36, 37, 38, 39, 40, 41, 42, 43, 44, 45, 46, 47, 48, 49, 50, 51, 7, 52, 53, 54, 55, 56, 57, 58, 59, 60, 61, 62, 63, 64, 65, 66, 67, 68, 69, 70, 71, 72, 73, 74, 75, 76, 77, 78, 79, 80, 81, 90, 91, 92, 93, 94, 95, 96, 97, 98, 99, 100, 101, 102, 103, 104, 105, 106, 107, 108, 109, 110, 111, 112] (by decide +kernel) (by decide +kernel)
set_option maxRecDepth 20000 in
theorem gX6_changeLevels_X6_nextLevel : GoodIn wsX6_changeLevels (wsV RX6 193 RX6 yX6_nextLevel wsX6_nextLevel) := goodIn_app (goodIn_of _ (by decide +kernel)) ggX6_changeLevels_X6_nextLevel
set_option maxRecDepth 20000 in
theorem ggX6_changeLevels_X0_changeLevel : GoodIn wsX6_changeLevels wsX0_changeLevel := goodIn_r _ [85, 25, 86, 87, 88, 11, 89, 13, 95, 96, 97] (by decide +kernel) (by decide +kernel)
set_option maxRecDepth 20000 in
theorem gX6_changeLevels_X0_changeLevel : GoodIn wsX6_changeLevels (wsV RX6 197 RX0 yX0_changeLevel wsX0_changeLevel) := goodIn_app (goodIn_of _ (by decide +kernel)) ggX6_changeLevels_X0_changeLevel
theorem dX6_changeLevels_0 : decode cX6_changeLevels 0 = .ok (.iconst 0, 1) := by decide +kernel
theorem dX6_changeLevels_1 : decode cX6_changeLevels 1 = .ok (.istore_n 2, 1) := by decide +kernel
theorem dX6_changeLevels_2 : decode cX6_changeLevels 2 = .ok (.iload_n 2, 1) := by decide +kernel
theorem dX6_changeLevels_3 : decode cX6_changeLevels 3 = .ok (.bipush 64, 2) := by decide +kernel
theorem dX6_changeLevels_5 : decode cX6_changeLevels 5 = .ok (.if_icmp .ge 34, 3) := by decide +kernel
theorem dX6_changeLevels_8 : decode cX6_changeLevels 8 = .ok (.aload_n 0, 1) := by decide +kernel
theorem dX6_changeLevels_9 : decode cX6_changeLevels 9 = .ok (.getfield 10, 3) := by decide +kernel
theorem dX6_changeLevels_12 : decode cX6_changeLevels 12 = .ok (.iload_n 2, 1) := by decide +kernel
theorem dX6_changeLevels_13 : decode cX6_changeLevels 13 = .ok (.invokevirtual 190, 3) := by decide +kernel
theorem dX6_changeLevels_16 : decode cX6_changeLevels 16 = .ok (.ifCond .eq 17, 3) := by decide +kernel
theorem dX6_changeLevels_19 : decode cX6_changeLevels 19 = .ok (.aload_n 0, 1) := by decide +kernel
theorem dX6_changeLevels_20 : decode cX6_changeLevels 20 = .ok (.getfield 10, 3) := by decide +kernel
theorem dX6_changeLevels_23 : decode cX6_changeLevels 23 = .ok (.iload_n 2, 1) := by decide +kernel
theorem dX6_changeLevels_24 : decode cX6_changeLevels 24 = .ok (.aload_n 0, 1) := by decide +kernel
theorem dX6_changeLevels_25 : decode cX6_changeLevels 25 = .ok (.iload_n 2, 1) := by decide +kernel
theorem dX6_changeLevels_26 : decode cX6_changeLevels 26 = .ok (.iload_n 1, 1) := by decide +kernel
theorem dX6_changeLevels_27 : decode cX6_changeLevels 27 = .ok (.invokevirtual 193, 3) := by decide +kernel
theorem dX6_changeLevels_30 : decode cX6_changeLevels 30 = .ok (.invokevirtual 197, 3) := by decide +kernel
theorem dX6_changeLevels_33 : decode cX6_changeLevels 33 = .ok (.iinc 2 1, 3) := by decide +kernel
theorem dX6_changeLevels_36 : decode cX6_changeLevels 36 = .ok (.goto (-34), 3) := by decide +kernel
theorem dX6_changeLevels_39 : decode cX6_changeLevels 39 = .ok (.return_, 1) := by decide +kernel
set_option maxRecDepth 20000 in
theorem ggX6_nextLevel_X0_levelOf : GoodIn wsX6_nextLevel wsX0_levelOf := goodIn_r _ [8, 9, 10, 11, 12, 13, 14, 15, 79, 80, 81] (by decide +kernel) (by decide +kernel)
set_option maxRecDepth 20000 in
theorem gX6_nextLevel_X0_levelOf : GoodIn wsX6_nextLevel (wsV RX6 105 RX0 yX0_levelOf wsX0_levelOf) := goodIn_app (goodIn_of _ (by decide +kernel)) ggX6_nextLevel_X0_levelOf
set_option maxRecDepth 20000 in
theorem ggX6_nextLevel_X5_serves : GoodIn wsX6_nextLevel wsX5_serves := goodIn_r _ [20, 21, 22, 11, 12, 13, 14, 15, 82, 83, 84, 81] (by decide +kernel) (by decide +kernel)
set_option maxRecDepth 20000 in
theorem gX6_nextLevel_X5_serves : GoodIn wsX6_nextLevel (wsV RX6 133 RX5 yX5_serves wsX5_serves) := goodIn_app (goodIn_of _ (by decide +kernel)) ggX6_nextLevel_X5_serves
set_option maxRecDepth 20000 in
theorem ggX6_nextLevel_X6_lacksPeople : GoodIn wsX6_nextLevel wsX6_lacksPeople := goodIn_r _ [27, 1, 3, 28, 29, 30, 7, 31, 9, 10, 11, 12, 13, 14, 15, 32, 33, 34, 35, 36, 37, 38, 39, 40, 41, 42, 43, 74, 75, 76, 77, 78, 79, 80, 81, 85, 86, 87, 88, 89, 90, 91] (by decide +kernel) (by decide +kernel)
set_option maxRecDepth 20000 in
theorem gX6_nextLevel_X6_lacksPeople : GoodIn wsX6_nextLevel (wsV RX6 200 RX6 yX6_lacksPeople wsX6_lacksPeople) := goodIn_app (goodIn_of _ (by decide +kernel)) ggX6_nextLevel_X6_lacksPeople
set_option maxRecDepth 20000 in
theorem ggX6_nextLevel_X1_placedAt : GoodIn wsX6_nextLevel wsX1_placedAt := goodIn_r _ [36, 37, 38, 11, 12, 13, 14, 15, 85, 86, 87, 88, 89, 90, 91, 81] (by decide +kernel) (by decide +kernel)
set_option maxRecDepth 20000 in
theorem gX6_nextLevel_X1_placedAt : GoodIn wsX6_nextLevel (wsV RX6 137 RX1 yX1_placedAt wsX1_placedAt) := goodIn_app (goodIn_of _ (by decide +kernel)) ggX6_nextLevel_X1_placedAt
set_option maxRecDepth 20000 in
theorem ggX6_nextLevel_X0_peopleOf : GoodIn wsX6_nextLevel wsX0_peopleOf := goodIn_r _ [31, 9, 10, 11, 12, 13, 14, 15, 79, 80, 81] (by decide +kernel) (by decide +kernel)
set_option maxRecDepth 20000 in
theorem gX6_nextLevel_X0_peopleOf : GoodIn wsX6_nextLevel (wsV RX6 203 RX0 yX0_peopleOf wsX0_peopleOf) := goodIn_app (goodIn_of _ (by decide +kernel)) ggX6_nextLevel_X0_peopleOf
set_option maxRecDepth 20000 in
theorem ggX6_nextLevel_X6_valueOf : GoodIn wsX6_nextLevel wsX6_valueOf := goodIn_r _ [47, 1, 48, 3, 49, 50, 51, 52, 53, 54, 55, 7, 56, 43, 10, 11, 12, 13, 14, 15, 57, 26, 58, 59, 60, 61, 62, 63, 64, 65, 66, 67, 68, 69, 70, 71, 35, 72, 73, 38, 74, 75, 76, 77, 78, 79, 80, 81, 92, 93, 94, 95, 96, 85, 86, 87, 88, 89, 90, 91] (by decide +kernel) (by decide +kernel)
set_option maxRecDepth 20000 in
theorem gX6_nextLevel_X6_valueOf : GoodIn wsX6_nextLevel (wsV RX6 143 RX6 yX6_valueOf wsX6_valueOf) := goodIn_app (goodIn_of _ (by decide +kernel)) ggX6_nextLevel_X6_valueOf
theorem dX6_nextLevel_0 : decode cX6_nextLevel 0 = .ok (.aload_n 0, 1) := by decide +kernel
theorem dX6_nextLevel_1 : decode cX6_nextLevel 1 = .ok (.getfield 10, 3) := by decide +kernel
theorem dX6_nextLevel_4 : decode cX6_nextLevel 4 = .ok (.iload_n 1, 1) := by decide +kernel
theorem dX6_nextLevel_5 : decode cX6_nextLevel 5 = .ok (.invokevirtual 105, 3) := by decide +kernel
