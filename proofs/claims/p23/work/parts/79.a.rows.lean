theorem dL_part_0 : decode cL_part 0 = .ok (.iload_n 1, 1) := by decide +kernel
theorem dL_part_1 : decode cL_part 1 = .ok (.aload_n 0, 1) := by decide +kernel
theorem dL_part_2 : decode cL_part 2 = .ok (.arraylength, 1) := by decide +kernel
theorem dL_part_3 : decode cL_part 3 = .ok (.if_icmp .ge 9, 3) := by decide +kernel
theorem dL_part_6 : decode cL_part 6 = .ok (.aload_n 0, 1) := by decide +kernel
theorem dL_part_7 : decode cL_part 7 = .ok (.iload_n 1, 1) := by decide +kernel
theorem dL_part_8 : decode cL_part 8 = .ok (.iaload, 1) := by decide +kernel
theorem dL_part_9 : decode cL_part 9 = .ok (.goto 16, 3) := by decide +kernel
theorem dL_part_12 : decode cL_part 12 = .ok (.sipush 421, 3) := by decide +kernel
theorem dL_part_15 : decode cL_part 15 = .ok (.iload_n 1, 1) := by decide +kernel
theorem dL_part_16 : decode cL_part 16 = .ok (.imul, 1) := by decide +kernel
theorem dL_part_17 : decode cL_part 17 = .ok (.sipush 281, 3) := by decide +kernel
theorem dL_part_20 : decode cL_part 20 = .ok (.iload_n 1, 1) := by decide +kernel
theorem dL_part_21 : decode cL_part 21 = .ok (.imul, 1) := by decide +kernel
theorem dL_part_22 : decode cL_part 22 = .ok (.iload_n 1, 1) := by decide +kernel
theorem dL_part_23 : decode cL_part 23 = .ok (.imul, 1) := by decide +kernel
theorem dL_part_24 : decode cL_part 24 = .ok (.iadd, 1) := by decide +kernel
theorem dL_part_25 : decode cL_part 25 = .ok (.istore_n 3, 1) := by decide +kernel
theorem dL_part_26 : decode cL_part 26 = .ok (.iload_n 3, 1) := by decide +kernel
theorem dL_part_27 : decode cL_part 27 = .ok (.ldc 7, 2) := by decide +kernel
theorem dL_part_29 : decode cL_part 29 = .ok (.iand, 1) := by decide +kernel
theorem dL_part_30 : decode cL_part 30 = .ok (.iload_n 2, 1) := by decide +kernel
theorem dL_part_31 : decode cL_part 31 = .ok (.irem, 1) := by decide +kernel
theorem dL_part_32 : decode cL_part 32 = .ok (.ireturn, 1) := by decide +kernel
set_option maxRecDepth 20000 in
theorem ggL_does_X6_build : GoodIn wsL_does wsX6_build := goodIn_ca (goodIn_ca (goodIn_ca (goodIn_r _ [11, 12, 13, 14, 15, 16, 17, 10, 18, 19, 20, 21, 22, 23, 24, 25, 26, 27, 28, 29, 30, 31, 32, 33, 34, 35, 36, 37, 38, 39, 40, 41, 42, 43, 44, 45, 46, 47, 48, 49, 50, 51, 52, 53, 54, 55, 56, 57, 58, 59, 60, 61, 62, 63, 64, 65, 66, 67, 68, 69, 70, 71, 72, 73, 74, 75, 76, 77, 78, 79, 80, 81, 82, 83, 84, 85, 86, 87, 88, 89, 90, 91, 92, 93, 94, 95, 96, 97, 98, 99, 100, 101, 102, 103, 104, 105, 106, 107, 108, 109, 110, 111, 112, 113, 114, 115, 116, 117, 118, 119, 120, 121, 122, 123, 124, 125, 126, 127, 128, 129, 130, 131, 132, 133, 134, 135, 136, 137, 138, 139, 140, 141, 142, 143, 144, 145, 146, 147, 148, 149, 150, 151, 152, 153, 154, 155, 156, 157, 158, 159, 160, 161, 162, 163, 164, 165, 166, 167, 168, 169, 170, 171, 172, 173, 174, 175, 176, 177, 178, 179, 180, 181, 182, 183, 184, 185, 186, 187, 188, 189, 190, 191, 192, 193, 194, 195, 196, 197, 198, 199, 200, 302, 303, 304, 305, 306, 307, 308, 309, 310, 311, 312, 313, 314, 315, 316, 317, 318, 319, 320, 321, 322, 323, 324, 325, 326, 327, 328, 329] (by decide +kernel) (by decide +kernel)) (goodIn_sub (fun _ h => List.mem_cons_of_mem _ (List.mem_append_left _ (List.mem_append_left _ (List.mem_append_right _ h)))) (by decide +kernel))) (goodIn_sub (fun _ h => List.mem_cons_of_mem _ (List.mem_append_left _ (List.mem_append_right _ h))) (by decide +kernel))) (goodIn_sub (fun _ h => List.mem_cons_of_mem _ (List.mem_append_right _ h)) (by decide +kernel))
set_option maxRecDepth 20000 in
theorem gL_does_X6_build : GoodIn wsL_does (wsV RL 8 RX6 yX6_build wsX6_build) := goodIn_app (goodIn_of _ (by decide +kernel)) ggL_does_X6_build
set_option maxRecDepth 20000 in
theorem ggL_does_X6_tear : GoodIn wsL_does wsX6_tear := goodIn_ca (goodIn_ca (goodIn_r _ [204, 12, 13, 14, 15, 16, 17, 10, 18, 19, 20, 26, 27, 28, 29, 30, 31, 32, 33, 34, 35, 36, 37, 41, 42, 43, 44, 45, 46, 47, 48, 49, 50, 51, 52, 53, 54, 55, 56, 57, 58, 59, 60, 61, 62, 63, 64, 65, 66, 67, 68, 69, 70, 71, 72, 73, 74, 75, 76, 77, 78, 79, 80, 81, 82, 83, 84, 85, 86, 87, 88, 89, 90, 91, 92, 93, 94, 95, 96, 97, 98, 99, 100, 101, 102, 103, 104, 105, 106, 107, 108, 109, 110, 111, 112, 113, 114, 115, 116, 117, 118, 119, 120, 121, 122, 123, 124, 125, 126, 127, 128, 129, 130, 131, 132, 133, 134, 135, 136, 137, 138, 139, 140, 141, 142, 143, 144, 145, 146, 147, 148, 149, 150, 151, 152, 153, 154, 155, 156, 157, 158, 159, 160, 161, 162, 163, 164, 165, 166, 167, 168, 169, 170, 171, 172, 173, 174, 175, 176, 177, 178, 179, 180, 181, 182, 183, 184, 185, 186, 187, 188, 189, 190, 191, 192, 193, 194, 195, 196, 197, 198, 199, 200, 302, 303, 304, 305, 306, 307, 308, 309, 310, 311, 312, 313, 314, 315, 316, 317, 318, 319, 320, 321, 322, 323, 324, 325, 326, 327, 328, 329] (by decide +kernel) (by decide +kernel)) (goodIn_sub (fun _ h => List.mem_cons_of_mem _ (List.mem_append_left _ (List.mem_append_left _ (List.mem_append_right _ h)))) (by decide +kernel))) (goodIn_sub (fun _ h => List.mem_cons_of_mem _ (List.mem_append_left _ (List.mem_append_right _ h))) (by decide +kernel))
set_option maxRecDepth 20000 in
theorem gL_does_X6_tear : GoodIn wsL_does (wsV RL 14 RX6 yX6_tear wsX6_tear) := goodIn_app (goodIn_of _ (by decide +kernel)) ggL_does_X6_tear
set_option maxRecDepth 20000 in
theorem ggL_does_X6_setTax : GoodIn wsL_does wsX6_setTax := goodIn_ca (goodIn_r _ [208, 15, 21, 22, 10, 23, 24, 25, 209, 210, 211, 48, 212, 213, 214, 302, 303, 304, 305, 306, 310, 311, 312, 313, 314] (by decide +kernel) (by decide +kernel)) (goodIn_sub (fun _ h => List.mem_cons_of_mem _ (List.mem_append_right _ h)) (by decide +kernel))
set_option maxRecDepth 20000 in
theorem gL_does_X6_setTax : GoodIn wsL_does (wsV RL 18 RX6 yX6_setTax wsX6_setTax) := goodIn_app (goodIn_of _ (by decide +kernel)) ggL_does_X6_setTax
set_option maxRecDepth 20000 in
theorem ggL_does_X6_borrow : GoodIn wsL_does wsX6_borrow := goodIn_ca (goodIn_ca (goodIn_r _ [218, 12, 13, 15, 21, 22, 10, 23, 24, 25, 219, 220, 221, 48, 222, 223, 224, 225, 226, 227, 50, 302, 303, 304, 305, 306, 310, 311, 312, 313, 314] (by decide +kernel) (by decide +kernel)) (goodIn_sub (fun _ h => List.mem_cons_of_mem _ (List.mem_append_left _ (List.mem_append_left _ (List.mem_append_right _ h)))) (by decide +kernel))) (goodIn_sub (fun _ h => List.mem_cons_of_mem _ (List.mem_append_right _ h)) (by decide +kernel))
set_option maxRecDepth 20000 in
theorem gL_does_X6_borrow : GoodIn wsL_does (wsV RL 22 RX6 yX6_borrow wsX6_borrow) := goodIn_app (goodIn_of _ (by decide +kernel)) ggL_does_X6_borrow
set_option maxRecDepth 20000 in
theorem ggL_does_X6_repay : GoodIn wsL_does wsX6_repay := goodIn_ca (goodIn_ca (goodIn_r _ [231, 12, 13, 15, 21, 22, 10, 23, 24, 25, 219, 220, 221, 48, 222, 223, 41, 42, 43, 44, 45, 46, 47, 49, 50, 224, 225, 226, 227, 302, 303, 304, 305, 306, 310, 311, 312, 313, 314] (by decide +kernel) (by decide +kernel)) (goodIn_sub (fun _ h => List.mem_cons_of_mem _ (List.mem_append_left _ (List.mem_append_left _ (List.mem_append_right _ h)))) (by decide +kernel))) (goodIn_sub (fun _ h => List.mem_cons_of_mem _ (List.mem_append_right _ h)) (by decide +kernel))
set_option maxRecDepth 20000 in
theorem gL_does_X6_repay : GoodIn wsL_does (wsV RL 25 RX6 yX6_repay wsX6_repay) := goodIn_app (goodIn_of _ (by decide +kernel)) ggL_does_X6_repay
set_option maxRecDepth 20000 in
theorem ggL_does_X6_pass : GoodIn wsL_does wsX6_pass := goodIn_ca (goodIn_r _ [235, 15, 21, 22, 10, 23, 24, 25, 45, 46, 47, 48, 49, 50, 236, 237, 238, 239, 70, 69, 14, 68, 240, 241, 242, 148, 243, 152, 156, 172, 33, 34, 35, 36, 37, 244, 245, 246, 247, 26, 27, 28, 29, 30, 31, 32, 248, 249, 250, 251, 252, 253, 254, 214, 213, 223, 255, 256, 257, 258, 259, 260, 132, 133, 134, 261, 262, 263, 264, 265, 136, 137, 138, 59, 266, 267, 268, 108, 269, 112, 143, 270, 271, 272, 273, 274, 159, 160, 161, 275, 276, 277, 278, 150, 279, 280, 281, 282, 283, 114, 115, 116, 284, 285, 286, 287, 288, 289, 290, 291, 292, 293, 190, 191, 74, 192, 79, 104, 294, 295, 296, 297, 151, 298, 299, 300, 301, 60, 61, 62, 63, 105, 106, 107, 109, 110, 111, 113, 117, 81, 82, 83, 84, 85, 86, 87, 118, 119, 120, 121, 122, 76, 123, 124, 125, 126, 127, 128, 129, 130, 131, 135, 139, 140, 141, 142, 144, 145, 146, 147, 149, 153, 154, 155, 157, 158, 162, 163, 164, 165, 166, 78, 167, 168, 169, 170, 171, 173, 174, 175, 176, 177, 178, 179, 180, 181, 182, 183, 77, 184, 185, 186, 187, 188, 189, 193, 194, 195, 196, 197, 198, 199, 200, 96, 97, 302, 303, 304, 305, 306, 310, 311, 312, 313, 314, 323, 324, 325, 326, 327, 328, 329, 309, 307, 308, 320, 321, 322, 315, 316, 317, 318, 319] (by decide +kernel) (by decide +kernel)) (goodIn_sub (fun _ h => List.mem_cons_of_mem _ (List.mem_append_right _ h)) (by decide +kernel))
set_option maxRecDepth 20000 in
theorem gL_does_X6_pass : GoodIn wsL_does (wsV RL 28 RX6 yX6_pass wsX6_pass) := goodIn_app (goodIn_of _ (by decide +kernel)) ggL_does_X6_pass
theorem dL_does_0 : decode cL_does 0 = .ok (.iload_n 1, 1) := by decide +kernel
theorem dL_does_1 : decode cL_does 1 = .ok (.ifCond .ne 12, 3) := by decide +kernel
theorem dL_does_4 : decode cL_does 4 = .ok (.aload_n 0, 1) := by decide +kernel
theorem dL_does_5 : decode cL_does 5 = .ok (.iload_n 2, 1) := by decide +kernel
theorem dL_does_6 : decode cL_does 6 = .ok (.iload_n 3, 1) := by decide +kernel
theorem dL_does_7 : decode cL_does 7 = .ok (.invokevirtual 8, 3) := by decide +kernel
theorem dL_does_10 : decode cL_does 10 = .ok (.goto 70, 3) := by decide +kernel
theorem dL_does_13 : decode cL_does 13 = .ok (.iload_n 1, 1) := by decide +kernel
theorem dL_does_14 : decode cL_does 14 = .ok (.iconst 1, 1) := by decide +kernel
theorem dL_does_15 : decode cL_does 15 = .ok (.if_icmp .ne 11, 3) := by decide +kernel
theorem dL_does_18 : decode cL_does 18 = .ok (.aload_n 0, 1) := by decide +kernel
theorem dL_does_19 : decode cL_does 19 = .ok (.iload_n 2, 1) := by decide +kernel
theorem dL_does_20 : decode cL_does 20 = .ok (.invokevirtual 14, 3) := by decide +kernel
theorem dL_does_23 : decode cL_does 23 = .ok (.goto 57, 3) := by decide +kernel
theorem dL_does_26 : decode cL_does 26 = .ok (.iload_n 1, 1) := by decide +kernel
theorem dL_does_27 : decode cL_does 27 = .ok (.iconst 2, 1) := by decide +kernel
theorem dL_does_28 : decode cL_does 28 = .ok (.if_icmp .ne 21, 3) := by decide +kernel
theorem dL_does_31 : decode cL_does 31 = .ok (.aload_n 0, 1) := by decide +kernel
theorem dL_does_32 : decode cL_does 32 = .ok (.iload_n 3, 1) := by decide +kernel
theorem dL_does_33 : decode cL_does 33 = .ok (.iconst 1, 1) := by decide +kernel
theorem dL_does_34 : decode cL_does 34 = .ok (.if_icmp .ne 7, 3) := by decide +kernel
theorem dL_does_37 : decode cL_does 37 = .ok (.iconst 1, 1) := by decide +kernel
theorem dL_does_38 : decode cL_does 38 = .ok (.goto 4, 3) := by decide +kernel
theorem dL_does_41 : decode cL_does 41 = .ok (.iconst 0, 1) := by decide +kernel
theorem dL_does_42 : decode cL_does 42 = .ok (.iload_n 2, 1) := by decide +kernel
theorem dL_does_43 : decode cL_does 43 = .ok (.invokevirtual 18, 3) := by decide +kernel
theorem dL_does_46 : decode cL_does 46 = .ok (.goto 34, 3) := by decide +kernel
theorem dL_does_49 : decode cL_does 49 = .ok (.iload_n 1, 1) := by decide +kernel
theorem dL_does_50 : decode cL_does 50 = .ok (.iconst 3, 1) := by decide +kernel
theorem dL_does_51 : decode cL_does 51 = .ok (.if_icmp .ne 11, 3) := by decide +kernel
theorem dL_does_54 : decode cL_does 54 = .ok (.aload_n 0, 1) := by decide +kernel
theorem dL_does_55 : decode cL_does 55 = .ok (.iload_n 2, 1) := by decide +kernel
theorem dL_does_56 : decode cL_does 56 = .ok (.invokevirtual 22, 3) := by decide +kernel
theorem dL_does_59 : decode cL_does 59 = .ok (.goto 21, 3) := by decide +kernel
theorem dL_does_62 : decode cL_does 62 = .ok (.iload_n 1, 1) := by decide +kernel
theorem dL_does_63 : decode cL_does 63 = .ok (.iconst 4, 1) := by decide +kernel
theorem dL_does_64 : decode cL_does 64 = .ok (.if_icmp .ne 11, 3) := by decide +kernel
theorem dL_does_67 : decode cL_does 67 = .ok (.aload_n 0, 1) := by decide +kernel
theorem dL_does_68 : decode cL_does 68 = .ok (.iload_n 2, 1) := by decide +kernel
theorem dL_does_69 : decode cL_does 69 = .ok (.invokevirtual 25, 3) := by decide +kernel
theorem dL_does_72 : decode cL_does 72 = .ok (.goto 8, 3) := by decide +kernel
theorem dL_does_75 : decode cL_does 75 = .ok (.aload_n 0, 1) := by decide +kernel
theorem dL_does_76 : decode cL_does 76 = .ok (.iload_n 2, 1) := by decide +kernel
theorem dL_does_77 : decode cL_does 77 = .ok (.invokevirtual 28, 3) := by decide +kernel
theorem dL_does_80 : decode cL_does 80 = .ok (.ireturn, 1) := by decide +kernel
theorem dL_does_81 : decode cL_does 81 = .ok (.astore 4, 2) := by decide +kernel
theorem dL_does_83 : decode cL_does 83 = .ok (.ldc 33, 2) := by decide +kernel
theorem dL_does_85 : decode cL_does 85 = .ok (.ireturn, 1) := by decide +kernel
theorem dL_does_86 : decode cL_does 86 = .ok (.astore 4, 2) := by decide +kernel
theorem dL_does_88 : decode cL_does 88 = .ok (.ldc 36, 2) := by decide +kernel
theorem dL_does_90 : decode cL_does 90 = .ok (.ireturn, 1) := by decide +kernel
theorem dL_does_91 : decode cL_does 91 = .ok (.astore 4, 2) := by decide +kernel
theorem dL_does_93 : decode cL_does 93 = .ok (.ldc 39, 2) := by decide +kernel
theorem dL_does_95 : decode cL_does 95 = .ok (.ireturn, 1) := by decide +kernel
set_option maxRecDepth 20000 in
theorem ggL_asks_X6_kind : GoodIn wsL_asks wsX6_kind := goodIn_ca (goodIn_r _ [7, 8, 9, 10, 6, 11, 12, 13, 14, 15, 16, 17, 18, 19, 20, 21, 22, 23, 24, 25, 385, 386, 387, 388, 389, 390, 391, 392] (by decide +kernel) (by decide +kernel)) (goodIn_sub (fun _ h => List.mem_cons_of_mem _ (List.mem_append_right _ h)) (by decide +kernel))
set_option maxRecDepth 20000 in
theorem gL_asks_X6_kind : GoodIn wsL_asks (wsV RL 40 RX6 yX6_kind wsX6_kind) := goodIn_app (goodIn_of _ (by decide +kernel)) ggL_asks_X6_kind
set_option maxRecDepth 20000 in
theorem ggL_asks_X6_level : GoodIn wsL_asks wsX6_level := goodIn_ca (goodIn_r _ [29, 8, 9, 10, 6, 11, 12, 13, 30, 31, 32, 17, 33, 34, 20, 21, 22, 23, 24, 25, 385, 386, 387, 388, 389, 390, 391, 392] (by decide +kernel) (by decide +kernel)) (goodIn_sub (fun _ h => List.mem_cons_of_mem _ (List.mem_append_right _ h)) (by decide +kernel))
set_option maxRecDepth 20000 in
theorem gL_asks_X6_level : GoodIn wsL_asks (wsV RL 43 RX6 yX6_level wsX6_level) := goodIn_app (goodIn_of _ (by decide +kernel)) ggL_asks_X6_level
set_option maxRecDepth 20000 in
theorem ggL_asks_X6_sign : GoodIn wsL_asks wsX6_sign := goodIn_ca (goodIn_r _ [38, 12, 13, 8, 9, 10, 6, 11, 39, 40, 41, 17, 42, 19, 20, 21, 22, 23, 24, 25, 43, 44, 45, 46, 47, 48, 49, 34, 50, 51, 52, 53, 54, 55, 56, 57, 58, 59, 60, 61, 62, 63, 64, 65, 66, 67, 68, 69, 70, 71, 72, 73, 74, 75, 76, 77, 78, 79, 80, 81, 82, 83, 84, 85, 86, 87, 88, 89, 90, 91, 92, 93, 94, 95, 96, 97, 98, 99, 100, 101, 102, 103, 104, 105, 106, 107, 108, 109, 110, 111, 112, 113, 114, 115, 116, 117, 118, 119, 120, 121, 122, 123, 124, 125, 126, 127, 128, 129, 130, 131, 132, 133, 134, 135, 136, 137, 138, 139, 140, 141, 142, 143, 144, 145, 146, 147, 148, 149, 150, 151, 152, 153, 154, 155, 156, 157, 158, 159, 160, 161, 162, 163, 164, 165, 166, 167, 168, 169, 170, 171, 172, 173, 174, 175, 176, 177, 178, 179, 180, 181, 182, 183, 184, 185, 186, 187, 188, 189, 190, 191, 192, 193, 194, 195, 196, 197, 198, 199, 200, 201, 202, 203, 204, 205, 206, 207, 208, 209, 210, 211, 212, 213, 214, 215, 216, 217, 218, 219, 220, 221, 222, 223, 224, 225, 226, 227, 228, 229, 230, 231, 232, 233, 234, 235, 236, 237, 238, 239, 240, 241, 242, 243, 244, 245, 246, 247, 248, 249, 250, 251, 252, 253, 254, 255, 256, 257, 258, 259, 260, 261, 262, 263, 264, 265, 266, 267, 268, 269, 270, 271, 272, 273, 274, 275, 276, 277, 278, 279, 280, 281, 282, 283, 284, 285, 286, 385, 386, 387, 388, 389, 390, 391, 392, 393, 394, 395, 396, 397, 398, 399, 400] (by decide +kernel) (by decide +kernel)) (goodIn_sub (fun _ h => List.mem_cons_of_mem _ (List.mem_append_right _ h)) (by decide +kernel))
set_option maxRecDepth 20000 in
theorem gL_asks_X6_sign : GoodIn wsL_asks (wsV RL 46 RX6 yX6_sign wsX6_sign) := goodIn_app (goodIn_of _ (by decide +kernel)) ggL_asks_X6_sign
set_option maxRecDepth 20000 in
theorem ggL_asks_X6_net : GoodIn wsL_asks wsX6_net := goodIn_ca (goodIn_r _ [290, 291, 9, 10, 6, 11, 12, 13, 292, 293, 294, 295, 296, 297, 298, 299, 21, 22, 23, 24, 25, 385, 386, 387, 388, 389, 401, 402, 403, 404, 405, 392] (by decide +kernel) (by decide +kernel)) (goodIn_sub (fun _ h => List.mem_cons_of_mem _ (List.mem_append_right _ h)) (by decide +kernel))
set_option maxRecDepth 20000 in
theorem gL_asks_X6_net : GoodIn wsL_asks (wsV RL 50 RX6 yX6_net wsX6_net) := goodIn_app (goodIn_of _ (by decide +kernel)) ggL_asks_X6_net
set_option maxRecDepth 20000 in
theorem ggL_asks_X6_steps : GoodIn wsL_asks wsX6_steps := goodIn_ca (goodIn_r _ [303, 291, 9, 10, 6, 11, 12, 13, 304, 305, 306, 295, 307, 297, 308, 299, 21, 22, 23, 24, 25, 385, 386, 387, 388, 389, 401, 402, 403, 404, 405, 392] (by decide +kernel) (by decide +kernel)) (goodIn_sub (fun _ h => List.mem_cons_of_mem _ (List.mem_append_right _ h)) (by decide +kernel))
set_option maxRecDepth 20000 in
theorem gL_asks_X6_steps : GoodIn wsL_asks (wsV RL 53 RX6 yX6_steps wsX6_steps) := goodIn_app (goodIn_of _ (by decide +kernel)) ggL_asks_X6_steps
set_option maxRecDepth 20000 in
theorem ggL_asks_X6_isServed : GoodIn wsL_asks wsX6_isServed := goodIn_ca (goodIn_r _ [312, 313, 9, 10, 6, 11, 12, 13, 314, 315, 316, 317, 318, 319, 320, 21, 22, 23, 24, 25, 385, 386, 387, 388, 389, 406, 407, 408, 392] (by decide +kernel) (by decide +kernel)) (goodIn_sub (fun _ h => List.mem_cons_of_mem _ (List.mem_append_right _ h)) (by decide +kernel))
set_option maxRecDepth 20000 in
theorem gL_asks_X6_isServed : GoodIn wsL_asks (wsV RL 56 RX6 yX6_isServed wsX6_isServed) := goodIn_app (goodIn_of _ (by decide +kernel)) ggL_asks_X6_isServed
set_option maxRecDepth 20000 in
theorem ggL_asks_X6_placed : GoodIn wsL_asks wsX6_placed := goodIn_ca (goodIn_r _ [324, 325, 9, 10, 6, 11, 12, 13, 326, 327, 328, 329, 330, 331, 332, 21, 22, 23, 24, 25, 385, 386, 387, 388, 389, 409, 410, 411, 412, 413, 414, 415, 392] (by decide +kernel) (by decide +kernel)) (goodIn_sub (fun _ h => List.mem_cons_of_mem _ (List.mem_append_right _ h)) (by decide +kernel))
set_option maxRecDepth 20000 in
theorem gL_asks_X6_placed : GoodIn wsL_asks (wsV RL 60 RX6 yX6_placed wsX6_placed) := goodIn_app (goodIn_of _ (by decide +kernel)) ggL_asks_X6_placed
set_option maxRecDepth 20000 in
theorem ggL_asks_X6_traffic : GoodIn wsL_asks wsX6_traffic := goodIn_ca (goodIn_r _ [336, 325, 9, 10, 6, 11, 12, 13, 337, 338, 339, 329, 340, 341, 332, 21, 22, 23, 24, 25, 385, 386, 387, 388, 389, 409, 410, 411, 412, 413, 414, 415, 392] (by decide +kernel) (by decide +kernel)) (goodIn_sub (fun _ h => List.mem_cons_of_mem _ (List.mem_append_right _ h)) (by decide +kernel))
set_option maxRecDepth 20000 in
theorem gL_asks_X6_traffic : GoodIn wsL_asks (wsV RL 63 RX6 yX6_traffic wsX6_traffic) := goodIn_app (goodIn_of _ (by decide +kernel)) ggL_asks_X6_traffic
set_option maxRecDepth 20000 in
theorem ggL_asks_X6_value : GoodIn wsL_asks wsX6_value := goodIn_ca (goodIn_r _ [345, 9, 10, 6, 11, 12, 13, 346, 347, 348, 349, 8, 291, 325, 350, 98, 99, 100, 351, 352, 353, 17, 354, 19, 20, 21, 22, 23, 24, 25, 355, 356, 357, 358, 359, 360, 361, 362, 295, 363, 297, 299, 337, 338, 339, 329, 340, 341, 332, 385, 386, 387, 388, 389, 390, 391, 392, 401, 402, 403, 404, 405, 409, 410, 411, 412, 413, 414, 415] (by decide +kernel) (by decide +kernel)) (goodIn_sub (fun _ h => List.mem_cons_of_mem _ (List.mem_append_right _ h)) (by decide +kernel))
set_option maxRecDepth 20000 in
theorem gL_asks_X6_value : GoodIn wsL_asks (wsV RL 66 RX6 yX6_value wsX6_value) := goodIn_app (goodIn_of _ (by decide +kernel)) ggL_asks_X6_value
set_option maxRecDepth 20000 in
theorem ggL_asks_X6_powerLeft : GoodIn wsL_asks wsX6_powerLeft := goodIn_ca (goodIn_r _ [367, 291, 313, 9, 10, 6, 11, 12, 13, 292, 293, 294, 295, 296, 297, 298, 299, 21, 22, 23, 24, 25, 368, 369, 370, 317, 371, 372, 320, 385, 386, 387, 388, 389, 401, 402, 403, 404, 405, 392, 406, 407, 408] (by decide +kernel) (by decide +kernel)) (goodIn_sub (fun _ h => List.mem_cons_of_mem _ (List.mem_append_right _ h)) (by decide +kernel))
set_option maxRecDepth 20000 in
theorem gL_asks_X6_powerLeft : GoodIn wsL_asks (wsV RL 69 RX6 yX6_powerLeft wsX6_powerLeft) := goodIn_app (goodIn_of _ (by decide +kernel)) ggL_asks_X6_powerLeft
set_option maxRecDepth 20000 in
theorem ggL_asks_X6_going : GoodIn wsL_asks wsX6_going := goodIn_ca (goodIn_r _ [376, 325, 9, 10, 6, 11, 12, 13, 377, 378, 379, 329, 380, 381, 382, 383, 384, 332, 21, 22, 23, 24, 25, 385, 386, 387, 388, 389, 409, 410, 411, 412, 413, 414, 415, 392] (by decide +kernel) (by decide +kernel)) (goodIn_sub (fun _ h => List.mem_cons_of_mem _ (List.mem_append_right _ h)) (by decide +kernel))
set_option maxRecDepth 20000 in
theorem gL_asks_X6_going : GoodIn wsL_asks (wsV RL 72 RX6 yX6_going wsX6_going) := goodIn_app (goodIn_of _ (by decide +kernel)) ggL_asks_X6_going
theorem dL_asks_0 : decode cL_asks 0 = .ok (.iload_n 1, 1) := by decide +kernel
theorem dL_asks_1 : decode cL_asks 1 = .ok (.ifCond .ne 11, 3) := by decide +kernel
theorem dL_asks_4 : decode cL_asks 4 = .ok (.aload_n 0, 1) := by decide +kernel
theorem dL_asks_5 : decode cL_asks 5 = .ok (.iload_n 2, 1) := by decide +kernel
theorem dL_asks_6 : decode cL_asks 6 = .ok (.invokevirtual 40, 3) := by decide +kernel
theorem dL_asks_9 : decode cL_asks 9 = .ok (.goto 140, 3) := by decide +kernel
theorem dL_asks_12 : decode cL_asks 12 = .ok (.iload_n 1, 1) := by decide +kernel
theorem dL_asks_13 : decode cL_asks 13 = .ok (.iconst 1, 1) := by decide +kernel
theorem dL_asks_14 : decode cL_asks 14 = .ok (.if_icmp .ne 11, 3) := by decide +kernel
theorem dL_asks_17 : decode cL_asks 17 = .ok (.aload_n 0, 1) := by decide +kernel
theorem dL_asks_18 : decode cL_asks 18 = .ok (.iload_n 2, 1) := by decide +kernel
theorem dL_asks_19 : decode cL_asks 19 = .ok (.invokevirtual 43, 3) := by decide +kernel
theorem dL_asks_22 : decode cL_asks 22 = .ok (.goto 127, 3) := by decide +kernel
theorem dL_asks_25 : decode cL_asks 25 = .ok (.iload_n 1, 1) := by decide +kernel
theorem dL_asks_26 : decode cL_asks 26 = .ok (.iconst 2, 1) := by decide +kernel
theorem dL_asks_27 : decode cL_asks 27 = .ok (.if_icmp .ne 12, 3) := by decide +kernel
theorem dL_asks_30 : decode cL_asks 30 = .ok (.aload_n 0, 1) := by decide +kernel
theorem dL_asks_31 : decode cL_asks 31 = .ok (.iload_n 2, 1) := by decide +kernel
theorem dL_asks_32 : decode cL_asks 32 = .ok (.iload_n 3, 1) := by decide +kernel
theorem dL_asks_33 : decode cL_asks 33 = .ok (.invokevirtual 46, 3) := by decide +kernel
theorem dL_asks_36 : decode cL_asks 36 = .ok (.goto 113, 3) := by decide +kernel
theorem dL_asks_39 : decode cL_asks 39 = .ok (.iload_n 1, 1) := by decide +kernel
theorem dL_asks_40 : decode cL_asks 40 = .ok (.iconst 3, 1) := by decide +kernel
theorem dL_asks_41 : decode cL_asks 41 = .ok (.if_icmp .ne 11, 3) := by decide +kernel
theorem dL_asks_44 : decode cL_asks 44 = .ok (.aload_n 0, 1) := by decide +kernel
theorem dL_asks_45 : decode cL_asks 45 = .ok (.iload_n 2, 1) := by decide +kernel
theorem dL_asks_46 : decode cL_asks 46 = .ok (.invokevirtual 50, 3) := by decide +kernel
theorem dL_asks_49 : decode cL_asks 49 = .ok (.goto 100, 3) := by decide +kernel
theorem dL_asks_52 : decode cL_asks 52 = .ok (.iload_n 1, 1) := by decide +kernel
theorem dL_asks_53 : decode cL_asks 53 = .ok (.iconst 4, 1) := by decide +kernel
theorem dL_asks_54 : decode cL_asks 54 = .ok (.if_icmp .ne 12, 3) := by decide +kernel
theorem dL_asks_57 : decode cL_asks 57 = .ok (.aload_n 0, 1) := by decide +kernel
theorem dL_asks_58 : decode cL_asks 58 = .ok (.iload_n 2, 1) := by decide +kernel
theorem dL_asks_59 : decode cL_asks 59 = .ok (.iload_n 3, 1) := by decide +kernel
theorem dL_asks_60 : decode cL_asks 60 = .ok (.invokevirtual 53, 3) := by decide +kernel
theorem dL_asks_63 : decode cL_asks 63 = .ok (.goto 86, 3) := by decide +kernel
theorem dL_asks_66 : decode cL_asks 66 = .ok (.iload_n 1, 1) := by decide +kernel
theorem dL_asks_67 : decode cL_asks 67 = .ok (.iconst 5, 1) := by decide +kernel
theorem dL_asks_68 : decode cL_asks 68 = .ok (.if_icmp .ne 19, 3) := by decide +kernel
theorem dL_asks_71 : decode cL_asks 71 = .ok (.aload_n 0, 1) := by decide +kernel
theorem dL_asks_72 : decode cL_asks 72 = .ok (.iload_n 2, 1) := by decide +kernel
theorem dL_asks_73 : decode cL_asks 73 = .ok (.invokevirtual 56, 3) := by decide +kernel
theorem dL_asks_76 : decode cL_asks 76 = .ok (.ifCond .eq 7, 3) := by decide +kernel
theorem dL_asks_79 : decode cL_asks 79 = .ok (.iconst 1, 1) := by decide +kernel
theorem dL_asks_80 : decode cL_asks 80 = .ok (.goto 69, 3) := by decide +kernel
theorem dL_asks_83 : decode cL_asks 83 = .ok (.iconst 0, 1) := by decide +kernel
theorem dL_asks_84 : decode cL_asks 84 = .ok (.goto 65, 3) := by decide +kernel
theorem dL_asks_87 : decode cL_asks 87 = .ok (.iload_n 1, 1) := by decide +kernel
theorem dL_asks_88 : decode cL_asks 88 = .ok (.bipush 6, 2) := by decide +kernel
theorem dL_asks_90 : decode cL_asks 90 = .ok (.if_icmp .ne 11, 3) := by decide +kernel
theorem dL_asks_93 : decode cL_asks 93 = .ok (.aload_n 0, 1) := by decide +kernel
theorem dL_asks_94 : decode cL_asks 94 = .ok (.iload_n 2, 1) := by decide +kernel
theorem dL_asks_95 : decode cL_asks 95 = .ok (.invokevirtual 60, 3) := by decide +kernel
theorem dL_asks_98 : decode cL_asks 98 = .ok (.goto 51, 3) := by decide +kernel
theorem dL_asks_101 : decode cL_asks 101 = .ok (.iload_n 1, 1) := by decide +kernel
theorem dL_asks_102 : decode cL_asks 102 = .ok (.bipush 7, 2) := by decide +kernel
theorem dL_asks_104 : decode cL_asks 104 = .ok (.if_icmp .ne 11, 3) := by decide +kernel
theorem dL_asks_107 : decode cL_asks 107 = .ok (.aload_n 0, 1) := by decide +kernel
theorem dL_asks_108 : decode cL_asks 108 = .ok (.iload_n 2, 1) := by decide +kernel
theorem dL_asks_109 : decode cL_asks 109 = .ok (.invokevirtual 63, 3) := by decide +kernel
theorem dL_asks_112 : decode cL_asks 112 = .ok (.goto 37, 3) := by decide +kernel
theorem dL_asks_115 : decode cL_asks 115 = .ok (.iload_n 1, 1) := by decide +kernel
theorem dL_asks_116 : decode cL_asks 116 = .ok (.bipush 8, 2) := by decide +kernel
theorem dL_asks_118 : decode cL_asks 118 = .ok (.if_icmp .ne 11, 3) := by decide +kernel
theorem dL_asks_121 : decode cL_asks 121 = .ok (.aload_n 0, 1) := by decide +kernel
theorem dL_asks_122 : decode cL_asks 122 = .ok (.iload_n 2, 1) := by decide +kernel
theorem dL_asks_123 : decode cL_asks 123 = .ok (.invokevirtual 66, 3) := by decide +kernel
theorem dL_asks_126 : decode cL_asks 126 = .ok (.goto 23, 3) := by decide +kernel
theorem dL_asks_129 : decode cL_asks 129 = .ok (.iload_n 1, 1) := by decide +kernel
theorem dL_asks_130 : decode cL_asks 130 = .ok (.bipush 9, 2) := by decide +kernel
theorem dL_asks_132 : decode cL_asks 132 = .ok (.if_icmp .ne 11, 3) := by decide +kernel
theorem dL_asks_135 : decode cL_asks 135 = .ok (.aload_n 0, 1) := by decide +kernel
theorem dL_asks_136 : decode cL_asks 136 = .ok (.iload_n 2, 1) := by decide +kernel
theorem dL_asks_137 : decode cL_asks 137 = .ok (.invokevirtual 69, 3) := by decide +kernel
theorem dL_asks_140 : decode cL_asks 140 = .ok (.goto 9, 3) := by decide +kernel
theorem dL_asks_143 : decode cL_asks 143 = .ok (.aload_n 0, 1) := by decide +kernel
theorem dL_asks_144 : decode cL_asks 144 = .ok (.iload_n 2, 1) := by decide +kernel
theorem dL_asks_145 : decode cL_asks 145 = .ok (.iload_n 3, 1) := by decide +kernel
theorem dL_asks_146 : decode cL_asks 146 = .ok (.invokevirtual 72, 3) := by decide +kernel
theorem dL_asks_149 : decode cL_asks 149 = .ok (.ireturn, 1) := by decide +kernel
theorem dL_asks_150 : decode cL_asks 150 = .ok (.astore 4, 2) := by decide +kernel
theorem dL_asks_152 : decode cL_asks 152 = .ok (.ldc 33, 2) := by decide +kernel
theorem dL_asks_154 : decode cL_asks 154 = .ok (.ireturn, 1) := by decide +kernel
theorem dL_areBeside_0 : decode cL_areBeside 0 = .ok (.iload_n 0, 1) := by decide +kernel
theorem dL_areBeside_1 : decode cL_areBeside 1 = .ok (.iload_n 1, 1) := by decide +kernel
theorem dL_areBeside_2 : decode cL_areBeside 2 = .ok (.if_icmp .ge 7, 3) := by decide +kernel
theorem dL_areBeside_5 : decode cL_areBeside 5 = .ok (.iload_n 0, 1) := by decide +kernel
theorem dL_areBeside_6 : decode cL_areBeside 6 = .ok (.goto 4, 3) := by decide +kernel
theorem dL_areBeside_9 : decode cL_areBeside 9 = .ok (.iload_n 1, 1) := by decide +kernel
theorem dL_areBeside_10 : decode cL_areBeside 10 = .ok (.istore_n 2, 1) := by decide +kernel
theorem dL_areBeside_11 : decode cL_areBeside 11 = .ok (.iload_n 0, 1) := by decide +kernel
theorem dL_areBeside_12 : decode cL_areBeside 12 = .ok (.iload_n 1, 1) := by decide +kernel
theorem dL_areBeside_13 : decode cL_areBeside 13 = .ok (.if_icmp .ge 7, 3) := by decide +kernel
theorem dL_areBeside_16 : decode cL_areBeside 16 = .ok (.iload_n 1, 1) := by decide +kernel
theorem dL_areBeside_17 : decode cL_areBeside 17 = .ok (.goto 4, 3) := by decide +kernel
theorem dL_areBeside_20 : decode cL_areBeside 20 = .ok (.iload_n 0, 1) := by decide +kernel
theorem dL_areBeside_21 : decode cL_areBeside 21 = .ok (.istore_n 3, 1) := by decide +kernel
theorem dL_areBeside_22 : decode cL_areBeside 22 = .ok (.iload_n 3, 1) := by decide +kernel
theorem dL_areBeside_23 : decode cL_areBeside 23 = .ok (.iload_n 2, 1) := by decide +kernel
theorem dL_areBeside_24 : decode cL_areBeside 24 = .ok (.isub, 1) := by decide +kernel
theorem dL_areBeside_25 : decode cL_areBeside 25 = .ok (.bipush 8, 2) := by decide +kernel
theorem dL_areBeside_27 : decode cL_areBeside 27 = .ok (.if_icmp .eq 21, 3) := by decide +kernel
theorem dL_areBeside_30 : decode cL_areBeside 30 = .ok (.iload_n 3, 1) := by decide +kernel
theorem dL_areBeside_31 : decode cL_areBeside 31 = .ok (.iload_n 2, 1) := by decide +kernel
theorem dL_areBeside_32 : decode cL_areBeside 32 = .ok (.isub, 1) := by decide +kernel
theorem dL_areBeside_33 : decode cL_areBeside 33 = .ok (.iconst 1, 1) := by decide +kernel
theorem dL_areBeside_34 : decode cL_areBeside 34 = .ok (.if_icmp .ne 18, 3) := by decide +kernel
theorem dL_areBeside_37 : decode cL_areBeside 37 = .ok (.iload_n 2, 1) := by decide +kernel
theorem dL_areBeside_38 : decode cL_areBeside 38 = .ok (.bipush 8, 2) := by decide +kernel
theorem dL_areBeside_40 : decode cL_areBeside 40 = .ok (.idiv, 1) := by decide +kernel
theorem dL_areBeside_41 : decode cL_areBeside 41 = .ok (.iload_n 3, 1) := by decide +kernel
theorem dL_areBeside_42 : decode cL_areBeside 42 = .ok (.bipush 8, 2) := by decide +kernel
theorem dL_areBeside_44 : decode cL_areBeside 44 = .ok (.idiv, 1) := by decide +kernel
theorem dL_areBeside_45 : decode cL_areBeside 45 = .ok (.if_icmp .ne 7, 3) := by decide +kernel
theorem dL_areBeside_48 : decode cL_areBeside 48 = .ok (.iconst 1, 1) := by decide +kernel
theorem dL_areBeside_49 : decode cL_areBeside 49 = .ok (.goto 4, 3) := by decide +kernel
theorem dL_areBeside_52 : decode cL_areBeside 52 = .ok (.iconst 0, 1) := by decide +kernel
theorem dL_areBeside_53 : decode cL_areBeside 53 = .ok (.ireturn, 1) := by decide +kernel
set_option maxRecDepth 20000 in
theorem ggL_road_L_areBeside : GoodIn wsL_road wsL_areBeside := goodIn_r _ [4] (by decide +kernel) (by decide +kernel)
set_option maxRecDepth 20000 in
theorem gL_road_L_areBeside : GoodIn wsL_road (va_wsS RL 75 yL_areBeside wsL_areBeside) := goodIn_app (goodIn_of _ (by decide +kernel)) ggL_road_L_areBeside
theorem dL_road_0 : decode cL_road 0 = .ok (.aload_n 0, 1) := by decide +kernel
theorem dL_road_1 : decode cL_road 1 = .ok (.iload_n 1, 1) := by decide +kernel
theorem dL_road_2 : decode cL_road 2 = .ok (.iaload, 1) := by decide +kernel
theorem dL_road_3 : decode cL_road 3 = .ok (.iconst 1, 1) := by decide +kernel
theorem dL_road_4 : decode cL_road 4 = .ok (.if_icmp .ne 7, 3) := by decide +kernel
theorem dL_road_7 : decode cL_road 7 = .ok (.iload_n 1, 1) := by decide +kernel
theorem dL_road_8 : decode cL_road 8 = .ok (.goto 4, 3) := by decide +kernel
theorem dL_road_11 : decode cL_road 11 = .ok (.iconst (-1), 1) := by decide +kernel
theorem dL_road_12 : decode cL_road 12 = .ok (.istore_n 2, 1) := by decide +kernel
theorem dL_road_13 : decode cL_road 13 = .ok (.bipush 63, 2) := by decide +kernel
theorem dL_road_15 : decode cL_road 15 = .ok (.istore_n 3, 1) := by decide +kernel
theorem dL_road_16 : decode cL_road 16 = .ok (.iload_n 3, 1) := by decide +kernel
theorem dL_road_17 : decode cL_road 17 = .ok (.ifCond .lt 37, 3) := by decide +kernel
theorem dL_road_20 : decode cL_road 20 = .ok (.aload_n 0, 1) := by decide +kernel
theorem dL_road_21 : decode cL_road 21 = .ok (.iload_n 1, 1) := by decide +kernel
theorem dL_road_22 : decode cL_road 22 = .ok (.iaload, 1) := by decide +kernel
theorem dL_road_23 : decode cL_road 23 = .ok (.iconst 1, 1) := by decide +kernel
theorem dL_road_24 : decode cL_road 24 = .ok (.if_icmp .eq 30, 3) := by decide +kernel
theorem dL_road_27 : decode cL_road 27 = .ok (.aload_n 0, 1) := by decide +kernel
theorem dL_road_28 : decode cL_road 28 = .ok (.iload_n 3, 1) := by decide +kernel
theorem dL_road_29 : decode cL_road 29 = .ok (.iaload, 1) := by decide +kernel
theorem dL_road_30 : decode cL_road 30 = .ok (.iconst 1, 1) := by decide +kernel
theorem dL_road_31 : decode cL_road 31 = .ok (.if_icmp .ne 15, 3) := by decide +kernel
theorem dL_road_34 : decode cL_road 34 = .ok (.iload_n 3, 1) := by decide +kernel
theorem dL_road_35 : decode cL_road 35 = .ok (.iload_n 1, 1) := by decide +kernel
theorem dL_road_36 : decode cL_road 36 = .ok (.invokestatic 75, 3) := by decide +kernel
theorem dL_road_39 : decode cL_road 39 = .ok (.ifCond .eq 7, 3) := by decide +kernel
theorem dL_road_42 : decode cL_road 42 = .ok (.iload_n 3, 1) := by decide +kernel
theorem dL_road_43 : decode cL_road 43 = .ok (.goto 4, 3) := by decide +kernel
theorem dL_road_46 : decode cL_road 46 = .ok (.iload_n 2, 1) := by decide +kernel
theorem dL_road_47 : decode cL_road 47 = .ok (.istore_n 2, 1) := by decide +kernel
theorem dL_road_48 : decode cL_road 48 = .ok (.iinc 3 (-1), 3) := by decide +kernel
theorem dL_road_51 : decode cL_road 51 = .ok (.goto (-35), 3) := by decide +kernel
theorem dL_road_54 : decode cL_road 54 = .ok (.iload_n 2, 1) := by decide +kernel
theorem dL_road_55 : decode cL_road 55 = .ok (.ireturn, 1) := by decide +kernel
set_option maxRecDepth 20000 in
theorem ggL_isText_L_asks : GoodIn wsL_isText wsL_asks := goodIn_ca (goodIn_r _ [5, 6, 1, 7, 8, 9, 10, 11, 12, 13, 14, 15, 16, 17, 18, 19, 20, 21, 22, 23, 24, 25, 26, 27, 28, 29, 30, 31, 32, 33, 34, 35, 36, 37, 38, 39, 40, 41, 42, 43, 44, 45, 46, 47, 48, 49, 50, 51, 52, 53, 54, 55, 56, 57, 58, 59, 60, 61, 62, 63, 64, 65, 66, 67, 68, 69, 70, 71, 72, 73, 74, 75, 76, 77, 78, 79, 80, 81, 82, 83, 84, 85, 86, 87, 88, 89, 90, 91, 92, 93, 94, 95, 96, 97, 98, 99, 100, 101, 102, 103, 104, 105, 106, 107, 108, 109, 110, 111, 112, 113, 114, 115, 116, 117, 118, 119, 120, 121, 122, 123, 124, 125, 126, 127, 128, 129, 130, 131, 132, 133, 134, 135, 136, 137, 138, 139, 140, 141, 142, 143, 144, 145, 146, 147, 148, 149, 150, 151, 152, 153, 154, 155, 156, 157, 158, 159, 160, 161, 162, 163, 164, 165, 166, 167, 168, 169, 170, 171, 172, 173, 174, 175, 176, 177, 178, 179, 180, 181, 182, 183, 184, 185, 186, 187, 188, 189, 190, 191, 192, 193, 194, 195, 196, 197, 198, 199, 200, 201, 202, 203, 204, 205, 206, 207, 208, 209, 210, 211, 212, 213, 214, 215, 216, 217, 218, 219, 220, 221, 222, 223, 224, 225, 226, 227, 228, 229, 230, 231, 232, 233, 234, 235, 236, 237, 238, 239, 240, 241, 242, 243, 244, 245, 246, 247, 248, 249, 250, 251, 252, 253, 254, 255, 256, 257, 258, 259, 260, 261, 262, 263, 264, 265, 266, 267, 268, 269, 270, 271, 272, 273, 274, 275, 276, 277, 278, 279, 280, 281, 282, 283, 284, 285, 286, 287, 288, 289, 290, 291, 292, 293, 294, 295, 296, 297, 298, 299, 300, 301, 302, 303, 304, 305, 306, 307, 308, 309, 310, 311, 312, 313, 314, 315, 316, 317, 318, 319, 320, 321, 322, 323, 324, 325, 326, 327, 328, 329, 330, 331, 332, 333, 334, 335, 336, 337, 338, 339, 340, 341, 342, 343, 344, 345, 346, 347, 348, 349, 350, 351, 352, 353, 354, 355, 356, 357, 358, 359, 360, 361, 362, 363, 364, 365, 366, 367, 368, 369, 370, 371, 372, 373, 374, 375, 376, 377, 378, 379, 380, 381, 382, 383, 384, 385, 386, 387, 388, 389, 390, 391, 392, 393, 394, 395, 396, 397, 398, 399, 400, 401, 402, 403, 404, 405, 406, 407, 408, 409, 410, 411, 412, 413, 414, 415, 416, 417, 418, 419] (by decide +kernel) (by decide +kernel)) (goodIn_sub (fun _ h => List.mem_cons_of_mem _ (List.mem_append_right _ h)) (by decide +kernel))
set_option maxRecDepth 20000 in
theorem gL_isText_L_asks : GoodIn wsL_isText (va_wsS RL 81 yL_asks wsL_asks) := goodIn_app (goodIn_of _ (by decide +kernel)) ggL_isText_L_asks
theorem dL_isText_0 : decode cL_isText 0 = .ok (.aload_n 1, 1) := by decide +kernel
theorem dL_isText_1 : decode cL_isText 1 = .ok (.iload_n 3, 1) := by decide +kernel
theorem dL_isText_2 : decode cL_isText 2 = .ok (.iaload, 1) := by decide +kernel
theorem dL_isText_3 : decode cL_isText 3 = .ok (.istore 4, 2) := by decide +kernel
theorem dL_isText_5 : decode cL_isText 5 = .ok (.iload 4, 2) := by decide +kernel
theorem dL_isText_7 : decode cL_isText 7 = .ok (.iconst 2, 1) := by decide +kernel
theorem dL_isText_8 : decode cL_isText 8 = .ok (.if_icmp .ge 7, 3) := by decide +kernel
theorem dL_isText_11 : decode cL_isText 11 = .ok (.iconst 1, 1) := by decide +kernel
theorem dL_isText_12 : decode cL_isText 12 = .ok (.goto 24, 3) := by decide +kernel
theorem dL_isText_15 : decode cL_isText 15 = .ok (.iload 4, 2) := by decide +kernel
theorem dL_isText_17 : decode cL_isText 17 = .ok (.iconst 4, 1) := by decide +kernel
theorem dL_isText_18 : decode cL_isText 18 = .ok (.if_icmp .ge 7, 3) := by decide +kernel
theorem dL_isText_21 : decode cL_isText 21 = .ok (.iconst 2, 1) := by decide +kernel
theorem dL_isText_22 : decode cL_isText 22 = .ok (.goto 14, 3) := by decide +kernel
theorem dL_isText_25 : decode cL_isText 25 = .ok (.iload 4, 2) := by decide +kernel
theorem dL_isText_27 : decode cL_isText 27 = .ok (.iconst 4, 1) := by decide +kernel
theorem dL_isText_28 : decode cL_isText 28 = .ok (.if_icmp .ne 7, 3) := by decide +kernel
theorem dL_isText_31 : decode cL_isText 31 = .ok (.iconst 4, 1) := by decide +kernel
theorem dL_isText_32 : decode cL_isText 32 = .ok (.goto 4, 3) := by decide +kernel
theorem dL_isText_35 : decode cL_isText 35 = .ok (.iconst 5, 1) := by decide +kernel
theorem dL_isText_36 : decode cL_isText 36 = .ok (.istore 5, 2) := by decide +kernel
theorem dL_isText_38 : decode cL_isText 38 = .ok (.aload_n 0, 1) := by decide +kernel
theorem dL_isText_39 : decode cL_isText 39 = .ok (.iconst 2, 1) := by decide +kernel
theorem dL_isText_40 : decode cL_isText 40 = .ok (.iload_n 3, 1) := by decide +kernel
theorem dL_isText_41 : decode cL_isText 41 = .ok (.iconst 0, 1) := by decide +kernel
theorem dL_isText_42 : decode cL_isText 42 = .ok (.invokestatic 81, 3) := by decide +kernel
theorem dL_isText_45 : decode cL_isText 45 = .ok (.istore 6, 2) := by decide +kernel
theorem dL_isText_47 : decode cL_isText 47 = .ok (.aload_n 0, 1) := by decide +kernel
theorem dL_isText_48 : decode cL_isText 48 = .ok (.iconst 2, 1) := by decide +kernel
theorem dL_isText_49 : decode cL_isText 49 = .ok (.iload_n 3, 1) := by decide +kernel
theorem dL_isText_50 : decode cL_isText 50 = .ok (.iload 5, 2) := by decide +kernel
theorem dL_isText_52 : decode cL_isText 52 = .ok (.iconst 1, 1) := by decide +kernel
theorem dL_isText_53 : decode cL_isText 53 = .ok (.isub, 1) := by decide +kernel
theorem dL_isText_54 : decode cL_isText 54 = .ok (.invokestatic 81, 3) := by decide +kernel
theorem dL_isText_57 : decode cL_isText 57 = .ok (.istore 7, 2) := by decide +kernel
theorem dL_isText_59 : decode cL_isText 59 = .ok (.aload_n 0, 1) := by decide +kernel
theorem dL_isText_60 : decode cL_isText 60 = .ok (.iconst 2, 1) := by decide +kernel
theorem dL_isText_61 : decode cL_isText 61 = .ok (.iload_n 3, 1) := by decide +kernel
theorem dL_isText_62 : decode cL_isText 62 = .ok (.iload 5, 2) := by decide +kernel
theorem dL_isText_64 : decode cL_isText 64 = .ok (.invokestatic 81, 3) := by decide +kernel
theorem dL_isText_67 : decode cL_isText 67 = .ok (.ldc 33, 2) := by decide +kernel
theorem dL_isText_69 : decode cL_isText 69 = .ok (.if_icmp .ne 120, 3) := by decide +kernel
theorem dL_isText_72 : decode cL_isText 72 = .ok (.aload_n 0, 1) := by decide +kernel
theorem dL_isText_73 : decode cL_isText 73 = .ok (.iconst 2, 1) := by decide +kernel
theorem dL_isText_74 : decode cL_isText 74 = .ok (.iload_n 3, 1) := by decide +kernel
theorem dL_isText_75 : decode cL_isText 75 = .ok (.iconst (-1), 1) := by decide +kernel
theorem dL_isText_76 : decode cL_isText 76 = .ok (.invokestatic 81, 3) := by decide +kernel
theorem dL_isText_79 : decode cL_isText 79 = .ok (.ldc 33, 2) := by decide +kernel
theorem dL_isText_81 : decode cL_isText 81 = .ok (.if_icmp .ne 108, 3) := by decide +kernel
theorem dL_isText_84 : decode cL_isText 84 = .ok (.iload 6, 2) := by decide +kernel
theorem dL_isText_86 : decode cL_isText 86 = .ok (.iload 4, 2) := by decide +kernel
theorem dL_isText_88 : decode cL_isText 88 = .ok (.ifCond .ne 8, 3) := by decide +kernel
theorem dL_isText_91 : decode cL_isText 91 = .ok (.bipush 46, 2) := by decide +kernel
theorem dL_isText_93 : decode cL_isText 93 = .ok (.goto 50, 3) := by decide +kernel
theorem dL_isText_96 : decode cL_isText 96 = .ok (.iload 4, 2) := by decide +kernel
theorem dL_isText_98 : decode cL_isText 98 = .ok (.iconst 1, 1) := by decide +kernel
theorem dL_isText_99 : decode cL_isText 99 = .ok (.if_icmp .ne 8, 3) := by decide +kernel
theorem dL_isText_102 : decode cL_isText 102 = .ok (.bipush 35, 2) := by decide +kernel
theorem dL_isText_104 : decode cL_isText 104 = .ok (.goto 39, 3) := by decide +kernel
theorem dL_isText_107 : decode cL_isText 107 = .ok (.iload 4, 2) := by decide +kernel
theorem dL_isText_109 : decode cL_isText 109 = .ok (.iconst 2, 1) := by decide +kernel
theorem dL_isText_110 : decode cL_isText 110 = .ok (.if_icmp .ne 8, 3) := by decide +kernel
theorem dL_isText_113 : decode cL_isText 113 = .ok (.bipush 72, 2) := by decide +kernel
theorem dL_isText_115 : decode cL_isText 115 = .ok (.goto 28, 3) := by decide +kernel
theorem dL_isText_118 : decode cL_isText 118 = .ok (.iload 4, 2) := by decide +kernel
theorem dL_isText_120 : decode cL_isText 120 = .ok (.iconst 3, 1) := by decide +kernel
theorem dL_isText_121 : decode cL_isText 121 = .ok (.if_icmp .ne 8, 3) := by decide +kernel
theorem dL_isText_124 : decode cL_isText 124 = .ok (.bipush 84, 2) := by decide +kernel
theorem dL_isText_126 : decode cL_isText 126 = .ok (.goto 17, 3) := by decide +kernel
theorem dL_isText_129 : decode cL_isText 129 = .ok (.iload 4, 2) := by decide +kernel
theorem dL_isText_131 : decode cL_isText 131 = .ok (.bipush 6, 2) := by decide +kernel
theorem dL_isText_133 : decode cL_isText 133 = .ok (.if_icmp .ne 8, 3) := by decide +kernel
theorem dL_isText_136 : decode cL_isText 136 = .ok (.bipush 119, 2) := by decide +kernel
theorem dL_isText_138 : decode cL_isText 138 = .ok (.goto 5, 3) := by decide +kernel
theorem dL_isText_141 : decode cL_isText 141 = .ok (.bipush 112, 2) := by decide +kernel
theorem dL_isText_143 : decode cL_isText 143 = .ok (.if_icmp .ne 46, 3) := by decide +kernel
theorem dL_isText_146 : decode cL_isText 146 = .ok (.iload 4, 2) := by decide +kernel
theorem dL_isText_148 : decode cL_isText 148 = .ok (.iconst 2, 1) := by decide +kernel
theorem dL_isText_149 : decode cL_isText 149 = .ok (.if_icmp .lt 36, 3) := by decide +kernel
theorem dL_isText_152 : decode cL_isText 152 = .ok (.iload 7, 2) := by decide +kernel
theorem dL_isText_154 : decode cL_isText 154 = .ok (.iload 4, 2) := by decide +kernel
theorem dL_isText_156 : decode cL_isText 156 = .ok (.iconst 4, 1) := by decide +kernel
theorem dL_isText_157 : decode cL_isText 157 = .ok (.if_icmp .ge 12, 3) := by decide +kernel
theorem dL_isText_160 : decode cL_isText 160 = .ok (.bipush 48, 2) := by decide +kernel
theorem dL_isText_162 : decode cL_isText 162 = .ok (.aload_n 2, 1) := by decide +kernel
theorem dL_isText_163 : decode cL_isText 163 = .ok (.iload_n 3, 1) := by decide +kernel
theorem dL_isText_164 : decode cL_isText 164 = .ok (.iaload, 1) := by decide +kernel
theorem dL_isText_165 : decode cL_isText 165 = .ok (.iadd, 1) := by decide +kernel
theorem dL_isText_166 : decode cL_isText 166 = .ok (.goto 16, 3) := by decide +kernel
theorem dL_isText_169 : decode cL_isText 169 = .ok (.iload 4, 2) := by decide +kernel
theorem dL_isText_171 : decode cL_isText 171 = .ok (.iconst 4, 1) := by decide +kernel
theorem dL_isText_172 : decode cL_isText 172 = .ok (.if_icmp .ne 8, 3) := by decide +kernel
theorem dL_isText_175 : decode cL_isText 175 = .ok (.bipush 107, 2) := by decide +kernel
theorem dL_isText_177 : decode cL_isText 177 = .ok (.goto 5, 3) := by decide +kernel
theorem dL_isText_180 : decode cL_isText 180 = .ok (.bipush 114, 2) := by decide +kernel
theorem dL_isText_182 : decode cL_isText 182 = .ok (.if_icmp .ne 7, 3) := by decide +kernel
theorem dL_isText_185 : decode cL_isText 185 = .ok (.iconst 1, 1) := by decide +kernel
theorem dL_isText_186 : decode cL_isText 186 = .ok (.goto 4, 3) := by decide +kernel
theorem dL_isText_189 : decode cL_isText 189 = .ok (.iconst 0, 1) := by decide +kernel
theorem dL_isText_190 : decode cL_isText 190 = .ok (.ireturn, 1) := by decide +kernel
set_option maxRecDepth 20000 in
theorem ggL_isNet_L_road : GoodIn wsL_isNet wsL_road := goodIn_r _ [4, 5, 6, 3, 7] (by decide +kernel) (by decide +kernel)
set_option maxRecDepth 20000 in
theorem gL_isNet_L_road : GoodIn wsL_isNet (va_wsS RL 85 yL_road wsL_road) := goodIn_app (goodIn_of _ (by decide +kernel)) ggL_isNet_L_road
set_option maxRecDepth 20000 in
theorem ggL_isNet_X6_net : GoodIn wsL_isNet wsX6_net := goodIn_ca (goodIn_r _ [12, 13, 14, 15, 11, 16, 17, 18, 19, 20, 21, 22, 23, 24, 25, 26, 27, 28, 29, 30, 31, 62, 63, 64, 65, 66, 67, 68, 69, 70, 71, 72] (by decide +kernel) (by decide +kernel)) (goodIn_sub (fun _ h => List.mem_cons_of_mem _ (List.mem_append_right _ h)) (by decide +kernel))
set_option maxRecDepth 20000 in
theorem gL_isNet_X6_net : GoodIn wsL_isNet (wsV RL 50 RX6 yX6_net wsX6_net) := goodIn_app (goodIn_of _ (by decide +kernel)) ggL_isNet_X6_net
set_option maxRecDepth 20000 in
theorem ggL_isNet_X6_steps : GoodIn wsL_isNet wsX6_steps := goodIn_ca (goodIn_r _ [35, 13, 14, 15, 11, 16, 17, 18, 36, 37, 38, 22, 39, 24, 40, 26, 27, 28, 29, 30, 31, 62, 63, 64, 65, 66, 67, 68, 69, 70, 71, 72] (by decide +kernel) (by decide +kernel)) (goodIn_sub (fun _ h => List.mem_cons_of_mem _ (List.mem_append_right _ h)) (by decide +kernel))
set_option maxRecDepth 20000 in
theorem gL_isNet_X6_steps : GoodIn wsL_isNet (wsV RL 53 RX6 yX6_steps wsX6_steps) := goodIn_app (goodIn_of _ (by decide +kernel)) ggL_isNet_X6_steps
set_option maxRecDepth 20000 in
theorem ggL_isNet_X6_powerLeft : GoodIn wsL_isNet wsX6_powerLeft := goodIn_ca (goodIn_r _ [44, 13, 45, 14, 15, 11, 16, 17, 18, 19, 20, 21, 22, 23, 24, 25, 26, 27, 28, 29, 30, 31, 46, 47, 48, 49, 50, 51, 52, 62, 63, 64, 65, 66, 67, 68, 69, 70, 71, 72, 73, 74, 75] (by decide +kernel) (by decide +kernel)) (goodIn_sub (fun _ h => List.mem_cons_of_mem _ (List.mem_append_right _ h)) (by decide +kernel))
set_option maxRecDepth 20000 in
theorem gL_isNet_X6_powerLeft : GoodIn wsL_isNet (wsV RL 69 RX6 yX6_powerLeft wsX6_powerLeft) := goodIn_app (goodIn_of _ (by decide +kernel)) ggL_isNet_X6_powerLeft
set_option maxRecDepth 20000 in
theorem ggL_isNet_X6_isServed : GoodIn wsL_isNet wsX6_isServed := goodIn_ca (goodIn_r _ [56, 45, 14, 15, 11, 16, 17, 18, 57, 58, 59, 49, 60, 61, 52, 27, 28, 29, 30, 31, 62, 63, 64, 65, 66, 73, 74, 75, 72] (by decide +kernel) (by decide +kernel)) (goodIn_sub (fun _ h => List.mem_cons_of_mem _ (List.mem_append_right _ h)) (by decide +kernel))
set_option maxRecDepth 20000 in
theorem gL_isNet_X6_isServed : GoodIn wsL_isNet (wsV RL 56 RX6 yX6_isServed wsX6_isServed) := goodIn_app (goodIn_of _ (by decide +kernel)) ggL_isNet_X6_isServed
set_option maxRecDepth 20000 in
theorem ggL_isNet_L_areBeside : GoodIn wsL_isNet wsL_areBeside := goodIn_r _ [7] (by decide +kernel) (by decide +kernel)
set_option maxRecDepth 20000 in
theorem gL_isNet_L_areBeside : GoodIn wsL_isNet (va_wsS RL 75 yL_areBeside wsL_areBeside) := goodIn_app (goodIn_of _ (by decide +kernel)) ggL_isNet_L_areBeside
theorem dL_isNet_0 : decode cL_isNet 0 = .ok (.aload_n 1, 1) := by decide +kernel
theorem dL_isNet_1 : decode cL_isNet 1 = .ok (.iload_n 2, 1) := by decide +kernel
theorem dL_isNet_2 : decode cL_isNet 2 = .ok (.invokestatic 85, 3) := by decide +kernel
theorem dL_isNet_5 : decode cL_isNet 5 = .ok (.istore 4, 2) := by decide +kernel
theorem dL_isNet_7 : decode cL_isNet 7 = .ok (.aload_n 0, 1) := by decide +kernel
theorem dL_isNet_8 : decode cL_isNet 8 = .ok (.iload_n 2, 1) := by decide +kernel
theorem dL_isNet_9 : decode cL_isNet 9 = .ok (.invokevirtual 50, 3) := by decide +kernel
theorem dL_isNet_12 : decode cL_isNet 12 = .ok (.istore 5, 2) := by decide +kernel
theorem dL_isNet_14 : decode cL_isNet 14 = .ok (.aload_n 0, 1) := by decide +kernel
theorem dL_isNet_15 : decode cL_isNet 15 = .ok (.iload_n 2, 1) := by decide +kernel
theorem dL_isNet_16 : decode cL_isNet 16 = .ok (.iload_n 3, 1) := by decide +kernel
theorem dL_isNet_17 : decode cL_isNet 17 = .ok (.invokevirtual 53, 3) := by decide +kernel
theorem dL_isNet_20 : decode cL_isNet 20 = .ok (.istore 6, 2) := by decide +kernel
theorem dL_isNet_22 : decode cL_isNet 22 = .ok (.iload 4, 2) := by decide +kernel
theorem dL_isNet_24 : decode cL_isNet 24 = .ok (.ifCond .ge 37, 3) := by decide +kernel
theorem dL_isNet_27 : decode cL_isNet 27 = .ok (.iload 5, 2) := by decide +kernel
theorem dL_isNet_29 : decode cL_isNet 29 = .ok (.iconst (-1), 1) := by decide +kernel
theorem dL_isNet_30 : decode cL_isNet 30 = .ok (.if_icmp .ne 29, 3) := by decide +kernel
theorem dL_isNet_33 : decode cL_isNet 33 = .ok (.iload 6, 2) := by decide +kernel
theorem dL_isNet_35 : decode cL_isNet 35 = .ok (.iconst (-1), 1) := by decide +kernel
theorem dL_isNet_36 : decode cL_isNet 36 = .ok (.if_icmp .ne 23, 3) := by decide +kernel
theorem dL_isNet_39 : decode cL_isNet 39 = .ok (.aload_n 0, 1) := by decide +kernel
theorem dL_isNet_40 : decode cL_isNet 40 = .ok (.iload_n 2, 1) := by decide +kernel
theorem dL_isNet_41 : decode cL_isNet 41 = .ok (.invokevirtual 69, 3) := by decide +kernel
theorem dL_isNet_44 : decode cL_isNet 44 = .ok (.ifCond .ne 15, 3) := by decide +kernel
theorem dL_isNet_47 : decode cL_isNet 47 = .ok (.aload_n 0, 1) := by decide +kernel
theorem dL_isNet_48 : decode cL_isNet 48 = .ok (.iload_n 2, 1) := by decide +kernel
theorem dL_isNet_49 : decode cL_isNet 49 = .ok (.invokevirtual 56, 3) := by decide +kernel
theorem dL_isNet_52 : decode cL_isNet 52 = .ok (.ifCond .ne 7, 3) := by decide +kernel
theorem dL_isNet_55 : decode cL_isNet 55 = .ok (.iconst 1, 1) := by decide +kernel
theorem dL_isNet_56 : decode cL_isNet 56 = .ok (.goto 4, 3) := by decide +kernel
theorem dL_isNet_59 : decode cL_isNet 59 = .ok (.iconst 0, 1) := by decide +kernel
theorem dL_isNet_60 : decode cL_isNet 60 = .ok (.ireturn, 1) := by decide +kernel
theorem dL_isNet_61 : decode cL_isNet 61 = .ok (.iload 5, 2) := by decide +kernel
theorem dL_isNet_63 : decode cL_isNet 63 = .ok (.ifCond .lt 104, 3) := by decide +kernel
theorem dL_isNet_66 : decode cL_isNet 66 = .ok (.iload 5, 2) := by decide +kernel
theorem dL_isNet_68 : decode cL_isNet 68 = .ok (.iload 4, 2) := by decide +kernel
theorem dL_isNet_70 : decode cL_isNet 70 = .ok (.if_icmp .gt 97, 3) := by decide +kernel
theorem dL_isNet_73 : decode cL_isNet 73 = .ok (.aload_n 1, 1) := by decide +kernel
theorem dL_isNet_74 : decode cL_isNet 74 = .ok (.iload 5, 2) := by decide +kernel
theorem dL_isNet_76 : decode cL_isNet 76 = .ok (.iaload, 1) := by decide +kernel
theorem dL_isNet_77 : decode cL_isNet 77 = .ok (.iconst 1, 1) := by decide +kernel
theorem dL_isNet_78 : decode cL_isNet 78 = .ok (.if_icmp .ne 89, 3) := by decide +kernel
theorem dL_isNet_81 : decode cL_isNet 81 = .ok (.aload_n 0, 1) := by decide +kernel
theorem dL_isNet_82 : decode cL_isNet 82 = .ok (.iload 4, 2) := by decide +kernel
theorem dL_isNet_84 : decode cL_isNet 84 = .ok (.invokevirtual 50, 3) := by decide +kernel
theorem dL_isNet_87 : decode cL_isNet 87 = .ok (.iload 5, 2) := by decide +kernel
theorem dL_isNet_89 : decode cL_isNet 89 = .ok (.if_icmp .ne 78, 3) := by decide +kernel
theorem dL_isNet_92 : decode cL_isNet 92 = .ok (.aload_n 0, 1) := by decide +kernel
theorem dL_isNet_93 : decode cL_isNet 93 = .ok (.iload 5, 2) := by decide +kernel
theorem dL_isNet_95 : decode cL_isNet 95 = .ok (.invokevirtual 50, 3) := by decide +kernel
theorem dL_isNet_98 : decode cL_isNet 98 = .ok (.iload 5, 2) := by decide +kernel
theorem dL_isNet_100 : decode cL_isNet 100 = .ok (.if_icmp .ne 67, 3) := by decide +kernel
theorem dL_isNet_103 : decode cL_isNet 103 = .ok (.aload_n 0, 1) := by decide +kernel
theorem dL_isNet_104 : decode cL_isNet 104 = .ok (.iload_n 2, 1) := by decide +kernel
theorem dL_isNet_105 : decode cL_isNet 105 = .ok (.iload 4, 2) := by decide +kernel
theorem dL_isNet_107 : decode cL_isNet 107 = .ok (.invokevirtual 53, 3) := by decide +kernel
theorem dL_isNet_110 : decode cL_isNet 110 = .ok (.ifCond .ne 57, 3) := by decide +kernel
theorem dL_isNet_113 : decode cL_isNet 113 = .ok (.aload_n 0, 1) := by decide +kernel
theorem dL_isNet_114 : decode cL_isNet 114 = .ok (.iload 4, 2) := by decide +kernel
theorem dL_isNet_116 : decode cL_isNet 116 = .ok (.iload 5, 2) := by decide +kernel
theorem dL_isNet_118 : decode cL_isNet 118 = .ok (.invokevirtual 53, 3) := by decide +kernel
theorem dL_isNet_121 : decode cL_isNet 121 = .ok (.ifCond .lt 46, 3) := by decide +kernel
theorem dL_isNet_124 : decode cL_isNet 124 = .ok (.iload 6, 2) := by decide +kernel
theorem dL_isNet_126 : decode cL_isNet 126 = .ok (.ifCond .lt 7, 3) := by decide +kernel
theorem dL_isNet_129 : decode cL_isNet 129 = .ok (.iconst 1, 1) := by decide +kernel
theorem dL_isNet_130 : decode cL_isNet 130 = .ok (.goto 4, 3) := by decide +kernel
theorem dL_isNet_133 : decode cL_isNet 133 = .ok (.iconst 0, 1) := by decide +kernel
theorem dL_isNet_134 : decode cL_isNet 134 = .ok (.aload_n 0, 1) := by decide +kernel
theorem dL_isNet_135 : decode cL_isNet 135 = .ok (.iload_n 3, 1) := by decide +kernel
theorem dL_isNet_136 : decode cL_isNet 136 = .ok (.invokevirtual 50, 3) := by decide +kernel
theorem dL_isNet_139 : decode cL_isNet 139 = .ok (.iload 5, 2) := by decide +kernel
theorem dL_isNet_141 : decode cL_isNet 141 = .ok (.if_icmp .ne 7, 3) := by decide +kernel
theorem dL_isNet_144 : decode cL_isNet 144 = .ok (.iconst 1, 1) := by decide +kernel
theorem dL_isNet_145 : decode cL_isNet 145 = .ok (.goto 4, 3) := by decide +kernel
theorem dL_isNet_148 : decode cL_isNet 148 = .ok (.iconst 0, 1) := by decide +kernel
theorem dL_isNet_149 : decode cL_isNet 149 = .ok (.if_icmp .ne 18, 3) := by decide +kernel
theorem dL_isNet_152 : decode cL_isNet 152 = .ok (.iload 6, 2) := by decide +kernel
theorem dL_isNet_154 : decode cL_isNet 154 = .ok (.aload_n 0, 1) := by decide +kernel
theorem dL_isNet_155 : decode cL_isNet 155 = .ok (.iload_n 3, 1) := by decide +kernel
theorem dL_isNet_156 : decode cL_isNet 156 = .ok (.iload_n 2, 1) := by decide +kernel
theorem dL_isNet_157 : decode cL_isNet 157 = .ok (.invokevirtual 53, 3) := by decide +kernel
theorem dL_isNet_160 : decode cL_isNet 160 = .ok (.if_icmp .ne 7, 3) := by decide +kernel
theorem dL_isNet_163 : decode cL_isNet 163 = .ok (.iconst 1, 1) := by decide +kernel
theorem dL_isNet_164 : decode cL_isNet 164 = .ok (.goto 4, 3) := by decide +kernel
theorem dL_isNet_167 : decode cL_isNet 167 = .ok (.iconst 0, 1) := by decide +kernel
theorem dL_isNet_168 : decode cL_isNet 168 = .ok (.istore 7, 2) := by decide +kernel
theorem dL_isNet_170 : decode cL_isNet 170 = .ok (.iconst 0, 1) := by decide +kernel
theorem dL_isNet_171 : decode cL_isNet 171 = .ok (.istore 8, 2) := by decide +kernel
theorem dL_isNet_173 : decode cL_isNet 173 = .ok (.iconst 0, 1) := by decide +kernel
theorem dL_isNet_174 : decode cL_isNet 174 = .ok (.istore 9, 2) := by decide +kernel
theorem dL_isNet_176 : decode cL_isNet 176 = .ok (.iload 9, 2) := by decide +kernel
theorem dL_isNet_178 : decode cL_isNet 178 = .ok (.bipush 64, 2) := by decide +kernel
theorem dL_isNet_180 : decode cL_isNet 180 = .ok (.if_icmp .ge 110, 3) := by decide +kernel
theorem dL_isNet_183 : decode cL_isNet 183 = .ok (.iload 7, 2) := by decide +kernel
theorem dL_isNet_185 : decode cL_isNet 185 = .ok (.ifCond .eq 105, 3) := by decide +kernel
theorem dL_isNet_188 : decode cL_isNet 188 = .ok (.aload_n 1, 1) := by decide +kernel
theorem dL_isNet_189 : decode cL_isNet 189 = .ok (.iload 9, 2) := by decide +kernel
theorem dL_isNet_191 : decode cL_isNet 191 = .ok (.iaload, 1) := by decide +kernel
theorem dL_isNet_192 : decode cL_isNet 192 = .ok (.iconst 1, 1) := by decide +kernel
theorem dL_isNet_193 : decode cL_isNet 193 = .ok (.if_icmp .ne 91, 3) := by decide +kernel
theorem dL_isNet_196 : decode cL_isNet 196 = .ok (.iload 9, 2) := by decide +kernel
theorem dL_isNet_198 : decode cL_isNet 198 = .ok (.iload 4, 2) := by decide +kernel
theorem dL_isNet_200 : decode cL_isNet 200 = .ok (.invokestatic 75, 3) := by decide +kernel
theorem dL_isNet_203 : decode cL_isNet 203 = .ok (.ifCond .eq 81, 3) := by decide +kernel
theorem dL_isNet_206 : decode cL_isNet 206 = .ok (.aload_n 0, 1) := by decide +kernel
theorem dL_isNet_207 : decode cL_isNet 207 = .ok (.iload 9, 2) := by decide +kernel
theorem dL_isNet_209 : decode cL_isNet 209 = .ok (.iload_n 3, 1) := by decide +kernel
theorem dL_isNet_210 : decode cL_isNet 210 = .ok (.invokevirtual 53, 3) := by decide +kernel
theorem dL_isNet_213 : decode cL_isNet 213 = .ok (.istore 10, 2) := by decide +kernel
theorem dL_isNet_215 : decode cL_isNet 215 = .ok (.aload_n 0, 1) := by decide +kernel
theorem dL_isNet_216 : decode cL_isNet 216 = .ok (.iload 9, 2) := by decide +kernel
theorem dL_isNet_218 : decode cL_isNet 218 = .ok (.invokevirtual 50, 3) := by decide +kernel
theorem dL_isNet_221 : decode cL_isNet 221 = .ok (.iload 5, 2) := by decide +kernel
theorem dL_isNet_223 : decode cL_isNet 223 = .ok (.if_icmp .ne 39, 3) := by decide +kernel
theorem dL_isNet_226 : decode cL_isNet 226 = .ok (.iload 6, 2) := by decide +kernel
theorem dL_isNet_228 : decode cL_isNet 228 = .ok (.ifCond .ge 12, 3) := by decide +kernel
theorem dL_isNet_231 : decode cL_isNet 231 = .ok (.iload 10, 2) := by decide +kernel
theorem dL_isNet_233 : decode cL_isNet 233 = .ok (.iconst (-1), 1) := by decide +kernel
