theorem dL_isNet_234 : decode cL_isNet 234 = .ok (.if_icmp .ne 28, 3) := by decide +kernel
theorem dL_isNet_237 : decode cL_isNet 237 = .ok (.goto 21, 3) := by decide +kernel
theorem dL_isNet_240 : decode cL_isNet 240 = .ok (.iload 10, 2) := by decide +kernel
theorem dL_isNet_242 : decode cL_isNet 242 = .ok (.iload 6, 2) := by decide +kernel
theorem dL_isNet_244 : decode cL_isNet 244 = .ok (.isub, 1) := by decide +kernel
theorem dL_isNet_245 : decode cL_isNet 245 = .ok (.iconst 1, 1) := by decide +kernel
theorem dL_isNet_246 : decode cL_isNet 246 = .ok (.if_icmp .gt 16, 3) := by decide +kernel
theorem dL_isNet_249 : decode cL_isNet 249 = .ok (.iload 6, 2) := by decide +kernel
theorem dL_isNet_251 : decode cL_isNet 251 = .ok (.iload 10, 2) := by decide +kernel
theorem dL_isNet_253 : decode cL_isNet 253 = .ok (.isub, 1) := by decide +kernel
theorem dL_isNet_254 : decode cL_isNet 254 = .ok (.iconst 1, 1) := by decide +kernel
theorem dL_isNet_255 : decode cL_isNet 255 = .ok (.if_icmp .gt 7, 3) := by decide +kernel
theorem dL_isNet_258 : decode cL_isNet 258 = .ok (.iconst 1, 1) := by decide +kernel
theorem dL_isNet_259 : decode cL_isNet 259 = .ok (.goto 4, 3) := by decide +kernel
theorem dL_isNet_262 : decode cL_isNet 262 = .ok (.iconst 0, 1) := by decide +kernel
theorem dL_isNet_263 : decode cL_isNet 263 = .ok (.istore 7, 2) := by decide +kernel
theorem dL_isNet_265 : decode cL_isNet 265 = .ok (.iload 8, 2) := by decide +kernel
theorem dL_isNet_267 : decode cL_isNet 267 = .ok (.iload 10, 2) := by decide +kernel
theorem dL_isNet_269 : decode cL_isNet 269 = .ok (.iload 6, 2) := by decide +kernel
theorem dL_isNet_271 : decode cL_isNet 271 = .ok (.iconst 1, 1) := by decide +kernel
theorem dL_isNet_272 : decode cL_isNet 272 = .ok (.isub, 1) := by decide +kernel
theorem dL_isNet_273 : decode cL_isNet 273 = .ok (.if_icmp .ne 7, 3) := by decide +kernel
theorem dL_isNet_276 : decode cL_isNet 276 = .ok (.iconst 1, 1) := by decide +kernel
theorem dL_isNet_277 : decode cL_isNet 277 = .ok (.goto 4, 3) := by decide +kernel
theorem dL_isNet_280 : decode cL_isNet 280 = .ok (.iconst 0, 1) := by decide +kernel
theorem dL_isNet_281 : decode cL_isNet 281 = .ok (.iadd, 1) := by decide +kernel
theorem dL_isNet_282 : decode cL_isNet 282 = .ok (.istore 8, 2) := by decide +kernel
theorem dL_isNet_284 : decode cL_isNet 284 = .ok (.iinc 9 1, 3) := by decide +kernel
theorem dL_isNet_287 : decode cL_isNet 287 = .ok (.goto (-111), 3) := by decide +kernel
theorem dL_isNet_290 : decode cL_isNet 290 = .ok (.iload 7, 2) := by decide +kernel
theorem dL_isNet_292 : decode cL_isNet 292 = .ok (.ifCond .eq 18, 3) := by decide +kernel
theorem dL_isNet_295 : decode cL_isNet 295 = .ok (.iload 6, 2) := by decide +kernel
theorem dL_isNet_297 : decode cL_isNet 297 = .ok (.iconst 1, 1) := by decide +kernel
theorem dL_isNet_298 : decode cL_isNet 298 = .ok (.if_icmp .lt 8, 3) := by decide +kernel
theorem dL_isNet_301 : decode cL_isNet 301 = .ok (.iload 8, 2) := by decide +kernel
theorem dL_isNet_303 : decode cL_isNet 303 = .ok (.ifCond .le 7, 3) := by decide +kernel
theorem dL_isNet_306 : decode cL_isNet 306 = .ok (.iconst 1, 1) := by decide +kernel
theorem dL_isNet_307 : decode cL_isNet 307 = .ok (.goto 4, 3) := by decide +kernel
theorem dL_isNet_310 : decode cL_isNet 310 = .ok (.iconst 0, 1) := by decide +kernel
theorem dL_isNet_311 : decode cL_isNet 311 = .ok (.ireturn, 1) := by decide +kernel
set_option maxRecDepth 20000 in
theorem ggL_isCell_L_road : GoodIn wsL_isCell wsL_road := goodIn_r _ [4, 5, 6, 3, 7] (by decide +kernel) (by decide +kernel)
set_option maxRecDepth 20000 in
theorem gL_isCell_L_road : GoodIn wsL_isCell (va_wsS RL 85 yL_road wsL_road) := goodIn_app (goodIn_of _ (by decide +kernel)) ggL_isCell_L_road
set_option maxRecDepth 20000 in
theorem ggL_isCell_X6_traffic : GoodIn wsL_isCell wsX6_traffic := goodIn_ca (goodIn_r _ [12, 13, 14, 15, 11, 16, 17, 18, 19, 20, 21, 22, 23, 24, 25, 26, 27, 28, 29, 30, 398, 399, 400, 401, 402, 403, 404, 405, 406, 407, 408, 409, 410] (by decide +kernel) (by decide +kernel)) (goodIn_sub (fun _ h => List.mem_cons_of_mem _ (List.mem_append_right _ h)) (by decide +kernel))
set_option maxRecDepth 20000 in
theorem gL_isCell_X6_traffic : GoodIn wsL_isCell (wsV RL 63 RX6 yX6_traffic wsX6_traffic) := goodIn_app (goodIn_of _ (by decide +kernel)) ggL_isCell_X6_traffic
set_option maxRecDepth 20000 in
theorem ggL_isCell_X6_going : GoodIn wsL_isCell wsX6_going := goodIn_ca (goodIn_r _ [34, 13, 14, 15, 11, 16, 17, 18, 35, 36, 37, 22, 38, 39, 40, 41, 42, 25, 26, 27, 28, 29, 30, 398, 399, 400, 401, 402, 403, 404, 405, 406, 407, 408, 409, 410] (by decide +kernel) (by decide +kernel)) (goodIn_sub (fun _ h => List.mem_cons_of_mem _ (List.mem_append_right _ h)) (by decide +kernel))
set_option maxRecDepth 20000 in
theorem gL_isCell_X6_going : GoodIn wsL_isCell (wsV RL 72 RX6 yX6_going wsX6_going) := goodIn_app (goodIn_of _ (by decide +kernel)) ggL_isCell_X6_going
set_option maxRecDepth 20000 in
theorem ggL_isCell_X6_placed : GoodIn wsL_isCell wsX6_placed := goodIn_ca (goodIn_r _ [46, 13, 14, 15, 11, 16, 17, 18, 47, 48, 49, 22, 50, 51, 25, 26, 27, 28, 29, 30, 398, 399, 400, 401, 402, 403, 404, 405, 406, 407, 408, 409, 410] (by decide +kernel) (by decide +kernel)) (goodIn_sub (fun _ h => List.mem_cons_of_mem _ (List.mem_append_right _ h)) (by decide +kernel))
set_option maxRecDepth 20000 in
theorem gL_isCell_X6_placed : GoodIn wsL_isCell (wsV RL 60 RX6 yX6_placed wsX6_placed) := goodIn_app (goodIn_of _ (by decide +kernel)) ggL_isCell_X6_placed
set_option maxRecDepth 20000 in
theorem ggL_isCell_X6_kind : GoodIn wsL_isCell wsX6_kind := goodIn_ca (goodIn_r _ [55, 56, 14, 15, 11, 16, 17, 18, 57, 58, 59, 60, 61, 62, 63, 26, 27, 28, 29, 30, 398, 399, 400, 401, 402, 411, 412, 410] (by decide +kernel) (by decide +kernel)) (goodIn_sub (fun _ h => List.mem_cons_of_mem _ (List.mem_append_right _ h)) (by decide +kernel))
set_option maxRecDepth 20000 in
theorem gL_isCell_X6_kind : GoodIn wsL_isCell (wsV RL 40 RX6 yX6_kind wsX6_kind) := goodIn_app (goodIn_of _ (by decide +kernel)) ggL_isCell_X6_kind
set_option maxRecDepth 20000 in
theorem ggL_isCell_X6_level : GoodIn wsL_isCell wsX6_level := goodIn_ca (goodIn_r _ [67, 56, 14, 15, 11, 16, 17, 18, 68, 69, 70, 60, 71, 72, 63, 26, 27, 28, 29, 30, 398, 399, 400, 401, 402, 411, 412, 410] (by decide +kernel) (by decide +kernel)) (goodIn_sub (fun _ h => List.mem_cons_of_mem _ (List.mem_append_right _ h)) (by decide +kernel))
set_option maxRecDepth 20000 in
theorem gL_isCell_X6_level : GoodIn wsL_isCell (wsV RL 43 RX6 yX6_level wsX6_level) := goodIn_app (goodIn_of _ (by decide +kernel)) ggL_isCell_X6_level
set_option maxRecDepth 20000 in
theorem ggL_isCell_X6_value : GoodIn wsL_isCell wsX6_value := goodIn_ca (goodIn_r _ [76, 14, 15, 11, 16, 17, 18, 77, 78, 79, 80, 56, 81, 13, 82, 83, 84, 85, 86, 87, 88, 60, 89, 62, 63, 26, 27, 28, 29, 30, 90, 91, 92, 93, 94, 95, 96, 97, 98, 99, 100, 101, 19, 20, 21, 22, 23, 24, 25, 398, 399, 400, 401, 402, 411, 412, 410, 413, 414, 415, 416, 417, 403, 404, 405, 406, 407, 408, 409] (by decide +kernel) (by decide +kernel)) (goodIn_sub (fun _ h => List.mem_cons_of_mem _ (List.mem_append_right _ h)) (by decide +kernel))
set_option maxRecDepth 20000 in
theorem gL_isCell_X6_value : GoodIn wsL_isCell (wsV RL 66 RX6 yX6_value wsX6_value) := goodIn_app (goodIn_of _ (by decide +kernel)) ggL_isCell_X6_value
set_option maxRecDepth 20000 in
theorem ggL_isCell_L_isText : GoodIn wsL_isCell wsL_isText := goodIn_ca (goodIn_r _ [104, 105, 106, 107, 3, 108, 109, 52, 53, 54, 11, 55, 56, 14, 15, 16, 17, 18, 57, 58, 59, 60, 61, 62, 63, 26, 27, 28, 29, 30, 64, 65, 66, 67, 68, 69, 70, 71, 72, 110, 111, 112, 113, 114, 115, 116, 117, 118, 119, 120, 121, 122, 123, 124, 125, 126, 127, 128, 129, 130, 131, 132, 133, 134, 135, 136, 137, 138, 139, 140, 141, 142, 143, 144, 145, 146, 147, 148, 149, 150, 151, 152, 153, 154, 155, 156, 157, 158, 159, 160, 161, 162, 163, 164, 165, 166, 167, 168, 169, 170, 171, 172, 83, 84, 85, 173, 174, 175, 176, 177, 178, 179, 180, 181, 182, 183, 184, 185, 186, 187, 188, 189, 190, 191, 192, 193, 194, 195, 196, 197, 198, 199, 200, 201, 202, 203, 204, 205, 206, 207, 208, 209, 210, 211, 212, 213, 214, 215, 216, 217, 218, 219, 220, 221, 222, 223, 224, 225, 226, 227, 228, 229, 230, 231, 232, 233, 234, 235, 236, 237, 238, 239, 240, 241, 242, 243, 244, 245, 246, 247, 248, 249, 250, 251, 252, 253, 254, 255, 256, 257, 258, 259, 260, 261, 262, 263, 264, 265, 266, 267, 268, 269, 270, 271, 272, 273, 274, 275, 276, 277, 278, 279, 280, 281, 282, 283, 284, 285, 286, 287, 288, 289, 290, 291, 292, 293, 294, 295, 296, 297, 298, 299, 300, 301, 302, 303, 304, 305, 306, 307, 308, 309, 310, 311, 312, 313, 314, 315, 316, 317, 318, 319, 320, 321, 322, 323, 324, 325, 326, 327, 328, 329, 330, 331, 332, 333, 334, 335, 336, 337, 338, 339, 340, 341, 342, 343, 344, 345, 346, 347, 348, 349, 350, 351, 352, 353, 354, 355, 356, 357, 358, 359, 360, 361, 362, 81, 363, 364, 365, 98, 366, 100, 367, 101, 368, 369, 370, 371, 372, 373, 374, 375, 376, 377, 378, 379, 380, 381, 382, 383, 384, 385, 386, 387, 388, 43, 44, 45, 46, 13, 47, 48, 49, 22, 50, 51, 25, 8, 9, 10, 12, 19, 20, 21, 23, 24, 73, 74, 75, 76, 77, 78, 79, 80, 82, 86, 87, 88, 89, 90, 91, 92, 93, 94, 95, 96, 97, 99, 389, 390, 391, 392, 393, 394, 395, 396, 397, 31, 32, 33, 34, 35, 36, 37, 38, 39, 40, 41, 42, 398, 399, 400, 401, 402, 411, 412, 410, 418, 419, 420, 421, 422, 423, 424, 425, 413, 414, 415, 416, 417, 426, 427, 428, 403, 404, 405, 406, 407, 408, 409] (by decide +kernel) (by decide +kernel)) (goodIn_sub (fun _ h => List.mem_cons_of_mem _ (List.mem_append_right _ h)) (by decide +kernel))
set_option maxRecDepth 20000 in
theorem gL_isCell_L_isText : GoodIn wsL_isCell (va_wsS RL 89 yL_isText wsL_isText) := goodIn_app (goodIn_of _ (by decide +kernel)) ggL_isCell_L_isText
set_option maxRecDepth 20000 in
theorem ggL_isCell_X6_isServed : GoodIn wsL_isCell wsX6_isServed := goodIn_ca (goodIn_r _ [380, 381, 14, 15, 11, 16, 17, 18, 382, 383, 384, 385, 386, 387, 388, 26, 27, 28, 29, 30, 398, 399, 400, 401, 402, 426, 427, 428, 410] (by decide +kernel) (by decide +kernel)) (goodIn_sub (fun _ h => List.mem_cons_of_mem _ (List.mem_append_right _ h)) (by decide +kernel))
set_option maxRecDepth 20000 in
theorem gL_isCell_X6_isServed : GoodIn wsL_isCell (wsV RL 56 RX6 yX6_isServed wsX6_isServed) := goodIn_app (goodIn_of _ (by decide +kernel)) ggL_isCell_X6_isServed
theorem dL_isCell_0 : decode cL_isCell 0 = .ok (.bipush 10, 2) := by decide +kernel
theorem dL_isCell_2 : decode cL_isCell 2 = .ok (.istore 4, 2) := by decide +kernel
theorem dL_isCell_4 : decode cL_isCell 4 = .ok (.iconst 0, 1) := by decide +kernel
theorem dL_isCell_5 : decode cL_isCell 5 = .ok (.istore 5, 2) := by decide +kernel
theorem dL_isCell_7 : decode cL_isCell 7 = .ok (.iload 5, 2) := by decide +kernel
theorem dL_isCell_9 : decode cL_isCell 9 = .ok (.bipush 64, 2) := by decide +kernel
theorem dL_isCell_11 : decode cL_isCell 11 = .ok (.if_icmp .ge 127, 3) := by decide +kernel
theorem dL_isCell_14 : decode cL_isCell 14 = .ok (.iload 5, 2) := by decide +kernel
theorem dL_isCell_16 : decode cL_isCell 16 = .ok (.bipush 8, 2) := by decide +kernel
theorem dL_isCell_18 : decode cL_isCell 18 = .ok (.idiv, 1) := by decide +kernel
theorem dL_isCell_19 : decode cL_isCell 19 = .ok (.iload_n 3, 1) := by decide +kernel
theorem dL_isCell_20 : decode cL_isCell 20 = .ok (.bipush 8, 2) := by decide +kernel
theorem dL_isCell_22 : decode cL_isCell 22 = .ok (.idiv, 1) := by decide +kernel
theorem dL_isCell_23 : decode cL_isCell 23 = .ok (.if_icmp .le 16, 3) := by decide +kernel
theorem dL_isCell_26 : decode cL_isCell 26 = .ok (.iload 5, 2) := by decide +kernel
theorem dL_isCell_28 : decode cL_isCell 28 = .ok (.bipush 8, 2) := by decide +kernel
theorem dL_isCell_30 : decode cL_isCell 30 = .ok (.idiv, 1) := by decide +kernel
theorem dL_isCell_31 : decode cL_isCell 31 = .ok (.iload_n 3, 1) := by decide +kernel
theorem dL_isCell_32 : decode cL_isCell 32 = .ok (.bipush 8, 2) := by decide +kernel
theorem dL_isCell_34 : decode cL_isCell 34 = .ok (.idiv, 1) := by decide +kernel
theorem dL_isCell_35 : decode cL_isCell 35 = .ok (.isub, 1) := by decide +kernel
theorem dL_isCell_36 : decode cL_isCell 36 = .ok (.goto 13, 3) := by decide +kernel
theorem dL_isCell_39 : decode cL_isCell 39 = .ok (.iload_n 3, 1) := by decide +kernel
theorem dL_isCell_40 : decode cL_isCell 40 = .ok (.bipush 8, 2) := by decide +kernel
theorem dL_isCell_42 : decode cL_isCell 42 = .ok (.idiv, 1) := by decide +kernel
theorem dL_isCell_43 : decode cL_isCell 43 = .ok (.iload 5, 2) := by decide +kernel
theorem dL_isCell_45 : decode cL_isCell 45 = .ok (.bipush 8, 2) := by decide +kernel
theorem dL_isCell_47 : decode cL_isCell 47 = .ok (.idiv, 1) := by decide +kernel
theorem dL_isCell_48 : decode cL_isCell 48 = .ok (.isub, 1) := by decide +kernel
theorem dL_isCell_49 : decode cL_isCell 49 = .ok (.istore 6, 2) := by decide +kernel
theorem dL_isCell_51 : decode cL_isCell 51 = .ok (.iload 5, 2) := by decide +kernel
theorem dL_isCell_53 : decode cL_isCell 53 = .ok (.bipush 8, 2) := by decide +kernel
theorem dL_isCell_55 : decode cL_isCell 55 = .ok (.irem, 1) := by decide +kernel
theorem dL_isCell_56 : decode cL_isCell 56 = .ok (.iload_n 3, 1) := by decide +kernel
theorem dL_isCell_57 : decode cL_isCell 57 = .ok (.bipush 8, 2) := by decide +kernel
theorem dL_isCell_59 : decode cL_isCell 59 = .ok (.irem, 1) := by decide +kernel
theorem dL_isCell_60 : decode cL_isCell 60 = .ok (.if_icmp .le 16, 3) := by decide +kernel
theorem dL_isCell_63 : decode cL_isCell 63 = .ok (.iload 5, 2) := by decide +kernel
theorem dL_isCell_65 : decode cL_isCell 65 = .ok (.bipush 8, 2) := by decide +kernel
theorem dL_isCell_67 : decode cL_isCell 67 = .ok (.irem, 1) := by decide +kernel
theorem dL_isCell_68 : decode cL_isCell 68 = .ok (.iload_n 3, 1) := by decide +kernel
theorem dL_isCell_69 : decode cL_isCell 69 = .ok (.bipush 8, 2) := by decide +kernel
theorem dL_isCell_71 : decode cL_isCell 71 = .ok (.irem, 1) := by decide +kernel
theorem dL_isCell_72 : decode cL_isCell 72 = .ok (.isub, 1) := by decide +kernel
theorem dL_isCell_73 : decode cL_isCell 73 = .ok (.goto 13, 3) := by decide +kernel
theorem dL_isCell_76 : decode cL_isCell 76 = .ok (.iload_n 3, 1) := by decide +kernel
theorem dL_isCell_77 : decode cL_isCell 77 = .ok (.bipush 8, 2) := by decide +kernel
theorem dL_isCell_79 : decode cL_isCell 79 = .ok (.irem, 1) := by decide +kernel
theorem dL_isCell_80 : decode cL_isCell 80 = .ok (.iload 5, 2) := by decide +kernel
theorem dL_isCell_82 : decode cL_isCell 82 = .ok (.bipush 8, 2) := by decide +kernel
theorem dL_isCell_84 : decode cL_isCell 84 = .ok (.irem, 1) := by decide +kernel
theorem dL_isCell_85 : decode cL_isCell 85 = .ok (.isub, 1) := by decide +kernel
theorem dL_isCell_86 : decode cL_isCell 86 = .ok (.istore 7, 2) := by decide +kernel
theorem dL_isCell_88 : decode cL_isCell 88 = .ok (.iload 4, 2) := by decide +kernel
theorem dL_isCell_90 : decode cL_isCell 90 = .ok (.iload 6, 2) := by decide +kernel
theorem dL_isCell_92 : decode cL_isCell 92 = .ok (.iload 7, 2) := by decide +kernel
theorem dL_isCell_94 : decode cL_isCell 94 = .ok (.iadd, 1) := by decide +kernel
theorem dL_isCell_95 : decode cL_isCell 95 = .ok (.iconst 2, 1) := by decide +kernel
theorem dL_isCell_96 : decode cL_isCell 96 = .ok (.if_icmp .le 7, 3) := by decide +kernel
theorem dL_isCell_99 : decode cL_isCell 99 = .ok (.iconst 0, 1) := by decide +kernel
theorem dL_isCell_100 : decode cL_isCell 100 = .ok (.goto 29, 3) := by decide +kernel
theorem dL_isCell_103 : decode cL_isCell 103 = .ok (.aload_n 1, 1) := by decide +kernel
theorem dL_isCell_104 : decode cL_isCell 104 = .ok (.iload 5, 2) := by decide +kernel
theorem dL_isCell_106 : decode cL_isCell 106 = .ok (.iaload, 1) := by decide +kernel
theorem dL_isCell_107 : decode cL_isCell 107 = .ok (.iconst 4, 1) := by decide +kernel
theorem dL_isCell_108 : decode cL_isCell 108 = .ok (.if_icmp .ne 7, 3) := by decide +kernel
theorem dL_isCell_111 : decode cL_isCell 111 = .ok (.iconst 5, 1) := by decide +kernel
theorem dL_isCell_112 : decode cL_isCell 112 = .ok (.goto 17, 3) := by decide +kernel
theorem dL_isCell_115 : decode cL_isCell 115 = .ok (.aload_n 1, 1) := by decide +kernel
theorem dL_isCell_116 : decode cL_isCell 116 = .ok (.iload 5, 2) := by decide +kernel
theorem dL_isCell_118 : decode cL_isCell 118 = .ok (.iaload, 1) := by decide +kernel
theorem dL_isCell_119 : decode cL_isCell 119 = .ok (.iconst 5, 1) := by decide +kernel
theorem dL_isCell_120 : decode cL_isCell 120 = .ok (.if_icmp .ne 8, 3) := by decide +kernel
theorem dL_isCell_123 : decode cL_isCell 123 = .ok (.bipush (-10), 2) := by decide +kernel
theorem dL_isCell_125 : decode cL_isCell 125 = .ok (.goto 4, 3) := by decide +kernel
theorem dL_isCell_128 : decode cL_isCell 128 = .ok (.iconst 0, 1) := by decide +kernel
theorem dL_isCell_129 : decode cL_isCell 129 = .ok (.iadd, 1) := by decide +kernel
theorem dL_isCell_130 : decode cL_isCell 130 = .ok (.istore 4, 2) := by decide +kernel
theorem dL_isCell_132 : decode cL_isCell 132 = .ok (.iinc 5 1, 3) := by decide +kernel
theorem dL_isCell_135 : decode cL_isCell 135 = .ok (.goto (-128), 3) := by decide +kernel
theorem dL_isCell_138 : decode cL_isCell 138 = .ok (.aload_n 1, 1) := by decide +kernel
theorem dL_isCell_139 : decode cL_isCell 139 = .ok (.iload_n 3, 1) := by decide +kernel
theorem dL_isCell_140 : decode cL_isCell 140 = .ok (.invokestatic 85, 3) := by decide +kernel
theorem dL_isCell_143 : decode cL_isCell 143 = .ok (.istore 5, 2) := by decide +kernel
theorem dL_isCell_145 : decode cL_isCell 145 = .ok (.iload 4, 2) := by decide +kernel
theorem dL_isCell_147 : decode cL_isCell 147 = .ok (.aload_n 1, 1) := by decide +kernel
theorem dL_isCell_148 : decode cL_isCell 148 = .ok (.iload_n 3, 1) := by decide +kernel
theorem dL_isCell_149 : decode cL_isCell 149 = .ok (.iaload, 1) := by decide +kernel
theorem dL_isCell_150 : decode cL_isCell 150 = .ok (.iconst 1, 1) := by decide +kernel
theorem dL_isCell_151 : decode cL_isCell 151 = .ok (.if_icmp .eq 17, 3) := by decide +kernel
theorem dL_isCell_154 : decode cL_isCell 154 = .ok (.iload 5, 2) := by decide +kernel
theorem dL_isCell_156 : decode cL_isCell 156 = .ok (.ifCond .lt 12, 3) := by decide +kernel
theorem dL_isCell_159 : decode cL_isCell 159 = .ok (.aload_n 0, 1) := by decide +kernel
theorem dL_isCell_160 : decode cL_isCell 160 = .ok (.iload 5, 2) := by decide +kernel
theorem dL_isCell_162 : decode cL_isCell 162 = .ok (.invokevirtual 63, 3) := by decide +kernel
theorem dL_isCell_165 : decode cL_isCell 165 = .ok (.goto 4, 3) := by decide +kernel
theorem dL_isCell_168 : decode cL_isCell 168 = .ok (.iconst 0, 1) := by decide +kernel
theorem dL_isCell_169 : decode cL_isCell 169 = .ok (.isub, 1) := by decide +kernel
theorem dL_isCell_170 : decode cL_isCell 170 = .ok (.istore 4, 2) := by decide +kernel
theorem dL_isCell_172 : decode cL_isCell 172 = .ok (.iconst 0, 1) := by decide +kernel
theorem dL_isCell_173 : decode cL_isCell 173 = .ok (.istore 6, 2) := by decide +kernel
theorem dL_isCell_175 : decode cL_isCell 175 = .ok (.iconst 0, 1) := by decide +kernel
theorem dL_isCell_176 : decode cL_isCell 176 = .ok (.istore 7, 2) := by decide +kernel
theorem dL_isCell_178 : decode cL_isCell 178 = .ok (.iload 7, 2) := by decide +kernel
theorem dL_isCell_180 : decode cL_isCell 180 = .ok (.bipush 64, 2) := by decide +kernel
theorem dL_isCell_182 : decode cL_isCell 182 = .ok (.if_icmp .ge 65, 3) := by decide +kernel
theorem dL_isCell_185 : decode cL_isCell 185 = .ok (.iload 6, 2) := by decide +kernel
theorem dL_isCell_187 : decode cL_isCell 187 = .ok (.aload_n 1, 1) := by decide +kernel
theorem dL_isCell_188 : decode cL_isCell 188 = .ok (.iload_n 3, 1) := by decide +kernel
theorem dL_isCell_189 : decode cL_isCell 189 = .ok (.iaload, 1) := by decide +kernel
theorem dL_isCell_190 : decode cL_isCell 190 = .ok (.iconst 2, 1) := by decide +kernel
theorem dL_isCell_191 : decode cL_isCell 191 = .ok (.if_icmp .ne 21, 3) := by decide +kernel
theorem dL_isCell_194 : decode cL_isCell 194 = .ok (.aload_n 1, 1) := by decide +kernel
theorem dL_isCell_195 : decode cL_isCell 195 = .ok (.iload 7, 2) := by decide +kernel
theorem dL_isCell_197 : decode cL_isCell 197 = .ok (.iaload, 1) := by decide +kernel
theorem dL_isCell_198 : decode cL_isCell 198 = .ok (.iconst 3, 1) := by decide +kernel
theorem dL_isCell_199 : decode cL_isCell 199 = .ok (.if_icmp .ne 13, 3) := by decide +kernel
theorem dL_isCell_202 : decode cL_isCell 202 = .ok (.aload_n 0, 1) := by decide +kernel
theorem dL_isCell_203 : decode cL_isCell 203 = .ok (.iload_n 3, 1) := by decide +kernel
theorem dL_isCell_204 : decode cL_isCell 204 = .ok (.iload 7, 2) := by decide +kernel
theorem dL_isCell_206 : decode cL_isCell 206 = .ok (.invokevirtual 72, 3) := by decide +kernel
theorem dL_isCell_209 : decode cL_isCell 209 = .ok (.goto 29, 3) := by decide +kernel
theorem dL_isCell_212 : decode cL_isCell 212 = .ok (.aload_n 1, 1) := by decide +kernel
theorem dL_isCell_213 : decode cL_isCell 213 = .ok (.iload_n 3, 1) := by decide +kernel
theorem dL_isCell_214 : decode cL_isCell 214 = .ok (.iaload, 1) := by decide +kernel
theorem dL_isCell_215 : decode cL_isCell 215 = .ok (.iconst 3, 1) := by decide +kernel
theorem dL_isCell_216 : decode cL_isCell 216 = .ok (.if_icmp .ne 21, 3) := by decide +kernel
theorem dL_isCell_219 : decode cL_isCell 219 = .ok (.aload_n 1, 1) := by decide +kernel
theorem dL_isCell_220 : decode cL_isCell 220 = .ok (.iload 7, 2) := by decide +kernel
theorem dL_isCell_222 : decode cL_isCell 222 = .ok (.iaload, 1) := by decide +kernel
theorem dL_isCell_223 : decode cL_isCell 223 = .ok (.iconst 2, 1) := by decide +kernel
theorem dL_isCell_224 : decode cL_isCell 224 = .ok (.if_icmp .ne 13, 3) := by decide +kernel
theorem dL_isCell_227 : decode cL_isCell 227 = .ok (.aload_n 0, 1) := by decide +kernel
theorem dL_isCell_228 : decode cL_isCell 228 = .ok (.iload 7, 2) := by decide +kernel
theorem dL_isCell_230 : decode cL_isCell 230 = .ok (.iload_n 3, 1) := by decide +kernel
theorem dL_isCell_231 : decode cL_isCell 231 = .ok (.invokevirtual 72, 3) := by decide +kernel
theorem dL_isCell_234 : decode cL_isCell 234 = .ok (.goto 4, 3) := by decide +kernel
theorem dL_isCell_237 : decode cL_isCell 237 = .ok (.iconst 0, 1) := by decide +kernel
theorem dL_isCell_238 : decode cL_isCell 238 = .ok (.iadd, 1) := by decide +kernel
theorem dL_isCell_239 : decode cL_isCell 239 = .ok (.istore 6, 2) := by decide +kernel
theorem dL_isCell_241 : decode cL_isCell 241 = .ok (.iinc 7 1, 3) := by decide +kernel
theorem dL_isCell_244 : decode cL_isCell 244 = .ok (.goto (-66), 3) := by decide +kernel
theorem dL_isCell_247 : decode cL_isCell 247 = .ok (.aload_n 0, 1) := by decide +kernel
theorem dL_isCell_248 : decode cL_isCell 248 = .ok (.iload_n 3, 1) := by decide +kernel
theorem dL_isCell_249 : decode cL_isCell 249 = .ok (.invokevirtual 60, 3) := by decide +kernel
theorem dL_isCell_252 : decode cL_isCell 252 = .ok (.istore 7, 2) := by decide +kernel
theorem dL_isCell_254 : decode cL_isCell 254 = .ok (.aload_n 0, 1) := by decide +kernel
theorem dL_isCell_255 : decode cL_isCell 255 = .ok (.iload_n 3, 1) := by decide +kernel
theorem dL_isCell_256 : decode cL_isCell 256 = .ok (.invokevirtual 40, 3) := by decide +kernel
theorem dL_isCell_259 : decode cL_isCell 259 = .ok (.aload_n 1, 1) := by decide +kernel
theorem dL_isCell_260 : decode cL_isCell 260 = .ok (.iload_n 3, 1) := by decide +kernel
theorem dL_isCell_261 : decode cL_isCell 261 = .ok (.iaload, 1) := by decide +kernel
theorem dL_isCell_262 : decode cL_isCell 262 = .ok (.if_icmp .ne 114, 3) := by decide +kernel
theorem dL_isCell_265 : decode cL_isCell 265 = .ok (.aload_n 0, 1) := by decide +kernel
theorem dL_isCell_266 : decode cL_isCell 266 = .ok (.iload_n 3, 1) := by decide +kernel
theorem dL_isCell_267 : decode cL_isCell 267 = .ok (.invokevirtual 43, 3) := by decide +kernel
theorem dL_isCell_270 : decode cL_isCell 270 = .ok (.aload_n 2, 1) := by decide +kernel
theorem dL_isCell_271 : decode cL_isCell 271 = .ok (.iload_n 3, 1) := by decide +kernel
theorem dL_isCell_272 : decode cL_isCell 272 = .ok (.iaload, 1) := by decide +kernel
theorem dL_isCell_273 : decode cL_isCell 273 = .ok (.if_icmp .ne 103, 3) := by decide +kernel
theorem dL_isCell_276 : decode cL_isCell 276 = .ok (.aload_n 0, 1) := by decide +kernel
theorem dL_isCell_277 : decode cL_isCell 277 = .ok (.iload_n 3, 1) := by decide +kernel
theorem dL_isCell_278 : decode cL_isCell 278 = .ok (.invokevirtual 66, 3) := by decide +kernel
theorem dL_isCell_281 : decode cL_isCell 281 = .ok (.iload 4, 2) := by decide +kernel
theorem dL_isCell_283 : decode cL_isCell 283 = .ok (.ifCond .ge 7, 3) := by decide +kernel
theorem dL_isCell_286 : decode cL_isCell 286 = .ok (.iconst 0, 1) := by decide +kernel
theorem dL_isCell_287 : decode cL_isCell 287 = .ok (.goto 5, 3) := by decide +kernel
theorem dL_isCell_290 : decode cL_isCell 290 = .ok (.iload 4, 2) := by decide +kernel
theorem dL_isCell_292 : decode cL_isCell 292 = .ok (.if_icmp .ne 84, 3) := by decide +kernel
theorem dL_isCell_295 : decode cL_isCell 295 = .ok (.iload 7, 2) := by decide +kernel
theorem dL_isCell_297 : decode cL_isCell 297 = .ok (.iload 6, 2) := by decide +kernel
theorem dL_isCell_299 : decode cL_isCell 299 = .ok (.if_icmp .ne 77, 3) := by decide +kernel
theorem dL_isCell_302 : decode cL_isCell 302 = .ok (.iload 7, 2) := by decide +kernel
theorem dL_isCell_304 : decode cL_isCell 304 = .ok (.ifCond .lt 72, 3) := by decide +kernel
theorem dL_isCell_307 : decode cL_isCell 307 = .ok (.iload 7, 2) := by decide +kernel
theorem dL_isCell_309 : decode cL_isCell 309 = .ok (.iconst 2, 1) := by decide +kernel
theorem dL_isCell_310 : decode cL_isCell 310 = .ok (.aload_n 2, 1) := by decide +kernel
theorem dL_isCell_311 : decode cL_isCell 311 = .ok (.iload_n 3, 1) := by decide +kernel
theorem dL_isCell_312 : decode cL_isCell 312 = .ok (.iaload, 1) := by decide +kernel
theorem dL_isCell_313 : decode cL_isCell 313 = .ok (.imul, 1) := by decide +kernel
theorem dL_isCell_314 : decode cL_isCell 314 = .ok (.if_icmp .gt 62, 3) := by decide +kernel
theorem dL_isCell_317 : decode cL_isCell 317 = .ok (.aload_n 1, 1) := by decide +kernel
theorem dL_isCell_318 : decode cL_isCell 318 = .ok (.iload_n 3, 1) := by decide +kernel
theorem dL_isCell_319 : decode cL_isCell 319 = .ok (.iaload, 1) := by decide +kernel
theorem dL_isCell_320 : decode cL_isCell 320 = .ok (.iconst 1, 1) := by decide +kernel
theorem dL_isCell_321 : decode cL_isCell 321 = .ok (.if_icmp .eq 11, 3) := by decide +kernel
theorem dL_isCell_324 : decode cL_isCell 324 = .ok (.aload_n 0, 1) := by decide +kernel
theorem dL_isCell_325 : decode cL_isCell 325 = .ok (.iload_n 3, 1) := by decide +kernel
theorem dL_isCell_326 : decode cL_isCell 326 = .ok (.invokevirtual 63, 3) := by decide +kernel
theorem dL_isCell_329 : decode cL_isCell 329 = .ok (.ifCond .ne 47, 3) := by decide +kernel
theorem dL_isCell_332 : decode cL_isCell 332 = .ok (.aload_n 0, 1) := by decide +kernel
theorem dL_isCell_333 : decode cL_isCell 333 = .ok (.iload_n 3, 1) := by decide +kernel
theorem dL_isCell_334 : decode cL_isCell 334 = .ok (.invokevirtual 63, 3) := by decide +kernel
theorem dL_isCell_337 : decode cL_isCell 337 = .ok (.ifCond .lt 39, 3) := by decide +kernel
theorem dL_isCell_340 : decode cL_isCell 340 = .ok (.aload_n 0, 1) := by decide +kernel
theorem dL_isCell_341 : decode cL_isCell 341 = .ok (.aload_n 1, 1) := by decide +kernel
theorem dL_isCell_342 : decode cL_isCell 342 = .ok (.aload_n 2, 1) := by decide +kernel
theorem dL_isCell_343 : decode cL_isCell 343 = .ok (.iload_n 3, 1) := by decide +kernel
theorem dL_isCell_344 : decode cL_isCell 344 = .ok (.invokestatic 89, 3) := by decide +kernel
theorem dL_isCell_347 : decode cL_isCell 347 = .ok (.ifCond .eq 29, 3) := by decide +kernel
theorem dL_isCell_350 : decode cL_isCell 350 = .ok (.aload_n 1, 1) := by decide +kernel
theorem dL_isCell_351 : decode cL_isCell 351 = .ok (.iload_n 3, 1) := by decide +kernel
theorem dL_isCell_352 : decode cL_isCell 352 = .ok (.iaload, 1) := by decide +kernel
theorem dL_isCell_353 : decode cL_isCell 353 = .ok (.iconst 2, 1) := by decide +kernel
theorem dL_isCell_354 : decode cL_isCell 354 = .ok (.if_icmp .eq 18, 3) := by decide +kernel
theorem dL_isCell_357 : decode cL_isCell 357 = .ok (.aload_n 1, 1) := by decide +kernel
theorem dL_isCell_358 : decode cL_isCell 358 = .ok (.iload_n 3, 1) := by decide +kernel
theorem dL_isCell_359 : decode cL_isCell 359 = .ok (.iaload, 1) := by decide +kernel
theorem dL_isCell_360 : decode cL_isCell 360 = .ok (.iconst 3, 1) := by decide +kernel
theorem dL_isCell_361 : decode cL_isCell 361 = .ok (.if_icmp .eq 11, 3) := by decide +kernel
theorem dL_isCell_364 : decode cL_isCell 364 = .ok (.aload_n 0, 1) := by decide +kernel
theorem dL_isCell_365 : decode cL_isCell 365 = .ok (.iload_n 3, 1) := by decide +kernel
theorem dL_isCell_366 : decode cL_isCell 366 = .ok (.invokevirtual 56, 3) := by decide +kernel
theorem dL_isCell_369 : decode cL_isCell 369 = .ok (.ifCond .ne 7, 3) := by decide +kernel
theorem dL_isCell_372 : decode cL_isCell 372 = .ok (.iconst 1, 1) := by decide +kernel
theorem dL_isCell_373 : decode cL_isCell 373 = .ok (.goto 4, 3) := by decide +kernel
theorem dL_isCell_376 : decode cL_isCell 376 = .ok (.iconst 0, 1) := by decide +kernel
theorem dL_isCell_377 : decode cL_isCell 377 = .ok (.ireturn, 1) := by decide +kernel
set_option maxRecDepth 20000 in
theorem ggL_isSupplied_X6_net : GoodIn wsL_isSupplied wsX6_net := goodIn_ca (goodIn_r _ [5, 6, 7, 8, 4, 9, 10, 11, 12, 13, 14, 15, 16, 17, 18, 19, 20, 21, 22, 23, 24, 46, 47, 48, 49, 50, 51, 52, 53, 54, 55, 56] (by decide +kernel) (by decide +kernel)) (goodIn_sub (fun _ h => List.mem_cons_of_mem _ (List.mem_append_right _ h)) (by decide +kernel))
set_option maxRecDepth 20000 in
theorem gL_isSupplied_X6_net : GoodIn wsL_isSupplied (wsV RL 50 RX6 yX6_net wsX6_net) := goodIn_app (goodIn_of _ (by decide +kernel)) ggL_isSupplied_X6_net
set_option maxRecDepth 20000 in
theorem ggL_isSupplied_X6_isServed : GoodIn wsL_isSupplied wsX6_isServed := goodIn_ca (goodIn_r _ [28, 29, 7, 8, 4, 9, 10, 11, 30, 31, 32, 33, 34, 35, 36, 20, 21, 22, 23, 24, 46, 47, 48, 49, 50, 57, 58, 59, 56] (by decide +kernel) (by decide +kernel)) (goodIn_sub (fun _ h => List.mem_cons_of_mem _ (List.mem_append_right _ h)) (by decide +kernel))
set_option maxRecDepth 20000 in
theorem gL_isSupplied_X6_isServed : GoodIn wsL_isSupplied (wsV RL 56 RX6 yX6_isServed wsX6_isServed) := goodIn_app (goodIn_of _ (by decide +kernel)) ggL_isSupplied_X6_isServed
set_option maxRecDepth 20000 in
theorem ggL_isSupplied_X6_powerLeft : GoodIn wsL_isSupplied wsX6_powerLeft := goodIn_ca (goodIn_r _ [40, 6, 29, 7, 8, 4, 9, 10, 11, 12, 13, 14, 15, 16, 17, 18, 19, 20, 21, 22, 23, 24, 41, 42, 43, 33, 44, 45, 36, 46, 47, 48, 49, 50, 51, 52, 53, 54, 55, 56, 57, 58, 59] (by decide +kernel) (by decide +kernel)) (goodIn_sub (fun _ h => List.mem_cons_of_mem _ (List.mem_append_right _ h)) (by decide +kernel))
set_option maxRecDepth 20000 in
theorem gL_isSupplied_X6_powerLeft : GoodIn wsL_isSupplied (wsV RL 69 RX6 yX6_powerLeft wsX6_powerLeft) := goodIn_app (goodIn_of _ (by decide +kernel)) ggL_isSupplied_X6_powerLeft
theorem dL_isSupplied_0 : decode cL_isSupplied 0 = .ok (.aload_n 0, 1) := by decide +kernel
theorem dL_isSupplied_1 : decode cL_isSupplied 1 = .ok (.iload_n 3, 1) := by decide +kernel
theorem dL_isSupplied_2 : decode cL_isSupplied 2 = .ok (.invokevirtual 50, 3) := by decide +kernel
theorem dL_isSupplied_5 : decode cL_isSupplied 5 = .ok (.istore 4, 2) := by decide +kernel
theorem dL_isSupplied_7 : decode cL_isSupplied 7 = .ok (.iconst 0, 1) := by decide +kernel
theorem dL_isSupplied_8 : decode cL_isSupplied 8 = .ok (.istore 5, 2) := by decide +kernel
theorem dL_isSupplied_10 : decode cL_isSupplied 10 = .ok (.iconst 0, 1) := by decide +kernel
theorem dL_isSupplied_11 : decode cL_isSupplied 11 = .ok (.istore 6, 2) := by decide +kernel
theorem dL_isSupplied_13 : decode cL_isSupplied 13 = .ok (.iconst 1, 1) := by decide +kernel
theorem dL_isSupplied_14 : decode cL_isSupplied 14 = .ok (.istore 7, 2) := by decide +kernel
theorem dL_isSupplied_16 : decode cL_isSupplied 16 = .ok (.iconst 0, 1) := by decide +kernel
theorem dL_isSupplied_17 : decode cL_isSupplied 17 = .ok (.istore 8, 2) := by decide +kernel
theorem dL_isSupplied_19 : decode cL_isSupplied 19 = .ok (.iload 8, 2) := by decide +kernel
theorem dL_isSupplied_21 : decode cL_isSupplied 21 = .ok (.bipush 64, 2) := by decide +kernel
theorem dL_isSupplied_23 : decode cL_isSupplied 23 = .ok (.if_icmp .ge 89, 3) := by decide +kernel
theorem dL_isSupplied_26 : decode cL_isSupplied 26 = .ok (.iload 4, 2) := by decide +kernel
theorem dL_isSupplied_28 : decode cL_isSupplied 28 = .ok (.ifCond .lt 84, 3) := by decide +kernel
theorem dL_isSupplied_31 : decode cL_isSupplied 31 = .ok (.aload_n 1, 1) := by decide +kernel
theorem dL_isSupplied_32 : decode cL_isSupplied 32 = .ok (.iload 8, 2) := by decide +kernel
theorem dL_isSupplied_34 : decode cL_isSupplied 34 = .ok (.iaload, 1) := by decide +kernel
theorem dL_isSupplied_35 : decode cL_isSupplied 35 = .ok (.iconst 4, 1) := by decide +kernel
theorem dL_isSupplied_36 : decode cL_isSupplied 36 = .ok (.if_icmp .le 18, 3) := by decide +kernel
theorem dL_isSupplied_39 : decode cL_isSupplied 39 = .ok (.aload_n 0, 1) := by decide +kernel
theorem dL_isSupplied_40 : decode cL_isSupplied 40 = .ok (.iload 8, 2) := by decide +kernel
theorem dL_isSupplied_42 : decode cL_isSupplied 42 = .ok (.invokevirtual 50, 3) := by decide +kernel
theorem dL_isSupplied_45 : decode cL_isSupplied 45 = .ok (.iload 4, 2) := by decide +kernel
theorem dL_isSupplied_47 : decode cL_isSupplied 47 = .ok (.if_icmp .ne 7, 3) := by decide +kernel
theorem dL_isSupplied_50 : decode cL_isSupplied 50 = .ok (.iconst 1, 1) := by decide +kernel
theorem dL_isSupplied_51 : decode cL_isSupplied 51 = .ok (.goto 4, 3) := by decide +kernel
theorem dL_isSupplied_54 : decode cL_isSupplied 54 = .ok (.iconst 0, 1) := by decide +kernel
theorem dL_isSupplied_55 : decode cL_isSupplied 55 = .ok (.istore 9, 2) := by decide +kernel
theorem dL_isSupplied_57 : decode cL_isSupplied 57 = .ok (.iload 5, 2) := by decide +kernel
theorem dL_isSupplied_59 : decode cL_isSupplied 59 = .ok (.iload 9, 2) := by decide +kernel
theorem dL_isSupplied_61 : decode cL_isSupplied 61 = .ok (.ifCond .eq 16, 3) := by decide +kernel
theorem dL_isSupplied_64 : decode cL_isSupplied 64 = .ok (.aload_n 1, 1) := by decide +kernel
theorem dL_isSupplied_65 : decode cL_isSupplied 65 = .ok (.iload 8, 2) := by decide +kernel
theorem dL_isSupplied_67 : decode cL_isSupplied 67 = .ok (.iaload, 1) := by decide +kernel
theorem dL_isSupplied_68 : decode cL_isSupplied 68 = .ok (.iconst 5, 1) := by decide +kernel
theorem dL_isSupplied_69 : decode cL_isSupplied 69 = .ok (.if_icmp .ne 8, 3) := by decide +kernel
theorem dL_isSupplied_72 : decode cL_isSupplied 72 = .ok (.bipush 20, 2) := by decide +kernel
theorem dL_isSupplied_74 : decode cL_isSupplied 74 = .ok (.goto 4, 3) := by decide +kernel
theorem dL_isSupplied_77 : decode cL_isSupplied 77 = .ok (.iconst 0, 1) := by decide +kernel
theorem dL_isSupplied_78 : decode cL_isSupplied 78 = .ok (.iadd, 1) := by decide +kernel
theorem dL_isSupplied_79 : decode cL_isSupplied 79 = .ok (.istore 5, 2) := by decide +kernel
theorem dL_isSupplied_81 : decode cL_isSupplied 81 = .ok (.iload 6, 2) := by decide +kernel
theorem dL_isSupplied_83 : decode cL_isSupplied 83 = .ok (.iload 9, 2) := by decide +kernel
theorem dL_isSupplied_85 : decode cL_isSupplied 85 = .ok (.ifCond .eq 17, 3) := by decide +kernel
theorem dL_isSupplied_88 : decode cL_isSupplied 88 = .ok (.aload_n 1, 1) := by decide +kernel
theorem dL_isSupplied_89 : decode cL_isSupplied 89 = .ok (.iload 8, 2) := by decide +kernel
theorem dL_isSupplied_91 : decode cL_isSupplied 91 = .ok (.iaload, 1) := by decide +kernel
theorem dL_isSupplied_92 : decode cL_isSupplied 92 = .ok (.bipush 6, 2) := by decide +kernel
theorem dL_isSupplied_94 : decode cL_isSupplied 94 = .ok (.if_icmp .ne 8, 3) := by decide +kernel
theorem dL_isSupplied_97 : decode cL_isSupplied 97 = .ok (.bipush 20, 2) := by decide +kernel
theorem dL_isSupplied_99 : decode cL_isSupplied 99 = .ok (.goto 4, 3) := by decide +kernel
theorem dL_isSupplied_102 : decode cL_isSupplied 102 = .ok (.iconst 0, 1) := by decide +kernel
theorem dL_isSupplied_103 : decode cL_isSupplied 103 = .ok (.iadd, 1) := by decide +kernel
theorem dL_isSupplied_104 : decode cL_isSupplied 104 = .ok (.istore 6, 2) := by decide +kernel
theorem dL_isSupplied_106 : decode cL_isSupplied 106 = .ok (.iinc 8 1, 3) := by decide +kernel
theorem dL_isSupplied_109 : decode cL_isSupplied 109 = .ok (.goto (-90), 3) := by decide +kernel
theorem dL_isSupplied_112 : decode cL_isSupplied 112 = .ok (.iconst 0, 1) := by decide +kernel
theorem dL_isSupplied_113 : decode cL_isSupplied 113 = .ok (.istore 8, 2) := by decide +kernel
theorem dL_isSupplied_115 : decode cL_isSupplied 115 = .ok (.iload 8, 2) := by decide +kernel
theorem dL_isSupplied_117 : decode cL_isSupplied 117 = .ok (.bipush 64, 2) := by decide +kernel
theorem dL_isSupplied_119 : decode cL_isSupplied 119 = .ok (.if_icmp .ge 134, 3) := by decide +kernel
theorem dL_isSupplied_122 : decode cL_isSupplied 122 = .ok (.iload 4, 2) := by decide +kernel
theorem dL_isSupplied_124 : decode cL_isSupplied 124 = .ok (.ifCond .lt 129, 3) := by decide +kernel
theorem dL_isSupplied_127 : decode cL_isSupplied 127 = .ok (.iload 7, 2) := by decide +kernel
theorem dL_isSupplied_129 : decode cL_isSupplied 129 = .ok (.ifCond .eq 124, 3) := by decide +kernel
theorem dL_isSupplied_132 : decode cL_isSupplied 132 = .ok (.aload_n 1, 1) := by decide +kernel
theorem dL_isSupplied_133 : decode cL_isSupplied 133 = .ok (.iload 8, 2) := by decide +kernel
theorem dL_isSupplied_135 : decode cL_isSupplied 135 = .ok (.iaload, 1) := by decide +kernel
theorem dL_isSupplied_136 : decode cL_isSupplied 136 = .ok (.iconst 2, 1) := by decide +kernel
theorem dL_isSupplied_137 : decode cL_isSupplied 137 = .ok (.if_icmp .eq 11, 3) := by decide +kernel
theorem dL_isSupplied_140 : decode cL_isSupplied 140 = .ok (.aload_n 1, 1) := by decide +kernel
theorem dL_isSupplied_141 : decode cL_isSupplied 141 = .ok (.iload 8, 2) := by decide +kernel
theorem dL_isSupplied_143 : decode cL_isSupplied 143 = .ok (.iaload, 1) := by decide +kernel
theorem dL_isSupplied_144 : decode cL_isSupplied 144 = .ok (.iconst 3, 1) := by decide +kernel
theorem dL_isSupplied_145 : decode cL_isSupplied 145 = .ok (.if_icmp .ne 102, 3) := by decide +kernel
theorem dL_isSupplied_148 : decode cL_isSupplied 148 = .ok (.aload_n 0, 1) := by decide +kernel
theorem dL_isSupplied_149 : decode cL_isSupplied 149 = .ok (.iload 8, 2) := by decide +kernel
theorem dL_isSupplied_151 : decode cL_isSupplied 151 = .ok (.invokevirtual 50, 3) := by decide +kernel
theorem dL_isSupplied_154 : decode cL_isSupplied 154 = .ok (.iload 4, 2) := by decide +kernel
theorem dL_isSupplied_156 : decode cL_isSupplied 156 = .ok (.if_icmp .ne 91, 3) := by decide +kernel
theorem dL_isSupplied_159 : decode cL_isSupplied 159 = .ok (.aload_n 2, 1) := by decide +kernel
theorem dL_isSupplied_160 : decode cL_isSupplied 160 = .ok (.iload 8, 2) := by decide +kernel
theorem dL_isSupplied_162 : decode cL_isSupplied 162 = .ok (.iaload, 1) := by decide +kernel
theorem dL_isSupplied_163 : decode cL_isSupplied 163 = .ok (.ifCond .ne 7, 3) := by decide +kernel
theorem dL_isSupplied_166 : decode cL_isSupplied 166 = .ok (.iconst 1, 1) := by decide +kernel
theorem dL_isSupplied_167 : decode cL_isSupplied 167 = .ok (.goto 7, 3) := by decide +kernel
theorem dL_isSupplied_170 : decode cL_isSupplied 170 = .ok (.aload_n 2, 1) := by decide +kernel
theorem dL_isSupplied_171 : decode cL_isSupplied 171 = .ok (.iload 8, 2) := by decide +kernel
theorem dL_isSupplied_173 : decode cL_isSupplied 173 = .ok (.iaload, 1) := by decide +kernel
theorem dL_isSupplied_174 : decode cL_isSupplied 174 = .ok (.istore 9, 2) := by decide +kernel
theorem dL_isSupplied_176 : decode cL_isSupplied 176 = .ok (.iload 5, 2) := by decide +kernel
theorem dL_isSupplied_178 : decode cL_isSupplied 178 = .ok (.iload 9, 2) := by decide +kernel
theorem dL_isSupplied_180 : decode cL_isSupplied 180 = .ok (.if_icmp .lt 14, 3) := by decide +kernel
theorem dL_isSupplied_183 : decode cL_isSupplied 183 = .ok (.iload 6, 2) := by decide +kernel
theorem dL_isSupplied_185 : decode cL_isSupplied 185 = .ok (.iload 9, 2) := by decide +kernel
theorem dL_isSupplied_187 : decode cL_isSupplied 187 = .ok (.if_icmp .lt 7, 3) := by decide +kernel
theorem dL_isSupplied_190 : decode cL_isSupplied 190 = .ok (.iconst 1, 1) := by decide +kernel
theorem dL_isSupplied_191 : decode cL_isSupplied 191 = .ok (.goto 4, 3) := by decide +kernel
theorem dL_isSupplied_194 : decode cL_isSupplied 194 = .ok (.iconst 0, 1) := by decide +kernel
theorem dL_isSupplied_195 : decode cL_isSupplied 195 = .ok (.istore 10, 2) := by decide +kernel
theorem dL_isSupplied_197 : decode cL_isSupplied 197 = .ok (.aload_n 0, 1) := by decide +kernel
theorem dL_isSupplied_198 : decode cL_isSupplied 198 = .ok (.iload 8, 2) := by decide +kernel
theorem dL_isSupplied_200 : decode cL_isSupplied 200 = .ok (.invokevirtual 56, 3) := by decide +kernel
theorem dL_isSupplied_203 : decode cL_isSupplied 203 = .ok (.iload 10, 2) := by decide +kernel
theorem dL_isSupplied_205 : decode cL_isSupplied 205 = .ok (.if_icmp .ne 7, 3) := by decide +kernel
theorem dL_isSupplied_208 : decode cL_isSupplied 208 = .ok (.iconst 1, 1) := by decide +kernel
theorem dL_isSupplied_209 : decode cL_isSupplied 209 = .ok (.goto 4, 3) := by decide +kernel
theorem dL_isSupplied_212 : decode cL_isSupplied 212 = .ok (.iconst 0, 1) := by decide +kernel
theorem dL_isSupplied_213 : decode cL_isSupplied 213 = .ok (.istore 7, 2) := by decide +kernel
theorem dL_isSupplied_215 : decode cL_isSupplied 215 = .ok (.iload 5, 2) := by decide +kernel
theorem dL_isSupplied_217 : decode cL_isSupplied 217 = .ok (.iload 10, 2) := by decide +kernel
theorem dL_isSupplied_219 : decode cL_isSupplied 219 = .ok (.ifCond .eq 8, 3) := by decide +kernel
theorem dL_isSupplied_222 : decode cL_isSupplied 222 = .ok (.iload 9, 2) := by decide +kernel
theorem dL_isSupplied_224 : decode cL_isSupplied 224 = .ok (.goto 4, 3) := by decide +kernel
theorem dL_isSupplied_227 : decode cL_isSupplied 227 = .ok (.iconst 0, 1) := by decide +kernel
theorem dL_isSupplied_228 : decode cL_isSupplied 228 = .ok (.isub, 1) := by decide +kernel
theorem dL_isSupplied_229 : decode cL_isSupplied 229 = .ok (.istore 5, 2) := by decide +kernel
theorem dL_isSupplied_231 : decode cL_isSupplied 231 = .ok (.iload 6, 2) := by decide +kernel
theorem dL_isSupplied_233 : decode cL_isSupplied 233 = .ok (.iload 10, 2) := by decide +kernel
theorem dL_isSupplied_235 : decode cL_isSupplied 235 = .ok (.ifCond .eq 8, 3) := by decide +kernel
theorem dL_isSupplied_238 : decode cL_isSupplied 238 = .ok (.iload 9, 2) := by decide +kernel
theorem dL_isSupplied_240 : decode cL_isSupplied 240 = .ok (.goto 4, 3) := by decide +kernel
theorem dL_isSupplied_243 : decode cL_isSupplied 243 = .ok (.iconst 0, 1) := by decide +kernel
theorem dL_isSupplied_244 : decode cL_isSupplied 244 = .ok (.isub, 1) := by decide +kernel
theorem dL_isSupplied_245 : decode cL_isSupplied 245 = .ok (.istore 6, 2) := by decide +kernel
theorem dL_isSupplied_247 : decode cL_isSupplied 247 = .ok (.iinc 8 1, 3) := by decide +kernel
theorem dL_isSupplied_250 : decode cL_isSupplied 250 = .ok (.goto (-135), 3) := by decide +kernel
theorem dL_isSupplied_253 : decode cL_isSupplied 253 = .ok (.iload 7, 2) := by decide +kernel
theorem dL_isSupplied_255 : decode cL_isSupplied 255 = .ok (.ifCond .eq 26, 3) := by decide +kernel
theorem dL_isSupplied_258 : decode cL_isSupplied 258 = .ok (.aload_n 0, 1) := by decide +kernel
theorem dL_isSupplied_259 : decode cL_isSupplied 259 = .ok (.iload_n 3, 1) := by decide +kernel
theorem dL_isSupplied_260 : decode cL_isSupplied 260 = .ok (.invokevirtual 69, 3) := by decide +kernel
theorem dL_isSupplied_263 : decode cL_isSupplied 263 = .ok (.iload 4, 2) := by decide +kernel
theorem dL_isSupplied_265 : decode cL_isSupplied 265 = .ok (.ifCond .ge 7, 3) := by decide +kernel
theorem dL_isSupplied_268 : decode cL_isSupplied 268 = .ok (.iconst 0, 1) := by decide +kernel
theorem dL_isSupplied_269 : decode cL_isSupplied 269 = .ok (.goto 5, 3) := by decide +kernel
theorem dL_isSupplied_272 : decode cL_isSupplied 272 = .ok (.iload 5, 2) := by decide +kernel
theorem dL_isSupplied_274 : decode cL_isSupplied 274 = .ok (.if_icmp .ne 7, 3) := by decide +kernel
theorem dL_isSupplied_277 : decode cL_isSupplied 277 = .ok (.iconst 1, 1) := by decide +kernel
theorem dL_isSupplied_278 : decode cL_isSupplied 278 = .ok (.goto 4, 3) := by decide +kernel
theorem dL_isSupplied_281 : decode cL_isSupplied 281 = .ok (.iconst 0, 1) := by decide +kernel
theorem dL_isSupplied_282 : decode cL_isSupplied 282 = .ok (.ireturn, 1) := by decide +kernel
set_option maxRecDepth 20000 in
theorem ggL_isTown_X6_cash : GoodIn wsL_isTown wsX6_cash := goodIn_r _ [6, 7, 8, 9, 10, 11, 12, 13, 436, 437, 438, 439, 440, 441, 442, 443, 444, 445] (by decide +kernel) (by decide +kernel)
set_option maxRecDepth 20000 in
theorem gL_isTown_X6_cash : GoodIn wsL_isTown (wsV RL 93 RX6 yX6_cash wsX6_cash) := goodIn_app (goodIn_of _ (by decide +kernel)) ggL_isTown_X6_cash
set_option maxRecDepth 20000 in
theorem ggL_isTown_X6_debt : GoodIn wsL_isTown wsX6_debt := goodIn_r _ [17, 7, 18, 19, 20, 11, 21, 22, 436, 437, 438, 439, 440, 441, 442, 443, 444, 445] (by decide +kernel) (by decide +kernel)
set_option maxRecDepth 20000 in
theorem gL_isTown_X6_debt : GoodIn wsL_isTown (wsV RL 97 RX6 yX6_debt wsX6_debt) := goodIn_app (goodIn_of _ (by decide +kernel)) ggL_isTown_X6_debt
set_option maxRecDepth 20000 in
theorem ggL_isTown_X6_earned : GoodIn wsL_isTown wsX6_earned := goodIn_r _ [26, 7, 27, 28, 29, 11, 30, 31, 436, 437, 438, 439, 440, 441, 442, 443, 444, 445] (by decide +kernel) (by decide +kernel)
set_option maxRecDepth 20000 in
theorem gL_isTown_X6_earned : GoodIn wsL_isTown (wsV RL 100 RX6 yX6_earned wsX6_earned) := goodIn_app (goodIn_of _ (by decide +kernel)) ggL_isTown_X6_earned
set_option maxRecDepth 20000 in
theorem ggL_isTown_L_asks : GoodIn wsL_isTown wsL_asks := goodIn_ca (goodIn_r _ [35, 36, 1, 37, 38, 39, 5, 40, 41, 42, 43, 44, 45, 46, 47, 48, 49, 50, 51, 52, 53, 54, 55, 56, 57, 58, 59, 60, 61, 62, 63, 64, 65, 66, 67, 68, 69, 70, 71, 72, 73, 74, 75, 76, 77, 78, 79, 80, 81, 82, 83, 84, 85, 86, 87, 88, 89, 90, 91, 92, 93, 94, 95, 96, 97, 98, 99, 100, 101, 102, 103, 104, 105, 106, 107, 108, 109, 110, 111, 112, 113, 114, 115, 116, 117, 118, 119, 120, 121, 122, 123, 124, 125, 126, 127, 128, 129, 130, 131, 132, 133, 134, 135, 136, 137, 138, 139, 140, 141, 142, 143, 144, 145, 146, 147, 148, 149, 150, 151, 152, 153, 154, 155, 156, 157, 158, 159, 160, 161, 162, 163, 164, 165, 166, 167, 168, 169, 170, 171, 172, 173, 174, 175, 176, 177, 178, 179, 180, 181, 182, 183, 184, 185, 186, 187, 188, 189, 190, 191, 192, 193, 194, 195, 196, 197, 198, 199, 200, 201, 202, 203, 204, 205, 206, 207, 208, 209, 210, 211, 212, 213, 214, 215, 216, 217, 218, 219, 220, 221, 222, 223, 224, 225, 226, 227, 228, 229, 230, 231, 232, 233, 234, 235, 236, 237, 238, 239, 240, 241, 242, 243, 244, 245, 246, 247, 248, 249, 250, 251, 252, 253, 254, 255, 256, 257, 258, 259, 260, 261, 262, 263, 264, 265, 266, 267, 268, 269, 270, 271, 272, 273, 274, 275, 276, 277, 278, 279, 280, 281, 282, 283, 284, 285, 286, 287, 288, 289, 290, 291, 292, 293, 294, 295, 296, 297, 298, 299, 300, 301, 302, 303, 304, 305, 306, 307, 308, 309, 310, 311, 312, 313, 314, 315, 316, 317, 318, 319, 320, 321, 322, 323, 324, 325, 326, 327, 328, 329, 330, 331, 332, 333, 334, 335, 336, 337, 338, 339, 340, 341, 342, 343, 344, 345, 346, 347, 348, 349, 350, 351, 352, 353, 354, 355, 356, 357, 358, 359, 360, 361, 362, 363, 364, 365, 366, 367, 368, 369, 370, 371, 372, 373, 374, 375, 376, 377, 378, 379, 380, 381, 382, 383, 384, 385, 386, 387, 388, 389, 390, 391, 392, 393, 394, 395, 396, 397, 398, 399, 400, 401, 402, 403, 404, 405, 406, 407, 408, 409, 410, 411, 412, 413, 414, 415, 416, 417, 436, 437, 438, 439, 440, 446, 447, 448, 449, 450, 451, 452, 453, 454, 455, 456, 457, 458, 459, 460, 461, 462, 463, 464, 465, 466, 467, 468, 469, 470, 471] (by decide +kernel) (by decide +kernel)) (goodIn_sub (fun _ h => List.mem_cons_of_mem _ (List.mem_append_right _ h)) (by decide +kernel))
set_option maxRecDepth 20000 in
theorem gL_isTown_L_asks : GoodIn wsL_isTown (va_wsS RL 81 yL_asks wsL_asks) := goodIn_app (goodIn_of _ (by decide +kernel)) ggL_isTown_L_asks
set_option maxRecDepth 20000 in
theorem ggL_isTown_L_isCell : GoodIn wsL_isTown wsL_isCell := goodIn_ca (goodIn_r _ [420, 421, 422, 34, 423, 424, 425, 426, 366, 367, 368, 5, 369, 358, 42, 43, 44, 45, 46, 370, 371, 372, 362, 373, 374, 365, 54, 55, 56, 57, 58, 406, 407, 408, 409, 410, 411, 412, 413, 414, 415, 416, 417, 354, 355, 356, 357, 359, 360, 361, 363, 364, 37, 38, 39, 40, 41, 47, 48, 49, 50, 51, 52, 53, 59, 60, 61, 62, 63, 64, 65, 66, 67, 375, 376, 377, 378, 379, 380, 381, 382, 324, 383, 131, 132, 133, 384, 385, 386, 387, 388, 389, 390, 391, 392, 393, 394, 395, 328, 396, 330, 332, 427, 428, 429, 1, 32, 33, 35, 36, 68, 69, 70, 71, 72, 73, 74, 75, 76, 77, 78, 79, 80, 81, 82, 83, 84, 85, 86, 87, 88, 89, 90, 91, 92, 93, 94, 95, 96, 97, 98, 99, 100, 101, 102, 103, 104, 105, 106, 107, 108, 109, 110, 111, 112, 113, 114, 115, 116, 117, 118, 119, 120, 121, 122, 123, 124, 125, 126, 127, 128, 129, 130, 134, 135, 136, 137, 138, 139, 140, 141, 142, 143, 144, 145, 146, 147, 148, 149, 150, 151, 152, 153, 154, 155, 156, 157, 158, 159, 160, 161, 162, 163, 164, 165, 166, 167, 168, 169, 170, 171, 172, 173, 174, 175, 176, 177, 178, 179, 180, 181, 182, 183, 184, 185, 186, 187, 188, 189, 190, 191, 192, 193, 194, 195, 196, 197, 198, 199, 200, 201, 202, 203, 204, 205, 206, 207, 208, 209, 210, 211, 212, 213, 214, 215, 216, 217, 218, 219, 220, 221, 222, 223, 224, 225, 226, 227, 228, 229, 230, 231, 232, 233, 234, 235, 236, 237, 238, 239, 240, 241, 242, 243, 244, 245, 246, 247, 248, 249, 250, 251, 252, 253, 254, 255, 256, 257, 258, 259, 260, 261, 262, 263, 264, 265, 266, 267, 268, 269, 270, 271, 272, 273, 274, 275, 276, 277, 278, 279, 280, 281, 282, 283, 284, 285, 286, 287, 288, 289, 290, 291, 292, 293, 294, 295, 296, 297, 298, 299, 300, 301, 302, 303, 304, 305, 306, 307, 308, 309, 310, 311, 312, 313, 314, 315, 316, 317, 318, 319, 320, 321, 322, 323, 325, 326, 327, 329, 331, 333, 334, 335, 336, 337, 338, 339, 340, 341, 342, 343, 344, 345, 346, 347, 348, 349, 350, 351, 352, 353, 397, 398, 399, 400, 401, 402, 403, 404, 405, 436, 437, 438, 439, 440, 465, 466, 467, 468, 469, 470, 471, 448, 446, 447, 457, 458, 459, 460, 461, 449, 450, 451, 452, 453, 454, 455, 456, 462, 463, 464] (by decide +kernel) (by decide +kernel)) (goodIn_sub (fun _ h => List.mem_cons_of_mem _ (List.mem_append_right _ h)) (by decide +kernel))
set_option maxRecDepth 20000 in
theorem gL_isTown_L_isCell : GoodIn wsL_isTown (va_wsS RL 103 yL_isCell wsL_isCell) := goodIn_app (goodIn_of _ (by decide +kernel)) ggL_isTown_L_isCell
set_option maxRecDepth 20000 in
theorem ggL_isTown_L_isNet : GoodIn wsL_isTown wsL_isNet := goodIn_ca (goodIn_r _ [432, 421, 422, 34, 423, 424, 425, 426, 320, 321, 322, 5, 323, 324, 42, 43, 44, 45, 46, 325, 326, 327, 328, 329, 330, 331, 332, 54, 55, 56, 57, 58, 333, 334, 335, 336, 337, 338, 339, 340, 341, 397, 398, 399, 400, 346, 401, 402, 403, 350, 404, 405, 353, 342, 343, 344, 345, 347, 348, 349, 351, 352, 436, 437, 438, 439, 440, 457, 458, 459, 460, 461, 448, 462, 463, 464] (by decide +kernel) (by decide +kernel)) (goodIn_sub (fun _ h => List.mem_cons_of_mem _ (List.mem_append_right _ h)) (by decide +kernel))
set_option maxRecDepth 20000 in
theorem gL_isTown_L_isNet : GoodIn wsL_isTown (va_wsS RL 106 yL_isNet wsL_isNet) := goodIn_app (goodIn_of _ (by decide +kernel)) ggL_isTown_L_isNet
set_option maxRecDepth 20000 in
theorem ggL_isTown_L_isSupplied : GoodIn wsL_isTown wsL_isSupplied := goodIn_ca (goodIn_r _ [435, 320, 321, 322, 5, 323, 324, 42, 43, 44, 45, 46, 325, 326, 327, 328, 329, 330, 331, 332, 54, 55, 56, 57, 58, 342, 343, 344, 345, 346, 347, 348, 349, 350, 351, 352, 353, 397, 398, 399, 400, 401, 402, 403, 404, 405, 436, 437, 438, 439, 440, 457, 458, 459, 460, 461, 448, 462, 463, 464] (by decide +kernel) (by decide +kernel)) (goodIn_sub (fun _ h => List.mem_cons_of_mem _ (List.mem_append_right _ h)) (by decide +kernel))
set_option maxRecDepth 20000 in
theorem gL_isTown_L_isSupplied : GoodIn wsL_isTown (va_wsS RL 110 yL_isSupplied wsL_isSupplied) := goodIn_app (goodIn_of _ (by decide +kernel)) ggL_isTown_L_isSupplied
theorem dL_isTown_0 : decode cL_isTown 0 = .ok (.aload_n 0, 1) := by decide +kernel
theorem dL_isTown_1 : decode cL_isTown 1 = .ok (.invokevirtual 93, 3) := by decide +kernel
theorem dL_isTown_4 : decode cL_isTown 4 = .ok (.aload_n 3, 1) := by decide +kernel
theorem dL_isTown_5 : decode cL_isTown 5 = .ok (.iconst 0, 1) := by decide +kernel
theorem dL_isTown_6 : decode cL_isTown 6 = .ok (.iaload, 1) := by decide +kernel
theorem dL_isTown_7 : decode cL_isTown 7 = .ok (.if_icmp .ne 158, 3) := by decide +kernel
theorem dL_isTown_10 : decode cL_isTown 10 = .ok (.aload_n 0, 1) := by decide +kernel
theorem dL_isTown_11 : decode cL_isTown 11 = .ok (.invokevirtual 97, 3) := by decide +kernel
theorem dL_isTown_14 : decode cL_isTown 14 = .ok (.aload_n 3, 1) := by decide +kernel
theorem dL_isTown_15 : decode cL_isTown 15 = .ok (.iconst 1, 1) := by decide +kernel
theorem dL_isTown_16 : decode cL_isTown 16 = .ok (.iaload, 1) := by decide +kernel
theorem dL_isTown_17 : decode cL_isTown 17 = .ok (.if_icmp .ne 148, 3) := by decide +kernel
theorem dL_isTown_20 : decode cL_isTown 20 = .ok (.aload_n 0, 1) := by decide +kernel
theorem dL_isTown_21 : decode cL_isTown 21 = .ok (.invokevirtual 100, 3) := by decide +kernel
theorem dL_isTown_24 : decode cL_isTown 24 = .ok (.aload_n 3, 1) := by decide +kernel
theorem dL_isTown_25 : decode cL_isTown 25 = .ok (.iconst 2, 1) := by decide +kernel
theorem dL_isTown_26 : decode cL_isTown 26 = .ok (.iaload, 1) := by decide +kernel
theorem dL_isTown_27 : decode cL_isTown 27 = .ok (.if_icmp .ne 138, 3) := by decide +kernel
theorem dL_isTown_30 : decode cL_isTown 30 = .ok (.aload_n 0, 1) := by decide +kernel
theorem dL_isTown_31 : decode cL_isTown 31 = .ok (.iconst 0, 1) := by decide +kernel
theorem dL_isTown_32 : decode cL_isTown 32 = .ok (.bipush 64, 2) := by decide +kernel
theorem dL_isTown_34 : decode cL_isTown 34 = .ok (.iconst 0, 1) := by decide +kernel
theorem dL_isTown_35 : decode cL_isTown 35 = .ok (.invokestatic 81, 3) := by decide +kernel
theorem dL_isTown_38 : decode cL_isTown 38 = .ok (.ldc 33, 2) := by decide +kernel
theorem dL_isTown_40 : decode cL_isTown 40 = .ok (.if_icmp .ne 125, 3) := by decide +kernel
theorem dL_isTown_43 : decode cL_isTown 43 = .ok (.aload_n 0, 1) := by decide +kernel
theorem dL_isTown_44 : decode cL_isTown 44 = .ok (.iconst 1, 1) := by decide +kernel
theorem dL_isTown_45 : decode cL_isTown 45 = .ok (.iconst (-1), 1) := by decide +kernel
theorem dL_isTown_46 : decode cL_isTown 46 = .ok (.iconst 0, 1) := by decide +kernel
theorem dL_isTown_47 : decode cL_isTown 47 = .ok (.invokestatic 81, 3) := by decide +kernel
theorem dL_isTown_50 : decode cL_isTown 50 = .ok (.ldc 33, 2) := by decide +kernel
theorem dL_isTown_52 : decode cL_isTown 52 = .ok (.if_icmp .ne 113, 3) := by decide +kernel
theorem dL_isTown_55 : decode cL_isTown 55 = .ok (.aload_n 0, 1) := by decide +kernel
theorem dL_isTown_56 : decode cL_isTown 56 = .ok (.iconst 3, 1) := by decide +kernel
theorem dL_isTown_57 : decode cL_isTown 57 = .ok (.bipush 64, 2) := by decide +kernel
theorem dL_isTown_59 : decode cL_isTown 59 = .ok (.iconst 0, 1) := by decide +kernel
theorem dL_isTown_60 : decode cL_isTown 60 = .ok (.invokestatic 81, 3) := by decide +kernel
theorem dL_isTown_63 : decode cL_isTown 63 = .ok (.ldc 33, 2) := by decide +kernel
theorem dL_isTown_65 : decode cL_isTown 65 = .ok (.if_icmp .ne 100, 3) := by decide +kernel
theorem dL_isTown_68 : decode cL_isTown 68 = .ok (.aload_n 0, 1) := by decide +kernel
theorem dL_isTown_69 : decode cL_isTown 69 = .ok (.iconst 4, 1) := by decide +kernel
theorem dL_isTown_70 : decode cL_isTown 70 = .ok (.iconst 0, 1) := by decide +kernel
theorem dL_isTown_71 : decode cL_isTown 71 = .ok (.bipush 64, 2) := by decide +kernel
theorem dL_isTown_73 : decode cL_isTown 73 = .ok (.invokestatic 81, 3) := by decide +kernel
theorem dL_isTown_76 : decode cL_isTown 76 = .ok (.ldc 33, 2) := by decide +kernel
theorem dL_isTown_78 : decode cL_isTown 78 = .ok (.if_icmp .ne 87, 3) := by decide +kernel
theorem dL_isTown_81 : decode cL_isTown 81 = .ok (.aload_n 0, 1) := by decide +kernel
theorem dL_isTown_82 : decode cL_isTown 82 = .ok (.iconst 5, 1) := by decide +kernel
theorem dL_isTown_83 : decode cL_isTown 83 = .ok (.iconst (-1), 1) := by decide +kernel
theorem dL_isTown_84 : decode cL_isTown 84 = .ok (.iconst 0, 1) := by decide +kernel
theorem dL_isTown_85 : decode cL_isTown 85 = .ok (.invokestatic 81, 3) := by decide +kernel
theorem dL_isTown_88 : decode cL_isTown 88 = .ok (.ldc 33, 2) := by decide +kernel
theorem dL_isTown_90 : decode cL_isTown 90 = .ok (.if_icmp .ne 75, 3) := by decide +kernel
theorem dL_isTown_93 : decode cL_isTown 93 = .ok (.aload_n 0, 1) := by decide +kernel
theorem dL_isTown_94 : decode cL_isTown 94 = .ok (.bipush 6, 2) := by decide +kernel
theorem dL_isTown_96 : decode cL_isTown 96 = .ok (.bipush 64, 2) := by decide +kernel
theorem dL_isTown_98 : decode cL_isTown 98 = .ok (.iconst 0, 1) := by decide +kernel
theorem dL_isTown_99 : decode cL_isTown 99 = .ok (.invokestatic 81, 3) := by decide +kernel
theorem dL_isTown_102 : decode cL_isTown 102 = .ok (.ldc 33, 2) := by decide +kernel
