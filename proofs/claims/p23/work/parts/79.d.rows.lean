theorem dL_isMoney_228 : decode cL_isMoney 228 = .ok (.istore 4, 2) := by decide +kernel
theorem dL_isMoney_230 : decode cL_isMoney 230 = .ok (.iload 4, 2) := by decide +kernel
theorem dL_isMoney_232 : decode cL_isMoney 232 = .ok (.ifCond .eq 21, 3) := by decide +kernel
theorem dL_isMoney_235 : decode cL_isMoney 235 = .ok (.iload_n 3, 1) := by decide +kernel
theorem dL_isMoney_236 : decode cL_isMoney 236 = .ok (.aload_n 1, 1) := by decide +kernel
theorem dL_isMoney_237 : decode cL_isMoney 237 = .ok (.iconst 1, 1) := by decide +kernel
theorem dL_isMoney_238 : decode cL_isMoney 238 = .ok (.iaload, 1) := by decide +kernel
theorem dL_isMoney_239 : decode cL_isMoney 239 = .ok (.if_icmp .gt 14, 3) := by decide +kernel
theorem dL_isMoney_242 : decode cL_isMoney 242 = .ok (.iload_n 3, 1) := by decide +kernel
theorem dL_isMoney_243 : decode cL_isMoney 243 = .ok (.aload_n 1, 1) := by decide +kernel
theorem dL_isMoney_244 : decode cL_isMoney 244 = .ok (.iconst 0, 1) := by decide +kernel
theorem dL_isMoney_245 : decode cL_isMoney 245 = .ok (.iaload, 1) := by decide +kernel
theorem dL_isMoney_246 : decode cL_isMoney 246 = .ok (.if_icmp .gt 7, 3) := by decide +kernel
theorem dL_isMoney_249 : decode cL_isMoney 249 = .ok (.iconst 1, 1) := by decide +kernel
theorem dL_isMoney_250 : decode cL_isMoney 250 = .ok (.goto 4, 3) := by decide +kernel
theorem dL_isMoney_253 : decode cL_isMoney 253 = .ok (.iconst 0, 1) := by decide +kernel
theorem dL_isMoney_254 : decode cL_isMoney 254 = .ok (.istore 5, 2) := by decide +kernel
theorem dL_isMoney_256 : decode cL_isMoney 256 = .ok (.aload_n 1, 1) := by decide +kernel
theorem dL_isMoney_257 : decode cL_isMoney 257 = .ok (.iconst 0, 1) := by decide +kernel
theorem dL_isMoney_258 : decode cL_isMoney 258 = .ok (.dup2, 1) := by decide +kernel
theorem dL_isMoney_259 : decode cL_isMoney 259 = .ok (.iaload, 1) := by decide +kernel
theorem dL_isMoney_260 : decode cL_isMoney 260 = .ok (.iload 5, 2) := by decide +kernel
theorem dL_isMoney_262 : decode cL_isMoney 262 = .ok (.ifCond .eq 7, 3) := by decide +kernel
theorem dL_isMoney_265 : decode cL_isMoney 265 = .ok (.iload_n 3, 1) := by decide +kernel
theorem dL_isMoney_266 : decode cL_isMoney 266 = .ok (.goto 4, 3) := by decide +kernel
theorem dL_isMoney_269 : decode cL_isMoney 269 = .ok (.iconst 0, 1) := by decide +kernel
theorem dL_isMoney_270 : decode cL_isMoney 270 = .ok (.isub, 1) := by decide +kernel
theorem dL_isMoney_271 : decode cL_isMoney 271 = .ok (.iastore, 1) := by decide +kernel
theorem dL_isMoney_272 : decode cL_isMoney 272 = .ok (.aload_n 1, 1) := by decide +kernel
theorem dL_isMoney_273 : decode cL_isMoney 273 = .ok (.iconst 1, 1) := by decide +kernel
theorem dL_isMoney_274 : decode cL_isMoney 274 = .ok (.dup2, 1) := by decide +kernel
theorem dL_isMoney_275 : decode cL_isMoney 275 = .ok (.iaload, 1) := by decide +kernel
theorem dL_isMoney_276 : decode cL_isMoney 276 = .ok (.iload 5, 2) := by decide +kernel
theorem dL_isMoney_278 : decode cL_isMoney 278 = .ok (.ifCond .eq 7, 3) := by decide +kernel
theorem dL_isMoney_281 : decode cL_isMoney 281 = .ok (.iload_n 3, 1) := by decide +kernel
theorem dL_isMoney_282 : decode cL_isMoney 282 = .ok (.goto 4, 3) := by decide +kernel
theorem dL_isMoney_285 : decode cL_isMoney 285 = .ok (.iconst 0, 1) := by decide +kernel
theorem dL_isMoney_286 : decode cL_isMoney 286 = .ok (.isub, 1) := by decide +kernel
theorem dL_isMoney_287 : decode cL_isMoney 287 = .ok (.iastore, 1) := by decide +kernel
theorem dL_isMoney_288 : decode cL_isMoney 288 = .ok (.aload_n 0, 1) := by decide +kernel
theorem dL_isMoney_289 : decode cL_isMoney 289 = .ok (.iconst 4, 1) := by decide +kernel
theorem dL_isMoney_290 : decode cL_isMoney 290 = .ok (.iload_n 3, 1) := by decide +kernel
theorem dL_isMoney_291 : decode cL_isMoney 291 = .ok (.iconst 0, 1) := by decide +kernel
theorem dL_isMoney_292 : decode cL_isMoney 292 = .ok (.invokestatic 113, 3) := by decide +kernel
theorem dL_isMoney_295 : decode cL_isMoney 295 = .ok (.iload 4, 2) := by decide +kernel
theorem dL_isMoney_297 : decode cL_isMoney 297 = .ok (.ifCond .ne 8, 3) := by decide +kernel
theorem dL_isMoney_300 : decode cL_isMoney 300 = .ok (.ldc 36, 2) := by decide +kernel
theorem dL_isMoney_302 : decode cL_isMoney 302 = .ok (.goto 16, 3) := by decide +kernel
theorem dL_isMoney_305 : decode cL_isMoney 305 = .ok (.iload 5, 2) := by decide +kernel
theorem dL_isMoney_307 : decode cL_isMoney 307 = .ok (.ifCond .eq 9, 3) := by decide +kernel
theorem dL_isMoney_310 : decode cL_isMoney 310 = .ok (.aload_n 1, 1) := by decide +kernel
theorem dL_isMoney_311 : decode cL_isMoney 311 = .ok (.iconst 1, 1) := by decide +kernel
theorem dL_isMoney_312 : decode cL_isMoney 312 = .ok (.iaload, 1) := by decide +kernel
theorem dL_isMoney_313 : decode cL_isMoney 313 = .ok (.goto 5, 3) := by decide +kernel
theorem dL_isMoney_316 : decode cL_isMoney 316 = .ok (.ldc 39, 2) := by decide +kernel
theorem dL_isMoney_318 : decode cL_isMoney 318 = .ok (.if_icmp .ne 7, 3) := by decide +kernel
theorem dL_isMoney_321 : decode cL_isMoney 321 = .ok (.iconst 1, 1) := by decide +kernel
theorem dL_isMoney_322 : decode cL_isMoney 322 = .ok (.goto 4, 3) := by decide +kernel
theorem dL_isMoney_325 : decode cL_isMoney 325 = .ok (.iconst 0, 1) := by decide +kernel
theorem dL_isMoney_326 : decode cL_isMoney 326 = .ok (.ireturn, 1) := by decide +kernel
set_option maxRecDepth 20000 in
theorem ggL_isDone_L_part : GoodIn wsL_isDone wsL_part := goodIn_r _ [7, 8] (by decide +kernel) (by decide +kernel)
set_option maxRecDepth 20000 in
theorem gL_isDone_L_part : GoodIn wsL_isDone (va_wsS RL 116 yL_part wsL_part) := goodIn_app (goodIn_of _ (by decide +kernel)) ggL_isDone_L_part
set_option maxRecDepth 20000 in
theorem ggL_isDone_L_costOf : GoodIn wsL_isDone wsL_costOf := goodIn_r _ [11] (by decide +kernel) (by decide +kernel)
set_option maxRecDepth 20000 in
theorem gL_isDone_L_costOf : GoodIn wsL_isDone (va_wsS RL 120 yL_costOf wsL_costOf) := goodIn_app (goodIn_of _ (by decide +kernel)) ggL_isDone_L_costOf
set_option maxRecDepth 20000 in
theorem ggL_isDone_L_does : GoodIn wsL_isDone wsL_does := goodIn_ca (goodIn_ca (goodIn_ca (goodIn_r _ [14, 15, 16, 17, 1, 2, 3, 18, 19, 20, 21, 22, 23, 24, 25, 26, 27, 28, 29, 30, 31, 32, 33, 34, 35, 36, 37, 38, 39, 40, 41, 42, 43, 44, 45, 46, 47, 48, 49, 50, 51, 52, 53, 54, 55, 56, 57, 58, 59, 60, 61, 62, 63, 64, 65, 66, 67, 68, 69, 70, 71, 72, 73, 74, 75, 76, 77, 78, 79, 80, 81, 82, 83, 84, 85, 86, 87, 88, 89, 90, 91, 92, 93, 94, 95, 96, 97, 98, 99, 100, 101, 102, 103, 104, 105, 106, 107, 108, 109, 110, 111, 112, 113, 114, 115, 116, 117, 118, 119, 120, 121, 122, 123, 124, 125, 126, 127, 128, 129, 130, 131, 132, 133, 134, 135, 136, 137, 138, 139, 140, 141, 142, 143, 144, 145, 146, 147, 148, 149, 150, 151, 152, 153, 154, 155, 156, 157, 158, 159, 160, 161, 162, 163, 164, 165, 166, 167, 168, 169, 170, 171, 172, 173, 174, 175, 176, 177, 178, 179, 180, 181, 182, 183, 184, 185, 186, 187, 188, 189, 190, 191, 192, 193, 194, 195, 196, 197, 198, 199, 200, 201, 202, 203, 204, 205, 206, 207, 208, 209, 210, 211, 212, 213, 214, 215, 216, 217, 218, 219, 220, 221, 222, 223, 224, 225, 226, 227, 228, 229, 230, 231, 232, 233, 234, 235, 236, 237, 238, 239, 240, 241, 242, 243, 244, 245, 246, 247, 248, 249, 250, 251, 252, 253, 254, 255, 256, 257, 258, 259, 260, 261, 262, 263, 264, 265, 266, 267, 268, 269, 270, 271, 272, 273, 274, 275, 276, 277, 278, 279, 280, 281, 282, 283, 284, 285, 286, 287, 288, 289, 290, 291, 292, 293, 294, 295, 296, 297, 298, 299, 300, 301, 302, 303, 304, 305, 306, 307, 308, 309, 310, 311, 312, 336, 337, 338, 339, 340, 341, 342, 343, 344, 345, 346, 347, 348, 349, 350, 351, 352, 353, 354, 355, 356, 357, 358, 359, 360, 361, 362, 363] (by decide +kernel) (by decide +kernel)) (goodIn_sub (fun _ h => List.mem_cons_of_mem _ (List.mem_append_left _ (List.mem_append_left _ (List.mem_append_right _ h)))) (by decide +kernel))) (goodIn_sub (fun _ h => List.mem_cons_of_mem _ (List.mem_append_left _ (List.mem_append_right _ h))) (by decide +kernel))) (goodIn_sub (fun _ h => List.mem_cons_of_mem _ (List.mem_append_right _ h)) (by decide +kernel))
set_option maxRecDepth 20000 in
theorem gL_isDone_L_does : GoodIn wsL_isDone (va_wsS RL 113 yL_does wsL_does) := goodIn_app (goodIn_of _ (by decide +kernel)) ggL_isDone_L_does
set_option maxRecDepth 20000 in
theorem ggL_isDone_L_isMoney : GoodIn wsL_isDone wsL_isMoney := goodIn_ca (goodIn_ca (goodIn_ca (goodIn_r _ [315, 2, 3, 12, 13, 6, 14, 15, 16, 17, 1, 18, 19, 20, 21, 22, 23, 24, 25, 26, 27, 28, 29, 30, 31, 32, 33, 34, 35, 36, 37, 38, 39, 40, 41, 42, 43, 44, 45, 46, 47, 48, 49, 50, 51, 52, 53, 54, 55, 56, 57, 58, 59, 60, 61, 62, 63, 64, 65, 66, 67, 68, 69, 70, 71, 72, 73, 74, 75, 76, 77, 78, 79, 80, 81, 82, 83, 84, 85, 86, 87, 88, 89, 90, 91, 92, 93, 94, 95, 96, 97, 98, 99, 100, 101, 102, 103, 104, 105, 106, 107, 108, 109, 110, 111, 112, 113, 114, 115, 116, 117, 118, 119, 120, 121, 122, 123, 124, 125, 126, 127, 128, 129, 130, 131, 132, 133, 134, 135, 136, 137, 138, 139, 140, 141, 142, 143, 144, 145, 146, 147, 148, 149, 150, 151, 152, 153, 154, 155, 156, 157, 158, 159, 160, 161, 162, 163, 164, 165, 166, 167, 168, 169, 170, 171, 172, 173, 174, 175, 176, 177, 178, 179, 180, 181, 182, 183, 184, 185, 186, 187, 188, 189, 190, 191, 192, 193, 194, 195, 196, 197, 198, 199, 200, 201, 202, 203, 204, 205, 206, 207, 208, 209, 210, 211, 212, 213, 214, 215, 216, 217, 218, 219, 220, 221, 222, 223, 224, 225, 226, 227, 228, 229, 230, 231, 232, 233, 234, 235, 236, 237, 238, 239, 240, 241, 242, 243, 244, 245, 246, 247, 248, 249, 250, 251, 252, 253, 254, 255, 256, 257, 258, 259, 260, 261, 262, 263, 264, 265, 266, 267, 268, 269, 270, 271, 272, 273, 274, 275, 276, 277, 278, 279, 280, 281, 282, 283, 284, 285, 286, 287, 288, 289, 290, 291, 292, 293, 294, 295, 296, 297, 298, 299, 300, 301, 302, 303, 304, 305, 306, 307, 308, 309, 310, 311, 312, 336, 337, 338, 339, 340, 341, 342, 343, 344, 345, 346, 347, 348, 349, 350, 351, 352, 353, 354, 355, 356, 357, 358, 359, 360, 361, 362, 363] (by decide +kernel) (by decide +kernel)) (goodIn_sub (fun _ h => List.mem_cons_of_mem _ (List.mem_append_left _ (List.mem_append_left _ (List.mem_append_right _ h)))) (by decide +kernel))) (goodIn_sub (fun _ h => List.mem_cons_of_mem _ (List.mem_append_left _ (List.mem_append_right _ h))) (by decide +kernel))) (goodIn_sub (fun _ h => List.mem_cons_of_mem _ (List.mem_append_right _ h)) (by decide +kernel))
set_option maxRecDepth 20000 in
theorem gL_isDone_L_isMoney : GoodIn wsL_isDone (va_wsS RL 123 yL_isMoney wsL_isMoney) := goodIn_app (goodIn_of _ (by decide +kernel)) ggL_isDone_L_isMoney
set_option maxRecDepth 20000 in
theorem ggL_isDone_L_isMonth : GoodIn wsL_isDone wsL_isMonth := goodIn_ca (goodIn_ca (goodIn_ca (goodIn_r _ [318, 319, 320, 321, 322, 21, 323, 81, 27, 28, 29, 30, 31, 286, 287, 288, 159, 289, 161, 183, 44, 45, 46, 47, 48, 324, 325, 326, 327, 80, 277, 278, 279, 119, 280, 123, 154, 328, 329, 330, 331, 290, 291, 292, 293, 25, 79, 294, 125, 126, 127, 295, 296, 297, 40, 298, 42, 43, 299, 300, 301, 302, 303, 304, 201, 202, 85, 203, 90, 115, 305, 306, 307, 308, 162, 12, 13, 6, 14, 15, 16, 17, 1, 2, 3, 18, 19, 20, 22, 23, 24, 26, 32, 33, 34, 35, 36, 37, 38, 39, 41, 49, 50, 51, 52, 53, 54, 55, 56, 57, 58, 59, 60, 61, 62, 63, 64, 65, 66, 67, 68, 69, 70, 71, 72, 73, 74, 75, 76, 77, 78, 82, 83, 84, 86, 87, 88, 89, 91, 92, 93, 94, 95, 96, 97, 98, 99, 100, 101, 102, 103, 104, 105, 106, 107, 108, 109, 110, 111, 112, 113, 114, 116, 117, 118, 120, 121, 122, 124, 128, 129, 130, 131, 132, 133, 134, 135, 136, 137, 138, 139, 140, 141, 142, 143, 144, 145, 146, 147, 148, 149, 150, 151, 152, 153, 155, 156, 157, 158, 160, 163, 164, 165, 166, 167, 168, 169, 170, 171, 172, 173, 174, 175, 176, 177, 178, 179, 180, 181, 182, 184, 185, 186, 187, 188, 189, 190, 191, 192, 193, 194, 195, 196, 197, 198, 199, 200, 204, 205, 206, 207, 208, 209, 210, 211, 212, 213, 214, 215, 216, 217, 218, 219, 220, 221, 222, 223, 224, 225, 226, 227, 228, 229, 230, 231, 232, 233, 234, 235, 236, 237, 238, 239, 240, 241, 242, 243, 244, 245, 246, 247, 248, 249, 250, 251, 252, 253, 254, 255, 256, 257, 258, 259, 260, 261, 262, 263, 264, 265, 266, 267, 268, 269, 270, 271, 272, 273, 274, 275, 276, 281, 282, 283, 284, 285, 309, 310, 311, 312, 332, 333, 334, 335, 336, 337, 338, 339, 340, 357, 358, 359, 360, 361, 362, 363, 343, 354, 355, 356, 341, 342, 349, 350, 351, 352, 353, 344, 345, 346, 347, 348] (by decide +kernel) (by decide +kernel)) (goodIn_sub (fun _ h => List.mem_cons_of_mem _ (List.mem_append_left _ (List.mem_append_right _ h))) (by decide +kernel))) (goodIn_sub (fun _ h => List.mem_cons_of_mem _ (List.mem_append_left _ (List.mem_append_left _ (List.mem_append_right _ h)))) (by decide +kernel))) (goodIn_sub (fun _ h => List.mem_cons_of_mem _ (List.mem_append_right _ h)) (by decide +kernel))
set_option maxRecDepth 20000 in
theorem gL_isDone_L_isMonth : GoodIn wsL_isDone (va_wsS RL 126 yL_isMonth wsL_isMonth) := goodIn_app (goodIn_of _ (by decide +kernel)) ggL_isDone_L_isMonth
theorem dL_isDone_0 : decode cL_isDone 0 = .ok (.aload_n 1, 1) := by decide +kernel
theorem dL_isDone_1 : decode cL_isDone 1 = .ok (.iload_n 2, 1) := by decide +kernel
theorem dL_isDone_2 : decode cL_isDone 2 = .ok (.bipush 40, 2) := by decide +kernel
theorem dL_isDone_4 : decode cL_isDone 4 = .ok (.invokestatic 116, 3) := by decide +kernel
theorem dL_isDone_7 : decode cL_isDone 7 = .ok (.istore 6, 2) := by decide +kernel
theorem dL_isDone_9 : decode cL_isDone 9 = .ok (.aload_n 1, 1) := by decide +kernel
theorem dL_isDone_10 : decode cL_isDone 10 = .ok (.iload_n 2, 1) := by decide +kernel
theorem dL_isDone_11 : decode cL_isDone 11 = .ok (.iconst 1, 1) := by decide +kernel
theorem dL_isDone_12 : decode cL_isDone 12 = .ok (.iadd, 1) := by decide +kernel
theorem dL_isDone_13 : decode cL_isDone 13 = .ok (.sipush 6000, 3) := by decide +kernel
theorem dL_isDone_16 : decode cL_isDone 16 = .ok (.invokestatic 116, 3) := by decide +kernel
theorem dL_isDone_19 : decode cL_isDone 19 = .ok (.istore 7, 2) := by decide +kernel
theorem dL_isDone_21 : decode cL_isDone 21 = .ok (.aload_n 1, 1) := by decide +kernel
theorem dL_isDone_22 : decode cL_isDone 22 = .ok (.iload_n 2, 1) := by decide +kernel
theorem dL_isDone_23 : decode cL_isDone 23 = .ok (.iconst 2, 1) := by decide +kernel
theorem dL_isDone_24 : decode cL_isDone 24 = .ok (.iadd, 1) := by decide +kernel
theorem dL_isDone_25 : decode cL_isDone 25 = .ok (.sipush 7000, 3) := by decide +kernel
theorem dL_isDone_28 : decode cL_isDone 28 = .ok (.invokestatic 116, 3) := by decide +kernel
theorem dL_isDone_31 : decode cL_isDone 31 = .ok (.istore 8, 2) := by decide +kernel
theorem dL_isDone_33 : decode cL_isDone 33 = .ok (.iload 7, 2) := by decide +kernel
theorem dL_isDone_35 : decode cL_isDone 35 = .ok (.bipush 30, 2) := by decide +kernel
theorem dL_isDone_37 : decode cL_isDone 37 = .ok (.irem, 1) := by decide +kernel
theorem dL_isDone_38 : decode cL_isDone 38 = .ok (.ifCond .ne 8, 3) := by decide +kernel
theorem dL_isDone_41 : decode cL_isDone 41 = .ok (.bipush 64, 2) := by decide +kernel
theorem dL_isDone_43 : decode cL_isDone 43 = .ok (.goto 11, 3) := by decide +kernel
theorem dL_isDone_46 : decode cL_isDone 46 = .ok (.bipush 16, 2) := by decide +kernel
theorem dL_isDone_48 : decode cL_isDone 48 = .ok (.iload 7, 2) := by decide +kernel
theorem dL_isDone_50 : decode cL_isDone 50 = .ok (.bipush 40, 2) := by decide +kernel
theorem dL_isDone_52 : decode cL_isDone 52 = .ok (.irem, 1) := by decide +kernel
theorem dL_isDone_53 : decode cL_isDone 53 = .ok (.iadd, 1) := by decide +kernel
theorem dL_isDone_54 : decode cL_isDone 54 = .ok (.istore 9, 2) := by decide +kernel
theorem dL_isDone_56 : decode cL_isDone 56 = .ok (.iload 6, 2) := by decide +kernel
theorem dL_isDone_58 : decode cL_isDone 58 = .ok (.bipush 25, 2) := by decide +kernel
theorem dL_isDone_60 : decode cL_isDone 60 = .ok (.if_icmp .ge 236, 3) := by decide +kernel
theorem dL_isDone_63 : decode cL_isDone 63 = .ok (.iload 8, 2) := by decide +kernel
theorem dL_isDone_65 : decode cL_isDone 65 = .ok (.bipush 30, 2) := by decide +kernel
theorem dL_isDone_67 : decode cL_isDone 67 = .ok (.irem, 1) := by decide +kernel
theorem dL_isDone_68 : decode cL_isDone 68 = .ok (.ifCond .ne 8, 3) := by decide +kernel
theorem dL_isDone_71 : decode cL_isDone 71 = .ok (.bipush 7, 2) := by decide +kernel
theorem dL_isDone_73 : decode cL_isDone 73 = .ok (.goto 73, 3) := by decide +kernel
theorem dL_isDone_76 : decode cL_isDone 76 = .ok (.iload 8, 2) := by decide +kernel
theorem dL_isDone_78 : decode cL_isDone 78 = .ok (.bipush 11, 2) := by decide +kernel
theorem dL_isDone_80 : decode cL_isDone 80 = .ok (.irem, 1) := by decide +kernel
theorem dL_isDone_81 : decode cL_isDone 81 = .ok (.iconst 3, 1) := by decide +kernel
theorem dL_isDone_82 : decode cL_isDone 82 = .ok (.if_icmp .ge 7, 3) := by decide +kernel
theorem dL_isDone_85 : decode cL_isDone 85 = .ok (.iconst 1, 1) := by decide +kernel
theorem dL_isDone_86 : decode cL_isDone 86 = .ok (.goto 60, 3) := by decide +kernel
theorem dL_isDone_89 : decode cL_isDone 89 = .ok (.iload 8, 2) := by decide +kernel
theorem dL_isDone_91 : decode cL_isDone 91 = .ok (.bipush 11, 2) := by decide +kernel
theorem dL_isDone_93 : decode cL_isDone 93 = .ok (.irem, 1) := by decide +kernel
theorem dL_isDone_94 : decode cL_isDone 94 = .ok (.iconst 5, 1) := by decide +kernel
theorem dL_isDone_95 : decode cL_isDone 95 = .ok (.if_icmp .ge 7, 3) := by decide +kernel
theorem dL_isDone_98 : decode cL_isDone 98 = .ok (.iconst 2, 1) := by decide +kernel
theorem dL_isDone_99 : decode cL_isDone 99 = .ok (.goto 47, 3) := by decide +kernel
theorem dL_isDone_102 : decode cL_isDone 102 = .ok (.iload 8, 2) := by decide +kernel
theorem dL_isDone_104 : decode cL_isDone 104 = .ok (.bipush 11, 2) := by decide +kernel
theorem dL_isDone_106 : decode cL_isDone 106 = .ok (.irem, 1) := by decide +kernel
theorem dL_isDone_107 : decode cL_isDone 107 = .ok (.bipush 7, 2) := by decide +kernel
theorem dL_isDone_109 : decode cL_isDone 109 = .ok (.if_icmp .ge 7, 3) := by decide +kernel
theorem dL_isDone_112 : decode cL_isDone 112 = .ok (.iconst 3, 1) := by decide +kernel
theorem dL_isDone_113 : decode cL_isDone 113 = .ok (.goto 33, 3) := by decide +kernel
theorem dL_isDone_116 : decode cL_isDone 116 = .ok (.iload 8, 2) := by decide +kernel
theorem dL_isDone_118 : decode cL_isDone 118 = .ok (.bipush 11, 2) := by decide +kernel
theorem dL_isDone_120 : decode cL_isDone 120 = .ok (.irem, 1) := by decide +kernel
theorem dL_isDone_121 : decode cL_isDone 121 = .ok (.bipush 8, 2) := by decide +kernel
theorem dL_isDone_123 : decode cL_isDone 123 = .ok (.if_icmp .ge 7, 3) := by decide +kernel
theorem dL_isDone_126 : decode cL_isDone 126 = .ok (.iconst 4, 1) := by decide +kernel
theorem dL_isDone_127 : decode cL_isDone 127 = .ok (.goto 19, 3) := by decide +kernel
theorem dL_isDone_130 : decode cL_isDone 130 = .ok (.iload 8, 2) := by decide +kernel
theorem dL_isDone_132 : decode cL_isDone 132 = .ok (.bipush 11, 2) := by decide +kernel
theorem dL_isDone_134 : decode cL_isDone 134 = .ok (.irem, 1) := by decide +kernel
theorem dL_isDone_135 : decode cL_isDone 135 = .ok (.bipush 9, 2) := by decide +kernel
theorem dL_isDone_137 : decode cL_isDone 137 = .ok (.if_icmp .ge 7, 3) := by decide +kernel
theorem dL_isDone_140 : decode cL_isDone 140 = .ok (.iconst 5, 1) := by decide +kernel
theorem dL_isDone_141 : decode cL_isDone 141 = .ok (.goto 5, 3) := by decide +kernel
theorem dL_isDone_144 : decode cL_isDone 144 = .ok (.bipush 6, 2) := by decide +kernel
theorem dL_isDone_146 : decode cL_isDone 146 = .ok (.istore 10, 2) := by decide +kernel
theorem dL_isDone_148 : decode cL_isDone 148 = .ok (.iload 10, 2) := by decide +kernel
theorem dL_isDone_150 : decode cL_isDone 150 = .ok (.iconst 1, 1) := by decide +kernel
theorem dL_isDone_151 : decode cL_isDone 151 = .ok (.if_icmp .ne 36, 3) := by decide +kernel
theorem dL_isDone_154 : decode cL_isDone 154 = .ok (.iload 9, 2) := by decide +kernel
theorem dL_isDone_156 : decode cL_isDone 156 = .ok (.bipush 64, 2) := by decide +kernel
theorem dL_isDone_158 : decode cL_isDone 158 = .ok (.if_icmp .ge 29, 3) := by decide +kernel
theorem dL_isDone_161 : decode cL_isDone 161 = .ok (.bipush 32, 2) := by decide +kernel
theorem dL_isDone_163 : decode cL_isDone 163 = .ok (.iload 9, 2) := by decide +kernel
theorem dL_isDone_165 : decode cL_isDone 165 = .ok (.bipush 8, 2) := by decide +kernel
theorem dL_isDone_167 : decode cL_isDone 167 = .ok (.irem, 1) := by decide +kernel
theorem dL_isDone_168 : decode cL_isDone 168 = .ok (.iadd, 1) := by decide +kernel
theorem dL_isDone_169 : decode cL_isDone 169 = .ok (.iload 8, 2) := by decide +kernel
theorem dL_isDone_171 : decode cL_isDone 171 = .ok (.bipush 7, 2) := by decide +kernel
theorem dL_isDone_173 : decode cL_isDone 173 = .ok (.irem, 1) := by decide +kernel
theorem dL_isDone_174 : decode cL_isDone 174 = .ok (.ifCond .ne 8, 3) := by decide +kernel
theorem dL_isDone_177 : decode cL_isDone 177 = .ok (.bipush 8, 2) := by decide +kernel
theorem dL_isDone_179 : decode cL_isDone 179 = .ok (.goto 4, 3) := by decide +kernel
theorem dL_isDone_182 : decode cL_isDone 182 = .ok (.iconst 0, 1) := by decide +kernel
theorem dL_isDone_183 : decode cL_isDone 183 = .ok (.iadd, 1) := by decide +kernel
theorem dL_isDone_184 : decode cL_isDone 184 = .ok (.goto 5, 3) := by decide +kernel
theorem dL_isDone_187 : decode cL_isDone 187 = .ok (.iload 9, 2) := by decide +kernel
theorem dL_isDone_189 : decode cL_isDone 189 = .ok (.istore 9, 2) := by decide +kernel
theorem dL_isDone_191 : decode cL_isDone 191 = .ok (.iload 9, 2) := by decide +kernel
theorem dL_isDone_193 : decode cL_isDone 193 = .ok (.bipush 64, 2) := by decide +kernel
theorem dL_isDone_195 : decode cL_isDone 195 = .ok (.if_icmp .ne 8, 3) := by decide +kernel
theorem dL_isDone_198 : decode cL_isDone 198 = .ok (.ldc 33, 2) := by decide +kernel
theorem dL_isDone_200 : decode cL_isDone 200 = .ok (.goto 49, 3) := by decide +kernel
theorem dL_isDone_203 : decode cL_isDone 203 = .ok (.iload 10, 2) := by decide +kernel
theorem dL_isDone_205 : decode cL_isDone 205 = .ok (.bipush 7, 2) := by decide +kernel
theorem dL_isDone_207 : decode cL_isDone 207 = .ok (.if_icmp .ne 8, 3) := by decide +kernel
theorem dL_isDone_210 : decode cL_isDone 210 = .ok (.ldc 36, 2) := by decide +kernel
theorem dL_isDone_212 : decode cL_isDone 212 = .ok (.goto 37, 3) := by decide +kernel
theorem dL_isDone_215 : decode cL_isDone 215 = .ok (.aload_n 3, 1) := by decide +kernel
theorem dL_isDone_216 : decode cL_isDone 216 = .ok (.iload 9, 2) := by decide +kernel
theorem dL_isDone_218 : decode cL_isDone 218 = .ok (.iaload, 1) := by decide +kernel
theorem dL_isDone_219 : decode cL_isDone 219 = .ok (.ifCond .gt 15, 3) := by decide +kernel
theorem dL_isDone_222 : decode cL_isDone 222 = .ok (.aload 5, 2) := by decide +kernel
theorem dL_isDone_224 : decode cL_isDone 224 = .ok (.iconst 0, 1) := by decide +kernel
theorem dL_isDone_225 : decode cL_isDone 225 = .ok (.iaload, 1) := by decide +kernel
theorem dL_isDone_226 : decode cL_isDone 226 = .ok (.iload 10, 2) := by decide +kernel
theorem dL_isDone_228 : decode cL_isDone 228 = .ok (.invokestatic 120, 3) := by decide +kernel
theorem dL_isDone_231 : decode cL_isDone 231 = .ok (.if_icmp .ge 8, 3) := by decide +kernel
theorem dL_isDone_234 : decode cL_isDone 234 = .ok (.ldc 39, 2) := by decide +kernel
theorem dL_isDone_236 : decode cL_isDone 236 = .ok (.goto 13, 3) := by decide +kernel
theorem dL_isDone_239 : decode cL_isDone 239 = .ok (.aload 5, 2) := by decide +kernel
theorem dL_isDone_241 : decode cL_isDone 241 = .ok (.iconst 0, 1) := by decide +kernel
theorem dL_isDone_242 : decode cL_isDone 242 = .ok (.iaload, 1) := by decide +kernel
theorem dL_isDone_243 : decode cL_isDone 243 = .ok (.iload 10, 2) := by decide +kernel
theorem dL_isDone_245 : decode cL_isDone 245 = .ok (.invokestatic 120, 3) := by decide +kernel
theorem dL_isDone_248 : decode cL_isDone 248 = .ok (.isub, 1) := by decide +kernel
theorem dL_isDone_249 : decode cL_isDone 249 = .ok (.istore 11, 2) := by decide +kernel
theorem dL_isDone_251 : decode cL_isDone 251 = .ok (.iload 11, 2) := by decide +kernel
theorem dL_isDone_253 : decode cL_isDone 253 = .ok (.ldc 39, 2) := by decide +kernel
theorem dL_isDone_255 : decode cL_isDone 255 = .ok (.if_icmp .le 21, 3) := by decide +kernel
theorem dL_isDone_258 : decode cL_isDone 258 = .ok (.aload_n 3, 1) := by decide +kernel
theorem dL_isDone_259 : decode cL_isDone 259 = .ok (.iload 9, 2) := by decide +kernel
theorem dL_isDone_261 : decode cL_isDone 261 = .ok (.iload 10, 2) := by decide +kernel
theorem dL_isDone_263 : decode cL_isDone 263 = .ok (.iastore, 1) := by decide +kernel
theorem dL_isDone_264 : decode cL_isDone 264 = .ok (.aload 4, 2) := by decide +kernel
theorem dL_isDone_266 : decode cL_isDone 266 = .ok (.iload 9, 2) := by decide +kernel
theorem dL_isDone_268 : decode cL_isDone 268 = .ok (.iconst 0, 1) := by decide +kernel
theorem dL_isDone_269 : decode cL_isDone 269 = .ok (.iastore, 1) := by decide +kernel
theorem dL_isDone_270 : decode cL_isDone 270 = .ok (.aload 5, 2) := by decide +kernel
theorem dL_isDone_272 : decode cL_isDone 272 = .ok (.iconst 0, 1) := by decide +kernel
theorem dL_isDone_273 : decode cL_isDone 273 = .ok (.iload 11, 2) := by decide +kernel
theorem dL_isDone_275 : decode cL_isDone 275 = .ok (.iastore, 1) := by decide +kernel
theorem dL_isDone_276 : decode cL_isDone 276 = .ok (.aload_n 0, 1) := by decide +kernel
theorem dL_isDone_277 : decode cL_isDone 277 = .ok (.iconst 0, 1) := by decide +kernel
theorem dL_isDone_278 : decode cL_isDone 278 = .ok (.iload 9, 2) := by decide +kernel
theorem dL_isDone_280 : decode cL_isDone 280 = .ok (.iload 10, 2) := by decide +kernel
theorem dL_isDone_282 : decode cL_isDone 282 = .ok (.invokestatic 113, 3) := by decide +kernel
theorem dL_isDone_285 : decode cL_isDone 285 = .ok (.iload 11, 2) := by decide +kernel
theorem dL_isDone_287 : decode cL_isDone 287 = .ok (.if_icmp .ne 7, 3) := by decide +kernel
theorem dL_isDone_290 : decode cL_isDone 290 = .ok (.iconst 1, 1) := by decide +kernel
theorem dL_isDone_291 : decode cL_isDone 291 = .ok (.goto 4, 3) := by decide +kernel
theorem dL_isDone_294 : decode cL_isDone 294 = .ok (.iconst 0, 1) := by decide +kernel
theorem dL_isDone_295 : decode cL_isDone 295 = .ok (.ireturn, 1) := by decide +kernel
theorem dL_isDone_296 : decode cL_isDone 296 = .ok (.iload 6, 2) := by decide +kernel
theorem dL_isDone_298 : decode cL_isDone 298 = .ok (.bipush 27, 2) := by decide +kernel
theorem dL_isDone_300 : decode cL_isDone 300 = .ok (.if_icmp .ge 84, 3) := by decide +kernel
theorem dL_isDone_303 : decode cL_isDone 303 = .ok (.iload 9, 2) := by decide +kernel
theorem dL_isDone_305 : decode cL_isDone 305 = .ok (.bipush 64, 2) := by decide +kernel
theorem dL_isDone_307 : decode cL_isDone 307 = .ok (.if_icmp .ne 8, 3) := by decide +kernel
theorem dL_isDone_310 : decode cL_isDone 310 = .ok (.ldc 33, 2) := by decide +kernel
theorem dL_isDone_312 : decode cL_isDone 312 = .ok (.goto 27, 3) := by decide +kernel
theorem dL_isDone_315 : decode cL_isDone 315 = .ok (.aload_n 3, 1) := by decide +kernel
theorem dL_isDone_316 : decode cL_isDone 316 = .ok (.iload 9, 2) := by decide +kernel
theorem dL_isDone_318 : decode cL_isDone 318 = .ok (.iaload, 1) := by decide +kernel
theorem dL_isDone_319 : decode cL_isDone 319 = .ok (.ifCond .eq 11, 3) := by decide +kernel
theorem dL_isDone_322 : decode cL_isDone 322 = .ok (.aload 5, 2) := by decide +kernel
theorem dL_isDone_324 : decode cL_isDone 324 = .ok (.iconst 0, 1) := by decide +kernel
theorem dL_isDone_325 : decode cL_isDone 325 = .ok (.iaload, 1) := by decide +kernel
theorem dL_isDone_326 : decode cL_isDone 326 = .ok (.iconst 5, 1) := by decide +kernel
theorem dL_isDone_327 : decode cL_isDone 327 = .ok (.if_icmp .ge 8, 3) := by decide +kernel
theorem dL_isDone_330 : decode cL_isDone 330 = .ok (.ldc 39, 2) := by decide +kernel
theorem dL_isDone_332 : decode cL_isDone 332 = .ok (.goto 7, 3) := by decide +kernel
theorem dL_isDone_335 : decode cL_isDone 335 = .ok (.aload_n 3, 1) := by decide +kernel
theorem dL_isDone_336 : decode cL_isDone 336 = .ok (.iload 9, 2) := by decide +kernel
theorem dL_isDone_338 : decode cL_isDone 338 = .ok (.iaload, 1) := by decide +kernel
theorem dL_isDone_339 : decode cL_isDone 339 = .ok (.istore 10, 2) := by decide +kernel
theorem dL_isDone_341 : decode cL_isDone 341 = .ok (.iload 10, 2) := by decide +kernel
theorem dL_isDone_343 : decode cL_isDone 343 = .ok (.ifCond .le 22, 3) := by decide +kernel
theorem dL_isDone_346 : decode cL_isDone 346 = .ok (.aload_n 3, 1) := by decide +kernel
theorem dL_isDone_347 : decode cL_isDone 347 = .ok (.iload 9, 2) := by decide +kernel
theorem dL_isDone_349 : decode cL_isDone 349 = .ok (.iconst 0, 1) := by decide +kernel
theorem dL_isDone_350 : decode cL_isDone 350 = .ok (.iastore, 1) := by decide +kernel
theorem dL_isDone_351 : decode cL_isDone 351 = .ok (.aload 4, 2) := by decide +kernel
theorem dL_isDone_353 : decode cL_isDone 353 = .ok (.iload 9, 2) := by decide +kernel
theorem dL_isDone_355 : decode cL_isDone 355 = .ok (.iconst 0, 1) := by decide +kernel
theorem dL_isDone_356 : decode cL_isDone 356 = .ok (.iastore, 1) := by decide +kernel
theorem dL_isDone_357 : decode cL_isDone 357 = .ok (.aload 5, 2) := by decide +kernel
theorem dL_isDone_359 : decode cL_isDone 359 = .ok (.iconst 0, 1) := by decide +kernel
theorem dL_isDone_360 : decode cL_isDone 360 = .ok (.dup2, 1) := by decide +kernel
theorem dL_isDone_361 : decode cL_isDone 361 = .ok (.iaload, 1) := by decide +kernel
theorem dL_isDone_362 : decode cL_isDone 362 = .ok (.iconst 5, 1) := by decide +kernel
theorem dL_isDone_363 : decode cL_isDone 363 = .ok (.isub, 1) := by decide +kernel
theorem dL_isDone_364 : decode cL_isDone 364 = .ok (.iastore, 1) := by decide +kernel
theorem dL_isDone_365 : decode cL_isDone 365 = .ok (.aload_n 0, 1) := by decide +kernel
theorem dL_isDone_366 : decode cL_isDone 366 = .ok (.iconst 1, 1) := by decide +kernel
theorem dL_isDone_367 : decode cL_isDone 367 = .ok (.iload 9, 2) := by decide +kernel
theorem dL_isDone_369 : decode cL_isDone 369 = .ok (.iconst 0, 1) := by decide +kernel
theorem dL_isDone_370 : decode cL_isDone 370 = .ok (.invokestatic 113, 3) := by decide +kernel
theorem dL_isDone_373 : decode cL_isDone 373 = .ok (.iload 10, 2) := by decide +kernel
theorem dL_isDone_375 : decode cL_isDone 375 = .ok (.if_icmp .ne 7, 3) := by decide +kernel
theorem dL_isDone_378 : decode cL_isDone 378 = .ok (.iconst 1, 1) := by decide +kernel
theorem dL_isDone_379 : decode cL_isDone 379 = .ok (.goto 4, 3) := by decide +kernel
theorem dL_isDone_382 : decode cL_isDone 382 = .ok (.iconst 0, 1) := by decide +kernel
theorem dL_isDone_383 : decode cL_isDone 383 = .ok (.ireturn, 1) := by decide +kernel
theorem dL_isDone_384 : decode cL_isDone 384 = .ok (.iload 6, 2) := by decide +kernel
theorem dL_isDone_386 : decode cL_isDone 386 = .ok (.bipush 32, 2) := by decide +kernel
theorem dL_isDone_388 : decode cL_isDone 388 = .ok (.if_icmp .ge 61, 3) := by decide +kernel
theorem dL_isDone_391 : decode cL_isDone 391 = .ok (.aload_n 0, 1) := by decide +kernel
theorem dL_isDone_392 : decode cL_isDone 392 = .ok (.aload 5, 2) := by decide +kernel
theorem dL_isDone_394 : decode cL_isDone 394 = .ok (.iload 6, 2) := by decide +kernel
theorem dL_isDone_396 : decode cL_isDone 396 = .ok (.bipush 27, 2) := by decide +kernel
theorem dL_isDone_398 : decode cL_isDone 398 = .ok (.if_icmp .ne 7, 3) := by decide +kernel
theorem dL_isDone_401 : decode cL_isDone 401 = .ok (.iconst 2, 1) := by decide +kernel
theorem dL_isDone_402 : decode cL_isDone 402 = .ok (.goto 15, 3) := by decide +kernel
theorem dL_isDone_405 : decode cL_isDone 405 = .ok (.iload 6, 2) := by decide +kernel
theorem dL_isDone_407 : decode cL_isDone 407 = .ok (.bipush 31, 2) := by decide +kernel
theorem dL_isDone_409 : decode cL_isDone 409 = .ok (.if_icmp .ge 7, 3) := by decide +kernel
theorem dL_isDone_412 : decode cL_isDone 412 = .ok (.iconst 3, 1) := by decide +kernel
theorem dL_isDone_413 : decode cL_isDone 413 = .ok (.goto 4, 3) := by decide +kernel
theorem dL_isDone_416 : decode cL_isDone 416 = .ok (.iconst 4, 1) := by decide +kernel
theorem dL_isDone_417 : decode cL_isDone 417 = .ok (.iload 6, 2) := by decide +kernel
theorem dL_isDone_419 : decode cL_isDone 419 = .ok (.bipush 31, 2) := by decide +kernel
theorem dL_isDone_421 : decode cL_isDone 421 = .ok (.if_icmp .ge 22, 3) := by decide +kernel
theorem dL_isDone_424 : decode cL_isDone 424 = .ok (.iload 8, 2) := by decide +kernel
theorem dL_isDone_426 : decode cL_isDone 426 = .ok (.bipush 20, 2) := by decide +kernel
theorem dL_isDone_428 : decode cL_isDone 428 = .ok (.irem, 1) := by decide +kernel
theorem dL_isDone_429 : decode cL_isDone 429 = .ok (.ifCond .le 14, 3) := by decide +kernel
theorem dL_isDone_432 : decode cL_isDone 432 = .ok (.iconst 1, 1) := by decide +kernel
theorem dL_isDone_433 : decode cL_isDone 433 = .ok (.iload 7, 2) := by decide +kernel
theorem dL_isDone_435 : decode cL_isDone 435 = .ok (.sipush 1000, 3) := by decide +kernel
theorem dL_isDone_438 : decode cL_isDone 438 = .ok (.irem, 1) := by decide +kernel
theorem dL_isDone_439 : decode cL_isDone 439 = .ok (.iadd, 1) := by decide +kernel
theorem dL_isDone_440 : decode cL_isDone 440 = .ok (.goto 5, 3) := by decide +kernel
theorem dL_isDone_443 : decode cL_isDone 443 = .ok (.iload 7, 2) := by decide +kernel
theorem dL_isDone_445 : decode cL_isDone 445 = .ok (.invokestatic 123, 3) := by decide +kernel
theorem dL_isDone_448 : decode cL_isDone 448 = .ok (.ireturn, 1) := by decide +kernel
theorem dL_isDone_449 : decode cL_isDone 449 = .ok (.iload 6, 2) := by decide +kernel
theorem dL_isDone_451 : decode cL_isDone 451 = .ok (.bipush 32, 2) := by decide +kernel
theorem dL_isDone_453 : decode cL_isDone 453 = .ok (.if_icmp .ne 34, 3) := by decide +kernel
theorem dL_isDone_456 : decode cL_isDone 456 = .ok (.aload_n 0, 1) := by decide +kernel
theorem dL_isDone_457 : decode cL_isDone 457 = .ok (.iconst 5, 1) := by decide +kernel
theorem dL_isDone_458 : decode cL_isDone 458 = .ok (.iconst 0, 1) := by decide +kernel
theorem dL_isDone_459 : decode cL_isDone 459 = .ok (.iconst 0, 1) := by decide +kernel
theorem dL_isDone_460 : decode cL_isDone 460 = .ok (.invokestatic 113, 3) := by decide +kernel
theorem dL_isDone_463 : decode cL_isDone 463 = .ok (.ldc 36, 2) := by decide +kernel
theorem dL_isDone_465 : decode cL_isDone 465 = .ok (.if_icmp .ne 20, 3) := by decide +kernel
theorem dL_isDone_468 : decode cL_isDone 468 = .ok (.aload_n 0, 1) := by decide +kernel
theorem dL_isDone_469 : decode cL_isDone 469 = .ok (.iconst 5, 1) := by decide +kernel
theorem dL_isDone_470 : decode cL_isDone 470 = .ok (.bipush 13, 2) := by decide +kernel
theorem dL_isDone_472 : decode cL_isDone 472 = .ok (.iconst 0, 1) := by decide +kernel
theorem dL_isDone_473 : decode cL_isDone 473 = .ok (.invokestatic 113, 3) := by decide +kernel
theorem dL_isDone_476 : decode cL_isDone 476 = .ok (.ldc 36, 2) := by decide +kernel
theorem dL_isDone_478 : decode cL_isDone 478 = .ok (.if_icmp .ne 7, 3) := by decide +kernel
theorem dL_isDone_481 : decode cL_isDone 481 = .ok (.iconst 1, 1) := by decide +kernel
theorem dL_isDone_482 : decode cL_isDone 482 = .ok (.goto 4, 3) := by decide +kernel
theorem dL_isDone_485 : decode cL_isDone 485 = .ok (.iconst 0, 1) := by decide +kernel
theorem dL_isDone_486 : decode cL_isDone 486 = .ok (.ireturn, 1) := by decide +kernel
theorem dL_isDone_487 : decode cL_isDone 487 = .ok (.iconst 1, 1) := by decide +kernel
theorem dL_isDone_488 : decode cL_isDone 488 = .ok (.istore 10, 2) := by decide +kernel
theorem dL_isDone_490 : decode cL_isDone 490 = .ok (.iconst 0, 1) := by decide +kernel
theorem dL_isDone_491 : decode cL_isDone 491 = .ok (.istore 11, 2) := by decide +kernel
theorem dL_isDone_493 : decode cL_isDone 493 = .ok (.iload 11, 2) := by decide +kernel
theorem dL_isDone_495 : decode cL_isDone 495 = .ok (.iconst 1, 1) := by decide +kernel
theorem dL_isDone_496 : decode cL_isDone 496 = .ok (.iload 7, 2) := by decide +kernel
theorem dL_isDone_498 : decode cL_isDone 498 = .ok (.iconst 3, 1) := by decide +kernel
theorem dL_isDone_499 : decode cL_isDone 499 = .ok (.irem, 1) := by decide +kernel
theorem dL_isDone_500 : decode cL_isDone 500 = .ok (.iadd, 1) := by decide +kernel
theorem dL_isDone_501 : decode cL_isDone 501 = .ok (.if_icmp .ge 25, 3) := by decide +kernel
theorem dL_isDone_504 : decode cL_isDone 504 = .ok (.iload 10, 2) := by decide +kernel
theorem dL_isDone_506 : decode cL_isDone 506 = .ok (.ifCond .eq 20, 3) := by decide +kernel
theorem dL_isDone_509 : decode cL_isDone 509 = .ok (.aload_n 0, 1) := by decide +kernel
theorem dL_isDone_510 : decode cL_isDone 510 = .ok (.aload_n 3, 1) := by decide +kernel
theorem dL_isDone_511 : decode cL_isDone 511 = .ok (.aload 4, 2) := by decide +kernel
theorem dL_isDone_513 : decode cL_isDone 513 = .ok (.aload 5, 2) := by decide +kernel
theorem dL_isDone_515 : decode cL_isDone 515 = .ok (.invokestatic 126, 3) := by decide +kernel
theorem dL_isDone_518 : decode cL_isDone 518 = .ok (.istore 10, 2) := by decide +kernel
theorem dL_isDone_520 : decode cL_isDone 520 = .ok (.iinc 11 1, 3) := by decide +kernel
theorem dL_isDone_523 : decode cL_isDone 523 = .ok (.goto (-30), 3) := by decide +kernel
theorem dL_isDone_526 : decode cL_isDone 526 = .ok (.iload 10, 2) := by decide +kernel
theorem dL_isDone_528 : decode cL_isDone 528 = .ok (.ireturn, 1) := by decide +kernel
set_option maxRecDepth 20000 in
theorem ggL_law_X6_init : GoodIn wsL_law wsX6_init := goodIn_r _ [8, 9, 10, 11, 12, 13, 14, 15, 16, 17, 18, 19, 20, 21, 22, 23, 24, 25, 26, 27, 28, 29, 30, 31, 32, 33, 34, 35, 36, 37, 38, 39, 40, 41, 42, 43, 3, 44, 45, 46, 47, 48, 49, 50, 51, 52, 53, 54, 55, 56, 57, 58, 59, 60, 61, 62, 63, 64, 65, 66, 67, 68, 69, 70, 71, 72, 73, 74, 75, 76, 77, 78, 79, 80, 81, 82, 83, 84, 85, 86, 706, 707, 701, 702, 703, 704, 705, 708, 709, 710, 711, 712, 713, 714, 715, 716, 717, 718, 719, 720, 721, 722, 723, 724, 725, 726, 727, 728] (by decide +kernel) (by decide +kernel)
set_option maxRecDepth 20000 in
theorem gL_law_X6_init : GoodIn wsL_law (wsX6_init) := ggL_law_X6_init
set_option maxRecDepth 20000 in
theorem ggL_law_L_isTown : GoodIn wsL_law wsL_isTown := goodIn_ca (goodIn_r _ [90, 4, 91, 92, 93, 2, 94, 31, 95, 96, 97, 30, 98, 82, 99, 100, 101, 102, 103, 104, 105, 106, 83, 107, 108, 109, 110, 111, 112, 113, 114, 86, 115, 116, 89, 117, 118, 119, 120, 121, 122, 15, 123, 124, 125, 126, 127, 128, 129, 130, 14, 131, 38, 132, 133, 134, 37, 135, 44, 136, 137, 138, 139, 140, 141, 142, 143, 39, 144, 145, 146, 147, 148, 149, 150, 151, 152, 153, 154, 155, 156, 157, 158, 159, 160, 161, 162, 163, 164, 165, 166, 10, 11, 167, 168, 169, 170, 171, 172, 173, 174, 175, 176, 177, 178, 179, 180, 181, 182, 183, 184, 185, 186, 187, 188, 189, 190, 191, 192, 193, 194, 195, 196, 197, 198, 199, 200, 201, 202, 203, 204, 205, 206, 207, 208, 209, 210, 211, 212, 213, 47, 214, 215, 216, 217, 218, 219, 220, 221, 222, 223, 224, 225, 226, 227, 228, 229, 230, 231, 232, 233, 234, 235, 236, 237, 238, 239, 240, 241, 242, 243, 244, 245, 246, 247, 248, 249, 250, 251, 252, 253, 254, 255, 256, 257, 258, 259, 260, 261, 262, 263, 264, 265, 266, 267, 268, 269, 270, 271, 272, 273, 274, 275, 276, 277, 278, 279, 280, 281, 282, 283, 284, 285, 286, 287, 288, 289, 290, 291, 292, 293, 294, 295, 296, 297, 298, 299, 300, 301, 302, 303, 304, 305, 306, 307, 308, 309, 310, 311, 312, 313, 314, 315, 316, 317, 318, 319, 320, 321, 322, 323, 324, 325, 326, 327, 328, 329, 330, 331, 332, 333, 334, 335, 336, 337, 338, 339, 340, 341, 342, 343, 344, 345, 346, 347, 348, 349, 350, 351, 352, 353, 354, 355, 356, 357, 358, 359, 360, 361, 362, 363, 364, 365, 366, 367, 368, 369, 370, 371, 372, 373, 374, 375, 376, 377, 378, 379, 380, 381, 382, 383, 384, 385, 386, 387, 388, 389, 390, 391, 392, 393, 394, 395, 396, 19, 397, 398, 399, 18, 400, 53, 54, 401, 402, 403, 404, 405, 406, 407, 408, 409, 55, 410, 411, 412, 413, 23, 414, 415, 416, 22, 417, 65, 418, 419, 420, 421, 422, 27, 423, 424, 425, 26, 426, 71, 427, 428, 429, 430, 431, 432, 433, 434, 435, 73, 436, 437, 438, 439, 440, 441, 442, 443, 444, 445, 446, 447, 448, 449, 450, 451, 452, 453, 454, 455, 456, 457, 458, 459, 460, 461, 462, 463, 464, 465, 63, 466, 467, 468, 469, 470, 471, 472, 473, 77, 74, 75, 76, 474, 475, 476, 477, 478, 479, 480, 481, 482, 483, 484, 485, 486, 487, 488, 489, 490, 491, 701, 702, 703, 704, 705, 723, 724, 725, 726, 727, 706, 707, 728, 729, 730, 731, 732, 733, 734, 735, 736, 708, 709, 710, 711, 712, 713, 714, 715, 716, 717, 718, 719, 720, 721, 722] (by decide +kernel) (by decide +kernel)) (goodIn_sub (fun _ h => List.mem_append_left _ (List.mem_append_left _ (List.mem_append_right _ h))) (by decide +kernel))
set_option maxRecDepth 20000 in
theorem gL_law_L_isTown : GoodIn wsL_law (va_wsS RL 131 yL_isTown wsL_isTown) := goodIn_app (goodIn_of _ (by decide +kernel)) ggL_law_L_isTown
set_option maxRecDepth 20000 in
theorem ggL_law_L_isDone : GoodIn wsL_law wsL_isDone := goodIn_ca (goodIn_ca (goodIn_ca (goodIn_r _ [494, 4, 5, 495, 496, 497, 89, 498, 499, 500, 501, 502, 503, 504, 505, 118, 506, 507, 508, 509, 510, 2, 511, 512, 513, 15, 31, 123, 124, 125, 126, 127, 514, 515, 516, 517, 518, 128, 129, 130, 14, 131, 38, 132, 133, 134, 37, 135, 44, 519, 520, 521, 522, 523, 524, 525, 95, 96, 97, 30, 98, 82, 526, 527, 528, 529, 530, 531, 532, 533, 39, 534, 535, 536, 537, 538, 539, 540, 541, 19, 23, 27, 542, 543, 544, 18, 545, 54, 55, 57, 53, 546, 547, 548, 549, 45, 46, 47, 48, 550, 551, 552, 553, 554, 555, 556, 557, 558, 559, 560, 561, 562, 563, 564, 56, 401, 565, 566, 567, 22, 568, 63, 64, 65, 569, 205, 206, 207, 570, 571, 572, 398, 399, 400, 573, 574, 575, 576, 577, 578, 579, 580, 581, 582, 583, 584, 585, 141, 142, 143, 586, 587, 588, 589, 418, 590, 591, 592, 593, 26, 594, 71, 73, 77, 72, 74, 75, 76, 595, 596, 597, 598, 599, 600, 601, 602, 603, 604, 605, 606, 607, 608, 609, 427, 610, 611, 612, 613, 614, 222, 223, 615, 407, 408, 409, 616, 617, 618, 619, 620, 621, 455, 456, 457, 622, 623, 624, 625, 626, 627, 628, 629, 630, 631, 632, 633, 634, 635, 636, 637, 638, 639, 640, 641, 85, 84, 642, 643, 644, 645, 103, 104, 105, 106, 83, 646, 647, 648, 649, 650, 651, 652, 653, 654, 655, 656, 657, 658, 659, 660, 661, 662, 663, 664, 665, 666, 667, 668, 669, 670, 671, 672, 673, 674, 675, 676, 86, 677, 678, 679, 680, 681, 682, 683, 684, 685, 140, 414, 415, 416, 417, 686, 687, 688, 689, 690, 423, 424, 425, 426, 440, 441, 442, 443, 444, 445, 446, 447, 448, 449, 450, 451, 452, 453, 454, 432, 433, 434, 435, 691, 692, 693, 694, 695, 696, 697, 698, 699, 700, 3, 419, 420, 421, 422, 410, 411, 412, 413, 436, 437, 438, 439, 136, 137, 138, 139, 701, 702, 703, 704, 705, 706, 707, 728, 723, 724, 725, 726, 727, 708, 709, 710, 711, 712, 713, 714, 715, 716, 717, 718, 719, 720, 721, 722] (by decide +kernel) (by decide +kernel)) (goodIn_sub (fun _ h => List.mem_append_left _ (List.mem_append_right _ h)) (by decide +kernel))) (goodIn_sub (fun _ h => List.mem_append_left _ (List.mem_append_left _ (List.mem_append_right _ h))) (by decide +kernel))) (goodIn_sub (fun _ h => List.mem_append_right _ h) (by decide +kernel))
set_option maxRecDepth 20000 in
theorem gL_law_L_isDone : GoodIn wsL_law (va_wsS RL 135 yL_isDone wsL_isDone) := goodIn_app (goodIn_of _ (by decide +kernel)) ggL_law_L_isDone
set_option maxRecDepth 20000 in
theorem ggL_law_L_part : GoodIn wsL_law wsL_part := goodIn_r _ [498, 499] (by decide +kernel) (by decide +kernel)
set_option maxRecDepth 20000 in
theorem gL_law_L_part : GoodIn wsL_law (va_wsS RL 116 yL_part wsL_part) := goodIn_app (goodIn_of _ (by decide +kernel)) ggL_law_L_part
set_option maxRecDepth 20000 in
theorem ggL_law_L_does : GoodIn wsL_law wsL_does := goodIn_ca (goodIn_ca (goodIn_ca (goodIn_r _ [505, 118, 506, 507, 4, 5, 495, 508, 509, 510, 2, 511, 512, 513, 15, 31, 123, 124, 125, 126, 127, 514, 515, 516, 517, 518, 128, 129, 130, 14, 131, 38, 132, 133, 134, 37, 135, 44, 519, 520, 521, 522, 523, 524, 525, 95, 96, 97, 30, 98, 82, 526, 527, 528, 529, 530, 531, 532, 533, 39, 534, 535, 536, 537, 538, 539, 540, 541, 19, 23, 27, 542, 543, 544, 18, 545, 54, 55, 57, 53, 546, 547, 548, 549, 45, 46, 47, 48, 550, 551, 552, 553, 554, 555, 556, 557, 558, 559, 560, 561, 562, 563, 564, 56, 401, 565, 566, 567, 22, 568, 63, 64, 65, 569, 205, 206, 207, 570, 571, 572, 398, 399, 400, 573, 574, 575, 576, 577, 578, 579, 580, 581, 582, 583, 584, 585, 141, 142, 143, 586, 587, 588, 589, 418, 590, 591, 592, 593, 26, 594, 71, 73, 77, 72, 74, 75, 76, 595, 596, 597, 598, 599, 600, 601, 602, 603, 604, 605, 606, 607, 608, 609, 427, 610, 611, 612, 613, 614, 222, 223, 615, 407, 408, 409, 616, 617, 618, 619, 620, 621, 455, 456, 457, 622, 623, 624, 625, 626, 627, 628, 629, 630, 631, 632, 633, 634, 635, 636, 637, 638, 639, 640, 641, 85, 84, 642, 643, 644, 645, 103, 104, 105, 106, 83, 646, 647, 648, 649, 650, 651, 652, 653, 654, 655, 656, 657, 658, 659, 660, 661, 662, 663, 664, 665, 666, 667, 668, 669, 670, 671, 672, 673, 674, 675, 676, 86, 677, 678, 679, 680, 681, 682, 683, 684, 685, 140, 414, 415, 416, 417, 686, 687, 688, 689, 690, 423, 424, 425, 426, 440, 441, 442, 443, 444, 445, 446, 447, 448, 449, 450, 451, 452, 453, 454, 432, 433, 434, 435, 691, 692, 693, 694, 701, 702, 703, 704, 705, 706, 707, 728, 723, 724, 725, 726, 727, 708, 709, 710, 711, 712, 713, 714, 715, 716, 717, 718, 719, 720, 721, 722] (by decide +kernel) (by decide +kernel)) (goodIn_sub (fun _ h => List.mem_append_left _ (List.mem_append_right _ h)) (by decide +kernel))) (goodIn_sub (fun _ h => List.mem_append_left _ (List.mem_append_left _ (List.mem_append_right _ h))) (by decide +kernel))) (goodIn_sub (fun _ h => List.mem_append_right _ h) (by decide +kernel))
set_option maxRecDepth 20000 in
theorem gL_law_L_does : GoodIn wsL_law (va_wsS RL 113 yL_does wsL_does) := goodIn_app (goodIn_of _ (by decide +kernel)) ggL_law_L_does
theorem dL_law_0 : decode cL_law 0 = .ok (.new 9, 3) := by decide +kernel
theorem dL_law_3 : decode cL_law 3 = .ok (.dup, 1) := by decide +kernel
theorem dL_law_4 : decode cL_law 4 = .ok (.invokespecial 130, 3) := by decide +kernel
theorem dL_law_7 : decode cL_law 7 = .ok (.astore_n 1, 1) := by decide +kernel
theorem dL_law_8 : decode cL_law 8 = .ok (.bipush 64, 2) := by decide +kernel
theorem dL_law_10 : decode cL_law 10 = .ok (.newarray .int, 2) := by decide +kernel
theorem dL_law_12 : decode cL_law 12 = .ok (.astore_n 2, 1) := by decide +kernel
theorem dL_law_13 : decode cL_law 13 = .ok (.bipush 64, 2) := by decide +kernel
theorem dL_law_15 : decode cL_law 15 = .ok (.newarray .int, 2) := by decide +kernel
theorem dL_law_17 : decode cL_law 17 = .ok (.astore_n 3, 1) := by decide +kernel
theorem dL_law_18 : decode cL_law 18 = .ok (.iconst 5, 1) := by decide +kernel
theorem dL_law_19 : decode cL_law 19 = .ok (.newarray .int, 2) := by decide +kernel
theorem dL_law_21 : decode cL_law 21 = .ok (.astore 4, 2) := by decide +kernel
theorem dL_law_23 : decode cL_law 23 = .ok (.aload 4, 2) := by decide +kernel
theorem dL_law_25 : decode cL_law 25 = .ok (.iconst 0, 1) := by decide +kernel
theorem dL_law_26 : decode cL_law 26 = .ok (.sipush 1000, 3) := by decide +kernel
theorem dL_law_29 : decode cL_law 29 = .ok (.iastore, 1) := by decide +kernel
theorem dL_law_30 : decode cL_law 30 = .ok (.aload 4, 2) := by decide +kernel
theorem dL_law_32 : decode cL_law 32 = .ok (.iconst 3, 1) := by decide +kernel
theorem dL_law_33 : decode cL_law 33 = .ok (.iconst 3, 1) := by decide +kernel
theorem dL_law_34 : decode cL_law 34 = .ok (.iastore, 1) := by decide +kernel
theorem dL_law_35 : decode cL_law 35 = .ok (.aload 4, 2) := by decide +kernel
theorem dL_law_37 : decode cL_law 37 = .ok (.iconst 4, 1) := by decide +kernel
theorem dL_law_38 : decode cL_law 38 = .ok (.iconst 4, 1) := by decide +kernel
theorem dL_law_39 : decode cL_law 39 = .ok (.iastore, 1) := by decide +kernel
theorem dL_law_40 : decode cL_law 40 = .ok (.aload_n 1, 1) := by decide +kernel
theorem dL_law_41 : decode cL_law 41 = .ok (.aload_n 2, 1) := by decide +kernel
theorem dL_law_42 : decode cL_law 42 = .ok (.aload_n 3, 1) := by decide +kernel
theorem dL_law_43 : decode cL_law 43 = .ok (.aload 4, 2) := by decide +kernel
theorem dL_law_45 : decode cL_law 45 = .ok (.iconst 0, 1) := by decide +kernel
theorem dL_law_46 : decode cL_law 46 = .ok (.bipush 63, 2) := by decide +kernel
theorem dL_law_48 : decode cL_law 48 = .ok (.invokestatic 131, 3) := by decide +kernel
theorem dL_law_51 : decode cL_law 51 = .ok (.istore 5, 2) := by decide +kernel
theorem dL_law_53 : decode cL_law 53 = .ok (.iconst 0, 1) := by decide +kernel
theorem dL_law_54 : decode cL_law 54 = .ok (.istore 6, 2) := by decide +kernel
theorem dL_law_56 : decode cL_law 56 = .ok (.iload 6, 2) := by decide +kernel
theorem dL_law_58 : decode cL_law 58 = .ok (.bipush 40, 2) := by decide +kernel
theorem dL_law_60 : decode cL_law 60 = .ok (.if_icmp .ge 75, 3) := by decide +kernel
theorem dL_law_63 : decode cL_law 63 = .ok (.iload 5, 2) := by decide +kernel
theorem dL_law_65 : decode cL_law 65 = .ok (.ifCond .eq 70, 3) := by decide +kernel
theorem dL_law_68 : decode cL_law 68 = .ok (.aload_n 1, 1) := by decide +kernel
theorem dL_law_69 : decode cL_law 69 = .ok (.aload_n 0, 1) := by decide +kernel
theorem dL_law_70 : decode cL_law 70 = .ok (.iconst 3, 1) := by decide +kernel
theorem dL_law_71 : decode cL_law 71 = .ok (.iload 6, 2) := by decide +kernel
theorem dL_law_73 : decode cL_law 73 = .ok (.imul, 1) := by decide +kernel
theorem dL_law_74 : decode cL_law 74 = .ok (.aload_n 2, 1) := by decide +kernel
theorem dL_law_75 : decode cL_law 75 = .ok (.aload_n 3, 1) := by decide +kernel
theorem dL_law_76 : decode cL_law 76 = .ok (.aload 4, 2) := by decide +kernel
theorem dL_law_78 : decode cL_law 78 = .ok (.invokestatic 135, 3) := by decide +kernel
theorem dL_law_81 : decode cL_law 81 = .ok (.ifCond .eq 45, 3) := by decide +kernel
theorem dL_law_84 : decode cL_law 84 = .ok (.aload_n 1, 1) := by decide +kernel
theorem dL_law_85 : decode cL_law 85 = .ok (.aload_n 2, 1) := by decide +kernel
theorem dL_law_86 : decode cL_law 86 = .ok (.aload_n 3, 1) := by decide +kernel
theorem dL_law_87 : decode cL_law 87 = .ok (.aload 4, 2) := by decide +kernel
theorem dL_law_89 : decode cL_law 89 = .ok (.bipush 16, 2) := by decide +kernel
theorem dL_law_91 : decode cL_law 91 = .ok (.aload_n 0, 1) := by decide +kernel
theorem dL_law_92 : decode cL_law 92 = .ok (.iconst 3, 1) := by decide +kernel
theorem dL_law_93 : decode cL_law 93 = .ok (.iload 6, 2) := by decide +kernel
theorem dL_law_95 : decode cL_law 95 = .ok (.imul, 1) := by decide +kernel
theorem dL_law_96 : decode cL_law 96 = .ok (.iconst 1, 1) := by decide +kernel
theorem dL_law_97 : decode cL_law 97 = .ok (.iadd, 1) := by decide +kernel
theorem dL_law_98 : decode cL_law 98 = .ok (.bipush 40, 2) := by decide +kernel
theorem dL_law_100 : decode cL_law 100 = .ok (.invokestatic 116, 3) := by decide +kernel
theorem dL_law_103 : decode cL_law 103 = .ok (.iadd, 1) := by decide +kernel
theorem dL_law_104 : decode cL_law 104 = .ok (.aload_n 0, 1) := by decide +kernel
theorem dL_law_105 : decode cL_law 105 = .ok (.iconst 3, 1) := by decide +kernel
theorem dL_law_106 : decode cL_law 106 = .ok (.iload 6, 2) := by decide +kernel
theorem dL_law_108 : decode cL_law 108 = .ok (.imul, 1) := by decide +kernel
theorem dL_law_109 : decode cL_law 109 = .ok (.iconst 2, 1) := by decide +kernel
theorem dL_law_110 : decode cL_law 110 = .ok (.iadd, 1) := by decide +kernel
theorem dL_law_111 : decode cL_law 111 = .ok (.bipush 64, 2) := by decide +kernel
theorem dL_law_113 : decode cL_law 113 = .ok (.invokestatic 116, 3) := by decide +kernel
theorem dL_law_116 : decode cL_law 116 = .ok (.invokestatic 131, 3) := by decide +kernel
theorem dL_law_119 : decode cL_law 119 = .ok (.ifCond .eq 7, 3) := by decide +kernel
theorem dL_law_122 : decode cL_law 122 = .ok (.iconst 1, 1) := by decide +kernel
theorem dL_law_123 : decode cL_law 123 = .ok (.goto 4, 3) := by decide +kernel
theorem dL_law_126 : decode cL_law 126 = .ok (.iconst 0, 1) := by decide +kernel
theorem dL_law_127 : decode cL_law 127 = .ok (.istore 5, 2) := by decide +kernel
theorem dL_law_129 : decode cL_law 129 = .ok (.iinc 6 1, 3) := by decide +kernel
theorem dL_law_132 : decode cL_law 132 = .ok (.goto (-76), 3) := by decide +kernel
theorem dL_law_135 : decode cL_law 135 = .ok (.iload 5, 2) := by decide +kernel
theorem dL_law_137 : decode cL_law 137 = .ok (.ifCond .eq 80, 3) := by decide +kernel
theorem dL_law_140 : decode cL_law 140 = .ok (.aload_n 1, 1) := by decide +kernel
theorem dL_law_141 : decode cL_law 141 = .ok (.iconst 0, 1) := by decide +kernel
theorem dL_law_142 : decode cL_law 142 = .ok (.iconst (-1), 1) := by decide +kernel
theorem dL_law_143 : decode cL_law 143 = .ok (.iconst 0, 1) := by decide +kernel
theorem dL_law_144 : decode cL_law 144 = .ok (.invokestatic 113, 3) := by decide +kernel
theorem dL_law_147 : decode cL_law 147 = .ok (.ldc 33, 2) := by decide +kernel
theorem dL_law_149 : decode cL_law 149 = .ok (.if_icmp .ne 68, 3) := by decide +kernel
theorem dL_law_152 : decode cL_law 152 = .ok (.aload_n 1, 1) := by decide +kernel
theorem dL_law_153 : decode cL_law 153 = .ok (.iconst 0, 1) := by decide +kernel
theorem dL_law_154 : decode cL_law 154 = .ok (.iconst 0, 1) := by decide +kernel
theorem dL_law_155 : decode cL_law 155 = .ok (.iconst 0, 1) := by decide +kernel
theorem dL_law_156 : decode cL_law 156 = .ok (.invokestatic 113, 3) := by decide +kernel
theorem dL_law_159 : decode cL_law 159 = .ok (.ldc 36, 2) := by decide +kernel
theorem dL_law_161 : decode cL_law 161 = .ok (.if_icmp .ne 56, 3) := by decide +kernel
theorem dL_law_164 : decode cL_law 164 = .ok (.aload_n 1, 1) := by decide +kernel
theorem dL_law_165 : decode cL_law 165 = .ok (.iconst 1, 1) := by decide +kernel
theorem dL_law_166 : decode cL_law 166 = .ok (.bipush 64, 2) := by decide +kernel
theorem dL_law_168 : decode cL_law 168 = .ok (.iconst 0, 1) := by decide +kernel
theorem dL_law_169 : decode cL_law 169 = .ok (.invokestatic 113, 3) := by decide +kernel
theorem dL_law_172 : decode cL_law 172 = .ok (.ldc 33, 2) := by decide +kernel
theorem dL_law_174 : decode cL_law 174 = .ok (.if_icmp .ne 43, 3) := by decide +kernel
theorem dL_law_177 : decode cL_law 177 = .ok (.aload_n 1, 1) := by decide +kernel
theorem dL_law_178 : decode cL_law 178 = .ok (.iconst 2, 1) := by decide +kernel
theorem dL_law_179 : decode cL_law 179 = .ok (.iconst (-1), 1) := by decide +kernel
theorem dL_law_180 : decode cL_law 180 = .ok (.iconst 0, 1) := by decide +kernel
theorem dL_law_181 : decode cL_law 181 = .ok (.invokestatic 113, 3) := by decide +kernel
theorem dL_law_184 : decode cL_law 184 = .ok (.ldc 36, 2) := by decide +kernel
theorem dL_law_186 : decode cL_law 186 = .ok (.if_icmp .ne 31, 3) := by decide +kernel
theorem dL_law_189 : decode cL_law 189 = .ok (.aload_n 1, 1) := by decide +kernel
theorem dL_law_190 : decode cL_law 190 = .ok (.iconst 3, 1) := by decide +kernel
theorem dL_law_191 : decode cL_law 191 = .ok (.iconst 0, 1) := by decide +kernel
theorem dL_law_192 : decode cL_law 192 = .ok (.iconst 0, 1) := by decide +kernel
theorem dL_law_193 : decode cL_law 193 = .ok (.invokestatic 113, 3) := by decide +kernel
theorem dL_law_196 : decode cL_law 196 = .ok (.ldc 36, 2) := by decide +kernel
theorem dL_law_198 : decode cL_law 198 = .ok (.if_icmp .ne 19, 3) := by decide +kernel
theorem dL_law_201 : decode cL_law 201 = .ok (.aload_n 1, 1) := by decide +kernel
theorem dL_law_202 : decode cL_law 202 = .ok (.iconst 4, 1) := by decide +kernel
theorem dL_law_203 : decode cL_law 203 = .ok (.iconst 0, 1) := by decide +kernel
theorem dL_law_204 : decode cL_law 204 = .ok (.iconst 0, 1) := by decide +kernel
theorem dL_law_205 : decode cL_law 205 = .ok (.invokestatic 113, 3) := by decide +kernel
theorem dL_law_208 : decode cL_law 208 = .ok (.ldc 36, 2) := by decide +kernel
theorem dL_law_210 : decode cL_law 210 = .ok (.if_icmp .ne 7, 3) := by decide +kernel
theorem dL_law_213 : decode cL_law 213 = .ok (.iconst 1, 1) := by decide +kernel
theorem dL_law_214 : decode cL_law 214 = .ok (.goto 4, 3) := by decide +kernel
theorem dL_law_217 : decode cL_law 217 = .ok (.iconst 0, 1) := by decide +kernel
theorem dL_law_218 : decode cL_law 218 = .ok (.ireturn, 1) := by decide +kernel
