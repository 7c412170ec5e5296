theorem dL_isTown_104 : decode cL_isTown 104 = .ok (.if_icmp .ne 61, 3) := by decide +kernel
theorem dL_isTown_107 : decode cL_isTown 107 = .ok (.aload_n 0, 1) := by decide +kernel
theorem dL_isTown_108 : decode cL_isTown 108 = .ok (.bipush 7, 2) := by decide +kernel
theorem dL_isTown_110 : decode cL_isTown 110 = .ok (.iconst (-1), 1) := by decide +kernel
theorem dL_isTown_111 : decode cL_isTown 111 = .ok (.iconst 0, 1) := by decide +kernel
theorem dL_isTown_112 : decode cL_isTown 112 = .ok (.invokestatic 81, 3) := by decide +kernel
theorem dL_isTown_115 : decode cL_isTown 115 = .ok (.ldc 33, 2) := by decide +kernel
theorem dL_isTown_117 : decode cL_isTown 117 = .ok (.if_icmp .ne 48, 3) := by decide +kernel
theorem dL_isTown_120 : decode cL_isTown 120 = .ok (.aload_n 0, 1) := by decide +kernel
theorem dL_isTown_121 : decode cL_isTown 121 = .ok (.bipush 8, 2) := by decide +kernel
theorem dL_isTown_123 : decode cL_isTown 123 = .ok (.bipush 64, 2) := by decide +kernel
theorem dL_isTown_125 : decode cL_isTown 125 = .ok (.iconst 0, 1) := by decide +kernel
theorem dL_isTown_126 : decode cL_isTown 126 = .ok (.invokestatic 81, 3) := by decide +kernel
theorem dL_isTown_129 : decode cL_isTown 129 = .ok (.ldc 33, 2) := by decide +kernel
theorem dL_isTown_131 : decode cL_isTown 131 = .ok (.if_icmp .ne 34, 3) := by decide +kernel
theorem dL_isTown_134 : decode cL_isTown 134 = .ok (.aload_n 0, 1) := by decide +kernel
theorem dL_isTown_135 : decode cL_isTown 135 = .ok (.bipush 9, 2) := by decide +kernel
theorem dL_isTown_137 : decode cL_isTown 137 = .ok (.iconst (-1), 1) := by decide +kernel
theorem dL_isTown_138 : decode cL_isTown 138 = .ok (.iconst 0, 1) := by decide +kernel
theorem dL_isTown_139 : decode cL_isTown 139 = .ok (.invokestatic 81, 3) := by decide +kernel
theorem dL_isTown_142 : decode cL_isTown 142 = .ok (.ldc 33, 2) := by decide +kernel
theorem dL_isTown_144 : decode cL_isTown 144 = .ok (.if_icmp .ne 21, 3) := by decide +kernel
theorem dL_isTown_147 : decode cL_isTown 147 = .ok (.aload_n 0, 1) := by decide +kernel
theorem dL_isTown_148 : decode cL_isTown 148 = .ok (.bipush 10, 2) := by decide +kernel
theorem dL_isTown_150 : decode cL_isTown 150 = .ok (.bipush 64, 2) := by decide +kernel
theorem dL_isTown_152 : decode cL_isTown 152 = .ok (.iconst 0, 1) := by decide +kernel
theorem dL_isTown_153 : decode cL_isTown 153 = .ok (.invokestatic 81, 3) := by decide +kernel
theorem dL_isTown_156 : decode cL_isTown 156 = .ok (.ldc 33, 2) := by decide +kernel
theorem dL_isTown_158 : decode cL_isTown 158 = .ok (.if_icmp .ne 7, 3) := by decide +kernel
theorem dL_isTown_161 : decode cL_isTown 161 = .ok (.iconst 1, 1) := by decide +kernel
theorem dL_isTown_162 : decode cL_isTown 162 = .ok (.goto 4, 3) := by decide +kernel
theorem dL_isTown_165 : decode cL_isTown 165 = .ok (.iconst 0, 1) := by decide +kernel
theorem dL_isTown_166 : decode cL_isTown 166 = .ok (.istore 6, 2) := by decide +kernel
theorem dL_isTown_168 : decode cL_isTown 168 = .ok (.iload 6, 2) := by decide +kernel
theorem dL_isTown_170 : decode cL_isTown 170 = .ok (.ifCond .eq 52, 3) := by decide +kernel
theorem dL_isTown_173 : decode cL_isTown 173 = .ok (.aload_n 0, 1) := by decide +kernel
theorem dL_isTown_174 : decode cL_isTown 174 = .ok (.aload_n 1, 1) := by decide +kernel
theorem dL_isTown_175 : decode cL_isTown 175 = .ok (.aload_n 2, 1) := by decide +kernel
theorem dL_isTown_176 : decode cL_isTown 176 = .ok (.iload 4, 2) := by decide +kernel
theorem dL_isTown_178 : decode cL_isTown 178 = .ok (.invokestatic 103, 3) := by decide +kernel
theorem dL_isTown_181 : decode cL_isTown 181 = .ok (.ifCond .eq 41, 3) := by decide +kernel
theorem dL_isTown_184 : decode cL_isTown 184 = .ok (.aload_n 0, 1) := by decide +kernel
theorem dL_isTown_185 : decode cL_isTown 185 = .ok (.aload_n 1, 1) := by decide +kernel
theorem dL_isTown_186 : decode cL_isTown 186 = .ok (.aload_n 2, 1) := by decide +kernel
theorem dL_isTown_187 : decode cL_isTown 187 = .ok (.iload 5, 2) := by decide +kernel
theorem dL_isTown_189 : decode cL_isTown 189 = .ok (.invokestatic 103, 3) := by decide +kernel
theorem dL_isTown_192 : decode cL_isTown 192 = .ok (.ifCond .eq 30, 3) := by decide +kernel
theorem dL_isTown_195 : decode cL_isTown 195 = .ok (.aload_n 0, 1) := by decide +kernel
theorem dL_isTown_196 : decode cL_isTown 196 = .ok (.aload_n 1, 1) := by decide +kernel
theorem dL_isTown_197 : decode cL_isTown 197 = .ok (.iload 4, 2) := by decide +kernel
theorem dL_isTown_199 : decode cL_isTown 199 = .ok (.iload 5, 2) := by decide +kernel
theorem dL_isTown_201 : decode cL_isTown 201 = .ok (.invokestatic 106, 3) := by decide +kernel
theorem dL_isTown_204 : decode cL_isTown 204 = .ok (.ifCond .eq 18, 3) := by decide +kernel
theorem dL_isTown_207 : decode cL_isTown 207 = .ok (.aload_n 0, 1) := by decide +kernel
theorem dL_isTown_208 : decode cL_isTown 208 = .ok (.aload_n 1, 1) := by decide +kernel
theorem dL_isTown_209 : decode cL_isTown 209 = .ok (.aload_n 2, 1) := by decide +kernel
theorem dL_isTown_210 : decode cL_isTown 210 = .ok (.iload 4, 2) := by decide +kernel
theorem dL_isTown_212 : decode cL_isTown 212 = .ok (.invokestatic 110, 3) := by decide +kernel
theorem dL_isTown_215 : decode cL_isTown 215 = .ok (.ifCond .eq 7, 3) := by decide +kernel
theorem dL_isTown_218 : decode cL_isTown 218 = .ok (.iconst 1, 1) := by decide +kernel
theorem dL_isTown_219 : decode cL_isTown 219 = .ok (.goto 4, 3) := by decide +kernel
theorem dL_isTown_222 : decode cL_isTown 222 = .ok (.iconst 0, 1) := by decide +kernel
theorem dL_isTown_223 : decode cL_isTown 223 = .ok (.ireturn, 1) := by decide +kernel
set_option maxRecDepth 20000 in
theorem ggL_isMonth_X6_placed : GoodIn wsL_isMonth wsX6_placed := goodIn_ca (goodIn_r _ [6, 7, 8, 9, 5, 10, 11, 12, 13, 14, 15, 16, 17, 18, 19, 20, 21, 22, 23, 24, 323, 324, 325, 326, 327, 328, 329, 330, 331, 332, 333, 334, 335] (by decide +kernel) (by decide +kernel)) (goodIn_sub (fun _ h => List.mem_cons_of_mem _ (List.mem_append_left _ (List.mem_append_left _ (List.mem_append_right _ h)))) (by decide +kernel))
set_option maxRecDepth 20000 in
theorem gL_isMonth_X6_placed : GoodIn wsL_isMonth (wsV RL 60 RX6 yX6_placed wsX6_placed) := goodIn_app (goodIn_of _ (by decide +kernel)) ggL_isMonth_X6_placed
set_option maxRecDepth 20000 in
theorem ggL_isMonth_X6_isServed : GoodIn wsL_isMonth wsX6_isServed := goodIn_ca (goodIn_r _ [28, 29, 8, 9, 5, 10, 11, 12, 30, 31, 32, 33, 34, 35, 36, 20, 21, 22, 23, 24, 323, 324, 325, 326, 327, 336, 337, 338, 335] (by decide +kernel) (by decide +kernel)) (goodIn_sub (fun _ h => List.mem_cons_of_mem _ (List.mem_append_left _ (List.mem_append_left _ (List.mem_append_right _ h)))) (by decide +kernel))
set_option maxRecDepth 20000 in
theorem gL_isMonth_X6_isServed : GoodIn wsL_isMonth (wsV RL 56 RX6 yX6_isServed wsX6_isServed) := goodIn_app (goodIn_of _ (by decide +kernel)) ggL_isMonth_X6_isServed
set_option maxRecDepth 20000 in
theorem ggL_isMonth_X6_value : GoodIn wsL_isMonth wsX6_value := goodIn_ca (goodIn_r _ [40, 8, 9, 5, 10, 11, 12, 41, 42, 43, 44, 45, 46, 7, 47, 48, 49, 50, 51, 52, 53, 54, 55, 56, 57, 20, 21, 22, 23, 24, 58, 59, 60, 61, 62, 63, 64, 65, 66, 67, 68, 69, 70, 71, 72, 16, 73, 74, 19, 323, 324, 325, 326, 327, 339, 340, 335, 341, 342, 343, 344, 345, 328, 329, 330, 331, 332, 333, 334] (by decide +kernel) (by decide +kernel)) (goodIn_sub (fun _ h => List.mem_cons_of_mem _ (List.mem_append_left _ (List.mem_append_left _ (List.mem_append_right _ h)))) (by decide +kernel))
set_option maxRecDepth 20000 in
theorem gL_isMonth_X6_value : GoodIn wsL_isMonth (wsV RL 66 RX6 yX6_value wsX6_value) := goodIn_app (goodIn_of _ (by decide +kernel)) ggL_isMonth_X6_value
set_option maxRecDepth 20000 in
theorem ggL_isMonth_L_does : GoodIn wsL_isMonth wsL_does := goodIn_ca (goodIn_ca (goodIn_ca (goodIn_r _ [78, 79, 80, 81, 82, 83, 84, 85, 86, 87, 5, 88, 89, 90, 45, 91, 8, 9, 10, 11, 12, 92, 93, 94, 95, 96, 97, 98, 99, 54, 100, 56, 57, 20, 21, 22, 23, 24, 101, 102, 103, 104, 105, 106, 107, 108, 109, 110, 111, 112, 113, 114, 115, 116, 117, 118, 119, 120, 121, 122, 123, 124, 125, 126, 127, 128, 129, 130, 46, 29, 7, 131, 132, 133, 66, 134, 135, 136, 137, 68, 138, 139, 140, 141, 142, 143, 144, 145, 146, 147, 148, 149, 150, 151, 152, 153, 154, 155, 156, 157, 158, 159, 160, 161, 69, 162, 163, 164, 33, 165, 166, 167, 35, 168, 48, 49, 50, 169, 170, 171, 172, 173, 174, 175, 176, 177, 178, 179, 180, 181, 182, 183, 184, 185, 186, 187, 188, 189, 190, 191, 192, 193, 194, 36, 195, 196, 197, 198, 16, 199, 18, 74, 200, 201, 202, 203, 204, 205, 206, 207, 208, 209, 210, 211, 212, 213, 214, 215, 216, 217, 218, 219, 19, 220, 221, 222, 223, 224, 225, 226, 227, 228, 229, 230, 231, 232, 233, 234, 235, 236, 64, 65, 67, 237, 238, 239, 240, 241, 242, 243, 244, 245, 246, 247, 248, 249, 250, 251, 252, 253, 254, 255, 256, 257, 258, 259, 260, 261, 262, 263, 264, 265, 266, 267, 268, 269, 270, 271, 272, 273, 274, 275, 276, 277, 278, 279, 280, 281, 282, 283, 284, 285, 286, 287, 288, 289, 290, 291, 292, 293, 294, 295, 296, 297, 298, 299, 300, 301, 302, 303, 304, 305, 306, 307, 308, 309, 30, 31, 32, 34, 310, 311, 312, 313, 314, 13, 14, 15, 17, 41, 42, 43, 44, 47, 51, 52, 53, 55, 58, 59, 60, 61, 62, 63, 70, 71, 72, 73, 315, 316, 317, 318, 323, 324, 325, 326, 327, 339, 340, 335, 346, 347, 348, 349, 350, 341, 342, 343, 344, 345, 336, 337, 338, 328, 329, 330, 331, 332, 333, 334] (by decide +kernel) (by decide +kernel)) (goodIn_sub (fun _ h => List.mem_cons_of_mem _ (List.mem_append_left _ (List.mem_append_right _ h))) (by decide +kernel))) (goodIn_sub (fun _ h => List.mem_cons_of_mem _ (List.mem_append_left _ (List.mem_append_left _ (List.mem_append_right _ h)))) (by decide +kernel))) (goodIn_sub (fun _ h => List.mem_cons_of_mem _ (List.mem_append_right _ h)) (by decide +kernel))
set_option maxRecDepth 20000 in
theorem gL_isMonth_L_does : GoodIn wsL_isMonth (va_wsS RL 113 yL_does wsL_does) := goodIn_app (goodIn_of _ (by decide +kernel)) ggL_isMonth_L_does
set_option maxRecDepth 20000 in
theorem ggL_isMonth_X6_level : GoodIn wsL_isMonth wsX6_level := goodIn_ca (goodIn_r _ [322, 45, 8, 9, 5, 10, 11, 12, 309, 188, 189, 54, 190, 122, 57, 20, 21, 22, 23, 24, 323, 324, 325, 326, 327, 339, 340, 335] (by decide +kernel) (by decide +kernel)) (goodIn_sub (fun _ h => List.mem_cons_of_mem _ (List.mem_append_left _ (List.mem_append_left _ (List.mem_append_right _ h)))) (by decide +kernel))
set_option maxRecDepth 20000 in
theorem gL_isMonth_X6_level : GoodIn wsL_isMonth (wsV RL 43 RX6 yX6_level wsX6_level) := goodIn_app (goodIn_of _ (by decide +kernel)) ggL_isMonth_X6_level
theorem dL_isMonth_0 : decode cL_isMonth 0 = .ok (.bipush 64, 2) := by decide +kernel
theorem dL_isMonth_2 : decode cL_isMonth 2 = .ok (.newarray .int, 2) := by decide +kernel
theorem dL_isMonth_4 : decode cL_isMonth 4 = .ok (.astore 4, 2) := by decide +kernel
theorem dL_isMonth_6 : decode cL_isMonth 6 = .ok (.bipush 64, 2) := by decide +kernel
theorem dL_isMonth_8 : decode cL_isMonth 8 = .ok (.newarray .int, 2) := by decide +kernel
theorem dL_isMonth_10 : decode cL_isMonth 10 = .ok (.astore 5, 2) := by decide +kernel
theorem dL_isMonth_12 : decode cL_isMonth 12 = .ok (.aload_n 3, 1) := by decide +kernel
theorem dL_isMonth_13 : decode cL_isMonth 13 = .ok (.iconst 1, 1) := by decide +kernel
theorem dL_isMonth_14 : decode cL_isMonth 14 = .ok (.iaload, 1) := by decide +kernel
theorem dL_isMonth_15 : decode cL_isMonth 15 = .ok (.bipush 100, 2) := by decide +kernel
theorem dL_isMonth_17 : decode cL_isMonth 17 = .ok (.idiv, 1) := by decide +kernel
theorem dL_isMonth_18 : decode cL_isMonth 18 = .ok (.aload_n 3, 1) := by decide +kernel
theorem dL_isMonth_19 : decode cL_isMonth 19 = .ok (.iconst 1, 1) := by decide +kernel
theorem dL_isMonth_20 : decode cL_isMonth 20 = .ok (.iaload, 1) := by decide +kernel
theorem dL_isMonth_21 : decode cL_isMonth 21 = .ok (.bipush 100, 2) := by decide +kernel
theorem dL_isMonth_23 : decode cL_isMonth 23 = .ok (.irem, 1) := by decide +kernel
theorem dL_isMonth_24 : decode cL_isMonth 24 = .ok (.ifCond .le 7, 3) := by decide +kernel
theorem dL_isMonth_27 : decode cL_isMonth 27 = .ok (.iconst 1, 1) := by decide +kernel
theorem dL_isMonth_28 : decode cL_isMonth 28 = .ok (.goto 4, 3) := by decide +kernel
theorem dL_isMonth_31 : decode cL_isMonth 31 = .ok (.iconst 0, 1) := by decide +kernel
theorem dL_isMonth_32 : decode cL_isMonth 32 = .ok (.iadd, 1) := by decide +kernel
theorem dL_isMonth_33 : decode cL_isMonth 33 = .ok (.ineg, 1) := by decide +kernel
theorem dL_isMonth_34 : decode cL_isMonth 34 = .ok (.istore 6, 2) := by decide +kernel
theorem dL_isMonth_36 : decode cL_isMonth 36 = .ok (.iconst 0, 1) := by decide +kernel
theorem dL_isMonth_37 : decode cL_isMonth 37 = .ok (.istore 7, 2) := by decide +kernel
theorem dL_isMonth_39 : decode cL_isMonth 39 = .ok (.iload 7, 2) := by decide +kernel
theorem dL_isMonth_41 : decode cL_isMonth 41 = .ok (.bipush 64, 2) := by decide +kernel
theorem dL_isMonth_43 : decode cL_isMonth 43 = .ok (.if_icmp .ge 165, 3) := by decide +kernel
theorem dL_isMonth_46 : decode cL_isMonth 46 = .ok (.aload_n 1, 1) := by decide +kernel
theorem dL_isMonth_47 : decode cL_isMonth 47 = .ok (.iload 7, 2) := by decide +kernel
theorem dL_isMonth_49 : decode cL_isMonth 49 = .ok (.iaload, 1) := by decide +kernel
theorem dL_isMonth_50 : decode cL_isMonth 50 = .ok (.iconst 2, 1) := by decide +kernel
theorem dL_isMonth_51 : decode cL_isMonth 51 = .ok (.if_icmp .eq 11, 3) := by decide +kernel
theorem dL_isMonth_54 : decode cL_isMonth 54 = .ok (.aload_n 1, 1) := by decide +kernel
theorem dL_isMonth_55 : decode cL_isMonth 55 = .ok (.iload 7, 2) := by decide +kernel
theorem dL_isMonth_57 : decode cL_isMonth 57 = .ok (.iaload, 1) := by decide +kernel
theorem dL_isMonth_58 : decode cL_isMonth 58 = .ok (.iconst 3, 1) := by decide +kernel
theorem dL_isMonth_59 : decode cL_isMonth 59 = .ok (.if_icmp .ne 7, 3) := by decide +kernel
theorem dL_isMonth_62 : decode cL_isMonth 62 = .ok (.iconst 1, 1) := by decide +kernel
theorem dL_isMonth_63 : decode cL_isMonth 63 = .ok (.goto 4, 3) := by decide +kernel
theorem dL_isMonth_66 : decode cL_isMonth 66 = .ok (.iconst 0, 1) := by decide +kernel
theorem dL_isMonth_67 : decode cL_isMonth 67 = .ok (.istore 8, 2) := by decide +kernel
theorem dL_isMonth_69 : decode cL_isMonth 69 = .ok (.aload 4, 2) := by decide +kernel
theorem dL_isMonth_71 : decode cL_isMonth 71 = .ok (.iload 7, 2) := by decide +kernel
theorem dL_isMonth_73 : decode cL_isMonth 73 = .ok (.iload 8, 2) := by decide +kernel
theorem dL_isMonth_75 : decode cL_isMonth 75 = .ok (.ifCond .eq 12, 3) := by decide +kernel
theorem dL_isMonth_78 : decode cL_isMonth 78 = .ok (.aload_n 0, 1) := by decide +kernel
theorem dL_isMonth_79 : decode cL_isMonth 79 = .ok (.iload 7, 2) := by decide +kernel
theorem dL_isMonth_81 : decode cL_isMonth 81 = .ok (.invokevirtual 60, 3) := by decide +kernel
theorem dL_isMonth_84 : decode cL_isMonth 84 = .ok (.goto 4, 3) := by decide +kernel
theorem dL_isMonth_87 : decode cL_isMonth 87 = .ok (.iconst 0, 1) := by decide +kernel
theorem dL_isMonth_88 : decode cL_isMonth 88 = .ok (.iastore, 1) := by decide +kernel
theorem dL_isMonth_89 : decode cL_isMonth 89 = .ok (.aload 5, 2) := by decide +kernel
theorem dL_isMonth_91 : decode cL_isMonth 91 = .ok (.iload 7, 2) := by decide +kernel
theorem dL_isMonth_93 : decode cL_isMonth 93 = .ok (.iload 8, 2) := by decide +kernel
theorem dL_isMonth_95 : decode cL_isMonth 95 = .ok (.ifCond .eq 21, 3) := by decide +kernel
theorem dL_isMonth_98 : decode cL_isMonth 98 = .ok (.aload_n 0, 1) := by decide +kernel
theorem dL_isMonth_99 : decode cL_isMonth 99 = .ok (.iload 7, 2) := by decide +kernel
theorem dL_isMonth_101 : decode cL_isMonth 101 = .ok (.invokevirtual 56, 3) := by decide +kernel
theorem dL_isMonth_104 : decode cL_isMonth 104 = .ok (.ifCond .eq 12, 3) := by decide +kernel
theorem dL_isMonth_107 : decode cL_isMonth 107 = .ok (.aload_n 0, 1) := by decide +kernel
theorem dL_isMonth_108 : decode cL_isMonth 108 = .ok (.iload 7, 2) := by decide +kernel
theorem dL_isMonth_110 : decode cL_isMonth 110 = .ok (.invokevirtual 66, 3) := by decide +kernel
theorem dL_isMonth_113 : decode cL_isMonth 113 = .ok (.goto 4, 3) := by decide +kernel
theorem dL_isMonth_116 : decode cL_isMonth 116 = .ok (.iconst (-1), 1) := by decide +kernel
theorem dL_isMonth_117 : decode cL_isMonth 117 = .ok (.iastore, 1) := by decide +kernel
theorem dL_isMonth_118 : decode cL_isMonth 118 = .ok (.iload 6, 2) := by decide +kernel
theorem dL_isMonth_120 : decode cL_isMonth 120 = .ok (.aload_n 1, 1) := by decide +kernel
theorem dL_isMonth_121 : decode cL_isMonth 121 = .ok (.iload 7, 2) := by decide +kernel
theorem dL_isMonth_123 : decode cL_isMonth 123 = .ok (.iaload, 1) := by decide +kernel
theorem dL_isMonth_124 : decode cL_isMonth 124 = .ok (.iconst 2, 1) := by decide +kernel
theorem dL_isMonth_125 : decode cL_isMonth 125 = .ok (.if_icmp .ne 15, 3) := by decide +kernel
theorem dL_isMonth_128 : decode cL_isMonth 128 = .ok (.aload_n 3, 1) := by decide +kernel
theorem dL_isMonth_129 : decode cL_isMonth 129 = .ok (.iconst 3, 1) := by decide +kernel
theorem dL_isMonth_130 : decode cL_isMonth 130 = .ok (.iaload, 1) := by decide +kernel
theorem dL_isMonth_131 : decode cL_isMonth 131 = .ok (.aload 4, 2) := by decide +kernel
theorem dL_isMonth_133 : decode cL_isMonth 133 = .ok (.iload 7, 2) := by decide +kernel
theorem dL_isMonth_135 : decode cL_isMonth 135 = .ok (.iaload, 1) := by decide +kernel
theorem dL_isMonth_136 : decode cL_isMonth 136 = .ok (.imul, 1) := by decide +kernel
theorem dL_isMonth_137 : decode cL_isMonth 137 = .ok (.goto 62, 3) := by decide +kernel
theorem dL_isMonth_140 : decode cL_isMonth 140 = .ok (.aload_n 1, 1) := by decide +kernel
theorem dL_isMonth_141 : decode cL_isMonth 141 = .ok (.iload 7, 2) := by decide +kernel
theorem dL_isMonth_143 : decode cL_isMonth 143 = .ok (.iaload, 1) := by decide +kernel
theorem dL_isMonth_144 : decode cL_isMonth 144 = .ok (.iconst 3, 1) := by decide +kernel
theorem dL_isMonth_145 : decode cL_isMonth 145 = .ok (.if_icmp .ne 15, 3) := by decide +kernel
theorem dL_isMonth_148 : decode cL_isMonth 148 = .ok (.aload_n 3, 1) := by decide +kernel
theorem dL_isMonth_149 : decode cL_isMonth 149 = .ok (.iconst 4, 1) := by decide +kernel
theorem dL_isMonth_150 : decode cL_isMonth 150 = .ok (.iaload, 1) := by decide +kernel
theorem dL_isMonth_151 : decode cL_isMonth 151 = .ok (.aload 4, 2) := by decide +kernel
theorem dL_isMonth_153 : decode cL_isMonth 153 = .ok (.iload 7, 2) := by decide +kernel
theorem dL_isMonth_155 : decode cL_isMonth 155 = .ok (.iaload, 1) := by decide +kernel
theorem dL_isMonth_156 : decode cL_isMonth 156 = .ok (.imul, 1) := by decide +kernel
theorem dL_isMonth_157 : decode cL_isMonth 157 = .ok (.goto 42, 3) := by decide +kernel
theorem dL_isMonth_160 : decode cL_isMonth 160 = .ok (.aload_n 1, 1) := by decide +kernel
theorem dL_isMonth_161 : decode cL_isMonth 161 = .ok (.iload 7, 2) := by decide +kernel
theorem dL_isMonth_163 : decode cL_isMonth 163 = .ok (.iaload, 1) := by decide +kernel
theorem dL_isMonth_164 : decode cL_isMonth 164 = .ok (.iconst 1, 1) := by decide +kernel
theorem dL_isMonth_165 : decode cL_isMonth 165 = .ok (.if_icmp .ne 7, 3) := by decide +kernel
theorem dL_isMonth_168 : decode cL_isMonth 168 = .ok (.iconst (-1), 1) := by decide +kernel
theorem dL_isMonth_169 : decode cL_isMonth 169 = .ok (.goto 30, 3) := by decide +kernel
theorem dL_isMonth_172 : decode cL_isMonth 172 = .ok (.aload_n 1, 1) := by decide +kernel
theorem dL_isMonth_173 : decode cL_isMonth 173 = .ok (.iload 7, 2) := by decide +kernel
theorem dL_isMonth_175 : decode cL_isMonth 175 = .ok (.iaload, 1) := by decide +kernel
theorem dL_isMonth_176 : decode cL_isMonth 176 = .ok (.iconst 4, 1) := by decide +kernel
theorem dL_isMonth_177 : decode cL_isMonth 177 = .ok (.if_icmp .ne 8, 3) := by decide +kernel
theorem dL_isMonth_180 : decode cL_isMonth 180 = .ok (.bipush (-2), 2) := by decide +kernel
theorem dL_isMonth_182 : decode cL_isMonth 182 = .ok (.goto 17, 3) := by decide +kernel
theorem dL_isMonth_185 : decode cL_isMonth 185 = .ok (.aload_n 1, 1) := by decide +kernel
theorem dL_isMonth_186 : decode cL_isMonth 186 = .ok (.iload 7, 2) := by decide +kernel
theorem dL_isMonth_188 : decode cL_isMonth 188 = .ok (.iaload, 1) := by decide +kernel
theorem dL_isMonth_189 : decode cL_isMonth 189 = .ok (.iconst 4, 1) := by decide +kernel
theorem dL_isMonth_190 : decode cL_isMonth 190 = .ok (.if_icmp .le 8, 3) := by decide +kernel
theorem dL_isMonth_193 : decode cL_isMonth 193 = .ok (.bipush (-10), 2) := by decide +kernel
theorem dL_isMonth_195 : decode cL_isMonth 195 = .ok (.goto 4, 3) := by decide +kernel
theorem dL_isMonth_198 : decode cL_isMonth 198 = .ok (.iconst 0, 1) := by decide +kernel
theorem dL_isMonth_199 : decode cL_isMonth 199 = .ok (.iadd, 1) := by decide +kernel
theorem dL_isMonth_200 : decode cL_isMonth 200 = .ok (.istore 6, 2) := by decide +kernel
theorem dL_isMonth_202 : decode cL_isMonth 202 = .ok (.iinc 7 1, 3) := by decide +kernel
theorem dL_isMonth_205 : decode cL_isMonth 205 = .ok (.goto (-166), 3) := by decide +kernel
theorem dL_isMonth_208 : decode cL_isMonth 208 = .ok (.aload_n 3, 1) := by decide +kernel
theorem dL_isMonth_209 : decode cL_isMonth 209 = .ok (.iconst 0, 1) := by decide +kernel
theorem dL_isMonth_210 : decode cL_isMonth 210 = .ok (.dup2, 1) := by decide +kernel
theorem dL_isMonth_211 : decode cL_isMonth 211 = .ok (.iaload, 1) := by decide +kernel
theorem dL_isMonth_212 : decode cL_isMonth 212 = .ok (.iload 6, 2) := by decide +kernel
theorem dL_isMonth_214 : decode cL_isMonth 214 = .ok (.iadd, 1) := by decide +kernel
theorem dL_isMonth_215 : decode cL_isMonth 215 = .ok (.iastore, 1) := by decide +kernel
theorem dL_isMonth_216 : decode cL_isMonth 216 = .ok (.aload_n 3, 1) := by decide +kernel
theorem dL_isMonth_217 : decode cL_isMonth 217 = .ok (.iconst 2, 1) := by decide +kernel
theorem dL_isMonth_218 : decode cL_isMonth 218 = .ok (.dup2, 1) := by decide +kernel
theorem dL_isMonth_219 : decode cL_isMonth 219 = .ok (.iaload, 1) := by decide +kernel
theorem dL_isMonth_220 : decode cL_isMonth 220 = .ok (.iload 6, 2) := by decide +kernel
theorem dL_isMonth_222 : decode cL_isMonth 222 = .ok (.iadd, 1) := by decide +kernel
theorem dL_isMonth_223 : decode cL_isMonth 223 = .ok (.iastore, 1) := by decide +kernel
theorem dL_isMonth_224 : decode cL_isMonth 224 = .ok (.aload_n 0, 1) := by decide +kernel
theorem dL_isMonth_225 : decode cL_isMonth 225 = .ok (.iconst 5, 1) := by decide +kernel
theorem dL_isMonth_226 : decode cL_isMonth 226 = .ok (.iconst 1, 1) := by decide +kernel
theorem dL_isMonth_227 : decode cL_isMonth 227 = .ok (.iconst 0, 1) := by decide +kernel
theorem dL_isMonth_228 : decode cL_isMonth 228 = .ok (.invokestatic 113, 3) := by decide +kernel
theorem dL_isMonth_231 : decode cL_isMonth 231 = .ok (.iload 6, 2) := by decide +kernel
theorem dL_isMonth_233 : decode cL_isMonth 233 = .ok (.if_icmp .ne 7, 3) := by decide +kernel
theorem dL_isMonth_236 : decode cL_isMonth 236 = .ok (.iconst 1, 1) := by decide +kernel
theorem dL_isMonth_237 : decode cL_isMonth 237 = .ok (.goto 4, 3) := by decide +kernel
theorem dL_isMonth_240 : decode cL_isMonth 240 = .ok (.iconst 0, 1) := by decide +kernel
theorem dL_isMonth_241 : decode cL_isMonth 241 = .ok (.istore 7, 2) := by decide +kernel
theorem dL_isMonth_243 : decode cL_isMonth 243 = .ok (.iconst 0, 1) := by decide +kernel
theorem dL_isMonth_244 : decode cL_isMonth 244 = .ok (.istore 8, 2) := by decide +kernel
theorem dL_isMonth_246 : decode cL_isMonth 246 = .ok (.iload 8, 2) := by decide +kernel
theorem dL_isMonth_248 : decode cL_isMonth 248 = .ok (.bipush 64, 2) := by decide +kernel
theorem dL_isMonth_250 : decode cL_isMonth 250 = .ok (.if_icmp .ge 215, 3) := by decide +kernel
theorem dL_isMonth_253 : decode cL_isMonth 253 = .ok (.iload 7, 2) := by decide +kernel
theorem dL_isMonth_255 : decode cL_isMonth 255 = .ok (.ifCond .eq 210, 3) := by decide +kernel
theorem dL_isMonth_258 : decode cL_isMonth 258 = .ok (.aload_n 1, 1) := by decide +kernel
theorem dL_isMonth_259 : decode cL_isMonth 259 = .ok (.iload 8, 2) := by decide +kernel
theorem dL_isMonth_261 : decode cL_isMonth 261 = .ok (.iaload, 1) := by decide +kernel
theorem dL_isMonth_262 : decode cL_isMonth 262 = .ok (.iconst 2, 1) := by decide +kernel
theorem dL_isMonth_263 : decode cL_isMonth 263 = .ok (.if_icmp .eq 11, 3) := by decide +kernel
theorem dL_isMonth_266 : decode cL_isMonth 266 = .ok (.aload_n 1, 1) := by decide +kernel
theorem dL_isMonth_267 : decode cL_isMonth 267 = .ok (.iload 8, 2) := by decide +kernel
theorem dL_isMonth_269 : decode cL_isMonth 269 = .ok (.iaload, 1) := by decide +kernel
theorem dL_isMonth_270 : decode cL_isMonth 270 = .ok (.iconst 3, 1) := by decide +kernel
theorem dL_isMonth_271 : decode cL_isMonth 271 = .ok (.if_icmp .ne 168, 3) := by decide +kernel
theorem dL_isMonth_274 : decode cL_isMonth 274 = .ok (.iconst 2, 1) := by decide +kernel
theorem dL_isMonth_275 : decode cL_isMonth 275 = .ok (.aload_n 2, 1) := by decide +kernel
theorem dL_isMonth_276 : decode cL_isMonth 276 = .ok (.iload 8, 2) := by decide +kernel
theorem dL_isMonth_278 : decode cL_isMonth 278 = .ok (.iaload, 1) := by decide +kernel
theorem dL_isMonth_279 : decode cL_isMonth 279 = .ok (.imul, 1) := by decide +kernel
theorem dL_isMonth_280 : decode cL_isMonth 280 = .ok (.aload 4, 2) := by decide +kernel
theorem dL_isMonth_282 : decode cL_isMonth 282 = .ok (.iload 8, 2) := by decide +kernel
theorem dL_isMonth_284 : decode cL_isMonth 284 = .ok (.iaload, 1) := by decide +kernel
theorem dL_isMonth_285 : decode cL_isMonth 285 = .ok (.isub, 1) := by decide +kernel
theorem dL_isMonth_286 : decode cL_isMonth 286 = .ok (.istore 9, 2) := by decide +kernel
theorem dL_isMonth_288 : decode cL_isMonth 288 = .ok (.aload 5, 2) := by decide +kernel
theorem dL_isMonth_290 : decode cL_isMonth 290 = .ok (.iload 8, 2) := by decide +kernel
theorem dL_isMonth_292 : decode cL_isMonth 292 = .ok (.iaload, 1) := by decide +kernel
theorem dL_isMonth_293 : decode cL_isMonth 293 = .ok (.ifCond .ge 18, 3) := by decide +kernel
theorem dL_isMonth_296 : decode cL_isMonth 296 = .ok (.aload_n 2, 1) := by decide +kernel
theorem dL_isMonth_297 : decode cL_isMonth 297 = .ok (.iload 8, 2) := by decide +kernel
theorem dL_isMonth_299 : decode cL_isMonth 299 = .ok (.iaload, 1) := by decide +kernel
theorem dL_isMonth_300 : decode cL_isMonth 300 = .ok (.ifCond .le 7, 3) := by decide +kernel
theorem dL_isMonth_303 : decode cL_isMonth 303 = .ok (.iconst 1, 1) := by decide +kernel
theorem dL_isMonth_304 : decode cL_isMonth 304 = .ok (.goto 52, 3) := by decide +kernel
theorem dL_isMonth_307 : decode cL_isMonth 307 = .ok (.iconst 0, 1) := by decide +kernel
theorem dL_isMonth_308 : decode cL_isMonth 308 = .ok (.goto 48, 3) := by decide +kernel
theorem dL_isMonth_311 : decode cL_isMonth 311 = .ok (.aload_n 1, 1) := by decide +kernel
theorem dL_isMonth_312 : decode cL_isMonth 312 = .ok (.iload 8, 2) := by decide +kernel
theorem dL_isMonth_314 : decode cL_isMonth 314 = .ok (.iaload, 1) := by decide +kernel
theorem dL_isMonth_315 : decode cL_isMonth 315 = .ok (.iconst 2, 1) := by decide +kernel
theorem dL_isMonth_316 : decode cL_isMonth 316 = .ok (.if_icmp .ne 20, 3) := by decide +kernel
theorem dL_isMonth_319 : decode cL_isMonth 319 = .ok (.iload 9, 2) := by decide +kernel
theorem dL_isMonth_321 : decode cL_isMonth 321 = .ok (.aload_n 2, 1) := by decide +kernel
theorem dL_isMonth_322 : decode cL_isMonth 322 = .ok (.iload 8, 2) := by decide +kernel
theorem dL_isMonth_324 : decode cL_isMonth 324 = .ok (.iaload, 1) := by decide +kernel
theorem dL_isMonth_325 : decode cL_isMonth 325 = .ok (.if_icmp .le 7, 3) := by decide +kernel
theorem dL_isMonth_328 : decode cL_isMonth 328 = .ok (.iconst 1, 1) := by decide +kernel
theorem dL_isMonth_329 : decode cL_isMonth 329 = .ok (.goto 27, 3) := by decide +kernel
theorem dL_isMonth_332 : decode cL_isMonth 332 = .ok (.iconst 0, 1) := by decide +kernel
theorem dL_isMonth_333 : decode cL_isMonth 333 = .ok (.goto 23, 3) := by decide +kernel
theorem dL_isMonth_336 : decode cL_isMonth 336 = .ok (.aload_n 2, 1) := by decide +kernel
theorem dL_isMonth_337 : decode cL_isMonth 337 = .ok (.iload 8, 2) := by decide +kernel
theorem dL_isMonth_339 : decode cL_isMonth 339 = .ok (.iaload, 1) := by decide +kernel
theorem dL_isMonth_340 : decode cL_isMonth 340 = .ok (.ifCond .le 15, 3) := by decide +kernel
theorem dL_isMonth_343 : decode cL_isMonth 343 = .ok (.aload 4, 2) := by decide +kernel
theorem dL_isMonth_345 : decode cL_isMonth 345 = .ok (.iload 8, 2) := by decide +kernel
theorem dL_isMonth_347 : decode cL_isMonth 347 = .ok (.iaload, 1) := by decide +kernel
theorem dL_isMonth_348 : decode cL_isMonth 348 = .ok (.ifCond .ne 7, 3) := by decide +kernel
theorem dL_isMonth_351 : decode cL_isMonth 351 = .ok (.iconst 1, 1) := by decide +kernel
theorem dL_isMonth_352 : decode cL_isMonth 352 = .ok (.goto 4, 3) := by decide +kernel
theorem dL_isMonth_355 : decode cL_isMonth 355 = .ok (.iconst 0, 1) := by decide +kernel
theorem dL_isMonth_356 : decode cL_isMonth 356 = .ok (.istore 10, 2) := by decide +kernel
theorem dL_isMonth_358 : decode cL_isMonth 358 = .ok (.iload 10, 2) := by decide +kernel
theorem dL_isMonth_360 : decode cL_isMonth 360 = .ok (.ifCond .ne 50, 3) := by decide +kernel
theorem dL_isMonth_363 : decode cL_isMonth 363 = .ok (.aload 5, 2) := by decide +kernel
theorem dL_isMonth_365 : decode cL_isMonth 365 = .ok (.iload 8, 2) := by decide +kernel
theorem dL_isMonth_367 : decode cL_isMonth 367 = .ok (.iaload, 1) := by decide +kernel
theorem dL_isMonth_368 : decode cL_isMonth 368 = .ok (.ifCond .lt 42, 3) := by decide +kernel
theorem dL_isMonth_371 : decode cL_isMonth 371 = .ok (.aload_n 3, 1) := by decide +kernel
theorem dL_isMonth_372 : decode cL_isMonth 372 = .ok (.iconst 0, 1) := by decide +kernel
theorem dL_isMonth_373 : decode cL_isMonth 373 = .ok (.iaload, 1) := by decide +kernel
theorem dL_isMonth_374 : decode cL_isMonth 374 = .ok (.ifCond .lt 36, 3) := by decide +kernel
theorem dL_isMonth_377 : decode cL_isMonth 377 = .ok (.aload_n 2, 1) := by decide +kernel
theorem dL_isMonth_378 : decode cL_isMonth 378 = .ok (.iload 8, 2) := by decide +kernel
theorem dL_isMonth_380 : decode cL_isMonth 380 = .ok (.iaload, 1) := by decide +kernel
theorem dL_isMonth_381 : decode cL_isMonth 381 = .ok (.iconst 3, 1) := by decide +kernel
theorem dL_isMonth_382 : decode cL_isMonth 382 = .ok (.if_icmp .ge 28, 3) := by decide +kernel
theorem dL_isMonth_385 : decode cL_isMonth 385 = .ok (.aload 5, 2) := by decide +kernel
theorem dL_isMonth_387 : decode cL_isMonth 387 = .ok (.iload 8, 2) := by decide +kernel
theorem dL_isMonth_389 : decode cL_isMonth 389 = .ok (.iaload, 1) := by decide +kernel
theorem dL_isMonth_390 : decode cL_isMonth 390 = .ok (.iconst 5, 1) := by decide +kernel
theorem dL_isMonth_391 : decode cL_isMonth 391 = .ok (.aload_n 2, 1) := by decide +kernel
theorem dL_isMonth_392 : decode cL_isMonth 392 = .ok (.iload 8, 2) := by decide +kernel
theorem dL_isMonth_394 : decode cL_isMonth 394 = .ok (.iaload, 1) := by decide +kernel
theorem dL_isMonth_395 : decode cL_isMonth 395 = .ok (.imul, 1) := by decide +kernel
theorem dL_isMonth_396 : decode cL_isMonth 396 = .ok (.iconst 5, 1) := by decide +kernel
theorem dL_isMonth_397 : decode cL_isMonth 397 = .ok (.iadd, 1) := by decide +kernel
theorem dL_isMonth_398 : decode cL_isMonth 398 = .ok (.if_icmp .lt 12, 3) := by decide +kernel
theorem dL_isMonth_401 : decode cL_isMonth 401 = .ok (.iload 9, 2) := by decide +kernel
theorem dL_isMonth_403 : decode cL_isMonth 403 = .ok (.ifCond .ne 7, 3) := by decide +kernel
theorem dL_isMonth_406 : decode cL_isMonth 406 = .ok (.iconst 1, 1) := by decide +kernel
theorem dL_isMonth_407 : decode cL_isMonth 407 = .ok (.goto 4, 3) := by decide +kernel
theorem dL_isMonth_410 : decode cL_isMonth 410 = .ok (.iconst 0, 1) := by decide +kernel
theorem dL_isMonth_411 : decode cL_isMonth 411 = .ok (.istore 11, 2) := by decide +kernel
theorem dL_isMonth_413 : decode cL_isMonth 413 = .ok (.aload_n 2, 1) := by decide +kernel
theorem dL_isMonth_414 : decode cL_isMonth 414 = .ok (.iload 8, 2) := by decide +kernel
theorem dL_isMonth_416 : decode cL_isMonth 416 = .ok (.dup2, 1) := by decide +kernel
theorem dL_isMonth_417 : decode cL_isMonth 417 = .ok (.iaload, 1) := by decide +kernel
theorem dL_isMonth_418 : decode cL_isMonth 418 = .ok (.iload 10, 2) := by decide +kernel
theorem dL_isMonth_420 : decode cL_isMonth 420 = .ok (.ifCond .eq 7, 3) := by decide +kernel
theorem dL_isMonth_423 : decode cL_isMonth 423 = .ok (.iconst (-1), 1) := by decide +kernel
theorem dL_isMonth_424 : decode cL_isMonth 424 = .ok (.goto 13, 3) := by decide +kernel
theorem dL_isMonth_427 : decode cL_isMonth 427 = .ok (.iload 11, 2) := by decide +kernel
theorem dL_isMonth_429 : decode cL_isMonth 429 = .ok (.ifCond .eq 7, 3) := by decide +kernel
theorem dL_isMonth_432 : decode cL_isMonth 432 = .ok (.iconst 1, 1) := by decide +kernel
theorem dL_isMonth_433 : decode cL_isMonth 433 = .ok (.goto 4, 3) := by decide +kernel
theorem dL_isMonth_436 : decode cL_isMonth 436 = .ok (.iconst 0, 1) := by decide +kernel
theorem dL_isMonth_437 : decode cL_isMonth 437 = .ok (.iadd, 1) := by decide +kernel
theorem dL_isMonth_438 : decode cL_isMonth 438 = .ok (.iastore, 1) := by decide +kernel
theorem dL_isMonth_439 : decode cL_isMonth 439 = .ok (.aload_n 0, 1) := by decide +kernel
theorem dL_isMonth_440 : decode cL_isMonth 440 = .ok (.iload 8, 2) := by decide +kernel
theorem dL_isMonth_442 : decode cL_isMonth 442 = .ok (.invokevirtual 43, 3) := by decide +kernel
theorem dL_isMonth_445 : decode cL_isMonth 445 = .ok (.aload_n 2, 1) := by decide +kernel
theorem dL_isMonth_446 : decode cL_isMonth 446 = .ok (.iload 8, 2) := by decide +kernel
theorem dL_isMonth_448 : decode cL_isMonth 448 = .ok (.iaload, 1) := by decide +kernel
theorem dL_isMonth_449 : decode cL_isMonth 449 = .ok (.if_icmp .ne 7, 3) := by decide +kernel
theorem dL_isMonth_452 : decode cL_isMonth 452 = .ok (.iconst 1, 1) := by decide +kernel
theorem dL_isMonth_453 : decode cL_isMonth 453 = .ok (.goto 4, 3) := by decide +kernel
theorem dL_isMonth_456 : decode cL_isMonth 456 = .ok (.iconst 0, 1) := by decide +kernel
theorem dL_isMonth_457 : decode cL_isMonth 457 = .ok (.istore 7, 2) := by decide +kernel
theorem dL_isMonth_459 : decode cL_isMonth 459 = .ok (.iinc 8 1, 3) := by decide +kernel
theorem dL_isMonth_462 : decode cL_isMonth 462 = .ok (.goto (-216), 3) := by decide +kernel
theorem dL_isMonth_465 : decode cL_isMonth 465 = .ok (.iload 7, 2) := by decide +kernel
theorem dL_isMonth_467 : decode cL_isMonth 467 = .ok (.ireturn, 1) := by decide +kernel
theorem dL_costOf_0 : decode cL_costOf 0 = .ok (.iload_n 0, 1) := by decide +kernel
theorem dL_costOf_1 : decode cL_costOf 1 = .ok (.iconst 1, 1) := by decide +kernel
theorem dL_costOf_2 : decode cL_costOf 2 = .ok (.if_icmp .ne 8, 3) := by decide +kernel
theorem dL_costOf_5 : decode cL_costOf 5 = .ok (.bipush 10, 2) := by decide +kernel
theorem dL_costOf_7 : decode cL_costOf 7 = .ok (.goto 37, 3) := by decide +kernel
theorem dL_costOf_10 : decode cL_costOf 10 = .ok (.iload_n 0, 1) := by decide +kernel
theorem dL_costOf_11 : decode cL_costOf 11 = .ok (.iconst 4, 1) := by decide +kernel
theorem dL_costOf_12 : decode cL_costOf 12 = .ok (.if_icmp .ge 8, 3) := by decide +kernel
theorem dL_costOf_15 : decode cL_costOf 15 = .ok (.bipush 20, 2) := by decide +kernel
theorem dL_costOf_17 : decode cL_costOf 17 = .ok (.goto 27, 3) := by decide +kernel
theorem dL_costOf_20 : decode cL_costOf 20 = .ok (.iload_n 0, 1) := by decide +kernel
theorem dL_costOf_21 : decode cL_costOf 21 = .ok (.iconst 4, 1) := by decide +kernel
theorem dL_costOf_22 : decode cL_costOf 22 = .ok (.if_icmp .ne 8, 3) := by decide +kernel
theorem dL_costOf_25 : decode cL_costOf 25 = .ok (.bipush 30, 2) := by decide +kernel
theorem dL_costOf_27 : decode cL_costOf 27 = .ok (.goto 17, 3) := by decide +kernel
theorem dL_costOf_30 : decode cL_costOf 30 = .ok (.iload_n 0, 1) := by decide +kernel
theorem dL_costOf_31 : decode cL_costOf 31 = .ok (.iconst 5, 1) := by decide +kernel
theorem dL_costOf_32 : decode cL_costOf 32 = .ok (.if_icmp .ne 9, 3) := by decide +kernel
theorem dL_costOf_35 : decode cL_costOf 35 = .ok (.sipush 200, 3) := by decide +kernel
theorem dL_costOf_38 : decode cL_costOf 38 = .ok (.goto 6, 3) := by decide +kernel
theorem dL_costOf_41 : decode cL_costOf 41 = .ok (.sipush 150, 3) := by decide +kernel
theorem dL_costOf_44 : decode cL_costOf 44 = .ok (.ireturn, 1) := by decide +kernel
set_option maxRecDepth 20000 in
theorem ggL_isMoney_L_does : GoodIn wsL_isMoney wsL_does := goodIn_ca (goodIn_ca (goodIn_ca (goodIn_r _ [6, 7, 8, 9, 10, 1, 2, 11, 12, 13, 14, 15, 16, 17, 18, 19, 20, 21, 22, 23, 24, 25, 26, 27, 28, 29, 30, 31, 32, 33, 34, 35, 36, 37, 38, 39, 40, 41, 42, 43, 44, 45, 46, 47, 48, 49, 50, 51, 52, 53, 54, 55, 56, 57, 58, 59, 60, 61, 62, 63, 64, 65, 66, 67, 68, 69, 70, 71, 72, 73, 74, 75, 76, 77, 78, 79, 80, 81, 82, 83, 84, 85, 86, 87, 88, 89, 90, 91, 92, 93, 94, 95, 96, 97, 98, 99, 100, 101, 102, 103, 104, 105, 106, 107, 108, 109, 110, 111, 112, 113, 114, 115, 116, 117, 118, 119, 120, 121, 122, 123, 124, 125, 126, 127, 128, 129, 130, 131, 132, 133, 134, 135, 136, 137, 138, 139, 140, 141, 142, 143, 144, 145, 146, 147, 148, 149, 150, 151, 152, 153, 154, 155, 156, 157, 158, 159, 160, 161, 162, 163, 164, 165, 166, 167, 168, 169, 170, 171, 172, 173, 174, 175, 176, 177, 178, 179, 180, 181, 182, 183, 184, 185, 186, 187, 188, 189, 190, 191, 192, 193, 194, 195, 196, 197, 198, 199, 200, 201, 202, 203, 204, 205, 206, 207, 208, 209, 210, 211, 212, 213, 214, 215, 216, 217, 218, 219, 220, 221, 222, 223, 224, 225, 226, 227, 228, 229, 230, 231, 232, 233, 234, 235, 236, 237, 238, 239, 240, 241, 242, 243, 244, 245, 246, 247, 248, 249, 250, 251, 252, 253, 254, 255, 256, 257, 258, 259, 260, 261, 262, 263, 264, 265, 266, 267, 268, 269, 270, 271, 272, 273, 274, 275, 276, 277, 278, 279, 280, 281, 282, 283, 284, 285, 286, 287, 288, 289, 290, 291, 292, 293, 294, 295, 296, 297, 298, 299, 300, 301, 302, 303, 304, 305, 306, 307, 308, 309, 310, 311, 312, 313, 314, 315, 316, 317, 318, 319, 320, 321, 322, 323, 324, 325, 326, 327, 328, 329, 330, 331, 332, 333] (by decide +kernel) (by decide +kernel)) (goodIn_sub (fun _ h => List.mem_cons_of_mem _ (List.mem_append_left _ (List.mem_append_left _ (List.mem_append_right _ h)))) (by decide +kernel))) (goodIn_sub (fun _ h => List.mem_cons_of_mem _ (List.mem_append_left _ (List.mem_append_right _ h))) (by decide +kernel))) (goodIn_sub (fun _ h => List.mem_cons_of_mem _ (List.mem_append_right _ h)) (by decide +kernel))
set_option maxRecDepth 20000 in
theorem gL_isMoney_L_does : GoodIn wsL_isMoney (va_wsS RL 113 yL_does wsL_does) := goodIn_app (goodIn_of _ (by decide +kernel)) ggL_isMoney_L_does
theorem dL_isMoney_0 : decode cL_isMoney 0 = .ok (.iload_n 2, 1) := by decide +kernel
theorem dL_isMoney_1 : decode cL_isMoney 1 = .ok (.iconst 2, 1) := by decide +kernel
theorem dL_isMoney_2 : decode cL_isMoney 2 = .ok (.if_icmp .ne 115, 3) := by decide +kernel
theorem dL_isMoney_5 : decode cL_isMoney 5 = .ok (.iload_n 3, 1) := by decide +kernel
theorem dL_isMoney_6 : decode cL_isMoney 6 = .ok (.iconst 2, 1) := by decide +kernel
theorem dL_isMoney_7 : decode cL_isMoney 7 = .ok (.irem, 1) := by decide +kernel
theorem dL_isMoney_8 : decode cL_isMoney 8 = .ok (.iconst 1, 1) := by decide +kernel
theorem dL_isMoney_9 : decode cL_isMoney 9 = .ok (.if_icmp .ne 7, 3) := by decide +kernel
theorem dL_isMoney_12 : decode cL_isMoney 12 = .ok (.iconst 1, 1) := by decide +kernel
theorem dL_isMoney_13 : decode cL_isMoney 13 = .ok (.goto 4, 3) := by decide +kernel
theorem dL_isMoney_16 : decode cL_isMoney 16 = .ok (.iconst 0, 1) := by decide +kernel
theorem dL_isMoney_17 : decode cL_isMoney 17 = .ok (.istore 4, 2) := by decide +kernel
theorem dL_isMoney_19 : decode cL_isMoney 19 = .ok (.iload_n 3, 1) := by decide +kernel
theorem dL_isMoney_20 : decode cL_isMoney 20 = .ok (.iconst 2, 1) := by decide +kernel
theorem dL_isMoney_21 : decode cL_isMoney 21 = .ok (.idiv, 1) := by decide +kernel
theorem dL_isMoney_22 : decode cL_isMoney 22 = .ok (.bipush 22, 2) := by decide +kernel
theorem dL_isMoney_24 : decode cL_isMoney 24 = .ok (.irem, 1) := by decide +kernel
theorem dL_isMoney_25 : decode cL_isMoney 25 = .ok (.istore 5, 2) := by decide +kernel
theorem dL_isMoney_27 : decode cL_isMoney 27 = .ok (.iload 5, 2) := by decide +kernel
theorem dL_isMoney_29 : decode cL_isMoney 29 = .ok (.bipush 21, 2) := by decide +kernel
theorem dL_isMoney_31 : decode cL_isMoney 31 = .ok (.if_icmp .ne 8, 3) := by decide +kernel
theorem dL_isMoney_34 : decode cL_isMoney 34 = .ok (.ldc 36, 2) := by decide +kernel
theorem dL_isMoney_36 : decode cL_isMoney 36 = .ok (.goto 15, 3) := by decide +kernel
theorem dL_isMoney_39 : decode cL_isMoney 39 = .ok (.aload_n 1, 1) := by decide +kernel
theorem dL_isMoney_40 : decode cL_isMoney 40 = .ok (.iload 4, 2) := by decide +kernel
theorem dL_isMoney_42 : decode cL_isMoney 42 = .ok (.ifCond .eq 7, 3) := by decide +kernel
theorem dL_isMoney_45 : decode cL_isMoney 45 = .ok (.iconst 4, 1) := by decide +kernel
theorem dL_isMoney_46 : decode cL_isMoney 46 = .ok (.goto 4, 3) := by decide +kernel
theorem dL_isMoney_49 : decode cL_isMoney 49 = .ok (.iconst 3, 1) := by decide +kernel
theorem dL_isMoney_50 : decode cL_isMoney 50 = .ok (.iaload, 1) := by decide +kernel
theorem dL_isMoney_51 : decode cL_isMoney 51 = .ok (.istore 6, 2) := by decide +kernel
theorem dL_isMoney_53 : decode cL_isMoney 53 = .ok (.aload_n 1, 1) := by decide +kernel
theorem dL_isMoney_54 : decode cL_isMoney 54 = .ok (.iload 4, 2) := by decide +kernel
theorem dL_isMoney_56 : decode cL_isMoney 56 = .ok (.ifCond .eq 7, 3) := by decide +kernel
theorem dL_isMoney_59 : decode cL_isMoney 59 = .ok (.iconst 4, 1) := by decide +kernel
theorem dL_isMoney_60 : decode cL_isMoney 60 = .ok (.goto 4, 3) := by decide +kernel
theorem dL_isMoney_63 : decode cL_isMoney 63 = .ok (.iconst 3, 1) := by decide +kernel
theorem dL_isMoney_64 : decode cL_isMoney 64 = .ok (.iload 5, 2) := by decide +kernel
theorem dL_isMoney_66 : decode cL_isMoney 66 = .ok (.bipush 21, 2) := by decide +kernel
theorem dL_isMoney_68 : decode cL_isMoney 68 = .ok (.if_icmp .ne 18, 3) := by decide +kernel
theorem dL_isMoney_71 : decode cL_isMoney 71 = .ok (.aload_n 1, 1) := by decide +kernel
theorem dL_isMoney_72 : decode cL_isMoney 72 = .ok (.iload 4, 2) := by decide +kernel
theorem dL_isMoney_74 : decode cL_isMoney 74 = .ok (.ifCond .eq 7, 3) := by decide +kernel
theorem dL_isMoney_77 : decode cL_isMoney 77 = .ok (.iconst 4, 1) := by decide +kernel
theorem dL_isMoney_78 : decode cL_isMoney 78 = .ok (.goto 4, 3) := by decide +kernel
theorem dL_isMoney_81 : decode cL_isMoney 81 = .ok (.iconst 3, 1) := by decide +kernel
theorem dL_isMoney_82 : decode cL_isMoney 82 = .ok (.iaload, 1) := by decide +kernel
theorem dL_isMoney_83 : decode cL_isMoney 83 = .ok (.goto 5, 3) := by decide +kernel
theorem dL_isMoney_86 : decode cL_isMoney 86 = .ok (.iload 5, 2) := by decide +kernel
theorem dL_isMoney_88 : decode cL_isMoney 88 = .ok (.iastore, 1) := by decide +kernel
theorem dL_isMoney_89 : decode cL_isMoney 89 = .ok (.aload_n 0, 1) := by decide +kernel
theorem dL_isMoney_90 : decode cL_isMoney 90 = .ok (.iconst 2, 1) := by decide +kernel
theorem dL_isMoney_91 : decode cL_isMoney 91 = .ok (.iload 5, 2) := by decide +kernel
theorem dL_isMoney_93 : decode cL_isMoney 93 = .ok (.iload 4, 2) := by decide +kernel
theorem dL_isMoney_95 : decode cL_isMoney 95 = .ok (.ifCond .eq 7, 3) := by decide +kernel
theorem dL_isMoney_98 : decode cL_isMoney 98 = .ok (.iconst 1, 1) := by decide +kernel
theorem dL_isMoney_99 : decode cL_isMoney 99 = .ok (.goto 4, 3) := by decide +kernel
theorem dL_isMoney_102 : decode cL_isMoney 102 = .ok (.iconst 0, 1) := by decide +kernel
theorem dL_isMoney_103 : decode cL_isMoney 103 = .ok (.invokestatic 113, 3) := by decide +kernel
theorem dL_isMoney_106 : decode cL_isMoney 106 = .ok (.iload 6, 2) := by decide +kernel
theorem dL_isMoney_108 : decode cL_isMoney 108 = .ok (.if_icmp .ne 7, 3) := by decide +kernel
theorem dL_isMoney_111 : decode cL_isMoney 111 = .ok (.iconst 1, 1) := by decide +kernel
theorem dL_isMoney_112 : decode cL_isMoney 112 = .ok (.goto 4, 3) := by decide +kernel
theorem dL_isMoney_115 : decode cL_isMoney 115 = .ok (.iconst 0, 1) := by decide +kernel
theorem dL_isMoney_116 : decode cL_isMoney 116 = .ok (.ireturn, 1) := by decide +kernel
theorem dL_isMoney_117 : decode cL_isMoney 117 = .ok (.iload_n 2, 1) := by decide +kernel
theorem dL_isMoney_118 : decode cL_isMoney 118 = .ok (.iconst 3, 1) := by decide +kernel
theorem dL_isMoney_119 : decode cL_isMoney 119 = .ok (.if_icmp .ne 93, 3) := by decide +kernel
theorem dL_isMoney_122 : decode cL_isMoney 122 = .ok (.iload_n 3, 1) := by decide +kernel
theorem dL_isMoney_123 : decode cL_isMoney 123 = .ok (.iconst 1, 1) := by decide +kernel
theorem dL_isMoney_124 : decode cL_isMoney 124 = .ok (.if_icmp .lt 10, 3) := by decide +kernel
theorem dL_isMoney_127 : decode cL_isMoney 127 = .ok (.iload_n 3, 1) := by decide +kernel
theorem dL_isMoney_128 : decode cL_isMoney 128 = .ok (.sipush 1000, 3) := by decide +kernel
theorem dL_isMoney_131 : decode cL_isMoney 131 = .ok (.if_icmp .le 8, 3) := by decide +kernel
theorem dL_isMoney_134 : decode cL_isMoney 134 = .ok (.ldc 36, 2) := by decide +kernel
theorem dL_isMoney_136 : decode cL_isMoney 136 = .ok (.goto 24, 3) := by decide +kernel
theorem dL_isMoney_139 : decode cL_isMoney 139 = .ok (.aload_n 1, 1) := by decide +kernel
theorem dL_isMoney_140 : decode cL_isMoney 140 = .ok (.iconst 1, 1) := by decide +kernel
theorem dL_isMoney_141 : decode cL_isMoney 141 = .ok (.iaload, 1) := by decide +kernel
theorem dL_isMoney_142 : decode cL_isMoney 142 = .ok (.iload_n 3, 1) := by decide +kernel
theorem dL_isMoney_143 : decode cL_isMoney 143 = .ok (.iadd, 1) := by decide +kernel
theorem dL_isMoney_144 : decode cL_isMoney 144 = .ok (.sipush 5000, 3) := by decide +kernel
theorem dL_isMoney_147 : decode cL_isMoney 147 = .ok (.if_icmp .le 8, 3) := by decide +kernel
theorem dL_isMoney_150 : decode cL_isMoney 150 = .ok (.ldc 39, 2) := by decide +kernel
theorem dL_isMoney_152 : decode cL_isMoney 152 = .ok (.goto 8, 3) := by decide +kernel
theorem dL_isMoney_155 : decode cL_isMoney 155 = .ok (.aload_n 1, 1) := by decide +kernel
theorem dL_isMoney_156 : decode cL_isMoney 156 = .ok (.iconst 1, 1) := by decide +kernel
theorem dL_isMoney_157 : decode cL_isMoney 157 = .ok (.iaload, 1) := by decide +kernel
theorem dL_isMoney_158 : decode cL_isMoney 158 = .ok (.iload_n 3, 1) := by decide +kernel
theorem dL_isMoney_159 : decode cL_isMoney 159 = .ok (.iadd, 1) := by decide +kernel
theorem dL_isMoney_160 : decode cL_isMoney 160 = .ok (.istore 4, 2) := by decide +kernel
theorem dL_isMoney_162 : decode cL_isMoney 162 = .ok (.aload_n 1, 1) := by decide +kernel
theorem dL_isMoney_163 : decode cL_isMoney 163 = .ok (.iconst 0, 1) := by decide +kernel
theorem dL_isMoney_164 : decode cL_isMoney 164 = .ok (.dup2, 1) := by decide +kernel
theorem dL_isMoney_165 : decode cL_isMoney 165 = .ok (.iaload, 1) := by decide +kernel
theorem dL_isMoney_166 : decode cL_isMoney 166 = .ok (.iload 4, 2) := by decide +kernel
theorem dL_isMoney_168 : decode cL_isMoney 168 = .ok (.ifCond .le 7, 3) := by decide +kernel
theorem dL_isMoney_171 : decode cL_isMoney 171 = .ok (.iload_n 3, 1) := by decide +kernel
theorem dL_isMoney_172 : decode cL_isMoney 172 = .ok (.goto 4, 3) := by decide +kernel
theorem dL_isMoney_175 : decode cL_isMoney 175 = .ok (.iconst 0, 1) := by decide +kernel
theorem dL_isMoney_176 : decode cL_isMoney 176 = .ok (.iadd, 1) := by decide +kernel
theorem dL_isMoney_177 : decode cL_isMoney 177 = .ok (.iastore, 1) := by decide +kernel
theorem dL_isMoney_178 : decode cL_isMoney 178 = .ok (.aload_n 1, 1) := by decide +kernel
theorem dL_isMoney_179 : decode cL_isMoney 179 = .ok (.iconst 1, 1) := by decide +kernel
theorem dL_isMoney_180 : decode cL_isMoney 180 = .ok (.dup2, 1) := by decide +kernel
theorem dL_isMoney_181 : decode cL_isMoney 181 = .ok (.iaload, 1) := by decide +kernel
theorem dL_isMoney_182 : decode cL_isMoney 182 = .ok (.iload 4, 2) := by decide +kernel
theorem dL_isMoney_184 : decode cL_isMoney 184 = .ok (.ifCond .le 7, 3) := by decide +kernel
theorem dL_isMoney_187 : decode cL_isMoney 187 = .ok (.iload_n 3, 1) := by decide +kernel
theorem dL_isMoney_188 : decode cL_isMoney 188 = .ok (.goto 4, 3) := by decide +kernel
theorem dL_isMoney_191 : decode cL_isMoney 191 = .ok (.iconst 0, 1) := by decide +kernel
theorem dL_isMoney_192 : decode cL_isMoney 192 = .ok (.iadd, 1) := by decide +kernel
theorem dL_isMoney_193 : decode cL_isMoney 193 = .ok (.iastore, 1) := by decide +kernel
theorem dL_isMoney_194 : decode cL_isMoney 194 = .ok (.aload_n 0, 1) := by decide +kernel
theorem dL_isMoney_195 : decode cL_isMoney 195 = .ok (.iconst 3, 1) := by decide +kernel
theorem dL_isMoney_196 : decode cL_isMoney 196 = .ok (.iload_n 3, 1) := by decide +kernel
theorem dL_isMoney_197 : decode cL_isMoney 197 = .ok (.iconst 0, 1) := by decide +kernel
theorem dL_isMoney_198 : decode cL_isMoney 198 = .ok (.invokestatic 113, 3) := by decide +kernel
theorem dL_isMoney_201 : decode cL_isMoney 201 = .ok (.iload 4, 2) := by decide +kernel
theorem dL_isMoney_203 : decode cL_isMoney 203 = .ok (.if_icmp .ne 7, 3) := by decide +kernel
theorem dL_isMoney_206 : decode cL_isMoney 206 = .ok (.iconst 1, 1) := by decide +kernel
theorem dL_isMoney_207 : decode cL_isMoney 207 = .ok (.goto 4, 3) := by decide +kernel
theorem dL_isMoney_210 : decode cL_isMoney 210 = .ok (.iconst 0, 1) := by decide +kernel
theorem dL_isMoney_211 : decode cL_isMoney 211 = .ok (.ireturn, 1) := by decide +kernel
theorem dL_isMoney_212 : decode cL_isMoney 212 = .ok (.iload_n 3, 1) := by decide +kernel
theorem dL_isMoney_213 : decode cL_isMoney 213 = .ok (.ifCond .le 14, 3) := by decide +kernel
theorem dL_isMoney_216 : decode cL_isMoney 216 = .ok (.iload_n 3, 1) := by decide +kernel
theorem dL_isMoney_217 : decode cL_isMoney 217 = .ok (.sipush 5000, 3) := by decide +kernel
theorem dL_isMoney_220 : decode cL_isMoney 220 = .ok (.if_icmp .gt 7, 3) := by decide +kernel
theorem dL_isMoney_223 : decode cL_isMoney 223 = .ok (.iconst 1, 1) := by decide +kernel
theorem dL_isMoney_224 : decode cL_isMoney 224 = .ok (.goto 4, 3) := by decide +kernel
theorem dL_isMoney_227 : decode cL_isMoney 227 = .ok (.iconst 0, 1) := by decide +kernel
