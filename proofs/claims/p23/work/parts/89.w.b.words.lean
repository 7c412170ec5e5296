set_option maxRecDepth 20000 in
theorem iw_wsL_isCell_r15 : ∀ w ∈ wsL_isCell_r15, w ∈ lw_tbl := zInP [818, 819, 820, 821, 822, 823, 824, 873, 874, 875, 876, 877, 878, 879, 880, 881, 882, 883, 884, 885, 886, 887, 888, 889] (by decide +kernel)
set_option maxRecDepth 20000 in
theorem iw_wsL_isCell_r16 : ∀ w ∈ wsL_isCell_r16, w ∈ lw_tbl := zInP [890, 891, 892, 383, 384, 385, 94, 893, 894, 895, 896, 897, 436, 437, 438, 95, 898, 899, 900, 901, 181, 523, 524, 525] (by decide +kernel)
set_option maxRecDepth 20000 in
theorem iw_wsL_isCell_r17 : ∀ w ∈ wsL_isCell_r17, w ∈ lw_tbl := zInP [30, 526, 119, 409, 914, 915, 916, 917, 918, 919, 920, 921, 117] (by decide +kernel)
theorem iw_wsL_isCell : ∀ w ∈ wsL_isCell, w ∈ lw_tbl := fun w h => (List.mem_cons.mp h).elim (fun e => e ▸ iw_wsL_isCell_0) ((fun w h => (List.mem_append.mp h).elim ((fun w h => (List.mem_append.mp h).elim ((fun w h => (List.mem_append.mp h).elim ((fun w h => (List.mem_append.mp h).elim ((fun w h => (List.mem_append.mp h).elim ((fun w h => (List.mem_append.mp h).elim ((fun w h => (List.mem_append.mp h).elim ((fun w h => (List.mem_append.mp h).elim ((fun w h => (List.mem_append.mp h).elim ((fun w h => (List.mem_append.mp h).elim (iw_wsL_isCell_r1 w) ((fun w h => (List.mem_append.mp h).elim (iw_wsL_isCell_r2 w) ((fun w h => (List.mem_append.mp h).elim (iw_wsL_isCell_r3 w) ((fun w h => (List.mem_append.mp h).elim (iw_wsL_isCell_r4 w) ((fun w h => (List.mem_append.mp h).elim (iw_wsL_isCell_r5 w) ((fun w h => (List.mem_append.mp h).elim (iw_wsL_isCell_r6 w) ((fun w h => (List.mem_append.mp h).elim (iw_wsL_isCell_r7 w) ((fun w h => (List.mem_append.mp h).elim (iw_wsL_isCell_r8 w) ((fun w h => (List.mem_append.mp h).elim (iw_wsL_isCell_r9 w) ((fun w h => (List.mem_append.mp h).elim (iw_wsL_isCell_r10 w) ((fun w h => (List.mem_append.mp h).elim (iw_wsL_isCell_r11 w) ((fun w h => (List.mem_append.mp h).elim (iw_wsL_isCell_r12 w) ((fun w h => (List.mem_append.mp h).elim (iw_wsL_isCell_r13 w) ((fun w h => (List.mem_append.mp h).elim (iw_wsL_isCell_r14 w) ((fun w h => (List.mem_append.mp h).elim (iw_wsL_isCell_r15 w) ((fun w h => (List.mem_append.mp h).elim (iw_wsL_isCell_r16 w) (iw_wsL_isCell_r17 w)) w)) w)) w)) w)) w)) w)) w)) w)) w)) w)) w)) w)) w)) w)) w)) w) (in_wsX60 w)) w) (in_wsX10 w)) w) (in_wsX40 w)) w) (in_wsX00 w)) w) (in_wsX30 w)) w) (in_wsJ40 w)) w) (in_wsJ00 w)) w) (in_wsX50 w)) w) (wsL_law_x0 w)) w)
set_option maxRecDepth 20000 in
theorem iw_wsL_isNet_0 : Cond.code yL_isNet cL_isNet 11 (some .boolean) ∈ lw_tbl := List.mem_of_getElem? (i := 944) (by decide +kernel)
set_option maxRecDepth 20000 in
theorem iw_wsL_isNet_r1 : ∀ w ∈ wsL_isNet_r1, w ∈ lw_tbl := zInP [933, 934, 24, 935, 936, 937, 938, 888, 889, 890, 25, 891, 180, 209, 210, 211, 212, 36, 892, 383, 384, 29, 385, 93] (by decide +kernel)
set_option maxRecDepth 20000 in
theorem iw_wsL_isNet_r2 : ∀ w ∈ wsL_isNet_r2, w ∈ lw_tbl := zInP [94, 375, 304, 305, 27, 306, 73, 893, 894, 895, 896, 897, 436, 437, 438, 95, 914, 915, 916, 917, 181, 918, 919, 920] (by decide +kernel)
set_option maxRecDepth 20000 in
theorem iw_wsL_isNet_r3 : ∀ w ∈ wsL_isNet_r3, w ∈ lw_tbl := zInP [30, 921, 117, 409, 898, 899, 900, 901, 523, 524, 525, 526, 119] (by decide +kernel)
theorem iw_wsL_isNet : ∀ w ∈ wsL_isNet, w ∈ lw_tbl := fun w h => (List.mem_cons.mp h).elim (fun e => e ▸ iw_wsL_isNet_0) ((fun w h => (List.mem_append.mp h).elim ((fun w h => (List.mem_append.mp h).elim ((fun w h => (List.mem_append.mp h).elim ((fun w h => (List.mem_append.mp h).elim ((fun w h => (List.mem_append.mp h).elim ((fun w h => (List.mem_append.mp h).elim (iw_wsL_isNet_r1 w) ((fun w h => (List.mem_append.mp h).elim (iw_wsL_isNet_r2 w) (iw_wsL_isNet_r3 w)) w)) w) (in_wsX60 w)) w) (in_wsX30 w)) w) (in_wsX40 w)) w) (in_wsX50 w)) w) (wsL_law_x0 w)) w)
set_option maxRecDepth 20000 in
theorem iw_wsL_isSupplied_0 : Cond.code yL_isSupplied cL_isSupplied 11 (some .boolean) ∈ lw_tbl := List.mem_of_getElem? (i := 947) (by decide +kernel)
set_option maxRecDepth 20000 in
theorem iw_wsL_isSupplied_r1 : ∀ w ∈ wsL_isSupplied_r1, w ∈ lw_tbl := zInP [888, 889, 890, 25, 891, 180, 209, 210, 211, 212, 36, 892, 383, 384, 29, 385, 93, 94, 375, 304, 305, 27, 306, 73] (by decide +kernel)
set_option maxRecDepth 20000 in
theorem iw_wsL_isSupplied_r2 : ∀ w ∈ wsL_isSupplied_r2, w ∈ lw_tbl := zInP [898, 899, 900, 901, 181, 523, 524, 525, 30, 526, 119, 409, 914, 915, 916, 917, 918, 919, 920, 921, 117] (by decide +kernel)
theorem iw_wsL_isSupplied : ∀ w ∈ wsL_isSupplied, w ∈ lw_tbl := fun w h => (List.mem_cons.mp h).elim (fun e => e ▸ iw_wsL_isSupplied_0) ((fun w h => (List.mem_append.mp h).elim ((fun w h => (List.mem_append.mp h).elim ((fun w h => (List.mem_append.mp h).elim ((fun w h => (List.mem_append.mp h).elim ((fun w h => (List.mem_append.mp h).elim ((fun w h => (List.mem_append.mp h).elim (iw_wsL_isSupplied_r1 w) (iw_wsL_isSupplied_r2 w)) w) (in_wsX60 w)) w) (in_wsX30 w)) w) (in_wsX40 w)) w) (in_wsX50 w)) w) (wsL_law_x0 w)) w)
set_option maxRecDepth 20000 in
theorem iw_wsL_does_0 : Cond.codeWith yL_does cL_does 5 (some .int) [(0, 80, 81, 31), (0, 80, 86, 34), (0, 80, 91, 37)] ∈ lw_tbl := List.mem_of_getElem? (i := 201) (by decide +kernel)
set_option maxRecDepth 20000 in
theorem iw_wsL_does_r1 : ∀ w ∈ wsL_does_r1, w ∈ lw_tbl := zInP [202, 203, 204, 560, 561, 562, 205, 206, 207, 25, 208, 307, 49, 179, 183, 209, 210, 211, 212, 36, 280, 281, 282, 283] (by decide +kernel)
set_option maxRecDepth 20000 in
theorem iw_wsL_does_r2 : ∀ w ∈ wsL_does_r2, w ∈ lw_tbl := zInP [48, 299, 300, 301, 26, 302, 78, 303, 304, 305, 27, 306, 73, 323, 324, 325, 326, 328, 7, 329, 330, 331, 332, 32] (by decide +kernel)
set_option maxRecDepth 20000 in
theorem iw_wsL_does_r3 : ∀ w ∈ wsL_does_r3, w ∈ lw_tbl := zInP [333, 163, 335, 336, 337, 338, 339, 340, 341, 342, 79, 343, 344, 345, 346, 347, 349, 8, 350, 180, 181, 182, 351, 352] (by decide +kernel)
set_option maxRecDepth 20000 in
theorem iw_wsL_does_r4 : ∀ w ∈ wsL_does_r4, w ∈ lw_tbl := zInP [353, 29, 354, 94, 95, 97, 93, 355, 356, 357, 358, 70, 71, 28, 72, 359, 361, 9, 362, 363, 364, 365, 366, 368] (by decide +kernel)
set_option maxRecDepth 20000 in
theorem iw_wsL_does_r5 : ∀ w ∈ wsL_does_r5, w ∈ lw_tbl := zInP [369, 370, 371, 373, 10, 374, 96, 375, 376, 377, 378, 30, 379, 117, 118, 119, 402, 403, 42, 404, 380, 381, 382, 383] (by decide +kernel)
set_option maxRecDepth 20000 in
theorem iw_wsL_does_r6 : ∀ w ∈ wsL_does_r6, w ∈ lw_tbl := zInP [384, 385, 386, 388, 11, 389, 390, 391, 392, 393, 394, 395, 396, 397, 398, 399, 400, 401, 405, 407, 12, 408, 409, 410] (by decide +kernel)
