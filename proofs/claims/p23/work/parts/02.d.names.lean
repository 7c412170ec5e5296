set_option maxRecDepth 20000 in
theorem in_wsL_law0_r19 : ∀ w ∈ wsL_law0_r19, w ∈ lw_tbl := zInP [551, 552, 553, 554, 910, 911, 912, 913, 536, 538, 22, 539, 555, 540, 541, 542, 543, 545, 546, 547, 548, 549, 550, 448] (by decide +kernel)
set_option maxRecDepth 20000 in
theorem in_wsL_law0_r20 : ∀ w ∈ wsL_law0_r20, w ∈ lw_tbl := zInP [449, 450, 914, 915, 916, 917, 918, 919, 920, 921, 922, 923, 924, 925, 926, 927, 928, 929, 930, 931, 932, 933, 934, 935] (by decide +kernel)
set_option maxRecDepth 20000 in
theorem in_wsL_law0_r21 : ∀ w ∈ wsL_law0_r21, w ∈ lw_tbl := zInP [936, 937, 938, 939, 940, 941, 942, 943, 944, 945, 946, 947, 948, 949, 950, 562, 195, 196, 197, 198, 951, 952, 953, 199] (by decide +kernel)
set_option maxRecDepth 20000 in
theorem in_wsL_law0_r22 : ∀ w ∈ wsL_law0_r22, w ∈ lw_tbl := zInP [200, 201, 203, 204, 205, 206, 207, 208, 307, 49, 280, 281, 282, 283, 48, 323, 324, 325, 326, 328, 7, 329, 335, 336] (by decide +kernel)
set_option maxRecDepth 20000 in
theorem in_wsL_law0_r23 : ∀ w ∈ wsL_law0_r23, w ∈ lw_tbl := zInP [337, 338, 339, 340, 341, 342, 343, 344, 345, 346, 347, 349, 8, 350, 351, 352, 353, 354, 355, 356, 357, 358, 359, 361] (by decide +kernel)
set_option maxRecDepth 20000 in
theorem in_wsL_law0_r24 : ∀ w ∈ wsL_law0_r24, w ∈ lw_tbl := zInP [9, 362, 363, 364, 365, 366, 368, 369, 370, 371, 373, 10, 374, 376, 377, 378, 379, 402, 380, 381, 382, 386, 388, 11] (by decide +kernel)
set_option maxRecDepth 20000 in
theorem in_wsL_law0_r25 : ∀ w ∈ wsL_law0_r25, w ∈ lw_tbl := zInP [389, 390, 391, 392, 393, 394, 395, 396, 397, 398, 405, 407, 12, 408, 410, 411, 412, 413, 414, 415, 416, 417, 418, 419] (by decide +kernel)
