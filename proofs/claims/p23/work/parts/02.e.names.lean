set_option maxRecDepth 20000 in
theorem in_wsL_law0_r26 : ∀ w ∈ wsL_law0_r26, w ∈ lw_tbl := zInP [420, 421, 422, 423, 424, 425, 427, 13, 428, 429, 431, 433, 14, 434, 439, 435, 442, 444, 15, 445, 446, 447, 451, 453] (by decide +kernel)
set_option maxRecDepth 20000 in
theorem in_wsL_law0_r27 : ∀ w ∈ wsL_law0_r27, w ∈ lw_tbl := zInP [16, 454, 455, 456, 457, 458, 459, 460, 461, 462, 464, 465, 466, 467, 468, 469, 470, 471, 472, 473, 474, 475, 481, 482] (by decide +kernel)
set_option maxRecDepth 20000 in
theorem in_wsL_law0_r28 : ∀ w ∈ wsL_law0_r28, w ∈ lw_tbl := zInP [483, 484, 485, 486, 487, 488, 490, 491, 492, 493, 494, 496, 17, 497, 498, 499, 500, 501, 502, 504, 18, 505, 506, 507] (by decide +kernel)
set_option maxRecDepth 20000 in
theorem in_wsL_law0_r29 : ∀ w ∈ wsL_law0_r29, w ∈ lw_tbl := zInP [508, 509, 510, 511, 512, 513, 515, 19, 516, 517, 518, 520, 20, 521, 527, 529, 21, 530, 531, 556, 557, 558, 559, 954] (by decide +kernel)
set_option maxRecDepth 20000 in
theorem in_wsL_law0_r30 : ∀ w ∈ wsL_law0_r30, w ∈ lw_tbl := zInP [955, 956, 957, 958, 959] (by decide +kernel)
