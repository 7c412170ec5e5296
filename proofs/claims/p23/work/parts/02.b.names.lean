theorem zInP {big ws : List Cond} (ps : List Nat) (hp : ws = ps.filterMap (fun i => big[i]?)) : ∀ w ∈ ws, w ∈ big := by
  intro w hw
  rw [hp] at hw
  obtain ⟨i, -, hi⟩ := List.mem_filterMap.mp hw
  exact List.mem_of_getElem? hi
set_option maxRecDepth 20000 in
theorem in_wsL_law0_r1 : ∀ w ∈ wsL_law0_r1, w ∈ lw_tbl := zInP [50, 51, 25, 77, 560, 561, 52, 53, 54, 55, 56, 57, 58, 59, 26, 179, 85, 86, 29, 180, 109, 110, 30, 181] (by decide +kernel)
set_option maxRecDepth 20000 in
theorem in_wsL_law0_r2 : ∀ w ∈ wsL_law0_r2, w ∈ lw_tbl := zInP [127, 128, 31, 182, 157, 158, 32, 183, 61, 62, 63, 64, 65, 27, 78, 79, 66, 67, 68, 69, 73, 70, 71, 28] (by decide +kernel)
set_option maxRecDepth 20000 in
theorem in_wsL_law0_r3 : ∀ w ∈ wsL_law0_r3, w ∈ lw_tbl := zInP [72, 88, 89, 90, 91, 93, 94, 95, 96, 97, 92, 112, 113, 114, 115, 117, 118, 119, 116, 130, 131, 132, 133, 135] (by decide +kernel)
set_option maxRecDepth 20000 in
theorem in_wsL_law0_r4 : ∀ w ∈ wsL_law0_r4, w ∈ lw_tbl := zInP [136, 137, 138, 139, 140, 141, 134, 160, 161, 162, 163, 164, 165, 166, 167, 563, 564, 24, 565, 566, 567, 568, 569, 330] (by decide +kernel)
set_option maxRecDepth 20000 in
theorem in_wsL_law0_r5 : ∀ w ∈ wsL_law0_r5, w ∈ lw_tbl := zInP [331, 332, 333, 570, 571, 572, 573, 476, 477, 478, 479, 574, 575, 576, 577, 578, 579, 580, 581, 582, 583, 584, 202, 585] (by decide +kernel)
set_option maxRecDepth 20000 in
theorem in_wsL_law0_r6 : ∀ w ∈ wsL_law0_r6, w ∈ lw_tbl := zInP [586, 587, 588, 209, 210, 211, 212, 36, 299, 300, 301, 302, 303, 304, 305, 306, 589, 590, 591, 592, 522, 399, 400, 401] (by decide +kernel)
set_option maxRecDepth 20000 in
theorem in_wsL_law0_r7 : ∀ w ∈ wsL_law0_r7, w ∈ lw_tbl := zInP [593, 594, 595, 596, 597, 598, 599, 600, 602, 604, 23, 605, 606, 607, 38, 608, 609, 610, 611, 612, 37, 613, 614, 615] (by decide +kernel)
set_option maxRecDepth 20000 in
theorem in_wsL_law0_r8 : ∀ w ∈ wsL_law0_r8, w ∈ lw_tbl := zInP [279, 624, 625, 617, 618, 40, 619, 620, 621, 622, 623, 637, 638, 639, 640, 641, 961, 636, 642, 643, 627, 644, 962, 0] (by decide +kernel)
set_option maxRecDepth 20000 in
theorem in_wsL_law0_r9 : ∀ w ∈ wsL_law0_r9, w ∈ lw_tbl := zInP [646, 647, 648, 963, 1, 650, 651, 660, 652, 653, 41, 654, 655, 403, 42, 404, 656, 657, 658, 659, 661, 662, 663, 664] (by decide +kernel)
set_option maxRecDepth 20000 in
theorem in_wsL_law0_r10 : ∀ w ∈ wsL_law0_r10, w ∈ lw_tbl := zInP [665, 666, 667, 668, 670, 671, 440, 441, 672, 674, 673, 43, 675, 677, 678, 676, 679, 680, 681, 44, 682, 683, 964, 2] (by decide +kernel)
