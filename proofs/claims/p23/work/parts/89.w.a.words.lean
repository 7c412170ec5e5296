/-! WORDS: lists made of the callees' lists -/
theorem wk_in : ∀ w ∈ ([Cond.constant RL 33 (-3000000), Cond.constant RL 36 (-2000000), Cond.constant RL 39 (-1000000), .arrayClass .int] : List Cond), w ∈ lw_tbl := by decide +kernel
set_option maxRecDepth 20000 in
theorem iw_wsL_isCell_0 : Cond.code yL_isCell cL_isCell 8 (some .boolean) ∈ lw_tbl := List.mem_of_getElem? (i := 932) (by decide +kernel)
set_option maxRecDepth 20000 in
theorem iw_wsL_isCell_r1 : ∀ w ∈ wsL_isCell_r1, w ∈ lw_tbl := zInP [933, 934, 24, 935, 936, 937, 938, 906, 907, 908, 25, 909, 182, 209, 210, 211, 212, 36, 551, 552, 553, 31, 554, 137] (by decide +kernel)
set_option maxRecDepth 20000 in
theorem iw_wsL_isCell_r2 : ∀ w ∈ wsL_isCell_r2, w ∈ lw_tbl := zInP [430, 304, 305, 27, 306, 73, 922, 923, 924, 925, 926, 927, 928, 929, 141, 138, 139, 140, 902, 903, 904, 905, 532, 533] (by decide +kernel)
set_option maxRecDepth 20000 in
theorem iw_wsL_isCell_r3 : ∀ w ∈ wsL_isCell_r3, w ∈ lw_tbl := zInP [534, 535, 135, 585, 586, 587, 588, 179, 299, 300, 301, 26, 302, 78, 303, 589, 590, 591, 592, 522, 399, 400, 401, 79] (by decide +kernel)
set_option maxRecDepth 20000 in
theorem iw_wsL_isCell_r4 : ∀ w ∈ wsL_isCell_r4, w ∈ lw_tbl := zInP [910, 911, 912, 913, 536, 538, 22, 539, 180, 555, 403, 42, 404, 540, 541, 542, 543, 545, 546, 547, 548, 549, 550, 448] (by decide +kernel)
set_option maxRecDepth 20000 in
theorem iw_wsL_isCell_r5 : ∀ w ∈ wsL_isCell_r5, w ∈ lw_tbl := zInP [449, 29, 450, 93, 375, 939, 940, 941, 560, 582, 583, 584, 202, 593, 594, 595, 596, 597, 598, 599, 600, 602, 604, 23] (by decide +kernel)
set_option maxRecDepth 20000 in
theorem iw_wsL_isCell_r6 : ∀ w ∈ wsL_isCell_r6, w ∈ lw_tbl := zInP [605, 606, 607, 38, 608, 609, 610, 611, 612, 37, 613, 614, 56, 57, 615, 279, 624, 625, 617, 618, 40, 619, 620, 621] (by decide +kernel)
set_option maxRecDepth 20000 in
theorem iw_wsL_isCell_r7 : ∀ w ∈ wsL_isCell_r7, w ∈ lw_tbl := zInP [622, 623, 637, 638, 639, 640, 641, 961, 636, 642, 643, 627, 644, 962, 0, 646, 647, 648, 963, 1, 650, 651, 660, 652] (by decide +kernel)
set_option maxRecDepth 20000 in
theorem iw_wsL_isCell_r8 : ∀ w ∈ wsL_isCell_r8, w ∈ lw_tbl := zInP [653, 41, 654, 655, 656, 657, 658, 659, 661, 662, 28, 663, 664, 665, 666, 667, 668, 670, 671, 440, 441, 672, 674, 673] (by decide +kernel)
set_option maxRecDepth 20000 in
theorem iw_wsL_isCell_r9 : ∀ w ∈ wsL_isCell_r9, w ∈ lw_tbl := zInP [43, 675, 677, 678, 676, 679, 680, 681, 44, 682, 683, 964, 2, 685, 686, 687, 688, 689, 690, 691, 692, 693, 694, 695] (by decide +kernel)
set_option maxRecDepth 20000 in
theorem iw_wsL_isCell_r10 : ∀ w ∈ wsL_isCell_r10, w ∈ lw_tbl := zInP [696, 697, 698, 699, 700, 39, 701, 702, 704, 705, 45, 706, 707, 708, 709, 710, 712, 714, 716, 717, 718, 719, 720, 721] (by decide +kernel)
set_option maxRecDepth 20000 in
theorem iw_wsL_isCell_r11 : ∀ w ∈ wsL_isCell_r11, w ∈ lw_tbl := zInP [722, 723, 724, 725, 726, 727, 728, 729, 730, 731, 732, 965, 733, 734, 735, 736, 47, 737, 738, 739, 740, 741, 743, 745] (by decide +kernel)
set_option maxRecDepth 20000 in
theorem iw_wsL_isCell_r12 : ∀ w ∈ wsL_isCell_r12, w ∈ lw_tbl := zInP [746, 747, 748, 749, 750, 751, 752, 753, 754, 755, 756, 757, 758, 759, 760, 761, 762, 763, 764, 765, 766, 767, 768, 769] (by decide +kernel)
set_option maxRecDepth 20000 in
theorem iw_wsL_isCell_r13 : ∀ w ∈ wsL_isCell_r13, w ∈ lw_tbl := zInP [770, 771, 772, 773, 774, 857, 856, 825, 626, 775, 777, 778, 776, 779, 780, 782, 781, 783, 784, 785, 786, 781, 787, 788] (by decide +kernel)
set_option maxRecDepth 20000 in
theorem iw_wsL_isCell_r14 : ∀ w ∈ wsL_isCell_r14, w ∈ lw_tbl := zInP [789, 790, 791, 792, 793, 794, 795, 796, 797, 799, 843, 844, 845, 846, 847, 848, 849, 850, 851, 852, 853, 854, 855, 871] (by decide +kernel)
