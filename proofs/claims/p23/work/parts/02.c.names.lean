set_option maxRecDepth 20000 in
theorem in_wsL_law0_r11 : ∀ w ∈ wsL_law0_r11, w ∈ lw_tbl := zInP [685, 686, 687, 688, 689, 690, 691, 692, 693, 694, 695, 696, 697, 698, 699, 700, 39, 701, 702, 704, 705, 45, 706, 707] (by decide +kernel)
set_option maxRecDepth 20000 in
theorem in_wsL_law0_r12 : ∀ w ∈ wsL_law0_r12, w ∈ lw_tbl := zInP [708, 709, 710, 712, 714, 716, 717, 718, 719, 720, 721, 722, 723, 724, 725, 726, 727, 728, 729, 730, 731, 732, 965, 733] (by decide +kernel)
set_option maxRecDepth 20000 in
theorem in_wsL_law0_r13 : ∀ w ∈ wsL_law0_r13, w ∈ lw_tbl := zInP [734, 735, 736, 47, 737, 738, 739, 740, 741, 743, 745, 746, 747, 748, 749, 750, 751, 752, 753, 754, 755, 756, 757, 758] (by decide +kernel)
set_option maxRecDepth 20000 in
theorem in_wsL_law0_r14 : ∀ w ∈ wsL_law0_r14, w ∈ lw_tbl := zInP [759, 760, 761, 762, 763, 764, 765, 766, 767, 768, 769, 770, 771, 772, 773, 774, 857, 856, 825, 626, 775, 777, 778, 776] (by decide +kernel)
set_option maxRecDepth 20000 in
theorem in_wsL_law0_r15 : ∀ w ∈ wsL_law0_r15, w ∈ lw_tbl := zInP [779, 780, 782, 781, 783, 784, 785, 786, 781, 787, 788, 789, 790, 791, 792, 793, 794, 795, 796, 797, 799, 843, 844, 845] (by decide +kernel)
set_option maxRecDepth 20000 in
theorem in_wsL_law0_r16 : ∀ w ∈ wsL_law0_r16, w ∈ lw_tbl := zInP [846, 847, 848, 849, 850, 851, 852, 853, 854, 855, 871, 818, 819, 820, 821, 822, 823, 824, 873, 874, 875, 876, 877, 878] (by decide +kernel)
set_option maxRecDepth 20000 in
theorem in_wsL_law0_r17 : ∀ w ∈ wsL_law0_r17, w ∈ lw_tbl := zInP [879, 880, 881, 882, 883, 884, 885, 886, 887, 888, 889, 890, 891, 892, 383, 384, 385, 375, 893, 894, 895, 896, 897, 436] (by decide +kernel)
set_option maxRecDepth 20000 in
theorem in_wsL_law0_r18 : ∀ w ∈ wsL_law0_r18, w ∈ lw_tbl := zInP [437, 438, 898, 899, 900, 901, 523, 524, 525, 526, 409, 902, 903, 904, 905, 532, 533, 534, 535, 430, 906, 907, 908, 909] (by decide +kernel)
