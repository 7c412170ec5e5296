set_option maxRecDepth 20000 in
theorem iw_wsL_does_r7 : ∀ w ∈ wsL_does_r7, w ∈ lw_tbl := zInP [411, 412, 413, 31, 414, 135, 137, 141, 136, 138, 139, 140, 415, 416, 417, 418, 419, 420, 421, 422, 423, 424, 425, 427] (by decide +kernel)
set_option maxRecDepth 20000 in
theorem iw_wsL_does_r8 : ∀ w ∈ wsL_does_r8, w ∈ lw_tbl := zInP [13, 428, 429, 430, 431, 433, 14, 434, 439, 440, 441, 435, 436, 437, 438, 442, 444, 15, 445, 446, 447, 448, 449, 450] (by decide +kernel)
set_option maxRecDepth 20000 in
theorem iw_wsL_does_r9 : ∀ w ∈ wsL_does_r9, w ∈ lw_tbl := zInP [451, 453, 16, 454, 455, 456, 457, 458, 459, 460, 461, 462, 464, 465, 466, 467, 468, 469, 470, 471, 166, 165, 472, 473] (by decide +kernel)
set_option maxRecDepth 20000 in
theorem iw_wsL_does_r10 : ∀ w ∈ wsL_does_r10, w ∈ lw_tbl := zInP [474, 475, 476, 477, 478, 479, 164, 481, 482, 483, 484, 485, 486, 487, 488, 490, 491, 492, 493, 494, 496, 17, 497, 498] (by decide +kernel)
set_option maxRecDepth 20000 in
theorem iw_wsL_does_r11 : ∀ w ∈ wsL_does_r11, w ∈ lw_tbl := zInP [499, 500, 501, 502, 504, 18, 505, 506, 507, 508, 509, 510, 511, 512, 167, 513, 515, 19, 516, 517, 518, 520, 20, 521] (by decide +kernel)
set_option maxRecDepth 20000 in
theorem iw_wsL_does_r12 : ∀ w ∈ wsL_does_r12, w ∈ lw_tbl := zInP [522, 523, 524, 525, 526, 527, 529, 21, 530, 531, 532, 533, 534, 535, 536, 538, 22, 539, 555, 540, 541, 542, 543, 545] (by decide +kernel)
set_option maxRecDepth 20000 in
theorem iw_wsL_does_r13 : ∀ w ∈ wsL_does_r13, w ∈ lw_tbl := zInP [546, 547, 548, 549, 550, 551, 552, 553, 554, 556, 557, 558, 559] (by decide +kernel)
theorem iw_wsL_does : ∀ w ∈ wsL_does, w ∈ lw_tbl := fun w h => (List.mem_cons.mp h).elim (fun e => e ▸ iw_wsL_does_0) ((fun w h => (List.mem_append.mp h).elim ((fun w h => (List.mem_append.mp h).elim ((fun w h => (List.mem_append.mp h).elim ((fun w h => (List.mem_append.mp h).elim ((fun w h => (List.mem_append.mp h).elim ((fun w h => (List.mem_append.mp h).elim ((fun w h => (List.mem_append.mp h).elim ((fun w h => (List.mem_append.mp h).elim ((fun w h => (List.mem_append.mp h).elim ((fun w h => (List.mem_append.mp h).elim ((fun w h => (List.mem_append.mp h).elim (iw_wsL_does_r1 w) ((fun w h => (List.mem_append.mp h).elim (iw_wsL_does_r2 w) ((fun w h => (List.mem_append.mp h).elim (iw_wsL_does_r3 w) ((fun w h => (List.mem_append.mp h).elim (iw_wsL_does_r4 w) ((fun w h => (List.mem_append.mp h).elim (iw_wsL_does_r5 w) ((fun w h => (List.mem_append.mp h).elim (iw_wsL_does_r6 w) ((fun w h => (List.mem_append.mp h).elim (iw_wsL_does_r7 w) ((fun w h => (List.mem_append.mp h).elim (iw_wsL_does_r8 w) ((fun w h => (List.mem_append.mp h).elim (iw_wsL_does_r9 w) ((fun w h => (List.mem_append.mp h).elim (iw_wsL_does_r10 w) ((fun w h => (List.mem_append.mp h).elim (iw_wsL_does_r11 w) ((fun w h => (List.mem_append.mp h).elim (iw_wsL_does_r12 w) (iw_wsL_does_r13 w)) w)) w)) w)) w)) w)) w)) w)) w)) w)) w)) w)) w) (in_wsX60 w)) w) (in_wsX00 w)) w) (in_wsX40 w)) w) (in_wsX20 w)) w) (in_wsX30 w)) w) (in_wsX50 w)) w) (in_wsX10 w)) w) (wsL_law_x1 w)) w) (wsL_law_x0 w)) w) (wsL_law_x2 w)) w)
set_option maxRecDepth 20000 in
theorem iw_wsL_part_0 : Cond.code yL_part cL_part 4 (some .int) ∈ lw_tbl := List.mem_of_getElem? (i := 197) (by decide +kernel)
set_option maxRecDepth 20000 in
theorem iw_wsL_part_l46 : ∀ w ∈ ([.constant RL 7 (2147483647)] : List Cond), w ∈ lw_tbl := zInP [198] (by decide +kernel)
theorem iw_wsL_part : ∀ w ∈ wsL_part, w ∈ lw_tbl := fun w h => (List.mem_cons.mp h).elim (fun e => e ▸ iw_wsL_part_0) (iw_wsL_part_l46 w)
set_option maxRecDepth 20000 in
theorem iw_wsL_costOf_0 : Cond.code yL_costOf cL_costOf 1 (some .int) ∈ lw_tbl := List.mem_of_getElem? (i := 953) (by decide +kernel)
theorem iw_wsL_costOf : ∀ w ∈ wsL_costOf, w ∈ lw_tbl := fun w h => (List.mem_cons.mp h).elim (fun e => e ▸ iw_wsL_costOf_0) ((fun _ h => absurd h List.not_mem_nil) w)
set_option maxRecDepth 20000 in
theorem iw_wsX6_cash_0 : Cond.code yX6_cash cX6_cash 1 (some .int) ∈ lw_tbl := List.mem_of_getElem? (i := 569) (by decide +kernel)
set_option maxRecDepth 20000 in
theorem iw_wsX6_cash_l51 : ∀ w ∈ ([.fieldLink RX6 40 "MillbrookBorough" "ledger" "LMillbrookBorough$Ledger;", .methodLink RX6 79 yX2_cashNow, .instanceMethod yX2_cashNow, .selects RX2 yX2_cashNow yX2_cashNow, .initialized RX2, .code yX2_cashNow cX2_cashNow 1 (some .int), .fieldLink RX2 7 "MillbrookBorough$Ledger" "cash" "I"] : List Cond), w ∈ lw_tbl := zInP [183, 330, 331, 332, 32, 333, 163] (by decide +kernel)
theorem iw_wsX6_cash : ∀ w ∈ wsX6_cash, w ∈ lw_tbl := fun w h => (List.mem_cons.mp h).elim (fun e => e ▸ iw_wsX6_cash_0) ((fun w h => (List.mem_append.mp h).elim ((fun w h => (List.mem_append.mp h).elim (iw_wsX6_cash_l51 w) (in_wsX60 w)) w) (in_wsX20 w)) w)
set_option maxRecDepth 20000 in
theorem iw_wsX6_debt_0 : Cond.code yX6_debt cX6_debt 1 (some .int) ∈ lw_tbl := List.mem_of_getElem? (i := 573) (by decide +kernel)
set_option maxRecDepth 20000 in
theorem iw_wsX6_debt_l54 : ∀ w ∈ ([.fieldLink RX6 40 "MillbrookBorough" "ledger" "LMillbrookBorough$Ledger;", .methodLink RX6 89 yX2_debtNow, .instanceMethod yX2_debtNow, .selects RX2 yX2_debtNow yX2_debtNow, .initialized RX2, .code yX2_debtNow cX2_debtNow 1 (some .int), .fieldLink RX2 13 "MillbrookBorough$Ledger" "debt" "I"] : List Cond), w ∈ lw_tbl := zInP [183, 476, 477, 478, 32, 479, 164] (by decide +kernel)
theorem iw_wsX6_debt : ∀ w ∈ wsX6_debt, w ∈ lw_tbl := fun w h => (List.mem_cons.mp h).elim (fun e => e ▸ iw_wsX6_debt_0) ((fun w h => (List.mem_append.mp h).elim ((fun w h => (List.mem_append.mp h).elim (iw_wsX6_debt_l54 w) (in_wsX60 w)) w) (in_wsX20 w)) w)
set_option maxRecDepth 20000 in
theorem iw_wsX6_earned_0 : Cond.code yX6_earned cX6_earned 1 (some .int) ∈ lw_tbl := List.mem_of_getElem? (i := 577) (by decide +kernel)
set_option maxRecDepth 20000 in
theorem iw_wsX6_earned_l57 : ∀ w ∈ ([.fieldLink RX6 40 "MillbrookBorough" "ledger" "LMillbrookBorough$Ledger;", .methodLink RX6 102 yX2_earnedNow, .instanceMethod yX2_earnedNow, .selects RX2 yX2_earnedNow yX2_earnedNow, .initialized RX2, .code yX2_earnedNow cX2_earnedNow 1 (some .int), .fieldLink RX2 22 "MillbrookBorough$Ledger" "earned" "I"] : List Cond), w ∈ lw_tbl := zInP [183, 578, 579, 580, 32, 581, 167] (by decide +kernel)
theorem iw_wsX6_earned : ∀ w ∈ wsX6_earned, w ∈ lw_tbl := fun w h => (List.mem_cons.mp h).elim (fun e => e ▸ iw_wsX6_earned_0) ((fun w h => (List.mem_append.mp h).elim ((fun w h => (List.mem_append.mp h).elim (iw_wsX6_earned_l57 w) (in_wsX60 w)) w) (in_wsX20 w)) w)
set_option maxRecDepth 20000 in
theorem ggL_law_X6_init : GoodIn wsL_law wsX6_init := goodIn_r _ [8, 9, 10, 11, 12, 13, 14, 15, 16, 17, 18, 19, 20, 21, 22, 23, 24, 25, 26, 27, 28, 29, 30, 31, 32, 33, 34, 35, 36, 37, 38, 39, 40, 41, 42, 43, 3, 44, 45, 46, 47, 48, 49, 50, 51, 52, 53, 54, 55, 56, 57, 58, 59, 60, 61, 62, 63, 64, 65, 66, 67, 68, 69, 70, 71, 72, 73, 74, 75, 76, 77, 78, 79, 80, 81, 82, 83, 84, 85, 86, 706, 707, 701, 702, 703, 704, 705, 708, 709, 710, 711, 712, 713, 714, 715, 716, 717, 718, 719, 720, 721, 722, 723, 724, 725, 726, 727, 728] (by decide +kernel) (by decide +kernel)
theorem iw_wsL_isText : ∀ w ∈ wsL_isText, w ∈ lw_tbl := fun w h => iw_wsL_isCell w (ggL_isCell_L_isText w h).1
theorem iw_wsL_asks : ∀ w ∈ wsL_asks, w ∈ lw_tbl := fun w h => iw_wsL_isText w (ggL_isText_L_asks w h).1
theorem iw_wsX6_placed : ∀ w ∈ wsX6_placed, w ∈ lw_tbl := fun w h => iw_wsL_isCell w (ggL_isCell_X6_placed w h).1
theorem iw_wsX6_isServed : ∀ w ∈ wsX6_isServed, w ∈ lw_tbl := fun w h => iw_wsL_isCell w (ggL_isCell_X6_isServed w h).1
theorem iw_wsX6_value : ∀ w ∈ wsX6_value, w ∈ lw_tbl := fun w h => iw_wsL_isCell w (ggL_isCell_X6_value w h).1
theorem iw_wsX6_level : ∀ w ∈ wsX6_level, w ∈ lw_tbl := fun w h => iw_wsL_isCell w (ggL_isCell_X6_level w h).1
def wsB_isTown : List Cond := .code yL_isTown cL_isTown 7 (some .boolean) :: (([Cond.constant RL 33 (-3000000), Cond.constant RL 36 (-2000000), Cond.constant RL 39 (-1000000), .arrayClass .int] : List Cond) ++ (wsV RL 93 RX6 yX6_cash wsX6_cash ++ (wsV RL 97 RX6 yX6_debt wsX6_debt ++ (wsV RL 100 RX6 yX6_earned wsX6_earned ++ (va_wsS RL 81 yL_asks wsL_asks ++ (va_wsS RL 103 yL_isCell wsL_isCell ++ (va_wsS RL 106 yL_isNet wsL_isNet ++ (va_wsS RL 110 yL_isSupplied wsL_isSupplied))))))))
set_option maxRecDepth 20000 in
theorem ga_X6_cash : (wsV RL 93 RX6 yX6_cash wsX6_cash).all goodWord = true := by decide +kernel
set_option maxRecDepth 20000 in
theorem ih_X6_cash : ∀ w ∈ wsV RL 93 RX6 yX6_cash wsX6_cash, w ∈ lw_tbl := fun w h => (List.mem_append.mp h).elim (fun h => zInP [566, 567, 568, 25] (by decide +kernel) w h) (fun h => iw_wsX6_cash w h)
theorem gL_isTown_X6_cash : GoodIn wsB_isTown (wsV RL 93 RX6 yX6_cash wsX6_cash) := goodIn_sub (fun w h => List.mem_cons_of_mem _ (List.mem_append_right _ (List.mem_append_left _ h))) ga_X6_cash
set_option maxRecDepth 20000 in
theorem ga_X6_debt : (wsV RL 97 RX6 yX6_debt wsX6_debt).all goodWord = true := by decide +kernel
set_option maxRecDepth 20000 in
theorem ih_X6_debt : ∀ w ∈ wsV RL 97 RX6 yX6_debt wsX6_debt, w ∈ lw_tbl := fun w h => (List.mem_append.mp h).elim (fun h => zInP [570, 571, 572, 25] (by decide +kernel) w h) (fun h => iw_wsX6_debt w h)
theorem gL_isTown_X6_debt : GoodIn wsB_isTown (wsV RL 97 RX6 yX6_debt wsX6_debt) := goodIn_sub (fun w h => List.mem_cons_of_mem _ (List.mem_append_right _ (List.mem_append_right _ (List.mem_append_left _ h)))) ga_X6_debt
set_option maxRecDepth 20000 in
theorem ga_X6_earned : (wsV RL 100 RX6 yX6_earned wsX6_earned).all goodWord = true := by decide +kernel
set_option maxRecDepth 20000 in
theorem ih_X6_earned : ∀ w ∈ wsV RL 100 RX6 yX6_earned wsX6_earned, w ∈ lw_tbl := fun w h => (List.mem_append.mp h).elim (fun h => zInP [574, 575, 576, 25] (by decide +kernel) w h) (fun h => iw_wsX6_earned w h)
theorem gL_isTown_X6_earned : GoodIn wsB_isTown (wsV RL 100 RX6 yX6_earned wsX6_earned) := goodIn_sub (fun w h => List.mem_cons_of_mem _ (List.mem_append_right _ (List.mem_append_right _ (List.mem_append_right _ (List.mem_append_left _ h))))) ga_X6_earned
set_option maxRecDepth 20000 in
theorem ga_L_asks : (va_wsS RL 81 yL_asks wsL_asks).all goodWord = true := by decide +kernel
